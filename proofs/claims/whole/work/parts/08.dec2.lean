theorem dX11_init_0 : decode cX11_init 0 = .ok (.aload_n 0, 1) := by decide +kernel
theorem dX11_init_1 : decode cX11_init 1 = .ok (.invokespecial 3, 3) := by decide +kernel
theorem dX11_init_4 : decode cX11_init 4 = .ok (.aload_n 0, 1) := by decide +kernel
theorem dX11_init_5 : decode cX11_init 5 = .ok (.new 9, 3) := by decide +kernel
theorem dX11_init_8 : decode cX11_init 8 = .ok (.dup, 1) := by decide +kernel
theorem dX11_init_9 : decode cX11_init 9 = .ok (.invokespecial 11, 3) := by decide +kernel
theorem dX11_init_12 : decode cX11_init 12 = .ok (.putfield 12, 3) := by decide +kernel
theorem dX11_init_15 : decode cX11_init 15 = .ok (.aload_n 0, 1) := by decide +kernel
theorem dX11_init_16 : decode cX11_init 16 = .ok (.new 16, 3) := by decide +kernel
theorem dX11_init_19 : decode cX11_init 19 = .ok (.dup, 1) := by decide +kernel
theorem dX11_init_20 : decode cX11_init 20 = .ok (.invokespecial 18, 3) := by decide +kernel
theorem dX11_init_23 : decode cX11_init 23 = .ok (.putfield 19, 3) := by decide +kernel
theorem dX11_init_26 : decode cX11_init 26 = .ok (.aload_n 0, 1) := by decide +kernel
theorem dX11_init_27 : decode cX11_init 27 = .ok (.new 23, 3) := by decide +kernel
theorem dX11_init_30 : decode cX11_init 30 = .ok (.dup, 1) := by decide +kernel
theorem dX11_init_31 : decode cX11_init 31 = .ok (.invokespecial 25, 3) := by decide +kernel
theorem dX11_init_34 : decode cX11_init 34 = .ok (.putfield 26, 3) := by decide +kernel
theorem dX11_init_37 : decode cX11_init 37 = .ok (.aload_n 0, 1) := by decide +kernel
theorem dX11_init_38 : decode cX11_init 38 = .ok (.new 23, 3) := by decide +kernel
theorem dX11_init_41 : decode cX11_init 41 = .ok (.dup, 1) := by decide +kernel
theorem dX11_init_42 : decode cX11_init 42 = .ok (.invokespecial 25, 3) := by decide +kernel
theorem dX11_init_45 : decode cX11_init 45 = .ok (.putfield 30, 3) := by decide +kernel
theorem dX11_init_48 : decode cX11_init 48 = .ok (.aload_n 0, 1) := by decide +kernel
theorem dX11_init_49 : decode cX11_init 49 = .ok (.new 23, 3) := by decide +kernel
theorem dX11_init_52 : decode cX11_init 52 = .ok (.dup, 1) := by decide +kernel
theorem dX11_init_53 : decode cX11_init 53 = .ok (.invokespecial 25, 3) := by decide +kernel
theorem dX11_init_56 : decode cX11_init 56 = .ok (.putfield 33, 3) := by decide +kernel
theorem dX11_init_59 : decode cX11_init 59 = .ok (.aload_n 0, 1) := by decide +kernel
theorem dX11_init_60 : decode cX11_init 60 = .ok (.new 36, 3) := by decide +kernel
theorem dX11_init_63 : decode cX11_init 63 = .ok (.dup, 1) := by decide +kernel
theorem dX11_init_64 : decode cX11_init 64 = .ok (.invokespecial 38, 3) := by decide +kernel
theorem dX11_init_67 : decode cX11_init 67 = .ok (.putfield 39, 3) := by decide +kernel
theorem dX11_init_70 : decode cX11_init 70 = .ok (.aload_n 0, 1) := by decide +kernel
theorem dX11_init_71 : decode cX11_init 71 = .ok (.iconst 2, 1) := by decide +kernel
theorem dX11_init_72 : decode cX11_init 72 = .ok (.anewarray 23, 3) := by decide +kernel
theorem dX11_init_75 : decode cX11_init 75 = .ok (.putfield 43, 3) := by decide +kernel
theorem dX11_init_78 : decode cX11_init 78 = .ok (.aload_n 0, 1) := by decide +kernel
theorem dX11_init_79 : decode cX11_init 79 = .ok (.new 47, 3) := by decide +kernel
theorem dX11_init_82 : decode cX11_init 82 = .ok (.dup, 1) := by decide +kernel
theorem dX11_init_83 : decode cX11_init 83 = .ok (.invokespecial 49, 3) := by decide +kernel
theorem dX11_init_86 : decode cX11_init 86 = .ok (.putfield 50, 3) := by decide +kernel
theorem dX11_init_89 : decode cX11_init 89 = .ok (.aload_n 0, 1) := by decide +kernel
theorem dX11_init_90 : decode cX11_init 90 = .ok (.new 47, 3) := by decide +kernel
theorem dX11_init_93 : decode cX11_init 93 = .ok (.dup, 1) := by decide +kernel
theorem dX11_init_94 : decode cX11_init 94 = .ok (.invokespecial 49, 3) := by decide +kernel
theorem dX11_init_97 : decode cX11_init 97 = .ok (.putfield 54, 3) := by decide +kernel
theorem dX11_init_100 : decode cX11_init 100 = .ok (.aload_n 0, 1) := by decide +kernel
theorem dX11_init_101 : decode cX11_init 101 = .ok (.new 57, 3) := by decide +kernel
theorem dX11_init_104 : decode cX11_init 104 = .ok (.dup, 1) := by decide +kernel
theorem dX11_init_105 : decode cX11_init 105 = .ok (.aload_n 0, 1) := by decide +kernel
theorem dX11_init_106 : decode cX11_init 106 = .ok (.getfield 12, 3) := by decide +kernel
theorem dX11_init_109 : decode cX11_init 109 = .ok (.aload_n 0, 1) := by decide +kernel
theorem dX11_init_110 : decode cX11_init 110 = .ok (.getfield 54, 3) := by decide +kernel
theorem dX11_init_113 : decode cX11_init 113 = .ok (.invokespecial 59, 3) := by decide +kernel
theorem dX11_init_116 : decode cX11_init 116 = .ok (.putfield 62, 3) := by decide +kernel
theorem dX11_init_119 : decode cX11_init 119 = .ok (.aload_n 0, 1) := by decide +kernel
theorem dX11_init_120 : decode cX11_init 120 = .ok (.new 66, 3) := by decide +kernel
theorem dX11_init_123 : decode cX11_init 123 = .ok (.dup, 1) := by decide +kernel
theorem dX11_init_124 : decode cX11_init 124 = .ok (.invokespecial 68, 3) := by decide +kernel
theorem dX11_init_127 : decode cX11_init 127 = .ok (.putfield 69, 3) := by decide +kernel
theorem dX11_init_130 : decode cX11_init 130 = .ok (.aload_n 0, 1) := by decide +kernel
theorem dX11_init_131 : decode cX11_init 131 = .ok (.new 73, 3) := by decide +kernel
theorem dX11_init_134 : decode cX11_init 134 = .ok (.dup, 1) := by decide +kernel
theorem dX11_init_135 : decode cX11_init 135 = .ok (.invokespecial 75, 3) := by decide +kernel
theorem dX11_init_138 : decode cX11_init 138 = .ok (.putfield 76, 3) := by decide +kernel
theorem dX11_init_141 : decode cX11_init 141 = .ok (.aload_n 0, 1) := by decide +kernel
theorem dX11_init_142 : decode cX11_init 142 = .ok (.new 80, 3) := by decide +kernel
theorem dX11_init_145 : decode cX11_init 145 = .ok (.dup, 1) := by decide +kernel
theorem dX11_init_146 : decode cX11_init 146 = .ok (.invokespecial 82, 3) := by decide +kernel
theorem dX11_init_149 : decode cX11_init 149 = .ok (.putfield 83, 3) := by decide +kernel
theorem dX11_init_152 : decode cX11_init 152 = .ok (.aload_n 0, 1) := by decide +kernel
theorem dX11_init_153 : decode cX11_init 153 = .ok (.new 87, 3) := by decide +kernel
theorem dX11_init_156 : decode cX11_init 156 = .ok (.dup, 1) := by decide +kernel
theorem dX11_init_157 : decode cX11_init 157 = .ok (.aload_n 0, 1) := by decide +kernel
theorem dX11_init_158 : decode cX11_init 158 = .ok (.getfield 83, 3) := by decide +kernel
theorem dX11_init_161 : decode cX11_init 161 = .ok (.invokespecial 89, 3) := by decide +kernel
theorem dX11_init_164 : decode cX11_init 164 = .ok (.putfield 92, 3) := by decide +kernel
theorem dX11_init_167 : decode cX11_init 167 = .ok (.aload_n 0, 1) := by decide +kernel
theorem dX11_init_168 : decode cX11_init 168 = .ok (.new 96, 3) := by decide +kernel
theorem dX11_init_171 : decode cX11_init 171 = .ok (.dup, 1) := by decide +kernel
theorem dX11_init_172 : decode cX11_init 172 = .ok (.invokespecial 98, 3) := by decide +kernel
theorem dX11_init_175 : decode cX11_init 175 = .ok (.putfield 99, 3) := by decide +kernel
theorem dX11_init_178 : decode cX11_init 178 = .ok (.aload_n 0, 1) := by decide +kernel
theorem dX11_init_179 : decode cX11_init 179 = .ok (.sipush 201, 3) := by decide +kernel
theorem dX11_init_182 : decode cX11_init 182 = .ok (.newarray .boolean, 2) := by decide +kernel
theorem dX11_init_184 : decode cX11_init 184 = .ok (.putfield 103, 3) := by decide +kernel
theorem dX11_init_187 : decode cX11_init 187 = .ok (.return_, 1) := by decide +kernel
theorem dX11_sign_0 : decode cX11_sign 0 = .ok (.aload_n 0, 1) := by decide +kernel
theorem dX11_sign_1 : decode cX11_sign 1 = .ok (.getfield 12, 3) := by decide +kernel
theorem dX11_sign_4 : decode cX11_sign 4 = .ok (.invokevirtual 107, 3) := by decide +kernel
theorem dX11_sign_7 : decode cX11_sign 7 = .ok (.iconst 4, 1) := by decide +kernel
theorem dX11_sign_8 : decode cX11_sign 8 = .ok (.iadd, 1) := by decide +kernel
theorem dX11_sign_9 : decode cX11_sign 9 = .ok (.bipush 80, 2) := by decide +kernel
theorem dX11_sign_11 : decode cX11_sign 11 = .ok (.if_icmp .le 5, 3) := by decide +kernel
theorem dX11_sign_14 : decode cX11_sign 14 = .ok (.iconst (-1), 1) := by decide +kernel
theorem dX11_sign_15 : decode cX11_sign 15 = .ok (.ireturn, 1) := by decide +kernel
theorem dX11_sign_16 : decode cX11_sign 16 = .ok (.bipush 24, 2) := by decide +kernel
theorem dX11_sign_18 : decode cX11_sign 18 = .ok (.istore_n 2, 1) := by decide +kernel
theorem dX11_sign_19 : decode cX11_sign 19 = .ok (.iload_n 2, 1) := by decide +kernel
theorem dX11_sign_20 : decode cX11_sign 20 = .ok (.ifCond .lt 23, 3) := by decide +kernel
theorem dX11_sign_23 : decode cX11_sign 23 = .ok (.aload_n 0, 1) := by decide +kernel
theorem dX11_sign_24 : decode cX11_sign 24 = .ok (.getfield 12, 3) := by decide +kernel
theorem dX11_sign_27 : decode cX11_sign 27 = .ok (.iload_n 1, 1) := by decide +kernel
theorem dX11_sign_28 : decode cX11_sign 28 = .ok (.iload_n 2, 1) := by decide +kernel
theorem dX11_sign_29 : decode cX11_sign 29 = .ok (.iushr, 1) := by decide +kernel
theorem dX11_sign_30 : decode cX11_sign 30 = .ok (.sipush 255, 3) := by decide +kernel
theorem dX11_sign_33 : decode cX11_sign 33 = .ok (.iand, 1) := by decide +kernel
theorem dX11_sign_34 : decode cX11_sign 34 = .ok (.invokevirtual 111, 3) := by decide +kernel
theorem dX11_sign_37 : decode cX11_sign 37 = .ok (.iinc 2 (-8), 3) := by decide +kernel
theorem dX11_sign_40 : decode cX11_sign 40 = .ok (.goto (-21), 3) := by decide +kernel
theorem dX11_sign_43 : decode cX11_sign 43 = .ok (.aload_n 0, 1) := by decide +kernel
theorem dX11_sign_44 : decode cX11_sign 44 = .ok (.getfield 12, 3) := by decide +kernel
theorem dX11_sign_47 : decode cX11_sign 47 = .ok (.invokevirtual 107, 3) := by decide +kernel
theorem dX11_sign_50 : decode cX11_sign 50 = .ok (.ireturn, 1) := by decide +kernel
theorem dX11_end_0 : decode cX11_end 0 = .ok (.aload_n 0, 1) := by decide +kernel
theorem dX11_end_1 : decode cX11_end 1 = .ok (.getfield 12, 3) := by decide +kernel
theorem dX11_end_4 : decode cX11_end 4 = .ok (.iload_n 1, 1) := by decide +kernel
theorem dX11_end_5 : decode cX11_end 5 = .ok (.invokevirtual 115, 3) := by decide +kernel
theorem dX11_end_8 : decode cX11_end 8 = .ok (.ireturn, 1) := by decide +kernel
theorem dX11_parties_0 : decode cX11_parties 0 = .ok (.aload_n 0, 1) := by decide +kernel
theorem dX11_parties_1 : decode cX11_parties 1 = .ok (.invokevirtual 119, 3) := by decide +kernel
theorem dX11_parties_4 : decode cX11_parties 4 = .ok (.istore_n 1, 1) := by decide +kernel
theorem dX11_parties_5 : decode cX11_parties 5 = .ok (.iconst 0, 1) := by decide +kernel
theorem dX11_parties_6 : decode cX11_parties 6 = .ok (.istore_n 2, 1) := by decide +kernel
theorem dX11_parties_7 : decode cX11_parties 7 = .ok (.iload_n 1, 1) := by decide +kernel
theorem dX11_parties_8 : decode cX11_parties 8 = .ok (.iconst (-1), 1) := by decide +kernel
theorem dX11_parties_9 : decode cX11_parties 9 = .ok (.if_icmp .ne 19, 3) := by decide +kernel
theorem dX11_parties_12 : decode cX11_parties 12 = .ok (.aload_n 0, 1) := by decide +kernel
theorem dX11_parties_13 : decode cX11_parties 13 = .ok (.invokevirtual 122, 3) := by decide +kernel
theorem dX11_parties_16 : decode cX11_parties 16 = .ok (.istore_n 2, 1) := by decide +kernel
theorem dX11_parties_17 : decode cX11_parties 17 = .ok (.iload_n 2, 1) := by decide +kernel
theorem dX11_parties_18 : decode cX11_parties 18 = .ok (.ifCond .le 10, 3) := by decide +kernel
theorem dX11_parties_21 : decode cX11_parties 21 = .ok (.aload_n 0, 1) := by decide +kernel
theorem dX11_parties_22 : decode cX11_parties 22 = .ok (.getfield 39, 3) := by decide +kernel
theorem dX11_parties_25 : decode cX11_parties 25 = .ok (.invokevirtual 125, 3) := by decide +kernel
theorem dX11_parties_28 : decode cX11_parties 28 = .ok (.aload_n 0, 1) := by decide +kernel
theorem dX11_parties_29 : decode cX11_parties 29 = .ok (.getfield 12, 3) := by decide +kernel
theorem dX11_parties_32 : decode cX11_parties 32 = .ok (.invokevirtual 128, 3) := by decide +kernel
theorem dX11_parties_35 : decode cX11_parties 35 = .ok (.iload_n 1, 1) := by decide +kernel
theorem dX11_parties_36 : decode cX11_parties 36 = .ok (.iconst (-1), 1) := by decide +kernel
theorem dX11_parties_37 : decode cX11_parties 37 = .ok (.if_icmp .ne 7, 3) := by decide +kernel
theorem dX11_parties_40 : decode cX11_parties 40 = .ok (.iload_n 2, 1) := by decide +kernel
theorem dX11_parties_41 : decode cX11_parties 41 = .ok (.goto 6, 3) := by decide +kernel
theorem dX11_parties_44 : decode cX11_parties 44 = .ok (.iconst (-1), 1) := by decide +kernel
theorem dX11_parties_45 : decode cX11_parties 45 = .ok (.iload_n 1, 1) := by decide +kernel
theorem dX11_parties_46 : decode cX11_parties 46 = .ok (.isub, 1) := by decide +kernel
theorem dX11_parties_47 : decode cX11_parties 47 = .ok (.ireturn, 1) := by decide +kernel
theorem dX11_firstBadOfParties_0 : decode cX11_firstBadOfParties 0 = .ok (.iconst 0, 1) := by decide +kernel
theorem dX11_firstBadOfParties_1 : decode cX11_firstBadOfParties 1 = .ok (.istore_n 1, 1) := by decide +kernel
theorem dX11_firstBadOfParties_2 : decode cX11_firstBadOfParties 2 = .ok (.iconst 5, 1) := by decide +kernel
theorem dX11_firstBadOfParties_3 : decode cX11_firstBadOfParties 3 = .ok (.aload_n 0, 1) := by decide +kernel
theorem dX11_firstBadOfParties_4 : decode cX11_firstBadOfParties 4 = .ok (.getfield 26, 3) := by decide +kernel
theorem dX11_firstBadOfParties_7 : decode cX11_firstBadOfParties 7 = .ok (.iconst 0, 1) := by decide +kernel
theorem dX11_firstBadOfParties_8 : decode cX11_firstBadOfParties 8 = .ok (.invokevirtual 131, 3) := by decide +kernel
theorem dX11_firstBadOfParties_11 : decode cX11_firstBadOfParties 11 = .ok (.isub, 1) := by decide +kernel
theorem dX11_firstBadOfParties_12 : decode cX11_firstBadOfParties 12 = .ok (.istore_n 2, 1) := by decide +kernel
theorem dX11_firstBadOfParties_13 : decode cX11_firstBadOfParties 13 = .ok (.iconst 0, 1) := by decide +kernel
theorem dX11_firstBadOfParties_14 : decode cX11_firstBadOfParties 14 = .ok (.istore_n 3, 1) := by decide +kernel
theorem dX11_firstBadOfParties_15 : decode cX11_firstBadOfParties 15 = .ok (.iload_n 3, 1) := by decide +kernel
theorem dX11_firstBadOfParties_16 : decode cX11_firstBadOfParties 16 = .ok (.aload_n 0, 1) := by decide +kernel
theorem dX11_firstBadOfParties_17 : decode cX11_firstBadOfParties 17 = .ok (.getfield 12, 3) := by decide +kernel
theorem dX11_firstBadOfParties_20 : decode cX11_firstBadOfParties 20 = .ok (.invokevirtual 107, 3) := by decide +kernel
theorem dX11_firstBadOfParties_23 : decode cX11_firstBadOfParties 23 = .ok (.if_icmp .ge 69, 3) := by decide +kernel
theorem dX11_firstBadOfParties_26 : decode cX11_firstBadOfParties 26 = .ok (.aload_n 0, 1) := by decide +kernel
theorem dX11_firstBadOfParties_27 : decode cX11_firstBadOfParties 27 = .ok (.getfield 12, 3) := by decide +kernel
theorem dX11_firstBadOfParties_30 : decode cX11_firstBadOfParties 30 = .ok (.iload_n 3, 1) := by decide +kernel
theorem dX11_firstBadOfParties_31 : decode cX11_firstBadOfParties 31 = .ok (.invokevirtual 135, 3) := by decide +kernel
theorem dX11_firstBadOfParties_34 : decode cX11_firstBadOfParties 34 = .ok (.istore 4, 2) := by decide +kernel
theorem dX11_firstBadOfParties_36 : decode cX11_firstBadOfParties 36 = .ok (.iload 4, 2) := by decide +kernel
theorem dX11_firstBadOfParties_38 : decode cX11_firstBadOfParties 38 = .ok (.bipush 47, 2) := by decide +kernel
theorem dX11_firstBadOfParties_40 : decode cX11_firstBadOfParties 40 = .ok (.if_icmp .ne 23, 3) := by decide +kernel
theorem dX11_firstBadOfParties_43 : decode cX11_firstBadOfParties 43 = .ok (.iload_n 1, 1) := by decide +kernel
theorem dX11_firstBadOfParties_44 : decode cX11_firstBadOfParties 44 = .ok (.ifCond .ne 19, 3) := by decide +kernel
theorem dX11_firstBadOfParties_47 : decode cX11_firstBadOfParties 47 = .ok (.iconst 1, 1) := by decide +kernel
theorem dX11_firstBadOfParties_48 : decode cX11_firstBadOfParties 48 = .ok (.istore_n 1, 1) := by decide +kernel
theorem dX11_firstBadOfParties_49 : decode cX11_firstBadOfParties 49 = .ok (.iconst 5, 1) := by decide +kernel
theorem dX11_firstBadOfParties_50 : decode cX11_firstBadOfParties 50 = .ok (.aload_n 0, 1) := by decide +kernel
theorem dX11_firstBadOfParties_51 : decode cX11_firstBadOfParties 51 = .ok (.getfield 26, 3) := by decide +kernel
theorem dX11_firstBadOfParties_54 : decode cX11_firstBadOfParties 54 = .ok (.iconst 1, 1) := by decide +kernel
theorem dX11_firstBadOfParties_55 : decode cX11_firstBadOfParties 55 = .ok (.invokevirtual 131, 3) := by decide +kernel
theorem dX11_firstBadOfParties_58 : decode cX11_firstBadOfParties 58 = .ok (.isub, 1) := by decide +kernel
theorem dX11_firstBadOfParties_59 : decode cX11_firstBadOfParties 59 = .ok (.istore_n 2, 1) := by decide +kernel
theorem dX11_firstBadOfParties_60 : decode cX11_firstBadOfParties 60 = .ok (.goto 26, 3) := by decide +kernel
theorem dX11_firstBadOfParties_63 : decode cX11_firstBadOfParties 63 = .ok (.iload 4, 2) := by decide +kernel
theorem dX11_firstBadOfParties_65 : decode cX11_firstBadOfParties 65 = .ok (.bipush 49, 2) := by decide +kernel
theorem dX11_firstBadOfParties_67 : decode cX11_firstBadOfParties 67 = .ok (.if_icmp .lt 14, 3) := by decide +kernel
theorem dX11_firstBadOfParties_70 : decode cX11_firstBadOfParties 70 = .ok (.iload 4, 2) := by decide +kernel
theorem dX11_firstBadOfParties_72 : decode cX11_firstBadOfParties 72 = .ok (.bipush 57, 2) := by decide +kernel
theorem dX11_firstBadOfParties_74 : decode cX11_firstBadOfParties 74 = .ok (.if_icmp .gt 7, 3) := by decide +kernel
theorem dX11_firstBadOfParties_77 : decode cX11_firstBadOfParties 77 = .ok (.iload_n 2, 1) := by decide +kernel
theorem dX11_firstBadOfParties_78 : decode cX11_firstBadOfParties 78 = .ok (.ifCond .ne 5, 3) := by decide +kernel
theorem dX11_firstBadOfParties_81 : decode cX11_firstBadOfParties 81 = .ok (.iload_n 3, 1) := by decide +kernel
theorem dX11_firstBadOfParties_82 : decode cX11_firstBadOfParties 82 = .ok (.ireturn, 1) := by decide +kernel
theorem dX11_firstBadOfParties_83 : decode cX11_firstBadOfParties 83 = .ok (.iinc 2 (-1), 3) := by decide +kernel
theorem dX11_firstBadOfParties_86 : decode cX11_firstBadOfParties 86 = .ok (.iinc 3 1, 3) := by decide +kernel
theorem dX11_firstBadOfParties_89 : decode cX11_firstBadOfParties 89 = .ok (.goto (-74), 3) := by decide +kernel
theorem dX11_firstBadOfParties_92 : decode cX11_firstBadOfParties 92 = .ok (.aload_n 0, 1) := by decide +kernel
theorem dX11_firstBadOfParties_93 : decode cX11_firstBadOfParties 93 = .ok (.getfield 12, 3) := by decide +kernel
theorem dX11_firstBadOfParties_96 : decode cX11_firstBadOfParties 96 = .ok (.aload_n 0, 1) := by decide +kernel
theorem dX11_firstBadOfParties_97 : decode cX11_firstBadOfParties 97 = .ok (.getfield 12, 3) := by decide +kernel
theorem dX11_firstBadOfParties_100 : decode cX11_firstBadOfParties 100 = .ok (.invokevirtual 107, 3) := by decide +kernel
theorem dX11_firstBadOfParties_103 : decode cX11_firstBadOfParties 103 = .ok (.iconst 1, 1) := by decide +kernel
theorem dX11_firstBadOfParties_104 : decode cX11_firstBadOfParties 104 = .ok (.isub, 1) := by decide +kernel
theorem dX11_firstBadOfParties_105 : decode cX11_firstBadOfParties 105 = .ok (.invokevirtual 135, 3) := by decide +kernel
theorem dX11_firstBadOfParties_108 : decode cX11_firstBadOfParties 108 = .ok (.bipush 47, 2) := by decide +kernel
theorem dX11_firstBadOfParties_110 : decode cX11_firstBadOfParties 110 = .ok (.if_icmp .ne 7, 3) := by decide +kernel
theorem dX11_firstBadOfParties_113 : decode cX11_firstBadOfParties 113 = .ok (.iconst 1, 1) := by decide +kernel
theorem dX11_firstBadOfParties_114 : decode cX11_firstBadOfParties 114 = .ok (.goto 4, 3) := by decide +kernel
theorem dX11_firstBadOfParties_117 : decode cX11_firstBadOfParties 117 = .ok (.iconst 0, 1) := by decide +kernel
theorem dX11_firstBadOfParties_118 : decode cX11_firstBadOfParties 118 = .ok (.istore_n 3, 1) := by decide +kernel
theorem dX11_firstBadOfParties_119 : decode cX11_firstBadOfParties 119 = .ok (.iload_n 3, 1) := by decide +kernel
theorem dX11_firstBadOfParties_120 : decode cX11_firstBadOfParties 120 = .ok (.ifCond .eq 13, 3) := by decide +kernel
theorem dX11_firstBadOfParties_123 : decode cX11_firstBadOfParties 123 = .ok (.aload_n 0, 1) := by decide +kernel
theorem dX11_firstBadOfParties_124 : decode cX11_firstBadOfParties 124 = .ok (.getfield 12, 3) := by decide +kernel
theorem dX11_firstBadOfParties_127 : decode cX11_firstBadOfParties 127 = .ok (.invokevirtual 107, 3) := by decide +kernel
theorem dX11_firstBadOfParties_130 : decode cX11_firstBadOfParties 130 = .ok (.goto 4, 3) := by decide +kernel
theorem dX11_firstBadOfParties_133 : decode cX11_firstBadOfParties 133 = .ok (.iconst (-1), 1) := by decide +kernel
theorem dX11_firstBadOfParties_134 : decode cX11_firstBadOfParties 134 = .ok (.ireturn, 1) := by decide +kernel
theorem dX11_letCome_0 : decode cX11_letCome 0 = .ok (.iconst 0, 1) := by decide +kernel
theorem dX11_letCome_1 : decode cX11_letCome 1 = .ok (.istore_n 1, 1) := by decide +kernel
theorem dX11_letCome_2 : decode cX11_letCome 2 = .ok (.iconst 0, 1) := by decide +kernel
theorem dX11_letCome_3 : decode cX11_letCome 3 = .ok (.istore_n 2, 1) := by decide +kernel
theorem dX11_letCome_4 : decode cX11_letCome 4 = .ok (.iconst 0, 1) := by decide +kernel
theorem dX11_letCome_5 : decode cX11_letCome 5 = .ok (.istore_n 3, 1) := by decide +kernel
theorem dX11_letCome_6 : decode cX11_letCome 6 = .ok (.iload_n 3, 1) := by decide +kernel
theorem dX11_letCome_7 : decode cX11_letCome 7 = .ok (.aload_n 0, 1) := by decide +kernel
theorem dX11_letCome_8 : decode cX11_letCome 8 = .ok (.getfield 12, 3) := by decide +kernel
theorem dX11_letCome_11 : decode cX11_letCome 11 = .ok (.invokevirtual 107, 3) := by decide +kernel
theorem dX11_letCome_14 : decode cX11_letCome 14 = .ok (.if_icmp .ge 52, 3) := by decide +kernel
theorem dX11_letCome_17 : decode cX11_letCome 17 = .ok (.aload_n 0, 1) := by decide +kernel
theorem dX11_letCome_18 : decode cX11_letCome 18 = .ok (.getfield 12, 3) := by decide +kernel
theorem dX11_letCome_21 : decode cX11_letCome 21 = .ok (.iload_n 3, 1) := by decide +kernel
theorem dX11_letCome_22 : decode cX11_letCome 22 = .ok (.invokevirtual 135, 3) := by decide +kernel
theorem dX11_letCome_25 : decode cX11_letCome 25 = .ok (.bipush 47, 2) := by decide +kernel
theorem dX11_letCome_27 : decode cX11_letCome 27 = .ok (.if_icmp .ne 8, 3) := by decide +kernel
theorem dX11_letCome_30 : decode cX11_letCome 30 = .ok (.iconst 1, 1) := by decide +kernel
theorem dX11_letCome_31 : decode cX11_letCome 31 = .ok (.istore_n 1, 1) := by decide +kernel
theorem dX11_letCome_32 : decode cX11_letCome 32 = .ok (.goto 28, 3) := by decide +kernel
theorem dX11_letCome_35 : decode cX11_letCome 35 = .ok (.aload_n 0, 1) := by decide +kernel
theorem dX11_letCome_36 : decode cX11_letCome 36 = .ok (.getfield 26, 3) := by decide +kernel
theorem dX11_letCome_39 : decode cX11_letCome 39 = .ok (.iload_n 1, 1) := by decide +kernel
theorem dX11_letCome_40 : decode cX11_letCome 40 = .ok (.aload_n 0, 1) := by decide +kernel
theorem dX11_letCome_41 : decode cX11_letCome 41 = .ok (.getfield 12, 3) := by decide +kernel
theorem dX11_letCome_44 : decode cX11_letCome 44 = .ok (.iload_n 3, 1) := by decide +kernel
theorem dX11_letCome_45 : decode cX11_letCome 45 = .ok (.invokevirtual 135, 3) := by decide +kernel
theorem dX11_letCome_48 : decode cX11_letCome 48 = .ok (.bipush 48, 2) := by decide +kernel
theorem dX11_letCome_50 : decode cX11_letCome 50 = .ok (.isub, 1) := by decide +kernel
theorem dX11_letCome_51 : decode cX11_letCome 51 = .ok (.invokevirtual 138, 3) := by decide +kernel
theorem dX11_letCome_54 : decode cX11_letCome 54 = .ok (.ifCond .eq 6, 3) := by decide +kernel
theorem dX11_letCome_57 : decode cX11_letCome 57 = .ok (.iinc 2 1, 3) := by decide +kernel
theorem dX11_letCome_60 : decode cX11_letCome 60 = .ok (.iinc 3 1, 3) := by decide +kernel
theorem dX11_letCome_63 : decode cX11_letCome 63 = .ok (.goto (-57), 3) := by decide +kernel
theorem dX11_letCome_66 : decode cX11_letCome 66 = .ok (.iload_n 2, 1) := by decide +kernel
theorem dX11_letCome_67 : decode cX11_letCome 67 = .ok (.ireturn, 1) := by decide +kernel
theorem dX11_rule_0 : decode cX11_rule 0 = .ok (.aload_n 0, 1) := by decide +kernel
theorem dX11_rule_1 : decode cX11_rule 1 = .ok (.getfield 62, 3) := by decide +kernel
theorem dX11_rule_4 : decode cX11_rule 4 = .ok (.invokevirtual 141, 3) := by decide +kernel
theorem dX11_rule_7 : decode cX11_rule 7 = .ok (.istore_n 1, 1) := by decide +kernel
theorem dX11_rule_8 : decode cX11_rule 8 = .ok (.aload_n 0, 1) := by decide +kernel
theorem dX11_rule_9 : decode cX11_rule 9 = .ok (.getfield 12, 3) := by decide +kernel
theorem dX11_rule_12 : decode cX11_rule 12 = .ok (.invokevirtual 128, 3) := by decide +kernel
theorem dX11_rule_15 : decode cX11_rule 15 = .ok (.iload_n 1, 1) := by decide +kernel
theorem dX11_rule_16 : decode cX11_rule 16 = .ok (.iconst (-1), 1) := by decide +kernel
theorem dX11_rule_17 : decode cX11_rule 17 = .ok (.if_icmp .eq 7, 3) := by decide +kernel
theorem dX11_rule_20 : decode cX11_rule 20 = .ok (.iconst (-1), 1) := by decide +kernel
theorem dX11_rule_21 : decode cX11_rule 21 = .ok (.iload_n 1, 1) := by decide +kernel
theorem dX11_rule_22 : decode cX11_rule 22 = .ok (.isub, 1) := by decide +kernel
theorem dX11_rule_23 : decode cX11_rule 23 = .ok (.ireturn, 1) := by decide +kernel
theorem dX11_rule_24 : decode cX11_rule 24 = .ok (.aload_n 0, 1) := by decide +kernel
theorem dX11_rule_25 : decode cX11_rule 25 = .ok (.getfield 50, 3) := by decide +kernel
theorem dX11_rule_28 : decode cX11_rule 28 = .ok (.aload_n 0, 1) := by decide +kernel
theorem dX11_rule_29 : decode cX11_rule 29 = .ok (.getfield 54, 3) := by decide +kernel
theorem dX11_rule_32 : decode cX11_rule 32 = .ok (.invokevirtual 144, 3) := by decide +kernel
theorem dX11_rule_35 : decode cX11_rule 35 = .ok (.iconst 0, 1) := by decide +kernel
theorem dX11_rule_36 : decode cX11_rule 36 = .ok (.ireturn, 1) := by decide +kernel
theorem dX11_party_0 : decode cX11_party 0 = .ok (.aload_n 0, 1) := by decide +kernel
theorem dX11_party_1 : decode cX11_party 1 = .ok (.getfield 26, 3) := by decide +kernel
theorem dX11_party_4 : decode cX11_party 4 = .ok (.iload_n 1, 1) := by decide +kernel
theorem dX11_party_5 : decode cX11_party 5 = .ok (.iload_n 2, 1) := by decide +kernel
theorem dX11_party_6 : decode cX11_party 6 = .ok (.invokevirtual 148, 3) := by decide +kernel
theorem dX11_party_9 : decode cX11_party 9 = .ok (.ifCond .ne 11, 3) := by decide +kernel
theorem dX11_party_12 : decode cX11_party 12 = .ok (.new 151, 3) := by decide +kernel
theorem dX11_party_15 : decode cX11_party 15 = .ok (.dup, 1) := by decide +kernel
theorem dX11_party_16 : decode cX11_party 16 = .ok (.invokespecial 153, 3) := by decide +kernel
theorem dX11_party_19 : decode cX11_party 19 = .ok (.athrow, 1) := by decide +kernel
theorem dX11_party_20 : decode cX11_party 20 = .ok (.aload_n 0, 1) := by decide +kernel
theorem dX11_party_21 : decode cX11_party 21 = .ok (.getfield 26, 3) := by decide +kernel
theorem dX11_party_24 : decode cX11_party 24 = .ok (.iload_n 1, 1) := by decide +kernel
theorem dX11_party_25 : decode cX11_party 25 = .ok (.iload_n 2, 1) := by decide +kernel
theorem dX11_party_26 : decode cX11_party 26 = .ok (.invokevirtual 154, 3) := by decide +kernel
theorem dX11_party_29 : decode cX11_party 29 = .ok (.ireturn, 1) := by decide +kernel
theorem dX11_sheet_0 : decode cX11_sheet 0 = .ok (.iload_n 1, 1) := by decide +kernel
theorem dX11_sheet_1 : decode cX11_sheet 1 = .ok (.ifCond .lt 13, 3) := by decide +kernel
theorem dX11_sheet_4 : decode cX11_sheet 4 = .ok (.iload_n 1, 1) := by decide +kernel
theorem dX11_sheet_5 : decode cX11_sheet 5 = .ok (.iconst 3, 1) := by decide +kernel
theorem dX11_sheet_6 : decode cX11_sheet 6 = .ok (.if_icmp .gt 8, 3) := by decide +kernel
theorem dX11_sheet_9 : decode cX11_sheet 9 = .ok (.iload_n 2, 1) := by decide +kernel
theorem dX11_sheet_10 : decode cX11_sheet 10 = .ok (.iconst 5, 1) := by decide +kernel
theorem dX11_sheet_11 : decode cX11_sheet 11 = .ok (.if_icmp .le 5, 3) := by decide +kernel
theorem dX11_sheet_14 : decode cX11_sheet 14 = .ok (.iconst (-1), 1) := by decide +kernel
theorem dX11_sheet_15 : decode cX11_sheet 15 = .ok (.ireturn, 1) := by decide +kernel
theorem dX11_sheet_16 : decode cX11_sheet 16 = .ok (.iload_n 1, 1) := by decide +kernel
theorem dX11_sheet_17 : decode cX11_sheet 17 = .ok (.iconst 3, 1) := by decide +kernel
theorem dX11_sheet_18 : decode cX11_sheet 18 = .ok (.if_icmp .ne 7, 3) := by decide +kernel
theorem dX11_sheet_21 : decode cX11_sheet 21 = .ok (.iconst 1, 1) := by decide +kernel
theorem dX11_sheet_22 : decode cX11_sheet 22 = .ok (.goto 4, 3) := by decide +kernel
theorem dX11_sheet_25 : decode cX11_sheet 25 = .ok (.iconst 0, 1) := by decide +kernel
theorem dX11_sheet_26 : decode cX11_sheet 26 = .ok (.istore 5, 2) := by decide +kernel
theorem dX11_sheet_28 : decode cX11_sheet 28 = .ok (.iload 5, 2) := by decide +kernel
theorem dX11_sheet_30 : decode cX11_sheet 30 = .ok (.ifCond .ne 10, 3) := by decide +kernel
theorem dX11_sheet_33 : decode cX11_sheet 33 = .ok (.iload_n 2, 1) := by decide +kernel
theorem dX11_sheet_34 : decode cX11_sheet 34 = .ok (.ifCond .ge 6, 3) := by decide +kernel
theorem dX11_sheet_37 : decode cX11_sheet 37 = .ok (.bipush (-2), 2) := by decide +kernel
theorem dX11_sheet_39 : decode cX11_sheet 39 = .ok (.ireturn, 1) := by decide +kernel
theorem dX11_sheet_40 : decode cX11_sheet 40 = .ok (.iconst 0, 1) := by decide +kernel
theorem dX11_sheet_41 : decode cX11_sheet 41 = .ok (.istore 6, 2) := by decide +kernel
theorem dX11_sheet_43 : decode cX11_sheet 43 = .ok (.iload 6, 2) := by decide +kernel
theorem dX11_sheet_45 : decode cX11_sheet 45 = .ok (.aload_n 0, 1) := by decide +kernel
theorem dX11_sheet_46 : decode cX11_sheet 46 = .ok (.getfield 26, 3) := by decide +kernel
theorem dX11_sheet_49 : decode cX11_sheet 49 = .ok (.iconst 0, 1) := by decide +kernel
theorem dX11_sheet_50 : decode cX11_sheet 50 = .ok (.invokevirtual 131, 3) := by decide +kernel
theorem dX11_sheet_53 : decode cX11_sheet 53 = .ok (.if_icmp .ge 57, 3) := by decide +kernel
theorem dX11_sheet_56 : decode cX11_sheet 56 = .ok (.iload 5, 2) := by decide +kernel
theorem dX11_sheet_58 : decode cX11_sheet 58 = .ok (.ifCond .ne 13, 3) := by decide +kernel
theorem dX11_sheet_61 : decode cX11_sheet 61 = .ok (.iload 6, 2) := by decide +kernel
theorem dX11_sheet_63 : decode cX11_sheet 63 = .ok (.iload_n 2, 1) := by decide +kernel
theorem dX11_sheet_64 : decode cX11_sheet 64 = .ok (.if_icmp .ge 7, 3) := by decide +kernel
theorem dX11_sheet_67 : decode cX11_sheet 67 = .ok (.iconst 1, 1) := by decide +kernel
theorem dX11_sheet_68 : decode cX11_sheet 68 = .ok (.goto 4, 3) := by decide +kernel
theorem dX11_sheet_71 : decode cX11_sheet 71 = .ok (.iconst 0, 1) := by decide +kernel
theorem dX11_sheet_72 : decode cX11_sheet 72 = .ok (.istore 7, 2) := by decide +kernel
theorem dX11_sheet_74 : decode cX11_sheet 74 = .ok (.aload_n 0, 1) := by decide +kernel
theorem dX11_sheet_75 : decode cX11_sheet 75 = .ok (.getfield 26, 3) := by decide +kernel
theorem dX11_sheet_78 : decode cX11_sheet 78 = .ok (.iconst 0, 1) := by decide +kernel
theorem dX11_sheet_79 : decode cX11_sheet 79 = .ok (.iload 6, 2) := by decide +kernel
theorem dX11_sheet_81 : decode cX11_sheet 81 = .ok (.iload 7, 2) := by decide +kernel
theorem dX11_sheet_83 : decode cX11_sheet 83 = .ok (.ifCond .eq 17, 3) := by decide +kernel
theorem dX11_sheet_86 : decode cX11_sheet 86 = .ok (.iload_n 1, 1) := by decide +kernel
theorem dX11_sheet_87 : decode cX11_sheet 87 = .ok (.iload_n 3, 1) := by decide +kernel
theorem dX11_sheet_88 : decode cX11_sheet 88 = .ok (.iload 6, 2) := by decide +kernel
theorem dX11_sheet_90 : decode cX11_sheet 90 = .ok (.iload 4, 2) := by decide +kernel
theorem dX11_sheet_92 : decode cX11_sheet 92 = .ok (.imul, 1) := by decide +kernel
theorem dX11_sheet_93 : decode cX11_sheet 93 = .ok (.iadd, 1) := by decide +kernel
theorem dX11_sheet_94 : decode cX11_sheet 94 = .ok (.invokestatic 158, 3) := by decide +kernel
theorem dX11_sheet_97 : decode cX11_sheet 97 = .ok (.goto 4, 3) := by decide +kernel
theorem dX11_sheet_100 : decode cX11_sheet 100 = .ok (.iconst 1, 1) := by decide +kernel
theorem dX11_sheet_101 : decode cX11_sheet 101 = .ok (.invokevirtual 161, 3) := by decide +kernel
theorem dX11_sheet_104 : decode cX11_sheet 104 = .ok (.iinc 6 1, 3) := by decide +kernel
theorem dX11_sheet_107 : decode cX11_sheet 107 = .ok (.goto (-64), 3) := by decide +kernel
theorem dX11_sheet_110 : decode cX11_sheet 110 = .ok (.iload 5, 2) := by decide +kernel
theorem dX11_sheet_112 : decode cX11_sheet 112 = .ok (.ifCond .eq 8, 3) := by decide +kernel
theorem dX11_sheet_115 : decode cX11_sheet 115 = .ok (.bipush (-3), 2) := by decide +kernel
theorem dX11_sheet_117 : decode cX11_sheet 117 = .ok (.goto 19, 3) := by decide +kernel
theorem dX11_sheet_120 : decode cX11_sheet 120 = .ok (.aload_n 0, 1) := by decide +kernel
theorem dX11_sheet_121 : decode cX11_sheet 121 = .ok (.getfield 26, 3) := by decide +kernel
theorem dX11_sheet_124 : decode cX11_sheet 124 = .ok (.iconst 0, 1) := by decide +kernel
theorem dX11_sheet_125 : decode cX11_sheet 125 = .ok (.aload_n 0, 1) := by decide +kernel
theorem dX11_sheet_126 : decode cX11_sheet 126 = .ok (.getfield 26, 3) := by decide +kernel
theorem dX11_sheet_129 : decode cX11_sheet 129 = .ok (.iconst 0, 1) := by decide +kernel
theorem dX11_sheet_130 : decode cX11_sheet 130 = .ok (.invokevirtual 165, 3) := by decide +kernel
theorem dX11_sheet_133 : decode cX11_sheet 133 = .ok (.invokevirtual 168, 3) := by decide +kernel
theorem dX11_sheet_136 : decode cX11_sheet 136 = .ok (.ireturn, 1) := by decide +kernel
theorem dX11_sheetEntry_0 : decode cX11_sheetEntry 0 = .ok (.iload_n 1, 1) := by decide +kernel
theorem dX11_sheetEntry_1 : decode cX11_sheetEntry 1 = .ok (.istore_n 2, 1) := by decide +kernel
theorem dX11_sheetEntry_2 : decode cX11_sheetEntry 2 = .ok (.iload_n 0, 1) := by decide +kernel
theorem dX11_sheetEntry_3 : decode cX11_sheetEntry 3 = .ok (.ifCond .ne 9, 3) := by decide +kernel
theorem dX11_sheetEntry_6 : decode cX11_sheetEntry 6 = .ok (.iload_n 1, 1) := by decide +kernel
theorem dX11_sheetEntry_7 : decode cX11_sheetEntry 7 = .ok (.i2b, 1) := by decide +kernel
theorem dX11_sheetEntry_8 : decode cX11_sheetEntry 8 = .ok (.istore_n 2, 1) := by decide +kernel
theorem dX11_sheetEntry_9 : decode cX11_sheetEntry 9 = .ok (.goto 11, 3) := by decide +kernel
theorem dX11_sheetEntry_12 : decode cX11_sheetEntry 12 = .ok (.iload_n 0, 1) := by decide +kernel
theorem dX11_sheetEntry_13 : decode cX11_sheetEntry 13 = .ok (.iconst 1, 1) := by decide +kernel
theorem dX11_sheetEntry_14 : decode cX11_sheetEntry 14 = .ok (.if_icmp .ne 6, 3) := by decide +kernel
theorem dX11_sheetEntry_17 : decode cX11_sheetEntry 17 = .ok (.iload_n 1, 1) := by decide +kernel
theorem dX11_sheetEntry_18 : decode cX11_sheetEntry 18 = .ok (.i2s, 1) := by decide +kernel
theorem dX11_sheetEntry_19 : decode cX11_sheetEntry 19 = .ok (.istore_n 2, 1) := by decide +kernel
theorem dX11_sheetEntry_20 : decode cX11_sheetEntry 20 = .ok (.iconst 1, 1) := by decide +kernel
theorem dX11_sheetEntry_21 : decode cX11_sheetEntry 21 = .ok (.bipush 9, 2) := by decide +kernel
theorem dX11_sheetEntry_23 : decode cX11_sheetEntry 23 = .ok (.iload_n 2, 1) := by decide +kernel
theorem dX11_sheetEntry_24 : decode cX11_sheetEntry 24 = .ok (.invokestatic 171, 3) := by decide +kernel
theorem dX11_sheetEntry_27 : decode cX11_sheetEntry 27 = .ok (.invokestatic 176, 3) := by decide +kernel
theorem dX11_sheetEntry_30 : decode cX11_sheetEntry 30 = .ok (.ireturn, 1) := by decide +kernel
theorem dX11_trip_0 : decode cX11_trip 0 = .ok (.aload_n 0, 1) := by decide +kernel
theorem dX11_trip_1 : decode cX11_trip 1 = .ok (.getfield 30, 3) := by decide +kernel
theorem dX11_trip_4 : decode cX11_trip 4 = .ok (.aload_n 0, 1) := by decide +kernel
theorem dX11_trip_5 : decode cX11_trip 5 = .ok (.getfield 26, 3) := by decide +kernel
theorem dX11_trip_8 : decode cX11_trip 8 = .ok (.invokevirtual 179, 3) := by decide +kernel
theorem dX11_trip_11 : decode cX11_trip 11 = .ok (.aload_n 0, 1) := by decide +kernel
theorem dX11_trip_12 : decode cX11_trip 12 = .ok (.aload_n 0, 1) := by decide +kernel
theorem dX11_trip_13 : decode cX11_trip 13 = .ok (.invokevirtual 182, 3) := by decide +kernel
theorem dX11_trip_16 : decode cX11_trip 16 = .ok (.invokevirtual 185, 3) := by decide +kernel
theorem dX11_trip_19 : decode cX11_trip 19 = .ok (.ireturn, 1) := by decide +kernel
theorem dX11_sends_0 : decode cX11_sends 0 = .ok (.aload_n 0, 1) := by decide +kernel
theorem dX11_sends_1 : decode cX11_sends 1 = .ok (.getfield 26, 3) := by decide +kernel
theorem dX11_sends_4 : decode cX11_sends 4 = .ok (.iconst 0, 1) := by decide +kernel
theorem dX11_sends_5 : decode cX11_sends 5 = .ok (.iload_n 1, 1) := by decide +kernel
theorem dX11_sends_6 : decode cX11_sends 6 = .ok (.invokevirtual 188, 3) := by decide +kernel
theorem dX11_sends_9 : decode cX11_sends 9 = .ok (.ifCond .eq 15, 3) := by decide +kernel
theorem dX11_sends_12 : decode cX11_sends 12 = .ok (.aload_n 0, 1) := by decide +kernel
theorem dX11_sends_13 : decode cX11_sends 13 = .ok (.getfield 26, 3) := by decide +kernel
theorem dX11_sends_16 : decode cX11_sends 16 = .ok (.iconst 1, 1) := by decide +kernel
theorem dX11_sends_17 : decode cX11_sends 17 = .ok (.iload_n 2, 1) := by decide +kernel
theorem dX11_sends_18 : decode cX11_sends 18 = .ok (.invokevirtual 188, 3) := by decide +kernel
theorem dX11_sends_21 : decode cX11_sends 21 = .ok (.ifCond .ne 5, 3) := by decide +kernel
theorem dX11_sends_24 : decode cX11_sends 24 = .ok (.iconst (-1), 1) := by decide +kernel
theorem dX11_sends_25 : decode cX11_sends 25 = .ok (.ireturn, 1) := by decide +kernel
theorem dX11_sends_26 : decode cX11_sends 26 = .ok (.aload_n 0, 1) := by decide +kernel
theorem dX11_sends_27 : decode cX11_sends 27 = .ok (.getfield 30, 3) := by decide +kernel
theorem dX11_sends_30 : decode cX11_sends 30 = .ok (.aload_n 0, 1) := by decide +kernel
theorem dX11_sends_31 : decode cX11_sends 31 = .ok (.getfield 26, 3) := by decide +kernel
theorem dX11_sends_34 : decode cX11_sends 34 = .ok (.invokevirtual 179, 3) := by decide +kernel
theorem dX11_sends_37 : decode cX11_sends 37 = .ok (.aload_n 0, 1) := by decide +kernel
theorem dX11_sends_38 : decode cX11_sends 38 = .ok (.aload_n 0, 1) := by decide +kernel
theorem dX11_sends_39 : decode cX11_sends 39 = .ok (.iload_n 1, 1) := by decide +kernel
theorem dX11_sends_40 : decode cX11_sends 40 = .ok (.iload_n 2, 1) := by decide +kernel
theorem dX11_sends_41 : decode cX11_sends 41 = .ok (.invokevirtual 191, 3) := by decide +kernel
theorem dX11_sends_44 : decode cX11_sends 44 = .ok (.invokevirtual 185, 3) := by decide +kernel
theorem dX11_sends_47 : decode cX11_sends 47 = .ok (.ireturn, 1) := by decide +kernel
theorem dX11_runs_0 : decode cX11_runs 0 = .ok (.aload_n 0, 1) := by decide +kernel
theorem dX11_runs_1 : decode cX11_runs 1 = .ok (.getfield 30, 3) := by decide +kernel
theorem dX11_runs_4 : decode cX11_runs 4 = .ok (.aload_n 0, 1) := by decide +kernel
theorem dX11_runs_5 : decode cX11_runs 5 = .ok (.getfield 26, 3) := by decide +kernel
theorem dX11_runs_8 : decode cX11_runs 8 = .ok (.invokevirtual 179, 3) := by decide +kernel
theorem dX11_runs_11 : decode cX11_runs 11 = .ok (.aload_n 0, 1) := by decide +kernel
theorem dX11_runs_12 : decode cX11_runs 12 = .ok (.aload_n 0, 1) := by decide +kernel
theorem dX11_runs_13 : decode cX11_runs 13 = .ok (.iload_n 1, 1) := by decide +kernel
theorem dX11_runs_14 : decode cX11_runs 14 = .ok (.invokevirtual 194, 3) := by decide +kernel
theorem dX11_runs_17 : decode cX11_runs 17 = .ok (.invokevirtual 185, 3) := by decide +kernel
theorem dX11_runs_20 : decode cX11_runs 20 = .ok (.ireturn, 1) := by decide +kernel
theorem dX11_grips_0 : decode cX11_grips 0 = .ok (.aload_n 0, 1) := by decide +kernel
theorem dX11_grips_1 : decode cX11_grips 1 = .ok (.getfield 30, 3) := by decide +kernel
theorem dX11_grips_4 : decode cX11_grips 4 = .ok (.aload_n 0, 1) := by decide +kernel
theorem dX11_grips_5 : decode cX11_grips 5 = .ok (.getfield 26, 3) := by decide +kernel
theorem dX11_grips_8 : decode cX11_grips 8 = .ok (.invokevirtual 179, 3) := by decide +kernel
theorem dX11_grips_11 : decode cX11_grips 11 = .ok (.aload_n 0, 1) := by decide +kernel
theorem dX11_grips_12 : decode cX11_grips 12 = .ok (.aload_n 0, 1) := by decide +kernel
theorem dX11_grips_13 : decode cX11_grips 13 = .ok (.iload_n 1, 1) := by decide +kernel
theorem dX11_grips_14 : decode cX11_grips 14 = .ok (.invokevirtual 197, 3) := by decide +kernel
theorem dX11_grips_17 : decode cX11_grips 17 = .ok (.invokevirtual 185, 3) := by decide +kernel
theorem dX11_grips_20 : decode cX11_grips 20 = .ok (.ireturn, 1) := by decide +kernel
theorem dX11_seats_0 : decode cX11_seats 0 = .ok (.aload_n 0, 1) := by decide +kernel
theorem dX11_seats_1 : decode cX11_seats 1 = .ok (.getfield 30, 3) := by decide +kernel
theorem dX11_seats_4 : decode cX11_seats 4 = .ok (.aload_n 0, 1) := by decide +kernel
theorem dX11_seats_5 : decode cX11_seats 5 = .ok (.getfield 26, 3) := by decide +kernel
theorem dX11_seats_8 : decode cX11_seats 8 = .ok (.invokevirtual 179, 3) := by decide +kernel
theorem dX11_seats_11 : decode cX11_seats 11 = .ok (.aload_n 0, 1) := by decide +kernel
theorem dX11_seats_12 : decode cX11_seats 12 = .ok (.aload_n 0, 1) := by decide +kernel
theorem dX11_seats_13 : decode cX11_seats 13 = .ok (.iload_n 1, 1) := by decide +kernel
theorem dX11_seats_14 : decode cX11_seats 14 = .ok (.invokevirtual 200, 3) := by decide +kernel
theorem dX11_seats_17 : decode cX11_seats 17 = .ok (.invokevirtual 185, 3) := by decide +kernel
theorem dX11_seats_20 : decode cX11_seats 20 = .ok (.ireturn, 1) := by decide +kernel
theorem dX11_leaves_0 : decode cX11_leaves 0 = .ok (.aload_n 0, 1) := by decide +kernel
theorem dX11_leaves_1 : decode cX11_leaves 1 = .ok (.getfield 30, 3) := by decide +kernel
theorem dX11_leaves_4 : decode cX11_leaves 4 = .ok (.aload_n 0, 1) := by decide +kernel
theorem dX11_leaves_5 : decode cX11_leaves 5 = .ok (.getfield 26, 3) := by decide +kernel
theorem dX11_leaves_8 : decode cX11_leaves 8 = .ok (.invokevirtual 179, 3) := by decide +kernel
theorem dX11_leaves_11 : decode cX11_leaves 11 = .ok (.aload_n 0, 1) := by decide +kernel
theorem dX11_leaves_12 : decode cX11_leaves 12 = .ok (.aload_n 0, 1) := by decide +kernel
theorem dX11_leaves_13 : decode cX11_leaves 13 = .ok (.iload_n 1, 1) := by decide +kernel
theorem dX11_leaves_14 : decode cX11_leaves 14 = .ok (.iload_n 2, 1) := by decide +kernel
theorem dX11_leaves_15 : decode cX11_leaves 15 = .ok (.invokevirtual 203, 3) := by decide +kernel
theorem dX11_leaves_18 : decode cX11_leaves 18 = .ok (.invokevirtual 185, 3) := by decide +kernel
theorem dX11_leaves_21 : decode cX11_leaves 21 = .ok (.ireturn, 1) := by decide +kernel
theorem dX11_swaps_0 : decode cX11_swaps 0 = .ok (.aload_n 0, 1) := by decide +kernel
theorem dX11_swaps_1 : decode cX11_swaps 1 = .ok (.getfield 30, 3) := by decide +kernel
theorem dX11_swaps_4 : decode cX11_swaps 4 = .ok (.aload_n 0, 1) := by decide +kernel
theorem dX11_swaps_5 : decode cX11_swaps 5 = .ok (.getfield 26, 3) := by decide +kernel
theorem dX11_swaps_8 : decode cX11_swaps 8 = .ok (.invokevirtual 179, 3) := by decide +kernel
theorem dX11_swaps_11 : decode cX11_swaps 11 = .ok (.aload_n 0, 1) := by decide +kernel
theorem dX11_swaps_12 : decode cX11_swaps 12 = .ok (.aload_n 0, 1) := by decide +kernel
theorem dX11_swaps_13 : decode cX11_swaps 13 = .ok (.iload_n 1, 1) := by decide +kernel
theorem dX11_swaps_14 : decode cX11_swaps 14 = .ok (.iload_n 2, 1) := by decide +kernel
theorem dX11_swaps_15 : decode cX11_swaps 15 = .ok (.invokevirtual 206, 3) := by decide +kernel
theorem dX11_swaps_18 : decode cX11_swaps 18 = .ok (.invokevirtual 185, 3) := by decide +kernel
theorem dX11_swaps_21 : decode cX11_swaps 21 = .ok (.ireturn, 1) := by decide +kernel
theorem dX11_drains_0 : decode cX11_drains 0 = .ok (.aload_n 0, 1) := by decide +kernel
theorem dX11_drains_1 : decode cX11_drains 1 = .ok (.getfield 30, 3) := by decide +kernel
theorem dX11_drains_4 : decode cX11_drains 4 = .ok (.aload_n 0, 1) := by decide +kernel
theorem dX11_drains_5 : decode cX11_drains 5 = .ok (.getfield 26, 3) := by decide +kernel
theorem dX11_drains_8 : decode cX11_drains 8 = .ok (.invokevirtual 179, 3) := by decide +kernel
theorem dX11_drains_11 : decode cX11_drains 11 = .ok (.aload_n 0, 1) := by decide +kernel
theorem dX11_drains_12 : decode cX11_drains 12 = .ok (.aload_n 0, 1) := by decide +kernel
theorem dX11_drains_13 : decode cX11_drains 13 = .ok (.iload_n 1, 1) := by decide +kernel
theorem dX11_drains_14 : decode cX11_drains 14 = .ok (.invokevirtual 209, 3) := by decide +kernel
theorem dX11_drains_17 : decode cX11_drains 17 = .ok (.invokevirtual 185, 3) := by decide +kernel
theorem dX11_drains_20 : decode cX11_drains 20 = .ok (.ireturn, 1) := by decide +kernel
theorem dX11_remembered_0 : decode cX11_remembered 0 = .ok (.iload_n 1, 1) := by decide +kernel
theorem dX11_remembered_1 : decode cX11_remembered 1 = .ok (.ifCond .lt 14, 3) := by decide +kernel
theorem dX11_remembered_4 : decode cX11_remembered 4 = .ok (.aload_n 0, 1) := by decide +kernel
theorem dX11_remembered_5 : decode cX11_remembered 5 = .ok (.getfield 39, 3) := by decide +kernel
theorem dX11_remembered_8 : decode cX11_remembered 8 = .ok (.aload_n 0, 1) := by decide +kernel
theorem dX11_remembered_9 : decode cX11_remembered 9 = .ok (.getfield 30, 3) := by decide +kernel
theorem dX11_remembered_12 : decode cX11_remembered 12 = .ok (.invokevirtual 212, 3) := by decide +kernel
theorem dX11_remembered_15 : decode cX11_remembered 15 = .ok (.iload_n 1, 1) := by decide +kernel
theorem dX11_remembered_16 : decode cX11_remembered 16 = .ok (.ireturn, 1) := by decide +kernel
theorem dX11_goNext_0 : decode cX11_goNext 0 = .ok (.aload_n 0, 1) := by decide +kernel
theorem dX11_goNext_1 : decode cX11_goNext 1 = .ok (.aload_n 0, 1) := by decide +kernel
theorem dX11_goNext_2 : decode cX11_goNext 2 = .ok (.getfield 26, 3) := by decide +kernel
theorem dX11_goNext_5 : decode cX11_goNext 5 = .ok (.iconst 0, 1) := by decide +kernel
theorem dX11_goNext_6 : decode cX11_goNext 6 = .ok (.invokevirtual 215, 3) := by decide +kernel
theorem dX11_goNext_9 : decode cX11_goNext 9 = .ok (.aload_n 0, 1) := by decide +kernel
theorem dX11_goNext_10 : decode cX11_goNext 10 = .ok (.getfield 26, 3) := by decide +kernel
theorem dX11_goNext_13 : decode cX11_goNext 13 = .ok (.iconst 1, 1) := by decide +kernel
theorem dX11_goNext_14 : decode cX11_goNext 14 = .ok (.invokevirtual 215, 3) := by decide +kernel
theorem dX11_goNext_17 : decode cX11_goNext 17 = .ok (.invokevirtual 191, 3) := by decide +kernel
theorem dX11_goNext_20 : decode cX11_goNext 20 = .ok (.ireturn, 1) := by decide +kernel
theorem dX11_goWith_0 : decode cX11_goWith 0 = .ok (.iload_n 1, 1) := by decide +kernel
theorem dX11_goWith_1 : decode cX11_goWith 1 = .ok (.ifCond .ne 10, 3) := by decide +kernel
theorem dX11_goWith_4 : decode cX11_goWith 4 = .ok (.iload_n 2, 1) := by decide +kernel
theorem dX11_goWith_5 : decode cX11_goWith 5 = .ok (.ifCond .ne 6, 3) := by decide +kernel
theorem dX11_goWith_8 : decode cX11_goWith 8 = .ok (.bipush (-2), 2) := by decide +kernel
theorem dX11_goWith_10 : decode cX11_goWith 10 = .ok (.ireturn, 1) := by decide +kernel
theorem dX11_goWith_11 : decode cX11_goWith 11 = .ok (.aload_n 0, 1) := by decide +kernel
theorem dX11_goWith_12 : decode cX11_goWith 12 = .ok (.getfield 26, 3) := by decide +kernel
theorem dX11_goWith_15 : decode cX11_goWith 15 = .ok (.iload_n 1, 1) := by decide +kernel
theorem dX11_goWith_16 : decode cX11_goWith 16 = .ok (.iload_n 2, 1) := by decide +kernel
theorem dX11_goWith_17 : decode cX11_goWith 17 = .ok (.invokevirtual 218, 3) := by decide +kernel
theorem dX11_goWith_20 : decode cX11_goWith 20 = .ok (.istore_n 3, 1) := by decide +kernel
theorem dX11_goWith_21 : decode cX11_goWith 21 = .ok (.aload_n 0, 1) := by decide +kernel
theorem dX11_goWith_22 : decode cX11_goWith 22 = .ok (.getfield 26, 3) := by decide +kernel
theorem dX11_goWith_25 : decode cX11_goWith 25 = .ok (.getfield 221, 3) := by decide +kernel
theorem dX11_goWith_28 : decode cX11_goWith 28 = .ok (.iload_n 3, 1) := by decide +kernel
theorem dX11_goWith_29 : decode cX11_goWith 29 = .ok (.if_icmp .ge 6, 3) := by decide +kernel
theorem dX11_goWith_32 : decode cX11_goWith 32 = .ok (.bipush (-3), 2) := by decide +kernel
theorem dX11_goWith_34 : decode cX11_goWith 34 = .ok (.ireturn, 1) := by decide +kernel
theorem dX11_goWith_35 : decode cX11_goWith 35 = .ok (.aload_n 0, 1) := by decide +kernel
theorem dX11_goWith_36 : decode cX11_goWith 36 = .ok (.getfield 26, 3) := by decide +kernel
theorem dX11_goWith_39 : decode cX11_goWith 39 = .ok (.iload_n 1, 1) := by decide +kernel
theorem dX11_goWith_40 : decode cX11_goWith 40 = .ok (.iload_n 2, 1) := by decide +kernel
theorem dX11_goWith_41 : decode cX11_goWith 41 = .ok (.invokevirtual 225, 3) := by decide +kernel
theorem dX11_goWith_44 : decode cX11_goWith 44 = .ok (.aload_n 0, 1) := by decide +kernel
theorem dX11_goWith_45 : decode cX11_goWith 45 = .ok (.getfield 26, 3) := by decide +kernel
theorem dX11_goWith_48 : decode cX11_goWith 48 = .ok (.aload_n 0, 1) := by decide +kernel
theorem dX11_goWith_49 : decode cX11_goWith 49 = .ok (.getfield 50, 3) := by decide +kernel
theorem dX11_goWith_52 : decode cX11_goWith 52 = .ok (.aload_n 0, 1) := by decide +kernel
theorem dX11_goWith_53 : decode cX11_goWith 53 = .ok (.getfield 26, 3) := by decide +kernel
theorem dX11_goWith_56 : decode cX11_goWith 56 = .ok (.invokevirtual 229, 3) := by decide +kernel
theorem dX11_goWith_59 : decode cX11_goWith 59 = .ok (.invokevirtual 233, 3) := by decide +kernel
theorem dX11_goWith_62 : decode cX11_goWith 62 = .ok (.aload_n 0, 1) := by decide +kernel
theorem dX11_goWith_63 : decode cX11_goWith 63 = .ok (.getfield 19, 3) := by decide +kernel
theorem dX11_goWith_66 : decode cX11_goWith 66 = .ok (.iload_n 3, 1) := by decide +kernel
theorem dX11_goWith_67 : decode cX11_goWith 67 = .ok (.i2l, 1) := by decide +kernel
theorem dX11_goWith_68 : decode cX11_goWith 68 = .ok (.aload_n 0, 1) := by decide +kernel
theorem dX11_goWith_69 : decode cX11_goWith 69 = .ok (.getfield 26, 3) := by decide +kernel
theorem dX11_goWith_72 : decode cX11_goWith 72 = .ok (.getfield 221, 3) := by decide +kernel
theorem dX11_goWith_75 : decode cX11_goWith 75 = .ok (.i2l, 1) := by decide +kernel
theorem dX11_goWith_76 : decode cX11_goWith 76 = .ok (.invokevirtual 236, 3) := by decide +kernel
theorem dX11_goWith_79 : decode cX11_goWith 79 = .ok (.iload_n 1, 1) := by decide +kernel
theorem dX11_goWith_80 : decode cX11_goWith 80 = .ok (.invokestatic 240, 3) := by decide +kernel
theorem dX11_goWith_83 : decode cX11_goWith 83 = .ok (.iload_n 2, 1) := by decide +kernel
theorem dX11_goWith_84 : decode cX11_goWith 84 = .ok (.invokestatic 240, 3) := by decide +kernel
theorem dX11_goWith_87 : decode cX11_goWith 87 = .ok (.iadd, 1) := by decide +kernel
theorem dX11_goWith_88 : decode cX11_goWith 88 = .ok (.ireturn, 1) := by decide +kernel
theorem dX11_runFor_0 : decode cX11_runFor 0 = .ok (.iload_n 1, 1) := by decide +kernel
theorem dX11_runFor_1 : decode cX11_runFor 1 = .ok (.ifCond .lt 9, 3) := by decide +kernel
theorem dX11_runFor_4 : decode cX11_runFor 4 = .ok (.iload_n 1, 1) := by decide +kernel
theorem dX11_runFor_5 : decode cX11_runFor 5 = .ok (.bipush 60, 2) := by decide +kernel
theorem dX11_runFor_7 : decode cX11_runFor 7 = .ok (.if_icmp .le 5, 3) := by decide +kernel
theorem dX11_runFor_10 : decode cX11_runFor 10 = .ok (.iconst (-1), 1) := by decide +kernel
theorem dX11_runFor_11 : decode cX11_runFor 11 = .ok (.ireturn, 1) := by decide +kernel
theorem dX11_runFor_12 : decode cX11_runFor 12 = .ok (.iconst 0, 1) := by decide +kernel
theorem dX11_runFor_13 : decode cX11_runFor 13 = .ok (.istore_n 2, 1) := by decide +kernel
theorem dX11_runFor_14 : decode cX11_runFor 14 = .ok (.iconst 0, 1) := by decide +kernel
theorem dX11_runFor_15 : decode cX11_runFor 15 = .ok (.istore_n 3, 1) := by decide +kernel
theorem dX11_runFor_16 : decode cX11_runFor 16 = .ok (.iconst 0, 1) := by decide +kernel
theorem dX11_runFor_17 : decode cX11_runFor 17 = .ok (.istore 4, 2) := by decide +kernel
theorem dX11_runFor_19 : decode cX11_runFor 19 = .ok (.iload 4, 2) := by decide +kernel
theorem dX11_runFor_21 : decode cX11_runFor 21 = .ok (.iload_n 1, 1) := by decide +kernel
theorem dX11_runFor_22 : decode cX11_runFor 22 = .ok (.if_icmp .ge 54, 3) := by decide +kernel
theorem dX11_runFor_25 : decode cX11_runFor 25 = .ok (.aload_n 0, 1) := by decide +kernel
theorem dX11_runFor_26 : decode cX11_runFor 26 = .ok (.getfield 26, 3) := by decide +kernel
theorem dX11_runFor_29 : decode cX11_runFor 29 = .ok (.invokevirtual 245, 3) := by decide +kernel
theorem dX11_runFor_32 : decode cX11_runFor 32 = .ok (.ifCond .ne 7, 3) := by decide +kernel
theorem dX11_runFor_35 : decode cX11_runFor 35 = .ok (.iconst 1, 1) := by decide +kernel
theorem dX11_runFor_36 : decode cX11_runFor 36 = .ok (.goto 4, 3) := by decide +kernel
theorem dX11_runFor_39 : decode cX11_runFor 39 = .ok (.iconst 0, 1) := by decide +kernel
theorem dX11_runFor_40 : decode cX11_runFor 40 = .ok (.istore 5, 2) := by decide +kernel
theorem dX11_runFor_42 : decode cX11_runFor 42 = .ok (.aload_n 0, 1) := by decide +kernel
theorem dX11_runFor_43 : decode cX11_runFor 43 = .ok (.getfield 26, 3) := by decide +kernel
theorem dX11_runFor_46 : decode cX11_runFor 46 = .ok (.aload_n 0, 1) := by decide +kernel
theorem dX11_runFor_47 : decode cX11_runFor 47 = .ok (.getfield 50, 3) := by decide +kernel
theorem dX11_runFor_50 : decode cX11_runFor 50 = .ok (.invokevirtual 249, 3) := by decide +kernel
theorem dX11_runFor_53 : decode cX11_runFor 53 = .ok (.ifCond .eq 9, 3) := by decide +kernel
theorem dX11_runFor_56 : decode cX11_runFor 56 = .ok (.iinc 2 1, 3) := by decide +kernel
theorem dX11_runFor_59 : decode cX11_runFor 59 = .ok (.goto 11, 3) := by decide +kernel
theorem dX11_runFor_62 : decode cX11_runFor 62 = .ok (.iload 5, 2) := by decide +kernel
theorem dX11_runFor_64 : decode cX11_runFor 64 = .ok (.ifCond .eq 6, 3) := by decide +kernel
theorem dX11_runFor_67 : decode cX11_runFor 67 = .ok (.iinc 3 1, 3) := by decide +kernel
theorem dX11_runFor_70 : decode cX11_runFor 70 = .ok (.iinc 4 1, 3) := by decide +kernel
theorem dX11_runFor_73 : decode cX11_runFor 73 = .ok (.goto (-54), 3) := by decide +kernel
theorem dX11_runFor_76 : decode cX11_runFor 76 = .ok (.aload_n 0, 1) := by decide +kernel
theorem dX11_runFor_77 : decode cX11_runFor 77 = .ok (.getfield 19, 3) := by decide +kernel
theorem dX11_runFor_80 : decode cX11_runFor 80 = .ok (.iload_n 3, 1) := by decide +kernel
theorem dX11_runFor_81 : decode cX11_runFor 81 = .ok (.i2l, 1) := by decide +kernel
theorem dX11_runFor_82 : decode cX11_runFor 82 = .ok (.aload_n 0, 1) := by decide +kernel
theorem dX11_runFor_83 : decode cX11_runFor 83 = .ok (.getfield 26, 3) := by decide +kernel
theorem dX11_runFor_86 : decode cX11_runFor 86 = .ok (.getfield 221, 3) := by decide +kernel
theorem dX11_runFor_89 : decode cX11_runFor 89 = .ok (.i2l, 1) := by decide +kernel
theorem dX11_runFor_90 : decode cX11_runFor 90 = .ok (.invokevirtual 236, 3) := by decide +kernel
theorem dX11_runFor_93 : decode cX11_runFor 93 = .ok (.iload_n 2, 1) := by decide +kernel
theorem dX11_runFor_94 : decode cX11_runFor 94 = .ok (.ireturn, 1) := by decide +kernel
theorem dX11_setGrip_0 : decode cX11_setGrip 0 = .ok (.iload_n 1, 1) := by decide +kernel
theorem dX11_setGrip_1 : decode cX11_setGrip 1 = .ok (.ifCond .lt 9, 3) := by decide +kernel
theorem dX11_setGrip_4 : decode cX11_setGrip 4 = .ok (.iload_n 1, 1) := by decide +kernel
theorem dX11_setGrip_5 : decode cX11_setGrip 5 = .ok (.bipush 9, 2) := by decide +kernel
theorem dX11_setGrip_7 : decode cX11_setGrip 7 = .ok (.if_icmp .le 5, 3) := by decide +kernel
theorem dX11_setGrip_10 : decode cX11_setGrip 10 = .ok (.iconst (-1), 1) := by decide +kernel
theorem dX11_setGrip_11 : decode cX11_setGrip 11 = .ok (.ireturn, 1) := by decide +kernel
theorem dX11_setGrip_12 : decode cX11_setGrip 12 = .ok (.iload_n 1, 1) := by decide +kernel
theorem dX11_setGrip_13 : decode cX11_setGrip 13 = .ok (.aload_n 0, 1) := by decide +kernel
theorem dX11_setGrip_14 : decode cX11_setGrip 14 = .ok (.getfield 26, 3) := by decide +kernel
theorem dX11_setGrip_17 : decode cX11_setGrip 17 = .ok (.getfield 253, 3) := by decide +kernel
theorem dX11_setGrip_20 : decode cX11_setGrip 20 = .ok (.if_icmp .ne 6, 3) := by decide +kernel
theorem dX11_setGrip_23 : decode cX11_setGrip 23 = .ok (.bipush (-2), 2) := by decide +kernel
theorem dX11_setGrip_25 : decode cX11_setGrip 25 = .ok (.ireturn, 1) := by decide +kernel
theorem dX11_setGrip_26 : decode cX11_setGrip 26 = .ok (.aload_n 0, 1) := by decide +kernel
theorem dX11_setGrip_27 : decode cX11_setGrip 27 = .ok (.getfield 26, 3) := by decide +kernel
theorem dX11_setGrip_30 : decode cX11_setGrip 30 = .ok (.getfield 253, 3) := by decide +kernel
theorem dX11_setGrip_33 : decode cX11_setGrip 33 = .ok (.istore_n 2, 1) := by decide +kernel
theorem dX11_setGrip_34 : decode cX11_setGrip 34 = .ok (.aload_n 0, 1) := by decide +kernel
theorem dX11_setGrip_35 : decode cX11_setGrip 35 = .ok (.getfield 26, 3) := by decide +kernel
theorem dX11_setGrip_38 : decode cX11_setGrip 38 = .ok (.iload_n 1, 1) := by decide +kernel
theorem dX11_setGrip_39 : decode cX11_setGrip 39 = .ok (.putfield 253, 3) := by decide +kernel
theorem dX11_setGrip_42 : decode cX11_setGrip 42 = .ok (.bipush 10, 2) := by decide +kernel
theorem dX11_setGrip_44 : decode cX11_setGrip 44 = .ok (.iload_n 2, 1) := by decide +kernel
theorem dX11_setGrip_45 : decode cX11_setGrip 45 = .ok (.iadd, 1) := by decide +kernel
theorem dX11_setGrip_46 : decode cX11_setGrip 46 = .ok (.ireturn, 1) := by decide +kernel
theorem dX11_setSeats_0 : decode cX11_setSeats 0 = .ok (.iload_n 1, 1) := by decide +kernel
theorem dX11_setSeats_1 : decode cX11_setSeats 1 = .ok (.iconst 1, 1) := by decide +kernel
theorem dX11_setSeats_2 : decode cX11_setSeats 2 = .ok (.if_icmp .lt 8, 3) := by decide +kernel
theorem dX11_setSeats_5 : decode cX11_setSeats 5 = .ok (.iload_n 1, 1) := by decide +kernel
theorem dX11_setSeats_6 : decode cX11_setSeats 6 = .ok (.iconst 3, 1) := by decide +kernel
theorem dX11_setSeats_7 : decode cX11_setSeats 7 = .ok (.if_icmp .le 5, 3) := by decide +kernel
theorem dX11_setSeats_10 : decode cX11_setSeats 10 = .ok (.iconst (-1), 1) := by decide +kernel
theorem dX11_setSeats_11 : decode cX11_setSeats 11 = .ok (.ireturn, 1) := by decide +kernel
theorem dX11_setSeats_12 : decode cX11_setSeats 12 = .ok (.iload_n 1, 1) := by decide +kernel
theorem dX11_setSeats_13 : decode cX11_setSeats 13 = .ok (.aload_n 0, 1) := by decide +kernel
theorem dX11_setSeats_14 : decode cX11_setSeats 14 = .ok (.getfield 26, 3) := by decide +kernel
theorem dX11_setSeats_17 : decode cX11_setSeats 17 = .ok (.getfield 256, 3) := by decide +kernel
theorem dX11_setSeats_20 : decode cX11_setSeats 20 = .ok (.if_icmp .ne 6, 3) := by decide +kernel
theorem dX11_setSeats_23 : decode cX11_setSeats 23 = .ok (.bipush (-2), 2) := by decide +kernel
theorem dX11_setSeats_25 : decode cX11_setSeats 25 = .ok (.ireturn, 1) := by decide +kernel
theorem dX11_setSeats_26 : decode cX11_setSeats 26 = .ok (.aload_n 0, 1) := by decide +kernel
theorem dX11_setSeats_27 : decode cX11_setSeats 27 = .ok (.getfield 26, 3) := by decide +kernel
theorem dX11_setSeats_30 : decode cX11_setSeats 30 = .ok (.getfield 256, 3) := by decide +kernel
theorem dX11_setSeats_33 : decode cX11_setSeats 33 = .ok (.istore_n 2, 1) := by decide +kernel
theorem dX11_setSeats_34 : decode cX11_setSeats 34 = .ok (.aload_n 0, 1) := by decide +kernel
theorem dX11_setSeats_35 : decode cX11_setSeats 35 = .ok (.getfield 26, 3) := by decide +kernel
theorem dX11_setSeats_38 : decode cX11_setSeats 38 = .ok (.iload_n 1, 1) := by decide +kernel
theorem dX11_setSeats_39 : decode cX11_setSeats 39 = .ok (.putfield 256, 3) := by decide +kernel
theorem dX11_setSeats_42 : decode cX11_setSeats 42 = .ok (.bipush 10, 2) := by decide +kernel
theorem dX11_setSeats_44 : decode cX11_setSeats 44 = .ok (.iload_n 2, 1) := by decide +kernel
theorem dX11_setSeats_45 : decode cX11_setSeats 45 = .ok (.iadd, 1) := by decide +kernel
theorem dX11_setSeats_46 : decode cX11_setSeats 46 = .ok (.ireturn, 1) := by decide +kernel
theorem dX11_goAway_0 : decode cX11_goAway 0 = .ok (.aload_n 0, 1) := by decide +kernel
theorem dX11_goAway_1 : decode cX11_goAway 1 = .ok (.getfield 26, 3) := by decide +kernel
theorem dX11_goAway_4 : decode cX11_goAway 4 = .ok (.iload_n 1, 1) := by decide +kernel
theorem dX11_goAway_5 : decode cX11_goAway 5 = .ok (.iload_n 2, 1) := by decide +kernel
theorem dX11_goAway_6 : decode cX11_goAway 6 = .ok (.invokevirtual 148, 3) := by decide +kernel
theorem dX11_goAway_9 : decode cX11_goAway 9 = .ok (.ifCond .ne 5, 3) := by decide +kernel
theorem dX11_goAway_12 : decode cX11_goAway 12 = .ok (.iconst (-1), 1) := by decide +kernel
theorem dX11_goAway_13 : decode cX11_goAway 13 = .ok (.ireturn, 1) := by decide +kernel
theorem dX11_goAway_14 : decode cX11_goAway 14 = .ok (.aload_n 0, 1) := by decide +kernel
theorem dX11_goAway_15 : decode cX11_goAway 15 = .ok (.getfield 26, 3) := by decide +kernel
theorem dX11_goAway_18 : decode cX11_goAway 18 = .ok (.iload_n 1, 1) := by decide +kernel
theorem dX11_goAway_19 : decode cX11_goAway 19 = .ok (.iconst 1, 1) := by decide +kernel
theorem dX11_goAway_20 : decode cX11_goAway 20 = .ok (.iload_n 2, 1) := by decide +kernel
theorem dX11_goAway_21 : decode cX11_goAway 21 = .ok (.ishl, 1) := by decide +kernel
theorem dX11_goAway_22 : decode cX11_goAway 22 = .ok (.invokevirtual 259, 3) := by decide +kernel
theorem dX11_goAway_25 : decode cX11_goAway 25 = .ok (.aload_n 0, 1) := by decide +kernel
theorem dX11_goAway_26 : decode cX11_goAway 26 = .ok (.getfield 26, 3) := by decide +kernel
theorem dX11_goAway_29 : decode cX11_goAway 29 = .ok (.iload_n 1, 1) := by decide +kernel
theorem dX11_goAway_30 : decode cX11_goAway 30 = .ok (.invokevirtual 131, 3) := by decide +kernel
theorem dX11_goAway_33 : decode cX11_goAway 33 = .ok (.ireturn, 1) := by decide +kernel
theorem dX11_swapWithNext_0 : decode cX11_swapWithNext 0 = .ok (.aload_n 0, 1) := by decide +kernel
theorem dX11_swapWithNext_1 : decode cX11_swapWithNext 1 = .ok (.getfield 26, 3) := by decide +kernel
theorem dX11_swapWithNext_4 : decode cX11_swapWithNext 4 = .ok (.iload_n 1, 1) := by decide +kernel
theorem dX11_swapWithNext_5 : decode cX11_swapWithNext 5 = .ok (.iload_n 2, 1) := by decide +kernel
theorem dX11_swapWithNext_6 : decode cX11_swapWithNext 6 = .ok (.invokevirtual 148, 3) := by decide +kernel
theorem dX11_swapWithNext_9 : decode cX11_swapWithNext 9 = .ok (.ifCond .ne 5, 3) := by decide +kernel
theorem dX11_swapWithNext_12 : decode cX11_swapWithNext 12 = .ok (.iconst (-1), 1) := by decide +kernel
theorem dX11_swapWithNext_13 : decode cX11_swapWithNext 13 = .ok (.ireturn, 1) := by decide +kernel
theorem dX11_swapWithNext_14 : decode cX11_swapWithNext 14 = .ok (.iload_n 2, 1) := by decide +kernel
theorem dX11_swapWithNext_15 : decode cX11_swapWithNext 15 = .ok (.iconst 1, 1) := by decide +kernel
theorem dX11_swapWithNext_16 : decode cX11_swapWithNext 16 = .ok (.iadd, 1) := by decide +kernel
theorem dX11_swapWithNext_17 : decode cX11_swapWithNext 17 = .ok (.aload_n 0, 1) := by decide +kernel
theorem dX11_swapWithNext_18 : decode cX11_swapWithNext 18 = .ok (.getfield 26, 3) := by decide +kernel
theorem dX11_swapWithNext_21 : decode cX11_swapWithNext 21 = .ok (.iload_n 1, 1) := by decide +kernel
theorem dX11_swapWithNext_22 : decode cX11_swapWithNext 22 = .ok (.invokevirtual 131, 3) := by decide +kernel
theorem dX11_swapWithNext_25 : decode cX11_swapWithNext 25 = .ok (.if_icmp .lt 6, 3) := by decide +kernel
theorem dX11_swapWithNext_28 : decode cX11_swapWithNext 28 = .ok (.bipush (-2), 2) := by decide +kernel
theorem dX11_swapWithNext_30 : decode cX11_swapWithNext 30 = .ok (.ireturn, 1) := by decide +kernel
theorem dX11_swapWithNext_31 : decode cX11_swapWithNext 31 = .ok (.aload_n 0, 1) := by decide +kernel
theorem dX11_swapWithNext_32 : decode cX11_swapWithNext 32 = .ok (.getfield 26, 3) := by decide +kernel
theorem dX11_swapWithNext_35 : decode cX11_swapWithNext 35 = .ok (.iload_n 1, 1) := by decide +kernel
theorem dX11_swapWithNext_36 : decode cX11_swapWithNext 36 = .ok (.iload_n 2, 1) := by decide +kernel
theorem dX11_swapWithNext_37 : decode cX11_swapWithNext 37 = .ok (.iload_n 2, 1) := by decide +kernel
theorem dX11_swapWithNext_38 : decode cX11_swapWithNext 38 = .ok (.iconst 1, 1) := by decide +kernel
theorem dX11_swapWithNext_39 : decode cX11_swapWithNext 39 = .ok (.iadd, 1) := by decide +kernel
theorem dX11_swapWithNext_40 : decode cX11_swapWithNext 40 = .ok (.invokevirtual 262, 3) := by decide +kernel
theorem dX11_swapWithNext_43 : decode cX11_swapWithNext 43 = .ok (.aload_n 0, 1) := by decide +kernel
theorem dX11_swapWithNext_44 : decode cX11_swapWithNext 44 = .ok (.getfield 26, 3) := by decide +kernel
theorem dX11_swapWithNext_47 : decode cX11_swapWithNext 47 = .ok (.iload_n 1, 1) := by decide +kernel
theorem dX11_swapWithNext_48 : decode cX11_swapWithNext 48 = .ok (.iload_n 2, 1) := by decide +kernel
theorem dX11_swapWithNext_49 : decode cX11_swapWithNext 49 = .ok (.invokevirtual 154, 3) := by decide +kernel
theorem dX11_swapWithNext_52 : decode cX11_swapWithNext 52 = .ok (.ireturn, 1) := by decide +kernel
theorem dX11_letOut_0 : decode cX11_letOut 0 = .ok (.iload_n 1, 1) := by decide +kernel
theorem dX11_letOut_1 : decode cX11_letOut 1 = .ok (.iconst 1, 1) := by decide +kernel
theorem dX11_letOut_2 : decode cX11_letOut 2 = .ok (.if_icmp .lt 9, 3) := by decide +kernel
theorem dX11_letOut_5 : decode cX11_letOut 5 = .ok (.iload_n 1, 1) := by decide +kernel
theorem dX11_letOut_6 : decode cX11_letOut 6 = .ok (.bipush 99, 2) := by decide +kernel
theorem dX11_letOut_8 : decode cX11_letOut 8 = .ok (.if_icmp .le 5, 3) := by decide +kernel
theorem dX11_letOut_11 : decode cX11_letOut 11 = .ok (.iconst (-1), 1) := by decide +kernel
theorem dX11_letOut_12 : decode cX11_letOut 12 = .ok (.ireturn, 1) := by decide +kernel
theorem dX11_letOut_13 : decode cX11_letOut 13 = .ok (.iload_n 1, 1) := by decide +kernel
theorem dX11_letOut_14 : decode cX11_letOut 14 = .ok (.aload_n 0, 1) := by decide +kernel
theorem dX11_letOut_15 : decode cX11_letOut 15 = .ok (.getfield 26, 3) := by decide +kernel
theorem dX11_letOut_18 : decode cX11_letOut 18 = .ok (.getfield 221, 3) := by decide +kernel
theorem dX11_letOut_21 : decode cX11_letOut 21 = .ok (.if_icmp .le 6, 3) := by decide +kernel
theorem dX11_letOut_24 : decode cX11_letOut 24 = .ok (.bipush (-2), 2) := by decide +kernel
theorem dX11_letOut_26 : decode cX11_letOut 26 = .ok (.ireturn, 1) := by decide +kernel
theorem dX11_letOut_27 : decode cX11_letOut 27 = .ok (.aload_n 0, 1) := by decide +kernel
theorem dX11_letOut_28 : decode cX11_letOut 28 = .ok (.getfield 26, 3) := by decide +kernel
theorem dX11_letOut_31 : decode cX11_letOut 31 = .ok (.dup, 1) := by decide +kernel
theorem dX11_letOut_32 : decode cX11_letOut 32 = .ok (.getfield 221, 3) := by decide +kernel
theorem dX11_letOut_35 : decode cX11_letOut 35 = .ok (.iload_n 1, 1) := by decide +kernel
theorem dX11_letOut_36 : decode cX11_letOut 36 = .ok (.isub, 1) := by decide +kernel
theorem dX11_letOut_37 : decode cX11_letOut 37 = .ok (.putfield 221, 3) := by decide +kernel
theorem dX11_letOut_40 : decode cX11_letOut 40 = .ok (.aload_n 0, 1) := by decide +kernel
theorem dX11_letOut_41 : decode cX11_letOut 41 = .ok (.getfield 26, 3) := by decide +kernel
theorem dX11_letOut_44 : decode cX11_letOut 44 = .ok (.getfield 221, 3) := by decide +kernel
theorem dX11_letOut_47 : decode cX11_letOut 47 = .ok (.ireturn, 1) := by decide +kernel
theorem dX11_day_0 : decode cX11_day 0 = .ok (.aload_n 0, 1) := by decide +kernel
theorem dX11_day_1 : decode cX11_day 1 = .ok (.invokevirtual 265, 3) := by decide +kernel
theorem dX11_day_4 : decode cX11_day 4 = .ok (.istore_n 1, 1) := by decide +kernel
theorem dX11_day_5 : decode cX11_day 5 = .ok (.iload_n 1, 1) := by decide +kernel
theorem dX11_day_6 : decode cX11_day 6 = .ok (.iconst (-1), 1) := by decide +kernel
theorem dX11_day_7 : decode cX11_day 7 = .ok (.if_icmp .eq 14, 3) := by decide +kernel
theorem dX11_day_10 : decode cX11_day 10 = .ok (.aload_n 0, 1) := by decide +kernel
theorem dX11_day_11 : decode cX11_day 11 = .ok (.getfield 12, 3) := by decide +kernel
theorem dX11_day_14 : decode cX11_day 14 = .ok (.invokevirtual 128, 3) := by decide +kernel
theorem dX11_day_17 : decode cX11_day 17 = .ok (.iconst (-1), 1) := by decide +kernel
theorem dX11_day_18 : decode cX11_day 18 = .ok (.iload_n 1, 1) := by decide +kernel
theorem dX11_day_19 : decode cX11_day 19 = .ok (.isub, 1) := by decide +kernel
theorem dX11_day_20 : decode cX11_day 20 = .ok (.ireturn, 1) := by decide +kernel
theorem dX11_day_21 : decode cX11_day 21 = .ok (.aload_n 0, 1) := by decide +kernel
theorem dX11_day_22 : decode cX11_day 22 = .ok (.getfield 30, 3) := by decide +kernel
theorem dX11_day_25 : decode cX11_day 25 = .ok (.aload_n 0, 1) := by decide +kernel
theorem dX11_day_26 : decode cX11_day 26 = .ok (.getfield 26, 3) := by decide +kernel
theorem dX11_day_29 : decode cX11_day 29 = .ok (.invokevirtual 179, 3) := by decide +kernel
theorem dX11_day_32 : decode cX11_day 32 = .ok (.iconst 0, 1) := by decide +kernel
theorem dX11_day_33 : decode cX11_day 33 = .ok (.istore_n 2, 1) := by decide +kernel
theorem dX11_day_34 : decode cX11_day 34 = .ok (.iconst 0, 1) := by decide +kernel
theorem dX11_day_35 : decode cX11_day 35 = .ok (.istore_n 3, 1) := by decide +kernel
theorem dX11_day_36 : decode cX11_day 36 = .ok (.iconst 0, 1) := by decide +kernel
theorem dX11_day_37 : decode cX11_day 37 = .ok (.istore 4, 2) := by decide +kernel
theorem dX11_day_39 : decode cX11_day 39 = .ok (.iconst 0, 1) := by decide +kernel
theorem dX11_day_40 : decode cX11_day 40 = .ok (.istore 5, 2) := by decide +kernel
theorem dX11_day_42 : decode cX11_day 42 = .ok (.iload 5, 2) := by decide +kernel
theorem dX11_day_44 : decode cX11_day 44 = .ok (.bipush 60, 2) := by decide +kernel
theorem dX11_day_46 : decode cX11_day 46 = .ok (.if_icmp .ge 71, 3) := by decide +kernel
theorem dX11_day_49 : decode cX11_day 49 = .ok (.iload 4, 2) := by decide +kernel
theorem dX11_day_51 : decode cX11_day 51 = .ok (.aload_n 0, 1) := by decide +kernel
theorem dX11_day_52 : decode cX11_day 52 = .ok (.getfield 12, 3) := by decide +kernel
theorem dX11_day_55 : decode cX11_day 55 = .ok (.invokevirtual 107, 3) := by decide +kernel
theorem dX11_day_58 : decode cX11_day 58 = .ok (.if_icmp .ge 59, 3) := by decide +kernel
theorem dX11_day_61 : decode cX11_day 61 = .ok (.iload_n 3, 1) := by decide +kernel
theorem dX11_day_62 : decode cX11_day 62 = .ok (.ifCond .ne 55, 3) := by decide +kernel
theorem dX11_day_65 : decode cX11_day 65 = .ok (.aload_n 0, 1) := by decide +kernel
theorem dX11_day_66 : decode cX11_day 66 = .ok (.iload 4, 2) := by decide +kernel
theorem dX11_day_68 : decode cX11_day 68 = .ok (.invokevirtual 268, 3) := by decide +kernel
theorem dX11_day_71 : decode cX11_day 71 = .ok (.ifCond .ge 7, 3) := by decide +kernel
theorem dX11_day_74 : decode cX11_day 74 = .ok (.iconst 1, 1) := by decide +kernel
theorem dX11_day_75 : decode cX11_day 75 = .ok (.goto 4, 3) := by decide +kernel
theorem dX11_day_78 : decode cX11_day 78 = .ok (.iconst 0, 1) := by decide +kernel
theorem dX11_day_79 : decode cX11_day 79 = .ok (.istore_n 3, 1) := by decide +kernel
theorem dX11_day_80 : decode cX11_day 80 = .ok (.iload_n 2, 1) := by decide +kernel
theorem dX11_day_81 : decode cX11_day 81 = .ok (.iload_n 3, 1) := by decide +kernel
theorem dX11_day_82 : decode cX11_day 82 = .ok (.ifCond .eq 7, 3) := by decide +kernel
theorem dX11_day_85 : decode cX11_day 85 = .ok (.iconst 0, 1) := by decide +kernel
theorem dX11_day_86 : decode cX11_day 86 = .ok (.goto 4, 3) := by decide +kernel
theorem dX11_day_89 : decode cX11_day 89 = .ok (.iconst 1, 1) := by decide +kernel
theorem dX11_day_90 : decode cX11_day 90 = .ok (.iadd, 1) := by decide +kernel
theorem dX11_day_91 : decode cX11_day 91 = .ok (.istore_n 2, 1) := by decide +kernel
theorem dX11_day_92 : decode cX11_day 92 = .ok (.iload 4, 2) := by decide +kernel
theorem dX11_day_94 : decode cX11_day 94 = .ok (.iconst 1, 1) := by decide +kernel
theorem dX11_day_95 : decode cX11_day 95 = .ok (.aload_n 0, 1) := by decide +kernel
theorem dX11_day_96 : decode cX11_day 96 = .ok (.getfield 12, 3) := by decide +kernel
theorem dX11_day_99 : decode cX11_day 99 = .ok (.iload 4, 2) := by decide +kernel
theorem dX11_day_101 : decode cX11_day 101 = .ok (.invokevirtual 135, 3) := by decide +kernel
theorem dX11_day_104 : decode cX11_day 104 = .ok (.invokestatic 271, 3) := by decide +kernel
theorem dX11_day_107 : decode cX11_day 107 = .ok (.iadd, 1) := by decide +kernel
theorem dX11_day_108 : decode cX11_day 108 = .ok (.iadd, 1) := by decide +kernel
theorem dX11_day_109 : decode cX11_day 109 = .ok (.istore 4, 2) := by decide +kernel
theorem dX11_day_111 : decode cX11_day 111 = .ok (.iinc 5 1, 3) := by decide +kernel
theorem dX11_day_114 : decode cX11_day 114 = .ok (.goto (-72), 3) := by decide +kernel
theorem dX11_day_117 : decode cX11_day 117 = .ok (.aload_n 0, 1) := by decide +kernel
theorem dX11_day_118 : decode cX11_day 118 = .ok (.getfield 12, 3) := by decide +kernel
theorem dX11_day_121 : decode cX11_day 121 = .ok (.invokevirtual 128, 3) := by decide +kernel
theorem dX11_day_124 : decode cX11_day 124 = .ok (.iload_n 2, 1) := by decide +kernel
theorem dX11_day_125 : decode cX11_day 125 = .ok (.ifCond .le 14, 3) := by decide +kernel
theorem dX11_day_128 : decode cX11_day 128 = .ok (.aload_n 0, 1) := by decide +kernel
theorem dX11_day_129 : decode cX11_day 129 = .ok (.getfield 39, 3) := by decide +kernel
theorem dX11_day_132 : decode cX11_day 132 = .ok (.aload_n 0, 1) := by decide +kernel
theorem dX11_day_133 : decode cX11_day 133 = .ok (.getfield 30, 3) := by decide +kernel
theorem dX11_day_136 : decode cX11_day 136 = .ok (.invokevirtual 212, 3) := by decide +kernel
theorem dX11_day_139 : decode cX11_day 139 = .ok (.aload_n 0, 1) := by decide +kernel
theorem dX11_day_140 : decode cX11_day 140 = .ok (.getfield 19, 3) := by decide +kernel
theorem dX11_day_143 : decode cX11_day 143 = .ok (.iload_n 3, 1) := by decide +kernel
theorem dX11_day_144 : decode cX11_day 144 = .ok (.ifCond .eq 7, 3) := by decide +kernel
theorem dX11_day_147 : decode cX11_day 147 = .ok (.lconst 1, 1) := by decide +kernel
theorem dX11_day_148 : decode cX11_day 148 = .ok (.goto 4, 3) := by decide +kernel
theorem dX11_day_151 : decode cX11_day 151 = .ok (.lconst 0, 1) := by decide +kernel
theorem dX11_day_152 : decode cX11_day 152 = .ok (.aload_n 0, 1) := by decide +kernel
theorem dX11_day_153 : decode cX11_day 153 = .ok (.getfield 26, 3) := by decide +kernel
theorem dX11_day_156 : decode cX11_day 156 = .ok (.getfield 221, 3) := by decide +kernel
theorem dX11_day_159 : decode cX11_day 159 = .ok (.i2l, 1) := by decide +kernel
theorem dX11_day_160 : decode cX11_day 160 = .ok (.invokevirtual 236, 3) := by decide +kernel
theorem dX11_day_163 : decode cX11_day 163 = .ok (.iload_n 2, 1) := by decide +kernel
theorem dX11_day_164 : decode cX11_day 164 = .ok (.ireturn, 1) := by decide +kernel
theorem dX11_firstBadOfDay_0 : decode cX11_firstBadOfDay 0 = .ok (.aload_n 0, 1) := by decide +kernel
theorem dX11_firstBadOfDay_1 : decode cX11_firstBadOfDay 1 = .ok (.getfield 12, 3) := by decide +kernel
theorem dX11_firstBadOfDay_4 : decode cX11_firstBadOfDay 4 = .ok (.invokevirtual 107, 3) := by decide +kernel
theorem dX11_firstBadOfDay_7 : decode cX11_firstBadOfDay 7 = .ok (.bipush 60, 2) := by decide +kernel
theorem dX11_firstBadOfDay_9 : decode cX11_firstBadOfDay 9 = .ok (.invokestatic 171, 3) := by decide +kernel
theorem dX11_firstBadOfDay_12 : decode cX11_firstBadOfDay 12 = .ok (.istore_n 1, 1) := by decide +kernel
theorem dX11_firstBadOfDay_13 : decode cX11_firstBadOfDay 13 = .ok (.iconst 0, 1) := by decide +kernel
theorem dX11_firstBadOfDay_14 : decode cX11_firstBadOfDay 14 = .ok (.istore_n 2, 1) := by decide +kernel
theorem dX11_firstBadOfDay_15 : decode cX11_firstBadOfDay 15 = .ok (.iconst 0, 1) := by decide +kernel
theorem dX11_firstBadOfDay_16 : decode cX11_firstBadOfDay 16 = .ok (.istore_n 3, 1) := by decide +kernel
theorem dX11_firstBadOfDay_17 : decode cX11_firstBadOfDay 17 = .ok (.iload_n 3, 1) := by decide +kernel
theorem dX11_firstBadOfDay_18 : decode cX11_firstBadOfDay 18 = .ok (.bipush 60, 2) := by decide +kernel
theorem dX11_firstBadOfDay_20 : decode cX11_firstBadOfDay 20 = .ok (.if_icmp .ge 94, 3) := by decide +kernel
theorem dX11_firstBadOfDay_23 : decode cX11_firstBadOfDay 23 = .ok (.iload_n 2, 1) := by decide +kernel
theorem dX11_firstBadOfDay_24 : decode cX11_firstBadOfDay 24 = .ok (.iload_n 1, 1) := by decide +kernel
theorem dX11_firstBadOfDay_25 : decode cX11_firstBadOfDay 25 = .ok (.if_icmp .ge 89, 3) := by decide +kernel
theorem dX11_firstBadOfDay_28 : decode cX11_firstBadOfDay 28 = .ok (.aload_n 0, 1) := by decide +kernel
theorem dX11_firstBadOfDay_29 : decode cX11_firstBadOfDay 29 = .ok (.getfield 12, 3) := by decide +kernel
theorem dX11_firstBadOfDay_32 : decode cX11_firstBadOfDay 32 = .ok (.iload_n 2, 1) := by decide +kernel
theorem dX11_firstBadOfDay_33 : decode cX11_firstBadOfDay 33 = .ok (.invokevirtual 135, 3) := by decide +kernel
theorem dX11_firstBadOfDay_36 : decode cX11_firstBadOfDay 36 = .ok (.istore 4, 2) := by decide +kernel
theorem dX11_firstBadOfDay_38 : decode cX11_firstBadOfDay 38 = .ok (.iload 4, 2) := by decide +kernel
theorem dX11_firstBadOfDay_40 : decode cX11_firstBadOfDay 40 = .ok (.invokestatic 271, 3) := by decide +kernel
theorem dX11_firstBadOfDay_43 : decode cX11_firstBadOfDay 43 = .ok (.istore 5, 2) := by decide +kernel
theorem dX11_firstBadOfDay_45 : decode cX11_firstBadOfDay 45 = .ok (.iload 5, 2) := by decide +kernel
theorem dX11_firstBadOfDay_47 : decode cX11_firstBadOfDay 47 = .ok (.iconst (-1), 1) := by decide +kernel
theorem dX11_firstBadOfDay_48 : decode cX11_firstBadOfDay 48 = .ok (.if_icmp .ne 5, 3) := by decide +kernel
theorem dX11_firstBadOfDay_51 : decode cX11_firstBadOfDay 51 = .ok (.iload_n 2, 1) := by decide +kernel
theorem dX11_firstBadOfDay_52 : decode cX11_firstBadOfDay 52 = .ok (.ireturn, 1) := by decide +kernel
theorem dX11_firstBadOfDay_53 : decode cX11_firstBadOfDay 53 = .ok (.iconst 1, 1) := by decide +kernel
theorem dX11_firstBadOfDay_54 : decode cX11_firstBadOfDay 54 = .ok (.istore 6, 2) := by decide +kernel
theorem dX11_firstBadOfDay_56 : decode cX11_firstBadOfDay 56 = .ok (.iload 6, 2) := by decide +kernel
theorem dX11_firstBadOfDay_58 : decode cX11_firstBadOfDay 58 = .ok (.iload 5, 2) := by decide +kernel
theorem dX11_firstBadOfDay_60 : decode cX11_firstBadOfDay 60 = .ok (.if_icmp .gt 41, 3) := by decide +kernel
theorem dX11_firstBadOfDay_63 : decode cX11_firstBadOfDay 63 = .ok (.iload_n 2, 1) := by decide +kernel
theorem dX11_firstBadOfDay_64 : decode cX11_firstBadOfDay 64 = .ok (.iload 6, 2) := by decide +kernel
theorem dX11_firstBadOfDay_66 : decode cX11_firstBadOfDay 66 = .ok (.iadd, 1) := by decide +kernel
theorem dX11_firstBadOfDay_67 : decode cX11_firstBadOfDay 67 = .ok (.iload_n 1, 1) := by decide +kernel
theorem dX11_firstBadOfDay_68 : decode cX11_firstBadOfDay 68 = .ok (.if_icmp .ge 22, 3) := by decide +kernel
theorem dX11_firstBadOfDay_71 : decode cX11_firstBadOfDay 71 = .ok (.iload 4, 2) := by decide +kernel
theorem dX11_firstBadOfDay_73 : decode cX11_firstBadOfDay 73 = .ok (.aload_n 0, 1) := by decide +kernel
theorem dX11_firstBadOfDay_74 : decode cX11_firstBadOfDay 74 = .ok (.getfield 12, 3) := by decide +kernel
theorem dX11_firstBadOfDay_77 : decode cX11_firstBadOfDay 77 = .ok (.iload_n 2, 1) := by decide +kernel
theorem dX11_firstBadOfDay_78 : decode cX11_firstBadOfDay 78 = .ok (.iload 6, 2) := by decide +kernel
theorem dX11_firstBadOfDay_80 : decode cX11_firstBadOfDay 80 = .ok (.iadd, 1) := by decide +kernel
theorem dX11_firstBadOfDay_81 : decode cX11_firstBadOfDay 81 = .ok (.invokevirtual 135, 3) := by decide +kernel
theorem dX11_firstBadOfDay_84 : decode cX11_firstBadOfDay 84 = .ok (.invokestatic 274, 3) := by decide +kernel
theorem dX11_firstBadOfDay_87 : decode cX11_firstBadOfDay 87 = .ok (.ifCond .ne 8, 3) := by decide +kernel
theorem dX11_firstBadOfDay_90 : decode cX11_firstBadOfDay 90 = .ok (.iload_n 2, 1) := by decide +kernel
theorem dX11_firstBadOfDay_91 : decode cX11_firstBadOfDay 91 = .ok (.iload 6, 2) := by decide +kernel
theorem dX11_firstBadOfDay_93 : decode cX11_firstBadOfDay 93 = .ok (.iadd, 1) := by decide +kernel
theorem dX11_firstBadOfDay_94 : decode cX11_firstBadOfDay 94 = .ok (.ireturn, 1) := by decide +kernel
theorem dX11_firstBadOfDay_95 : decode cX11_firstBadOfDay 95 = .ok (.iinc 6 1, 3) := by decide +kernel
theorem dX11_firstBadOfDay_98 : decode cX11_firstBadOfDay 98 = .ok (.goto (-42), 3) := by decide +kernel
theorem dX11_firstBadOfDay_101 : decode cX11_firstBadOfDay 101 = .ok (.iload_n 2, 1) := by decide +kernel
theorem dX11_firstBadOfDay_102 : decode cX11_firstBadOfDay 102 = .ok (.iconst 1, 1) := by decide +kernel
theorem dX11_firstBadOfDay_103 : decode cX11_firstBadOfDay 103 = .ok (.iload 5, 2) := by decide +kernel
theorem dX11_firstBadOfDay_105 : decode cX11_firstBadOfDay 105 = .ok (.iadd, 1) := by decide +kernel
theorem dX11_firstBadOfDay_106 : decode cX11_firstBadOfDay 106 = .ok (.iadd, 1) := by decide +kernel
theorem dX11_firstBadOfDay_107 : decode cX11_firstBadOfDay 107 = .ok (.istore_n 2, 1) := by decide +kernel
theorem dX11_firstBadOfDay_108 : decode cX11_firstBadOfDay 108 = .ok (.iinc 3 1, 3) := by decide +kernel
theorem dX11_firstBadOfDay_111 : decode cX11_firstBadOfDay 111 = .ok (.goto (-94), 3) := by decide +kernel
theorem dX11_firstBadOfDay_114 : decode cX11_firstBadOfDay 114 = .ok (.aload_n 0, 1) := by decide +kernel
theorem dX11_firstBadOfDay_115 : decode cX11_firstBadOfDay 115 = .ok (.getfield 12, 3) := by decide +kernel
theorem dX11_firstBadOfDay_118 : decode cX11_firstBadOfDay 118 = .ok (.invokevirtual 107, 3) := by decide +kernel
theorem dX11_firstBadOfDay_121 : decode cX11_firstBadOfDay 121 = .ok (.bipush 60, 2) := by decide +kernel
theorem dX11_firstBadOfDay_123 : decode cX11_firstBadOfDay 123 = .ok (.if_icmp .le 8, 3) := by decide +kernel
theorem dX11_firstBadOfDay_126 : decode cX11_firstBadOfDay 126 = .ok (.bipush 60, 2) := by decide +kernel
theorem dX11_firstBadOfDay_128 : decode cX11_firstBadOfDay 128 = .ok (.goto 4, 3) := by decide +kernel
theorem dX11_firstBadOfDay_131 : decode cX11_firstBadOfDay 131 = .ok (.iconst (-1), 1) := by decide +kernel
theorem dX11_firstBadOfDay_132 : decode cX11_firstBadOfDay 132 = .ok (.ireturn, 1) := by decide +kernel
theorem dX11_digitsBehind_0 : decode cX11_digitsBehind 0 = .ok (.iload_n 0, 1) := by decide +kernel
theorem dX11_digitsBehind_1 : decode cX11_digitsBehind 1 = .ok (.lookupswitch 73 #[(42, 67), (103, 69), (108, 71), (110, 69), (111, 71), (115, 69), (120, 71)], 67) := by decide +kernel
theorem dX11_digitsBehind_68 : decode cX11_digitsBehind 68 = .ok (.iconst 0, 1) := by decide +kernel
theorem dX11_digitsBehind_69 : decode cX11_digitsBehind 69 = .ok (.ireturn, 1) := by decide +kernel
theorem dX11_digitsBehind_70 : decode cX11_digitsBehind 70 = .ok (.iconst 1, 1) := by decide +kernel
theorem dX11_digitsBehind_71 : decode cX11_digitsBehind 71 = .ok (.ireturn, 1) := by decide +kernel
theorem dX11_digitsBehind_72 : decode cX11_digitsBehind 72 = .ok (.iconst 2, 1) := by decide +kernel
theorem dX11_digitsBehind_73 : decode cX11_digitsBehind 73 = .ok (.ireturn, 1) := by decide +kernel
theorem dX11_digitsBehind_74 : decode cX11_digitsBehind 74 = .ok (.iconst (-1), 1) := by decide +kernel
theorem dX11_digitsBehind_75 : decode cX11_digitsBehind 75 = .ok (.ireturn, 1) := by decide +kernel
theorem dX11_mayStandBehind_0 : decode cX11_mayStandBehind 0 = .ok (.iload_n 0, 1) := by decide +kernel
theorem dX11_mayStandBehind_1 : decode cX11_mayStandBehind 1 = .ok (.bipush 115, 2) := by decide +kernel
theorem dX11_mayStandBehind_3 : decode cX11_mayStandBehind 3 = .ok (.if_icmp .ne 21, 3) := by decide +kernel
theorem dX11_mayStandBehind_6 : decode cX11_mayStandBehind 6 = .ok (.iload_n 1, 1) := by decide +kernel
theorem dX11_mayStandBehind_7 : decode cX11_mayStandBehind 7 = .ok (.bipush 49, 2) := by decide +kernel
theorem dX11_mayStandBehind_9 : decode cX11_mayStandBehind 9 = .ok (.if_icmp .lt 13, 3) := by decide +kernel
theorem dX11_mayStandBehind_12 : decode cX11_mayStandBehind 12 = .ok (.iload_n 1, 1) := by decide +kernel
theorem dX11_mayStandBehind_13 : decode cX11_mayStandBehind 13 = .ok (.bipush 51, 2) := by decide +kernel
theorem dX11_mayStandBehind_15 : decode cX11_mayStandBehind 15 = .ok (.if_icmp .gt 7, 3) := by decide +kernel
theorem dX11_mayStandBehind_18 : decode cX11_mayStandBehind 18 = .ok (.iconst 1, 1) := by decide +kernel
theorem dX11_mayStandBehind_19 : decode cX11_mayStandBehind 19 = .ok (.goto 4, 3) := by decide +kernel
theorem dX11_mayStandBehind_22 : decode cX11_mayStandBehind 22 = .ok (.iconst 0, 1) := by decide +kernel
theorem dX11_mayStandBehind_23 : decode cX11_mayStandBehind 23 = .ok (.ireturn, 1) := by decide +kernel
theorem dX11_mayStandBehind_24 : decode cX11_mayStandBehind 24 = .ok (.iload_n 1, 1) := by decide +kernel
theorem dX11_mayStandBehind_25 : decode cX11_mayStandBehind 25 = .ok (.invokestatic 277, 3) := by decide +kernel
theorem dX11_mayStandBehind_28 : decode cX11_mayStandBehind 28 = .ok (.ireturn, 1) := by decide +kernel
theorem dX11_isDigit_0 : decode cX11_isDigit 0 = .ok (.iload_n 0, 1) := by decide +kernel
theorem dX11_isDigit_1 : decode cX11_isDigit 1 = .ok (.bipush 48, 2) := by decide +kernel
theorem dX11_isDigit_3 : decode cX11_isDigit 3 = .ok (.if_icmp .lt 13, 3) := by decide +kernel
theorem dX11_isDigit_6 : decode cX11_isDigit 6 = .ok (.iload_n 0, 1) := by decide +kernel
theorem dX11_isDigit_7 : decode cX11_isDigit 7 = .ok (.bipush 57, 2) := by decide +kernel
theorem dX11_isDigit_9 : decode cX11_isDigit 9 = .ok (.if_icmp .gt 7, 3) := by decide +kernel
theorem dX11_isDigit_12 : decode cX11_isDigit 12 = .ok (.iconst 1, 1) := by decide +kernel
theorem dX11_isDigit_13 : decode cX11_isDigit 13 = .ok (.goto 4, 3) := by decide +kernel
theorem dX11_isDigit_16 : decode cX11_isDigit 16 = .ok (.iconst 0, 1) := by decide +kernel
theorem dX11_isDigit_17 : decode cX11_isDigit 17 = .ok (.ireturn, 1) := by decide +kernel
theorem dX11_act_0 : decode cX11_act 0 = .ok (.aload_n 0, 1) := by decide +kernel
theorem dX11_act_1 : decode cX11_act 1 = .ok (.getfield 12, 3) := by decide +kernel
theorem dX11_act_4 : decode cX11_act 4 = .ok (.iload_n 1, 1) := by decide +kernel
theorem dX11_act_5 : decode cX11_act 5 = .ok (.iconst 1, 1) := by decide +kernel
theorem dX11_act_6 : decode cX11_act 6 = .ok (.iadd, 1) := by decide +kernel
theorem dX11_act_7 : decode cX11_act 7 = .ok (.invokevirtual 135, 3) := by decide +kernel
theorem dX11_act_10 : decode cX11_act 10 = .ok (.bipush 48, 2) := by decide +kernel
theorem dX11_act_12 : decode cX11_act 12 = .ok (.isub, 1) := by decide +kernel
theorem dX11_act_13 : decode cX11_act 13 = .ok (.istore_n 2, 1) := by decide +kernel
theorem dX11_act_14 : decode cX11_act 14 = .ok (.aload_n 0, 1) := by decide +kernel
theorem dX11_act_15 : decode cX11_act 15 = .ok (.getfield 12, 3) := by decide +kernel
theorem dX11_act_18 : decode cX11_act 18 = .ok (.iload_n 1, 1) := by decide +kernel
theorem dX11_act_19 : decode cX11_act 19 = .ok (.iconst 2, 1) := by decide +kernel
theorem dX11_act_20 : decode cX11_act 20 = .ok (.iadd, 1) := by decide +kernel
theorem dX11_act_21 : decode cX11_act 21 = .ok (.invokevirtual 135, 3) := by decide +kernel
theorem dX11_act_24 : decode cX11_act 24 = .ok (.bipush 48, 2) := by decide +kernel
theorem dX11_act_26 : decode cX11_act 26 = .ok (.isub, 1) := by decide +kernel
theorem dX11_act_27 : decode cX11_act 27 = .ok (.istore_n 3, 1) := by decide +kernel
theorem dX11_act_28 : decode cX11_act 28 = .ok (.aload_n 0, 1) := by decide +kernel
theorem dX11_act_29 : decode cX11_act 29 = .ok (.getfield 12, 3) := by decide +kernel
theorem dX11_act_32 : decode cX11_act 32 = .ok (.iload_n 1, 1) := by decide +kernel
theorem dX11_act_33 : decode cX11_act 33 = .ok (.invokevirtual 135, 3) := by decide +kernel
theorem dX11_act_36 : decode cX11_act 36 = .ok (.lookupswitch 116 #[(42, 68), (103, 79), (108, 91), (110, 73), (111, 105), (115, 85), (120, 98)], 68) := by decide +kernel
theorem dX11_act_104 : decode cX11_act 104 = .ok (.aload_n 0, 1) := by decide +kernel
theorem dX11_act_105 : decode cX11_act 105 = .ok (.invokevirtual 182, 3) := by decide +kernel
theorem dX11_act_108 : decode cX11_act 108 = .ok (.ireturn, 1) := by decide +kernel
theorem dX11_act_109 : decode cX11_act 109 = .ok (.aload_n 0, 1) := by decide +kernel
theorem dX11_act_110 : decode cX11_act 110 = .ok (.iload_n 2, 1) := by decide +kernel
theorem dX11_act_111 : decode cX11_act 111 = .ok (.invokevirtual 194, 3) := by decide +kernel
theorem dX11_act_114 : decode cX11_act 114 = .ok (.ireturn, 1) := by decide +kernel
theorem dX11_act_115 : decode cX11_act 115 = .ok (.aload_n 0, 1) := by decide +kernel
theorem dX11_act_116 : decode cX11_act 116 = .ok (.iload_n 2, 1) := by decide +kernel
theorem dX11_act_117 : decode cX11_act 117 = .ok (.invokevirtual 197, 3) := by decide +kernel
theorem dX11_act_120 : decode cX11_act 120 = .ok (.ireturn, 1) := by decide +kernel
theorem dX11_act_121 : decode cX11_act 121 = .ok (.aload_n 0, 1) := by decide +kernel
theorem dX11_act_122 : decode cX11_act 122 = .ok (.iload_n 2, 1) := by decide +kernel
theorem dX11_act_123 : decode cX11_act 123 = .ok (.invokevirtual 200, 3) := by decide +kernel
theorem dX11_act_126 : decode cX11_act 126 = .ok (.ireturn, 1) := by decide +kernel
theorem dX11_act_127 : decode cX11_act 127 = .ok (.aload_n 0, 1) := by decide +kernel
theorem dX11_act_128 : decode cX11_act 128 = .ok (.iload_n 2, 1) := by decide +kernel
theorem dX11_act_129 : decode cX11_act 129 = .ok (.iload_n 3, 1) := by decide +kernel
theorem dX11_act_130 : decode cX11_act 130 = .ok (.invokevirtual 203, 3) := by decide +kernel
theorem dX11_act_133 : decode cX11_act 133 = .ok (.ireturn, 1) := by decide +kernel
theorem dX11_act_134 : decode cX11_act 134 = .ok (.aload_n 0, 1) := by decide +kernel
theorem dX11_act_135 : decode cX11_act 135 = .ok (.iload_n 2, 1) := by decide +kernel
theorem dX11_act_136 : decode cX11_act 136 = .ok (.iload_n 3, 1) := by decide +kernel
theorem dX11_act_137 : decode cX11_act 137 = .ok (.invokevirtual 206, 3) := by decide +kernel
theorem dX11_act_140 : decode cX11_act 140 = .ok (.ireturn, 1) := by decide +kernel
theorem dX11_act_141 : decode cX11_act 141 = .ok (.aload_n 0, 1) := by decide +kernel
theorem dX11_act_142 : decode cX11_act 142 = .ok (.bipush 10, 2) := by decide +kernel
theorem dX11_act_144 : decode cX11_act 144 = .ok (.iload_n 2, 1) := by decide +kernel
theorem dX11_act_145 : decode cX11_act 145 = .ok (.imul, 1) := by decide +kernel
theorem dX11_act_146 : decode cX11_act 146 = .ok (.iload_n 3, 1) := by decide +kernel
theorem dX11_act_147 : decode cX11_act 147 = .ok (.iadd, 1) := by decide +kernel
theorem dX11_act_148 : decode cX11_act 148 = .ok (.invokevirtual 209, 3) := by decide +kernel
theorem dX11_act_151 : decode cX11_act 151 = .ok (.ireturn, 1) := by decide +kernel
theorem dX11_act_152 : decode cX11_act 152 = .ok (.iconst (-1), 1) := by decide +kernel
theorem dX11_act_153 : decode cX11_act 153 = .ok (.ireturn, 1) := by decide +kernel
theorem dX11_undo_0 : decode cX11_undo 0 = .ok (.aload_n 0, 1) := by decide +kernel
theorem dX11_undo_1 : decode cX11_undo 1 = .ok (.getfield 39, 3) := by decide +kernel
theorem dX11_undo_4 : decode cX11_undo 4 = .ok (.aload_n 0, 1) := by decide +kernel
theorem dX11_undo_5 : decode cX11_undo 5 = .ok (.getfield 26, 3) := by decide +kernel
theorem dX11_undo_8 : decode cX11_undo 8 = .ok (.invokevirtual 280, 3) := by decide +kernel
theorem dX11_undo_11 : decode cX11_undo 11 = .ok (.ifCond .eq 13, 3) := by decide +kernel
theorem dX11_undo_14 : decode cX11_undo 14 = .ok (.aload_n 0, 1) := by decide +kernel
theorem dX11_undo_15 : decode cX11_undo 15 = .ok (.getfield 39, 3) := by decide +kernel
theorem dX11_undo_18 : decode cX11_undo 18 = .ok (.invokevirtual 284, 3) := by decide +kernel
theorem dX11_undo_21 : decode cX11_undo 21 = .ok (.goto 4, 3) := by decide +kernel
theorem dX11_undo_24 : decode cX11_undo 24 = .ok (.iconst (-1), 1) := by decide +kernel
theorem dX11_undo_25 : decode cX11_undo 25 = .ok (.ireturn, 1) := by decide +kernel
theorem dX11_needs_0 : decode cX11_needs 0 = .ok (.aload_n 0, 1) := by decide +kernel
theorem dX11_needs_1 : decode cX11_needs 1 = .ok (.getfield 26, 3) := by decide +kernel
theorem dX11_needs_4 : decode cX11_needs 4 = .ok (.invokevirtual 245, 3) := by decide +kernel
theorem dX11_needs_7 : decode cX11_needs 7 = .ok (.ifCond .eq 6, 3) := by decide +kernel
theorem dX11_needs_10 : decode cX11_needs 10 = .ok (.bipush (-2), 2) := by decide +kernel
theorem dX11_needs_12 : decode cX11_needs 12 = .ok (.ireturn, 1) := by decide +kernel
theorem dX11_needs_13 : decode cX11_needs 13 = .ok (.aload_n 0, 1) := by decide +kernel
theorem dX11_needs_14 : decode cX11_needs 14 = .ok (.getfield 26, 3) := by decide +kernel
theorem dX11_needs_17 : decode cX11_needs 17 = .ok (.iconst 0, 1) := by decide +kernel
theorem dX11_needs_18 : decode cX11_needs 18 = .ok (.invokevirtual 215, 3) := by decide +kernel
theorem dX11_needs_21 : decode cX11_needs 21 = .ok (.istore_n 1, 1) := by decide +kernel
theorem dX11_needs_22 : decode cX11_needs 22 = .ok (.aload_n 0, 1) := by decide +kernel
theorem dX11_needs_23 : decode cX11_needs 23 = .ok (.getfield 26, 3) := by decide +kernel
theorem dX11_needs_26 : decode cX11_needs 26 = .ok (.iconst 1, 1) := by decide +kernel
theorem dX11_needs_27 : decode cX11_needs 27 = .ok (.invokevirtual 215, 3) := by decide +kernel
theorem dX11_needs_30 : decode cX11_needs 30 = .ok (.istore_n 2, 1) := by decide +kernel
theorem dX11_needs_31 : decode cX11_needs 31 = .ok (.aload_n 0, 1) := by decide +kernel
theorem dX11_needs_32 : decode cX11_needs 32 = .ok (.getfield 19, 3) := by decide +kernel
theorem dX11_needs_35 : decode cX11_needs 35 = .ok (.aload_n 0, 1) := by decide +kernel
theorem dX11_needs_36 : decode cX11_needs 36 = .ok (.getfield 26, 3) := by decide +kernel
theorem dX11_needs_39 : decode cX11_needs 39 = .ok (.iconst 0, 1) := by decide +kernel
theorem dX11_needs_40 : decode cX11_needs 40 = .ok (.iload_n 1, 1) := by decide +kernel
theorem dX11_needs_41 : decode cX11_needs 41 = .ok (.invokevirtual 168, 3) := by decide +kernel
theorem dX11_needs_44 : decode cX11_needs 44 = .ok (.i2l, 1) := by decide +kernel
theorem dX11_needs_45 : decode cX11_needs 45 = .ok (.aload_n 0, 1) := by decide +kernel
theorem dX11_needs_46 : decode cX11_needs 46 = .ok (.getfield 26, 3) := by decide +kernel
theorem dX11_needs_49 : decode cX11_needs 49 = .ok (.iconst 1, 1) := by decide +kernel
theorem dX11_needs_50 : decode cX11_needs 50 = .ok (.iload_n 2, 1) := by decide +kernel
theorem dX11_needs_51 : decode cX11_needs 51 = .ok (.invokevirtual 168, 3) := by decide +kernel
theorem dX11_needs_54 : decode cX11_needs 54 = .ok (.i2l, 1) := by decide +kernel
theorem dX11_needs_55 : decode cX11_needs 55 = .ok (.invokevirtual 236, 3) := by decide +kernel
theorem dX11_needs_58 : decode cX11_needs 58 = .ok (.aload_n 0, 1) := by decide +kernel
theorem dX11_needs_59 : decode cX11_needs 59 = .ok (.getfield 26, 3) := by decide +kernel
theorem dX11_needs_62 : decode cX11_needs 62 = .ok (.iload_n 1, 1) := by decide +kernel
theorem dX11_needs_63 : decode cX11_needs 63 = .ok (.iload_n 2, 1) := by decide +kernel
theorem dX11_needs_64 : decode cX11_needs 64 = .ok (.invokevirtual 218, 3) := by decide +kernel
theorem dX11_needs_67 : decode cX11_needs 67 = .ok (.ireturn, 1) := by decide +kernel
theorem dX11_later_0 : decode cX11_later 0 = .ok (.iload_n 1, 1) := by decide +kernel
theorem dX11_later_1 : decode cX11_later 1 = .ok (.ifCond .lt 9, 3) := by decide +kernel
theorem dX11_later_4 : decode cX11_later 4 = .ok (.iload_n 1, 1) := by decide +kernel
theorem dX11_later_5 : decode cX11_later 5 = .ok (.bipush 99, 2) := by decide +kernel
theorem dX11_later_7 : decode cX11_later 7 = .ok (.if_icmp .le 5, 3) := by decide +kernel
theorem dX11_later_10 : decode cX11_later 10 = .ok (.iconst (-1), 1) := by decide +kernel
theorem dX11_later_11 : decode cX11_later 11 = .ok (.ireturn, 1) := by decide +kernel
theorem dX11_later_12 : decode cX11_later 12 = .ok (.aload_n 0, 1) := by decide +kernel
theorem dX11_later_13 : decode cX11_later 13 = .ok (.getfield 33, 3) := by decide +kernel
theorem dX11_later_16 : decode cX11_later 16 = .ok (.aload_n 0, 1) := by decide +kernel
theorem dX11_later_17 : decode cX11_later 17 = .ok (.getfield 26, 3) := by decide +kernel
theorem dX11_later_20 : decode cX11_later 20 = .ok (.invokevirtual 179, 3) := by decide +kernel
theorem dX11_later_23 : decode cX11_later 23 = .ok (.iconst 0, 1) := by decide +kernel
theorem dX11_later_24 : decode cX11_later 24 = .ok (.istore_n 2, 1) := by decide +kernel
theorem dX11_later_25 : decode cX11_later 25 = .ok (.iload_n 2, 1) := by decide +kernel
theorem dX11_later_26 : decode cX11_later 26 = .ok (.iload_n 1, 1) := by decide +kernel
theorem dX11_later_27 : decode cX11_later 27 = .ok (.if_icmp .ge 21, 3) := by decide +kernel
theorem dX11_later_30 : decode cX11_later 30 = .ok (.aload_n 0, 1) := by decide +kernel
theorem dX11_later_31 : decode cX11_later 31 = .ok (.getfield 33, 3) := by decide +kernel
theorem dX11_later_34 : decode cX11_later 34 = .ok (.aload_n 0, 1) := by decide +kernel
theorem dX11_later_35 : decode cX11_later 35 = .ok (.getfield 50, 3) := by decide +kernel
theorem dX11_later_38 : decode cX11_later 38 = .ok (.invokevirtual 249, 3) := by decide +kernel
theorem dX11_later_41 : decode cX11_later 41 = .ok (.pop, 1) := by decide +kernel
theorem dX11_later_42 : decode cX11_later 42 = .ok (.iinc 2 1, 3) := by decide +kernel
theorem dX11_later_45 : decode cX11_later 45 = .ok (.goto (-20), 3) := by decide +kernel
theorem dX11_later_48 : decode cX11_later 48 = .ok (.aload_n 0, 1) := by decide +kernel
theorem dX11_later_49 : decode cX11_later 49 = .ok (.getfield 19, 3) := by decide +kernel
theorem dX11_later_52 : decode cX11_later 52 = .ok (.aload_n 0, 1) := by decide +kernel
theorem dX11_later_53 : decode cX11_later 53 = .ok (.getfield 33, 3) := by decide +kernel
theorem dX11_later_56 : decode cX11_later 56 = .ok (.getfield 287, 3) := by decide +kernel
theorem dX11_later_59 : decode cX11_later 59 = .ok (.i2l, 1) := by decide +kernel
theorem dX11_later_60 : decode cX11_later 60 = .ok (.aload_n 0, 1) := by decide +kernel
theorem dX11_later_61 : decode cX11_later 61 = .ok (.getfield 33, 3) := by decide +kernel
theorem dX11_later_64 : decode cX11_later 64 = .ok (.getfield 290, 3) := by decide +kernel
theorem dX11_later_67 : decode cX11_later 67 = .ok (.i2l, 1) := by decide +kernel
theorem dX11_later_68 : decode cX11_later 68 = .ok (.aload_n 0, 1) := by decide +kernel
theorem dX11_later_69 : decode cX11_later 69 = .ok (.getfield 33, 3) := by decide +kernel
theorem dX11_later_72 : decode cX11_later 72 = .ok (.iconst 0, 1) := by decide +kernel
theorem dX11_later_73 : decode cX11_later 73 = .ok (.invokevirtual 131, 3) := by decide +kernel
theorem dX11_later_76 : decode cX11_later 76 = .ok (.i2l, 1) := by decide +kernel
theorem dX11_later_77 : decode cX11_later 77 = .ok (.aload_n 0, 1) := by decide +kernel
theorem dX11_later_78 : decode cX11_later 78 = .ok (.getfield 33, 3) := by decide +kernel
theorem dX11_later_81 : decode cX11_later 81 = .ok (.iconst 1, 1) := by decide +kernel
theorem dX11_later_82 : decode cX11_later 82 = .ok (.invokevirtual 131, 3) := by decide +kernel
theorem dX11_later_85 : decode cX11_later 85 = .ok (.i2l, 1) := by decide +kernel
theorem dX11_later_86 : decode cX11_later 86 = .ok (.invokevirtual 293, 3) := by decide +kernel
theorem dX11_later_89 : decode cX11_later 89 = .ok (.aload_n 0, 1) := by decide +kernel
theorem dX11_later_90 : decode cX11_later 90 = .ok (.getfield 33, 3) := by decide +kernel
theorem dX11_later_93 : decode cX11_later 93 = .ok (.getfield 221, 3) := by decide +kernel
theorem dX11_later_96 : decode cX11_later 96 = .ok (.ireturn, 1) := by decide +kernel
theorem dX11_done_0 : decode cX11_done 0 = .ok (.aload_n 0, 1) := by decide +kernel
theorem dX11_done_1 : decode cX11_done 1 = .ok (.getfield 33, 3) := by decide +kernel
theorem dX11_done_4 : decode cX11_done 4 = .ok (.aload_n 0, 1) := by decide +kernel
theorem dX11_done_5 : decode cX11_done 5 = .ok (.getfield 26, 3) := by decide +kernel
theorem dX11_done_8 : decode cX11_done 8 = .ok (.invokevirtual 179, 3) := by decide +kernel
theorem dX11_done_11 : decode cX11_done 11 = .ok (.aload_n 0, 1) := by decide +kernel
theorem dX11_done_12 : decode cX11_done 12 = .ok (.bipush 99, 2) := by decide +kernel
theorem dX11_done_14 : decode cX11_done 14 = .ok (.invokevirtual 296, 3) := by decide +kernel
theorem dX11_done_17 : decode cX11_done 17 = .ok (.istore_n 1, 1) := by decide +kernel
theorem dX11_done_18 : decode cX11_done 18 = .ok (.iload_n 1, 1) := by decide +kernel
theorem dX11_done_19 : decode cX11_done 19 = .ok (.bipush 99, 2) := by decide +kernel
theorem dX11_done_21 : decode cX11_done 21 = .ok (.if_icmp .le 6, 3) := by decide +kernel
theorem dX11_done_24 : decode cX11_done 24 = .ok (.bipush (-2), 2) := by decide +kernel
theorem dX11_done_26 : decode cX11_done 26 = .ok (.ireturn, 1) := by decide +kernel
theorem dX11_done_27 : decode cX11_done 27 = .ok (.aload_n 0, 1) := by decide +kernel
theorem dX11_done_28 : decode cX11_done 28 = .ok (.getfield 19, 3) := by decide +kernel
theorem dX11_done_31 : decode cX11_done 31 = .ok (.aload_n 0, 1) := by decide +kernel
theorem dX11_done_32 : decode cX11_done 32 = .ok (.getfield 33, 3) := by decide +kernel
theorem dX11_done_35 : decode cX11_done 35 = .ok (.getfield 221, 3) := by decide +kernel
theorem dX11_done_38 : decode cX11_done 38 = .ok (.i2l, 1) := by decide +kernel
theorem dX11_done_39 : decode cX11_done 39 = .ok (.aload_n 0, 1) := by decide +kernel
theorem dX11_done_40 : decode cX11_done 40 = .ok (.getfield 33, 3) := by decide +kernel
theorem dX11_done_43 : decode cX11_done 43 = .ok (.getfield 299, 3) := by decide +kernel
theorem dX11_done_46 : decode cX11_done 46 = .ok (.aload_n 0, 1) := by decide +kernel
theorem dX11_done_47 : decode cX11_done 47 = .ok (.getfield 26, 3) := by decide +kernel
theorem dX11_done_50 : decode cX11_done 50 = .ok (.getfield 299, 3) := by decide +kernel
theorem dX11_done_53 : decode cX11_done 53 = .ok (.isub, 1) := by decide +kernel
theorem dX11_done_54 : decode cX11_done 54 = .ok (.i2l, 1) := by decide +kernel
theorem dX11_done_55 : decode cX11_done 55 = .ok (.invokevirtual 236, 3) := by decide +kernel
theorem dX11_done_58 : decode cX11_done 58 = .ok (.iload_n 1, 1) := by decide +kernel
theorem dX11_done_59 : decode cX11_done 59 = .ok (.ireturn, 1) := by decide +kernel
theorem dX11_runTillNobodyWaits_0 : decode cX11_runTillNobodyWaits 0 = .ok (.iconst 0, 1) := by decide +kernel
theorem dX11_runTillNobodyWaits_1 : decode cX11_runTillNobodyWaits 1 = .ok (.istore_n 2, 1) := by decide +kernel
theorem dX11_runTillNobodyWaits_2 : decode cX11_runTillNobodyWaits 2 = .ok (.iload_n 2, 1) := by decide +kernel
theorem dX11_runTillNobodyWaits_3 : decode cX11_runTillNobodyWaits 3 = .ok (.iload_n 1, 1) := by decide +kernel
theorem dX11_runTillNobodyWaits_4 : decode cX11_runTillNobodyWaits 4 = .ok (.if_icmp .ge 33, 3) := by decide +kernel
theorem dX11_runTillNobodyWaits_7 : decode cX11_runTillNobodyWaits 7 = .ok (.aload_n 0, 1) := by decide +kernel
theorem dX11_runTillNobodyWaits_8 : decode cX11_runTillNobodyWaits 8 = .ok (.getfield 33, 3) := by decide +kernel
theorem dX11_runTillNobodyWaits_11 : decode cX11_runTillNobodyWaits 11 = .ok (.invokevirtual 245, 3) := by decide +kernel
theorem dX11_runTillNobodyWaits_14 : decode cX11_runTillNobodyWaits 14 = .ok (.ifCond .eq 5, 3) := by decide +kernel
theorem dX11_runTillNobodyWaits_17 : decode cX11_runTillNobodyWaits 17 = .ok (.iload_n 2, 1) := by decide +kernel
theorem dX11_runTillNobodyWaits_18 : decode cX11_runTillNobodyWaits 18 = .ok (.ireturn, 1) := by decide +kernel
theorem dX11_runTillNobodyWaits_19 : decode cX11_runTillNobodyWaits 19 = .ok (.aload_n 0, 1) := by decide +kernel
theorem dX11_runTillNobodyWaits_20 : decode cX11_runTillNobodyWaits 20 = .ok (.getfield 33, 3) := by decide +kernel
theorem dX11_runTillNobodyWaits_23 : decode cX11_runTillNobodyWaits 23 = .ok (.aload_n 0, 1) := by decide +kernel
theorem dX11_runTillNobodyWaits_24 : decode cX11_runTillNobodyWaits 24 = .ok (.getfield 50, 3) := by decide +kernel
theorem dX11_runTillNobodyWaits_27 : decode cX11_runTillNobodyWaits 27 = .ok (.invokevirtual 249, 3) := by decide +kernel
theorem dX11_runTillNobodyWaits_30 : decode cX11_runTillNobodyWaits 30 = .ok (.pop, 1) := by decide +kernel
theorem dX11_runTillNobodyWaits_31 : decode cX11_runTillNobodyWaits 31 = .ok (.iinc 2 1, 3) := by decide +kernel
theorem dX11_runTillNobodyWaits_34 : decode cX11_runTillNobodyWaits 34 = .ok (.goto (-32), 3) := by decide +kernel
theorem dX11_runTillNobodyWaits_37 : decode cX11_runTillNobodyWaits 37 = .ok (.aload_n 0, 1) := by decide +kernel
theorem dX11_runTillNobodyWaits_38 : decode cX11_runTillNobodyWaits 38 = .ok (.getfield 33, 3) := by decide +kernel
theorem dX11_runTillNobodyWaits_41 : decode cX11_runTillNobodyWaits 41 = .ok (.invokevirtual 245, 3) := by decide +kernel
theorem dX11_runTillNobodyWaits_44 : decode cX11_runTillNobodyWaits 44 = .ok (.ifCond .eq 7, 3) := by decide +kernel
theorem dX11_runTillNobodyWaits_47 : decode cX11_runTillNobodyWaits 47 = .ok (.iload_n 1, 1) := by decide +kernel
theorem dX11_runTillNobodyWaits_48 : decode cX11_runTillNobodyWaits 48 = .ok (.goto 6, 3) := by decide +kernel
theorem dX11_runTillNobodyWaits_51 : decode cX11_runTillNobodyWaits 51 = .ok (.iload_n 1, 1) := by decide +kernel
theorem dX11_runTillNobodyWaits_52 : decode cX11_runTillNobodyWaits 52 = .ok (.iconst 1, 1) := by decide +kernel
theorem dX11_runTillNobodyWaits_53 : decode cX11_runTillNobodyWaits 53 = .ok (.iadd, 1) := by decide +kernel
theorem dX11_runTillNobodyWaits_54 : decode cX11_runTillNobodyWaits 54 = .ok (.ireturn, 1) := by decide +kernel
theorem dX11_dry_0 : decode cX11_dry 0 = .ok (.iload_n 1, 1) := by decide +kernel
theorem dX11_dry_1 : decode cX11_dry 1 = .ok (.ifCond .lt 10, 3) := by decide +kernel
theorem dX11_dry_4 : decode cX11_dry 4 = .ok (.iload_n 1, 1) := by decide +kernel
theorem dX11_dry_5 : decode cX11_dry 5 = .ok (.sipush 999, 3) := by decide +kernel
theorem dX11_dry_8 : decode cX11_dry 8 = .ok (.if_icmp .le 5, 3) := by decide +kernel
theorem dX11_dry_11 : decode cX11_dry 11 = .ok (.iconst (-1), 1) := by decide +kernel
theorem dX11_dry_12 : decode cX11_dry 12 = .ok (.ireturn, 1) := by decide +kernel
theorem dX11_dry_13 : decode cX11_dry 13 = .ok (.aload_n 0, 1) := by decide +kernel
theorem dX11_dry_14 : decode cX11_dry 14 = .ok (.getfield 33, 3) := by decide +kernel
theorem dX11_dry_17 : decode cX11_dry 17 = .ok (.aload_n 0, 1) := by decide +kernel
theorem dX11_dry_18 : decode cX11_dry 18 = .ok (.getfield 26, 3) := by decide +kernel
theorem dX11_dry_21 : decode cX11_dry 21 = .ok (.invokevirtual 179, 3) := by decide +kernel
theorem dX11_dry_24 : decode cX11_dry 24 = .ok (.iconst 0, 1) := by decide +kernel
theorem dX11_dry_25 : decode cX11_dry 25 = .ok (.istore_n 2, 1) := by decide +kernel
theorem dX11_dry_26 : decode cX11_dry 26 = .ok (.iload_n 2, 1) := by decide +kernel
theorem dX11_dry_27 : decode cX11_dry 27 = .ok (.bipush 99, 2) := by decide +kernel
theorem dX11_dry_29 : decode cX11_dry 29 = .ok (.if_icmp .gt 49, 3) := by decide +kernel
theorem dX11_dry_32 : decode cX11_dry 32 = .ok (.aload_n 0, 1) := by decide +kernel
theorem dX11_dry_33 : decode cX11_dry 33 = .ok (.getfield 33, 3) := by decide +kernel
theorem dX11_dry_36 : decode cX11_dry 36 = .ok (.getfield 221, 3) := by decide +kernel
theorem dX11_dry_39 : decode cX11_dry 39 = .ok (.iload_n 1, 1) := by decide +kernel
theorem dX11_dry_40 : decode cX11_dry 40 = .ok (.if_icmp .ge 20, 3) := by decide +kernel
theorem dX11_dry_43 : decode cX11_dry 43 = .ok (.aload_n 0, 1) := by decide +kernel
theorem dX11_dry_44 : decode cX11_dry 44 = .ok (.getfield 19, 3) := by decide +kernel
theorem dX11_dry_47 : decode cX11_dry 47 = .ok (.aload_n 0, 1) := by decide +kernel
theorem dX11_dry_48 : decode cX11_dry 48 = .ok (.getfield 33, 3) := by decide +kernel
theorem dX11_dry_51 : decode cX11_dry 51 = .ok (.getfield 221, 3) := by decide +kernel
theorem dX11_dry_54 : decode cX11_dry 54 = .ok (.i2l, 1) := by decide +kernel
theorem dX11_dry_55 : decode cX11_dry 55 = .ok (.invokevirtual 302, 3) := by decide +kernel
theorem dX11_dry_58 : decode cX11_dry 58 = .ok (.iload_n 2, 1) := by decide +kernel
theorem dX11_dry_59 : decode cX11_dry 59 = .ok (.ireturn, 1) := by decide +kernel
theorem dX11_dry_60 : decode cX11_dry 60 = .ok (.aload_n 0, 1) := by decide +kernel
theorem dX11_dry_61 : decode cX11_dry 61 = .ok (.getfield 33, 3) := by decide +kernel
theorem dX11_dry_64 : decode cX11_dry 64 = .ok (.aload_n 0, 1) := by decide +kernel
theorem dX11_dry_65 : decode cX11_dry 65 = .ok (.getfield 50, 3) := by decide +kernel
theorem dX11_dry_68 : decode cX11_dry 68 = .ok (.invokevirtual 249, 3) := by decide +kernel
theorem dX11_dry_71 : decode cX11_dry 71 = .ok (.pop, 1) := by decide +kernel
theorem dX11_dry_72 : decode cX11_dry 72 = .ok (.iinc 2 1, 3) := by decide +kernel
theorem dX11_dry_75 : decode cX11_dry 75 = .ok (.goto (-49), 3) := by decide +kernel
theorem dX11_dry_78 : decode cX11_dry 78 = .ok (.bipush (-2), 2) := by decide +kernel
theorem dX11_dry_80 : decode cX11_dry 80 = .ok (.ireturn, 1) := by decide +kernel
theorem dX11_when_0 : decode cX11_when 0 = .ok (.aload_n 0, 1) := by decide +kernel
theorem dX11_when_1 : decode cX11_when 1 = .ok (.getfield 26, 3) := by decide +kernel
theorem dX11_when_4 : decode cX11_when 4 = .ok (.iload_n 1, 1) := by decide +kernel
theorem dX11_when_5 : decode cX11_when 5 = .ok (.iload_n 2, 1) := by decide +kernel
theorem dX11_when_6 : decode cX11_when 6 = .ok (.invokevirtual 148, 3) := by decide +kernel
theorem dX11_when_9 : decode cX11_when 9 = .ok (.ifCond .ne 5, 3) := by decide +kernel
theorem dX11_when_12 : decode cX11_when 12 = .ok (.iconst (-1), 1) := by decide +kernel
theorem dX11_when_13 : decode cX11_when 13 = .ok (.ireturn, 1) := by decide +kernel
theorem dX11_when_14 : decode cX11_when 14 = .ok (.aload_n 0, 1) := by decide +kernel
theorem dX11_when_15 : decode cX11_when 15 = .ok (.getfield 33, 3) := by decide +kernel
theorem dX11_when_18 : decode cX11_when 18 = .ok (.aload_n 0, 1) := by decide +kernel
theorem dX11_when_19 : decode cX11_when 19 = .ok (.getfield 26, 3) := by decide +kernel
theorem dX11_when_22 : decode cX11_when 22 = .ok (.invokevirtual 179, 3) := by decide +kernel
theorem dX11_when_25 : decode cX11_when 25 = .ok (.iload_n 2, 1) := by decide +kernel
theorem dX11_when_26 : decode cX11_when 26 = .ok (.istore_n 3, 1) := by decide +kernel
theorem dX11_when_27 : decode cX11_when 27 = .ok (.iconst 0, 1) := by decide +kernel
theorem dX11_when_28 : decode cX11_when 28 = .ok (.istore 4, 2) := by decide +kernel
theorem dX11_when_30 : decode cX11_when 30 = .ok (.iconst 1, 1) := by decide +kernel
theorem dX11_when_31 : decode cX11_when 31 = .ok (.istore 5, 2) := by decide +kernel
theorem dX11_when_33 : decode cX11_when 33 = .ok (.iload 5, 2) := by decide +kernel
theorem dX11_when_35 : decode cX11_when 35 = .ok (.bipush 99, 2) := by decide +kernel
theorem dX11_when_37 : decode cX11_when 37 = .ok (.if_icmp .gt 67, 3) := by decide +kernel
theorem dX11_when_40 : decode cX11_when 40 = .ok (.aload_n 0, 1) := by decide +kernel
theorem dX11_when_41 : decode cX11_when 41 = .ok (.getfield 33, 3) := by decide +kernel
theorem dX11_when_44 : decode cX11_when 44 = .ok (.iload_n 1, 1) := by decide +kernel
theorem dX11_when_45 : decode cX11_when 45 = .ok (.invokevirtual 131, 3) := by decide +kernel
theorem dX11_when_48 : decode cX11_when 48 = .ok (.istore 6, 2) := by decide +kernel
theorem dX11_when_50 : decode cX11_when 50 = .ok (.aload_n 0, 1) := by decide +kernel
theorem dX11_when_51 : decode cX11_when 51 = .ok (.getfield 33, 3) := by decide +kernel
theorem dX11_when_54 : decode cX11_when 54 = .ok (.aload_n 0, 1) := by decide +kernel
theorem dX11_when_55 : decode cX11_when 55 = .ok (.getfield 50, 3) := by decide +kernel
theorem dX11_when_58 : decode cX11_when 58 = .ok (.invokevirtual 249, 3) := by decide +kernel
theorem dX11_when_61 : decode cX11_when 61 = .ok (.ifCond .ne 6, 3) := by decide +kernel
theorem dX11_when_64 : decode cX11_when 64 = .ok (.iinc 4 1, 3) := by decide +kernel
theorem dX11_when_67 : decode cX11_when 67 = .ok (.iload_n 3, 1) := by decide +kernel
theorem dX11_when_68 : decode cX11_when 68 = .ok (.iload 6, 2) := by decide +kernel
theorem dX11_when_70 : decode cX11_when 70 = .ok (.aload_n 0, 1) := by decide +kernel
theorem dX11_when_71 : decode cX11_when 71 = .ok (.getfield 33, 3) := by decide +kernel
theorem dX11_when_74 : decode cX11_when 74 = .ok (.iload_n 1, 1) := by decide +kernel
theorem dX11_when_75 : decode cX11_when 75 = .ok (.invokevirtual 131, 3) := by decide +kernel
theorem dX11_when_78 : decode cX11_when 78 = .ok (.isub, 1) := by decide +kernel
theorem dX11_when_79 : decode cX11_when 79 = .ok (.isub, 1) := by decide +kernel
theorem dX11_when_80 : decode cX11_when 80 = .ok (.istore_n 3, 1) := by decide +kernel
theorem dX11_when_81 : decode cX11_when 81 = .ok (.iload_n 3, 1) := by decide +kernel
theorem dX11_when_82 : decode cX11_when 82 = .ok (.ifCond .ge 16, 3) := by decide +kernel
theorem dX11_when_85 : decode cX11_when 85 = .ok (.aload_n 0, 1) := by decide +kernel
theorem dX11_when_86 : decode cX11_when 86 = .ok (.getfield 19, 3) := by decide +kernel
theorem dX11_when_89 : decode cX11_when 89 = .ok (.iload 4, 2) := by decide +kernel
theorem dX11_when_91 : decode cX11_when 91 = .ok (.i2l, 1) := by decide +kernel
theorem dX11_when_92 : decode cX11_when 92 = .ok (.invokevirtual 302, 3) := by decide +kernel
theorem dX11_when_95 : decode cX11_when 95 = .ok (.iload 5, 2) := by decide +kernel
theorem dX11_when_97 : decode cX11_when 97 = .ok (.ireturn, 1) := by decide +kernel
theorem dX11_when_98 : decode cX11_when 98 = .ok (.iinc 5 1, 3) := by decide +kernel
theorem dX11_when_101 : decode cX11_when 101 = .ok (.goto (-68), 3) := by decide +kernel
theorem dX11_when_104 : decode cX11_when 104 = .ok (.bipush (-2), 2) := by decide +kernel
theorem dX11_when_106 : decode cX11_when 106 = .ok (.ireturn, 1) := by decide +kernel
theorem dX11_enough_0 : decode cX11_enough 0 = .ok (.aload_n 0, 1) := by decide +kernel
theorem dX11_enough_1 : decode cX11_enough 1 = .ok (.getfield 26, 3) := by decide +kernel
theorem dX11_enough_4 : decode cX11_enough 4 = .ok (.invokevirtual 245, 3) := by decide +kernel
theorem dX11_enough_7 : decode cX11_enough 7 = .ok (.ifCond .eq 6, 3) := by decide +kernel
theorem dX11_enough_10 : decode cX11_enough 10 = .ok (.bipush (-3), 2) := by decide +kernel
theorem dX11_enough_12 : decode cX11_enough 12 = .ok (.ireturn, 1) := by decide +kernel
theorem dX11_enough_13 : decode cX11_enough 13 = .ok (.aload_n 0, 1) := by decide +kernel
theorem dX11_enough_14 : decode cX11_enough 14 = .ok (.getfield 26, 3) := by decide +kernel
theorem dX11_enough_17 : decode cX11_enough 17 = .ok (.aload_n 0, 1) := by decide +kernel
theorem dX11_enough_18 : decode cX11_enough 18 = .ok (.getfield 26, 3) := by decide +kernel
theorem dX11_enough_21 : decode cX11_enough 21 = .ok (.iconst 0, 1) := by decide +kernel
theorem dX11_enough_22 : decode cX11_enough 22 = .ok (.invokevirtual 215, 3) := by decide +kernel
theorem dX11_enough_25 : decode cX11_enough 25 = .ok (.aload_n 0, 1) := by decide +kernel
theorem dX11_enough_26 : decode cX11_enough 26 = .ok (.getfield 26, 3) := by decide +kernel
theorem dX11_enough_29 : decode cX11_enough 29 = .ok (.iconst 1, 1) := by decide +kernel
theorem dX11_enough_30 : decode cX11_enough 30 = .ok (.invokevirtual 215, 3) := by decide +kernel
theorem dX11_enough_33 : decode cX11_enough 33 = .ok (.invokevirtual 218, 3) := by decide +kernel
theorem dX11_enough_36 : decode cX11_enough 36 = .ok (.istore_n 1, 1) := by decide +kernel
theorem dX11_enough_37 : decode cX11_enough 37 = .ok (.iload_n 1, 1) := by decide +kernel
theorem dX11_enough_38 : decode cX11_enough 38 = .ok (.istore_n 2, 1) := by decide +kernel
theorem dX11_enough_39 : decode cX11_enough 39 = .ok (.iload_n 2, 1) := by decide +kernel
theorem dX11_enough_40 : decode cX11_enough 40 = .ok (.sipush 999, 3) := by decide +kernel
theorem dX11_enough_43 : decode cX11_enough 43 = .ok (.if_icmp .gt 31, 3) := by decide +kernel
theorem dX11_enough_46 : decode cX11_enough 46 = .ok (.aload_n 0, 1) := by decide +kernel
theorem dX11_enough_47 : decode cX11_enough 47 = .ok (.iload_n 2, 1) := by decide +kernel
theorem dX11_enough_48 : decode cX11_enough 48 = .ok (.invokevirtual 305, 3) := by decide +kernel
theorem dX11_enough_51 : decode cX11_enough 51 = .ok (.istore_n 3, 1) := by decide +kernel
theorem dX11_enough_52 : decode cX11_enough 52 = .ok (.iload_n 3, 1) := by decide +kernel
theorem dX11_enough_53 : decode cX11_enough 53 = .ok (.iconst (-1), 1) := by decide +kernel
theorem dX11_enough_54 : decode cX11_enough 54 = .ok (.if_icmp .eq 14, 3) := by decide +kernel
theorem dX11_enough_57 : decode cX11_enough 57 = .ok (.aload_n 0, 1) := by decide +kernel
theorem dX11_enough_58 : decode cX11_enough 58 = .ok (.getfield 19, 3) := by decide +kernel
theorem dX11_enough_61 : decode cX11_enough 61 = .ok (.iload_n 3, 1) := by decide +kernel
theorem dX11_enough_62 : decode cX11_enough 62 = .ok (.i2l, 1) := by decide +kernel
theorem dX11_enough_63 : decode cX11_enough 63 = .ok (.invokevirtual 302, 3) := by decide +kernel
theorem dX11_enough_66 : decode cX11_enough 66 = .ok (.iload_n 2, 1) := by decide +kernel
theorem dX11_enough_67 : decode cX11_enough 67 = .ok (.ireturn, 1) := by decide +kernel
theorem dX11_enough_68 : decode cX11_enough 68 = .ok (.iinc 2 1, 3) := by decide +kernel
theorem dX11_enough_71 : decode cX11_enough 71 = .ok (.goto (-32), 3) := by decide +kernel
theorem dX11_enough_74 : decode cX11_enough 74 = .ok (.bipush (-2), 2) := by decide +kernel
theorem dX11_enough_76 : decode cX11_enough 76 = .ok (.ireturn, 1) := by decide +kernel
theorem dX11_tripsWithoutRest_0 : decode cX11_tripsWithoutRest 0 = .ok (.aload_n 0, 1) := by decide +kernel
theorem dX11_tripsWithoutRest_1 : decode cX11_tripsWithoutRest 1 = .ok (.getfield 33, 3) := by decide +kernel
theorem dX11_tripsWithoutRest_4 : decode cX11_tripsWithoutRest 4 = .ok (.aload_n 0, 1) := by decide +kernel
theorem dX11_tripsWithoutRest_5 : decode cX11_tripsWithoutRest 5 = .ok (.getfield 26, 3) := by decide +kernel
theorem dX11_tripsWithoutRest_8 : decode cX11_tripsWithoutRest 8 = .ok (.invokevirtual 179, 3) := by decide +kernel
theorem dX11_tripsWithoutRest_11 : decode cX11_tripsWithoutRest 11 = .ok (.aload_n 0, 1) := by decide +kernel
theorem dX11_tripsWithoutRest_12 : decode cX11_tripsWithoutRest 12 = .ok (.getfield 33, 3) := by decide +kernel
theorem dX11_tripsWithoutRest_15 : decode cX11_tripsWithoutRest 15 = .ok (.iload_n 1, 1) := by decide +kernel
theorem dX11_tripsWithoutRest_16 : decode cX11_tripsWithoutRest 16 = .ok (.putfield 221, 3) := by decide +kernel
theorem dX11_tripsWithoutRest_19 : decode cX11_tripsWithoutRest 19 = .ok (.iconst 0, 1) := by decide +kernel
theorem dX11_tripsWithoutRest_20 : decode cX11_tripsWithoutRest 20 = .ok (.istore_n 2, 1) := by decide +kernel
theorem dX11_tripsWithoutRest_21 : decode cX11_tripsWithoutRest 21 = .ok (.iload_n 2, 1) := by decide +kernel
theorem dX11_tripsWithoutRest_22 : decode cX11_tripsWithoutRest 22 = .ok (.iconst 5, 1) := by decide +kernel
theorem dX11_tripsWithoutRest_23 : decode cX11_tripsWithoutRest 23 = .ok (.if_icmp .gt 37, 3) := by decide +kernel
theorem dX11_tripsWithoutRest_26 : decode cX11_tripsWithoutRest 26 = .ok (.aload_n 0, 1) := by decide +kernel
theorem dX11_tripsWithoutRest_27 : decode cX11_tripsWithoutRest 27 = .ok (.getfield 33, 3) := by decide +kernel
theorem dX11_tripsWithoutRest_30 : decode cX11_tripsWithoutRest 30 = .ok (.invokevirtual 245, 3) := by decide +kernel
theorem dX11_tripsWithoutRest_33 : decode cX11_tripsWithoutRest 33 = .ok (.ifCond .eq 5, 3) := by decide +kernel
theorem dX11_tripsWithoutRest_36 : decode cX11_tripsWithoutRest 36 = .ok (.iload_n 2, 1) := by decide +kernel
theorem dX11_tripsWithoutRest_37 : decode cX11_tripsWithoutRest 37 = .ok (.ireturn, 1) := by decide +kernel
theorem dX11_tripsWithoutRest_38 : decode cX11_tripsWithoutRest 38 = .ok (.aload_n 0, 1) := by decide +kernel
theorem dX11_tripsWithoutRest_39 : decode cX11_tripsWithoutRest 39 = .ok (.getfield 33, 3) := by decide +kernel
theorem dX11_tripsWithoutRest_42 : decode cX11_tripsWithoutRest 42 = .ok (.aload_n 0, 1) := by decide +kernel
theorem dX11_tripsWithoutRest_43 : decode cX11_tripsWithoutRest 43 = .ok (.getfield 50, 3) := by decide +kernel
theorem dX11_tripsWithoutRest_46 : decode cX11_tripsWithoutRest 46 = .ok (.invokevirtual 249, 3) := by decide +kernel
theorem dX11_tripsWithoutRest_49 : decode cX11_tripsWithoutRest 49 = .ok (.ifCond .ne 5, 3) := by decide +kernel
theorem dX11_tripsWithoutRest_52 : decode cX11_tripsWithoutRest 52 = .ok (.iconst (-1), 1) := by decide +kernel
theorem dX11_tripsWithoutRest_53 : decode cX11_tripsWithoutRest 53 = .ok (.ireturn, 1) := by decide +kernel
theorem dX11_tripsWithoutRest_54 : decode cX11_tripsWithoutRest 54 = .ok (.iinc 2 1, 3) := by decide +kernel
theorem dX11_tripsWithoutRest_57 : decode cX11_tripsWithoutRest 57 = .ok (.goto (-36), 3) := by decide +kernel
theorem dX11_tripsWithoutRest_60 : decode cX11_tripsWithoutRest 60 = .ok (.iconst (-1), 1) := by decide +kernel
theorem dX11_tripsWithoutRest_61 : decode cX11_tripsWithoutRest 61 = .ok (.ireturn, 1) := by decide +kernel
theorem dX11_waiting_0 : decode cX11_waiting 0 = .ok (.aload_n 0, 1) := by decide +kernel
theorem dX11_waiting_1 : decode cX11_waiting 1 = .ok (.getfield 26, 3) := by decide +kernel
theorem dX11_waiting_4 : decode cX11_waiting 4 = .ok (.invokevirtual 245, 3) := by decide +kernel
theorem dX11_waiting_7 : decode cX11_waiting 7 = .ok (.ifCond .eq 6, 3) := by decide +kernel
theorem dX11_waiting_10 : decode cX11_waiting 10 = .ok (.bipush (-3), 2) := by decide +kernel
theorem dX11_waiting_12 : decode cX11_waiting 12 = .ok (.ireturn, 1) := by decide +kernel
theorem dX11_waiting_13 : decode cX11_waiting 13 = .ok (.aload_n 0, 1) := by decide +kernel
theorem dX11_waiting_14 : decode cX11_waiting 14 = .ok (.getfield 33, 3) := by decide +kernel
theorem dX11_waiting_17 : decode cX11_waiting 17 = .ok (.aload_n 0, 1) := by decide +kernel
theorem dX11_waiting_18 : decode cX11_waiting 18 = .ok (.getfield 26, 3) := by decide +kernel
theorem dX11_waiting_21 : decode cX11_waiting 21 = .ok (.invokevirtual 179, 3) := by decide +kernel
theorem dX11_waiting_24 : decode cX11_waiting 24 = .ok (.iconst 0, 1) := by decide +kernel
theorem dX11_waiting_25 : decode cX11_waiting 25 = .ok (.istore_n 1, 1) := by decide +kernel
theorem dX11_waiting_26 : decode cX11_waiting 26 = .ok (.iconst 1, 1) := by decide +kernel
theorem dX11_waiting_27 : decode cX11_waiting 27 = .ok (.istore_n 2, 1) := by decide +kernel
theorem dX11_waiting_28 : decode cX11_waiting 28 = .ok (.iload_n 2, 1) := by decide +kernel
theorem dX11_waiting_29 : decode cX11_waiting 29 = .ok (.bipush 99, 2) := by decide +kernel
theorem dX11_waiting_31 : decode cX11_waiting 31 = .ok (.if_icmp .gt 64, 3) := by decide +kernel
theorem dX11_waiting_34 : decode cX11_waiting 34 = .ok (.aload_n 0, 1) := by decide +kernel
theorem dX11_waiting_35 : decode cX11_waiting 35 = .ok (.getfield 33, 3) := by decide +kernel
theorem dX11_waiting_38 : decode cX11_waiting 38 = .ok (.invokevirtual 308, 3) := by decide +kernel
theorem dX11_waiting_41 : decode cX11_waiting 41 = .ok (.istore_n 3, 1) := by decide +kernel
theorem dX11_waiting_42 : decode cX11_waiting 42 = .ok (.aload_n 0, 1) := by decide +kernel
theorem dX11_waiting_43 : decode cX11_waiting 43 = .ok (.getfield 33, 3) := by decide +kernel
theorem dX11_waiting_46 : decode cX11_waiting 46 = .ok (.aload_n 0, 1) := by decide +kernel
theorem dX11_waiting_47 : decode cX11_waiting 47 = .ok (.getfield 50, 3) := by decide +kernel
theorem dX11_waiting_50 : decode cX11_waiting 50 = .ok (.invokevirtual 249, 3) := by decide +kernel
theorem dX11_waiting_53 : decode cX11_waiting 53 = .ok (.pop, 1) := by decide +kernel
theorem dX11_waiting_54 : decode cX11_waiting 54 = .ok (.iload_n 1, 1) := by decide +kernel
theorem dX11_waiting_55 : decode cX11_waiting 55 = .ok (.iload_n 2, 1) := by decide +kernel
theorem dX11_waiting_56 : decode cX11_waiting 56 = .ok (.iload_n 3, 1) := by decide +kernel
theorem dX11_waiting_57 : decode cX11_waiting 57 = .ok (.aload_n 0, 1) := by decide +kernel
theorem dX11_waiting_58 : decode cX11_waiting 58 = .ok (.getfield 33, 3) := by decide +kernel
theorem dX11_waiting_61 : decode cX11_waiting 61 = .ok (.invokevirtual 308, 3) := by decide +kernel
theorem dX11_waiting_64 : decode cX11_waiting 64 = .ok (.isub, 1) := by decide +kernel
theorem dX11_waiting_65 : decode cX11_waiting 65 = .ok (.imul, 1) := by decide +kernel
theorem dX11_waiting_66 : decode cX11_waiting 66 = .ok (.iadd, 1) := by decide +kernel
theorem dX11_waiting_67 : decode cX11_waiting 67 = .ok (.istore_n 1, 1) := by decide +kernel
theorem dX11_waiting_68 : decode cX11_waiting 68 = .ok (.aload_n 0, 1) := by decide +kernel
theorem dX11_waiting_69 : decode cX11_waiting 69 = .ok (.getfield 33, 3) := by decide +kernel
theorem dX11_waiting_72 : decode cX11_waiting 72 = .ok (.invokevirtual 245, 3) := by decide +kernel
theorem dX11_waiting_75 : decode cX11_waiting 75 = .ok (.ifCond .eq 14, 3) := by decide +kernel
theorem dX11_waiting_78 : decode cX11_waiting 78 = .ok (.aload_n 0, 1) := by decide +kernel
theorem dX11_waiting_79 : decode cX11_waiting 79 = .ok (.getfield 19, 3) := by decide +kernel
theorem dX11_waiting_82 : decode cX11_waiting 82 = .ok (.iload_n 2, 1) := by decide +kernel
theorem dX11_waiting_83 : decode cX11_waiting 83 = .ok (.i2l, 1) := by decide +kernel
theorem dX11_waiting_84 : decode cX11_waiting 84 = .ok (.invokevirtual 302, 3) := by decide +kernel
theorem dX11_waiting_87 : decode cX11_waiting 87 = .ok (.iload_n 1, 1) := by decide +kernel
theorem dX11_waiting_88 : decode cX11_waiting 88 = .ok (.ireturn, 1) := by decide +kernel
theorem dX11_waiting_89 : decode cX11_waiting 89 = .ok (.iinc 2 1, 3) := by decide +kernel
theorem dX11_waiting_92 : decode cX11_waiting 92 = .ok (.goto (-64), 3) := by decide +kernel
theorem dX11_waiting_95 : decode cX11_waiting 95 = .ok (.bipush (-2), 2) := by decide +kernel
theorem dX11_waiting_97 : decode cX11_waiting 97 = .ok (.ireturn, 1) := by decide +kernel
theorem dX11_holds_0 : decode cX11_holds 0 = .ok (.iload_n 1, 1) := by decide +kernel
theorem dX11_holds_1 : decode cX11_holds 1 = .ok (.ifCond .lt 9, 3) := by decide +kernel
theorem dX11_holds_4 : decode cX11_holds 4 = .ok (.iload_n 1, 1) := by decide +kernel
theorem dX11_holds_5 : decode cX11_holds 5 = .ok (.bipush 60, 2) := by decide +kernel
theorem dX11_holds_7 : decode cX11_holds 7 = .ok (.if_icmp .le 5, 3) := by decide +kernel
theorem dX11_holds_10 : decode cX11_holds 10 = .ok (.iconst (-1), 1) := by decide +kernel
theorem dX11_holds_11 : decode cX11_holds 11 = .ok (.ireturn, 1) := by decide +kernel
theorem dX11_holds_12 : decode cX11_holds 12 = .ok (.bipush (-2), 2) := by decide +kernel
theorem dX11_holds_14 : decode cX11_holds 14 = .ok (.istore_n 2, 1) := by decide +kernel
theorem dX11_holds_15 : decode cX11_holds 15 = .ok (.iconst 0, 1) := by decide +kernel
theorem dX11_holds_16 : decode cX11_holds 16 = .ok (.istore_n 3, 1) := by decide +kernel
theorem dX11_holds_17 : decode cX11_holds 17 = .ok (.iconst 0, 1) := by decide +kernel
theorem dX11_holds_18 : decode cX11_holds 18 = .ok (.istore 4, 2) := by decide +kernel
theorem dX11_holds_20 : decode cX11_holds 20 = .ok (.iload 4, 2) := by decide +kernel
theorem dX11_holds_22 : decode cX11_holds 22 = .ok (.bipush 9, 2) := by decide +kernel
theorem dX11_holds_24 : decode cX11_holds 24 = .ok (.if_icmp .gt 44, 3) := by decide +kernel
theorem dX11_holds_27 : decode cX11_holds 27 = .ok (.aload_n 0, 1) := by decide +kernel
theorem dX11_holds_28 : decode cX11_holds 28 = .ok (.getfield 33, 3) := by decide +kernel
theorem dX11_holds_31 : decode cX11_holds 31 = .ok (.aload_n 0, 1) := by decide +kernel
theorem dX11_holds_32 : decode cX11_holds 32 = .ok (.getfield 26, 3) := by decide +kernel
theorem dX11_holds_35 : decode cX11_holds 35 = .ok (.invokevirtual 179, 3) := by decide +kernel
theorem dX11_holds_38 : decode cX11_holds 38 = .ok (.aload_n 0, 1) := by decide +kernel
theorem dX11_holds_39 : decode cX11_holds 39 = .ok (.getfield 33, 3) := by decide +kernel
theorem dX11_holds_42 : decode cX11_holds 42 = .ok (.iload 4, 2) := by decide +kernel
theorem dX11_holds_44 : decode cX11_holds 44 = .ok (.putfield 253, 3) := by decide +kernel
theorem dX11_holds_47 : decode cX11_holds 47 = .ok (.aload_n 0, 1) := by decide +kernel
theorem dX11_holds_48 : decode cX11_holds 48 = .ok (.iload_n 1, 1) := by decide +kernel
theorem dX11_holds_49 : decode cX11_holds 49 = .ok (.invokevirtual 296, 3) := by decide +kernel
theorem dX11_holds_52 : decode cX11_holds 52 = .ok (.iload_n 1, 1) := by decide +kernel
theorem dX11_holds_53 : decode cX11_holds 53 = .ok (.if_icmp .gt 9, 3) := by decide +kernel
theorem dX11_holds_56 : decode cX11_holds 56 = .ok (.iload 4, 2) := by decide +kernel
theorem dX11_holds_58 : decode cX11_holds 58 = .ok (.istore_n 2, 1) := by decide +kernel
theorem dX11_holds_59 : decode cX11_holds 59 = .ok (.iinc 3 1, 3) := by decide +kernel
theorem dX11_holds_62 : decode cX11_holds 62 = .ok (.iinc 4 1, 3) := by decide +kernel
theorem dX11_holds_65 : decode cX11_holds 65 = .ok (.goto (-45), 3) := by decide +kernel
theorem dX11_holds_68 : decode cX11_holds 68 = .ok (.iload_n 3, 1) := by decide +kernel
theorem dX11_holds_69 : decode cX11_holds 69 = .ok (.ifCond .le 12, 3) := by decide +kernel
theorem dX11_holds_72 : decode cX11_holds 72 = .ok (.aload_n 0, 1) := by decide +kernel
theorem dX11_holds_73 : decode cX11_holds 73 = .ok (.getfield 19, 3) := by decide +kernel
theorem dX11_holds_76 : decode cX11_holds 76 = .ok (.iload_n 3, 1) := by decide +kernel
theorem dX11_holds_77 : decode cX11_holds 77 = .ok (.i2l, 1) := by decide +kernel
theorem dX11_holds_78 : decode cX11_holds 78 = .ok (.invokevirtual 302, 3) := by decide +kernel
theorem dX11_holds_81 : decode cX11_holds 81 = .ok (.iload_n 2, 1) := by decide +kernel
theorem dX11_holds_82 : decode cX11_holds 82 = .ok (.ireturn, 1) := by decide +kernel
theorem dX11_soonest_0 : decode cX11_soonest 0 = .ok (.aload_n 0, 1) := by decide +kernel
theorem dX11_soonest_1 : decode cX11_soonest 1 = .ok (.getfield 26, 3) := by decide +kernel
theorem dX11_soonest_4 : decode cX11_soonest 4 = .ok (.invokevirtual 245, 3) := by decide +kernel
theorem dX11_soonest_7 : decode cX11_soonest 7 = .ok (.ifCond .eq 6, 3) := by decide +kernel
theorem dX11_soonest_10 : decode cX11_soonest 10 = .ok (.bipush (-3), 2) := by decide +kernel
theorem dX11_soonest_12 : decode cX11_soonest 12 = .ok (.ireturn, 1) := by decide +kernel
theorem dX11_soonest_13 : decode cX11_soonest 13 = .ok (.aload_n 0, 1) := by decide +kernel
theorem dX11_soonest_14 : decode cX11_soonest 14 = .ok (.iconst 1, 1) := by decide +kernel
theorem dX11_soonest_15 : decode cX11_soonest 15 = .ok (.invokevirtual 311, 3) := by decide +kernel
theorem dX11_soonest_18 : decode cX11_soonest 18 = .ok (.istore_n 1, 1) := by decide +kernel
theorem dX11_soonest_19 : decode cX11_soonest 19 = .ok (.aload_n 0, 1) := by decide +kernel
theorem dX11_soonest_20 : decode cX11_soonest 20 = .ok (.iconst 2, 1) := by decide +kernel
theorem dX11_soonest_21 : decode cX11_soonest 21 = .ok (.invokevirtual 311, 3) := by decide +kernel
theorem dX11_soonest_24 : decode cX11_soonest 24 = .ok (.istore_n 2, 1) := by decide +kernel
theorem dX11_soonest_25 : decode cX11_soonest 25 = .ok (.aload_n 0, 1) := by decide +kernel
theorem dX11_soonest_26 : decode cX11_soonest 26 = .ok (.iconst 3, 1) := by decide +kernel
theorem dX11_soonest_27 : decode cX11_soonest 27 = .ok (.invokevirtual 311, 3) := by decide +kernel
theorem dX11_soonest_30 : decode cX11_soonest 30 = .ok (.istore_n 3, 1) := by decide +kernel
theorem dX11_soonest_31 : decode cX11_soonest 31 = .ok (.iload_n 1, 1) := by decide +kernel
theorem dX11_soonest_32 : decode cX11_soonest 32 = .ok (.iload_n 2, 1) := by decide +kernel
theorem dX11_soonest_33 : decode cX11_soonest 33 = .ok (.iload_n 3, 1) := by decide +kernel
theorem dX11_soonest_34 : decode cX11_soonest 34 = .ok (.invokestatic 171, 3) := by decide +kernel
theorem dX11_soonest_37 : decode cX11_soonest 37 = .ok (.invokestatic 171, 3) := by decide +kernel
theorem dX11_soonest_40 : decode cX11_soonest 40 = .ok (.istore 4, 2) := by decide +kernel
theorem dX11_soonest_42 : decode cX11_soonest 42 = .ok (.iload 4, 2) := by decide +kernel
theorem dX11_soonest_44 : decode cX11_soonest 44 = .ok (.bipush 99, 2) := by decide +kernel
theorem dX11_soonest_46 : decode cX11_soonest 46 = .ok (.if_icmp .le 6, 3) := by decide +kernel
theorem dX11_soonest_49 : decode cX11_soonest 49 = .ok (.bipush (-2), 2) := by decide +kernel
theorem dX11_soonest_51 : decode cX11_soonest 51 = .ok (.ireturn, 1) := by decide +kernel
theorem dX11_soonest_52 : decode cX11_soonest 52 = .ok (.aload_n 0, 1) := by decide +kernel
theorem dX11_soonest_53 : decode cX11_soonest 53 = .ok (.getfield 19, 3) := by decide +kernel
theorem dX11_soonest_56 : decode cX11_soonest 56 = .ok (.iload_n 1, 1) := by decide +kernel
theorem dX11_soonest_57 : decode cX11_soonest 57 = .ok (.i2l, 1) := by decide +kernel
theorem dX11_soonest_58 : decode cX11_soonest 58 = .ok (.iload_n 2, 1) := by decide +kernel
theorem dX11_soonest_59 : decode cX11_soonest 59 = .ok (.i2l, 1) := by decide +kernel
theorem dX11_soonest_60 : decode cX11_soonest 60 = .ok (.iload_n 3, 1) := by decide +kernel
theorem dX11_soonest_61 : decode cX11_soonest 61 = .ok (.i2l, 1) := by decide +kernel
theorem dX11_soonest_62 : decode cX11_soonest 62 = .ok (.invokevirtual 314, 3) := by decide +kernel
theorem dX11_soonest_65 : decode cX11_soonest 65 = .ok (.iload 4, 2) := by decide +kernel
theorem dX11_soonest_67 : decode cX11_soonest 67 = .ok (.iload_n 1, 1) := by decide +kernel
theorem dX11_soonest_68 : decode cX11_soonest 68 = .ok (.if_icmp .ne 5, 3) := by decide +kernel
theorem dX11_soonest_71 : decode cX11_soonest 71 = .ok (.iconst 1, 1) := by decide +kernel
theorem dX11_soonest_72 : decode cX11_soonest 72 = .ok (.ireturn, 1) := by decide +kernel
theorem dX11_soonest_73 : decode cX11_soonest 73 = .ok (.iload 4, 2) := by decide +kernel
theorem dX11_soonest_75 : decode cX11_soonest 75 = .ok (.iload_n 2, 1) := by decide +kernel
theorem dX11_soonest_76 : decode cX11_soonest 76 = .ok (.if_icmp .ne 7, 3) := by decide +kernel
theorem dX11_soonest_79 : decode cX11_soonest 79 = .ok (.iconst 2, 1) := by decide +kernel
theorem dX11_soonest_80 : decode cX11_soonest 80 = .ok (.goto 4, 3) := by decide +kernel
theorem dX11_soonest_83 : decode cX11_soonest 83 = .ok (.iconst 3, 1) := by decide +kernel
theorem dX11_soonest_84 : decode cX11_soonest 84 = .ok (.ireturn, 1) := by decide +kernel
theorem dX11_minutesBySeats_0 : decode cX11_minutesBySeats 0 = .ok (.aload_n 0, 1) := by decide +kernel
theorem dX11_minutesBySeats_1 : decode cX11_minutesBySeats 1 = .ok (.getfield 33, 3) := by decide +kernel
theorem dX11_minutesBySeats_4 : decode cX11_minutesBySeats 4 = .ok (.aload_n 0, 1) := by decide +kernel
theorem dX11_minutesBySeats_5 : decode cX11_minutesBySeats 5 = .ok (.getfield 26, 3) := by decide +kernel
theorem dX11_minutesBySeats_8 : decode cX11_minutesBySeats 8 = .ok (.invokevirtual 179, 3) := by decide +kernel
theorem dX11_minutesBySeats_11 : decode cX11_minutesBySeats 11 = .ok (.aload_n 0, 1) := by decide +kernel
theorem dX11_minutesBySeats_12 : decode cX11_minutesBySeats 12 = .ok (.getfield 33, 3) := by decide +kernel
theorem dX11_minutesBySeats_15 : decode cX11_minutesBySeats 15 = .ok (.iload_n 1, 1) := by decide +kernel
theorem dX11_minutesBySeats_16 : decode cX11_minutesBySeats 16 = .ok (.putfield 256, 3) := by decide +kernel
theorem dX11_minutesBySeats_19 : decode cX11_minutesBySeats 19 = .ok (.aload_n 0, 1) := by decide +kernel
theorem dX11_minutesBySeats_20 : decode cX11_minutesBySeats 20 = .ok (.bipush 99, 2) := by decide +kernel
theorem dX11_minutesBySeats_22 : decode cX11_minutesBySeats 22 = .ok (.invokevirtual 296, 3) := by decide +kernel
theorem dX11_minutesBySeats_25 : decode cX11_minutesBySeats 25 = .ok (.ireturn, 1) := by decide +kernel
theorem dX11_most_0 : decode cX11_most 0 = .ok (.iload_n 1, 1) := by decide +kernel
theorem dX11_most_1 : decode cX11_most 1 = .ok (.ifCond .lt 9, 3) := by decide +kernel
theorem dX11_most_4 : decode cX11_most 4 = .ok (.iload_n 1, 1) := by decide +kernel
theorem dX11_most_5 : decode cX11_most 5 = .ok (.bipush 99, 2) := by decide +kernel
theorem dX11_most_7 : decode cX11_most 7 = .ok (.if_icmp .le 5, 3) := by decide +kernel
theorem dX11_most_10 : decode cX11_most 10 = .ok (.iconst (-1), 1) := by decide +kernel
theorem dX11_most_11 : decode cX11_most 11 = .ok (.ireturn, 1) := by decide +kernel
theorem dX11_most_12 : decode cX11_most 12 = .ok (.aload_n 0, 1) := by decide +kernel
theorem dX11_most_13 : decode cX11_most 13 = .ok (.getfield 83, 3) := by decide +kernel
theorem dX11_most_16 : decode cX11_most 16 = .ok (.aload_n 0, 1) := by decide +kernel
theorem dX11_most_17 : decode cX11_most 17 = .ok (.getfield 26, 3) := by decide +kernel
theorem dX11_most_20 : decode cX11_most 20 = .ok (.invokevirtual 317, 3) := by decide +kernel
theorem dX11_most_23 : decode cX11_most 23 = .ok (.iconst 0, 1) := by decide +kernel
theorem dX11_most_24 : decode cX11_most 24 = .ok (.istore_n 2, 1) := by decide +kernel
theorem dX11_most_25 : decode cX11_most 25 = .ok (.iconst 0, 1) := by decide +kernel
theorem dX11_most_26 : decode cX11_most 26 = .ok (.istore_n 3, 1) := by decide +kernel
theorem dX11_most_27 : decode cX11_most 27 = .ok (.iconst 0, 1) := by decide +kernel
theorem dX11_most_28 : decode cX11_most 28 = .ok (.istore 4, 2) := by decide +kernel
theorem dX11_most_30 : decode cX11_most 30 = .ok (.iconst 0, 1) := by decide +kernel
theorem dX11_most_31 : decode cX11_most 31 = .ok (.istore 5, 2) := by decide +kernel
theorem dX11_most_33 : decode cX11_most 33 = .ok (.iconst 0, 1) := by decide +kernel
theorem dX11_most_34 : decode cX11_most 34 = .ok (.istore 6, 2) := by decide +kernel
theorem dX11_most_36 : decode cX11_most 36 = .ok (.iload 6, 2) := by decide +kernel
theorem dX11_most_38 : decode cX11_most 38 = .ok (.aload_n 0, 1) := by decide +kernel
theorem dX11_most_39 : decode cX11_most 39 = .ok (.getfield 83, 3) := by decide +kernel
theorem dX11_most_42 : decode cX11_most 42 = .ok (.getfield 320, 3) := by decide +kernel
theorem dX11_most_45 : decode cX11_most 45 = .ok (.if_icmp .gt 120, 3) := by decide +kernel
theorem dX11_most_48 : decode cX11_most 48 = .ok (.iconst 0, 1) := by decide +kernel
theorem dX11_most_49 : decode cX11_most 49 = .ok (.istore 7, 2) := by decide +kernel
theorem dX11_most_51 : decode cX11_most 51 = .ok (.iload 7, 2) := by decide +kernel
theorem dX11_most_53 : decode cX11_most 53 = .ok (.aload_n 0, 1) := by decide +kernel
theorem dX11_most_54 : decode cX11_most 54 = .ok (.getfield 83, 3) := by decide +kernel
theorem dX11_most_57 : decode cX11_most 57 = .ok (.getfield 323, 3) := by decide +kernel
theorem dX11_most_60 : decode cX11_most 60 = .ok (.if_icmp .gt 99, 3) := by decide +kernel
theorem dX11_most_63 : decode cX11_most 63 = .ok (.iload 6, 2) := by decide +kernel
theorem dX11_most_65 : decode cX11_most 65 = .ok (.invokestatic 240, 3) := by decide +kernel
theorem dX11_most_68 : decode cX11_most 68 = .ok (.iload 7, 2) := by decide +kernel
theorem dX11_most_70 : decode cX11_most 70 = .ok (.invokestatic 240, 3) := by decide +kernel
theorem dX11_most_73 : decode cX11_most 73 = .ok (.iadd, 1) := by decide +kernel
theorem dX11_most_74 : decode cX11_most 74 = .ok (.istore 8, 2) := by decide +kernel
theorem dX11_most_76 : decode cX11_most 76 = .ok (.aload_n 0, 1) := by decide +kernel
theorem dX11_most_77 : decode cX11_most 77 = .ok (.getfield 83, 3) := by decide +kernel
theorem dX11_most_80 : decode cX11_most 80 = .ok (.iload 6, 2) := by decide +kernel
theorem dX11_most_82 : decode cX11_most 82 = .ok (.iload 7, 2) := by decide +kernel
theorem dX11_most_84 : decode cX11_most 84 = .ok (.invokevirtual 326, 3) := by decide +kernel
theorem dX11_most_87 : decode cX11_most 87 = .ok (.istore 9, 2) := by decide +kernel
theorem dX11_most_89 : decode cX11_most 89 = .ok (.iload 8, 2) := by decide +kernel
theorem dX11_most_91 : decode cX11_most 91 = .ok (.iload_n 2, 1) := by decide +kernel
theorem dX11_most_92 : decode cX11_most 92 = .ok (.if_icmp .gt 15, 3) := by decide +kernel
theorem dX11_most_95 : decode cX11_most 95 = .ok (.iload 8, 2) := by decide +kernel
theorem dX11_most_97 : decode cX11_most 97 = .ok (.iload_n 2, 1) := by decide +kernel
theorem dX11_most_98 : decode cX11_most 98 = .ok (.if_icmp .ne 13, 3) := by decide +kernel
theorem dX11_most_101 : decode cX11_most 101 = .ok (.iload 9, 2) := by decide +kernel
theorem dX11_most_103 : decode cX11_most 103 = .ok (.iload_n 3, 1) := by decide +kernel
theorem dX11_most_104 : decode cX11_most 104 = .ok (.if_icmp .ge 7, 3) := by decide +kernel
theorem dX11_most_107 : decode cX11_most 107 = .ok (.iconst 1, 1) := by decide +kernel
theorem dX11_most_108 : decode cX11_most 108 = .ok (.goto 4, 3) := by decide +kernel
theorem dX11_most_111 : decode cX11_most 111 = .ok (.iconst 0, 1) := by decide +kernel
theorem dX11_most_112 : decode cX11_most 112 = .ok (.istore 10, 2) := by decide +kernel
theorem dX11_most_114 : decode cX11_most 114 = .ok (.iload 10, 2) := by decide +kernel
theorem dX11_most_116 : decode cX11_most 116 = .ok (.ifCond .eq 37, 3) := by decide +kernel
theorem dX11_most_119 : decode cX11_most 119 = .ok (.iload 9, 2) := by decide +kernel
theorem dX11_most_121 : decode cX11_most 121 = .ok (.iload_n 1, 1) := by decide +kernel
theorem dX11_most_122 : decode cX11_most 122 = .ok (.if_icmp .gt 31, 3) := by decide +kernel
theorem dX11_most_125 : decode cX11_most 125 = .ok (.aload_n 0, 1) := by decide +kernel
theorem dX11_most_126 : decode cX11_most 126 = .ok (.getfield 83, 3) := by decide +kernel
theorem dX11_most_129 : decode cX11_most 129 = .ok (.iload 6, 2) := by decide +kernel
theorem dX11_most_131 : decode cX11_most 131 = .ok (.iload 7, 2) := by decide +kernel
theorem dX11_most_133 : decode cX11_most 133 = .ok (.invokevirtual 327, 3) := by decide +kernel
theorem dX11_most_136 : decode cX11_most 136 = .ok (.ifCond .eq 17, 3) := by decide +kernel
theorem dX11_most_139 : decode cX11_most 139 = .ok (.iload 8, 2) := by decide +kernel
theorem dX11_most_141 : decode cX11_most 141 = .ok (.istore_n 2, 1) := by decide +kernel
theorem dX11_most_142 : decode cX11_most 142 = .ok (.iload 9, 2) := by decide +kernel
theorem dX11_most_144 : decode cX11_most 144 = .ok (.istore_n 3, 1) := by decide +kernel
theorem dX11_most_145 : decode cX11_most 145 = .ok (.iload 6, 2) := by decide +kernel
theorem dX11_most_147 : decode cX11_most 147 = .ok (.istore 4, 2) := by decide +kernel
theorem dX11_most_149 : decode cX11_most 149 = .ok (.iload 7, 2) := by decide +kernel
theorem dX11_most_151 : decode cX11_most 151 = .ok (.istore 5, 2) := by decide +kernel
theorem dX11_most_153 : decode cX11_most 153 = .ok (.iinc 7 1, 3) := by decide +kernel
theorem dX11_most_156 : decode cX11_most 156 = .ok (.goto (-105), 3) := by decide +kernel
theorem dX11_most_159 : decode cX11_most 159 = .ok (.iinc 6 1, 3) := by decide +kernel
theorem dX11_most_162 : decode cX11_most 162 = .ok (.goto (-126), 3) := by decide +kernel
theorem dX11_most_165 : decode cX11_most 165 = .ok (.iload_n 2, 1) := by decide +kernel
theorem dX11_most_166 : decode cX11_most 166 = .ok (.ifCond .ne 6, 3) := by decide +kernel
theorem dX11_most_169 : decode cX11_most 169 = .ok (.bipush (-2), 2) := by decide +kernel
theorem dX11_most_171 : decode cX11_most 171 = .ok (.ireturn, 1) := by decide +kernel
theorem dX11_most_172 : decode cX11_most 172 = .ok (.aload_n 0, 1) := by decide +kernel
theorem dX11_most_173 : decode cX11_most 173 = .ok (.getfield 19, 3) := by decide +kernel
theorem dX11_most_176 : decode cX11_most 176 = .ok (.iload_n 3, 1) := by decide +kernel
theorem dX11_most_177 : decode cX11_most 177 = .ok (.i2l, 1) := by decide +kernel
theorem dX11_most_178 : decode cX11_most 178 = .ok (.iload 4, 2) := by decide +kernel
theorem dX11_most_180 : decode cX11_most 180 = .ok (.i2l, 1) := by decide +kernel
theorem dX11_most_181 : decode cX11_most 181 = .ok (.iload 5, 2) := by decide +kernel
theorem dX11_most_183 : decode cX11_most 183 = .ok (.i2l, 1) := by decide +kernel
theorem dX11_most_184 : decode cX11_most 184 = .ok (.invokevirtual 314, 3) := by decide +kernel
theorem dX11_most_187 : decode cX11_most 187 = .ok (.iload_n 2, 1) := by decide +kernel
theorem dX11_most_188 : decode cX11_most 188 = .ok (.ireturn, 1) := by decide +kernel
theorem dX11_least_0 : decode cX11_least 0 = .ok (.iload_n 1, 1) := by decide +kernel
theorem dX11_least_1 : decode cX11_least 1 = .ok (.iconst 1, 1) := by decide +kernel
theorem dX11_least_2 : decode cX11_least 2 = .ok (.if_icmp .lt 8, 3) := by decide +kernel
theorem dX11_least_5 : decode cX11_least 5 = .ok (.iload_n 1, 1) := by decide +kernel
theorem dX11_least_6 : decode cX11_least 6 = .ok (.iconst 5, 1) := by decide +kernel
theorem dX11_least_7 : decode cX11_least 7 = .ok (.if_icmp .le 5, 3) := by decide +kernel
theorem dX11_least_10 : decode cX11_least 10 = .ok (.iconst (-1), 1) := by decide +kernel
theorem dX11_least_11 : decode cX11_least 11 = .ok (.ireturn, 1) := by decide +kernel
theorem dX11_least_12 : decode cX11_least 12 = .ok (.aload_n 0, 1) := by decide +kernel
theorem dX11_least_13 : decode cX11_least 13 = .ok (.getfield 83, 3) := by decide +kernel
theorem dX11_least_16 : decode cX11_least 16 = .ok (.aload_n 0, 1) := by decide +kernel
theorem dX11_least_17 : decode cX11_least 17 = .ok (.getfield 26, 3) := by decide +kernel
theorem dX11_least_20 : decode cX11_least 20 = .ok (.invokevirtual 317, 3) := by decide +kernel
theorem dX11_least_23 : decode cX11_least 23 = .ok (.aload_n 0, 1) := by decide +kernel
theorem dX11_least_24 : decode cX11_least 24 = .ok (.getfield 92, 3) := by decide +kernel
theorem dX11_least_27 : decode cX11_least 27 = .ok (.invokevirtual 330, 3) := by decide +kernel
theorem dX11_least_30 : decode cX11_least 30 = .ok (.iconst 1, 1) := by decide +kernel
theorem dX11_least_31 : decode cX11_least 31 = .ok (.istore_n 2, 1) := by decide +kernel
theorem dX11_least_32 : decode cX11_least 32 = .ok (.iload_n 2, 1) := by decide +kernel
theorem dX11_least_33 : decode cX11_least 33 = .ok (.iload_n 1, 1) := by decide +kernel
theorem dX11_least_34 : decode cX11_least 34 = .ok (.if_icmp .ge 16, 3) := by decide +kernel
theorem dX11_least_37 : decode cX11_least 37 = .ok (.aload_n 0, 1) := by decide +kernel
theorem dX11_least_38 : decode cX11_least 38 = .ok (.getfield 92, 3) := by decide +kernel
theorem dX11_least_41 : decode cX11_least 41 = .ok (.invokevirtual 333, 3) := by decide +kernel
theorem dX11_least_44 : decode cX11_least 44 = .ok (.iinc 2 1, 3) := by decide +kernel
theorem dX11_least_47 : decode cX11_least 47 = .ok (.goto (-15), 3) := by decide +kernel
theorem dX11_least_50 : decode cX11_least 50 = .ok (.aload_n 0, 1) := by decide +kernel
theorem dX11_least_51 : decode cX11_least 51 = .ok (.getfield 92, 3) := by decide +kernel
theorem dX11_least_54 : decode cX11_least 54 = .ok (.invokevirtual 336, 3) := by decide +kernel
theorem dX11_least_57 : decode cX11_least 57 = .ok (.istore_n 2, 1) := by decide +kernel
theorem dX11_least_58 : decode cX11_least 58 = .ok (.iload_n 2, 1) := by decide +kernel
theorem dX11_least_59 : decode cX11_least 59 = .ok (.ldc_w 339, 3) := by decide +kernel
theorem dX11_least_62 : decode cX11_least 62 = .ok (.if_icmp .lt 6, 3) := by decide +kernel
theorem dX11_least_65 : decode cX11_least 65 = .ok (.bipush (-2), 2) := by decide +kernel
theorem dX11_least_67 : decode cX11_least 67 = .ok (.ireturn, 1) := by decide +kernel
theorem dX11_least_68 : decode cX11_least 68 = .ok (.aload_n 0, 1) := by decide +kernel
theorem dX11_least_69 : decode cX11_least 69 = .ok (.getfield 19, 3) := by decide +kernel
theorem dX11_least_72 : decode cX11_least 72 = .ok (.aload_n 0, 1) := by decide +kernel
theorem dX11_least_73 : decode cX11_least 73 = .ok (.getfield 92, 3) := by decide +kernel
theorem dX11_least_76 : decode cX11_least 76 = .ok (.getfield 340, 3) := by decide +kernel
theorem dX11_least_79 : decode cX11_least 79 = .ok (.i2l, 1) := by decide +kernel
theorem dX11_least_80 : decode cX11_least 80 = .ok (.aload_n 0, 1) := by decide +kernel
theorem dX11_least_81 : decode cX11_least 81 = .ok (.getfield 92, 3) := by decide +kernel
theorem dX11_least_84 : decode cX11_least 84 = .ok (.getfield 343, 3) := by decide +kernel
theorem dX11_least_87 : decode cX11_least 87 = .ok (.i2l, 1) := by decide +kernel
theorem dX11_least_88 : decode cX11_least 88 = .ok (.invokevirtual 236, 3) := by decide +kernel
theorem dX11_least_91 : decode cX11_least 91 = .ok (.iload_n 2, 1) := by decide +kernel
theorem dX11_least_92 : decode cX11_least 92 = .ok (.ireturn, 1) := by decide +kernel
theorem dX11_freely_0 : decode cX11_freely 0 = .ok (.aload_n 0, 1) := by decide +kernel
theorem dX11_freely_1 : decode cX11_freely 1 = .ok (.getfield 26, 3) := by decide +kernel
theorem dX11_freely_4 : decode cX11_freely 4 = .ok (.invokevirtual 245, 3) := by decide +kernel
theorem dX11_freely_7 : decode cX11_freely 7 = .ok (.ifCond .eq 12, 3) := by decide +kernel
theorem dX11_freely_10 : decode cX11_freely 10 = .ok (.aload_n 0, 1) := by decide +kernel
theorem dX11_freely_11 : decode cX11_freely 11 = .ok (.getfield 19, 3) := by decide +kernel
theorem dX11_freely_14 : decode cX11_freely 14 = .ok (.invokevirtual 346, 3) := by decide +kernel
theorem dX11_freely_17 : decode cX11_freely 17 = .ok (.iconst 0, 1) := by decide +kernel
theorem dX11_freely_18 : decode cX11_freely 18 = .ok (.ireturn, 1) := by decide +kernel
theorem dX11_freely_19 : decode cX11_freely 19 = .ok (.aload_n 0, 1) := by decide +kernel
theorem dX11_freely_20 : decode cX11_freely 20 = .ok (.getfield 83, 3) := by decide +kernel
theorem dX11_freely_23 : decode cX11_freely 23 = .ok (.aload_n 0, 1) := by decide +kernel
theorem dX11_freely_24 : decode cX11_freely 24 = .ok (.getfield 26, 3) := by decide +kernel
theorem dX11_freely_27 : decode cX11_freely 27 = .ok (.invokevirtual 317, 3) := by decide +kernel
theorem dX11_freely_30 : decode cX11_freely 30 = .ok (.aload_n 0, 1) := by decide +kernel
theorem dX11_freely_31 : decode cX11_freely 31 = .ok (.getfield 92, 3) := by decide +kernel
theorem dX11_freely_34 : decode cX11_freely 34 = .ok (.invokevirtual 330, 3) := by decide +kernel
theorem dX11_freely_37 : decode cX11_freely 37 = .ok (.iconst 1, 1) := by decide +kernel
theorem dX11_freely_38 : decode cX11_freely 38 = .ok (.istore_n 1, 1) := by decide +kernel
theorem dX11_freely_39 : decode cX11_freely 39 = .ok (.iload_n 1, 1) := by decide +kernel
theorem dX11_freely_40 : decode cX11_freely 40 = .ok (.iconst 5, 1) := by decide +kernel
theorem dX11_freely_41 : decode cX11_freely 41 = .ok (.if_icmp .gt 51, 3) := by decide +kernel
theorem dX11_freely_44 : decode cX11_freely 44 = .ok (.aload_n 0, 1) := by decide +kernel
theorem dX11_freely_45 : decode cX11_freely 45 = .ok (.getfield 92, 3) := by decide +kernel
theorem dX11_freely_48 : decode cX11_freely 48 = .ok (.invokevirtual 336, 3) := by decide +kernel
theorem dX11_freely_51 : decode cX11_freely 51 = .ok (.ifCond .ne 28, 3) := by decide +kernel
theorem dX11_freely_54 : decode cX11_freely 54 = .ok (.aload_n 0, 1) := by decide +kernel
theorem dX11_freely_55 : decode cX11_freely 55 = .ok (.getfield 19, 3) := by decide +kernel
theorem dX11_freely_58 : decode cX11_freely 58 = .ok (.aload_n 0, 1) := by decide +kernel
theorem dX11_freely_59 : decode cX11_freely 59 = .ok (.getfield 92, 3) := by decide +kernel
theorem dX11_freely_62 : decode cX11_freely 62 = .ok (.getfield 340, 3) := by decide +kernel
theorem dX11_freely_65 : decode cX11_freely 65 = .ok (.i2l, 1) := by decide +kernel
theorem dX11_freely_66 : decode cX11_freely 66 = .ok (.aload_n 0, 1) := by decide +kernel
theorem dX11_freely_67 : decode cX11_freely 67 = .ok (.getfield 92, 3) := by decide +kernel
theorem dX11_freely_70 : decode cX11_freely 70 = .ok (.getfield 343, 3) := by decide +kernel
theorem dX11_freely_73 : decode cX11_freely 73 = .ok (.i2l, 1) := by decide +kernel
theorem dX11_freely_74 : decode cX11_freely 74 = .ok (.invokevirtual 236, 3) := by decide +kernel
theorem dX11_freely_77 : decode cX11_freely 77 = .ok (.iload_n 1, 1) := by decide +kernel
theorem dX11_freely_78 : decode cX11_freely 78 = .ok (.ireturn, 1) := by decide +kernel
theorem dX11_freely_79 : decode cX11_freely 79 = .ok (.aload_n 0, 1) := by decide +kernel
theorem dX11_freely_80 : decode cX11_freely 80 = .ok (.getfield 92, 3) := by decide +kernel
theorem dX11_freely_83 : decode cX11_freely 83 = .ok (.invokevirtual 333, 3) := by decide +kernel
theorem dX11_freely_86 : decode cX11_freely 86 = .ok (.iinc 1 1, 3) := by decide +kernel
theorem dX11_freely_89 : decode cX11_freely 89 = .ok (.goto (-50), 3) := by decide +kernel
theorem dX11_freely_92 : decode cX11_freely 92 = .ok (.bipush (-2), 2) := by decide +kernel
theorem dX11_freely_94 : decode cX11_freely 94 = .ok (.ireturn, 1) := by decide +kernel
theorem dX11_best_0 : decode cX11_best 0 = .ok (.ldc_w 339, 3) := by decide +kernel
theorem dX11_best_3 : decode cX11_best 3 = .ok (.istore_n 1, 1) := by decide +kernel
theorem dX11_best_4 : decode cX11_best 4 = .ok (.iconst 0, 1) := by decide +kernel
theorem dX11_best_5 : decode cX11_best 5 = .ok (.istore_n 2, 1) := by decide +kernel
theorem dX11_best_6 : decode cX11_best 6 = .ok (.iconst 0, 1) := by decide +kernel
theorem dX11_best_7 : decode cX11_best 7 = .ok (.istore_n 3, 1) := by decide +kernel
theorem dX11_best_8 : decode cX11_best 8 = .ok (.iconst 0, 1) := by decide +kernel
theorem dX11_best_9 : decode cX11_best 9 = .ok (.istore 4, 2) := by decide +kernel
theorem dX11_best_11 : decode cX11_best 11 = .ok (.iconst 0, 1) := by decide +kernel
theorem dX11_best_12 : decode cX11_best 12 = .ok (.istore 5, 2) := by decide +kernel
theorem dX11_best_14 : decode cX11_best 14 = .ok (.iload 5, 2) := by decide +kernel
theorem dX11_best_16 : decode cX11_best 16 = .ok (.iconst 1, 1) := by decide +kernel
theorem dX11_best_17 : decode cX11_best 17 = .ok (.if_icmp .gt 107, 3) := by decide +kernel
theorem dX11_best_20 : decode cX11_best 20 = .ok (.iconst 0, 1) := by decide +kernel
theorem dX11_best_21 : decode cX11_best 21 = .ok (.istore 6, 2) := by decide +kernel
theorem dX11_best_23 : decode cX11_best 23 = .ok (.iload 6, 2) := by decide +kernel
theorem dX11_best_25 : decode cX11_best 25 = .ok (.aload_n 0, 1) := by decide +kernel
theorem dX11_best_26 : decode cX11_best 26 = .ok (.getfield 26, 3) := by decide +kernel
theorem dX11_best_29 : decode cX11_best 29 = .ok (.iload 5, 2) := by decide +kernel
theorem dX11_best_31 : decode cX11_best 31 = .ok (.invokevirtual 131, 3) := by decide +kernel
theorem dX11_best_34 : decode cX11_best 34 = .ok (.if_icmp .ge 84, 3) := by decide +kernel
theorem dX11_best_37 : decode cX11_best 37 = .ok (.iload 6, 2) := by decide +kernel
theorem dX11_best_39 : decode cX11_best 39 = .ok (.iconst 1, 1) := by decide +kernel
theorem dX11_best_40 : decode cX11_best 40 = .ok (.iadd, 1) := by decide +kernel
theorem dX11_best_41 : decode cX11_best 41 = .ok (.istore 7, 2) := by decide +kernel
theorem dX11_best_43 : decode cX11_best 43 = .ok (.iload 7, 2) := by decide +kernel
theorem dX11_best_45 : decode cX11_best 45 = .ok (.aload_n 0, 1) := by decide +kernel
theorem dX11_best_46 : decode cX11_best 46 = .ok (.getfield 26, 3) := by decide +kernel
theorem dX11_best_49 : decode cX11_best 49 = .ok (.iload 5, 2) := by decide +kernel
theorem dX11_best_51 : decode cX11_best 51 = .ok (.invokevirtual 131, 3) := by decide +kernel
theorem dX11_best_54 : decode cX11_best 54 = .ok (.if_icmp .ge 58, 3) := by decide +kernel
theorem dX11_best_57 : decode cX11_best 57 = .ok (.aload_n 0, 1) := by decide +kernel
theorem dX11_best_58 : decode cX11_best 58 = .ok (.getfield 33, 3) := by decide +kernel
theorem dX11_best_61 : decode cX11_best 61 = .ok (.aload_n 0, 1) := by decide +kernel
theorem dX11_best_62 : decode cX11_best 62 = .ok (.getfield 26, 3) := by decide +kernel
theorem dX11_best_65 : decode cX11_best 65 = .ok (.invokevirtual 179, 3) := by decide +kernel
theorem dX11_best_68 : decode cX11_best 68 = .ok (.aload_n 0, 1) := by decide +kernel
theorem dX11_best_69 : decode cX11_best 69 = .ok (.getfield 33, 3) := by decide +kernel
theorem dX11_best_72 : decode cX11_best 72 = .ok (.iload 5, 2) := by decide +kernel
theorem dX11_best_74 : decode cX11_best 74 = .ok (.iload 6, 2) := by decide +kernel
theorem dX11_best_76 : decode cX11_best 76 = .ok (.iload 7, 2) := by decide +kernel
theorem dX11_best_78 : decode cX11_best 78 = .ok (.invokevirtual 262, 3) := by decide +kernel
theorem dX11_best_81 : decode cX11_best 81 = .ok (.aload_n 0, 1) := by decide +kernel
theorem dX11_best_82 : decode cX11_best 82 = .ok (.invokevirtual 348, 3) := by decide +kernel
theorem dX11_best_85 : decode cX11_best 85 = .ok (.istore 8, 2) := by decide +kernel
theorem dX11_best_87 : decode cX11_best 87 = .ok (.iload 8, 2) := by decide +kernel
theorem dX11_best_89 : decode cX11_best 89 = .ok (.iload_n 1, 1) := by decide +kernel
theorem dX11_best_90 : decode cX11_best 90 = .ok (.if_icmp .ge 16, 3) := by decide +kernel
theorem dX11_best_93 : decode cX11_best 93 = .ok (.iload 8, 2) := by decide +kernel
theorem dX11_best_95 : decode cX11_best 95 = .ok (.istore_n 1, 1) := by decide +kernel
theorem dX11_best_96 : decode cX11_best 96 = .ok (.iload 5, 2) := by decide +kernel
theorem dX11_best_98 : decode cX11_best 98 = .ok (.istore_n 2, 1) := by decide +kernel
theorem dX11_best_99 : decode cX11_best 99 = .ok (.iload 6, 2) := by decide +kernel
theorem dX11_best_101 : decode cX11_best 101 = .ok (.istore_n 3, 1) := by decide +kernel
theorem dX11_best_102 : decode cX11_best 102 = .ok (.iload 7, 2) := by decide +kernel
theorem dX11_best_104 : decode cX11_best 104 = .ok (.istore 4, 2) := by decide +kernel
theorem dX11_best_106 : decode cX11_best 106 = .ok (.iinc 7 1, 3) := by decide +kernel
theorem dX11_best_109 : decode cX11_best 109 = .ok (.goto (-66), 3) := by decide +kernel
theorem dX11_best_112 : decode cX11_best 112 = .ok (.iinc 6 1, 3) := by decide +kernel
theorem dX11_best_115 : decode cX11_best 115 = .ok (.goto (-92), 3) := by decide +kernel
theorem dX11_best_118 : decode cX11_best 118 = .ok (.iinc 5 1, 3) := by decide +kernel
theorem dX11_best_121 : decode cX11_best 121 = .ok (.goto (-107), 3) := by decide +kernel
theorem dX11_best_124 : decode cX11_best 124 = .ok (.iload_n 1, 1) := by decide +kernel
theorem dX11_best_125 : decode cX11_best 125 = .ok (.ldc_w 339, 3) := by decide +kernel
theorem dX11_best_128 : decode cX11_best 128 = .ok (.if_icmp .ne 6, 3) := by decide +kernel
theorem dX11_best_131 : decode cX11_best 131 = .ok (.bipush (-2), 2) := by decide +kernel
theorem dX11_best_133 : decode cX11_best 133 = .ok (.ireturn, 1) := by decide +kernel
theorem dX11_best_134 : decode cX11_best 134 = .ok (.aload_n 0, 1) := by decide +kernel
theorem dX11_best_135 : decode cX11_best 135 = .ok (.getfield 33, 3) := by decide +kernel
theorem dX11_best_138 : decode cX11_best 138 = .ok (.aload_n 0, 1) := by decide +kernel
theorem dX11_best_139 : decode cX11_best 139 = .ok (.getfield 26, 3) := by decide +kernel
theorem dX11_best_142 : decode cX11_best 142 = .ok (.invokevirtual 179, 3) := by decide +kernel
theorem dX11_best_145 : decode cX11_best 145 = .ok (.aload_n 0, 1) := by decide +kernel
theorem dX11_best_146 : decode cX11_best 146 = .ok (.getfield 19, 3) := by decide +kernel
theorem dX11_best_149 : decode cX11_best 149 = .ok (.iload_n 2, 1) := by decide +kernel
theorem dX11_best_150 : decode cX11_best 150 = .ok (.i2l, 1) := by decide +kernel
theorem dX11_best_151 : decode cX11_best 151 = .ok (.iload_n 3, 1) := by decide +kernel
theorem dX11_best_152 : decode cX11_best 152 = .ok (.i2l, 1) := by decide +kernel
theorem dX11_best_153 : decode cX11_best 153 = .ok (.iload 4, 2) := by decide +kernel
theorem dX11_best_155 : decode cX11_best 155 = .ok (.i2l, 1) := by decide +kernel
theorem dX11_best_156 : decode cX11_best 156 = .ok (.aload_n 0, 1) := by decide +kernel
theorem dX11_best_157 : decode cX11_best 157 = .ok (.invokevirtual 348, 3) := by decide +kernel
theorem dX11_best_160 : decode cX11_best 160 = .ok (.i2l, 1) := by decide +kernel
theorem dX11_best_161 : decode cX11_best 161 = .ok (.invokevirtual 293, 3) := by decide +kernel
theorem dX11_best_164 : decode cX11_best 164 = .ok (.iload_n 1, 1) := by decide +kernel
theorem dX11_best_165 : decode cX11_best 165 = .ok (.ireturn, 1) := by decide +kernel
theorem dX11_waterOfTrial_0 : decode cX11_waterOfTrial 0 = .ok (.iconst 0, 1) := by decide +kernel
theorem dX11_waterOfTrial_1 : decode cX11_waterOfTrial 1 = .ok (.istore_n 1, 1) := by decide +kernel
theorem dX11_waterOfTrial_2 : decode cX11_waterOfTrial 2 = .ok (.iconst 0, 1) := by decide +kernel
theorem dX11_waterOfTrial_3 : decode cX11_waterOfTrial 3 = .ok (.istore_n 2, 1) := by decide +kernel
theorem dX11_waterOfTrial_4 : decode cX11_waterOfTrial 4 = .ok (.iload_n 2, 1) := by decide +kernel
theorem dX11_waterOfTrial_5 : decode cX11_waterOfTrial 5 = .ok (.iconst 5, 1) := by decide +kernel
theorem dX11_waterOfTrial_6 : decode cX11_waterOfTrial 6 = .ok (.if_icmp .ge 52, 3) := by decide +kernel
theorem dX11_waterOfTrial_9 : decode cX11_waterOfTrial 9 = .ok (.aload_n 0, 1) := by decide +kernel
theorem dX11_waterOfTrial_10 : decode cX11_waterOfTrial 10 = .ok (.getfield 33, 3) := by decide +kernel
theorem dX11_waterOfTrial_13 : decode cX11_waterOfTrial 13 = .ok (.invokevirtual 245, 3) := by decide +kernel
theorem dX11_waterOfTrial_16 : decode cX11_waterOfTrial 16 = .ok (.ifCond .ne 42, 3) := by decide +kernel
theorem dX11_waterOfTrial_19 : decode cX11_waterOfTrial 19 = .ok (.iload_n 1, 1) := by decide +kernel
theorem dX11_waterOfTrial_20 : decode cX11_waterOfTrial 20 = .ok (.aload_n 0, 1) := by decide +kernel
theorem dX11_waterOfTrial_21 : decode cX11_waterOfTrial 21 = .ok (.getfield 33, 3) := by decide +kernel
theorem dX11_waterOfTrial_24 : decode cX11_waterOfTrial 24 = .ok (.aload_n 0, 1) := by decide +kernel
theorem dX11_waterOfTrial_25 : decode cX11_waterOfTrial 25 = .ok (.getfield 33, 3) := by decide +kernel
theorem dX11_waterOfTrial_28 : decode cX11_waterOfTrial 28 = .ok (.iconst 0, 1) := by decide +kernel
theorem dX11_waterOfTrial_29 : decode cX11_waterOfTrial 29 = .ok (.invokevirtual 215, 3) := by decide +kernel
theorem dX11_waterOfTrial_32 : decode cX11_waterOfTrial 32 = .ok (.aload_n 0, 1) := by decide +kernel
theorem dX11_waterOfTrial_33 : decode cX11_waterOfTrial 33 = .ok (.getfield 33, 3) := by decide +kernel
theorem dX11_waterOfTrial_36 : decode cX11_waterOfTrial 36 = .ok (.iconst 1, 1) := by decide +kernel
theorem dX11_waterOfTrial_37 : decode cX11_waterOfTrial 37 = .ok (.invokevirtual 215, 3) := by decide +kernel
theorem dX11_waterOfTrial_40 : decode cX11_waterOfTrial 40 = .ok (.invokevirtual 218, 3) := by decide +kernel
theorem dX11_waterOfTrial_43 : decode cX11_waterOfTrial 43 = .ok (.iadd, 1) := by decide +kernel
theorem dX11_waterOfTrial_44 : decode cX11_waterOfTrial 44 = .ok (.istore_n 1, 1) := by decide +kernel
theorem dX11_waterOfTrial_45 : decode cX11_waterOfTrial 45 = .ok (.aload_n 0, 1) := by decide +kernel
theorem dX11_waterOfTrial_46 : decode cX11_waterOfTrial 46 = .ok (.getfield 33, 3) := by decide +kernel
theorem dX11_waterOfTrial_49 : decode cX11_waterOfTrial 49 = .ok (.invokevirtual 351, 3) := by decide +kernel
theorem dX11_waterOfTrial_52 : decode cX11_waterOfTrial 52 = .ok (.iinc 2 1, 3) := by decide +kernel
theorem dX11_waterOfTrial_55 : decode cX11_waterOfTrial 55 = .ok (.goto (-51), 3) := by decide +kernel
theorem dX11_waterOfTrial_58 : decode cX11_waterOfTrial 58 = .ok (.iload_n 1, 1) := by decide +kernel
theorem dX11_waterOfTrial_59 : decode cX11_waterOfTrial 59 = .ok (.ireturn, 1) := by decide +kernel
theorem dX11_alike_0 : decode cX11_alike 0 = .ok (.aload_n 0, 1) := by decide +kernel
theorem dX11_alike_1 : decode cX11_alike 1 = .ok (.getfield 83, 3) := by decide +kernel
theorem dX11_alike_4 : decode cX11_alike 4 = .ok (.aload_n 0, 1) := by decide +kernel
theorem dX11_alike_5 : decode cX11_alike 5 = .ok (.getfield 26, 3) := by decide +kernel
theorem dX11_alike_8 : decode cX11_alike 8 = .ok (.invokevirtual 317, 3) := by decide +kernel
theorem dX11_alike_11 : decode cX11_alike 11 = .ok (.iconst 0, 1) := by decide +kernel
theorem dX11_alike_12 : decode cX11_alike 12 = .ok (.istore_n 1, 1) := by decide +kernel
theorem dX11_alike_13 : decode cX11_alike 13 = .ok (.iconst 0, 1) := by decide +kernel
theorem dX11_alike_14 : decode cX11_alike 14 = .ok (.istore_n 2, 1) := by decide +kernel
theorem dX11_alike_15 : decode cX11_alike 15 = .ok (.iconst 0, 1) := by decide +kernel
theorem dX11_alike_16 : decode cX11_alike 16 = .ok (.istore_n 3, 1) := by decide +kernel
theorem dX11_alike_17 : decode cX11_alike 17 = .ok (.iconst 0, 1) := by decide +kernel
theorem dX11_alike_18 : decode cX11_alike 18 = .ok (.istore 4, 2) := by decide +kernel
theorem dX11_alike_20 : decode cX11_alike 20 = .ok (.iconst 1, 1) := by decide +kernel
theorem dX11_alike_21 : decode cX11_alike 21 = .ok (.istore 5, 2) := by decide +kernel
theorem dX11_alike_23 : decode cX11_alike 23 = .ok (.iload 5, 2) := by decide +kernel
theorem dX11_alike_25 : decode cX11_alike 25 = .ok (.aload_n 0, 1) := by decide +kernel
theorem dX11_alike_26 : decode cX11_alike 26 = .ok (.getfield 83, 3) := by decide +kernel
theorem dX11_alike_29 : decode cX11_alike 29 = .ok (.getfield 320, 3) := by decide +kernel
theorem dX11_alike_32 : decode cX11_alike 32 = .ok (.if_icmp .gt 74, 3) := by decide +kernel
theorem dX11_alike_35 : decode cX11_alike 35 = .ok (.aload_n 0, 1) := by decide +kernel
theorem dX11_alike_36 : decode cX11_alike 36 = .ok (.getfield 83, 3) := by decide +kernel
theorem dX11_alike_39 : decode cX11_alike 39 = .ok (.iload 5, 2) := by decide +kernel
theorem dX11_alike_41 : decode cX11_alike 41 = .ok (.invokevirtual 354, 3) := by decide +kernel
theorem dX11_alike_44 : decode cX11_alike 44 = .ok (.istore 6, 2) := by decide +kernel
theorem dX11_alike_46 : decode cX11_alike 46 = .ok (.iconst 1, 1) := by decide +kernel
theorem dX11_alike_47 : decode cX11_alike 47 = .ok (.istore 7, 2) := by decide +kernel
theorem dX11_alike_49 : decode cX11_alike 49 = .ok (.iload 7, 2) := by decide +kernel
theorem dX11_alike_51 : decode cX11_alike 51 = .ok (.aload_n 0, 1) := by decide +kernel
theorem dX11_alike_52 : decode cX11_alike 52 = .ok (.getfield 83, 3) := by decide +kernel
theorem dX11_alike_55 : decode cX11_alike 55 = .ok (.getfield 323, 3) := by decide +kernel
theorem dX11_alike_58 : decode cX11_alike 58 = .ok (.if_icmp .gt 42, 3) := by decide +kernel
theorem dX11_alike_61 : decode cX11_alike 61 = .ok (.aload_n 0, 1) := by decide +kernel
theorem dX11_alike_62 : decode cX11_alike 62 = .ok (.getfield 83, 3) := by decide +kernel
theorem dX11_alike_65 : decode cX11_alike 65 = .ok (.iload 7, 2) := by decide +kernel
theorem dX11_alike_67 : decode cX11_alike 67 = .ok (.invokevirtual 357, 3) := by decide +kernel
theorem dX11_alike_70 : decode cX11_alike 70 = .ok (.iload 6, 2) := by decide +kernel
theorem dX11_alike_72 : decode cX11_alike 72 = .ok (.if_icmp .ne 22, 3) := by decide +kernel
theorem dX11_alike_75 : decode cX11_alike 75 = .ok (.iinc 1 1, 3) := by decide +kernel
theorem dX11_alike_78 : decode cX11_alike 78 = .ok (.iload 6, 2) := by decide +kernel
theorem dX11_alike_80 : decode cX11_alike 80 = .ok (.iload_n 2, 1) := by decide +kernel
theorem dX11_alike_81 : decode cX11_alike 81 = .ok (.if_icmp .le 13, 3) := by decide +kernel
theorem dX11_alike_84 : decode cX11_alike 84 = .ok (.iload 6, 2) := by decide +kernel
theorem dX11_alike_86 : decode cX11_alike 86 = .ok (.istore_n 2, 1) := by decide +kernel
theorem dX11_alike_87 : decode cX11_alike 87 = .ok (.iload 5, 2) := by decide +kernel
theorem dX11_alike_89 : decode cX11_alike 89 = .ok (.istore_n 3, 1) := by decide +kernel
theorem dX11_alike_90 : decode cX11_alike 90 = .ok (.iload 7, 2) := by decide +kernel
theorem dX11_alike_92 : decode cX11_alike 92 = .ok (.istore 4, 2) := by decide +kernel
theorem dX11_alike_94 : decode cX11_alike 94 = .ok (.iinc 7 1, 3) := by decide +kernel
theorem dX11_alike_97 : decode cX11_alike 97 = .ok (.goto (-48), 3) := by decide +kernel
theorem dX11_alike_100 : decode cX11_alike 100 = .ok (.iinc 5 1, 3) := by decide +kernel
theorem dX11_alike_103 : decode cX11_alike 103 = .ok (.goto (-80), 3) := by decide +kernel
theorem dX11_alike_106 : decode cX11_alike 106 = .ok (.iload_n 1, 1) := by decide +kernel
theorem dX11_alike_107 : decode cX11_alike 107 = .ok (.ifCond .ne 13, 3) := by decide +kernel
theorem dX11_alike_110 : decode cX11_alike 110 = .ok (.aload_n 0, 1) := by decide +kernel
theorem dX11_alike_111 : decode cX11_alike 111 = .ok (.getfield 19, 3) := by decide +kernel
theorem dX11_alike_114 : decode cX11_alike 114 = .ok (.invokevirtual 346, 3) := by decide +kernel
theorem dX11_alike_117 : decode cX11_alike 117 = .ok (.goto 17, 3) := by decide +kernel
theorem dX11_alike_120 : decode cX11_alike 120 = .ok (.aload_n 0, 1) := by decide +kernel
theorem dX11_alike_121 : decode cX11_alike 121 = .ok (.getfield 19, 3) := by decide +kernel
theorem dX11_alike_124 : decode cX11_alike 124 = .ok (.iload_n 2, 1) := by decide +kernel
theorem dX11_alike_125 : decode cX11_alike 125 = .ok (.i2l, 1) := by decide +kernel
theorem dX11_alike_126 : decode cX11_alike 126 = .ok (.iload_n 3, 1) := by decide +kernel
theorem dX11_alike_127 : decode cX11_alike 127 = .ok (.i2l, 1) := by decide +kernel
theorem dX11_alike_128 : decode cX11_alike 128 = .ok (.iload 4, 2) := by decide +kernel
theorem dX11_alike_130 : decode cX11_alike 130 = .ok (.i2l, 1) := by decide +kernel
theorem dX11_alike_131 : decode cX11_alike 131 = .ok (.invokevirtual 314, 3) := by decide +kernel
theorem dX11_alike_134 : decode cX11_alike 134 = .ok (.iload_n 1, 1) := by decide +kernel
theorem dX11_alike_135 : decode cX11_alike 135 = .ok (.ireturn, 1) := by decide +kernel
theorem dX11_parts_0 : decode cX11_parts 0 = .ok (.iload_n 1, 1) := by decide +kernel
theorem dX11_parts_1 : decode cX11_parts 1 = .ok (.ifCond .eq 10, 3) := by decide +kernel
theorem dX11_parts_4 : decode cX11_parts 4 = .ok (.iload_n 1, 1) := by decide +kernel
theorem dX11_parts_5 : decode cX11_parts 5 = .ok (.iconst 1, 1) := by decide +kernel
theorem dX11_parts_6 : decode cX11_parts 6 = .ok (.if_icmp .eq 5, 3) := by decide +kernel
theorem dX11_parts_9 : decode cX11_parts 9 = .ok (.iconst (-1), 1) := by decide +kernel
theorem dX11_parts_10 : decode cX11_parts 10 = .ok (.ireturn, 1) := by decide +kernel
theorem dX11_parts_11 : decode cX11_parts 11 = .ok (.aload_n 0, 1) := by decide +kernel
theorem dX11_parts_12 : decode cX11_parts 12 = .ok (.getfield 26, 3) := by decide +kernel
theorem dX11_parts_15 : decode cX11_parts 15 = .ok (.iload_n 1, 1) := by decide +kernel
theorem dX11_parts_16 : decode cX11_parts 16 = .ok (.aload_n 0, 1) := by decide +kernel
theorem dX11_parts_17 : decode cX11_parts 17 = .ok (.getfield 26, 3) := by decide +kernel
theorem dX11_parts_20 : decode cX11_parts 20 = .ok (.iload_n 1, 1) := by decide +kernel
theorem dX11_parts_21 : decode cX11_parts 21 = .ok (.invokevirtual 165, 3) := by decide +kernel
theorem dX11_parts_24 : decode cX11_parts 24 = .ok (.invokevirtual 168, 3) := by decide +kernel
theorem dX11_parts_27 : decode cX11_parts 27 = .ok (.istore_n 2, 1) := by decide +kernel
theorem dX11_parts_28 : decode cX11_parts 28 = .ok (.ldc_w 339, 3) := by decide +kernel
theorem dX11_parts_31 : decode cX11_parts 31 = .ok (.istore_n 3, 1) := by decide +kernel
theorem dX11_parts_32 : decode cX11_parts 32 = .ok (.iconst 0, 1) := by decide +kernel
theorem dX11_parts_33 : decode cX11_parts 33 = .ok (.istore 4, 2) := by decide +kernel
theorem dX11_parts_35 : decode cX11_parts 35 = .ok (.iconst 0, 1) := by decide +kernel
theorem dX11_parts_36 : decode cX11_parts 36 = .ok (.istore 5, 2) := by decide +kernel
theorem dX11_parts_38 : decode cX11_parts 38 = .ok (.iload 5, 2) := by decide +kernel
theorem dX11_parts_40 : decode cX11_parts 40 = .ok (.aload_n 0, 1) := by decide +kernel
theorem dX11_parts_41 : decode cX11_parts 41 = .ok (.getfield 26, 3) := by decide +kernel
theorem dX11_parts_44 : decode cX11_parts 44 = .ok (.iload_n 1, 1) := by decide +kernel
theorem dX11_parts_45 : decode cX11_parts 45 = .ok (.invokevirtual 165, 3) := by decide +kernel
theorem dX11_parts_48 : decode cX11_parts 48 = .ok (.if_icmp .gt 41, 3) := by decide +kernel
theorem dX11_parts_51 : decode cX11_parts 51 = .ok (.iload_n 2, 1) := by decide +kernel
theorem dX11_parts_52 : decode cX11_parts 52 = .ok (.iconst 2, 1) := by decide +kernel
theorem dX11_parts_53 : decode cX11_parts 53 = .ok (.aload_n 0, 1) := by decide +kernel
theorem dX11_parts_54 : decode cX11_parts 54 = .ok (.getfield 26, 3) := by decide +kernel
theorem dX11_parts_57 : decode cX11_parts 57 = .ok (.iload_n 1, 1) := by decide +kernel
theorem dX11_parts_58 : decode cX11_parts 58 = .ok (.iload 5, 2) := by decide +kernel
theorem dX11_parts_60 : decode cX11_parts 60 = .ok (.invokevirtual 168, 3) := by decide +kernel
theorem dX11_parts_63 : decode cX11_parts 63 = .ok (.imul, 1) := by decide +kernel
theorem dX11_parts_64 : decode cX11_parts 64 = .ok (.isub, 1) := by decide +kernel
theorem dX11_parts_65 : decode cX11_parts 65 = .ok (.invokestatic 360, 3) := by decide +kernel
theorem dX11_parts_68 : decode cX11_parts 68 = .ok (.istore 6, 2) := by decide +kernel
theorem dX11_parts_70 : decode cX11_parts 70 = .ok (.iload 6, 2) := by decide +kernel
theorem dX11_parts_72 : decode cX11_parts 72 = .ok (.iload_n 3, 1) := by decide +kernel
theorem dX11_parts_73 : decode cX11_parts 73 = .ok (.if_icmp .ge 10, 3) := by decide +kernel
theorem dX11_parts_76 : decode cX11_parts 76 = .ok (.iload 6, 2) := by decide +kernel
theorem dX11_parts_78 : decode cX11_parts 78 = .ok (.istore_n 3, 1) := by decide +kernel
theorem dX11_parts_79 : decode cX11_parts 79 = .ok (.iload 5, 2) := by decide +kernel
theorem dX11_parts_81 : decode cX11_parts 81 = .ok (.istore 4, 2) := by decide +kernel
theorem dX11_parts_83 : decode cX11_parts 83 = .ok (.iinc 5 1, 3) := by decide +kernel
theorem dX11_parts_86 : decode cX11_parts 86 = .ok (.goto (-48), 3) := by decide +kernel
theorem dX11_parts_89 : decode cX11_parts 89 = .ok (.aload_n 0, 1) := by decide +kernel
theorem dX11_parts_90 : decode cX11_parts 90 = .ok (.getfield 19, 3) := by decide +kernel
theorem dX11_parts_93 : decode cX11_parts 93 = .ok (.iload 4, 2) := by decide +kernel
theorem dX11_parts_95 : decode cX11_parts 95 = .ok (.i2l, 1) := by decide +kernel
theorem dX11_parts_96 : decode cX11_parts 96 = .ok (.aload_n 0, 1) := by decide +kernel
theorem dX11_parts_97 : decode cX11_parts 97 = .ok (.getfield 26, 3) := by decide +kernel
theorem dX11_parts_100 : decode cX11_parts 100 = .ok (.iload_n 1, 1) := by decide +kernel
theorem dX11_parts_101 : decode cX11_parts 101 = .ok (.iload 4, 2) := by decide +kernel
theorem dX11_parts_103 : decode cX11_parts 103 = .ok (.invokevirtual 168, 3) := by decide +kernel
theorem dX11_parts_106 : decode cX11_parts 106 = .ok (.i2l, 1) := by decide +kernel
theorem dX11_parts_107 : decode cX11_parts 107 = .ok (.invokevirtual 236, 3) := by decide +kernel
theorem dX11_parts_110 : decode cX11_parts 110 = .ok (.iload_n 3, 1) := by decide +kernel
theorem dX11_parts_111 : decode cX11_parts 111 = .ok (.ireturn, 1) := by decide +kernel
theorem dX11_spare_0 : decode cX11_spare 0 = .ok (.aload_n 0, 1) := by decide +kernel
theorem dX11_spare_1 : decode cX11_spare 1 = .ok (.getfield 33, 3) := by decide +kernel
theorem dX11_spare_4 : decode cX11_spare 4 = .ok (.aload_n 0, 1) := by decide +kernel
theorem dX11_spare_5 : decode cX11_spare 5 = .ok (.getfield 26, 3) := by decide +kernel
theorem dX11_spare_8 : decode cX11_spare 8 = .ok (.invokevirtual 179, 3) := by decide +kernel
theorem dX11_spare_11 : decode cX11_spare 11 = .ok (.iconst 0, 1) := by decide +kernel
theorem dX11_spare_12 : decode cX11_spare 12 = .ok (.istore_n 1, 1) := by decide +kernel
theorem dX11_spare_13 : decode cX11_spare 13 = .ok (.iconst 0, 1) := by decide +kernel
theorem dX11_spare_14 : decode cX11_spare 14 = .ok (.istore_n 2, 1) := by decide +kernel
theorem dX11_spare_15 : decode cX11_spare 15 = .ok (.iconst 0, 1) := by decide +kernel
theorem dX11_spare_16 : decode cX11_spare 16 = .ok (.istore_n 3, 1) := by decide +kernel
theorem dX11_spare_17 : decode cX11_spare 17 = .ok (.iconst 0, 1) := by decide +kernel
theorem dX11_spare_18 : decode cX11_spare 18 = .ok (.istore 4, 2) := by decide +kernel
theorem dX11_spare_20 : decode cX11_spare 20 = .ok (.iload 4, 2) := by decide +kernel
theorem dX11_spare_22 : decode cX11_spare 22 = .ok (.iconst 5, 1) := by decide +kernel
theorem dX11_spare_23 : decode cX11_spare 23 = .ok (.if_icmp .ge 93, 3) := by decide +kernel
theorem dX11_spare_26 : decode cX11_spare 26 = .ok (.aload_n 0, 1) := by decide +kernel
theorem dX11_spare_27 : decode cX11_spare 27 = .ok (.getfield 33, 3) := by decide +kernel
theorem dX11_spare_30 : decode cX11_spare 30 = .ok (.invokevirtual 245, 3) := by decide +kernel
theorem dX11_spare_33 : decode cX11_spare 33 = .ok (.ifCond .ne 83, 3) := by decide +kernel
theorem dX11_spare_36 : decode cX11_spare 36 = .ok (.aload_n 0, 1) := by decide +kernel
theorem dX11_spare_37 : decode cX11_spare 37 = .ok (.getfield 33, 3) := by decide +kernel
theorem dX11_spare_40 : decode cX11_spare 40 = .ok (.iconst 0, 1) := by decide +kernel
theorem dX11_spare_41 : decode cX11_spare 41 = .ok (.aload_n 0, 1) := by decide +kernel
theorem dX11_spare_42 : decode cX11_spare 42 = .ok (.getfield 33, 3) := by decide +kernel
theorem dX11_spare_45 : decode cX11_spare 45 = .ok (.iconst 0, 1) := by decide +kernel
theorem dX11_spare_46 : decode cX11_spare 46 = .ok (.invokevirtual 215, 3) := by decide +kernel
theorem dX11_spare_49 : decode cX11_spare 49 = .ok (.invokevirtual 168, 3) := by decide +kernel
theorem dX11_spare_52 : decode cX11_spare 52 = .ok (.istore 5, 2) := by decide +kernel
theorem dX11_spare_54 : decode cX11_spare 54 = .ok (.aload_n 0, 1) := by decide +kernel
theorem dX11_spare_55 : decode cX11_spare 55 = .ok (.getfield 33, 3) := by decide +kernel
theorem dX11_spare_58 : decode cX11_spare 58 = .ok (.iconst 1, 1) := by decide +kernel
theorem dX11_spare_59 : decode cX11_spare 59 = .ok (.aload_n 0, 1) := by decide +kernel
theorem dX11_spare_60 : decode cX11_spare 60 = .ok (.getfield 33, 3) := by decide +kernel
theorem dX11_spare_63 : decode cX11_spare 63 = .ok (.iconst 1, 1) := by decide +kernel
theorem dX11_spare_64 : decode cX11_spare 64 = .ok (.invokevirtual 215, 3) := by decide +kernel
theorem dX11_spare_67 : decode cX11_spare 67 = .ok (.invokevirtual 168, 3) := by decide +kernel
theorem dX11_spare_70 : decode cX11_spare 70 = .ok (.istore 6, 2) := by decide +kernel
theorem dX11_spare_72 : decode cX11_spare 72 = .ok (.iload 5, 2) := by decide +kernel
theorem dX11_spare_74 : decode cX11_spare 74 = .ok (.iload 6, 2) := by decide +kernel
theorem dX11_spare_76 : decode cX11_spare 76 = .ok (.isub, 1) := by decide +kernel
theorem dX11_spare_77 : decode cX11_spare 77 = .ok (.aload_n 0, 1) := by decide +kernel
theorem dX11_spare_78 : decode cX11_spare 78 = .ok (.getfield 33, 3) := by decide +kernel
theorem dX11_spare_81 : decode cX11_spare 81 = .ok (.getfield 253, 3) := by decide +kernel
theorem dX11_spare_84 : decode cX11_spare 84 = .ok (.isub, 1) := by decide +kernel
theorem dX11_spare_85 : decode cX11_spare 85 = .ok (.istore 7, 2) := by decide +kernel
theorem dX11_spare_87 : decode cX11_spare 87 = .ok (.iload 7, 2) := by decide +kernel
theorem dX11_spare_89 : decode cX11_spare 89 = .ok (.ifCond .le 11, 3) := by decide +kernel
theorem dX11_spare_92 : decode cX11_spare 92 = .ok (.iload_n 1, 1) := by decide +kernel
theorem dX11_spare_93 : decode cX11_spare 93 = .ok (.iload 7, 2) := by decide +kernel
theorem dX11_spare_95 : decode cX11_spare 95 = .ok (.iadd, 1) := by decide +kernel
theorem dX11_spare_96 : decode cX11_spare 96 = .ok (.istore_n 1, 1) := by decide +kernel
theorem dX11_spare_97 : decode cX11_spare 97 = .ok (.iinc 2 1, 3) := by decide +kernel
theorem dX11_spare_100 : decode cX11_spare 100 = .ok (.iinc 3 1, 3) := by decide +kernel
theorem dX11_spare_103 : decode cX11_spare 103 = .ok (.aload_n 0, 1) := by decide +kernel
theorem dX11_spare_104 : decode cX11_spare 104 = .ok (.getfield 33, 3) := by decide +kernel
theorem dX11_spare_107 : decode cX11_spare 107 = .ok (.invokevirtual 351, 3) := by decide +kernel
theorem dX11_spare_110 : decode cX11_spare 110 = .ok (.iinc 4 1, 3) := by decide +kernel
theorem dX11_spare_113 : decode cX11_spare 113 = .ok (.goto (-93), 3) := by decide +kernel
theorem dX11_spare_116 : decode cX11_spare 116 = .ok (.aload_n 0, 1) := by decide +kernel
theorem dX11_spare_117 : decode cX11_spare 117 = .ok (.getfield 19, 3) := by decide +kernel
theorem dX11_spare_120 : decode cX11_spare 120 = .ok (.iload_n 2, 1) := by decide +kernel
theorem dX11_spare_121 : decode cX11_spare 121 = .ok (.i2l, 1) := by decide +kernel
theorem dX11_spare_122 : decode cX11_spare 122 = .ok (.iload_n 3, 1) := by decide +kernel
theorem dX11_spare_123 : decode cX11_spare 123 = .ok (.i2l, 1) := by decide +kernel
theorem dX11_spare_124 : decode cX11_spare 124 = .ok (.invokevirtual 236, 3) := by decide +kernel
theorem dX11_spare_127 : decode cX11_spare 127 = .ok (.iload_n 1, 1) := by decide +kernel
theorem dX11_spare_128 : decode cX11_spare 128 = .ok (.ireturn, 1) := by decide +kernel
theorem dX11_odds_0 : decode cX11_odds 0 = .ok (.iload_n 1, 1) := by decide +kernel
theorem dX11_odds_1 : decode cX11_odds 1 = .ok (.ifCond .lt 19, 3) := by decide +kernel
theorem dX11_odds_4 : decode cX11_odds 4 = .ok (.iload_n 1, 1) := by decide +kernel
theorem dX11_odds_5 : decode cX11_odds 5 = .ok (.bipush 10, 2) := by decide +kernel
theorem dX11_odds_7 : decode cX11_odds 7 = .ok (.if_icmp .gt 13, 3) := by decide +kernel
theorem dX11_odds_10 : decode cX11_odds 10 = .ok (.iload_n 2, 1) := by decide +kernel
theorem dX11_odds_11 : decode cX11_odds 11 = .ok (.ifCond .lt 9, 3) := by decide +kernel
theorem dX11_odds_14 : decode cX11_odds 14 = .ok (.iload_n 2, 1) := by decide +kernel
theorem dX11_odds_15 : decode cX11_odds 15 = .ok (.bipush 99, 2) := by decide +kernel
theorem dX11_odds_17 : decode cX11_odds 17 = .ok (.if_icmp .le 5, 3) := by decide +kernel
theorem dX11_odds_20 : decode cX11_odds 20 = .ok (.iconst (-1), 1) := by decide +kernel
theorem dX11_odds_21 : decode cX11_odds 21 = .ok (.ireturn, 1) := by decide +kernel
theorem dX11_odds_22 : decode cX11_odds 22 = .ok (.aload_n 0, 1) := by decide +kernel
theorem dX11_odds_23 : decode cX11_odds 23 = .ok (.getfield 26, 3) := by decide +kernel
theorem dX11_odds_26 : decode cX11_odds 26 = .ok (.iconst 0, 1) := by decide +kernel
theorem dX11_odds_27 : decode cX11_odds 27 = .ok (.invokevirtual 215, 3) := by decide +kernel
theorem dX11_odds_30 : decode cX11_odds 30 = .ok (.istore_n 3, 1) := by decide +kernel
theorem dX11_odds_31 : decode cX11_odds 31 = .ok (.aload_n 0, 1) := by decide +kernel
theorem dX11_odds_32 : decode cX11_odds 32 = .ok (.getfield 26, 3) := by decide +kernel
theorem dX11_odds_35 : decode cX11_odds 35 = .ok (.iconst 1, 1) := by decide +kernel
theorem dX11_odds_36 : decode cX11_odds 36 = .ok (.invokevirtual 215, 3) := by decide +kernel
theorem dX11_odds_39 : decode cX11_odds 39 = .ok (.istore 4, 2) := by decide +kernel
theorem dX11_odds_41 : decode cX11_odds 41 = .ok (.iload_n 3, 1) := by decide +kernel
theorem dX11_odds_42 : decode cX11_odds 42 = .ok (.invokestatic 240, 3) := by decide +kernel
theorem dX11_odds_45 : decode cX11_odds 45 = .ok (.iload 4, 2) := by decide +kernel
theorem dX11_odds_47 : decode cX11_odds 47 = .ok (.invokestatic 240, 3) := by decide +kernel
theorem dX11_odds_50 : decode cX11_odds 50 = .ok (.iadd, 1) := by decide +kernel
theorem dX11_odds_51 : decode cX11_odds 51 = .ok (.istore 5, 2) := by decide +kernel
theorem dX11_odds_53 : decode cX11_odds 53 = .ok (.lconst 0, 1) := by decide +kernel
theorem dX11_odds_54 : decode cX11_odds 54 = .ok (.lstore 6, 2) := by decide +kernel
theorem dX11_odds_56 : decode cX11_odds 56 = .ok (.iconst 0, 1) := by decide +kernel
theorem dX11_odds_57 : decode cX11_odds 57 = .ok (.istore 8, 2) := by decide +kernel
theorem dX11_odds_59 : decode cX11_odds 59 = .ok (.iload 8, 2) := by decide +kernel
theorem dX11_odds_61 : decode cX11_odds 61 = .ok (.iload_n 3, 1) := by decide +kernel
theorem dX11_odds_62 : decode cX11_odds 62 = .ok (.if_icmp .gt 77, 3) := by decide +kernel
theorem dX11_odds_65 : decode cX11_odds 65 = .ok (.iconst 0, 1) := by decide +kernel
theorem dX11_odds_66 : decode cX11_odds 66 = .ok (.istore 9, 2) := by decide +kernel
theorem dX11_odds_68 : decode cX11_odds 68 = .ok (.iload 9, 2) := by decide +kernel
theorem dX11_odds_70 : decode cX11_odds 70 = .ok (.iload 4, 2) := by decide +kernel
theorem dX11_odds_72 : decode cX11_odds 72 = .ok (.if_icmp .gt 61, 3) := by decide +kernel
theorem dX11_odds_75 : decode cX11_odds 75 = .ok (.aload_n 0, 1) := by decide +kernel
theorem dX11_odds_76 : decode cX11_odds 76 = .ok (.getfield 26, 3) := by decide +kernel
theorem dX11_odds_79 : decode cX11_odds 79 = .ok (.iload 8, 2) := by decide +kernel
theorem dX11_odds_81 : decode cX11_odds 81 = .ok (.iload 9, 2) := by decide +kernel
theorem dX11_odds_83 : decode cX11_odds 83 = .ok (.invokevirtual 218, 3) := by decide +kernel
theorem dX11_odds_86 : decode cX11_odds 86 = .ok (.iload_n 2, 1) := by decide +kernel
theorem dX11_odds_87 : decode cX11_odds 87 = .ok (.if_icmp .gt 40, 3) := by decide +kernel
theorem dX11_odds_90 : decode cX11_odds 90 = .ok (.iload 8, 2) := by decide +kernel
theorem dX11_odds_92 : decode cX11_odds 92 = .ok (.invokestatic 240, 3) := by decide +kernel
theorem dX11_odds_95 : decode cX11_odds 95 = .ok (.iload 9, 2) := by decide +kernel
theorem dX11_odds_97 : decode cX11_odds 97 = .ok (.invokestatic 240, 3) := by decide +kernel
theorem dX11_odds_100 : decode cX11_odds 100 = .ok (.iadd, 1) := by decide +kernel
theorem dX11_odds_101 : decode cX11_odds 101 = .ok (.istore 10, 2) := by decide +kernel
theorem dX11_odds_103 : decode cX11_odds 103 = .ok (.lload 6, 2) := by decide +kernel
theorem dX11_odds_105 : decode cX11_odds 105 = .ok (.iload_n 1, 1) := by decide +kernel
theorem dX11_odds_106 : decode cX11_odds 106 = .ok (.iload 10, 2) := by decide +kernel
theorem dX11_odds_108 : decode cX11_odds 108 = .ok (.invokestatic 363, 3) := by decide +kernel
theorem dX11_odds_111 : decode cX11_odds 111 = .ok (.bipush 10, 2) := by decide +kernel
theorem dX11_odds_113 : decode cX11_odds 113 = .ok (.iload_n 1, 1) := by decide +kernel
theorem dX11_odds_114 : decode cX11_odds 114 = .ok (.isub, 1) := by decide +kernel
theorem dX11_odds_115 : decode cX11_odds 115 = .ok (.iload 5, 2) := by decide +kernel
theorem dX11_odds_117 : decode cX11_odds 117 = .ok (.iload 10, 2) := by decide +kernel
theorem dX11_odds_119 : decode cX11_odds 119 = .ok (.isub, 1) := by decide +kernel
theorem dX11_odds_120 : decode cX11_odds 120 = .ok (.invokestatic 363, 3) := by decide +kernel
theorem dX11_odds_123 : decode cX11_odds 123 = .ok (.lmul, 1) := by decide +kernel
theorem dX11_odds_124 : decode cX11_odds 124 = .ok (.ladd, 1) := by decide +kernel
theorem dX11_odds_125 : decode cX11_odds 125 = .ok (.lstore 6, 2) := by decide +kernel
theorem dX11_odds_127 : decode cX11_odds 127 = .ok (.iinc 9 1, 3) := by decide +kernel
theorem dX11_odds_130 : decode cX11_odds 130 = .ok (.goto (-62), 3) := by decide +kernel
theorem dX11_odds_133 : decode cX11_odds 133 = .ok (.iinc 8 1, 3) := by decide +kernel
theorem dX11_odds_136 : decode cX11_odds 136 = .ok (.goto (-77), 3) := by decide +kernel
theorem dX11_odds_139 : decode cX11_odds 139 = .ok (.aload_n 0, 1) := by decide +kernel
theorem dX11_odds_140 : decode cX11_odds 140 = .ok (.lload 6, 2) := by decide +kernel
theorem dX11_odds_142 : decode cX11_odds 142 = .ok (.bipush 10, 2) := by decide +kernel
theorem dX11_odds_144 : decode cX11_odds 144 = .ok (.iload 5, 2) := by decide +kernel
theorem dX11_odds_146 : decode cX11_odds 146 = .ok (.invokestatic 363, 3) := by decide +kernel
theorem dX11_odds_149 : decode cX11_odds 149 = .ok (.invokevirtual 367, 3) := by decide +kernel
theorem dX11_odds_152 : decode cX11_odds 152 = .ok (.iconst 0, 1) := by decide +kernel
theorem dX11_odds_153 : decode cX11_odds 153 = .ok (.ireturn, 1) := by decide +kernel
theorem dX11_power_0 : decode cX11_power 0 = .ok (.lconst 1, 1) := by decide +kernel
theorem dX11_power_1 : decode cX11_power 1 = .ok (.lstore_n 2, 1) := by decide +kernel
theorem dX11_power_2 : decode cX11_power 2 = .ok (.iconst 0, 1) := by decide +kernel
theorem dX11_power_3 : decode cX11_power 3 = .ok (.istore 4, 2) := by decide +kernel
theorem dX11_power_5 : decode cX11_power 5 = .ok (.iload 4, 2) := by decide +kernel
theorem dX11_power_7 : decode cX11_power 7 = .ok (.iload_n 1, 1) := by decide +kernel
theorem dX11_power_8 : decode cX11_power 8 = .ok (.if_icmp .ge 14, 3) := by decide +kernel
theorem dX11_power_11 : decode cX11_power 11 = .ok (.lload_n 2, 1) := by decide +kernel
theorem dX11_power_12 : decode cX11_power 12 = .ok (.iload_n 0, 1) := by decide +kernel
theorem dX11_power_13 : decode cX11_power 13 = .ok (.i2l, 1) := by decide +kernel
theorem dX11_power_14 : decode cX11_power 14 = .ok (.lmul, 1) := by decide +kernel
theorem dX11_power_15 : decode cX11_power 15 = .ok (.lstore_n 2, 1) := by decide +kernel
theorem dX11_power_16 : decode cX11_power 16 = .ok (.iinc 4 1, 3) := by decide +kernel
theorem dX11_power_19 : decode cX11_power 19 = .ok (.goto (-14), 3) := by decide +kernel
theorem dX11_power_22 : decode cX11_power 22 = .ok (.lload_n 2, 1) := by decide +kernel
theorem dX11_power_23 : decode cX11_power 23 = .ok (.lreturn, 1) := by decide +kernel
theorem dX11_tellFraction_0 : decode cX11_tellFraction 0 = .ok (.lload_n 1, 1) := by decide +kernel
theorem dX11_tellFraction_1 : decode cX11_tellFraction 1 = .ok (.lload_n 3, 1) := by decide +kernel
theorem dX11_tellFraction_2 : decode cX11_tellFraction 2 = .ok (.invokestatic 370, 3) := by decide +kernel
theorem dX11_tellFraction_5 : decode cX11_tellFraction 5 = .ok (.lstore 5, 2) := by decide +kernel
theorem dX11_tellFraction_7 : decode cX11_tellFraction 7 = .ok (.lload 5, 2) := by decide +kernel
theorem dX11_tellFraction_9 : decode cX11_tellFraction 9 = .ok (.lconst 0, 1) := by decide +kernel
theorem dX11_tellFraction_10 : decode cX11_tellFraction 10 = .ok (.lcmp, 1) := by decide +kernel
theorem dX11_tellFraction_11 : decode cX11_tellFraction 11 = .ok (.ifCond .ne 15, 3) := by decide +kernel
theorem dX11_tellFraction_14 : decode cX11_tellFraction 14 = .ok (.aload_n 0, 1) := by decide +kernel
theorem dX11_tellFraction_15 : decode cX11_tellFraction 15 = .ok (.getfield 19, 3) := by decide +kernel
theorem dX11_tellFraction_18 : decode cX11_tellFraction 18 = .ok (.lconst 0, 1) := by decide +kernel
theorem dX11_tellFraction_19 : decode cX11_tellFraction 19 = .ok (.lconst 1, 1) := by decide +kernel
theorem dX11_tellFraction_20 : decode cX11_tellFraction 20 = .ok (.invokevirtual 236, 3) := by decide +kernel
theorem dX11_tellFraction_23 : decode cX11_tellFraction 23 = .ok (.goto 18, 3) := by decide +kernel
theorem dX11_tellFraction_26 : decode cX11_tellFraction 26 = .ok (.aload_n 0, 1) := by decide +kernel
theorem dX11_tellFraction_27 : decode cX11_tellFraction 27 = .ok (.getfield 19, 3) := by decide +kernel
theorem dX11_tellFraction_30 : decode cX11_tellFraction 30 = .ok (.lload_n 1, 1) := by decide +kernel
theorem dX11_tellFraction_31 : decode cX11_tellFraction 31 = .ok (.lload 5, 2) := by decide +kernel
theorem dX11_tellFraction_33 : decode cX11_tellFraction 33 = .ok (.ldiv, 1) := by decide +kernel
theorem dX11_tellFraction_34 : decode cX11_tellFraction 34 = .ok (.lload_n 3, 1) := by decide +kernel
theorem dX11_tellFraction_35 : decode cX11_tellFraction 35 = .ok (.lload 5, 2) := by decide +kernel
theorem dX11_tellFraction_37 : decode cX11_tellFraction 37 = .ok (.ldiv, 1) := by decide +kernel
theorem dX11_tellFraction_38 : decode cX11_tellFraction 38 = .ok (.invokevirtual 236, 3) := by decide +kernel
theorem dX11_tellFraction_41 : decode cX11_tellFraction 41 = .ok (.return_, 1) := by decide +kernel
theorem dX11_greatestDivisor_0 : decode cX11_greatestDivisor 0 = .ok (.lload_n 0, 1) := by decide +kernel
theorem dX11_greatestDivisor_1 : decode cX11_greatestDivisor 1 = .ok (.lstore 4, 2) := by decide +kernel
theorem dX11_greatestDivisor_3 : decode cX11_greatestDivisor 3 = .ok (.lload_n 2, 1) := by decide +kernel
theorem dX11_greatestDivisor_4 : decode cX11_greatestDivisor 4 = .ok (.lstore 6, 2) := by decide +kernel
theorem dX11_greatestDivisor_6 : decode cX11_greatestDivisor 6 = .ok (.iconst 0, 1) := by decide +kernel
theorem dX11_greatestDivisor_7 : decode cX11_greatestDivisor 7 = .ok (.istore 8, 2) := by decide +kernel
theorem dX11_greatestDivisor_9 : decode cX11_greatestDivisor 9 = .ok (.iload 8, 2) := by decide +kernel
theorem dX11_greatestDivisor_11 : decode cX11_greatestDivisor 11 = .ok (.bipush 100, 2) := by decide +kernel
theorem dX11_greatestDivisor_13 : decode cX11_greatestDivisor 13 = .ok (.if_icmp .ge 31, 3) := by decide +kernel
theorem dX11_greatestDivisor_16 : decode cX11_greatestDivisor 16 = .ok (.lload 6, 2) := by decide +kernel
theorem dX11_greatestDivisor_18 : decode cX11_greatestDivisor 18 = .ok (.lconst 0, 1) := by decide +kernel
theorem dX11_greatestDivisor_19 : decode cX11_greatestDivisor 19 = .ok (.lcmp, 1) := by decide +kernel
theorem dX11_greatestDivisor_20 : decode cX11_greatestDivisor 20 = .ok (.ifCond .eq 24, 3) := by decide +kernel
theorem dX11_greatestDivisor_23 : decode cX11_greatestDivisor 23 = .ok (.lload 4, 2) := by decide +kernel
theorem dX11_greatestDivisor_25 : decode cX11_greatestDivisor 25 = .ok (.lload 6, 2) := by decide +kernel
theorem dX11_greatestDivisor_27 : decode cX11_greatestDivisor 27 = .ok (.lrem, 1) := by decide +kernel
theorem dX11_greatestDivisor_28 : decode cX11_greatestDivisor 28 = .ok (.lstore 9, 2) := by decide +kernel
theorem dX11_greatestDivisor_30 : decode cX11_greatestDivisor 30 = .ok (.lload 6, 2) := by decide +kernel
theorem dX11_greatestDivisor_32 : decode cX11_greatestDivisor 32 = .ok (.lstore 4, 2) := by decide +kernel
theorem dX11_greatestDivisor_34 : decode cX11_greatestDivisor 34 = .ok (.lload 9, 2) := by decide +kernel
theorem dX11_greatestDivisor_36 : decode cX11_greatestDivisor 36 = .ok (.lstore 6, 2) := by decide +kernel
theorem dX11_greatestDivisor_38 : decode cX11_greatestDivisor 38 = .ok (.iinc 8 1, 3) := by decide +kernel
theorem dX11_greatestDivisor_41 : decode cX11_greatestDivisor 41 = .ok (.goto (-32), 3) := by decide +kernel
theorem dX11_greatestDivisor_44 : decode cX11_greatestDivisor 44 = .ok (.lload 4, 2) := by decide +kernel
theorem dX11_greatestDivisor_46 : decode cX11_greatestDivisor 46 = .ok (.lreturn, 1) := by decide +kernel
theorem dX11_heard_0 : decode cX11_heard 0 = .ok (.iload_n 1, 1) := by decide +kernel
theorem dX11_heard_1 : decode cX11_heard 1 = .ok (.iload_n 2, 1) := by decide +kernel
theorem dX11_heard_2 : decode cX11_heard 2 = .ok (.invokestatic 374, 3) := by decide +kernel
theorem dX11_heard_5 : decode cX11_heard 5 = .ok (.ifCond .ne 5, 3) := by decide +kernel
theorem dX11_heard_8 : decode cX11_heard 8 = .ok (.iconst (-1), 1) := by decide +kernel
theorem dX11_heard_9 : decode cX11_heard 9 = .ok (.ireturn, 1) := by decide +kernel
theorem dX11_heard_10 : decode cX11_heard 10 = .ok (.aload_n 0, 1) := by decide +kernel
theorem dX11_heard_11 : decode cX11_heard 11 = .ok (.getfield 69, 3) := by decide +kernel
theorem dX11_heard_14 : decode cX11_heard 14 = .ok (.iload_n 1, 1) := by decide +kernel
theorem dX11_heard_15 : decode cX11_heard 15 = .ok (.iload_n 2, 1) := by decide +kernel
theorem dX11_heard_16 : decode cX11_heard 16 = .ok (.invokevirtual 377, 3) := by decide +kernel
theorem dX11_heard_19 : decode cX11_heard 19 = .ok (.ifCond .eq 13, 3) := by decide +kernel
theorem dX11_heard_22 : decode cX11_heard 22 = .ok (.aload_n 0, 1) := by decide +kernel
theorem dX11_heard_23 : decode cX11_heard 23 = .ok (.getfield 69, 3) := by decide +kernel
theorem dX11_heard_26 : decode cX11_heard 26 = .ok (.invokevirtual 380, 3) := by decide +kernel
theorem dX11_heard_29 : decode cX11_heard 29 = .ok (.goto 4, 3) := by decide +kernel
theorem dX11_heard_32 : decode cX11_heard 32 = .ok (.iconst (-1), 1) := by decide +kernel
theorem dX11_heard_33 : decode cX11_heard 33 = .ok (.ireturn, 1) := by decide +kernel
theorem dX11_mayBeHeard_0 : decode cX11_mayBeHeard 0 = .ok (.iload_n 0, 1) := by decide +kernel
theorem dX11_mayBeHeard_1 : decode cX11_mayBeHeard 1 = .ok (.tableswitch 78 0 3 #[31, 46, 63, 31], 31) := by decide +kernel
theorem dX11_mayBeHeard_32 : decode cX11_mayBeHeard 32 = .ok (.iload_n 1, 1) := by decide +kernel
theorem dX11_mayBeHeard_33 : decode cX11_mayBeHeard 33 = .ok (.ifCond .eq 8, 3) := by decide +kernel
theorem dX11_mayBeHeard_36 : decode cX11_mayBeHeard 36 = .ok (.iload_n 1, 1) := by decide +kernel
theorem dX11_mayBeHeard_37 : decode cX11_mayBeHeard 37 = .ok (.iconst 1, 1) := by decide +kernel
theorem dX11_mayBeHeard_38 : decode cX11_mayBeHeard 38 = .ok (.if_icmp .ne 7, 3) := by decide +kernel
theorem dX11_mayBeHeard_41 : decode cX11_mayBeHeard 41 = .ok (.iconst 1, 1) := by decide +kernel
theorem dX11_mayBeHeard_42 : decode cX11_mayBeHeard 42 = .ok (.goto 4, 3) := by decide +kernel
theorem dX11_mayBeHeard_45 : decode cX11_mayBeHeard 45 = .ok (.iconst 0, 1) := by decide +kernel
theorem dX11_mayBeHeard_46 : decode cX11_mayBeHeard 46 = .ok (.ireturn, 1) := by decide +kernel
theorem dX11_mayBeHeard_47 : decode cX11_mayBeHeard 47 = .ok (.iload_n 1, 1) := by decide +kernel
theorem dX11_mayBeHeard_48 : decode cX11_mayBeHeard 48 = .ok (.iconst 1, 1) := by decide +kernel
theorem dX11_mayBeHeard_49 : decode cX11_mayBeHeard 49 = .ok (.if_icmp .lt 13, 3) := by decide +kernel
theorem dX11_mayBeHeard_52 : decode cX11_mayBeHeard 52 = .ok (.iload_n 1, 1) := by decide +kernel
theorem dX11_mayBeHeard_53 : decode cX11_mayBeHeard 53 = .ok (.bipush 9, 2) := by decide +kernel
theorem dX11_mayBeHeard_55 : decode cX11_mayBeHeard 55 = .ok (.if_icmp .gt 7, 3) := by decide +kernel
theorem dX11_mayBeHeard_58 : decode cX11_mayBeHeard 58 = .ok (.iconst 1, 1) := by decide +kernel
theorem dX11_mayBeHeard_59 : decode cX11_mayBeHeard 59 = .ok (.goto 4, 3) := by decide +kernel
theorem dX11_mayBeHeard_62 : decode cX11_mayBeHeard 62 = .ok (.iconst 0, 1) := by decide +kernel
theorem dX11_mayBeHeard_63 : decode cX11_mayBeHeard 63 = .ok (.ireturn, 1) := by decide +kernel
theorem dX11_mayBeHeard_64 : decode cX11_mayBeHeard 64 = .ok (.iload_n 1, 1) := by decide +kernel
theorem dX11_mayBeHeard_65 : decode cX11_mayBeHeard 65 = .ok (.ifCond .lt 12, 3) := by decide +kernel
theorem dX11_mayBeHeard_68 : decode cX11_mayBeHeard 68 = .ok (.iload_n 1, 1) := by decide +kernel
theorem dX11_mayBeHeard_69 : decode cX11_mayBeHeard 69 = .ok (.iconst 5, 1) := by decide +kernel
theorem dX11_mayBeHeard_70 : decode cX11_mayBeHeard 70 = .ok (.if_icmp .ge 7, 3) := by decide +kernel
theorem dX11_mayBeHeard_73 : decode cX11_mayBeHeard 73 = .ok (.iconst 1, 1) := by decide +kernel
theorem dX11_mayBeHeard_74 : decode cX11_mayBeHeard 74 = .ok (.goto 4, 3) := by decide +kernel
theorem dX11_mayBeHeard_77 : decode cX11_mayBeHeard 77 = .ok (.iconst 0, 1) := by decide +kernel
theorem dX11_mayBeHeard_78 : decode cX11_mayBeHeard 78 = .ok (.ireturn, 1) := by decide +kernel
theorem dX11_mayBeHeard_79 : decode cX11_mayBeHeard 79 = .ok (.iconst 0, 1) := by decide +kernel
theorem dX11_mayBeHeard_80 : decode cX11_mayBeHeard 80 = .ok (.ireturn, 1) := by decide +kernel
theorem dX11_forget_0 : decode cX11_forget 0 = .ok (.aload_n 0, 1) := by decide +kernel
theorem dX11_forget_1 : decode cX11_forget 1 = .ok (.getfield 69, 3) := by decide +kernel
theorem dX11_forget_4 : decode cX11_forget 4 = .ok (.invokevirtual 381, 3) := by decide +kernel
theorem dX11_forget_7 : decode cX11_forget 7 = .ok (.ireturn, 1) := by decide +kernel
theorem dX11_fits_0 : decode cX11_fits 0 = .ok (.aload_n 0, 1) := by decide +kernel
theorem dX11_fits_1 : decode cX11_fits 1 = .ok (.getfield 69, 3) := by decide +kernel
theorem dX11_fits_4 : decode cX11_fits 4 = .ok (.aload_n 0, 1) := by decide +kernel
theorem dX11_fits_5 : decode cX11_fits 5 = .ok (.getfield 26, 3) := by decide +kernel
theorem dX11_fits_8 : decode cX11_fits 8 = .ok (.invokevirtual 383, 3) := by decide +kernel
theorem dX11_fits_11 : decode cX11_fits 11 = .ok (.istore_n 1, 1) := by decide +kernel
theorem dX11_fits_12 : decode cX11_fits 12 = .ok (.aload_n 0, 1) := by decide +kernel
theorem dX11_fits_13 : decode cX11_fits 13 = .ok (.getfield 19, 3) := by decide +kernel
theorem dX11_fits_16 : decode cX11_fits 16 = .ok (.iload_n 1, 1) := by decide +kernel
theorem dX11_fits_17 : decode cX11_fits 17 = .ok (.invokestatic 240, 3) := by decide +kernel
theorem dX11_fits_20 : decode cX11_fits 20 = .ok (.i2l, 1) := by decide +kernel
theorem dX11_fits_21 : decode cX11_fits 21 = .ok (.invokevirtual 302, 3) := by decide +kernel
theorem dX11_fits_24 : decode cX11_fits 24 = .ok (.iload_n 1, 1) := by decide +kernel
theorem dX11_fits_25 : decode cX11_fits 25 = .ok (.ireturn, 1) := by decide +kernel
theorem dX11_asks_0 : decode cX11_asks 0 = .ok (.aload_n 0, 1) := by decide +kernel
theorem dX11_asks_1 : decode cX11_asks 1 = .ok (.getfield 69, 3) := by decide +kernel
theorem dX11_asks_4 : decode cX11_asks 4 = .ok (.aload_n 0, 1) := by decide +kernel
theorem dX11_asks_5 : decode cX11_asks 5 = .ok (.getfield 26, 3) := by decide +kernel
theorem dX11_asks_8 : decode cX11_asks 8 = .ok (.invokevirtual 383, 3) := by decide +kernel
theorem dX11_asks_11 : decode cX11_asks 11 = .ok (.istore_n 1, 1) := by decide +kernel
theorem dX11_asks_12 : decode cX11_asks 12 = .ok (.iload_n 1, 1) := by decide +kernel
theorem dX11_asks_13 : decode cX11_asks 13 = .ok (.ifCond .ne 6, 3) := by decide +kernel
theorem dX11_asks_16 : decode cX11_asks 16 = .ok (.bipush (-2), 2) := by decide +kernel
theorem dX11_asks_18 : decode cX11_asks 18 = .ok (.ireturn, 1) := by decide +kernel
theorem dX11_asks_19 : decode cX11_asks 19 = .ok (.iload_n 1, 1) := by decide +kernel
theorem dX11_asks_20 : decode cX11_asks 20 = .ok (.invokestatic 240, 3) := by decide +kernel
theorem dX11_asks_23 : decode cX11_asks 23 = .ok (.istore_n 2, 1) := by decide +kernel
theorem dX11_asks_24 : decode cX11_asks 24 = .ok (.ldc_w 339, 3) := by decide +kernel
theorem dX11_asks_27 : decode cX11_asks 27 = .ok (.istore_n 3, 1) := by decide +kernel
theorem dX11_asks_28 : decode cX11_asks 28 = .ok (.iconst 0, 1) := by decide +kernel
theorem dX11_asks_29 : decode cX11_asks 29 = .ok (.istore 4, 2) := by decide +kernel
theorem dX11_asks_31 : decode cX11_asks 31 = .ok (.iconst 0, 1) := by decide +kernel
theorem dX11_asks_32 : decode cX11_asks 32 = .ok (.istore 5, 2) := by decide +kernel
theorem dX11_asks_34 : decode cX11_asks 34 = .ok (.iload 5, 2) := by decide +kernel
theorem dX11_asks_36 : decode cX11_asks 36 = .ok (.bipush 40, 2) := by decide +kernel
theorem dX11_asks_38 : decode cX11_asks 38 = .ok (.if_icmp .ge 73, 3) := by decide +kernel
theorem dX11_asks_41 : decode cX11_asks 41 = .ok (.iload 5, 2) := by decide +kernel
theorem dX11_asks_43 : decode cX11_asks 43 = .ok (.bipush 10, 2) := by decide +kernel
theorem dX11_asks_45 : decode cX11_asks 45 = .ok (.idiv, 1) := by decide +kernel
theorem dX11_asks_46 : decode cX11_asks 46 = .ok (.iload 5, 2) := by decide +kernel
theorem dX11_asks_48 : decode cX11_asks 48 = .ok (.bipush 10, 2) := by decide +kernel
theorem dX11_asks_50 : decode cX11_asks 50 = .ok (.irem, 1) := by decide +kernel
theorem dX11_asks_51 : decode cX11_asks 51 = .ok (.invokestatic 374, 3) := by decide +kernel
theorem dX11_asks_54 : decode cX11_asks 54 = .ok (.ifCond .eq 51, 3) := by decide +kernel
theorem dX11_asks_57 : decode cX11_asks 57 = .ok (.iload_n 1, 1) := by decide +kernel
theorem dX11_asks_58 : decode cX11_asks 58 = .ok (.aload_n 0, 1) := by decide +kernel
theorem dX11_asks_59 : decode cX11_asks 59 = .ok (.getfield 26, 3) := by decide +kernel
theorem dX11_asks_62 : decode cX11_asks 62 = .ok (.iload 5, 2) := by decide +kernel
theorem dX11_asks_64 : decode cX11_asks 64 = .ok (.bipush 10, 2) := by decide +kernel
theorem dX11_asks_66 : decode cX11_asks 66 = .ok (.idiv, 1) := by decide +kernel
theorem dX11_asks_67 : decode cX11_asks 67 = .ok (.iload 5, 2) := by decide +kernel
theorem dX11_asks_69 : decode cX11_asks 69 = .ok (.bipush 10, 2) := by decide +kernel
theorem dX11_asks_71 : decode cX11_asks 71 = .ok (.irem, 1) := by decide +kernel
theorem dX11_asks_72 : decode cX11_asks 72 = .ok (.invokevirtual 386, 3) := by decide +kernel
theorem dX11_asks_75 : decode cX11_asks 75 = .ok (.iand, 1) := by decide +kernel
theorem dX11_asks_76 : decode cX11_asks 76 = .ok (.invokestatic 240, 3) := by decide +kernel
theorem dX11_asks_79 : decode cX11_asks 79 = .ok (.istore 6, 2) := by decide +kernel
theorem dX11_asks_81 : decode cX11_asks 81 = .ok (.iload 6, 2) := by decide +kernel
theorem dX11_asks_83 : decode cX11_asks 83 = .ok (.iload_n 2, 1) := by decide +kernel
theorem dX11_asks_84 : decode cX11_asks 84 = .ok (.iload 6, 2) := by decide +kernel
theorem dX11_asks_86 : decode cX11_asks 86 = .ok (.isub, 1) := by decide +kernel
theorem dX11_asks_87 : decode cX11_asks 87 = .ok (.invokestatic 176, 3) := by decide +kernel
theorem dX11_asks_90 : decode cX11_asks 90 = .ok (.istore 7, 2) := by decide +kernel
theorem dX11_asks_92 : decode cX11_asks 92 = .ok (.iload 7, 2) := by decide +kernel
theorem dX11_asks_94 : decode cX11_asks 94 = .ok (.iload_n 3, 1) := by decide +kernel
theorem dX11_asks_95 : decode cX11_asks 95 = .ok (.if_icmp .ge 10, 3) := by decide +kernel
theorem dX11_asks_98 : decode cX11_asks 98 = .ok (.iload 7, 2) := by decide +kernel
theorem dX11_asks_100 : decode cX11_asks 100 = .ok (.istore_n 3, 1) := by decide +kernel
theorem dX11_asks_101 : decode cX11_asks 101 = .ok (.iload 5, 2) := by decide +kernel
theorem dX11_asks_103 : decode cX11_asks 103 = .ok (.istore 4, 2) := by decide +kernel
theorem dX11_asks_105 : decode cX11_asks 105 = .ok (.iinc 5 1, 3) := by decide +kernel
theorem dX11_asks_108 : decode cX11_asks 108 = .ok (.goto (-74), 3) := by decide +kernel
theorem dX11_asks_111 : decode cX11_asks 111 = .ok (.aload_n 0, 1) := by decide +kernel
theorem dX11_asks_112 : decode cX11_asks 112 = .ok (.getfield 19, 3) := by decide +kernel
theorem dX11_asks_115 : decode cX11_asks 115 = .ok (.iload_n 3, 1) := by decide +kernel
theorem dX11_asks_116 : decode cX11_asks 116 = .ok (.i2l, 1) := by decide +kernel
theorem dX11_asks_117 : decode cX11_asks 117 = .ok (.invokevirtual 302, 3) := by decide +kernel
theorem dX11_asks_120 : decode cX11_asks 120 = .ok (.iload 4, 2) := by decide +kernel
theorem dX11_asks_122 : decode cX11_asks 122 = .ok (.ireturn, 1) := by decide +kernel
theorem dX11_saw_0 : decode cX11_saw 0 = .ok (.iload_n 1, 1) := by decide +kernel
theorem dX11_saw_1 : decode cX11_saw 1 = .ok (.ifCond .lt 28, 3) := by decide +kernel
theorem dX11_saw_4 : decode cX11_saw 4 = .ok (.iload_n 1, 1) := by decide +kernel
theorem dX11_saw_5 : decode cX11_saw 5 = .ok (.bipush 30, 2) := by decide +kernel
theorem dX11_saw_7 : decode cX11_saw 7 = .ok (.if_icmp .gt 22, 3) := by decide +kernel
theorem dX11_saw_10 : decode cX11_saw 10 = .ok (.iload_n 2, 1) := by decide +kernel
theorem dX11_saw_11 : decode cX11_saw 11 = .ok (.ifCond .lt 18, 3) := by decide +kernel
theorem dX11_saw_14 : decode cX11_saw 14 = .ok (.iload_n 2, 1) := by decide +kernel
theorem dX11_saw_15 : decode cX11_saw 15 = .ok (.bipush 30, 2) := by decide +kernel
theorem dX11_saw_17 : decode cX11_saw 17 = .ok (.if_icmp .gt 12, 3) := by decide +kernel
theorem dX11_saw_20 : decode cX11_saw 20 = .ok (.iload_n 3, 1) := by decide +kernel
theorem dX11_saw_21 : decode cX11_saw 21 = .ok (.ifCond .lt 8, 3) := by decide +kernel
theorem dX11_saw_24 : decode cX11_saw 24 = .ok (.iload_n 3, 1) := by decide +kernel
theorem dX11_saw_25 : decode cX11_saw 25 = .ok (.iconst 1, 1) := by decide +kernel
theorem dX11_saw_26 : decode cX11_saw 26 = .ok (.if_icmp .le 5, 3) := by decide +kernel
theorem dX11_saw_29 : decode cX11_saw 29 = .ok (.iconst (-1), 1) := by decide +kernel
theorem dX11_saw_30 : decode cX11_saw 30 = .ok (.ireturn, 1) := by decide +kernel
theorem dX11_saw_31 : decode cX11_saw 31 = .ok (.aload_n 0, 1) := by decide +kernel
theorem dX11_saw_32 : decode cX11_saw 32 = .ok (.getfield 76, 3) := by decide +kernel
theorem dX11_saw_35 : decode cX11_saw 35 = .ok (.iload_n 1, 1) := by decide +kernel
theorem dX11_saw_36 : decode cX11_saw 36 = .ok (.iload_n 2, 1) := by decide +kernel
theorem dX11_saw_37 : decode cX11_saw 37 = .ok (.isub, 1) := by decide +kernel
theorem dX11_saw_38 : decode cX11_saw 38 = .ok (.iload_n 3, 1) := by decide +kernel
theorem dX11_saw_39 : decode cX11_saw 39 = .ok (.iconst 1, 1) := by decide +kernel
theorem dX11_saw_40 : decode cX11_saw 40 = .ok (.if_icmp .ne 7, 3) := by decide +kernel
theorem dX11_saw_43 : decode cX11_saw 43 = .ok (.iconst 1, 1) := by decide +kernel
theorem dX11_saw_44 : decode cX11_saw 44 = .ok (.goto 4, 3) := by decide +kernel
theorem dX11_saw_47 : decode cX11_saw 47 = .ok (.iconst 0, 1) := by decide +kernel
theorem dX11_saw_48 : decode cX11_saw 48 = .ok (.invokevirtual 389, 3) := by decide +kernel
theorem dX11_saw_51 : decode cX11_saw 51 = .ok (.ifCond .eq 13, 3) := by decide +kernel
theorem dX11_saw_54 : decode cX11_saw 54 = .ok (.aload_n 0, 1) := by decide +kernel
theorem dX11_saw_55 : decode cX11_saw 55 = .ok (.getfield 76, 3) := by decide +kernel
theorem dX11_saw_58 : decode cX11_saw 58 = .ok (.invokevirtual 392, 3) := by decide +kernel
theorem dX11_saw_61 : decode cX11_saw 61 = .ok (.goto 4, 3) := by decide +kernel
theorem dX11_saw_64 : decode cX11_saw 64 = .ok (.iconst (-1), 1) := by decide +kernel
theorem dX11_saw_65 : decode cX11_saw 65 = .ok (.ireturn, 1) := by decide +kernel
theorem dX11_denies_0 : decode cX11_denies 0 = .ok (.aload_n 0, 1) := by decide +kernel
theorem dX11_denies_1 : decode cX11_denies 1 = .ok (.getfield 76, 3) := by decide +kernel
theorem dX11_denies_4 : decode cX11_denies 4 = .ok (.invokevirtual 393, 3) := by decide +kernel
theorem dX11_denies_7 : decode cX11_denies 7 = .ok (.ireturn, 1) := by decide +kernel
theorem dX11_laws_0 : decode cX11_laws 0 = .ok (.aload_n 0, 1) := by decide +kernel
theorem dX11_laws_1 : decode cX11_laws 1 = .ok (.getfield 76, 3) := by decide +kernel
theorem dX11_laws_4 : decode cX11_laws 4 = .ok (.invokevirtual 394, 3) := by decide +kernel
theorem dX11_laws_7 : decode cX11_laws 7 = .ok (.lstore_n 1, 1) := by decide +kernel
theorem dX11_laws_8 : decode cX11_laws 8 = .ok (.lload_n 1, 1) := by decide +kernel
theorem dX11_laws_9 : decode cX11_laws 9 = .ok (.lconst 0, 1) := by decide +kernel
theorem dX11_laws_10 : decode cX11_laws 10 = .ok (.lcmp, 1) := by decide +kernel
theorem dX11_laws_11 : decode cX11_laws 11 = .ok (.ifCond .ne 12, 3) := by decide +kernel
theorem dX11_laws_14 : decode cX11_laws 14 = .ok (.aload_n 0, 1) := by decide +kernel
theorem dX11_laws_15 : decode cX11_laws 15 = .ok (.getfield 19, 3) := by decide +kernel
theorem dX11_laws_18 : decode cX11_laws 18 = .ok (.invokevirtual 346, 3) := by decide +kernel
theorem dX11_laws_21 : decode cX11_laws 21 = .ok (.iconst 0, 1) := by decide +kernel
theorem dX11_laws_22 : decode cX11_laws 22 = .ok (.ireturn, 1) := by decide +kernel
theorem dX11_laws_23 : decode cX11_laws 23 = .ok (.lload_n 1, 1) := by decide +kernel
theorem dX11_laws_24 : decode cX11_laws 24 = .ok (.invokestatic 398, 3) := by decide +kernel
theorem dX11_laws_27 : decode cX11_laws 27 = .ok (.istore_n 3, 1) := by decide +kernel
theorem dX11_laws_28 : decode cX11_laws 28 = .ok (.aload_n 0, 1) := by decide +kernel
theorem dX11_laws_29 : decode cX11_laws 29 = .ok (.getfield 19, 3) := by decide +kernel
theorem dX11_laws_32 : decode cX11_laws 32 = .ok (.iload_n 3, 1) := by decide +kernel
theorem dX11_laws_33 : decode cX11_laws 33 = .ok (.invokestatic 404, 3) := by decide +kernel
theorem dX11_laws_36 : decode cX11_laws 36 = .ok (.i2l, 1) := by decide +kernel
theorem dX11_laws_37 : decode cX11_laws 37 = .ok (.iload_n 3, 1) := by decide +kernel
theorem dX11_laws_38 : decode cX11_laws 38 = .ok (.invokestatic 407, 3) := by decide +kernel
theorem dX11_laws_41 : decode cX11_laws 41 = .ok (.i2l, 1) := by decide +kernel
theorem dX11_laws_42 : decode cX11_laws 42 = .ok (.invokevirtual 236, 3) := by decide +kernel
theorem dX11_laws_45 : decode cX11_laws 45 = .ok (.lload_n 1, 1) := by decide +kernel
theorem dX11_laws_46 : decode cX11_laws 46 = .ok (.invokestatic 410, 3) := by decide +kernel
theorem dX11_laws_49 : decode cX11_laws 49 = .ok (.ireturn, 1) := by decide +kernel
theorem dX11_looks_0 : decode cX11_looks 0 = .ok (.aload_n 0, 1) := by decide +kernel
theorem dX11_looks_1 : decode cX11_looks 1 = .ok (.getfield 76, 3) := by decide +kernel
theorem dX11_looks_4 : decode cX11_looks 4 = .ok (.invokevirtual 394, 3) := by decide +kernel
theorem dX11_looks_7 : decode cX11_looks 7 = .ok (.lstore_n 1, 1) := by decide +kernel
theorem dX11_looks_8 : decode cX11_looks 8 = .ok (.lload_n 1, 1) := by decide +kernel
theorem dX11_looks_9 : decode cX11_looks 9 = .ok (.lconst 0, 1) := by decide +kernel
theorem dX11_looks_10 : decode cX11_looks 10 = .ok (.lcmp, 1) := by decide +kernel
theorem dX11_looks_11 : decode cX11_looks 11 = .ok (.ifCond .ne 6, 3) := by decide +kernel
theorem dX11_looks_14 : decode cX11_looks 14 = .ok (.bipush (-2), 2) := by decide +kernel
theorem dX11_looks_16 : decode cX11_looks 16 = .ok (.ireturn, 1) := by decide +kernel
theorem dX11_looks_17 : decode cX11_looks 17 = .ok (.lload_n 1, 1) := by decide +kernel
theorem dX11_looks_18 : decode cX11_looks 18 = .ok (.invokestatic 410, 3) := by decide +kernel
theorem dX11_looks_21 : decode cX11_looks 21 = .ok (.istore_n 3, 1) := by decide +kernel
theorem dX11_looks_22 : decode cX11_looks 22 = .ok (.ldc_w 339, 3) := by decide +kernel
theorem dX11_looks_25 : decode cX11_looks 25 = .ok (.istore 4, 2) := by decide +kernel
theorem dX11_looks_27 : decode cX11_looks 27 = .ok (.iconst 0, 1) := by decide +kernel
theorem dX11_looks_28 : decode cX11_looks 28 = .ok (.istore 5, 2) := by decide +kernel
theorem dX11_looks_30 : decode cX11_looks 30 = .ok (.iconst 0, 1) := by decide +kernel
theorem dX11_looks_31 : decode cX11_looks 31 = .ok (.istore 6, 2) := by decide +kernel
theorem dX11_looks_33 : decode cX11_looks 33 = .ok (.iload 6, 2) := by decide +kernel
theorem dX11_looks_35 : decode cX11_looks 35 = .ok (.bipush 30, 2) := by decide +kernel
theorem dX11_looks_37 : decode cX11_looks 37 = .ok (.if_icmp .gt 47, 3) := by decide +kernel
theorem dX11_looks_40 : decode cX11_looks 40 = .ok (.lload_n 1, 1) := by decide +kernel
theorem dX11_looks_41 : decode cX11_looks 41 = .ok (.iload 6, 2) := by decide +kernel
theorem dX11_looks_43 : decode cX11_looks 43 = .ok (.invokestatic 412, 3) := by decide +kernel
theorem dX11_looks_46 : decode cX11_looks 46 = .ok (.land, 1) := by decide +kernel
theorem dX11_looks_47 : decode cX11_looks 47 = .ok (.invokestatic 410, 3) := by decide +kernel
theorem dX11_looks_50 : decode cX11_looks 50 = .ok (.istore 7, 2) := by decide +kernel
theorem dX11_looks_52 : decode cX11_looks 52 = .ok (.iload 7, 2) := by decide +kernel
theorem dX11_looks_54 : decode cX11_looks 54 = .ok (.iload_n 3, 1) := by decide +kernel
theorem dX11_looks_55 : decode cX11_looks 55 = .ok (.iload 7, 2) := by decide +kernel
theorem dX11_looks_57 : decode cX11_looks 57 = .ok (.isub, 1) := by decide +kernel
theorem dX11_looks_58 : decode cX11_looks 58 = .ok (.invokestatic 176, 3) := by decide +kernel
theorem dX11_looks_61 : decode cX11_looks 61 = .ok (.istore 8, 2) := by decide +kernel
theorem dX11_looks_63 : decode cX11_looks 63 = .ok (.iload 8, 2) := by decide +kernel
theorem dX11_looks_65 : decode cX11_looks 65 = .ok (.iload 4, 2) := by decide +kernel
theorem dX11_looks_67 : decode cX11_looks 67 = .ok (.if_icmp .ge 11, 3) := by decide +kernel
theorem dX11_looks_70 : decode cX11_looks 70 = .ok (.iload 8, 2) := by decide +kernel
theorem dX11_looks_72 : decode cX11_looks 72 = .ok (.istore 4, 2) := by decide +kernel
theorem dX11_looks_74 : decode cX11_looks 74 = .ok (.iload 6, 2) := by decide +kernel
theorem dX11_looks_76 : decode cX11_looks 76 = .ok (.istore 5, 2) := by decide +kernel
theorem dX11_looks_78 : decode cX11_looks 78 = .ok (.iinc 6 1, 3) := by decide +kernel
theorem dX11_looks_81 : decode cX11_looks 81 = .ok (.goto (-48), 3) := by decide +kernel
theorem dX11_looks_84 : decode cX11_looks 84 = .ok (.aload_n 0, 1) := by decide +kernel
theorem dX11_looks_85 : decode cX11_looks 85 = .ok (.getfield 19, 3) := by decide +kernel
theorem dX11_looks_88 : decode cX11_looks 88 = .ok (.iload 4, 2) := by decide +kernel
theorem dX11_looks_90 : decode cX11_looks 90 = .ok (.i2l, 1) := by decide +kernel
theorem dX11_looks_91 : decode cX11_looks 91 = .ok (.invokevirtual 302, 3) := by decide +kernel
theorem dX11_looks_94 : decode cX11_looks 94 = .ok (.iload 5, 2) := by decide +kernel
theorem dX11_looks_96 : decode cX11_looks 96 = .ok (.ireturn, 1) := by decide +kernel
theorem dX11_pails_0 : decode cX11_pails 0 = .ok (.iload_n 1, 1) := by decide +kernel
theorem dX11_pails_1 : decode cX11_pails 1 = .ok (.ifCond .lt 10, 3) := by decide +kernel
theorem dX11_pails_4 : decode cX11_pails 4 = .ok (.iload_n 1, 1) := by decide +kernel
theorem dX11_pails_5 : decode cX11_pails 5 = .ok (.sipush 200, 3) := by decide +kernel
theorem dX11_pails_8 : decode cX11_pails 8 = .ok (.if_icmp .le 5, 3) := by decide +kernel
theorem dX11_pails_11 : decode cX11_pails 11 = .ok (.iconst (-1), 1) := by decide +kernel
theorem dX11_pails_12 : decode cX11_pails 12 = .ok (.ireturn, 1) := by decide +kernel
theorem dX11_pails_13 : decode cX11_pails 13 = .ok (.aload_n 0, 1) := by decide +kernel
theorem dX11_pails_14 : decode cX11_pails 14 = .ok (.getfield 103, 3) := by decide +kernel
theorem dX11_pails_17 : decode cX11_pails 17 = .ok (.iconst 0, 1) := by decide +kernel
theorem dX11_pails_18 : decode cX11_pails 18 = .ok (.iconst 0, 1) := by decide +kernel
theorem dX11_pails_19 : decode cX11_pails 19 = .ok (.bastore, 1) := by decide +kernel
theorem dX11_pails_20 : decode cX11_pails 20 = .ok (.iconst 1, 1) := by decide +kernel
theorem dX11_pails_21 : decode cX11_pails 21 = .ok (.istore_n 2, 1) := by decide +kernel
theorem dX11_pails_22 : decode cX11_pails 22 = .ok (.iload_n 2, 1) := by decide +kernel
theorem dX11_pails_23 : decode cX11_pails 23 = .ok (.iload_n 1, 1) := by decide +kernel
theorem dX11_pails_24 : decode cX11_pails 24 = .ok (.if_icmp .gt 28, 3) := by decide +kernel
theorem dX11_pails_27 : decode cX11_pails 27 = .ok (.aload_n 0, 1) := by decide +kernel
theorem dX11_pails_28 : decode cX11_pails 28 = .ok (.getfield 103, 3) := by decide +kernel
theorem dX11_pails_31 : decode cX11_pails 31 = .ok (.iload_n 2, 1) := by decide +kernel
theorem dX11_pails_32 : decode cX11_pails 32 = .ok (.aload_n 0, 1) := by decide +kernel
theorem dX11_pails_33 : decode cX11_pails 33 = .ok (.iload_n 2, 1) := by decide +kernel
theorem dX11_pails_34 : decode cX11_pails 34 = .ok (.invokevirtual 416, 3) := by decide +kernel
theorem dX11_pails_37 : decode cX11_pails 37 = .ok (.ifCond .le 7, 3) := by decide +kernel
theorem dX11_pails_40 : decode cX11_pails 40 = .ok (.iconst 1, 1) := by decide +kernel
theorem dX11_pails_41 : decode cX11_pails 41 = .ok (.goto 4, 3) := by decide +kernel
theorem dX11_pails_44 : decode cX11_pails 44 = .ok (.iconst 0, 1) := by decide +kernel
theorem dX11_pails_45 : decode cX11_pails 45 = .ok (.bastore, 1) := by decide +kernel
theorem dX11_pails_46 : decode cX11_pails 46 = .ok (.iinc 2 1, 3) := by decide +kernel
theorem dX11_pails_49 : decode cX11_pails 49 = .ok (.goto (-27), 3) := by decide +kernel
theorem dX11_pails_52 : decode cX11_pails 52 = .ok (.aload_n 0, 1) := by decide +kernel
theorem dX11_pails_53 : decode cX11_pails 53 = .ok (.iload_n 1, 1) := by decide +kernel
theorem dX11_pails_54 : decode cX11_pails 54 = .ok (.invokevirtual 416, 3) := by decide +kernel
theorem dX11_pails_57 : decode cX11_pails 57 = .ok (.istore_n 2, 1) := by decide +kernel
theorem dX11_pails_58 : decode cX11_pails 58 = .ok (.iload_n 2, 1) := by decide +kernel
theorem dX11_pails_59 : decode cX11_pails 59 = .ok (.ifCond .ne 12, 3) := by decide +kernel
theorem dX11_pails_62 : decode cX11_pails 62 = .ok (.aload_n 0, 1) := by decide +kernel
theorem dX11_pails_63 : decode cX11_pails 63 = .ok (.getfield 19, 3) := by decide +kernel
theorem dX11_pails_66 : decode cX11_pails 66 = .ok (.invokevirtual 346, 3) := by decide +kernel
theorem dX11_pails_69 : decode cX11_pails 69 = .ok (.iconst 0, 1) := by decide +kernel
theorem dX11_pails_70 : decode cX11_pails 70 = .ok (.ireturn, 1) := by decide +kernel
theorem dX11_pails_71 : decode cX11_pails 71 = .ok (.aload_n 0, 1) := by decide +kernel
theorem dX11_pails_72 : decode cX11_pails 72 = .ok (.getfield 19, 3) := by decide +kernel
theorem dX11_pails_75 : decode cX11_pails 75 = .ok (.iload_n 2, 1) := by decide +kernel
theorem dX11_pails_76 : decode cX11_pails 76 = .ok (.i2l, 1) := by decide +kernel
theorem dX11_pails_77 : decode cX11_pails 77 = .ok (.invokevirtual 302, 3) := by decide +kernel
theorem dX11_pails_80 : decode cX11_pails 80 = .ok (.iconst 1, 1) := by decide +kernel
theorem dX11_pails_81 : decode cX11_pails 81 = .ok (.ireturn, 1) := by decide +kernel
theorem dX11_leastWinningTake_0 : decode cX11_leastWinningTake 0 = .ok (.iload_n 1, 1) := by decide +kernel
theorem dX11_leastWinningTake_1 : decode cX11_leastWinningTake 1 = .ok (.iconst 1, 1) := by decide +kernel
theorem dX11_leastWinningTake_2 : decode cX11_leastWinningTake 2 = .ok (.if_icmp .lt 10, 3) := by decide +kernel
theorem dX11_leastWinningTake_5 : decode cX11_leastWinningTake 5 = .ok (.iload_n 1, 1) := by decide +kernel
theorem dX11_leastWinningTake_6 : decode cX11_leastWinningTake 6 = .ok (.sipush 200, 3) := by decide +kernel
theorem dX11_leastWinningTake_9 : decode cX11_leastWinningTake 9 = .ok (.if_icmp .le 5, 3) := by decide +kernel
theorem dX11_leastWinningTake_12 : decode cX11_leastWinningTake 12 = .ok (.iconst 0, 1) := by decide +kernel
theorem dX11_leastWinningTake_13 : decode cX11_leastWinningTake 13 = .ok (.ireturn, 1) := by decide +kernel
theorem dX11_leastWinningTake_14 : decode cX11_leastWinningTake 14 = .ok (.aload_n 0, 1) := by decide +kernel
theorem dX11_leastWinningTake_15 : decode cX11_leastWinningTake 15 = .ok (.getfield 103, 3) := by decide +kernel
theorem dX11_leastWinningTake_18 : decode cX11_leastWinningTake 18 = .ok (.iload_n 1, 1) := by decide +kernel
theorem dX11_leastWinningTake_19 : decode cX11_leastWinningTake 19 = .ok (.iconst 1, 1) := by decide +kernel
theorem dX11_leastWinningTake_20 : decode cX11_leastWinningTake 20 = .ok (.isub, 1) := by decide +kernel
theorem dX11_leastWinningTake_21 : decode cX11_leastWinningTake 21 = .ok (.baload, 1) := by decide +kernel
theorem dX11_leastWinningTake_22 : decode cX11_leastWinningTake 22 = .ok (.ifCond .ne 5, 3) := by decide +kernel
theorem dX11_leastWinningTake_25 : decode cX11_leastWinningTake 25 = .ok (.iconst 1, 1) := by decide +kernel
theorem dX11_leastWinningTake_26 : decode cX11_leastWinningTake 26 = .ok (.ireturn, 1) := by decide +kernel
theorem dX11_leastWinningTake_27 : decode cX11_leastWinningTake 27 = .ok (.iload_n 1, 1) := by decide +kernel
theorem dX11_leastWinningTake_28 : decode cX11_leastWinningTake 28 = .ok (.iconst 2, 1) := by decide +kernel
theorem dX11_leastWinningTake_29 : decode cX11_leastWinningTake 29 = .ok (.irem, 1) := by decide +kernel
theorem dX11_leastWinningTake_30 : decode cX11_leastWinningTake 30 = .ok (.ifCond .ne 20, 3) := by decide +kernel
theorem dX11_leastWinningTake_33 : decode cX11_leastWinningTake 33 = .ok (.aload_n 0, 1) := by decide +kernel
theorem dX11_leastWinningTake_34 : decode cX11_leastWinningTake 34 = .ok (.getfield 103, 3) := by decide +kernel
theorem dX11_leastWinningTake_37 : decode cX11_leastWinningTake 37 = .ok (.iload_n 1, 1) := by decide +kernel
theorem dX11_leastWinningTake_38 : decode cX11_leastWinningTake 38 = .ok (.iconst 2, 1) := by decide +kernel
theorem dX11_leastWinningTake_39 : decode cX11_leastWinningTake 39 = .ok (.idiv, 1) := by decide +kernel
theorem dX11_leastWinningTake_40 : decode cX11_leastWinningTake 40 = .ok (.baload, 1) := by decide +kernel
theorem dX11_leastWinningTake_41 : decode cX11_leastWinningTake 41 = .ok (.ifCond .ne 9, 3) := by decide +kernel
theorem dX11_leastWinningTake_44 : decode cX11_leastWinningTake 44 = .ok (.iload_n 1, 1) := by decide +kernel
theorem dX11_leastWinningTake_45 : decode cX11_leastWinningTake 45 = .ok (.iconst 2, 1) := by decide +kernel
theorem dX11_leastWinningTake_46 : decode cX11_leastWinningTake 46 = .ok (.idiv, 1) := by decide +kernel
theorem dX11_leastWinningTake_47 : decode cX11_leastWinningTake 47 = .ok (.goto 4, 3) := by decide +kernel
theorem dX11_leastWinningTake_50 : decode cX11_leastWinningTake 50 = .ok (.iconst 0, 1) := by decide +kernel
theorem dX11_leastWinningTake_51 : decode cX11_leastWinningTake 51 = .ok (.ireturn, 1) := by decide +kernel
theorem dX11_rests_0 : decode cX11_rests 0 = .ok (.iload_n 1, 1) := by decide +kernel
theorem dX11_rests_1 : decode cX11_rests 1 = .ok (.ifCond .lt 9, 3) := by decide +kernel
theorem dX11_rests_4 : decode cX11_rests 4 = .ok (.iload_n 1, 1) := by decide +kernel
theorem dX11_rests_5 : decode cX11_rests 5 = .ok (.bipush 20, 2) := by decide +kernel
theorem dX11_rests_7 : decode cX11_rests 7 = .ok (.if_icmp .le 5, 3) := by decide +kernel
theorem dX11_rests_10 : decode cX11_rests 10 = .ok (.iconst (-1), 1) := by decide +kernel
theorem dX11_rests_11 : decode cX11_rests 11 = .ok (.ireturn, 1) := by decide +kernel
theorem dX11_rests_12 : decode cX11_rests 12 = .ok (.iconst 0, 1) := by decide +kernel
theorem dX11_rests_13 : decode cX11_rests 13 = .ok (.istore_n 2, 1) := by decide +kernel
theorem dX11_rests_14 : decode cX11_rests 14 = .ok (.iconst 0, 1) := by decide +kernel
theorem dX11_rests_15 : decode cX11_rests 15 = .ok (.istore_n 3, 1) := by decide +kernel
theorem dX11_rests_16 : decode cX11_rests 16 = .ok (.bipush 99, 2) := by decide +kernel
theorem dX11_rests_18 : decode cX11_rests 18 = .ok (.istore 4, 2) := by decide +kernel
theorem dX11_rests_20 : decode cX11_rests 20 = .ok (.iload 4, 2) := by decide +kernel
theorem dX11_rests_22 : decode cX11_rests 22 = .ok (.ifCond .lt 51, 3) := by decide +kernel
theorem dX11_rests_25 : decode cX11_rests 25 = .ok (.iload 4, 2) := by decide +kernel
theorem dX11_rests_27 : decode cX11_rests 27 = .ok (.bipush 10, 2) := by decide +kernel
theorem dX11_rests_29 : decode cX11_rests 29 = .ok (.idiv, 1) := by decide +kernel
theorem dX11_rests_30 : decode cX11_rests 30 = .ok (.istore 5, 2) := by decide +kernel
theorem dX11_rests_32 : decode cX11_rests 32 = .ok (.iload 4, 2) := by decide +kernel
theorem dX11_rests_34 : decode cX11_rests 34 = .ok (.bipush 10, 2) := by decide +kernel
theorem dX11_rests_36 : decode cX11_rests 36 = .ok (.irem, 1) := by decide +kernel
theorem dX11_rests_37 : decode cX11_rests 37 = .ok (.istore 6, 2) := by decide +kernel
theorem dX11_rests_39 : decode cX11_rests 39 = .ok (.iload 5, 2) := by decide +kernel
theorem dX11_rests_41 : decode cX11_rests 41 = .ok (.iload 6, 2) := by decide +kernel
theorem dX11_rests_43 : decode cX11_rests 43 = .ok (.iload_n 1, 1) := by decide +kernel
theorem dX11_rests_44 : decode cX11_rests 44 = .ok (.invokestatic 419, 3) := by decide +kernel
theorem dX11_rests_47 : decode cX11_rests 47 = .ok (.ifCond .eq 20, 3) := by decide +kernel
theorem dX11_rests_50 : decode cX11_rests 50 = .ok (.iload 6, 2) := by decide +kernel
theorem dX11_rests_52 : decode cX11_rests 52 = .ok (.iload 5, 2) := by decide +kernel
theorem dX11_rests_54 : decode cX11_rests 54 = .ok (.iload_n 1, 1) := by decide +kernel
theorem dX11_rests_55 : decode cX11_rests 55 = .ok (.invokestatic 419, 3) := by decide +kernel
theorem dX11_rests_58 : decode cX11_rests 58 = .ok (.ifCond .eq 9, 3) := by decide +kernel
theorem dX11_rests_61 : decode cX11_rests 61 = .ok (.iinc 2 1, 3) := by decide +kernel
theorem dX11_rests_64 : decode cX11_rests 64 = .ok (.iload 4, 2) := by decide +kernel
theorem dX11_rests_66 : decode cX11_rests 66 = .ok (.istore_n 3, 1) := by decide +kernel
theorem dX11_rests_67 : decode cX11_rests 67 = .ok (.iinc 4 (-1), 3) := by decide +kernel
theorem dX11_rests_70 : decode cX11_rests 70 = .ok (.goto (-50), 3) := by decide +kernel
theorem dX11_rests_73 : decode cX11_rests 73 = .ok (.iload_n 2, 1) := by decide +kernel
theorem dX11_rests_74 : decode cX11_rests 74 = .ok (.ifCond .ne 13, 3) := by decide +kernel
theorem dX11_rests_77 : decode cX11_rests 77 = .ok (.aload_n 0, 1) := by decide +kernel
theorem dX11_rests_78 : decode cX11_rests 78 = .ok (.getfield 19, 3) := by decide +kernel
theorem dX11_rests_81 : decode cX11_rests 81 = .ok (.invokevirtual 346, 3) := by decide +kernel
theorem dX11_rests_84 : decode cX11_rests 84 = .ok (.goto 20, 3) := by decide +kernel
theorem dX11_rests_87 : decode cX11_rests 87 = .ok (.aload_n 0, 1) := by decide +kernel
theorem dX11_rests_88 : decode cX11_rests 88 = .ok (.getfield 19, 3) := by decide +kernel
theorem dX11_rests_91 : decode cX11_rests 91 = .ok (.iload_n 3, 1) := by decide +kernel
theorem dX11_rests_92 : decode cX11_rests 92 = .ok (.bipush 10, 2) := by decide +kernel
theorem dX11_rests_94 : decode cX11_rests 94 = .ok (.idiv, 1) := by decide +kernel
theorem dX11_rests_95 : decode cX11_rests 95 = .ok (.i2l, 1) := by decide +kernel
theorem dX11_rests_96 : decode cX11_rests 96 = .ok (.iload_n 3, 1) := by decide +kernel
theorem dX11_rests_97 : decode cX11_rests 97 = .ok (.bipush 10, 2) := by decide +kernel
theorem dX11_rests_99 : decode cX11_rests 99 = .ok (.irem, 1) := by decide +kernel
theorem dX11_rests_100 : decode cX11_rests 100 = .ok (.i2l, 1) := by decide +kernel
theorem dX11_rests_101 : decode cX11_rests 101 = .ok (.invokevirtual 236, 3) := by decide +kernel
theorem dX11_rests_104 : decode cX11_rests 104 = .ok (.iload_n 2, 1) := by decide +kernel
theorem dX11_rests_105 : decode cX11_rests 105 = .ok (.ireturn, 1) := by decide +kernel
theorem dX11_isBestAgainst_0 : decode cX11_isBestAgainst 0 = .ok (.iload_n 0, 1) := by decide +kernel
theorem dX11_isBestAgainst_1 : decode cX11_isBestAgainst 1 = .ok (.iload_n 1, 1) := by decide +kernel
theorem dX11_isBestAgainst_2 : decode cX11_isBestAgainst 2 = .ok (.iload_n 2, 1) := by decide +kernel
theorem dX11_isBestAgainst_3 : decode cX11_isBestAgainst 3 = .ok (.invokestatic 423, 3) := by decide +kernel
theorem dX11_isBestAgainst_6 : decode cX11_isBestAgainst 6 = .ok (.istore_n 3, 1) := by decide +kernel
theorem dX11_isBestAgainst_7 : decode cX11_isBestAgainst 7 = .ok (.iconst 0, 1) := by decide +kernel
theorem dX11_isBestAgainst_8 : decode cX11_isBestAgainst 8 = .ok (.istore 4, 2) := by decide +kernel
theorem dX11_isBestAgainst_10 : decode cX11_isBestAgainst 10 = .ok (.iload 4, 2) := by decide +kernel
theorem dX11_isBestAgainst_12 : decode cX11_isBestAgainst 12 = .ok (.bipush 9, 2) := by decide +kernel
theorem dX11_isBestAgainst_14 : decode cX11_isBestAgainst 14 = .ok (.if_icmp .gt 22, 3) := by decide +kernel
theorem dX11_isBestAgainst_17 : decode cX11_isBestAgainst 17 = .ok (.iload 4, 2) := by decide +kernel
theorem dX11_isBestAgainst_19 : decode cX11_isBestAgainst 19 = .ok (.iload_n 1, 1) := by decide +kernel
theorem dX11_isBestAgainst_20 : decode cX11_isBestAgainst 20 = .ok (.iload_n 2, 1) := by decide +kernel
theorem dX11_isBestAgainst_21 : decode cX11_isBestAgainst 21 = .ok (.invokestatic 423, 3) := by decide +kernel
theorem dX11_isBestAgainst_24 : decode cX11_isBestAgainst 24 = .ok (.iload_n 3, 1) := by decide +kernel
theorem dX11_isBestAgainst_25 : decode cX11_isBestAgainst 25 = .ok (.if_icmp .le 5, 3) := by decide +kernel
theorem dX11_isBestAgainst_28 : decode cX11_isBestAgainst 28 = .ok (.iconst 0, 1) := by decide +kernel
theorem dX11_isBestAgainst_29 : decode cX11_isBestAgainst 29 = .ok (.ireturn, 1) := by decide +kernel
theorem dX11_isBestAgainst_30 : decode cX11_isBestAgainst 30 = .ok (.iinc 4 1, 3) := by decide +kernel
theorem dX11_isBestAgainst_33 : decode cX11_isBestAgainst 33 = .ok (.goto (-23), 3) := by decide +kernel
theorem dX11_isBestAgainst_36 : decode cX11_isBestAgainst 36 = .ok (.iconst 1, 1) := by decide +kernel
theorem dX11_isBestAgainst_37 : decode cX11_isBestAgainst 37 = .ok (.ireturn, 1) := by decide +kernel
theorem dX11_soaked_0 : decode cX11_soaked 0 = .ok (.iload_n 2, 1) := by decide +kernel
theorem dX11_soaked_1 : decode cX11_soaked 1 = .ok (.iload_n 0, 1) := by decide +kernel
theorem dX11_soaked_2 : decode cX11_soaked 2 = .ok (.isub, 1) := by decide +kernel
theorem dX11_soaked_3 : decode cX11_soaked 3 = .ok (.iload_n 1, 1) := by decide +kernel
theorem dX11_soaked_4 : decode cX11_soaked 4 = .ok (.isub, 1) := by decide +kernel
theorem dX11_soaked_5 : decode cX11_soaked 5 = .ok (.istore_n 3, 1) := by decide +kernel
theorem dX11_soaked_6 : decode cX11_soaked 6 = .ok (.iload_n 3, 1) := by decide +kernel
theorem dX11_soaked_7 : decode cX11_soaked 7 = .ok (.ifCond .lt 11, 3) := by decide +kernel
theorem dX11_soaked_10 : decode cX11_soaked 10 = .ok (.iload_n 0, 1) := by decide +kernel
theorem dX11_soaked_11 : decode cX11_soaked 11 = .ok (.iload_n 3, 1) := by decide +kernel
theorem dX11_soaked_12 : decode cX11_soaked 12 = .ok (.iconst 4, 1) := by decide +kernel
theorem dX11_soaked_13 : decode cX11_soaked 13 = .ok (.idiv, 1) := by decide +kernel
theorem dX11_soaked_14 : decode cX11_soaked 14 = .ok (.iadd, 1) := by decide +kernel
theorem dX11_soaked_15 : decode cX11_soaked 15 = .ok (.goto 8, 3) := by decide +kernel
theorem dX11_soaked_18 : decode cX11_soaked 18 = .ok (.iload_n 0, 1) := by decide +kernel
theorem dX11_soaked_19 : decode cX11_soaked 19 = .ok (.iconst 2, 1) := by decide +kernel
theorem dX11_soaked_20 : decode cX11_soaked 20 = .ok (.idiv, 1) := by decide +kernel
theorem dX11_soaked_21 : decode cX11_soaked 21 = .ok (.iconst 1, 1) := by decide +kernel
theorem dX11_soaked_22 : decode cX11_soaked 22 = .ok (.isub, 1) := by decide +kernel
theorem dX11_soaked_23 : decode cX11_soaked 23 = .ok (.ireturn, 1) := by decide +kernel
theorem dX11_law_0 : decode cX11_law 0 = .ok (.aload_n 0, 1) := by decide +kernel
theorem dX11_law_1 : decode cX11_law 1 = .ok (.getfield 62, 3) := by decide +kernel
theorem dX11_law_4 : decode cX11_law 4 = .ok (.invokevirtual 141, 3) := by decide +kernel
theorem dX11_law_7 : decode cX11_law 7 = .ok (.istore_n 1, 1) := by decide +kernel
theorem dX11_law_8 : decode cX11_law 8 = .ok (.aload_n 0, 1) := by decide +kernel
theorem dX11_law_9 : decode cX11_law 9 = .ok (.getfield 12, 3) := by decide +kernel
theorem dX11_law_12 : decode cX11_law 12 = .ok (.invokevirtual 128, 3) := by decide +kernel
theorem dX11_law_15 : decode cX11_law 15 = .ok (.iload_n 1, 1) := by decide +kernel
theorem dX11_law_16 : decode cX11_law 16 = .ok (.iconst (-1), 1) := by decide +kernel
theorem dX11_law_17 : decode cX11_law 17 = .ok (.if_icmp .eq 9, 3) := by decide +kernel
theorem dX11_law_20 : decode cX11_law 20 = .ok (.sipush (-10000), 3) := by decide +kernel
theorem dX11_law_23 : decode cX11_law 23 = .ok (.iload_n 1, 1) := by decide +kernel
theorem dX11_law_24 : decode cX11_law 24 = .ok (.isub, 1) := by decide +kernel
theorem dX11_law_25 : decode cX11_law 25 = .ok (.ireturn, 1) := by decide +kernel
theorem dX11_law_26 : decode cX11_law 26 = .ok (.aload_n 0, 1) := by decide +kernel
theorem dX11_law_27 : decode cX11_law 27 = .ok (.aload_n 0, 1) := by decide +kernel
theorem dX11_law_28 : decode cX11_law 28 = .ok (.getfield 54, 3) := by decide +kernel
theorem dX11_law_31 : decode cX11_law 31 = .ok (.invokevirtual 427, 3) := by decide +kernel
theorem dX11_law_34 : decode cX11_law 34 = .ok (.istore_n 2, 1) := by decide +kernel
theorem dX11_law_35 : decode cX11_law 35 = .ok (.aload_n 0, 1) := by decide +kernel
theorem dX11_law_36 : decode cX11_law 36 = .ok (.getfield 33, 3) := by decide +kernel
theorem dX11_law_39 : decode cX11_law 39 = .ok (.getfield 221, 3) := by decide +kernel
theorem dX11_law_42 : decode cX11_law 42 = .ok (.istore_n 3, 1) := by decide +kernel
theorem dX11_law_43 : decode cX11_law 43 = .ok (.aload_n 0, 1) := by decide +kernel
theorem dX11_law_44 : decode cX11_law 44 = .ok (.aload_n 0, 1) := by decide +kernel
theorem dX11_law_45 : decode cX11_law 45 = .ok (.getfield 50, 3) := by decide +kernel
theorem dX11_law_48 : decode cX11_law 48 = .ok (.invokevirtual 427, 3) := by decide +kernel
theorem dX11_law_51 : decode cX11_law 51 = .ok (.istore 4, 2) := by decide +kernel
theorem dX11_law_53 : decode cX11_law 53 = .ok (.aload_n 0, 1) := by decide +kernel
theorem dX11_law_54 : decode cX11_law 54 = .ok (.getfield 19, 3) := by decide +kernel
theorem dX11_law_57 : decode cX11_law 57 = .ok (.iload_n 3, 1) := by decide +kernel
theorem dX11_law_58 : decode cX11_law 58 = .ok (.i2l, 1) := by decide +kernel
theorem dX11_law_59 : decode cX11_law 59 = .ok (.aload_n 0, 1) := by decide +kernel
theorem dX11_law_60 : decode cX11_law 60 = .ok (.getfield 33, 3) := by decide +kernel
theorem dX11_law_63 : decode cX11_law 63 = .ok (.getfield 221, 3) := by decide +kernel
theorem dX11_law_66 : decode cX11_law 66 = .ok (.i2l, 1) := by decide +kernel
theorem dX11_law_67 : decode cX11_law 67 = .ok (.iload_n 2, 1) := by decide +kernel
theorem dX11_law_68 : decode cX11_law 68 = .ok (.i2l, 1) := by decide +kernel
theorem dX11_law_69 : decode cX11_law 69 = .ok (.iload 4, 2) := by decide +kernel
theorem dX11_law_71 : decode cX11_law 71 = .ok (.i2l, 1) := by decide +kernel
theorem dX11_law_72 : decode cX11_law 72 = .ok (.invokevirtual 293, 3) := by decide +kernel
theorem dX11_law_75 : decode cX11_law 75 = .ok (.iload_n 3, 1) := by decide +kernel
theorem dX11_law_76 : decode cX11_law 76 = .ok (.aload_n 0, 1) := by decide +kernel
theorem dX11_law_77 : decode cX11_law 77 = .ok (.getfield 33, 3) := by decide +kernel
theorem dX11_law_80 : decode cX11_law 80 = .ok (.getfield 221, 3) := by decide +kernel
theorem dX11_law_83 : decode cX11_law 83 = .ok (.isub, 1) := by decide +kernel
theorem dX11_law_84 : decode cX11_law 84 = .ok (.ireturn, 1) := by decide +kernel
theorem dX11_runTwentyBy_0 : decode cX11_runTwentyBy 0 = .ok (.aload_n 0, 1) := by decide +kernel
theorem dX11_runTwentyBy_1 : decode cX11_runTwentyBy 1 = .ok (.getfield 33, 3) := by decide +kernel
theorem dX11_runTwentyBy_4 : decode cX11_runTwentyBy 4 = .ok (.aload_n 0, 1) := by decide +kernel
theorem dX11_runTwentyBy_5 : decode cX11_runTwentyBy 5 = .ok (.getfield 26, 3) := by decide +kernel
theorem dX11_runTwentyBy_8 : decode cX11_runTwentyBy 8 = .ok (.invokevirtual 179, 3) := by decide +kernel
theorem dX11_runTwentyBy_11 : decode cX11_runTwentyBy 11 = .ok (.iconst 0, 1) := by decide +kernel
theorem dX11_runTwentyBy_12 : decode cX11_runTwentyBy 12 = .ok (.istore_n 2, 1) := by decide +kernel
theorem dX11_runTwentyBy_13 : decode cX11_runTwentyBy 13 = .ok (.iload_n 2, 1) := by decide +kernel
theorem dX11_runTwentyBy_14 : decode cX11_runTwentyBy 14 = .ok (.bipush 20, 2) := by decide +kernel
theorem dX11_runTwentyBy_16 : decode cX11_runTwentyBy 16 = .ok (.if_icmp .ge 18, 3) := by decide +kernel
theorem dX11_runTwentyBy_19 : decode cX11_runTwentyBy 19 = .ok (.aload_n 0, 1) := by decide +kernel
theorem dX11_runTwentyBy_20 : decode cX11_runTwentyBy 20 = .ok (.getfield 33, 3) := by decide +kernel
theorem dX11_runTwentyBy_23 : decode cX11_runTwentyBy 23 = .ok (.aload_n 1, 1) := by decide +kernel
theorem dX11_runTwentyBy_24 : decode cX11_runTwentyBy 24 = .ok (.invokevirtual 249, 3) := by decide +kernel
theorem dX11_runTwentyBy_27 : decode cX11_runTwentyBy 27 = .ok (.pop, 1) := by decide +kernel
theorem dX11_runTwentyBy_28 : decode cX11_runTwentyBy 28 = .ok (.iinc 2 1, 3) := by decide +kernel
theorem dX11_runTwentyBy_31 : decode cX11_runTwentyBy 31 = .ok (.goto (-18), 3) := by decide +kernel
theorem dX11_runTwentyBy_34 : decode cX11_runTwentyBy 34 = .ok (.aload_n 0, 1) := by decide +kernel
theorem dX11_runTwentyBy_35 : decode cX11_runTwentyBy 35 = .ok (.getfield 33, 3) := by decide +kernel
theorem dX11_runTwentyBy_38 : decode cX11_runTwentyBy 38 = .ok (.getfield 299, 3) := by decide +kernel
theorem dX11_runTwentyBy_41 : decode cX11_runTwentyBy 41 = .ok (.aload_n 0, 1) := by decide +kernel
theorem dX11_runTwentyBy_42 : decode cX11_runTwentyBy 42 = .ok (.getfield 26, 3) := by decide +kernel
theorem dX11_runTwentyBy_45 : decode cX11_runTwentyBy 45 = .ok (.getfield 299, 3) := by decide +kernel
theorem dX11_runTwentyBy_48 : decode cX11_runTwentyBy 48 = .ok (.isub, 1) := by decide +kernel
theorem dX11_runTwentyBy_49 : decode cX11_runTwentyBy 49 = .ok (.ireturn, 1) := by decide +kernel
theorem dX11_years_0 : decode cX11_years 0 = .ok (.iload_n 2, 1) := by decide +kernel
theorem dX11_years_1 : decode cX11_years 1 = .ok (.iconst 1, 1) := by decide +kernel
theorem dX11_years_2 : decode cX11_years 2 = .ok (.if_icmp .lt 9, 3) := by decide +kernel
theorem dX11_years_5 : decode cX11_years 5 = .ok (.iload_n 2, 1) := by decide +kernel
theorem dX11_years_6 : decode cX11_years 6 = .ok (.bipush 60, 2) := by decide +kernel
theorem dX11_years_8 : decode cX11_years 8 = .ok (.if_icmp .le 5, 3) := by decide +kernel
theorem dX11_years_11 : decode cX11_years 11 = .ok (.iconst (-1), 1) := by decide +kernel
theorem dX11_years_12 : decode cX11_years 12 = .ok (.ireturn, 1) := by decide +kernel
theorem dX11_years_13 : decode cX11_years 13 = .ok (.aload_n 0, 1) := by decide +kernel
theorem dX11_years_14 : decode cX11_years 14 = .ok (.getfield 33, 3) := by decide +kernel
theorem dX11_years_17 : decode cX11_years 17 = .ok (.aload_n 0, 1) := by decide +kernel
theorem dX11_years_18 : decode cX11_years 18 = .ok (.getfield 26, 3) := by decide +kernel
theorem dX11_years_21 : decode cX11_years 21 = .ok (.invokevirtual 179, 3) := by decide +kernel
theorem dX11_years_24 : decode cX11_years 24 = .ok (.aload_n 0, 1) := by decide +kernel
theorem dX11_years_25 : decode cX11_years 25 = .ok (.getfield 99, 3) := by decide +kernel
theorem dX11_years_28 : decode cX11_years 28 = .ok (.iload_n 1, 1) := by decide +kernel
theorem dX11_years_29 : decode cX11_years 29 = .ok (.invokevirtual 431, 3) := by decide +kernel
theorem dX11_years_32 : decode cX11_years 32 = .ok (.iconst 0, 1) := by decide +kernel
theorem dX11_years_33 : decode cX11_years 33 = .ok (.istore_n 3, 1) := by decide +kernel
theorem dX11_years_34 : decode cX11_years 34 = .ok (.iload_n 3, 1) := by decide +kernel
theorem dX11_years_35 : decode cX11_years 35 = .ok (.iload_n 2, 1) := by decide +kernel
theorem dX11_years_36 : decode cX11_years 36 = .ok (.if_icmp .ge 94, 3) := by decide +kernel
theorem dX11_years_39 : decode cX11_years 39 = .ok (.aload_n 0, 1) := by decide +kernel
theorem dX11_years_40 : decode cX11_years 40 = .ok (.getfield 99, 3) := by decide +kernel
theorem dX11_years_43 : decode cX11_years 43 = .ok (.iconst 4, 1) := by decide +kernel
theorem dX11_years_44 : decode cX11_years 44 = .ok (.invokevirtual 434, 3) := by decide +kernel
theorem dX11_years_47 : decode cX11_years 47 = .ok (.istore 4, 2) := by decide +kernel
theorem dX11_years_49 : decode cX11_years 49 = .ok (.iload 4, 2) := by decide +kernel
theorem dX11_years_51 : decode cX11_years 51 = .ok (.ifCond .ne 18, 3) := by decide +kernel
theorem dX11_years_54 : decode cX11_years 54 = .ok (.aload_n 0, 1) := by decide +kernel
theorem dX11_years_55 : decode cX11_years 55 = .ok (.getfield 33, 3) := by decide +kernel
theorem dX11_years_58 : decode cX11_years 58 = .ok (.aload_n 0, 1) := by decide +kernel
theorem dX11_years_59 : decode cX11_years 59 = .ok (.getfield 50, 3) := by decide +kernel
theorem dX11_years_62 : decode cX11_years 62 = .ok (.invokevirtual 249, 3) := by decide +kernel
theorem dX11_years_65 : decode cX11_years 65 = .ok (.pop, 1) := by decide +kernel
theorem dX11_years_66 : decode cX11_years 66 = .ok (.goto 58, 3) := by decide +kernel
theorem dX11_years_69 : decode cX11_years 69 = .ok (.iload 4, 2) := by decide +kernel
theorem dX11_years_71 : decode cX11_years 71 = .ok (.iconst 3, 1) := by decide +kernel
theorem dX11_years_72 : decode cX11_years 72 = .ok (.if_icmp .ne 22, 3) := by decide +kernel
theorem dX11_years_75 : decode cX11_years 75 = .ok (.aload_n 0, 1) := by decide +kernel
theorem dX11_years_76 : decode cX11_years 76 = .ok (.getfield 33, 3) := by decide +kernel
theorem dX11_years_79 : decode cX11_years 79 = .ok (.aload_n 0, 1) := by decide +kernel
theorem dX11_years_80 : decode cX11_years 80 = .ok (.getfield 99, 3) := by decide +kernel
theorem dX11_years_83 : decode cX11_years 83 = .ok (.bipush 10, 2) := by decide +kernel
theorem dX11_years_85 : decode cX11_years 85 = .ok (.invokevirtual 434, 3) := by decide +kernel
theorem dX11_years_88 : decode cX11_years 88 = .ok (.putfield 253, 3) := by decide +kernel
theorem dX11_years_91 : decode cX11_years 91 = .ok (.goto 33, 3) := by decide +kernel
theorem dX11_years_94 : decode cX11_years 94 = .ok (.aload_n 0, 1) := by decide +kernel
theorem dX11_years_95 : decode cX11_years 95 = .ok (.getfield 33, 3) := by decide +kernel
theorem dX11_years_98 : decode cX11_years 98 = .ok (.iload 4, 2) := by decide +kernel
theorem dX11_years_100 : decode cX11_years 100 = .ok (.iconst 1, 1) := by decide +kernel
theorem dX11_years_101 : decode cX11_years 101 = .ok (.if_icmp .ne 7, 3) := by decide +kernel
theorem dX11_years_104 : decode cX11_years 104 = .ok (.iconst 0, 1) := by decide +kernel
theorem dX11_years_105 : decode cX11_years 105 = .ok (.goto 4, 3) := by decide +kernel
theorem dX11_years_108 : decode cX11_years 108 = .ok (.iconst 1, 1) := by decide +kernel
theorem dX11_years_109 : decode cX11_years 109 = .ok (.aload_n 0, 1) := by decide +kernel
theorem dX11_years_110 : decode cX11_years 110 = .ok (.getfield 99, 3) := by decide +kernel
theorem dX11_years_113 : decode cX11_years 113 = .ok (.bipush 9, 2) := by decide +kernel
theorem dX11_years_115 : decode cX11_years 115 = .ok (.invokevirtual 434, 3) := by decide +kernel
theorem dX11_years_118 : decode cX11_years 118 = .ok (.iconst 1, 1) := by decide +kernel
theorem dX11_years_119 : decode cX11_years 119 = .ok (.iadd, 1) := by decide +kernel
theorem dX11_years_120 : decode cX11_years 120 = .ok (.invokevirtual 138, 3) := by decide +kernel
theorem dX11_years_123 : decode cX11_years 123 = .ok (.pop, 1) := by decide +kernel
theorem dX11_years_124 : decode cX11_years 124 = .ok (.iinc 3 1, 3) := by decide +kernel
theorem dX11_years_127 : decode cX11_years 127 = .ok (.goto (-93), 3) := by decide +kernel
theorem dX11_years_130 : decode cX11_years 130 = .ok (.aload_n 0, 1) := by decide +kernel
theorem dX11_years_131 : decode cX11_years 131 = .ok (.getfield 19, 3) := by decide +kernel
theorem dX11_years_134 : decode cX11_years 134 = .ok (.aload_n 0, 1) := by decide +kernel
theorem dX11_years_135 : decode cX11_years 135 = .ok (.getfield 33, 3) := by decide +kernel
theorem dX11_years_138 : decode cX11_years 138 = .ok (.getfield 287, 3) := by decide +kernel
theorem dX11_years_141 : decode cX11_years 141 = .ok (.aload_n 0, 1) := by decide +kernel
theorem dX11_years_142 : decode cX11_years 142 = .ok (.getfield 33, 3) := by decide +kernel
theorem dX11_years_145 : decode cX11_years 145 = .ok (.getfield 290, 3) := by decide +kernel
theorem dX11_years_148 : decode cX11_years 148 = .ok (.iadd, 1) := by decide +kernel
theorem dX11_years_149 : decode cX11_years 149 = .ok (.i2l, 1) := by decide +kernel
theorem dX11_years_150 : decode cX11_years 150 = .ok (.aload_n 0, 1) := by decide +kernel
theorem dX11_years_151 : decode cX11_years 151 = .ok (.getfield 33, 3) := by decide +kernel
theorem dX11_years_154 : decode cX11_years 154 = .ok (.getfield 221, 3) := by decide +kernel
theorem dX11_years_157 : decode cX11_years 157 = .ok (.i2l, 1) := by decide +kernel
theorem dX11_years_158 : decode cX11_years 158 = .ok (.invokevirtual 236, 3) := by decide +kernel
theorem dX11_years_161 : decode cX11_years 161 = .ok (.aload_n 0, 1) := by decide +kernel
theorem dX11_years_162 : decode cX11_years 162 = .ok (.getfield 33, 3) := by decide +kernel
theorem dX11_years_165 : decode cX11_years 165 = .ok (.invokevirtual 308, 3) := by decide +kernel
theorem dX11_years_168 : decode cX11_years 168 = .ok (.ireturn, 1) := by decide +kernel
theorem dX11_keep_0 : decode cX11_keep 0 = .ok (.iload_n 1, 1) := by decide +kernel
theorem dX11_keep_1 : decode cX11_keep 1 = .ok (.ifCond .lt 12, 3) := by decide +kernel
theorem dX11_keep_4 : decode cX11_keep 4 = .ok (.iload_n 1, 1) := by decide +kernel
theorem dX11_keep_5 : decode cX11_keep 5 = .ok (.aload_n 0, 1) := by decide +kernel
theorem dX11_keep_6 : decode cX11_keep 6 = .ok (.getfield 43, 3) := by decide +kernel
theorem dX11_keep_9 : decode cX11_keep 9 = .ok (.arraylength, 1) := by decide +kernel
theorem dX11_keep_10 : decode cX11_keep 10 = .ok (.if_icmp .lt 5, 3) := by decide +kernel
theorem dX11_keep_13 : decode cX11_keep 13 = .ok (.iconst 0, 1) := by decide +kernel
theorem dX11_keep_14 : decode cX11_keep 14 = .ok (.ireturn, 1) := by decide +kernel
theorem dX11_keep_15 : decode cX11_keep 15 = .ok (.aload_n 0, 1) := by decide +kernel
theorem dX11_keep_16 : decode cX11_keep 16 = .ok (.getfield 43, 3) := by decide +kernel
theorem dX11_keep_19 : decode cX11_keep 19 = .ok (.iload_n 1, 1) := by decide +kernel
theorem dX11_keep_20 : decode cX11_keep 20 = .ok (.aaload, 1) := by decide +kernel
theorem dX11_keep_21 : decode cX11_keep 21 = .ok (.ifnonnull 13, 3) := by decide +kernel
theorem dX11_keep_24 : decode cX11_keep 24 = .ok (.new 23, 3) := by decide +kernel
theorem dX11_keep_27 : decode cX11_keep 27 = .ok (.dup, 1) := by decide +kernel
theorem dX11_keep_28 : decode cX11_keep 28 = .ok (.invokespecial 25, 3) := by decide +kernel
theorem dX11_keep_31 : decode cX11_keep 31 = .ok (.goto 9, 3) := by decide +kernel
theorem dX11_keep_34 : decode cX11_keep 34 = .ok (.aload_n 0, 1) := by decide +kernel
theorem dX11_keep_35 : decode cX11_keep 35 = .ok (.getfield 43, 3) := by decide +kernel
theorem dX11_keep_38 : decode cX11_keep 38 = .ok (.iload_n 1, 1) := by decide +kernel
theorem dX11_keep_39 : decode cX11_keep 39 = .ok (.aaload, 1) := by decide +kernel
theorem dX11_keep_40 : decode cX11_keep 40 = .ok (.astore_n 2, 1) := by decide +kernel
theorem dX11_keep_41 : decode cX11_keep 41 = .ok (.aload_n 2, 1) := by decide +kernel
theorem dX11_keep_42 : decode cX11_keep 42 = .ok (.aload_n 0, 1) := by decide +kernel
theorem dX11_keep_43 : decode cX11_keep 43 = .ok (.getfield 26, 3) := by decide +kernel
theorem dX11_keep_46 : decode cX11_keep 46 = .ok (.invokevirtual 179, 3) := by decide +kernel
theorem dX11_keep_49 : decode cX11_keep 49 = .ok (.aload_n 0, 1) := by decide +kernel
theorem dX11_keep_50 : decode cX11_keep 50 = .ok (.getfield 43, 3) := by decide +kernel
theorem dX11_keep_53 : decode cX11_keep 53 = .ok (.iload_n 1, 1) := by decide +kernel
theorem dX11_keep_54 : decode cX11_keep 54 = .ok (.aload_n 2, 1) := by decide +kernel
theorem dX11_keep_55 : decode cX11_keep 55 = .ok (.aastore, 1) := by decide +kernel
theorem dX11_keep_56 : decode cX11_keep 56 = .ok (.iconst 1, 1) := by decide +kernel
theorem dX11_keep_57 : decode cX11_keep 57 = .ok (.ireturn, 1) := by decide +kernel
theorem dX11_again_0 : decode cX11_again 0 = .ok (.iload_n 1, 1) := by decide +kernel
theorem dX11_again_1 : decode cX11_again 1 = .ok (.ifCond .lt 21, 3) := by decide +kernel
theorem dX11_again_4 : decode cX11_again 4 = .ok (.iload_n 1, 1) := by decide +kernel
theorem dX11_again_5 : decode cX11_again 5 = .ok (.aload_n 0, 1) := by decide +kernel
theorem dX11_again_6 : decode cX11_again 6 = .ok (.getfield 43, 3) := by decide +kernel
theorem dX11_again_9 : decode cX11_again 9 = .ok (.arraylength, 1) := by decide +kernel
theorem dX11_again_10 : decode cX11_again 10 = .ok (.if_icmp .ge 12, 3) := by decide +kernel
theorem dX11_again_13 : decode cX11_again 13 = .ok (.aload_n 0, 1) := by decide +kernel
theorem dX11_again_14 : decode cX11_again 14 = .ok (.getfield 43, 3) := by decide +kernel
theorem dX11_again_17 : decode cX11_again 17 = .ok (.iload_n 1, 1) := by decide +kernel
theorem dX11_again_18 : decode cX11_again 18 = .ok (.aaload, 1) := by decide +kernel
theorem dX11_again_19 : decode cX11_again 19 = .ok (.ifnonnull 5, 3) := by decide +kernel
theorem dX11_again_22 : decode cX11_again 22 = .ok (.iconst 0, 1) := by decide +kernel
theorem dX11_again_23 : decode cX11_again 23 = .ok (.ireturn, 1) := by decide +kernel
theorem dX11_again_24 : decode cX11_again 24 = .ok (.aload_n 0, 1) := by decide +kernel
theorem dX11_again_25 : decode cX11_again 25 = .ok (.getfield 26, 3) := by decide +kernel
theorem dX11_again_28 : decode cX11_again 28 = .ok (.aload_n 0, 1) := by decide +kernel
theorem dX11_again_29 : decode cX11_again 29 = .ok (.getfield 43, 3) := by decide +kernel
theorem dX11_again_32 : decode cX11_again 32 = .ok (.iload_n 1, 1) := by decide +kernel
theorem dX11_again_33 : decode cX11_again 33 = .ok (.aaload, 1) := by decide +kernel
theorem dX11_again_34 : decode cX11_again 34 = .ok (.invokevirtual 179, 3) := by decide +kernel
theorem dX11_again_37 : decode cX11_again 37 = .ok (.aload_n 0, 1) := by decide +kernel
theorem dX11_again_38 : decode cX11_again 38 = .ok (.getfield 39, 3) := by decide +kernel
theorem dX11_again_41 : decode cX11_again 41 = .ok (.invokevirtual 125, 3) := by decide +kernel
theorem dX11_again_44 : decode cX11_again 44 = .ok (.iconst 1, 1) := by decide +kernel
theorem dX11_again_45 : decode cX11_again 45 = .ok (.ireturn, 1) := by decide +kernel
theorem dX11_count_0 : decode cX11_count 0 = .ok (.iload_n 1, 1) := by decide +kernel
theorem dX11_count_1 : decode cX11_count 1 = .ok (.tableswitch 201 0 14 #[75, 84, 93, 101, 109, 117, 125, 133, 141, 149, 161, 169, 177, 185, 193], 75) := by decide +kernel
theorem dX11_count_76 : decode cX11_count 76 = .ok (.aload_n 0, 1) := by decide +kernel
theorem dX11_count_77 : decode cX11_count 77 = .ok (.getfield 26, 3) := by decide +kernel
theorem dX11_count_80 : decode cX11_count 80 = .ok (.iconst 0, 1) := by decide +kernel
theorem dX11_count_81 : decode cX11_count 81 = .ok (.invokevirtual 131, 3) := by decide +kernel
theorem dX11_count_84 : decode cX11_count 84 = .ok (.ireturn, 1) := by decide +kernel
theorem dX11_count_85 : decode cX11_count 85 = .ok (.aload_n 0, 1) := by decide +kernel
theorem dX11_count_86 : decode cX11_count 86 = .ok (.getfield 26, 3) := by decide +kernel
theorem dX11_count_89 : decode cX11_count 89 = .ok (.iconst 1, 1) := by decide +kernel
theorem dX11_count_90 : decode cX11_count 90 = .ok (.invokevirtual 131, 3) := by decide +kernel
theorem dX11_count_93 : decode cX11_count 93 = .ok (.ireturn, 1) := by decide +kernel
theorem dX11_count_94 : decode cX11_count 94 = .ok (.aload_n 0, 1) := by decide +kernel
theorem dX11_count_95 : decode cX11_count 95 = .ok (.getfield 26, 3) := by decide +kernel
theorem dX11_count_98 : decode cX11_count 98 = .ok (.getfield 256, 3) := by decide +kernel
theorem dX11_count_101 : decode cX11_count 101 = .ok (.ireturn, 1) := by decide +kernel
theorem dX11_count_102 : decode cX11_count 102 = .ok (.aload_n 0, 1) := by decide +kernel
theorem dX11_count_103 : decode cX11_count 103 = .ok (.getfield 26, 3) := by decide +kernel
theorem dX11_count_106 : decode cX11_count 106 = .ok (.getfield 253, 3) := by decide +kernel
theorem dX11_count_109 : decode cX11_count 109 = .ok (.ireturn, 1) := by decide +kernel
theorem dX11_count_110 : decode cX11_count 110 = .ok (.aload_n 0, 1) := by decide +kernel
theorem dX11_count_111 : decode cX11_count 111 = .ok (.getfield 26, 3) := by decide +kernel
theorem dX11_count_114 : decode cX11_count 114 = .ok (.getfield 221, 3) := by decide +kernel
theorem dX11_count_117 : decode cX11_count 117 = .ok (.ireturn, 1) := by decide +kernel
theorem dX11_count_118 : decode cX11_count 118 = .ok (.aload_n 0, 1) := by decide +kernel
theorem dX11_count_119 : decode cX11_count 119 = .ok (.getfield 26, 3) := by decide +kernel
theorem dX11_count_122 : decode cX11_count 122 = .ok (.getfield 287, 3) := by decide +kernel
theorem dX11_count_125 : decode cX11_count 125 = .ok (.ireturn, 1) := by decide +kernel
theorem dX11_count_126 : decode cX11_count 126 = .ok (.aload_n 0, 1) := by decide +kernel
theorem dX11_count_127 : decode cX11_count 127 = .ok (.getfield 26, 3) := by decide +kernel
theorem dX11_count_130 : decode cX11_count 130 = .ok (.getfield 290, 3) := by decide +kernel
theorem dX11_count_133 : decode cX11_count 133 = .ok (.ireturn, 1) := by decide +kernel
theorem dX11_count_134 : decode cX11_count 134 = .ok (.aload_n 0, 1) := by decide +kernel
theorem dX11_count_135 : decode cX11_count 135 = .ok (.getfield 26, 3) := by decide +kernel
theorem dX11_count_138 : decode cX11_count 138 = .ok (.getfield 299, 3) := by decide +kernel
theorem dX11_count_141 : decode cX11_count 141 = .ok (.ireturn, 1) := by decide +kernel
theorem dX11_count_142 : decode cX11_count 142 = .ok (.aload_n 0, 1) := by decide +kernel
theorem dX11_count_143 : decode cX11_count 143 = .ok (.getfield 26, 3) := by decide +kernel
theorem dX11_count_146 : decode cX11_count 146 = .ok (.getfield 437, 3) := by decide +kernel
theorem dX11_count_149 : decode cX11_count 149 = .ok (.ireturn, 1) := by decide +kernel
theorem dX11_count_150 : decode cX11_count 150 = .ok (.aload_n 0, 1) := by decide +kernel
theorem dX11_count_151 : decode cX11_count 151 = .ok (.getfield 50, 3) := by decide +kernel
theorem dX11_count_154 : decode cX11_count 154 = .ok (.aload_n 0, 1) := by decide +kernel
theorem dX11_count_155 : decode cX11_count 155 = .ok (.getfield 26, 3) := by decide +kernel
theorem dX11_count_158 : decode cX11_count 158 = .ok (.invokevirtual 229, 3) := by decide +kernel
theorem dX11_count_161 : decode cX11_count 161 = .ok (.ireturn, 1) := by decide +kernel
theorem dX11_count_162 : decode cX11_count 162 = .ok (.aload_n 0, 1) := by decide +kernel
theorem dX11_count_163 : decode cX11_count 163 = .ok (.getfield 69, 3) := by decide +kernel
theorem dX11_count_166 : decode cX11_count 166 = .ok (.invokevirtual 380, 3) := by decide +kernel
theorem dX11_count_169 : decode cX11_count 169 = .ok (.ireturn, 1) := by decide +kernel
theorem dX11_count_170 : decode cX11_count 170 = .ok (.aload_n 0, 1) := by decide +kernel
theorem dX11_count_171 : decode cX11_count 171 = .ok (.getfield 76, 3) := by decide +kernel
theorem dX11_count_174 : decode cX11_count 174 = .ok (.invokevirtual 392, 3) := by decide +kernel
theorem dX11_count_177 : decode cX11_count 177 = .ok (.ireturn, 1) := by decide +kernel
theorem dX11_count_178 : decode cX11_count 178 = .ok (.aload_n 0, 1) := by decide +kernel
theorem dX11_count_179 : decode cX11_count 179 = .ok (.getfield 39, 3) := by decide +kernel
theorem dX11_count_182 : decode cX11_count 182 = .ok (.invokevirtual 284, 3) := by decide +kernel
theorem dX11_count_185 : decode cX11_count 185 = .ok (.ireturn, 1) := by decide +kernel
theorem dX11_count_186 : decode cX11_count 186 = .ok (.aload_n 0, 1) := by decide +kernel
theorem dX11_count_187 : decode cX11_count 187 = .ok (.getfield 19, 3) := by decide +kernel
theorem dX11_count_190 : decode cX11_count 190 = .ok (.invokevirtual 440, 3) := by decide +kernel
theorem dX11_count_193 : decode cX11_count 193 = .ok (.ireturn, 1) := by decide +kernel
theorem dX11_count_194 : decode cX11_count 194 = .ok (.aload_n 0, 1) := by decide +kernel
theorem dX11_count_195 : decode cX11_count 195 = .ok (.getfield 12, 3) := by decide +kernel
theorem dX11_count_198 : decode cX11_count 198 = .ok (.invokevirtual 107, 3) := by decide +kernel
theorem dX11_count_201 : decode cX11_count 201 = .ok (.ireturn, 1) := by decide +kernel
theorem dX11_count_202 : decode cX11_count 202 = .ok (.iconst (-1), 1) := by decide +kernel
theorem dX11_count_203 : decode cX11_count 203 = .ok (.ireturn, 1) := by decide +kernel
theorem dX11_row_0 : decode cX11_row 0 = .ok (.aload_n 0, 1) := by decide +kernel
theorem dX11_row_1 : decode cX11_row 1 = .ok (.getfield 19, 3) := by decide +kernel
theorem dX11_row_4 : decode cX11_row 4 = .ok (.iload_n 1, 1) := by decide +kernel
theorem dX11_row_5 : decode cX11_row 5 = .ok (.invokevirtual 441, 3) := by decide +kernel
theorem dX11_row_8 : decode cX11_row 8 = .ok (.ifCond .ne 11, 3) := by decide +kernel
theorem dX11_row_11 : decode cX11_row 11 = .ok (.new 151, 3) := by decide +kernel
theorem dX11_row_14 : decode cX11_row 14 = .ok (.dup, 1) := by decide +kernel
theorem dX11_row_15 : decode cX11_row 15 = .ok (.invokespecial 153, 3) := by decide +kernel
theorem dX11_row_18 : decode cX11_row 18 = .ok (.athrow, 1) := by decide +kernel
theorem dX11_row_19 : decode cX11_row 19 = .ok (.aload_n 0, 1) := by decide +kernel
theorem dX11_row_20 : decode cX11_row 20 = .ok (.getfield 19, 3) := by decide +kernel
theorem dX11_row_23 : decode cX11_row 23 = .ok (.iload_n 1, 1) := by decide +kernel
theorem dX11_row_24 : decode cX11_row 24 = .ok (.invokevirtual 443, 3) := by decide +kernel
theorem dX11_row_27 : decode cX11_row 27 = .ok (.lreturn, 1) := by decide +kernel
