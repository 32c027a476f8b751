theorem dX12_when_84 : decode cX12_when 84 = .ok (.isub, 1) := by decide +kernel
theorem dX12_when_85 : decode cX12_when 85 = .ok (.istore_n 3, 1) := by decide +kernel
theorem dX12_when_86 : decode cX12_when 86 = .ok (.iload_n 3, 1) := by decide +kernel
theorem dX12_when_87 : decode cX12_when 87 = .ok (.ifCond .lt 6, 3) := by decide +kernel
theorem dX12_when_90 : decode cX12_when 90 = .ok (.goto 18, 3) := by decide +kernel
theorem dX12_when_93 : decode cX12_when 93 = .ok (.aload_n 0, 1) := by decide +kernel
theorem dX12_when_94 : decode cX12_when 94 = .ok (.iconst 0, 1) := by decide +kernel
theorem dX12_when_95 : decode cX12_when 95 = .ok (.putfield 86, 3) := by decide +kernel
theorem dX12_when_98 : decode cX12_when 98 = .ok (.aload_n 0, 1) := by decide +kernel
theorem dX12_when_99 : decode cX12_when 99 = .ok (.iload 4, 2) := by decide +kernel
theorem dX12_when_101 : decode cX12_when 101 = .ok (.i2l, 1) := by decide +kernel
theorem dX12_when_102 : decode cX12_when 102 = .ok (.invokevirtual 253, 3) := by decide +kernel
theorem dX12_when_105 : decode cX12_when 105 = .ok (.iload 5, 2) := by decide +kernel
theorem dX12_when_107 : decode cX12_when 107 = .ok (.ireturn, 1) := by decide +kernel
theorem dX12_when_108 : decode cX12_when 108 = .ok (.iinc 5 1, 3) := by decide +kernel
theorem dX12_when_111 : decode cX12_when 111 = .ok (.goto (-75), 3) := by decide +kernel
theorem dX12_when_114 : decode cX12_when 114 = .ok (.bipush (-2), 2) := by decide +kernel
theorem dX12_when_116 : decode cX12_when 116 = .ok (.ireturn, 1) := by decide +kernel
theorem dX12_enough_0 : decode cX12_enough 0 = .ok (.aload_n 0, 1) := by decide +kernel
theorem dX12_enough_1 : decode cX12_enough 1 = .ok (.iconst 0, 1) := by decide +kernel
theorem dX12_enough_2 : decode cX12_enough 2 = .ok (.putfield 82, 3) := by decide +kernel
theorem dX12_enough_5 : decode cX12_enough 5 = .ok (.aload_n 0, 1) := by decide +kernel
theorem dX12_enough_6 : decode cX12_enough 6 = .ok (.getfield 9, 3) := by decide +kernel
theorem dX12_enough_9 : decode cX12_enough 9 = .ok (.invokestatic 240, 3) := by decide +kernel
theorem dX12_enough_12 : decode cX12_enough 12 = .ok (.ifCond .ne 6, 3) := by decide +kernel
theorem dX12_enough_15 : decode cX12_enough 15 = .ok (.bipush (-3), 2) := by decide +kernel
theorem dX12_enough_17 : decode cX12_enough 17 = .ok (.ireturn, 1) := by decide +kernel
theorem dX12_enough_18 : decode cX12_enough 18 = .ok (.iconst 0, 1) := by decide +kernel
theorem dX12_enough_19 : decode cX12_enough 19 = .ok (.istore_n 1, 1) := by decide +kernel
theorem dX12_enough_20 : decode cX12_enough 20 = .ok (.iload_n 1, 1) := by decide +kernel
theorem dX12_enough_21 : decode cX12_enough 21 = .ok (.sipush 999, 3) := by decide +kernel
theorem dX12_enough_24 : decode cX12_enough 24 = .ok (.if_icmp .gt 82, 3) := by decide +kernel
theorem dX12_enough_27 : decode cX12_enough 27 = .ok (.aload_n 0, 1) := by decide +kernel
theorem dX12_enough_28 : decode cX12_enough 28 = .ok (.getfield 9, 3) := by decide +kernel
theorem dX12_enough_31 : decode cX12_enough 31 = .ok (.aload_n 0, 1) := by decide +kernel
theorem dX12_enough_32 : decode cX12_enough 32 = .ok (.getfield 42, 3) := by decide +kernel
theorem dX12_enough_35 : decode cX12_enough 35 = .ok (.iconst 0, 1) := by decide +kernel
theorem dX12_enough_36 : decode cX12_enough 36 = .ok (.invokestatic 210, 3) := by decide +kernel
theorem dX12_enough_39 : decode cX12_enough 39 = .ok (.aload_n 0, 1) := by decide +kernel
theorem dX12_enough_40 : decode cX12_enough 40 = .ok (.getfield 42, 3) := by decide +kernel
theorem dX12_enough_43 : decode cX12_enough 43 = .ok (.bipush 14, 2) := by decide +kernel
theorem dX12_enough_45 : decode cX12_enough 45 = .ok (.iload_n 1, 1) := by decide +kernel
theorem dX12_enough_46 : decode cX12_enough 46 = .ok (.iastore, 1) := by decide +kernel
theorem dX12_enough_47 : decode cX12_enough 47 = .ok (.iconst 0, 1) := by decide +kernel
theorem dX12_enough_48 : decode cX12_enough 48 = .ok (.istore_n 2, 1) := by decide +kernel
theorem dX12_enough_49 : decode cX12_enough 49 = .ok (.aload_n 0, 1) := by decide +kernel
theorem dX12_enough_50 : decode cX12_enough 50 = .ok (.getfield 42, 3) := by decide +kernel
theorem dX12_enough_53 : decode cX12_enough 53 = .ok (.invokestatic 246, 3) := by decide +kernel
theorem dX12_enough_56 : decode cX12_enough 56 = .ok (.ifCond .eq 18, 3) := by decide +kernel
theorem dX12_enough_59 : decode cX12_enough 59 = .ok (.aload_n 0, 1) := by decide +kernel
theorem dX12_enough_60 : decode cX12_enough 60 = .ok (.aload_n 0, 1) := by decide +kernel
theorem dX12_enough_61 : decode cX12_enough 61 = .ok (.getfield 42, 3) := by decide +kernel
theorem dX12_enough_64 : decode cX12_enough 64 = .ok (.invokevirtual 250, 3) := by decide +kernel
theorem dX12_enough_67 : decode cX12_enough 67 = .ok (.pop, 1) := by decide +kernel
theorem dX12_enough_68 : decode cX12_enough 68 = .ok (.iinc 2 1, 3) := by decide +kernel
theorem dX12_enough_71 : decode cX12_enough 71 = .ok (.goto (-22), 3) := by decide +kernel
theorem dX12_enough_74 : decode cX12_enough 74 = .ok (.aload_n 0, 1) := by decide +kernel
theorem dX12_enough_75 : decode cX12_enough 75 = .ok (.getfield 42, 3) := by decide +kernel
theorem dX12_enough_78 : decode cX12_enough 78 = .ok (.invokestatic 240, 3) := by decide +kernel
theorem dX12_enough_81 : decode cX12_enough 81 = .ok (.ifCond .le 6, 3) := by decide +kernel
theorem dX12_enough_84 : decode cX12_enough 84 = .ok (.goto 16, 3) := by decide +kernel
theorem dX12_enough_87 : decode cX12_enough 87 = .ok (.aload_n 0, 1) := by decide +kernel
theorem dX12_enough_88 : decode cX12_enough 88 = .ok (.iconst 0, 1) := by decide +kernel
theorem dX12_enough_89 : decode cX12_enough 89 = .ok (.putfield 86, 3) := by decide +kernel
theorem dX12_enough_92 : decode cX12_enough 92 = .ok (.aload_n 0, 1) := by decide +kernel
theorem dX12_enough_93 : decode cX12_enough 93 = .ok (.iload_n 2, 1) := by decide +kernel
theorem dX12_enough_94 : decode cX12_enough 94 = .ok (.i2l, 1) := by decide +kernel
theorem dX12_enough_95 : decode cX12_enough 95 = .ok (.invokevirtual 253, 3) := by decide +kernel
theorem dX12_enough_98 : decode cX12_enough 98 = .ok (.iload_n 1, 1) := by decide +kernel
theorem dX12_enough_99 : decode cX12_enough 99 = .ok (.ireturn, 1) := by decide +kernel
theorem dX12_enough_100 : decode cX12_enough 100 = .ok (.iinc 1 1, 3) := by decide +kernel
theorem dX12_enough_103 : decode cX12_enough 103 = .ok (.goto (-83), 3) := by decide +kernel
theorem dX12_enough_106 : decode cX12_enough 106 = .ok (.bipush (-2), 2) := by decide +kernel
theorem dX12_enough_108 : decode cX12_enough 108 = .ok (.ireturn, 1) := by decide +kernel
theorem dX12_waiting_0 : decode cX12_waiting 0 = .ok (.aload_n 0, 1) := by decide +kernel
theorem dX12_waiting_1 : decode cX12_waiting 1 = .ok (.iconst 0, 1) := by decide +kernel
theorem dX12_waiting_2 : decode cX12_waiting 2 = .ok (.putfield 82, 3) := by decide +kernel
theorem dX12_waiting_5 : decode cX12_waiting 5 = .ok (.aload_n 0, 1) := by decide +kernel
theorem dX12_waiting_6 : decode cX12_waiting 6 = .ok (.getfield 9, 3) := by decide +kernel
theorem dX12_waiting_9 : decode cX12_waiting 9 = .ok (.invokestatic 240, 3) := by decide +kernel
theorem dX12_waiting_12 : decode cX12_waiting 12 = .ok (.ifCond .ne 6, 3) := by decide +kernel
theorem dX12_waiting_15 : decode cX12_waiting 15 = .ok (.bipush (-3), 2) := by decide +kernel
theorem dX12_waiting_17 : decode cX12_waiting 17 = .ok (.ireturn, 1) := by decide +kernel
theorem dX12_waiting_18 : decode cX12_waiting 18 = .ok (.aload_n 0, 1) := by decide +kernel
theorem dX12_waiting_19 : decode cX12_waiting 19 = .ok (.getfield 9, 3) := by decide +kernel
theorem dX12_waiting_22 : decode cX12_waiting 22 = .ok (.aload_n 0, 1) := by decide +kernel
theorem dX12_waiting_23 : decode cX12_waiting 23 = .ok (.getfield 42, 3) := by decide +kernel
theorem dX12_waiting_26 : decode cX12_waiting 26 = .ok (.iconst 0, 1) := by decide +kernel
theorem dX12_waiting_27 : decode cX12_waiting 27 = .ok (.invokestatic 210, 3) := by decide +kernel
theorem dX12_waiting_30 : decode cX12_waiting 30 = .ok (.iconst 0, 1) := by decide +kernel
theorem dX12_waiting_31 : decode cX12_waiting 31 = .ok (.istore_n 1, 1) := by decide +kernel
theorem dX12_waiting_32 : decode cX12_waiting 32 = .ok (.iconst 0, 1) := by decide +kernel
theorem dX12_waiting_33 : decode cX12_waiting 33 = .ok (.istore_n 2, 1) := by decide +kernel
theorem dX12_waiting_34 : decode cX12_waiting 34 = .ok (.iconst 1, 1) := by decide +kernel
theorem dX12_waiting_35 : decode cX12_waiting 35 = .ok (.istore_n 3, 1) := by decide +kernel
theorem dX12_waiting_36 : decode cX12_waiting 36 = .ok (.iload_n 3, 1) := by decide +kernel
theorem dX12_waiting_37 : decode cX12_waiting 37 = .ok (.bipush 99, 2) := by decide +kernel
theorem dX12_waiting_39 : decode cX12_waiting 39 = .ok (.if_icmp .gt 54, 3) := by decide +kernel
theorem dX12_waiting_42 : decode cX12_waiting 42 = .ok (.aload_n 0, 1) := by decide +kernel
theorem dX12_waiting_43 : decode cX12_waiting 43 = .ok (.getfield 42, 3) := by decide +kernel
theorem dX12_waiting_46 : decode cX12_waiting 46 = .ok (.invokestatic 240, 3) := by decide +kernel
theorem dX12_waiting_49 : decode cX12_waiting 49 = .ok (.ifCond .le 44, 3) := by decide +kernel
theorem dX12_waiting_52 : decode cX12_waiting 52 = .ok (.aload_n 0, 1) := by decide +kernel
theorem dX12_waiting_53 : decode cX12_waiting 53 = .ok (.getfield 42, 3) := by decide +kernel
theorem dX12_waiting_56 : decode cX12_waiting 56 = .ok (.invokestatic 240, 3) := by decide +kernel
theorem dX12_waiting_59 : decode cX12_waiting 59 = .ok (.istore 4, 2) := by decide +kernel
theorem dX12_waiting_61 : decode cX12_waiting 61 = .ok (.aload_n 0, 1) := by decide +kernel
theorem dX12_waiting_62 : decode cX12_waiting 62 = .ok (.aload_n 0, 1) := by decide +kernel
theorem dX12_waiting_63 : decode cX12_waiting 63 = .ok (.getfield 42, 3) := by decide +kernel
theorem dX12_waiting_66 : decode cX12_waiting 66 = .ok (.invokevirtual 273, 3) := by decide +kernel
theorem dX12_waiting_69 : decode cX12_waiting 69 = .ok (.pop, 1) := by decide +kernel
theorem dX12_waiting_70 : decode cX12_waiting 70 = .ok (.iload_n 1, 1) := by decide +kernel
theorem dX12_waiting_71 : decode cX12_waiting 71 = .ok (.iload_n 3, 1) := by decide +kernel
theorem dX12_waiting_72 : decode cX12_waiting 72 = .ok (.iload 4, 2) := by decide +kernel
theorem dX12_waiting_74 : decode cX12_waiting 74 = .ok (.aload_n 0, 1) := by decide +kernel
theorem dX12_waiting_75 : decode cX12_waiting 75 = .ok (.getfield 42, 3) := by decide +kernel
theorem dX12_waiting_78 : decode cX12_waiting 78 = .ok (.invokestatic 240, 3) := by decide +kernel
theorem dX12_waiting_81 : decode cX12_waiting 81 = .ok (.isub, 1) := by decide +kernel
theorem dX12_waiting_82 : decode cX12_waiting 82 = .ok (.imul, 1) := by decide +kernel
theorem dX12_waiting_83 : decode cX12_waiting 83 = .ok (.iadd, 1) := by decide +kernel
theorem dX12_waiting_84 : decode cX12_waiting 84 = .ok (.istore_n 1, 1) := by decide +kernel
theorem dX12_waiting_85 : decode cX12_waiting 85 = .ok (.iload_n 3, 1) := by decide +kernel
theorem dX12_waiting_86 : decode cX12_waiting 86 = .ok (.istore_n 2, 1) := by decide +kernel
theorem dX12_waiting_87 : decode cX12_waiting 87 = .ok (.iinc 3 1, 3) := by decide +kernel
theorem dX12_waiting_90 : decode cX12_waiting 90 = .ok (.goto (-54), 3) := by decide +kernel
theorem dX12_waiting_93 : decode cX12_waiting 93 = .ok (.aload_n 0, 1) := by decide +kernel
theorem dX12_waiting_94 : decode cX12_waiting 94 = .ok (.getfield 42, 3) := by decide +kernel
theorem dX12_waiting_97 : decode cX12_waiting 97 = .ok (.invokestatic 240, 3) := by decide +kernel
theorem dX12_waiting_100 : decode cX12_waiting 100 = .ok (.ifCond .le 6, 3) := by decide +kernel
theorem dX12_waiting_103 : decode cX12_waiting 103 = .ok (.bipush (-2), 2) := by decide +kernel
theorem dX12_waiting_105 : decode cX12_waiting 105 = .ok (.ireturn, 1) := by decide +kernel
theorem dX12_waiting_106 : decode cX12_waiting 106 = .ok (.aload_n 0, 1) := by decide +kernel
theorem dX12_waiting_107 : decode cX12_waiting 107 = .ok (.iconst 0, 1) := by decide +kernel
theorem dX12_waiting_108 : decode cX12_waiting 108 = .ok (.putfield 86, 3) := by decide +kernel
theorem dX12_waiting_111 : decode cX12_waiting 111 = .ok (.aload_n 0, 1) := by decide +kernel
theorem dX12_waiting_112 : decode cX12_waiting 112 = .ok (.iload_n 2, 1) := by decide +kernel
theorem dX12_waiting_113 : decode cX12_waiting 113 = .ok (.i2l, 1) := by decide +kernel
theorem dX12_waiting_114 : decode cX12_waiting 114 = .ok (.invokevirtual 253, 3) := by decide +kernel
theorem dX12_waiting_117 : decode cX12_waiting 117 = .ok (.iload_n 1, 1) := by decide +kernel
theorem dX12_waiting_118 : decode cX12_waiting 118 = .ok (.ireturn, 1) := by decide +kernel
theorem dX12_holds_0 : decode cX12_holds 0 = .ok (.aload_n 0, 1) := by decide +kernel
theorem dX12_holds_1 : decode cX12_holds 1 = .ok (.iconst 0, 1) := by decide +kernel
theorem dX12_holds_2 : decode cX12_holds 2 = .ok (.putfield 82, 3) := by decide +kernel
theorem dX12_holds_5 : decode cX12_holds 5 = .ok (.iload_n 1, 1) := by decide +kernel
theorem dX12_holds_6 : decode cX12_holds 6 = .ok (.iconst 0, 1) := by decide +kernel
theorem dX12_holds_7 : decode cX12_holds 7 = .ok (.bipush 60, 2) := by decide +kernel
theorem dX12_holds_9 : decode cX12_holds 9 = .ok (.invokestatic 89, 3) := by decide +kernel
theorem dX12_holds_12 : decode cX12_holds 12 = .ok (.ifCond .ne 5, 3) := by decide +kernel
theorem dX12_holds_15 : decode cX12_holds 15 = .ok (.iconst (-1), 1) := by decide +kernel
theorem dX12_holds_16 : decode cX12_holds 16 = .ok (.ireturn, 1) := by decide +kernel
theorem dX12_holds_17 : decode cX12_holds 17 = .ok (.iconst (-1), 1) := by decide +kernel
theorem dX12_holds_18 : decode cX12_holds 18 = .ok (.istore_n 2, 1) := by decide +kernel
theorem dX12_holds_19 : decode cX12_holds 19 = .ok (.iconst 0, 1) := by decide +kernel
theorem dX12_holds_20 : decode cX12_holds 20 = .ok (.istore_n 3, 1) := by decide +kernel
theorem dX12_holds_21 : decode cX12_holds 21 = .ok (.iconst 0, 1) := by decide +kernel
theorem dX12_holds_22 : decode cX12_holds 22 = .ok (.istore 4, 2) := by decide +kernel
theorem dX12_holds_24 : decode cX12_holds 24 = .ok (.iload 4, 2) := by decide +kernel
theorem dX12_holds_26 : decode cX12_holds 26 = .ok (.bipush 9, 2) := by decide +kernel
theorem dX12_holds_28 : decode cX12_holds 28 = .ok (.if_icmp .gt 59, 3) := by decide +kernel
theorem dX12_holds_31 : decode cX12_holds 31 = .ok (.aload_n 0, 1) := by decide +kernel
theorem dX12_holds_32 : decode cX12_holds 32 = .ok (.getfield 9, 3) := by decide +kernel
theorem dX12_holds_35 : decode cX12_holds 35 = .ok (.aload_n 0, 1) := by decide +kernel
theorem dX12_holds_36 : decode cX12_holds 36 = .ok (.getfield 42, 3) := by decide +kernel
theorem dX12_holds_39 : decode cX12_holds 39 = .ok (.iconst 0, 1) := by decide +kernel
theorem dX12_holds_40 : decode cX12_holds 40 = .ok (.invokestatic 210, 3) := by decide +kernel
theorem dX12_holds_43 : decode cX12_holds 43 = .ok (.aload_n 0, 1) := by decide +kernel
theorem dX12_holds_44 : decode cX12_holds 44 = .ok (.getfield 42, 3) := by decide +kernel
theorem dX12_holds_47 : decode cX12_holds 47 = .ok (.bipush 13, 2) := by decide +kernel
theorem dX12_holds_49 : decode cX12_holds 49 = .ok (.iload 4, 2) := by decide +kernel
theorem dX12_holds_51 : decode cX12_holds 51 = .ok (.iastore, 1) := by decide +kernel
theorem dX12_holds_52 : decode cX12_holds 52 = .ok (.aload_n 0, 1) := by decide +kernel
theorem dX12_holds_53 : decode cX12_holds 53 = .ok (.aload_n 0, 1) := by decide +kernel
theorem dX12_holds_54 : decode cX12_holds 54 = .ok (.getfield 42, 3) := by decide +kernel
theorem dX12_holds_57 : decode cX12_holds 57 = .ok (.iload_n 1, 1) := by decide +kernel
theorem dX12_holds_58 : decode cX12_holds 58 = .ok (.invokevirtual 276, 3) := by decide +kernel
theorem dX12_holds_61 : decode cX12_holds 61 = .ok (.pop, 1) := by decide +kernel
theorem dX12_holds_62 : decode cX12_holds 62 = .ok (.aload_n 0, 1) := by decide +kernel
theorem dX12_holds_63 : decode cX12_holds 63 = .ok (.getfield 42, 3) := by decide +kernel
theorem dX12_holds_66 : decode cX12_holds 66 = .ok (.invokestatic 240, 3) := by decide +kernel
theorem dX12_holds_69 : decode cX12_holds 69 = .ok (.ifCond .le 6, 3) := by decide +kernel
theorem dX12_holds_72 : decode cX12_holds 72 = .ok (.goto 9, 3) := by decide +kernel
theorem dX12_holds_75 : decode cX12_holds 75 = .ok (.iload 4, 2) := by decide +kernel
theorem dX12_holds_77 : decode cX12_holds 77 = .ok (.istore_n 2, 1) := by decide +kernel
theorem dX12_holds_78 : decode cX12_holds 78 = .ok (.iinc 3 1, 3) := by decide +kernel
theorem dX12_holds_81 : decode cX12_holds 81 = .ok (.iinc 4 1, 3) := by decide +kernel
theorem dX12_holds_84 : decode cX12_holds 84 = .ok (.goto (-60), 3) := by decide +kernel
theorem dX12_holds_87 : decode cX12_holds 87 = .ok (.iload_n 2, 1) := by decide +kernel
theorem dX12_holds_88 : decode cX12_holds 88 = .ok (.iconst (-1), 1) := by decide +kernel
theorem dX12_holds_89 : decode cX12_holds 89 = .ok (.if_icmp .ne 6, 3) := by decide +kernel
theorem dX12_holds_92 : decode cX12_holds 92 = .ok (.bipush (-2), 2) := by decide +kernel
theorem dX12_holds_94 : decode cX12_holds 94 = .ok (.ireturn, 1) := by decide +kernel
theorem dX12_holds_95 : decode cX12_holds 95 = .ok (.aload_n 0, 1) := by decide +kernel
theorem dX12_holds_96 : decode cX12_holds 96 = .ok (.iconst 0, 1) := by decide +kernel
theorem dX12_holds_97 : decode cX12_holds 97 = .ok (.putfield 86, 3) := by decide +kernel
theorem dX12_holds_100 : decode cX12_holds 100 = .ok (.aload_n 0, 1) := by decide +kernel
theorem dX12_holds_101 : decode cX12_holds 101 = .ok (.iload_n 3, 1) := by decide +kernel
theorem dX12_holds_102 : decode cX12_holds 102 = .ok (.i2l, 1) := by decide +kernel
theorem dX12_holds_103 : decode cX12_holds 103 = .ok (.invokevirtual 253, 3) := by decide +kernel
theorem dX12_holds_106 : decode cX12_holds 106 = .ok (.iload_n 2, 1) := by decide +kernel
theorem dX12_holds_107 : decode cX12_holds 107 = .ok (.ireturn, 1) := by decide +kernel
theorem dX12_soonest_0 : decode cX12_soonest 0 = .ok (.aload_n 0, 1) := by decide +kernel
theorem dX12_soonest_1 : decode cX12_soonest 1 = .ok (.iconst 0, 1) := by decide +kernel
theorem dX12_soonest_2 : decode cX12_soonest 2 = .ok (.putfield 82, 3) := by decide +kernel
theorem dX12_soonest_5 : decode cX12_soonest 5 = .ok (.aload_n 0, 1) := by decide +kernel
theorem dX12_soonest_6 : decode cX12_soonest 6 = .ok (.getfield 9, 3) := by decide +kernel
theorem dX12_soonest_9 : decode cX12_soonest 9 = .ok (.invokestatic 240, 3) := by decide +kernel
theorem dX12_soonest_12 : decode cX12_soonest 12 = .ok (.ifCond .ne 6, 3) := by decide +kernel
theorem dX12_soonest_15 : decode cX12_soonest 15 = .ok (.bipush (-3), 2) := by decide +kernel
theorem dX12_soonest_17 : decode cX12_soonest 17 = .ok (.ireturn, 1) := by decide +kernel
theorem dX12_soonest_18 : decode cX12_soonest 18 = .ok (.iconst 0, 1) := by decide +kernel
theorem dX12_soonest_19 : decode cX12_soonest 19 = .ok (.istore_n 1, 1) := by decide +kernel
theorem dX12_soonest_20 : decode cX12_soonest 20 = .ok (.aload_n 0, 1) := by decide +kernel
theorem dX12_soonest_21 : decode cX12_soonest 21 = .ok (.getfield 48, 3) := by decide +kernel
theorem dX12_soonest_24 : decode cX12_soonest 24 = .ok (.iconst 0, 1) := by decide +kernel
theorem dX12_soonest_25 : decode cX12_soonest 25 = .ok (.bipush 100, 2) := by decide +kernel
theorem dX12_soonest_27 : decode cX12_soonest 27 = .ok (.iastore, 1) := by decide +kernel
theorem dX12_soonest_28 : decode cX12_soonest 28 = .ok (.iconst 1, 1) := by decide +kernel
theorem dX12_soonest_29 : decode cX12_soonest 29 = .ok (.istore_n 2, 1) := by decide +kernel
theorem dX12_soonest_30 : decode cX12_soonest 30 = .ok (.iload_n 2, 1) := by decide +kernel
theorem dX12_soonest_31 : decode cX12_soonest 31 = .ok (.iconst 3, 1) := by decide +kernel
theorem dX12_soonest_32 : decode cX12_soonest 32 = .ok (.if_icmp .gt 95, 3) := by decide +kernel
theorem dX12_soonest_35 : decode cX12_soonest 35 = .ok (.aload_n 0, 1) := by decide +kernel
theorem dX12_soonest_36 : decode cX12_soonest 36 = .ok (.getfield 9, 3) := by decide +kernel
theorem dX12_soonest_39 : decode cX12_soonest 39 = .ok (.aload_n 0, 1) := by decide +kernel
theorem dX12_soonest_40 : decode cX12_soonest 40 = .ok (.getfield 42, 3) := by decide +kernel
theorem dX12_soonest_43 : decode cX12_soonest 43 = .ok (.iconst 0, 1) := by decide +kernel
theorem dX12_soonest_44 : decode cX12_soonest 44 = .ok (.invokestatic 210, 3) := by decide +kernel
theorem dX12_soonest_47 : decode cX12_soonest 47 = .ok (.aload_n 0, 1) := by decide +kernel
theorem dX12_soonest_48 : decode cX12_soonest 48 = .ok (.getfield 42, 3) := by decide +kernel
theorem dX12_soonest_51 : decode cX12_soonest 51 = .ok (.bipush 12, 2) := by decide +kernel
theorem dX12_soonest_53 : decode cX12_soonest 53 = .ok (.iload_n 2, 1) := by decide +kernel
theorem dX12_soonest_54 : decode cX12_soonest 54 = .ok (.iastore, 1) := by decide +kernel
theorem dX12_soonest_55 : decode cX12_soonest 55 = .ok (.iconst 0, 1) := by decide +kernel
theorem dX12_soonest_56 : decode cX12_soonest 56 = .ok (.istore_n 3, 1) := by decide +kernel
theorem dX12_soonest_57 : decode cX12_soonest 57 = .ok (.iload_n 3, 1) := by decide +kernel
theorem dX12_soonest_58 : decode cX12_soonest 58 = .ok (.bipush 99, 2) := by decide +kernel
theorem dX12_soonest_60 : decode cX12_soonest 60 = .ok (.if_icmp .gt 28, 3) := by decide +kernel
theorem dX12_soonest_63 : decode cX12_soonest 63 = .ok (.aload_n 0, 1) := by decide +kernel
theorem dX12_soonest_64 : decode cX12_soonest 64 = .ok (.getfield 42, 3) := by decide +kernel
theorem dX12_soonest_67 : decode cX12_soonest 67 = .ok (.invokestatic 240, 3) := by decide +kernel
theorem dX12_soonest_70 : decode cX12_soonest 70 = .ok (.ifCond .le 18, 3) := by decide +kernel
theorem dX12_soonest_73 : decode cX12_soonest 73 = .ok (.aload_n 0, 1) := by decide +kernel
theorem dX12_soonest_74 : decode cX12_soonest 74 = .ok (.aload_n 0, 1) := by decide +kernel
theorem dX12_soonest_75 : decode cX12_soonest 75 = .ok (.getfield 42, 3) := by decide +kernel
theorem dX12_soonest_78 : decode cX12_soonest 78 = .ok (.invokevirtual 273, 3) := by decide +kernel
theorem dX12_soonest_81 : decode cX12_soonest 81 = .ok (.pop, 1) := by decide +kernel
theorem dX12_soonest_82 : decode cX12_soonest 82 = .ok (.iinc 3 1, 3) := by decide +kernel
theorem dX12_soonest_85 : decode cX12_soonest 85 = .ok (.goto (-28), 3) := by decide +kernel
theorem dX12_soonest_88 : decode cX12_soonest 88 = .ok (.aload_n 0, 1) := by decide +kernel
theorem dX12_soonest_89 : decode cX12_soonest 89 = .ok (.getfield 48, 3) := by decide +kernel
theorem dX12_soonest_92 : decode cX12_soonest 92 = .ok (.iload_n 2, 1) := by decide +kernel
theorem dX12_soonest_93 : decode cX12_soonest 93 = .ok (.iload_n 3, 1) := by decide +kernel
theorem dX12_soonest_94 : decode cX12_soonest 94 = .ok (.bipush 100, 2) := by decide +kernel
theorem dX12_soonest_96 : decode cX12_soonest 96 = .ok (.invokestatic 195, 3) := by decide +kernel
theorem dX12_soonest_99 : decode cX12_soonest 99 = .ok (.iastore, 1) := by decide +kernel
theorem dX12_soonest_100 : decode cX12_soonest 100 = .ok (.aload_n 0, 1) := by decide +kernel
theorem dX12_soonest_101 : decode cX12_soonest 101 = .ok (.getfield 48, 3) := by decide +kernel
theorem dX12_soonest_104 : decode cX12_soonest 104 = .ok (.iload_n 2, 1) := by decide +kernel
theorem dX12_soonest_105 : decode cX12_soonest 105 = .ok (.iaload, 1) := by decide +kernel
theorem dX12_soonest_106 : decode cX12_soonest 106 = .ok (.aload_n 0, 1) := by decide +kernel
theorem dX12_soonest_107 : decode cX12_soonest 107 = .ok (.getfield 48, 3) := by decide +kernel
theorem dX12_soonest_110 : decode cX12_soonest 110 = .ok (.iload_n 1, 1) := by decide +kernel
theorem dX12_soonest_111 : decode cX12_soonest 111 = .ok (.iaload, 1) := by decide +kernel
theorem dX12_soonest_112 : decode cX12_soonest 112 = .ok (.if_icmp .ge 7, 3) := by decide +kernel
theorem dX12_soonest_115 : decode cX12_soonest 115 = .ok (.iload_n 2, 1) := by decide +kernel
theorem dX12_soonest_116 : decode cX12_soonest 116 = .ok (.goto 4, 3) := by decide +kernel
theorem dX12_soonest_119 : decode cX12_soonest 119 = .ok (.iload_n 1, 1) := by decide +kernel
theorem dX12_soonest_120 : decode cX12_soonest 120 = .ok (.istore_n 1, 1) := by decide +kernel
theorem dX12_soonest_121 : decode cX12_soonest 121 = .ok (.iinc 2 1, 3) := by decide +kernel
theorem dX12_soonest_124 : decode cX12_soonest 124 = .ok (.goto (-94), 3) := by decide +kernel
theorem dX12_soonest_127 : decode cX12_soonest 127 = .ok (.iload_n 1, 1) := by decide +kernel
theorem dX12_soonest_128 : decode cX12_soonest 128 = .ok (.ifCond .ne 6, 3) := by decide +kernel
theorem dX12_soonest_131 : decode cX12_soonest 131 = .ok (.bipush (-2), 2) := by decide +kernel
theorem dX12_soonest_133 : decode cX12_soonest 133 = .ok (.ireturn, 1) := by decide +kernel
theorem dX12_soonest_134 : decode cX12_soonest 134 = .ok (.aload_n 0, 1) := by decide +kernel
theorem dX12_soonest_135 : decode cX12_soonest 135 = .ok (.iconst 0, 1) := by decide +kernel
theorem dX12_soonest_136 : decode cX12_soonest 136 = .ok (.putfield 86, 3) := by decide +kernel
theorem dX12_soonest_139 : decode cX12_soonest 139 = .ok (.iconst 1, 1) := by decide +kernel
theorem dX12_soonest_140 : decode cX12_soonest 140 = .ok (.istore_n 2, 1) := by decide +kernel
theorem dX12_soonest_141 : decode cX12_soonest 141 = .ok (.iload_n 2, 1) := by decide +kernel
theorem dX12_soonest_142 : decode cX12_soonest 142 = .ok (.iconst 3, 1) := by decide +kernel
theorem dX12_soonest_143 : decode cX12_soonest 143 = .ok (.if_icmp .gt 20, 3) := by decide +kernel
theorem dX12_soonest_146 : decode cX12_soonest 146 = .ok (.aload_n 0, 1) := by decide +kernel
theorem dX12_soonest_147 : decode cX12_soonest 147 = .ok (.aload_n 0, 1) := by decide +kernel
theorem dX12_soonest_148 : decode cX12_soonest 148 = .ok (.getfield 48, 3) := by decide +kernel
theorem dX12_soonest_151 : decode cX12_soonest 151 = .ok (.iload_n 2, 1) := by decide +kernel
theorem dX12_soonest_152 : decode cX12_soonest 152 = .ok (.iaload, 1) := by decide +kernel
theorem dX12_soonest_153 : decode cX12_soonest 153 = .ok (.i2l, 1) := by decide +kernel
theorem dX12_soonest_154 : decode cX12_soonest 154 = .ok (.invokevirtual 253, 3) := by decide +kernel
theorem dX12_soonest_157 : decode cX12_soonest 157 = .ok (.iinc 2 1, 3) := by decide +kernel
theorem dX12_soonest_160 : decode cX12_soonest 160 = .ok (.goto (-19), 3) := by decide +kernel
theorem dX12_soonest_163 : decode cX12_soonest 163 = .ok (.iload_n 1, 1) := by decide +kernel
theorem dX12_soonest_164 : decode cX12_soonest 164 = .ok (.ireturn, 1) := by decide +kernel
theorem dX12_most_0 : decode cX12_most 0 = .ok (.aload_n 0, 1) := by decide +kernel
theorem dX12_most_1 : decode cX12_most 1 = .ok (.iconst 0, 1) := by decide +kernel
theorem dX12_most_2 : decode cX12_most 2 = .ok (.putfield 82, 3) := by decide +kernel
theorem dX12_most_5 : decode cX12_most 5 = .ok (.iload_n 1, 1) := by decide +kernel
theorem dX12_most_6 : decode cX12_most 6 = .ok (.iconst 0, 1) := by decide +kernel
theorem dX12_most_7 : decode cX12_most 7 = .ok (.bipush 99, 2) := by decide +kernel
theorem dX12_most_9 : decode cX12_most 9 = .ok (.invokestatic 89, 3) := by decide +kernel
theorem dX12_most_12 : decode cX12_most 12 = .ok (.ifCond .ne 5, 3) := by decide +kernel
theorem dX12_most_15 : decode cX12_most 15 = .ok (.iconst (-1), 1) := by decide +kernel
theorem dX12_most_16 : decode cX12_most 16 = .ok (.ireturn, 1) := by decide +kernel
theorem dX12_most_17 : decode cX12_most 17 = .ok (.iconst 0, 1) := by decide +kernel
theorem dX12_most_18 : decode cX12_most 18 = .ok (.istore_n 2, 1) := by decide +kernel
theorem dX12_most_19 : decode cX12_most 19 = .ok (.ldc_w 300, 3) := by decide +kernel
theorem dX12_most_22 : decode cX12_most 22 = .ok (.istore_n 3, 1) := by decide +kernel
theorem dX12_most_23 : decode cX12_most 23 = .ok (.iconst 0, 1) := by decide +kernel
theorem dX12_most_24 : decode cX12_most 24 = .ok (.istore 4, 2) := by decide +kernel
theorem dX12_most_26 : decode cX12_most 26 = .ok (.iconst 0, 1) := by decide +kernel
theorem dX12_most_27 : decode cX12_most 27 = .ok (.istore 5, 2) := by decide +kernel
theorem dX12_most_29 : decode cX12_most 29 = .ok (.iconst 0, 1) := by decide +kernel
theorem dX12_most_30 : decode cX12_most 30 = .ok (.istore 6, 2) := by decide +kernel
theorem dX12_most_32 : decode cX12_most 32 = .ok (.iload 6, 2) := by decide +kernel
theorem dX12_most_34 : decode cX12_most 34 = .ok (.aload_n 0, 1) := by decide +kernel
theorem dX12_most_35 : decode cX12_most 35 = .ok (.getfield 9, 3) := by decide +kernel
theorem dX12_most_38 : decode cX12_most 38 = .ok (.iconst 0, 1) := by decide +kernel
theorem dX12_most_39 : decode cX12_most 39 = .ok (.invokestatic 187, 3) := by decide +kernel
theorem dX12_most_42 : decode cX12_most 42 = .ok (.if_icmp .gt 134, 3) := by decide +kernel
theorem dX12_most_45 : decode cX12_most 45 = .ok (.aload_n 0, 1) := by decide +kernel
theorem dX12_most_46 : decode cX12_most 46 = .ok (.aload_n 0, 1) := by decide +kernel
theorem dX12_most_47 : decode cX12_most 47 = .ok (.getfield 9, 3) := by decide +kernel
theorem dX12_most_50 : decode cX12_most 50 = .ok (.iconst 0, 1) := by decide +kernel
theorem dX12_most_51 : decode cX12_most 51 = .ok (.iload 6, 2) := by decide +kernel
theorem dX12_most_53 : decode cX12_most 53 = .ok (.invokevirtual 266, 3) := by decide +kernel
theorem dX12_most_56 : decode cX12_most 56 = .ok (.ifCond .ne 6, 3) := by decide +kernel
theorem dX12_most_59 : decode cX12_most 59 = .ok (.goto 111, 3) := by decide +kernel
theorem dX12_most_62 : decode cX12_most 62 = .ok (.iconst 0, 1) := by decide +kernel
theorem dX12_most_63 : decode cX12_most 63 = .ok (.istore 7, 2) := by decide +kernel
theorem dX12_most_65 : decode cX12_most 65 = .ok (.iload 7, 2) := by decide +kernel
theorem dX12_most_67 : decode cX12_most 67 = .ok (.aload_n 0, 1) := by decide +kernel
theorem dX12_most_68 : decode cX12_most 68 = .ok (.getfield 9, 3) := by decide +kernel
theorem dX12_most_71 : decode cX12_most 71 = .ok (.iconst 1, 1) := by decide +kernel
theorem dX12_most_72 : decode cX12_most 72 = .ok (.invokestatic 187, 3) := by decide +kernel
theorem dX12_most_75 : decode cX12_most 75 = .ok (.if_icmp .gt 95, 3) := by decide +kernel
theorem dX12_most_78 : decode cX12_most 78 = .ok (.iload 6, 2) := by decide +kernel
theorem dX12_most_80 : decode cX12_most 80 = .ok (.invokestatic 229, 3) := by decide +kernel
theorem dX12_most_83 : decode cX12_most 83 = .ok (.iload 7, 2) := by decide +kernel
theorem dX12_most_85 : decode cX12_most 85 = .ok (.invokestatic 229, 3) := by decide +kernel
theorem dX12_most_88 : decode cX12_most 88 = .ok (.iadd, 1) := by decide +kernel
theorem dX12_most_89 : decode cX12_most 89 = .ok (.istore 8, 2) := by decide +kernel
theorem dX12_most_91 : decode cX12_most 91 = .ok (.aload_n 0, 1) := by decide +kernel
theorem dX12_most_92 : decode cX12_most 92 = .ok (.getfield 9, 3) := by decide +kernel
theorem dX12_most_95 : decode cX12_most 95 = .ok (.iload 6, 2) := by decide +kernel
theorem dX12_most_97 : decode cX12_most 97 = .ok (.iload 7, 2) := by decide +kernel
theorem dX12_most_99 : decode cX12_most 99 = .ok (.invokestatic 218, 3) := by decide +kernel
theorem dX12_most_102 : decode cX12_most 102 = .ok (.istore 9, 2) := by decide +kernel
theorem dX12_most_104 : decode cX12_most 104 = .ok (.iload 8, 2) := by decide +kernel
theorem dX12_most_106 : decode cX12_most 106 = .ok (.ifCond .eq 58, 3) := by decide +kernel
theorem dX12_most_109 : decode cX12_most 109 = .ok (.aload_n 0, 1) := by decide +kernel
theorem dX12_most_110 : decode cX12_most 110 = .ok (.aload_n 0, 1) := by decide +kernel
theorem dX12_most_111 : decode cX12_most 111 = .ok (.getfield 9, 3) := by decide +kernel
theorem dX12_most_114 : decode cX12_most 114 = .ok (.iconst 1, 1) := by decide +kernel
theorem dX12_most_115 : decode cX12_most 115 = .ok (.iload 7, 2) := by decide +kernel
theorem dX12_most_117 : decode cX12_most 117 = .ok (.invokevirtual 266, 3) := by decide +kernel
theorem dX12_most_120 : decode cX12_most 120 = .ok (.ifCond .eq 44, 3) := by decide +kernel
theorem dX12_most_123 : decode cX12_most 123 = .ok (.iload 9, 2) := by decide +kernel
theorem dX12_most_125 : decode cX12_most 125 = .ok (.iload_n 1, 1) := by decide +kernel
theorem dX12_most_126 : decode cX12_most 126 = .ok (.if_icmp .gt 38, 3) := by decide +kernel
theorem dX12_most_129 : decode cX12_most 129 = .ok (.iload 8, 2) := by decide +kernel
theorem dX12_most_131 : decode cX12_most 131 = .ok (.iload_n 2, 1) := by decide +kernel
theorem dX12_most_132 : decode cX12_most 132 = .ok (.if_icmp .lt 32, 3) := by decide +kernel
theorem dX12_most_135 : decode cX12_most 135 = .ok (.iload 8, 2) := by decide +kernel
theorem dX12_most_137 : decode cX12_most 137 = .ok (.iload_n 2, 1) := by decide +kernel
theorem dX12_most_138 : decode cX12_most 138 = .ok (.if_icmp .ne 12, 3) := by decide +kernel
theorem dX12_most_141 : decode cX12_most 141 = .ok (.iload 9, 2) := by decide +kernel
theorem dX12_most_143 : decode cX12_most 143 = .ok (.iload_n 3, 1) := by decide +kernel
theorem dX12_most_144 : decode cX12_most 144 = .ok (.if_icmp .lt 6, 3) := by decide +kernel
theorem dX12_most_147 : decode cX12_most 147 = .ok (.goto 17, 3) := by decide +kernel
theorem dX12_most_150 : decode cX12_most 150 = .ok (.iload 8, 2) := by decide +kernel
theorem dX12_most_152 : decode cX12_most 152 = .ok (.istore_n 2, 1) := by decide +kernel
theorem dX12_most_153 : decode cX12_most 153 = .ok (.iload 9, 2) := by decide +kernel
theorem dX12_most_155 : decode cX12_most 155 = .ok (.istore_n 3, 1) := by decide +kernel
theorem dX12_most_156 : decode cX12_most 156 = .ok (.iload 6, 2) := by decide +kernel
theorem dX12_most_158 : decode cX12_most 158 = .ok (.istore 4, 2) := by decide +kernel
theorem dX12_most_160 : decode cX12_most 160 = .ok (.iload 7, 2) := by decide +kernel
theorem dX12_most_162 : decode cX12_most 162 = .ok (.istore 5, 2) := by decide +kernel
theorem dX12_most_164 : decode cX12_most 164 = .ok (.iinc 7 1, 3) := by decide +kernel
theorem dX12_most_167 : decode cX12_most 167 = .ok (.goto (-102), 3) := by decide +kernel
theorem dX12_most_170 : decode cX12_most 170 = .ok (.iinc 6 1, 3) := by decide +kernel
theorem dX12_most_173 : decode cX12_most 173 = .ok (.goto (-141), 3) := by decide +kernel
theorem dX12_most_176 : decode cX12_most 176 = .ok (.iload_n 2, 1) := by decide +kernel
theorem dX12_most_177 : decode cX12_most 177 = .ok (.ifCond .ne 6, 3) := by decide +kernel
theorem dX12_most_180 : decode cX12_most 180 = .ok (.bipush (-2), 2) := by decide +kernel
theorem dX12_most_182 : decode cX12_most 182 = .ok (.ireturn, 1) := by decide +kernel
theorem dX12_most_183 : decode cX12_most 183 = .ok (.aload_n 0, 1) := by decide +kernel
theorem dX12_most_184 : decode cX12_most 184 = .ok (.iconst 0, 1) := by decide +kernel
theorem dX12_most_185 : decode cX12_most 185 = .ok (.putfield 86, 3) := by decide +kernel
theorem dX12_most_188 : decode cX12_most 188 = .ok (.aload_n 0, 1) := by decide +kernel
theorem dX12_most_189 : decode cX12_most 189 = .ok (.iload_n 3, 1) := by decide +kernel
theorem dX12_most_190 : decode cX12_most 190 = .ok (.i2l, 1) := by decide +kernel
theorem dX12_most_191 : decode cX12_most 191 = .ok (.invokevirtual 253, 3) := by decide +kernel
theorem dX12_most_194 : decode cX12_most 194 = .ok (.aload_n 0, 1) := by decide +kernel
theorem dX12_most_195 : decode cX12_most 195 = .ok (.iload 4, 2) := by decide +kernel
theorem dX12_most_197 : decode cX12_most 197 = .ok (.i2l, 1) := by decide +kernel
theorem dX12_most_198 : decode cX12_most 198 = .ok (.invokevirtual 253, 3) := by decide +kernel
theorem dX12_most_201 : decode cX12_most 201 = .ok (.aload_n 0, 1) := by decide +kernel
theorem dX12_most_202 : decode cX12_most 202 = .ok (.iload 5, 2) := by decide +kernel
theorem dX12_most_204 : decode cX12_most 204 = .ok (.i2l, 1) := by decide +kernel
theorem dX12_most_205 : decode cX12_most 205 = .ok (.invokevirtual 253, 3) := by decide +kernel
theorem dX12_most_208 : decode cX12_most 208 = .ok (.iload_n 2, 1) := by decide +kernel
theorem dX12_most_209 : decode cX12_most 209 = .ok (.ireturn, 1) := by decide +kernel
theorem dX12_layWeighs_0 : decode cX12_layWeighs 0 = .ok (.iconst 0, 1) := by decide +kernel
theorem dX12_layWeighs_1 : decode cX12_layWeighs 1 = .ok (.istore_n 1, 1) := by decide +kernel
theorem dX12_layWeighs_2 : decode cX12_layWeighs 2 = .ok (.iload_n 1, 1) := by decide +kernel
theorem dX12_layWeighs_3 : decode cX12_layWeighs 3 = .ok (.iconst 2, 1) := by decide +kernel
theorem dX12_layWeighs_4 : decode cX12_layWeighs 4 = .ok (.if_icmp .ge 60, 3) := by decide +kernel
theorem dX12_layWeighs_7 : decode cX12_layWeighs 7 = .ok (.iconst 0, 1) := by decide +kernel
theorem dX12_layWeighs_8 : decode cX12_layWeighs 8 = .ok (.istore_n 2, 1) := by decide +kernel
theorem dX12_layWeighs_9 : decode cX12_layWeighs 9 = .ok (.iload_n 2, 1) := by decide +kernel
theorem dX12_layWeighs_10 : decode cX12_layWeighs 10 = .ok (.bipush 32, 2) := by decide +kernel
theorem dX12_layWeighs_12 : decode cX12_layWeighs 12 = .ok (.if_icmp .ge 46, 3) := by decide +kernel
theorem dX12_layWeighs_15 : decode cX12_layWeighs 15 = .ok (.aload_n 0, 1) := by decide +kernel
theorem dX12_layWeighs_16 : decode cX12_layWeighs 16 = .ok (.getfield 57, 3) := by decide +kernel
theorem dX12_layWeighs_19 : decode cX12_layWeighs 19 = .ok (.iload_n 1, 1) := by decide +kernel
theorem dX12_layWeighs_20 : decode cX12_layWeighs 20 = .ok (.iconst 5, 1) := by decide +kernel
theorem dX12_layWeighs_21 : decode cX12_layWeighs 21 = .ok (.ishl, 1) := by decide +kernel
theorem dX12_layWeighs_22 : decode cX12_layWeighs 22 = .ok (.iload_n 2, 1) := by decide +kernel
theorem dX12_layWeighs_23 : decode cX12_layWeighs 23 = .ok (.iadd, 1) := by decide +kernel
theorem dX12_layWeighs_24 : decode cX12_layWeighs 24 = .ok (.iload_n 2, 1) := by decide +kernel
theorem dX12_layWeighs_25 : decode cX12_layWeighs 25 = .ok (.invokestatic 229, 3) := by decide +kernel
theorem dX12_layWeighs_28 : decode cX12_layWeighs 28 = .ok (.aload_n 0, 1) := by decide +kernel
theorem dX12_layWeighs_29 : decode cX12_layWeighs 29 = .ok (.getfield 9, 3) := by decide +kernel
theorem dX12_layWeighs_32 : decode cX12_layWeighs 32 = .ok (.bipush 12, 2) := by decide +kernel
theorem dX12_layWeighs_34 : decode cX12_layWeighs 34 = .ok (.iaload, 1) := by decide +kernel
theorem dX12_layWeighs_35 : decode cX12_layWeighs 35 = .ok (.if_icmp .gt 15, 3) := by decide +kernel
theorem dX12_layWeighs_38 : decode cX12_layWeighs 38 = .ok (.aload_n 0, 1) := by decide +kernel
theorem dX12_layWeighs_39 : decode cX12_layWeighs 39 = .ok (.getfield 9, 3) := by decide +kernel
theorem dX12_layWeighs_42 : decode cX12_layWeighs 42 = .ok (.iload_n 1, 1) := by decide +kernel
theorem dX12_layWeighs_43 : decode cX12_layWeighs 43 = .ok (.iload_n 2, 1) := by decide +kernel
theorem dX12_layWeighs_44 : decode cX12_layWeighs 44 = .ok (.invokestatic 191, 3) := by decide +kernel
theorem dX12_layWeighs_47 : decode cX12_layWeighs 47 = .ok (.goto 4, 3) := by decide +kernel
theorem dX12_layWeighs_50 : decode cX12_layWeighs 50 = .ok (.iconst (-1), 1) := by decide +kernel
theorem dX12_layWeighs_51 : decode cX12_layWeighs 51 = .ok (.iastore, 1) := by decide +kernel
theorem dX12_layWeighs_52 : decode cX12_layWeighs 52 = .ok (.iinc 2 1, 3) := by decide +kernel
theorem dX12_layWeighs_55 : decode cX12_layWeighs 55 = .ok (.goto (-46), 3) := by decide +kernel
theorem dX12_layWeighs_58 : decode cX12_layWeighs 58 = .ok (.iinc 1 1, 3) := by decide +kernel
theorem dX12_layWeighs_61 : decode cX12_layWeighs 61 = .ok (.goto (-59), 3) := by decide +kernel
theorem dX12_layWeighs_64 : decode cX12_layWeighs 64 = .ok (.return_, 1) := by decide +kernel
theorem dX12_leastOf_0 : decode cX12_leastOf 0 = .ok (.ldc_w 300, 3) := by decide +kernel
theorem dX12_leastOf_3 : decode cX12_leastOf 3 = .ok (.istore_n 3, 1) := by decide +kernel
theorem dX12_leastOf_4 : decode cX12_leastOf 4 = .ok (.iconst 0, 1) := by decide +kernel
theorem dX12_leastOf_5 : decode cX12_leastOf 5 = .ok (.istore 4, 2) := by decide +kernel
theorem dX12_leastOf_7 : decode cX12_leastOf 7 = .ok (.iload 4, 2) := by decide +kernel
theorem dX12_leastOf_9 : decode cX12_leastOf 9 = .ok (.bipush 32, 2) := by decide +kernel
theorem dX12_leastOf_11 : decode cX12_leastOf 11 = .ok (.if_icmp .ge 171, 3) := by decide +kernel
theorem dX12_leastOf_14 : decode cX12_leastOf 14 = .ok (.iload 4, 2) := by decide +kernel
theorem dX12_leastOf_16 : decode cX12_leastOf 16 = .ok (.iload_n 1, 1) := by decide +kernel
theorem dX12_leastOf_17 : decode cX12_leastOf 17 = .ok (.iconst (-1), 1) := by decide +kernel
theorem dX12_leastOf_18 : decode cX12_leastOf 18 = .ok (.ixor, 1) := by decide +kernel
theorem dX12_leastOf_19 : decode cX12_leastOf 19 = .ok (.iand, 1) := by decide +kernel
theorem dX12_leastOf_20 : decode cX12_leastOf 20 = .ok (.ifCond .ne 156, 3) := by decide +kernel
theorem dX12_leastOf_23 : decode cX12_leastOf 23 = .ok (.aload_n 0, 1) := by decide +kernel
theorem dX12_leastOf_24 : decode cX12_leastOf 24 = .ok (.getfield 57, 3) := by decide +kernel
theorem dX12_leastOf_27 : decode cX12_leastOf 27 = .ok (.iload 4, 2) := by decide +kernel
theorem dX12_leastOf_29 : decode cX12_leastOf 29 = .ok (.iaload, 1) := by decide +kernel
theorem dX12_leastOf_30 : decode cX12_leastOf 30 = .ok (.ifCond .ge 6, 3) := by decide +kernel
theorem dX12_leastOf_33 : decode cX12_leastOf 33 = .ok (.goto 143, 3) := by decide +kernel
theorem dX12_leastOf_36 : decode cX12_leastOf 36 = .ok (.iconst 0, 1) := by decide +kernel
theorem dX12_leastOf_37 : decode cX12_leastOf 37 = .ok (.istore 5, 2) := by decide +kernel
theorem dX12_leastOf_39 : decode cX12_leastOf 39 = .ok (.iload 5, 2) := by decide +kernel
theorem dX12_leastOf_41 : decode cX12_leastOf 41 = .ok (.bipush 32, 2) := by decide +kernel
theorem dX12_leastOf_43 : decode cX12_leastOf 43 = .ok (.if_icmp .ge 133, 3) := by decide +kernel
theorem dX12_leastOf_46 : decode cX12_leastOf 46 = .ok (.iload 5, 2) := by decide +kernel
theorem dX12_leastOf_48 : decode cX12_leastOf 48 = .ok (.iload_n 1, 1) := by decide +kernel
theorem dX12_leastOf_49 : decode cX12_leastOf 49 = .ok (.iconst 5, 1) := by decide +kernel
theorem dX12_leastOf_50 : decode cX12_leastOf 50 = .ok (.ishr, 1) := by decide +kernel
theorem dX12_leastOf_51 : decode cX12_leastOf 51 = .ok (.iconst (-1), 1) := by decide +kernel
theorem dX12_leastOf_52 : decode cX12_leastOf 52 = .ok (.ixor, 1) := by decide +kernel
theorem dX12_leastOf_53 : decode cX12_leastOf 53 = .ok (.iand, 1) := by decide +kernel
theorem dX12_leastOf_54 : decode cX12_leastOf 54 = .ok (.ifCond .ne 116, 3) := by decide +kernel
theorem dX12_leastOf_57 : decode cX12_leastOf 57 = .ok (.aload_n 0, 1) := by decide +kernel
theorem dX12_leastOf_58 : decode cX12_leastOf 58 = .ok (.getfield 57, 3) := by decide +kernel
theorem dX12_leastOf_61 : decode cX12_leastOf 61 = .ok (.bipush 32, 2) := by decide +kernel
theorem dX12_leastOf_63 : decode cX12_leastOf 63 = .ok (.iload 5, 2) := by decide +kernel
theorem dX12_leastOf_65 : decode cX12_leastOf 65 = .ok (.iadd, 1) := by decide +kernel
theorem dX12_leastOf_66 : decode cX12_leastOf 66 = .ok (.iaload, 1) := by decide +kernel
theorem dX12_leastOf_67 : decode cX12_leastOf 67 = .ok (.ifCond .lt 103, 3) := by decide +kernel
theorem dX12_leastOf_70 : decode cX12_leastOf 70 = .ok (.iload 4, 2) := by decide +kernel
theorem dX12_leastOf_72 : decode cX12_leastOf 72 = .ok (.iload 5, 2) := by decide +kernel
theorem dX12_leastOf_74 : decode cX12_leastOf 74 = .ok (.iadd, 1) := by decide +kernel
theorem dX12_leastOf_75 : decode cX12_leastOf 75 = .ok (.ifCond .ne 6, 3) := by decide +kernel
theorem dX12_leastOf_78 : decode cX12_leastOf 78 = .ok (.goto 92, 3) := by decide +kernel
theorem dX12_leastOf_81 : decode cX12_leastOf 81 = .ok (.iconst 0, 1) := by decide +kernel
theorem dX12_leastOf_82 : decode cX12_leastOf 82 = .ok (.aload_n 0, 1) := by decide +kernel
theorem dX12_leastOf_83 : decode cX12_leastOf 83 = .ok (.getfield 57, 3) := by decide +kernel
theorem dX12_leastOf_86 : decode cX12_leastOf 86 = .ok (.bipush 32, 2) := by decide +kernel
theorem dX12_leastOf_88 : decode cX12_leastOf 88 = .ok (.iload 5, 2) := by decide +kernel
theorem dX12_leastOf_90 : decode cX12_leastOf 90 = .ok (.iadd, 1) := by decide +kernel
theorem dX12_leastOf_91 : decode cX12_leastOf 91 = .ok (.iaload, 1) := by decide +kernel
theorem dX12_leastOf_92 : decode cX12_leastOf 92 = .ok (.aload_n 0, 1) := by decide +kernel
theorem dX12_leastOf_93 : decode cX12_leastOf 93 = .ok (.getfield 9, 3) := by decide +kernel
theorem dX12_leastOf_96 : decode cX12_leastOf 96 = .ok (.bipush 13, 2) := by decide +kernel
theorem dX12_leastOf_98 : decode cX12_leastOf 98 = .ok (.iaload, 1) := by decide +kernel
theorem dX12_leastOf_99 : decode cX12_leastOf 99 = .ok (.iadd, 1) := by decide +kernel
theorem dX12_leastOf_100 : decode cX12_leastOf 100 = .ok (.aload_n 0, 1) := by decide +kernel
theorem dX12_leastOf_101 : decode cX12_leastOf 101 = .ok (.getfield 57, 3) := by decide +kernel
theorem dX12_leastOf_104 : decode cX12_leastOf 104 = .ok (.iload 4, 2) := by decide +kernel
theorem dX12_leastOf_106 : decode cX12_leastOf 106 = .ok (.iaload, 1) := by decide +kernel
theorem dX12_leastOf_107 : decode cX12_leastOf 107 = .ok (.isub, 1) := by decide +kernel
theorem dX12_leastOf_108 : decode cX12_leastOf 108 = .ok (.invokestatic 201, 3) := by decide +kernel
theorem dX12_leastOf_111 : decode cX12_leastOf 111 = .ok (.istore 6, 2) := by decide +kernel
theorem dX12_leastOf_113 : decode cX12_leastOf 113 = .ok (.iload_n 2, 1) := by decide +kernel
theorem dX12_leastOf_114 : decode cX12_leastOf 114 = .ok (.ifCond .eq 11, 3) := by decide +kernel
theorem dX12_leastOf_117 : decode cX12_leastOf 117 = .ok (.iload 6, 2) := by decide +kernel
theorem dX12_leastOf_119 : decode cX12_leastOf 119 = .ok (.ifCond .le 6, 3) := by decide +kernel
theorem dX12_leastOf_122 : decode cX12_leastOf 122 = .ok (.goto 48, 3) := by decide +kernel
theorem dX12_leastOf_125 : decode cX12_leastOf 125 = .ok (.iload 6, 2) := by decide +kernel
theorem dX12_leastOf_127 : decode cX12_leastOf 127 = .ok (.aload_n 0, 1) := by decide +kernel
theorem dX12_leastOf_128 : decode cX12_leastOf 128 = .ok (.getfield 51, 3) := by decide +kernel
theorem dX12_leastOf_131 : decode cX12_leastOf 131 = .ok (.iload_n 1, 1) := by decide +kernel
theorem dX12_leastOf_132 : decode cX12_leastOf 132 = .ok (.iload 4, 2) := by decide +kernel
theorem dX12_leastOf_134 : decode cX12_leastOf 134 = .ok (.iload 5, 2) := by decide +kernel
theorem dX12_leastOf_136 : decode cX12_leastOf 136 = .ok (.iconst 5, 1) := by decide +kernel
theorem dX12_leastOf_137 : decode cX12_leastOf 137 = .ok (.ishl, 1) := by decide +kernel
theorem dX12_leastOf_138 : decode cX12_leastOf 138 = .ok (.ior, 1) := by decide +kernel
theorem dX12_leastOf_139 : decode cX12_leastOf 139 = .ok (.iconst (-1), 1) := by decide +kernel
theorem dX12_leastOf_140 : decode cX12_leastOf 140 = .ok (.ixor, 1) := by decide +kernel
theorem dX12_leastOf_141 : decode cX12_leastOf 141 = .ok (.iand, 1) := by decide +kernel
theorem dX12_leastOf_142 : decode cX12_leastOf 142 = .ok (.iaload, 1) := by decide +kernel
theorem dX12_leastOf_143 : decode cX12_leastOf 143 = .ok (.iadd, 1) := by decide +kernel
theorem dX12_leastOf_144 : decode cX12_leastOf 144 = .ok (.istore 7, 2) := by decide +kernel
theorem dX12_leastOf_146 : decode cX12_leastOf 146 = .ok (.iload 7, 2) := by decide +kernel
theorem dX12_leastOf_148 : decode cX12_leastOf 148 = .ok (.iload_n 3, 1) := by decide +kernel
theorem dX12_leastOf_149 : decode cX12_leastOf 149 = .ok (.if_icmp .lt 6, 3) := by decide +kernel
theorem dX12_leastOf_152 : decode cX12_leastOf 152 = .ok (.goto 18, 3) := by decide +kernel
theorem dX12_leastOf_155 : decode cX12_leastOf 155 = .ok (.iload 7, 2) := by decide +kernel
theorem dX12_leastOf_157 : decode cX12_leastOf 157 = .ok (.istore_n 3, 1) := by decide +kernel
theorem dX12_leastOf_158 : decode cX12_leastOf 158 = .ok (.aload_n 0, 1) := by decide +kernel
theorem dX12_leastOf_159 : decode cX12_leastOf 159 = .ok (.iload 4, 2) := by decide +kernel
theorem dX12_leastOf_161 : decode cX12_leastOf 161 = .ok (.putfield 301, 3) := by decide +kernel
theorem dX12_leastOf_164 : decode cX12_leastOf 164 = .ok (.aload_n 0, 1) := by decide +kernel
theorem dX12_leastOf_165 : decode cX12_leastOf 165 = .ok (.iload 5, 2) := by decide +kernel
theorem dX12_leastOf_167 : decode cX12_leastOf 167 = .ok (.putfield 304, 3) := by decide +kernel
theorem dX12_leastOf_170 : decode cX12_leastOf 170 = .ok (.iinc 5 1, 3) := by decide +kernel
theorem dX12_leastOf_173 : decode cX12_leastOf 173 = .ok (.goto (-134), 3) := by decide +kernel
theorem dX12_leastOf_176 : decode cX12_leastOf 176 = .ok (.iinc 4 1, 3) := by decide +kernel
theorem dX12_leastOf_179 : decode cX12_leastOf 179 = .ok (.goto (-172), 3) := by decide +kernel
theorem dX12_leastOf_182 : decode cX12_leastOf 182 = .ok (.iload_n 3, 1) := by decide +kernel
theorem dX12_leastOf_183 : decode cX12_leastOf 183 = .ok (.ireturn, 1) := by decide +kernel
theorem dX12_whole_0 : decode cX12_whole 0 = .ok (.aload_n 0, 1) := by decide +kernel
theorem dX12_whole_1 : decode cX12_whole 1 = .ok (.getfield 9, 3) := by decide +kernel
theorem dX12_whole_4 : decode cX12_whole 4 = .ok (.iconst 0, 1) := by decide +kernel
theorem dX12_whole_5 : decode cX12_whole 5 = .ok (.invokestatic 187, 3) := by decide +kernel
theorem dX12_whole_8 : decode cX12_whole 8 = .ok (.aload_n 0, 1) := by decide +kernel
theorem dX12_whole_9 : decode cX12_whole 9 = .ok (.getfield 9, 3) := by decide +kernel
theorem dX12_whole_12 : decode cX12_whole 12 = .ok (.iconst 1, 1) := by decide +kernel
theorem dX12_whole_13 : decode cX12_whole 13 = .ok (.invokestatic 187, 3) := by decide +kernel
theorem dX12_whole_16 : decode cX12_whole 16 = .ok (.iconst 5, 1) := by decide +kernel
theorem dX12_whole_17 : decode cX12_whole 17 = .ok (.ishl, 1) := by decide +kernel
theorem dX12_whole_18 : decode cX12_whole 18 = .ok (.ior, 1) := by decide +kernel
theorem dX12_whole_19 : decode cX12_whole 19 = .ok (.ireturn, 1) := by decide +kernel
theorem dX12_layNone_0 : decode cX12_layNone 0 = .ok (.aload_n 0, 1) := by decide +kernel
theorem dX12_layNone_1 : decode cX12_layNone 1 = .ok (.invokevirtual 307, 3) := by decide +kernel
theorem dX12_layNone_4 : decode cX12_layNone 4 = .ok (.iconst 0, 1) := by decide +kernel
theorem dX12_layNone_5 : decode cX12_layNone 5 = .ok (.istore_n 1, 1) := by decide +kernel
theorem dX12_layNone_6 : decode cX12_layNone 6 = .ok (.iload_n 1, 1) := by decide +kernel
theorem dX12_layNone_7 : decode cX12_layNone 7 = .ok (.sipush 1024, 3) := by decide +kernel
theorem dX12_layNone_10 : decode cX12_layNone 10 = .ok (.if_icmp .ge 26, 3) := by decide +kernel
theorem dX12_layNone_13 : decode cX12_layNone 13 = .ok (.aload_n 0, 1) := by decide +kernel
theorem dX12_layNone_14 : decode cX12_layNone 14 = .ok (.getfield 51, 3) := by decide +kernel
theorem dX12_layNone_17 : decode cX12_layNone 17 = .ok (.iload_n 1, 1) := by decide +kernel
theorem dX12_layNone_18 : decode cX12_layNone 18 = .ok (.iload_n 1, 1) := by decide +kernel
theorem dX12_layNone_19 : decode cX12_layNone 19 = .ok (.ifCond .ne 7, 3) := by decide +kernel
theorem dX12_layNone_22 : decode cX12_layNone 22 = .ok (.iconst 0, 1) := by decide +kernel
theorem dX12_layNone_23 : decode cX12_layNone 23 = .ok (.goto 6, 3) := by decide +kernel
theorem dX12_layNone_26 : decode cX12_layNone 26 = .ok (.ldc_w 300, 3) := by decide +kernel
theorem dX12_layNone_29 : decode cX12_layNone 29 = .ok (.iastore, 1) := by decide +kernel
theorem dX12_layNone_30 : decode cX12_layNone 30 = .ok (.iinc 1 1, 3) := by decide +kernel
theorem dX12_layNone_33 : decode cX12_layNone 33 = .ok (.goto (-27), 3) := by decide +kernel
theorem dX12_layNone_36 : decode cX12_layNone 36 = .ok (.return_, 1) := by decide +kernel
theorem dX12_layMore_0 : decode cX12_layMore 0 = .ok (.aload_n 0, 1) := by decide +kernel
theorem dX12_layMore_1 : decode cX12_layMore 1 = .ok (.invokevirtual 310, 3) := by decide +kernel
theorem dX12_layMore_4 : decode cX12_layMore 4 = .ok (.istore_n 2, 1) := by decide +kernel
theorem dX12_layMore_5 : decode cX12_layMore 5 = .ok (.iconst 0, 1) := by decide +kernel
theorem dX12_layMore_6 : decode cX12_layMore 6 = .ok (.istore_n 3, 1) := by decide +kernel
theorem dX12_layMore_7 : decode cX12_layMore 7 = .ok (.iload_n 3, 1) := by decide +kernel
theorem dX12_layMore_8 : decode cX12_layMore 8 = .ok (.sipush 1024, 3) := by decide +kernel
theorem dX12_layMore_11 : decode cX12_layMore 11 = .ok (.if_icmp .ge 35, 3) := by decide +kernel
theorem dX12_layMore_14 : decode cX12_layMore 14 = .ok (.aload_n 0, 1) := by decide +kernel
theorem dX12_layMore_15 : decode cX12_layMore 15 = .ok (.getfield 54, 3) := by decide +kernel
theorem dX12_layMore_18 : decode cX12_layMore 18 = .ok (.iload_n 3, 1) := by decide +kernel
theorem dX12_layMore_19 : decode cX12_layMore 19 = .ok (.iload_n 3, 1) := by decide +kernel
theorem dX12_layMore_20 : decode cX12_layMore 20 = .ok (.iload_n 2, 1) := by decide +kernel
theorem dX12_layMore_21 : decode cX12_layMore 21 = .ok (.iconst (-1), 1) := by decide +kernel
theorem dX12_layMore_22 : decode cX12_layMore 22 = .ok (.ixor, 1) := by decide +kernel
theorem dX12_layMore_23 : decode cX12_layMore 23 = .ok (.iand, 1) := by decide +kernel
theorem dX12_layMore_24 : decode cX12_layMore 24 = .ok (.ifCond .ne 12, 3) := by decide +kernel
theorem dX12_layMore_27 : decode cX12_layMore 27 = .ok (.aload_n 0, 1) := by decide +kernel
theorem dX12_layMore_28 : decode cX12_layMore 28 = .ok (.iload_n 3, 1) := by decide +kernel
theorem dX12_layMore_29 : decode cX12_layMore 29 = .ok (.iload_n 1, 1) := by decide +kernel
theorem dX12_layMore_30 : decode cX12_layMore 30 = .ok (.invokevirtual 313, 3) := by decide +kernel
theorem dX12_layMore_33 : decode cX12_layMore 33 = .ok (.goto 6, 3) := by decide +kernel
theorem dX12_layMore_36 : decode cX12_layMore 36 = .ok (.ldc_w 300, 3) := by decide +kernel
theorem dX12_layMore_39 : decode cX12_layMore 39 = .ok (.iastore, 1) := by decide +kernel
theorem dX12_layMore_40 : decode cX12_layMore 40 = .ok (.iinc 3 1, 3) := by decide +kernel
theorem dX12_layMore_43 : decode cX12_layMore 43 = .ok (.goto (-36), 3) := by decide +kernel
theorem dX12_layMore_46 : decode cX12_layMore 46 = .ok (.iconst 0, 1) := by decide +kernel
theorem dX12_layMore_47 : decode cX12_layMore 47 = .ok (.istore_n 3, 1) := by decide +kernel
theorem dX12_layMore_48 : decode cX12_layMore 48 = .ok (.iload_n 3, 1) := by decide +kernel
theorem dX12_layMore_49 : decode cX12_layMore 49 = .ok (.sipush 1024, 3) := by decide +kernel
theorem dX12_layMore_52 : decode cX12_layMore 52 = .ok (.if_icmp .ge 21, 3) := by decide +kernel
theorem dX12_layMore_55 : decode cX12_layMore 55 = .ok (.aload_n 0, 1) := by decide +kernel
theorem dX12_layMore_56 : decode cX12_layMore 56 = .ok (.getfield 51, 3) := by decide +kernel
theorem dX12_layMore_59 : decode cX12_layMore 59 = .ok (.iload_n 3, 1) := by decide +kernel
theorem dX12_layMore_60 : decode cX12_layMore 60 = .ok (.aload_n 0, 1) := by decide +kernel
theorem dX12_layMore_61 : decode cX12_layMore 61 = .ok (.getfield 54, 3) := by decide +kernel
theorem dX12_layMore_64 : decode cX12_layMore 64 = .ok (.iload_n 3, 1) := by decide +kernel
theorem dX12_layMore_65 : decode cX12_layMore 65 = .ok (.iaload, 1) := by decide +kernel
theorem dX12_layMore_66 : decode cX12_layMore 66 = .ok (.iastore, 1) := by decide +kernel
theorem dX12_layMore_67 : decode cX12_layMore 67 = .ok (.iinc 3 1, 3) := by decide +kernel
theorem dX12_layMore_70 : decode cX12_layMore 70 = .ok (.goto (-22), 3) := by decide +kernel
theorem dX12_layMore_73 : decode cX12_layMore 73 = .ok (.return_, 1) := by decide +kernel
theorem dX12_tellFirst_0 : decode cX12_tellFirst 0 = .ok (.aload_n 0, 1) := by decide +kernel
theorem dX12_tellFirst_1 : decode cX12_tellFirst 1 = .ok (.iconst 0, 1) := by decide +kernel
theorem dX12_tellFirst_2 : decode cX12_tellFirst 2 = .ok (.putfield 86, 3) := by decide +kernel
theorem dX12_tellFirst_5 : decode cX12_tellFirst 5 = .ok (.aload_n 0, 1) := by decide +kernel
theorem dX12_tellFirst_6 : decode cX12_tellFirst 6 = .ok (.aload_n 0, 1) := by decide +kernel
theorem dX12_tellFirst_7 : decode cX12_tellFirst 7 = .ok (.getfield 301, 3) := by decide +kernel
theorem dX12_tellFirst_10 : decode cX12_tellFirst 10 = .ok (.i2l, 1) := by decide +kernel
theorem dX12_tellFirst_11 : decode cX12_tellFirst 11 = .ok (.invokevirtual 253, 3) := by decide +kernel
theorem dX12_tellFirst_14 : decode cX12_tellFirst 14 = .ok (.aload_n 0, 1) := by decide +kernel
theorem dX12_tellFirst_15 : decode cX12_tellFirst 15 = .ok (.aload_n 0, 1) := by decide +kernel
theorem dX12_tellFirst_16 : decode cX12_tellFirst 16 = .ok (.getfield 304, 3) := by decide +kernel
theorem dX12_tellFirst_19 : decode cX12_tellFirst 19 = .ok (.i2l, 1) := by decide +kernel
theorem dX12_tellFirst_20 : decode cX12_tellFirst 20 = .ok (.invokevirtual 253, 3) := by decide +kernel
theorem dX12_tellFirst_23 : decode cX12_tellFirst 23 = .ok (.iload_n 1, 1) := by decide +kernel
theorem dX12_tellFirst_24 : decode cX12_tellFirst 24 = .ok (.ireturn, 1) := by decide +kernel
theorem dX12_least_0 : decode cX12_least 0 = .ok (.aload_n 0, 1) := by decide +kernel
theorem dX12_least_1 : decode cX12_least 1 = .ok (.iconst 0, 1) := by decide +kernel
theorem dX12_least_2 : decode cX12_least 2 = .ok (.putfield 82, 3) := by decide +kernel
theorem dX12_least_5 : decode cX12_least 5 = .ok (.iload_n 1, 1) := by decide +kernel
theorem dX12_least_6 : decode cX12_least 6 = .ok (.iconst 1, 1) := by decide +kernel
theorem dX12_least_7 : decode cX12_least 7 = .ok (.iconst 5, 1) := by decide +kernel
theorem dX12_least_8 : decode cX12_least 8 = .ok (.invokestatic 89, 3) := by decide +kernel
theorem dX12_least_11 : decode cX12_least 11 = .ok (.ifCond .ne 5, 3) := by decide +kernel
theorem dX12_least_14 : decode cX12_least 14 = .ok (.iconst (-1), 1) := by decide +kernel
theorem dX12_least_15 : decode cX12_least 15 = .ok (.ireturn, 1) := by decide +kernel
theorem dX12_least_16 : decode cX12_least 16 = .ok (.aload_n 0, 1) := by decide +kernel
theorem dX12_least_17 : decode cX12_least 17 = .ok (.invokevirtual 317, 3) := by decide +kernel
theorem dX12_least_20 : decode cX12_least 20 = .ok (.iconst 1, 1) := by decide +kernel
theorem dX12_least_21 : decode cX12_least 21 = .ok (.istore_n 2, 1) := by decide +kernel
theorem dX12_least_22 : decode cX12_least 22 = .ok (.iload_n 2, 1) := by decide +kernel
theorem dX12_least_23 : decode cX12_least 23 = .ok (.iload_n 1, 1) := by decide +kernel
theorem dX12_least_24 : decode cX12_least 24 = .ok (.if_icmp .ge 14, 3) := by decide +kernel
theorem dX12_least_27 : decode cX12_least 27 = .ok (.aload_n 0, 1) := by decide +kernel
theorem dX12_least_28 : decode cX12_least 28 = .ok (.iconst 0, 1) := by decide +kernel
theorem dX12_least_29 : decode cX12_least 29 = .ok (.invokevirtual 320, 3) := by decide +kernel
theorem dX12_least_32 : decode cX12_least 32 = .ok (.iinc 2 1, 3) := by decide +kernel
theorem dX12_least_35 : decode cX12_least 35 = .ok (.goto (-13), 3) := by decide +kernel
theorem dX12_least_38 : decode cX12_least 38 = .ok (.aload_n 0, 1) := by decide +kernel
theorem dX12_least_39 : decode cX12_least 39 = .ok (.aload_n 0, 1) := by decide +kernel
theorem dX12_least_40 : decode cX12_least 40 = .ok (.invokevirtual 310, 3) := by decide +kernel
theorem dX12_least_43 : decode cX12_least 43 = .ok (.iconst 0, 1) := by decide +kernel
theorem dX12_least_44 : decode cX12_least 44 = .ok (.invokevirtual 313, 3) := by decide +kernel
theorem dX12_least_47 : decode cX12_least 47 = .ok (.istore_n 2, 1) := by decide +kernel
theorem dX12_least_48 : decode cX12_least 48 = .ok (.iload_n 2, 1) := by decide +kernel
theorem dX12_least_49 : decode cX12_least 49 = .ok (.ldc_w 300, 3) := by decide +kernel
theorem dX12_least_52 : decode cX12_least 52 = .ok (.if_icmp .lt 8, 3) := by decide +kernel
theorem dX12_least_55 : decode cX12_least 55 = .ok (.bipush (-2), 2) := by decide +kernel
theorem dX12_least_57 : decode cX12_least 57 = .ok (.goto 8, 3) := by decide +kernel
theorem dX12_least_60 : decode cX12_least 60 = .ok (.aload_n 0, 1) := by decide +kernel
theorem dX12_least_61 : decode cX12_least 61 = .ok (.iload_n 2, 1) := by decide +kernel
theorem dX12_least_62 : decode cX12_least 62 = .ok (.invokevirtual 324, 3) := by decide +kernel
theorem dX12_least_65 : decode cX12_least 65 = .ok (.ireturn, 1) := by decide +kernel
theorem dX12_freely_0 : decode cX12_freely 0 = .ok (.aload_n 0, 1) := by decide +kernel
theorem dX12_freely_1 : decode cX12_freely 1 = .ok (.iconst 0, 1) := by decide +kernel
theorem dX12_freely_2 : decode cX12_freely 2 = .ok (.putfield 82, 3) := by decide +kernel
theorem dX12_freely_5 : decode cX12_freely 5 = .ok (.aload_n 0, 1) := by decide +kernel
theorem dX12_freely_6 : decode cX12_freely 6 = .ok (.getfield 9, 3) := by decide +kernel
theorem dX12_freely_9 : decode cX12_freely 9 = .ok (.invokestatic 240, 3) := by decide +kernel
theorem dX12_freely_12 : decode cX12_freely 12 = .ok (.ifCond .ne 10, 3) := by decide +kernel
theorem dX12_freely_15 : decode cX12_freely 15 = .ok (.aload_n 0, 1) := by decide +kernel
theorem dX12_freely_16 : decode cX12_freely 16 = .ok (.iconst 0, 1) := by decide +kernel
theorem dX12_freely_17 : decode cX12_freely 17 = .ok (.putfield 86, 3) := by decide +kernel
theorem dX12_freely_20 : decode cX12_freely 20 = .ok (.iconst 0, 1) := by decide +kernel
theorem dX12_freely_21 : decode cX12_freely 21 = .ok (.ireturn, 1) := by decide +kernel
theorem dX12_freely_22 : decode cX12_freely 22 = .ok (.aload_n 0, 1) := by decide +kernel
theorem dX12_freely_23 : decode cX12_freely 23 = .ok (.invokevirtual 317, 3) := by decide +kernel
theorem dX12_freely_26 : decode cX12_freely 26 = .ok (.iconst 1, 1) := by decide +kernel
theorem dX12_freely_27 : decode cX12_freely 27 = .ok (.istore_n 1, 1) := by decide +kernel
theorem dX12_freely_28 : decode cX12_freely 28 = .ok (.iload_n 1, 1) := by decide +kernel
theorem dX12_freely_29 : decode cX12_freely 29 = .ok (.aload_n 0, 1) := by decide +kernel
theorem dX12_freely_30 : decode cX12_freely 30 = .ok (.getfield 9, 3) := by decide +kernel
theorem dX12_freely_33 : decode cX12_freely 33 = .ok (.invokestatic 240, 3) := by decide +kernel
theorem dX12_freely_36 : decode cX12_freely 36 = .ok (.if_icmp .gt 35, 3) := by decide +kernel
theorem dX12_freely_39 : decode cX12_freely 39 = .ok (.aload_n 0, 1) := by decide +kernel
theorem dX12_freely_40 : decode cX12_freely 40 = .ok (.aload_n 0, 1) := by decide +kernel
theorem dX12_freely_41 : decode cX12_freely 41 = .ok (.invokevirtual 310, 3) := by decide +kernel
theorem dX12_freely_44 : decode cX12_freely 44 = .ok (.iconst 1, 1) := by decide +kernel
theorem dX12_freely_45 : decode cX12_freely 45 = .ok (.invokevirtual 313, 3) := by decide +kernel
theorem dX12_freely_48 : decode cX12_freely 48 = .ok (.ldc_w 300, 3) := by decide +kernel
theorem dX12_freely_51 : decode cX12_freely 51 = .ok (.if_icmp .ge 9, 3) := by decide +kernel
theorem dX12_freely_54 : decode cX12_freely 54 = .ok (.aload_n 0, 1) := by decide +kernel
theorem dX12_freely_55 : decode cX12_freely 55 = .ok (.iload_n 1, 1) := by decide +kernel
theorem dX12_freely_56 : decode cX12_freely 56 = .ok (.invokevirtual 324, 3) := by decide +kernel
theorem dX12_freely_59 : decode cX12_freely 59 = .ok (.ireturn, 1) := by decide +kernel
theorem dX12_freely_60 : decode cX12_freely 60 = .ok (.aload_n 0, 1) := by decide +kernel
theorem dX12_freely_61 : decode cX12_freely 61 = .ok (.iconst 1, 1) := by decide +kernel
theorem dX12_freely_62 : decode cX12_freely 62 = .ok (.invokevirtual 320, 3) := by decide +kernel
theorem dX12_freely_65 : decode cX12_freely 65 = .ok (.iinc 1 1, 3) := by decide +kernel
theorem dX12_freely_68 : decode cX12_freely 68 = .ok (.goto (-40), 3) := by decide +kernel
theorem dX12_freely_71 : decode cX12_freely 71 = .ok (.bipush (-2), 2) := by decide +kernel
theorem dX12_freely_73 : decode cX12_freely 73 = .ok (.ireturn, 1) := by decide +kernel
theorem dX12_allWater_0 : decode cX12_allWater 0 = .ok (.iconst 0, 1) := by decide +kernel
theorem dX12_allWater_1 : decode cX12_allWater 1 = .ok (.istore_n 2, 1) := by decide +kernel
theorem dX12_allWater_2 : decode cX12_allWater 2 = .ok (.aload_n 1, 1) := by decide +kernel
theorem dX12_allWater_3 : decode cX12_allWater 3 = .ok (.invokestatic 240, 3) := by decide +kernel
theorem dX12_allWater_6 : decode cX12_allWater 6 = .ok (.ifCond .le 39, 3) := by decide +kernel
theorem dX12_allWater_9 : decode cX12_allWater 9 = .ok (.iload_n 2, 1) := by decide +kernel
theorem dX12_allWater_10 : decode cX12_allWater 10 = .ok (.aload_n 1, 1) := by decide +kernel
theorem dX12_allWater_11 : decode cX12_allWater 11 = .ok (.invokestatic 243, 3) := by decide +kernel
theorem dX12_allWater_14 : decode cX12_allWater 14 = .ok (.iadd, 1) := by decide +kernel
theorem dX12_allWater_15 : decode cX12_allWater 15 = .ok (.istore_n 2, 1) := by decide +kernel
theorem dX12_allWater_16 : decode cX12_allWater 16 = .ok (.aload_n 1, 1) := by decide +kernel
theorem dX12_allWater_17 : decode cX12_allWater 17 = .ok (.iconst 0, 1) := by decide +kernel
theorem dX12_allWater_18 : decode cX12_allWater 18 = .ok (.invokestatic 234, 3) := by decide +kernel
theorem dX12_allWater_21 : decode cX12_allWater 21 = .ok (.istore_n 3, 1) := by decide +kernel
theorem dX12_allWater_22 : decode cX12_allWater 22 = .ok (.aload_n 1, 1) := by decide +kernel
theorem dX12_allWater_23 : decode cX12_allWater 23 = .ok (.iconst 1, 1) := by decide +kernel
theorem dX12_allWater_24 : decode cX12_allWater 24 = .ok (.invokestatic 234, 3) := by decide +kernel
theorem dX12_allWater_27 : decode cX12_allWater 27 = .ok (.istore 4, 2) := by decide +kernel
theorem dX12_allWater_29 : decode cX12_allWater 29 = .ok (.aload_n 1, 1) := by decide +kernel
theorem dX12_allWater_30 : decode cX12_allWater 30 = .ok (.iconst 0, 1) := by decide +kernel
theorem dX12_allWater_31 : decode cX12_allWater 31 = .ok (.iload_n 3, 1) := by decide +kernel
theorem dX12_allWater_32 : decode cX12_allWater 32 = .ok (.invokestatic 221, 3) := by decide +kernel
theorem dX12_allWater_35 : decode cX12_allWater 35 = .ok (.aload_n 1, 1) := by decide +kernel
theorem dX12_allWater_36 : decode cX12_allWater 36 = .ok (.iconst 1, 1) := by decide +kernel
theorem dX12_allWater_37 : decode cX12_allWater 37 = .ok (.iload 4, 2) := by decide +kernel
theorem dX12_allWater_39 : decode cX12_allWater 39 = .ok (.invokestatic 221, 3) := by decide +kernel
theorem dX12_allWater_42 : decode cX12_allWater 42 = .ok (.goto (-40), 3) := by decide +kernel
theorem dX12_allWater_45 : decode cX12_allWater 45 = .ok (.iload_n 2, 1) := by decide +kernel
theorem dX12_allWater_46 : decode cX12_allWater 46 = .ok (.ireturn, 1) := by decide +kernel
theorem dX12_best_0 : decode cX12_best 0 = .ok (.aload_n 0, 1) := by decide +kernel
theorem dX12_best_1 : decode cX12_best 1 = .ok (.iconst 0, 1) := by decide +kernel
theorem dX12_best_2 : decode cX12_best 2 = .ok (.putfield 82, 3) := by decide +kernel
theorem dX12_best_5 : decode cX12_best 5 = .ok (.ldc_w 300, 3) := by decide +kernel
theorem dX12_best_8 : decode cX12_best 8 = .ok (.istore_n 1, 1) := by decide +kernel
theorem dX12_best_9 : decode cX12_best 9 = .ok (.iconst (-1), 1) := by decide +kernel
theorem dX12_best_10 : decode cX12_best 10 = .ok (.istore_n 2, 1) := by decide +kernel
theorem dX12_best_11 : decode cX12_best 11 = .ok (.iconst (-1), 1) := by decide +kernel
theorem dX12_best_12 : decode cX12_best 12 = .ok (.istore_n 3, 1) := by decide +kernel
theorem dX12_best_13 : decode cX12_best 13 = .ok (.iconst (-1), 1) := by decide +kernel
theorem dX12_best_14 : decode cX12_best 14 = .ok (.istore 4, 2) := by decide +kernel
theorem dX12_best_16 : decode cX12_best 16 = .ok (.iconst 0, 1) := by decide +kernel
theorem dX12_best_17 : decode cX12_best 17 = .ok (.istore 5, 2) := by decide +kernel
theorem dX12_best_19 : decode cX12_best 19 = .ok (.iload 5, 2) := by decide +kernel
theorem dX12_best_21 : decode cX12_best 21 = .ok (.iconst 2, 1) := by decide +kernel
theorem dX12_best_22 : decode cX12_best 22 = .ok (.if_icmp .ge 125, 3) := by decide +kernel
theorem dX12_best_25 : decode cX12_best 25 = .ok (.iconst 0, 1) := by decide +kernel
theorem dX12_best_26 : decode cX12_best 26 = .ok (.istore 6, 2) := by decide +kernel
theorem dX12_best_28 : decode cX12_best 28 = .ok (.iload 6, 2) := by decide +kernel
theorem dX12_best_30 : decode cX12_best 30 = .ok (.aload_n 0, 1) := by decide +kernel
theorem dX12_best_31 : decode cX12_best 31 = .ok (.getfield 9, 3) := by decide +kernel
theorem dX12_best_34 : decode cX12_best 34 = .ok (.bipush 10, 2) := by decide +kernel
theorem dX12_best_36 : decode cX12_best 36 = .ok (.iload 5, 2) := by decide +kernel
theorem dX12_best_38 : decode cX12_best 38 = .ok (.iadd, 1) := by decide +kernel
theorem dX12_best_39 : decode cX12_best 39 = .ok (.iaload, 1) := by decide +kernel
theorem dX12_best_40 : decode cX12_best 40 = .ok (.if_icmp .ge 101, 3) := by decide +kernel
theorem dX12_best_43 : decode cX12_best 43 = .ok (.iload 6, 2) := by decide +kernel
theorem dX12_best_45 : decode cX12_best 45 = .ok (.iconst 1, 1) := by decide +kernel
theorem dX12_best_46 : decode cX12_best 46 = .ok (.iadd, 1) := by decide +kernel
theorem dX12_best_47 : decode cX12_best 47 = .ok (.istore 7, 2) := by decide +kernel
theorem dX12_best_49 : decode cX12_best 49 = .ok (.iload 7, 2) := by decide +kernel
theorem dX12_best_51 : decode cX12_best 51 = .ok (.aload_n 0, 1) := by decide +kernel
theorem dX12_best_52 : decode cX12_best 52 = .ok (.getfield 9, 3) := by decide +kernel
theorem dX12_best_55 : decode cX12_best 55 = .ok (.bipush 10, 2) := by decide +kernel
theorem dX12_best_57 : decode cX12_best 57 = .ok (.iload 5, 2) := by decide +kernel
theorem dX12_best_59 : decode cX12_best 59 = .ok (.iadd, 1) := by decide +kernel
theorem dX12_best_60 : decode cX12_best 60 = .ok (.iaload, 1) := by decide +kernel
theorem dX12_best_61 : decode cX12_best 61 = .ok (.if_icmp .ge 74, 3) := by decide +kernel
theorem dX12_best_64 : decode cX12_best 64 = .ok (.aload_n 0, 1) := by decide +kernel
theorem dX12_best_65 : decode cX12_best 65 = .ok (.getfield 9, 3) := by decide +kernel
theorem dX12_best_68 : decode cX12_best 68 = .ok (.aload_n 0, 1) := by decide +kernel
theorem dX12_best_69 : decode cX12_best 69 = .ok (.getfield 42, 3) := by decide +kernel
theorem dX12_best_72 : decode cX12_best 72 = .ok (.iconst 0, 1) := by decide +kernel
theorem dX12_best_73 : decode cX12_best 73 = .ok (.invokestatic 210, 3) := by decide +kernel
theorem dX12_best_76 : decode cX12_best 76 = .ok (.aload_n 0, 1) := by decide +kernel
theorem dX12_best_77 : decode cX12_best 77 = .ok (.getfield 42, 3) := by decide +kernel
theorem dX12_best_80 : decode cX12_best 80 = .ok (.iconst 5, 1) := by decide +kernel
theorem dX12_best_81 : decode cX12_best 81 = .ok (.iload 5, 2) := by decide +kernel
theorem dX12_best_83 : decode cX12_best 83 = .ok (.imul, 1) := by decide +kernel
theorem dX12_best_84 : decode cX12_best 84 = .ok (.iload 6, 2) := by decide +kernel
theorem dX12_best_86 : decode cX12_best 86 = .ok (.iadd, 1) := by decide +kernel
theorem dX12_best_87 : decode cX12_best 87 = .ok (.iconst 5, 1) := by decide +kernel
theorem dX12_best_88 : decode cX12_best 88 = .ok (.iload 5, 2) := by decide +kernel
theorem dX12_best_90 : decode cX12_best 90 = .ok (.imul, 1) := by decide +kernel
theorem dX12_best_91 : decode cX12_best 91 = .ok (.iload 7, 2) := by decide +kernel
theorem dX12_best_93 : decode cX12_best 93 = .ok (.iadd, 1) := by decide +kernel
theorem dX12_best_94 : decode cX12_best 94 = .ok (.invokestatic 288, 3) := by decide +kernel
theorem dX12_best_97 : decode cX12_best 97 = .ok (.aload_n 0, 1) := by decide +kernel
theorem dX12_best_98 : decode cX12_best 98 = .ok (.aload_n 0, 1) := by decide +kernel
theorem dX12_best_99 : decode cX12_best 99 = .ok (.getfield 42, 3) := by decide +kernel
theorem dX12_best_102 : decode cX12_best 102 = .ok (.invokevirtual 327, 3) := by decide +kernel
theorem dX12_best_105 : decode cX12_best 105 = .ok (.istore 8, 2) := by decide +kernel
theorem dX12_best_107 : decode cX12_best 107 = .ok (.iload 8, 2) := by decide +kernel
theorem dX12_best_109 : decode cX12_best 109 = .ok (.iload_n 1, 1) := by decide +kernel
theorem dX12_best_110 : decode cX12_best 110 = .ok (.if_icmp .lt 6, 3) := by decide +kernel
theorem dX12_best_113 : decode cX12_best 113 = .ok (.goto 16, 3) := by decide +kernel
theorem dX12_best_116 : decode cX12_best 116 = .ok (.iload 8, 2) := by decide +kernel
theorem dX12_best_118 : decode cX12_best 118 = .ok (.istore_n 1, 1) := by decide +kernel
theorem dX12_best_119 : decode cX12_best 119 = .ok (.iload 5, 2) := by decide +kernel
theorem dX12_best_121 : decode cX12_best 121 = .ok (.istore_n 2, 1) := by decide +kernel
theorem dX12_best_122 : decode cX12_best 122 = .ok (.iload 6, 2) := by decide +kernel
theorem dX12_best_124 : decode cX12_best 124 = .ok (.istore_n 3, 1) := by decide +kernel
theorem dX12_best_125 : decode cX12_best 125 = .ok (.iload 7, 2) := by decide +kernel
theorem dX12_best_127 : decode cX12_best 127 = .ok (.istore 4, 2) := by decide +kernel
theorem dX12_best_129 : decode cX12_best 129 = .ok (.iinc 7 1, 3) := by decide +kernel
theorem dX12_best_132 : decode cX12_best 132 = .ok (.goto (-83), 3) := by decide +kernel
theorem dX12_best_135 : decode cX12_best 135 = .ok (.iinc 6 1, 3) := by decide +kernel
theorem dX12_best_138 : decode cX12_best 138 = .ok (.goto (-110), 3) := by decide +kernel
theorem dX12_best_141 : decode cX12_best 141 = .ok (.iinc 5 1, 3) := by decide +kernel
theorem dX12_best_144 : decode cX12_best 144 = .ok (.goto (-125), 3) := by decide +kernel
theorem dX12_best_147 : decode cX12_best 147 = .ok (.iload_n 2, 1) := by decide +kernel
theorem dX12_best_148 : decode cX12_best 148 = .ok (.iconst (-1), 1) := by decide +kernel
theorem dX12_best_149 : decode cX12_best 149 = .ok (.if_icmp .ne 6, 3) := by decide +kernel
theorem dX12_best_152 : decode cX12_best 152 = .ok (.bipush (-2), 2) := by decide +kernel
theorem dX12_best_154 : decode cX12_best 154 = .ok (.ireturn, 1) := by decide +kernel
theorem dX12_best_155 : decode cX12_best 155 = .ok (.aload_n 0, 1) := by decide +kernel
theorem dX12_best_156 : decode cX12_best 156 = .ok (.getfield 9, 3) := by decide +kernel
theorem dX12_best_159 : decode cX12_best 159 = .ok (.aload_n 0, 1) := by decide +kernel
theorem dX12_best_160 : decode cX12_best 160 = .ok (.getfield 42, 3) := by decide +kernel
theorem dX12_best_163 : decode cX12_best 163 = .ok (.iconst 0, 1) := by decide +kernel
theorem dX12_best_164 : decode cX12_best 164 = .ok (.invokestatic 210, 3) := by decide +kernel
theorem dX12_best_167 : decode cX12_best 167 = .ok (.aload_n 0, 1) := by decide +kernel
theorem dX12_best_168 : decode cX12_best 168 = .ok (.iconst 0, 1) := by decide +kernel
theorem dX12_best_169 : decode cX12_best 169 = .ok (.putfield 86, 3) := by decide +kernel
theorem dX12_best_172 : decode cX12_best 172 = .ok (.aload_n 0, 1) := by decide +kernel
theorem dX12_best_173 : decode cX12_best 173 = .ok (.iload_n 2, 1) := by decide +kernel
theorem dX12_best_174 : decode cX12_best 174 = .ok (.i2l, 1) := by decide +kernel
theorem dX12_best_175 : decode cX12_best 175 = .ok (.invokevirtual 253, 3) := by decide +kernel
theorem dX12_best_178 : decode cX12_best 178 = .ok (.aload_n 0, 1) := by decide +kernel
theorem dX12_best_179 : decode cX12_best 179 = .ok (.iload_n 3, 1) := by decide +kernel
theorem dX12_best_180 : decode cX12_best 180 = .ok (.i2l, 1) := by decide +kernel
theorem dX12_best_181 : decode cX12_best 181 = .ok (.invokevirtual 253, 3) := by decide +kernel
theorem dX12_best_184 : decode cX12_best 184 = .ok (.aload_n 0, 1) := by decide +kernel
theorem dX12_best_185 : decode cX12_best 185 = .ok (.iload 4, 2) := by decide +kernel
theorem dX12_best_187 : decode cX12_best 187 = .ok (.i2l, 1) := by decide +kernel
theorem dX12_best_188 : decode cX12_best 188 = .ok (.invokevirtual 253, 3) := by decide +kernel
theorem dX12_best_191 : decode cX12_best 191 = .ok (.aload_n 0, 1) := by decide +kernel
theorem dX12_best_192 : decode cX12_best 192 = .ok (.aload_n 0, 1) := by decide +kernel
theorem dX12_best_193 : decode cX12_best 193 = .ok (.aload_n 0, 1) := by decide +kernel
theorem dX12_best_194 : decode cX12_best 194 = .ok (.getfield 42, 3) := by decide +kernel
theorem dX12_best_197 : decode cX12_best 197 = .ok (.invokevirtual 327, 3) := by decide +kernel
theorem dX12_best_200 : decode cX12_best 200 = .ok (.i2l, 1) := by decide +kernel
theorem dX12_best_201 : decode cX12_best 201 = .ok (.invokevirtual 253, 3) := by decide +kernel
theorem dX12_best_204 : decode cX12_best 204 = .ok (.iload_n 1, 1) := by decide +kernel
theorem dX12_best_205 : decode cX12_best 205 = .ok (.ireturn, 1) := by decide +kernel
theorem dX12_parts_0 : decode cX12_parts 0 = .ok (.aload_n 0, 1) := by decide +kernel
theorem dX12_parts_1 : decode cX12_parts 1 = .ok (.iconst 0, 1) := by decide +kernel
theorem dX12_parts_2 : decode cX12_parts 2 = .ok (.putfield 82, 3) := by decide +kernel
theorem dX12_parts_5 : decode cX12_parts 5 = .ok (.iload_n 1, 1) := by decide +kernel
theorem dX12_parts_6 : decode cX12_parts 6 = .ok (.iconst 0, 1) := by decide +kernel
theorem dX12_parts_7 : decode cX12_parts 7 = .ok (.iconst 1, 1) := by decide +kernel
theorem dX12_parts_8 : decode cX12_parts 8 = .ok (.invokestatic 89, 3) := by decide +kernel
theorem dX12_parts_11 : decode cX12_parts 11 = .ok (.ifCond .ne 5, 3) := by decide +kernel
theorem dX12_parts_14 : decode cX12_parts 14 = .ok (.iconst (-1), 1) := by decide +kernel
theorem dX12_parts_15 : decode cX12_parts 15 = .ok (.ireturn, 1) := by decide +kernel
theorem dX12_parts_16 : decode cX12_parts 16 = .ok (.aload_n 0, 1) := by decide +kernel
theorem dX12_parts_17 : decode cX12_parts 17 = .ok (.getfield 9, 3) := by decide +kernel
theorem dX12_parts_20 : decode cX12_parts 20 = .ok (.iload_n 1, 1) := by decide +kernel
theorem dX12_parts_21 : decode cX12_parts 21 = .ok (.aload_n 0, 1) := by decide +kernel
theorem dX12_parts_22 : decode cX12_parts 22 = .ok (.getfield 9, 3) := by decide +kernel
theorem dX12_parts_25 : decode cX12_parts 25 = .ok (.iload_n 1, 1) := by decide +kernel
theorem dX12_parts_26 : decode cX12_parts 26 = .ok (.invokestatic 187, 3) := by decide +kernel
theorem dX12_parts_29 : decode cX12_parts 29 = .ok (.invokestatic 191, 3) := by decide +kernel
theorem dX12_parts_32 : decode cX12_parts 32 = .ok (.istore_n 2, 1) := by decide +kernel
theorem dX12_parts_33 : decode cX12_parts 33 = .ok (.iconst 0, 1) := by decide +kernel
theorem dX12_parts_34 : decode cX12_parts 34 = .ok (.istore_n 3, 1) := by decide +kernel
theorem dX12_parts_35 : decode cX12_parts 35 = .ok (.iconst 1, 1) := by decide +kernel
theorem dX12_parts_36 : decode cX12_parts 36 = .ok (.istore 4, 2) := by decide +kernel
theorem dX12_parts_38 : decode cX12_parts 38 = .ok (.iload 4, 2) := by decide +kernel
theorem dX12_parts_40 : decode cX12_parts 40 = .ok (.aload_n 0, 1) := by decide +kernel
theorem dX12_parts_41 : decode cX12_parts 41 = .ok (.getfield 9, 3) := by decide +kernel
theorem dX12_parts_44 : decode cX12_parts 44 = .ok (.iload_n 1, 1) := by decide +kernel
theorem dX12_parts_45 : decode cX12_parts 45 = .ok (.invokestatic 187, 3) := by decide +kernel
theorem dX12_parts_48 : decode cX12_parts 48 = .ok (.if_icmp .gt 52, 3) := by decide +kernel
theorem dX12_parts_51 : decode cX12_parts 51 = .ok (.iload_n 2, 1) := by decide +kernel
theorem dX12_parts_52 : decode cX12_parts 52 = .ok (.iconst 2, 1) := by decide +kernel
theorem dX12_parts_53 : decode cX12_parts 53 = .ok (.aload_n 0, 1) := by decide +kernel
theorem dX12_parts_54 : decode cX12_parts 54 = .ok (.getfield 9, 3) := by decide +kernel
theorem dX12_parts_57 : decode cX12_parts 57 = .ok (.iload_n 1, 1) := by decide +kernel
theorem dX12_parts_58 : decode cX12_parts 58 = .ok (.iload 4, 2) := by decide +kernel
theorem dX12_parts_60 : decode cX12_parts 60 = .ok (.invokestatic 191, 3) := by decide +kernel
theorem dX12_parts_63 : decode cX12_parts 63 = .ok (.imul, 1) := by decide +kernel
theorem dX12_parts_64 : decode cX12_parts 64 = .ok (.isub, 1) := by decide +kernel
theorem dX12_parts_65 : decode cX12_parts 65 = .ok (.invokestatic 330, 3) := by decide +kernel
theorem dX12_parts_68 : decode cX12_parts 68 = .ok (.iload_n 2, 1) := by decide +kernel
theorem dX12_parts_69 : decode cX12_parts 69 = .ok (.iconst 2, 1) := by decide +kernel
theorem dX12_parts_70 : decode cX12_parts 70 = .ok (.aload_n 0, 1) := by decide +kernel
theorem dX12_parts_71 : decode cX12_parts 71 = .ok (.getfield 9, 3) := by decide +kernel
theorem dX12_parts_74 : decode cX12_parts 74 = .ok (.iload_n 1, 1) := by decide +kernel
theorem dX12_parts_75 : decode cX12_parts 75 = .ok (.iload_n 3, 1) := by decide +kernel
theorem dX12_parts_76 : decode cX12_parts 76 = .ok (.invokestatic 191, 3) := by decide +kernel
theorem dX12_parts_79 : decode cX12_parts 79 = .ok (.imul, 1) := by decide +kernel
theorem dX12_parts_80 : decode cX12_parts 80 = .ok (.isub, 1) := by decide +kernel
theorem dX12_parts_81 : decode cX12_parts 81 = .ok (.invokestatic 330, 3) := by decide +kernel
theorem dX12_parts_84 : decode cX12_parts 84 = .ok (.if_icmp .ge 8, 3) := by decide +kernel
theorem dX12_parts_87 : decode cX12_parts 87 = .ok (.iload 4, 2) := by decide +kernel
theorem dX12_parts_89 : decode cX12_parts 89 = .ok (.goto 4, 3) := by decide +kernel
theorem dX12_parts_92 : decode cX12_parts 92 = .ok (.iload_n 3, 1) := by decide +kernel
theorem dX12_parts_93 : decode cX12_parts 93 = .ok (.istore_n 3, 1) := by decide +kernel
theorem dX12_parts_94 : decode cX12_parts 94 = .ok (.iinc 4 1, 3) := by decide +kernel
theorem dX12_parts_97 : decode cX12_parts 97 = .ok (.goto (-59), 3) := by decide +kernel
theorem dX12_parts_100 : decode cX12_parts 100 = .ok (.aload_n 0, 1) := by decide +kernel
theorem dX12_parts_101 : decode cX12_parts 101 = .ok (.iconst 0, 1) := by decide +kernel
theorem dX12_parts_102 : decode cX12_parts 102 = .ok (.putfield 86, 3) := by decide +kernel
theorem dX12_parts_105 : decode cX12_parts 105 = .ok (.aload_n 0, 1) := by decide +kernel
theorem dX12_parts_106 : decode cX12_parts 106 = .ok (.iload_n 3, 1) := by decide +kernel
theorem dX12_parts_107 : decode cX12_parts 107 = .ok (.i2l, 1) := by decide +kernel
theorem dX12_parts_108 : decode cX12_parts 108 = .ok (.invokevirtual 253, 3) := by decide +kernel
theorem dX12_parts_111 : decode cX12_parts 111 = .ok (.aload_n 0, 1) := by decide +kernel
theorem dX12_parts_112 : decode cX12_parts 112 = .ok (.aload_n 0, 1) := by decide +kernel
theorem dX12_parts_113 : decode cX12_parts 113 = .ok (.getfield 9, 3) := by decide +kernel
theorem dX12_parts_116 : decode cX12_parts 116 = .ok (.iload_n 1, 1) := by decide +kernel
theorem dX12_parts_117 : decode cX12_parts 117 = .ok (.iload_n 3, 1) := by decide +kernel
theorem dX12_parts_118 : decode cX12_parts 118 = .ok (.invokestatic 191, 3) := by decide +kernel
theorem dX12_parts_121 : decode cX12_parts 121 = .ok (.i2l, 1) := by decide +kernel
theorem dX12_parts_122 : decode cX12_parts 122 = .ok (.invokevirtual 253, 3) := by decide +kernel
theorem dX12_parts_125 : decode cX12_parts 125 = .ok (.iload_n 2, 1) := by decide +kernel
theorem dX12_parts_126 : decode cX12_parts 126 = .ok (.iconst 2, 1) := by decide +kernel
theorem dX12_parts_127 : decode cX12_parts 127 = .ok (.aload_n 0, 1) := by decide +kernel
theorem dX12_parts_128 : decode cX12_parts 128 = .ok (.getfield 9, 3) := by decide +kernel
theorem dX12_parts_131 : decode cX12_parts 131 = .ok (.iload_n 1, 1) := by decide +kernel
theorem dX12_parts_132 : decode cX12_parts 132 = .ok (.iload_n 3, 1) := by decide +kernel
theorem dX12_parts_133 : decode cX12_parts 133 = .ok (.invokestatic 191, 3) := by decide +kernel
theorem dX12_parts_136 : decode cX12_parts 136 = .ok (.imul, 1) := by decide +kernel
theorem dX12_parts_137 : decode cX12_parts 137 = .ok (.isub, 1) := by decide +kernel
theorem dX12_parts_138 : decode cX12_parts 138 = .ok (.invokestatic 330, 3) := by decide +kernel
theorem dX12_parts_141 : decode cX12_parts 141 = .ok (.ireturn, 1) := by decide +kernel
theorem dX12_spare_0 : decode cX12_spare 0 = .ok (.aload_n 0, 1) := by decide +kernel
theorem dX12_spare_1 : decode cX12_spare 1 = .ok (.iconst 0, 1) := by decide +kernel
theorem dX12_spare_2 : decode cX12_spare 2 = .ok (.putfield 82, 3) := by decide +kernel
theorem dX12_spare_5 : decode cX12_spare 5 = .ok (.iconst 0, 1) := by decide +kernel
theorem dX12_spare_6 : decode cX12_spare 6 = .ok (.istore_n 1, 1) := by decide +kernel
theorem dX12_spare_7 : decode cX12_spare 7 = .ok (.iconst 0, 1) := by decide +kernel
theorem dX12_spare_8 : decode cX12_spare 8 = .ok (.istore_n 2, 1) := by decide +kernel
theorem dX12_spare_9 : decode cX12_spare 9 = .ok (.iconst 0, 1) := by decide +kernel
theorem dX12_spare_10 : decode cX12_spare 10 = .ok (.istore_n 3, 1) := by decide +kernel
theorem dX12_spare_11 : decode cX12_spare 11 = .ok (.aload_n 0, 1) := by decide +kernel
theorem dX12_spare_12 : decode cX12_spare 12 = .ok (.getfield 9, 3) := by decide +kernel
theorem dX12_spare_15 : decode cX12_spare 15 = .ok (.aload_n 0, 1) := by decide +kernel
theorem dX12_spare_16 : decode cX12_spare 16 = .ok (.getfield 42, 3) := by decide +kernel
theorem dX12_spare_19 : decode cX12_spare 19 = .ok (.iconst 0, 1) := by decide +kernel
theorem dX12_spare_20 : decode cX12_spare 20 = .ok (.invokestatic 210, 3) := by decide +kernel
theorem dX12_spare_23 : decode cX12_spare 23 = .ok (.aload_n 0, 1) := by decide +kernel
theorem dX12_spare_24 : decode cX12_spare 24 = .ok (.getfield 42, 3) := by decide +kernel
theorem dX12_spare_27 : decode cX12_spare 27 = .ok (.invokestatic 240, 3) := by decide +kernel
theorem dX12_spare_30 : decode cX12_spare 30 = .ok (.ifCond .le 102, 3) := by decide +kernel
theorem dX12_spare_33 : decode cX12_spare 33 = .ok (.aload_n 0, 1) := by decide +kernel
theorem dX12_spare_34 : decode cX12_spare 34 = .ok (.getfield 42, 3) := by decide +kernel
theorem dX12_spare_37 : decode cX12_spare 37 = .ok (.iconst 0, 1) := by decide +kernel
theorem dX12_spare_38 : decode cX12_spare 38 = .ok (.invokestatic 234, 3) := by decide +kernel
theorem dX12_spare_41 : decode cX12_spare 41 = .ok (.istore 4, 2) := by decide +kernel
theorem dX12_spare_43 : decode cX12_spare 43 = .ok (.aload_n 0, 1) := by decide +kernel
theorem dX12_spare_44 : decode cX12_spare 44 = .ok (.getfield 42, 3) := by decide +kernel
theorem dX12_spare_47 : decode cX12_spare 47 = .ok (.iconst 1, 1) := by decide +kernel
theorem dX12_spare_48 : decode cX12_spare 48 = .ok (.invokestatic 234, 3) := by decide +kernel
theorem dX12_spare_51 : decode cX12_spare 51 = .ok (.istore 5, 2) := by decide +kernel
theorem dX12_spare_53 : decode cX12_spare 53 = .ok (.aload_n 0, 1) := by decide +kernel
theorem dX12_spare_54 : decode cX12_spare 54 = .ok (.getfield 42, 3) := by decide +kernel
theorem dX12_spare_57 : decode cX12_spare 57 = .ok (.iconst 0, 1) := by decide +kernel
theorem dX12_spare_58 : decode cX12_spare 58 = .ok (.iload 4, 2) := by decide +kernel
theorem dX12_spare_60 : decode cX12_spare 60 = .ok (.invokestatic 191, 3) := by decide +kernel
theorem dX12_spare_63 : decode cX12_spare 63 = .ok (.aload_n 0, 1) := by decide +kernel
theorem dX12_spare_64 : decode cX12_spare 64 = .ok (.getfield 42, 3) := by decide +kernel
theorem dX12_spare_67 : decode cX12_spare 67 = .ok (.iconst 1, 1) := by decide +kernel
theorem dX12_spare_68 : decode cX12_spare 68 = .ok (.iload 5, 2) := by decide +kernel
theorem dX12_spare_70 : decode cX12_spare 70 = .ok (.invokestatic 191, 3) := by decide +kernel
theorem dX12_spare_73 : decode cX12_spare 73 = .ok (.isub, 1) := by decide +kernel
theorem dX12_spare_74 : decode cX12_spare 74 = .ok (.aload_n 0, 1) := by decide +kernel
theorem dX12_spare_75 : decode cX12_spare 75 = .ok (.getfield 42, 3) := by decide +kernel
theorem dX12_spare_78 : decode cX12_spare 78 = .ok (.bipush 13, 2) := by decide +kernel
theorem dX12_spare_80 : decode cX12_spare 80 = .ok (.iaload, 1) := by decide +kernel
theorem dX12_spare_81 : decode cX12_spare 81 = .ok (.isub, 1) := by decide +kernel
theorem dX12_spare_82 : decode cX12_spare 82 = .ok (.istore 6, 2) := by decide +kernel
theorem dX12_spare_84 : decode cX12_spare 84 = .ok (.iload_n 1, 1) := by decide +kernel
theorem dX12_spare_85 : decode cX12_spare 85 = .ok (.iconst 0, 1) := by decide +kernel
theorem dX12_spare_86 : decode cX12_spare 86 = .ok (.iload 6, 2) := by decide +kernel
theorem dX12_spare_88 : decode cX12_spare 88 = .ok (.invokestatic 201, 3) := by decide +kernel
theorem dX12_spare_91 : decode cX12_spare 91 = .ok (.iadd, 1) := by decide +kernel
theorem dX12_spare_92 : decode cX12_spare 92 = .ok (.istore_n 1, 1) := by decide +kernel
theorem dX12_spare_93 : decode cX12_spare 93 = .ok (.iload_n 2, 1) := by decide +kernel
theorem dX12_spare_94 : decode cX12_spare 94 = .ok (.iload 6, 2) := by decide +kernel
theorem dX12_spare_96 : decode cX12_spare 96 = .ok (.ifCond .le 7, 3) := by decide +kernel
theorem dX12_spare_99 : decode cX12_spare 99 = .ok (.iconst 1, 1) := by decide +kernel
theorem dX12_spare_100 : decode cX12_spare 100 = .ok (.goto 4, 3) := by decide +kernel
theorem dX12_spare_103 : decode cX12_spare 103 = .ok (.iconst 0, 1) := by decide +kernel
theorem dX12_spare_104 : decode cX12_spare 104 = .ok (.iadd, 1) := by decide +kernel
theorem dX12_spare_105 : decode cX12_spare 105 = .ok (.istore_n 2, 1) := by decide +kernel
theorem dX12_spare_106 : decode cX12_spare 106 = .ok (.iinc 3 1, 3) := by decide +kernel
theorem dX12_spare_109 : decode cX12_spare 109 = .ok (.aload_n 0, 1) := by decide +kernel
theorem dX12_spare_110 : decode cX12_spare 110 = .ok (.getfield 42, 3) := by decide +kernel
theorem dX12_spare_113 : decode cX12_spare 113 = .ok (.iconst 0, 1) := by decide +kernel
theorem dX12_spare_114 : decode cX12_spare 114 = .ok (.iload 4, 2) := by decide +kernel
theorem dX12_spare_116 : decode cX12_spare 116 = .ok (.invokestatic 221, 3) := by decide +kernel
theorem dX12_spare_119 : decode cX12_spare 119 = .ok (.aload_n 0, 1) := by decide +kernel
theorem dX12_spare_120 : decode cX12_spare 120 = .ok (.getfield 42, 3) := by decide +kernel
theorem dX12_spare_123 : decode cX12_spare 123 = .ok (.iconst 1, 1) := by decide +kernel
theorem dX12_spare_124 : decode cX12_spare 124 = .ok (.iload 5, 2) := by decide +kernel
theorem dX12_spare_126 : decode cX12_spare 126 = .ok (.invokestatic 221, 3) := by decide +kernel
theorem dX12_spare_129 : decode cX12_spare 129 = .ok (.goto (-106), 3) := by decide +kernel
theorem dX12_spare_132 : decode cX12_spare 132 = .ok (.aload_n 0, 1) := by decide +kernel
theorem dX12_spare_133 : decode cX12_spare 133 = .ok (.iconst 0, 1) := by decide +kernel
theorem dX12_spare_134 : decode cX12_spare 134 = .ok (.putfield 86, 3) := by decide +kernel
theorem dX12_spare_137 : decode cX12_spare 137 = .ok (.aload_n 0, 1) := by decide +kernel
theorem dX12_spare_138 : decode cX12_spare 138 = .ok (.iload_n 2, 1) := by decide +kernel
theorem dX12_spare_139 : decode cX12_spare 139 = .ok (.i2l, 1) := by decide +kernel
theorem dX12_spare_140 : decode cX12_spare 140 = .ok (.invokevirtual 253, 3) := by decide +kernel
theorem dX12_spare_143 : decode cX12_spare 143 = .ok (.aload_n 0, 1) := by decide +kernel
theorem dX12_spare_144 : decode cX12_spare 144 = .ok (.iload_n 3, 1) := by decide +kernel
theorem dX12_spare_145 : decode cX12_spare 145 = .ok (.i2l, 1) := by decide +kernel
theorem dX12_spare_146 : decode cX12_spare 146 = .ok (.invokevirtual 253, 3) := by decide +kernel
theorem dX12_spare_149 : decode cX12_spare 149 = .ok (.iload_n 1, 1) := by decide +kernel
theorem dX12_spare_150 : decode cX12_spare 150 = .ok (.ireturn, 1) := by decide +kernel
theorem dX12_alike_0 : decode cX12_alike 0 = .ok (.aload_n 0, 1) := by decide +kernel
theorem dX12_alike_1 : decode cX12_alike 1 = .ok (.iconst 0, 1) := by decide +kernel
theorem dX12_alike_2 : decode cX12_alike 2 = .ok (.putfield 82, 3) := by decide +kernel
theorem dX12_alike_5 : decode cX12_alike 5 = .ok (.iconst 0, 1) := by decide +kernel
theorem dX12_alike_6 : decode cX12_alike 6 = .ok (.istore_n 1, 1) := by decide +kernel
theorem dX12_alike_7 : decode cX12_alike 7 = .ok (.iconst 0, 1) := by decide +kernel
theorem dX12_alike_8 : decode cX12_alike 8 = .ok (.istore_n 2, 1) := by decide +kernel
theorem dX12_alike_9 : decode cX12_alike 9 = .ok (.iconst 0, 1) := by decide +kernel
theorem dX12_alike_10 : decode cX12_alike 10 = .ok (.istore_n 3, 1) := by decide +kernel
theorem dX12_alike_11 : decode cX12_alike 11 = .ok (.iconst 0, 1) := by decide +kernel
theorem dX12_alike_12 : decode cX12_alike 12 = .ok (.istore 4, 2) := by decide +kernel
theorem dX12_alike_14 : decode cX12_alike 14 = .ok (.iconst 1, 1) := by decide +kernel
theorem dX12_alike_15 : decode cX12_alike 15 = .ok (.istore 5, 2) := by decide +kernel
theorem dX12_alike_17 : decode cX12_alike 17 = .ok (.iload 5, 2) := by decide +kernel
theorem dX12_alike_19 : decode cX12_alike 19 = .ok (.aload_n 0, 1) := by decide +kernel
theorem dX12_alike_20 : decode cX12_alike 20 = .ok (.getfield 9, 3) := by decide +kernel
theorem dX12_alike_23 : decode cX12_alike 23 = .ok (.iconst 0, 1) := by decide +kernel
theorem dX12_alike_24 : decode cX12_alike 24 = .ok (.invokestatic 187, 3) := by decide +kernel
theorem dX12_alike_27 : decode cX12_alike 27 = .ok (.if_icmp .gt 83, 3) := by decide +kernel
theorem dX12_alike_30 : decode cX12_alike 30 = .ok (.iconst 1, 1) := by decide +kernel
theorem dX12_alike_31 : decode cX12_alike 31 = .ok (.istore 6, 2) := by decide +kernel
theorem dX12_alike_33 : decode cX12_alike 33 = .ok (.iload 6, 2) := by decide +kernel
theorem dX12_alike_35 : decode cX12_alike 35 = .ok (.aload_n 0, 1) := by decide +kernel
theorem dX12_alike_36 : decode cX12_alike 36 = .ok (.getfield 9, 3) := by decide +kernel
theorem dX12_alike_39 : decode cX12_alike 39 = .ok (.iconst 1, 1) := by decide +kernel
theorem dX12_alike_40 : decode cX12_alike 40 = .ok (.invokestatic 187, 3) := by decide +kernel
theorem dX12_alike_43 : decode cX12_alike 43 = .ok (.if_icmp .gt 61, 3) := by decide +kernel
theorem dX12_alike_46 : decode cX12_alike 46 = .ok (.aload_n 0, 1) := by decide +kernel
theorem dX12_alike_47 : decode cX12_alike 47 = .ok (.getfield 9, 3) := by decide +kernel
theorem dX12_alike_50 : decode cX12_alike 50 = .ok (.iconst 0, 1) := by decide +kernel
theorem dX12_alike_51 : decode cX12_alike 51 = .ok (.iload 5, 2) := by decide +kernel
theorem dX12_alike_53 : decode cX12_alike 53 = .ok (.invokestatic 191, 3) := by decide +kernel
theorem dX12_alike_56 : decode cX12_alike 56 = .ok (.istore 7, 2) := by decide +kernel
theorem dX12_alike_58 : decode cX12_alike 58 = .ok (.iload 7, 2) := by decide +kernel
theorem dX12_alike_60 : decode cX12_alike 60 = .ok (.aload_n 0, 1) := by decide +kernel
theorem dX12_alike_61 : decode cX12_alike 61 = .ok (.getfield 9, 3) := by decide +kernel
theorem dX12_alike_64 : decode cX12_alike 64 = .ok (.iconst 1, 1) := by decide +kernel
theorem dX12_alike_65 : decode cX12_alike 65 = .ok (.iload 6, 2) := by decide +kernel
theorem dX12_alike_67 : decode cX12_alike 67 = .ok (.invokestatic 191, 3) := by decide +kernel
theorem dX12_alike_70 : decode cX12_alike 70 = .ok (.if_icmp .eq 6, 3) := by decide +kernel
theorem dX12_alike_73 : decode cX12_alike 73 = .ok (.goto 25, 3) := by decide +kernel
theorem dX12_alike_76 : decode cX12_alike 76 = .ok (.iinc 1 1, 3) := by decide +kernel
theorem dX12_alike_79 : decode cX12_alike 79 = .ok (.iload 7, 2) := by decide +kernel
theorem dX12_alike_81 : decode cX12_alike 81 = .ok (.iload_n 2, 1) := by decide +kernel
theorem dX12_alike_82 : decode cX12_alike 82 = .ok (.if_icmp .gt 6, 3) := by decide +kernel
theorem dX12_alike_85 : decode cX12_alike 85 = .ok (.goto 13, 3) := by decide +kernel
theorem dX12_alike_88 : decode cX12_alike 88 = .ok (.iload 7, 2) := by decide +kernel
theorem dX12_alike_90 : decode cX12_alike 90 = .ok (.istore_n 2, 1) := by decide +kernel
theorem dX12_alike_91 : decode cX12_alike 91 = .ok (.iload 5, 2) := by decide +kernel
theorem dX12_alike_93 : decode cX12_alike 93 = .ok (.istore_n 3, 1) := by decide +kernel
theorem dX12_alike_94 : decode cX12_alike 94 = .ok (.iload 6, 2) := by decide +kernel
theorem dX12_alike_96 : decode cX12_alike 96 = .ok (.istore 4, 2) := by decide +kernel
theorem dX12_alike_98 : decode cX12_alike 98 = .ok (.iinc 6 1, 3) := by decide +kernel
theorem dX12_alike_101 : decode cX12_alike 101 = .ok (.goto (-68), 3) := by decide +kernel
theorem dX12_alike_104 : decode cX12_alike 104 = .ok (.iinc 5 1, 3) := by decide +kernel
theorem dX12_alike_107 : decode cX12_alike 107 = .ok (.goto (-90), 3) := by decide +kernel
theorem dX12_alike_110 : decode cX12_alike 110 = .ok (.aload_n 0, 1) := by decide +kernel
theorem dX12_alike_111 : decode cX12_alike 111 = .ok (.iconst 0, 1) := by decide +kernel
theorem dX12_alike_112 : decode cX12_alike 112 = .ok (.putfield 86, 3) := by decide +kernel
theorem dX12_alike_115 : decode cX12_alike 115 = .ok (.iload_n 1, 1) := by decide +kernel
theorem dX12_alike_116 : decode cX12_alike 116 = .ok (.ifCond .le 22, 3) := by decide +kernel
theorem dX12_alike_119 : decode cX12_alike 119 = .ok (.aload_n 0, 1) := by decide +kernel
theorem dX12_alike_120 : decode cX12_alike 120 = .ok (.iload_n 2, 1) := by decide +kernel
theorem dX12_alike_121 : decode cX12_alike 121 = .ok (.i2l, 1) := by decide +kernel
theorem dX12_alike_122 : decode cX12_alike 122 = .ok (.invokevirtual 253, 3) := by decide +kernel
theorem dX12_alike_125 : decode cX12_alike 125 = .ok (.aload_n 0, 1) := by decide +kernel
theorem dX12_alike_126 : decode cX12_alike 126 = .ok (.iload_n 3, 1) := by decide +kernel
theorem dX12_alike_127 : decode cX12_alike 127 = .ok (.i2l, 1) := by decide +kernel
theorem dX12_alike_128 : decode cX12_alike 128 = .ok (.invokevirtual 253, 3) := by decide +kernel
theorem dX12_alike_131 : decode cX12_alike 131 = .ok (.aload_n 0, 1) := by decide +kernel
theorem dX12_alike_132 : decode cX12_alike 132 = .ok (.iload 4, 2) := by decide +kernel
theorem dX12_alike_134 : decode cX12_alike 134 = .ok (.i2l, 1) := by decide +kernel
theorem dX12_alike_135 : decode cX12_alike 135 = .ok (.invokevirtual 253, 3) := by decide +kernel
theorem dX12_alike_138 : decode cX12_alike 138 = .ok (.iload_n 1, 1) := by decide +kernel
theorem dX12_alike_139 : decode cX12_alike 139 = .ok (.ireturn, 1) := by decide +kernel
theorem dX12_common_0 : decode cX12_common 0 = .ok (.lload_n 2, 1) := by decide +kernel
theorem dX12_common_1 : decode cX12_common 1 = .ok (.lconst 0, 1) := by decide +kernel
theorem dX12_common_2 : decode cX12_common 2 = .ok (.lcmp, 1) := by decide +kernel
theorem dX12_common_3 : decode cX12_common 3 = .ok (.ifCond .ne 7, 3) := by decide +kernel
theorem dX12_common_6 : decode cX12_common 6 = .ok (.lload_n 0, 1) := by decide +kernel
theorem dX12_common_7 : decode cX12_common 7 = .ok (.goto 10, 3) := by decide +kernel
theorem dX12_common_10 : decode cX12_common 10 = .ok (.lload_n 2, 1) := by decide +kernel
theorem dX12_common_11 : decode cX12_common 11 = .ok (.lload_n 0, 1) := by decide +kernel
theorem dX12_common_12 : decode cX12_common 12 = .ok (.lload_n 2, 1) := by decide +kernel
theorem dX12_common_13 : decode cX12_common 13 = .ok (.lrem, 1) := by decide +kernel
theorem dX12_common_14 : decode cX12_common 14 = .ok (.invokestatic 333, 3) := by decide +kernel
theorem dX12_common_17 : decode cX12_common 17 = .ok (.lreturn, 1) := by decide +kernel
theorem dX12_odds_0 : decode cX12_odds 0 = .ok (.aload_n 0, 1) := by decide +kernel
theorem dX12_odds_1 : decode cX12_odds 1 = .ok (.iconst 0, 1) := by decide +kernel
theorem dX12_odds_2 : decode cX12_odds 2 = .ok (.putfield 82, 3) := by decide +kernel
theorem dX12_odds_5 : decode cX12_odds 5 = .ok (.iload_n 1, 1) := by decide +kernel
theorem dX12_odds_6 : decode cX12_odds 6 = .ok (.iconst 0, 1) := by decide +kernel
theorem dX12_odds_7 : decode cX12_odds 7 = .ok (.bipush 10, 2) := by decide +kernel
theorem dX12_odds_9 : decode cX12_odds 9 = .ok (.invokestatic 89, 3) := by decide +kernel
theorem dX12_odds_12 : decode cX12_odds 12 = .ok (.ifCond .eq 13, 3) := by decide +kernel
theorem dX12_odds_15 : decode cX12_odds 15 = .ok (.iload_n 2, 1) := by decide +kernel
theorem dX12_odds_16 : decode cX12_odds 16 = .ok (.iconst 0, 1) := by decide +kernel
theorem dX12_odds_17 : decode cX12_odds 17 = .ok (.bipush 99, 2) := by decide +kernel
theorem dX12_odds_19 : decode cX12_odds 19 = .ok (.invokestatic 89, 3) := by decide +kernel
theorem dX12_odds_22 : decode cX12_odds 22 = .ok (.ifCond .ne 5, 3) := by decide +kernel
theorem dX12_odds_25 : decode cX12_odds 25 = .ok (.iconst (-1), 1) := by decide +kernel
theorem dX12_odds_26 : decode cX12_odds 26 = .ok (.ireturn, 1) := by decide +kernel
theorem dX12_odds_27 : decode cX12_odds 27 = .ok (.aload_n 0, 1) := by decide +kernel
theorem dX12_odds_28 : decode cX12_odds 28 = .ok (.getfield 9, 3) := by decide +kernel
theorem dX12_odds_31 : decode cX12_odds 31 = .ok (.iconst 0, 1) := by decide +kernel
theorem dX12_odds_32 : decode cX12_odds 32 = .ok (.invokestatic 234, 3) := by decide +kernel
theorem dX12_odds_35 : decode cX12_odds 35 = .ok (.istore_n 3, 1) := by decide +kernel
theorem dX12_odds_36 : decode cX12_odds 36 = .ok (.aload_n 0, 1) := by decide +kernel
theorem dX12_odds_37 : decode cX12_odds 37 = .ok (.getfield 9, 3) := by decide +kernel
theorem dX12_odds_40 : decode cX12_odds 40 = .ok (.iconst 1, 1) := by decide +kernel
theorem dX12_odds_41 : decode cX12_odds 41 = .ok (.invokestatic 234, 3) := by decide +kernel
theorem dX12_odds_44 : decode cX12_odds 44 = .ok (.istore 4, 2) := by decide +kernel
theorem dX12_odds_46 : decode cX12_odds 46 = .ok (.iload_n 3, 1) := by decide +kernel
theorem dX12_odds_47 : decode cX12_odds 47 = .ok (.invokestatic 229, 3) := by decide +kernel
theorem dX12_odds_50 : decode cX12_odds 50 = .ok (.iload 4, 2) := by decide +kernel
theorem dX12_odds_52 : decode cX12_odds 52 = .ok (.invokestatic 229, 3) := by decide +kernel
theorem dX12_odds_55 : decode cX12_odds 55 = .ok (.iadd, 1) := by decide +kernel
theorem dX12_odds_56 : decode cX12_odds 56 = .ok (.istore 5, 2) := by decide +kernel
theorem dX12_odds_58 : decode cX12_odds 58 = .ok (.lconst 0, 1) := by decide +kernel
theorem dX12_odds_59 : decode cX12_odds 59 = .ok (.lstore 6, 2) := by decide +kernel
theorem dX12_odds_61 : decode cX12_odds 61 = .ok (.lconst 1, 1) := by decide +kernel
theorem dX12_odds_62 : decode cX12_odds 62 = .ok (.lstore 8, 2) := by decide +kernel
theorem dX12_odds_64 : decode cX12_odds 64 = .ok (.iconst 0, 1) := by decide +kernel
theorem dX12_odds_65 : decode cX12_odds 65 = .ok (.istore 10, 2) := by decide +kernel
theorem dX12_odds_67 : decode cX12_odds 67 = .ok (.iload 10, 2) := by decide +kernel
theorem dX12_odds_69 : decode cX12_odds 69 = .ok (.iload 5, 2) := by decide +kernel
theorem dX12_odds_71 : decode cX12_odds 71 = .ok (.if_icmp .ge 17, 3) := by decide +kernel
theorem dX12_odds_74 : decode cX12_odds 74 = .ok (.lload 8, 2) := by decide +kernel
theorem dX12_odds_76 : decode cX12_odds 76 = .ok (.ldc2_w 337, 3) := by decide +kernel
theorem dX12_odds_79 : decode cX12_odds 79 = .ok (.lmul, 1) := by decide +kernel
theorem dX12_odds_80 : decode cX12_odds 80 = .ok (.lstore 8, 2) := by decide +kernel
theorem dX12_odds_82 : decode cX12_odds 82 = .ok (.iinc 10 1, 3) := by decide +kernel
theorem dX12_odds_85 : decode cX12_odds 85 = .ok (.goto (-18), 3) := by decide +kernel
theorem dX12_odds_88 : decode cX12_odds 88 = .ok (.iconst 0, 1) := by decide +kernel
theorem dX12_odds_89 : decode cX12_odds 89 = .ok (.istore 10, 2) := by decide +kernel
theorem dX12_odds_91 : decode cX12_odds 91 = .ok (.iload 10, 2) := by decide +kernel
theorem dX12_odds_93 : decode cX12_odds 93 = .ok (.iload_n 3, 1) := by decide +kernel
theorem dX12_odds_94 : decode cX12_odds 94 = .ok (.if_icmp .gt 104, 3) := by decide +kernel
theorem dX12_odds_97 : decode cX12_odds 97 = .ok (.iconst 0, 1) := by decide +kernel
theorem dX12_odds_98 : decode cX12_odds 98 = .ok (.istore 11, 2) := by decide +kernel
theorem dX12_odds_100 : decode cX12_odds 100 = .ok (.iload 11, 2) := by decide +kernel
theorem dX12_odds_102 : decode cX12_odds 102 = .ok (.iload 4, 2) := by decide +kernel
theorem dX12_odds_104 : decode cX12_odds 104 = .ok (.if_icmp .gt 88, 3) := by decide +kernel
theorem dX12_odds_107 : decode cX12_odds 107 = .ok (.aload_n 0, 1) := by decide +kernel
theorem dX12_odds_108 : decode cX12_odds 108 = .ok (.getfield 9, 3) := by decide +kernel
theorem dX12_odds_111 : decode cX12_odds 111 = .ok (.iload 10, 2) := by decide +kernel
theorem dX12_odds_113 : decode cX12_odds 113 = .ok (.iload 11, 2) := by decide +kernel
theorem dX12_odds_115 : decode cX12_odds 115 = .ok (.invokestatic 218, 3) := by decide +kernel
theorem dX12_odds_118 : decode cX12_odds 118 = .ok (.iload_n 2, 1) := by decide +kernel
theorem dX12_odds_119 : decode cX12_odds 119 = .ok (.if_icmp .le 6, 3) := by decide +kernel
theorem dX12_odds_122 : decode cX12_odds 122 = .ok (.goto 64, 3) := by decide +kernel
theorem dX12_odds_125 : decode cX12_odds 125 = .ok (.iload 10, 2) := by decide +kernel
theorem dX12_odds_127 : decode cX12_odds 127 = .ok (.invokestatic 229, 3) := by decide +kernel
theorem dX12_odds_130 : decode cX12_odds 130 = .ok (.iload 11, 2) := by decide +kernel
theorem dX12_odds_132 : decode cX12_odds 132 = .ok (.invokestatic 229, 3) := by decide +kernel
theorem dX12_odds_135 : decode cX12_odds 135 = .ok (.iadd, 1) := by decide +kernel
theorem dX12_odds_136 : decode cX12_odds 136 = .ok (.istore 12, 2) := by decide +kernel
theorem dX12_odds_138 : decode cX12_odds 138 = .ok (.lconst 1, 1) := by decide +kernel
theorem dX12_odds_139 : decode cX12_odds 139 = .ok (.lstore 13, 2) := by decide +kernel
theorem dX12_odds_141 : decode cX12_odds 141 = .ok (.iconst 0, 1) := by decide +kernel
theorem dX12_odds_142 : decode cX12_odds 142 = .ok (.istore 15, 2) := by decide +kernel
theorem dX12_odds_144 : decode cX12_odds 144 = .ok (.iload 15, 2) := by decide +kernel
theorem dX12_odds_146 : decode cX12_odds 146 = .ok (.iload 5, 2) := by decide +kernel
theorem dX12_odds_148 : decode cX12_odds 148 = .ok (.if_icmp .ge 31, 3) := by decide +kernel
theorem dX12_odds_151 : decode cX12_odds 151 = .ok (.lload 13, 2) := by decide +kernel
theorem dX12_odds_153 : decode cX12_odds 153 = .ok (.iload 15, 2) := by decide +kernel
theorem dX12_odds_155 : decode cX12_odds 155 = .ok (.iload 12, 2) := by decide +kernel
theorem dX12_odds_157 : decode cX12_odds 157 = .ok (.if_icmp .ge 8, 3) := by decide +kernel
theorem dX12_odds_160 : decode cX12_odds 160 = .ok (.iload_n 1, 1) := by decide +kernel
theorem dX12_odds_161 : decode cX12_odds 161 = .ok (.i2l, 1) := by decide +kernel
theorem dX12_odds_162 : decode cX12_odds 162 = .ok (.goto 8, 3) := by decide +kernel
theorem dX12_odds_165 : decode cX12_odds 165 = .ok (.bipush 10, 2) := by decide +kernel
theorem dX12_odds_167 : decode cX12_odds 167 = .ok (.iload_n 1, 1) := by decide +kernel
theorem dX12_odds_168 : decode cX12_odds 168 = .ok (.isub, 1) := by decide +kernel
theorem dX12_odds_169 : decode cX12_odds 169 = .ok (.i2l, 1) := by decide +kernel
theorem dX12_odds_170 : decode cX12_odds 170 = .ok (.lmul, 1) := by decide +kernel
theorem dX12_odds_171 : decode cX12_odds 171 = .ok (.lstore 13, 2) := by decide +kernel
theorem dX12_odds_173 : decode cX12_odds 173 = .ok (.iinc 15 1, 3) := by decide +kernel
theorem dX12_odds_176 : decode cX12_odds 176 = .ok (.goto (-32), 3) := by decide +kernel
theorem dX12_odds_179 : decode cX12_odds 179 = .ok (.lload 6, 2) := by decide +kernel
theorem dX12_odds_181 : decode cX12_odds 181 = .ok (.lload 13, 2) := by decide +kernel
theorem dX12_odds_183 : decode cX12_odds 183 = .ok (.ladd, 1) := by decide +kernel
theorem dX12_odds_184 : decode cX12_odds 184 = .ok (.lstore 6, 2) := by decide +kernel
theorem dX12_odds_186 : decode cX12_odds 186 = .ok (.iinc 11 1, 3) := by decide +kernel
theorem dX12_odds_189 : decode cX12_odds 189 = .ok (.goto (-89), 3) := by decide +kernel
theorem dX12_odds_192 : decode cX12_odds 192 = .ok (.iinc 10 1, 3) := by decide +kernel
theorem dX12_odds_195 : decode cX12_odds 195 = .ok (.goto (-104), 3) := by decide +kernel
theorem dX12_odds_198 : decode cX12_odds 198 = .ok (.lload 6, 2) := by decide +kernel
theorem dX12_odds_200 : decode cX12_odds 200 = .ok (.lload 8, 2) := by decide +kernel
theorem dX12_odds_202 : decode cX12_odds 202 = .ok (.invokestatic 333, 3) := by decide +kernel
theorem dX12_odds_205 : decode cX12_odds 205 = .ok (.lstore 10, 2) := by decide +kernel
theorem dX12_odds_207 : decode cX12_odds 207 = .ok (.aload_n 0, 1) := by decide +kernel
theorem dX12_odds_208 : decode cX12_odds 208 = .ok (.iconst 0, 1) := by decide +kernel
theorem dX12_odds_209 : decode cX12_odds 209 = .ok (.putfield 86, 3) := by decide +kernel
theorem dX12_odds_212 : decode cX12_odds 212 = .ok (.aload_n 0, 1) := by decide +kernel
theorem dX12_odds_213 : decode cX12_odds 213 = .ok (.lload 6, 2) := by decide +kernel
theorem dX12_odds_215 : decode cX12_odds 215 = .ok (.lload 10, 2) := by decide +kernel
theorem dX12_odds_217 : decode cX12_odds 217 = .ok (.ldiv, 1) := by decide +kernel
theorem dX12_odds_218 : decode cX12_odds 218 = .ok (.invokevirtual 253, 3) := by decide +kernel
theorem dX12_odds_221 : decode cX12_odds 221 = .ok (.aload_n 0, 1) := by decide +kernel
theorem dX12_odds_222 : decode cX12_odds 222 = .ok (.lload 8, 2) := by decide +kernel
theorem dX12_odds_224 : decode cX12_odds 224 = .ok (.lload 10, 2) := by decide +kernel
theorem dX12_odds_226 : decode cX12_odds 226 = .ok (.ldiv, 1) := by decide +kernel
theorem dX12_odds_227 : decode cX12_odds 227 = .ok (.invokevirtual 253, 3) := by decide +kernel
theorem dX12_odds_230 : decode cX12_odds 230 = .ok (.iconst 0, 1) := by decide +kernel
theorem dX12_odds_231 : decode cX12_odds 231 = .ok (.ireturn, 1) := by decide +kernel
theorem dX12_lowOf_0 : decode cX12_lowOf 0 = .ok (.iload_n 0, 1) := by decide +kernel
theorem dX12_lowOf_1 : decode cX12_lowOf 1 = .ok (.iconst 1, 1) := by decide +kernel
theorem dX12_lowOf_2 : decode cX12_lowOf 2 = .ok (.if_icmp .ne 7, 3) := by decide +kernel
theorem dX12_lowOf_5 : decode cX12_lowOf 5 = .ok (.iconst 1, 1) := by decide +kernel
theorem dX12_lowOf_6 : decode cX12_lowOf 6 = .ok (.goto 4, 3) := by decide +kernel
theorem dX12_lowOf_9 : decode cX12_lowOf 9 = .ok (.iconst 0, 1) := by decide +kernel
theorem dX12_lowOf_10 : decode cX12_lowOf 10 = .ok (.ireturn, 1) := by decide +kernel
theorem dX12_highOf_0 : decode cX12_highOf 0 = .ok (.iload_n 0, 1) := by decide +kernel
theorem dX12_highOf_1 : decode cX12_highOf 1 = .ok (.iconst 1, 1) := by decide +kernel
theorem dX12_highOf_2 : decode cX12_highOf 2 = .ok (.if_icmp .ne 8, 3) := by decide +kernel
theorem dX12_highOf_5 : decode cX12_highOf 5 = .ok (.bipush 9, 2) := by decide +kernel
theorem dX12_highOf_7 : decode cX12_highOf 7 = .ok (.goto 13, 3) := by decide +kernel
theorem dX12_highOf_10 : decode cX12_highOf 10 = .ok (.iload_n 0, 1) := by decide +kernel
theorem dX12_highOf_11 : decode cX12_highOf 11 = .ok (.iconst 2, 1) := by decide +kernel
theorem dX12_highOf_12 : decode cX12_highOf 12 = .ok (.if_icmp .ne 7, 3) := by decide +kernel
theorem dX12_highOf_15 : decode cX12_highOf 15 = .ok (.iconst 4, 1) := by decide +kernel
theorem dX12_highOf_16 : decode cX12_highOf 16 = .ok (.goto 4, 3) := by decide +kernel
theorem dX12_highOf_19 : decode cX12_highOf 19 = .ok (.iconst 1, 1) := by decide +kernel
theorem dX12_highOf_20 : decode cX12_highOf 20 = .ok (.ireturn, 1) := by decide +kernel
theorem dX12_heard_0 : decode cX12_heard 0 = .ok (.aload_n 0, 1) := by decide +kernel
theorem dX12_heard_1 : decode cX12_heard 1 = .ok (.iconst 0, 1) := by decide +kernel
theorem dX12_heard_2 : decode cX12_heard 2 = .ok (.putfield 82, 3) := by decide +kernel
theorem dX12_heard_5 : decode cX12_heard 5 = .ok (.iload_n 1, 1) := by decide +kernel
theorem dX12_heard_6 : decode cX12_heard 6 = .ok (.iconst 0, 1) := by decide +kernel
theorem dX12_heard_7 : decode cX12_heard 7 = .ok (.iconst 3, 1) := by decide +kernel
theorem dX12_heard_8 : decode cX12_heard 8 = .ok (.invokestatic 89, 3) := by decide +kernel
theorem dX12_heard_11 : decode cX12_heard 11 = .ok (.ifCond .eq 27, 3) := by decide +kernel
theorem dX12_heard_14 : decode cX12_heard 14 = .ok (.iload_n 2, 1) := by decide +kernel
theorem dX12_heard_15 : decode cX12_heard 15 = .ok (.iload_n 1, 1) := by decide +kernel
theorem dX12_heard_16 : decode cX12_heard 16 = .ok (.invokestatic 339, 3) := by decide +kernel
theorem dX12_heard_19 : decode cX12_heard 19 = .ok (.iload_n 1, 1) := by decide +kernel
theorem dX12_heard_20 : decode cX12_heard 20 = .ok (.invokestatic 342, 3) := by decide +kernel
theorem dX12_heard_23 : decode cX12_heard 23 = .ok (.invokestatic 89, 3) := by decide +kernel
theorem dX12_heard_26 : decode cX12_heard 26 = .ok (.ifCond .eq 12, 3) := by decide +kernel
theorem dX12_heard_29 : decode cX12_heard 29 = .ok (.aload_n 0, 1) := by decide +kernel
theorem dX12_heard_30 : decode cX12_heard 30 = .ok (.getfield 345, 3) := by decide +kernel
theorem dX12_heard_33 : decode cX12_heard 33 = .ok (.bipush 12, 2) := by decide +kernel
theorem dX12_heard_35 : decode cX12_heard 35 = .ok (.if_icmp .ne 5, 3) := by decide +kernel
theorem dX12_heard_38 : decode cX12_heard 38 = .ok (.iconst (-1), 1) := by decide +kernel
theorem dX12_heard_39 : decode cX12_heard 39 = .ok (.ireturn, 1) := by decide +kernel
theorem dX12_heard_40 : decode cX12_heard 40 = .ok (.aload_n 0, 1) := by decide +kernel
theorem dX12_heard_41 : decode cX12_heard 41 = .ok (.getfield 60, 3) := by decide +kernel
theorem dX12_heard_44 : decode cX12_heard 44 = .ok (.aload_n 0, 1) := by decide +kernel
theorem dX12_heard_45 : decode cX12_heard 45 = .ok (.getfield 345, 3) := by decide +kernel
theorem dX12_heard_48 : decode cX12_heard 48 = .ok (.iload_n 1, 1) := by decide +kernel
theorem dX12_heard_49 : decode cX12_heard 49 = .ok (.iastore, 1) := by decide +kernel
theorem dX12_heard_50 : decode cX12_heard 50 = .ok (.aload_n 0, 1) := by decide +kernel
theorem dX12_heard_51 : decode cX12_heard 51 = .ok (.getfield 63, 3) := by decide +kernel
theorem dX12_heard_54 : decode cX12_heard 54 = .ok (.aload_n 0, 1) := by decide +kernel
theorem dX12_heard_55 : decode cX12_heard 55 = .ok (.getfield 345, 3) := by decide +kernel
theorem dX12_heard_58 : decode cX12_heard 58 = .ok (.iload_n 2, 1) := by decide +kernel
theorem dX12_heard_59 : decode cX12_heard 59 = .ok (.iastore, 1) := by decide +kernel
theorem dX12_heard_60 : decode cX12_heard 60 = .ok (.aload_n 0, 1) := by decide +kernel
theorem dX12_heard_61 : decode cX12_heard 61 = .ok (.dup, 1) := by decide +kernel
theorem dX12_heard_62 : decode cX12_heard 62 = .ok (.getfield 345, 3) := by decide +kernel
theorem dX12_heard_65 : decode cX12_heard 65 = .ok (.iconst 1, 1) := by decide +kernel
theorem dX12_heard_66 : decode cX12_heard 66 = .ok (.iadd, 1) := by decide +kernel
theorem dX12_heard_67 : decode cX12_heard 67 = .ok (.putfield 345, 3) := by decide +kernel
theorem dX12_heard_70 : decode cX12_heard 70 = .ok (.aload_n 0, 1) := by decide +kernel
theorem dX12_heard_71 : decode cX12_heard 71 = .ok (.getfield 345, 3) := by decide +kernel
theorem dX12_heard_74 : decode cX12_heard 74 = .ok (.ireturn, 1) := by decide +kernel
theorem dX12_forget_0 : decode cX12_forget 0 = .ok (.aload_n 0, 1) := by decide +kernel
theorem dX12_forget_1 : decode cX12_forget 1 = .ok (.iconst 0, 1) := by decide +kernel
theorem dX12_forget_2 : decode cX12_forget 2 = .ok (.putfield 82, 3) := by decide +kernel
theorem dX12_forget_5 : decode cX12_forget 5 = .ok (.aload_n 0, 1) := by decide +kernel
theorem dX12_forget_6 : decode cX12_forget 6 = .ok (.getfield 345, 3) := by decide +kernel
theorem dX12_forget_9 : decode cX12_forget 9 = .ok (.istore_n 1, 1) := by decide +kernel
theorem dX12_forget_10 : decode cX12_forget 10 = .ok (.aload_n 0, 1) := by decide +kernel
theorem dX12_forget_11 : decode cX12_forget 11 = .ok (.iconst 0, 1) := by decide +kernel
theorem dX12_forget_12 : decode cX12_forget 12 = .ok (.putfield 345, 3) := by decide +kernel
theorem dX12_forget_15 : decode cX12_forget 15 = .ok (.iload_n 1, 1) := by decide +kernel
theorem dX12_forget_16 : decode cX12_forget 16 = .ok (.ireturn, 1) := by decide +kernel
theorem dX12_isSo_0 : decode cX12_isSo 0 = .ok (.iload_n 1, 1) := by decide +kernel
theorem dX12_isSo_1 : decode cX12_isSo 1 = .ok (.iconst 5, 1) := by decide +kernel
theorem dX12_isSo_2 : decode cX12_isSo 2 = .ok (.idiv, 1) := by decide +kernel
theorem dX12_isSo_3 : decode cX12_isSo 3 = .ok (.istore 4, 2) := by decide +kernel
theorem dX12_isSo_5 : decode cX12_isSo 5 = .ok (.iload_n 1, 1) := by decide +kernel
theorem dX12_isSo_6 : decode cX12_isSo 6 = .ok (.iconst 5, 1) := by decide +kernel
theorem dX12_isSo_7 : decode cX12_isSo 7 = .ok (.irem, 1) := by decide +kernel
theorem dX12_isSo_8 : decode cX12_isSo 8 = .ok (.istore 5, 2) := by decide +kernel
theorem dX12_isSo_10 : decode cX12_isSo 10 = .ok (.iload_n 2, 1) := by decide +kernel
theorem dX12_isSo_11 : decode cX12_isSo 11 = .ok (.tableswitch 65 0 2 #[25, 37, 53], 25) := by decide +kernel
theorem dX12_isSo_36 : decode cX12_isSo 36 = .ok (.iload 4, 2) := by decide +kernel
theorem dX12_isSo_38 : decode cX12_isSo 38 = .ok (.iload_n 3, 1) := by decide +kernel
theorem dX12_isSo_39 : decode cX12_isSo 39 = .ok (.if_icmp .ne 7, 3) := by decide +kernel
theorem dX12_isSo_42 : decode cX12_isSo 42 = .ok (.iconst 1, 1) := by decide +kernel
theorem dX12_isSo_43 : decode cX12_isSo 43 = .ok (.goto 4, 3) := by decide +kernel
theorem dX12_isSo_46 : decode cX12_isSo 46 = .ok (.iconst 0, 1) := by decide +kernel
theorem dX12_isSo_47 : decode cX12_isSo 47 = .ok (.ireturn, 1) := by decide +kernel
theorem dX12_isSo_48 : decode cX12_isSo 48 = .ok (.aload_n 0, 1) := by decide +kernel
theorem dX12_isSo_49 : decode cX12_isSo 49 = .ok (.getfield 9, 3) := by decide +kernel
theorem dX12_isSo_52 : decode cX12_isSo 52 = .ok (.iload_n 1, 1) := by decide +kernel
theorem dX12_isSo_53 : decode cX12_isSo 53 = .ok (.iaload, 1) := by decide +kernel
theorem dX12_isSo_54 : decode cX12_isSo 54 = .ok (.iload_n 3, 1) := by decide +kernel
theorem dX12_isSo_55 : decode cX12_isSo 55 = .ok (.if_icmp .lt 7, 3) := by decide +kernel
theorem dX12_isSo_58 : decode cX12_isSo 58 = .ok (.iconst 1, 1) := by decide +kernel
theorem dX12_isSo_59 : decode cX12_isSo 59 = .ok (.goto 4, 3) := by decide +kernel
theorem dX12_isSo_62 : decode cX12_isSo 62 = .ok (.iconst 0, 1) := by decide +kernel
theorem dX12_isSo_63 : decode cX12_isSo 63 = .ok (.ireturn, 1) := by decide +kernel
theorem dX12_isSo_64 : decode cX12_isSo 64 = .ok (.iload 5, 2) := by decide +kernel
theorem dX12_isSo_66 : decode cX12_isSo 66 = .ok (.iload_n 3, 1) := by decide +kernel
theorem dX12_isSo_67 : decode cX12_isSo 67 = .ok (.if_icmp .ne 7, 3) := by decide +kernel
theorem dX12_isSo_70 : decode cX12_isSo 70 = .ok (.iconst 1, 1) := by decide +kernel
theorem dX12_isSo_71 : decode cX12_isSo 71 = .ok (.goto 4, 3) := by decide +kernel
theorem dX12_isSo_74 : decode cX12_isSo 74 = .ok (.iconst 0, 1) := by decide +kernel
theorem dX12_isSo_75 : decode cX12_isSo 75 = .ok (.ireturn, 1) := by decide +kernel
theorem dX12_isSo_76 : decode cX12_isSo 76 = .ok (.aload_n 0, 1) := by decide +kernel
theorem dX12_isSo_77 : decode cX12_isSo 77 = .ok (.getfield 9, 3) := by decide +kernel
theorem dX12_isSo_80 : decode cX12_isSo 80 = .ok (.iload 4, 2) := by decide +kernel
theorem dX12_isSo_82 : decode cX12_isSo 82 = .ok (.invokestatic 234, 3) := by decide +kernel
theorem dX12_isSo_85 : decode cX12_isSo 85 = .ok (.iload 5, 2) := by decide +kernel
theorem dX12_isSo_87 : decode cX12_isSo 87 = .ok (.invokestatic 183, 3) := by decide +kernel
theorem dX12_isSo_90 : decode cX12_isSo 90 = .ok (.iload_n 3, 1) := by decide +kernel
theorem dX12_isSo_91 : decode cX12_isSo 91 = .ok (.iconst 1, 1) := by decide +kernel
theorem dX12_isSo_92 : decode cX12_isSo 92 = .ok (.if_icmp .ne 7, 3) := by decide +kernel
theorem dX12_isSo_95 : decode cX12_isSo 95 = .ok (.iconst 1, 1) := by decide +kernel
theorem dX12_isSo_96 : decode cX12_isSo 96 = .ok (.goto 4, 3) := by decide +kernel
theorem dX12_isSo_99 : decode cX12_isSo 99 = .ok (.iconst 0, 1) := by decide +kernel
theorem dX12_isSo_100 : decode cX12_isSo 100 = .ok (.if_icmp .ne 7, 3) := by decide +kernel
theorem dX12_isSo_103 : decode cX12_isSo 103 = .ok (.iconst 1, 1) := by decide +kernel
theorem dX12_isSo_104 : decode cX12_isSo 104 = .ok (.goto 4, 3) := by decide +kernel
theorem dX12_isSo_107 : decode cX12_isSo 107 = .ok (.iconst 0, 1) := by decide +kernel
theorem dX12_isSo_108 : decode cX12_isSo 108 = .ok (.ireturn, 1) := by decide +kernel
theorem dX12_fitting_0 : decode cX12_fitting 0 = .ok (.iconst 0, 1) := by decide +kernel
theorem dX12_fitting_1 : decode cX12_fitting 1 = .ok (.istore_n 1, 1) := by decide +kernel
theorem dX12_fitting_2 : decode cX12_fitting 2 = .ok (.iconst 0, 1) := by decide +kernel
theorem dX12_fitting_3 : decode cX12_fitting 3 = .ok (.istore_n 2, 1) := by decide +kernel
theorem dX12_fitting_4 : decode cX12_fitting 4 = .ok (.iload_n 2, 1) := by decide +kernel
theorem dX12_fitting_5 : decode cX12_fitting 5 = .ok (.bipush 10, 2) := by decide +kernel
theorem dX12_fitting_7 : decode cX12_fitting 7 = .ok (.if_icmp .ge 76, 3) := by decide +kernel
theorem dX12_fitting_10 : decode cX12_fitting 10 = .ok (.aload_n 0, 1) := by decide +kernel
theorem dX12_fitting_11 : decode cX12_fitting 11 = .ok (.iload_n 2, 1) := by decide +kernel
theorem dX12_fitting_12 : decode cX12_fitting 12 = .ok (.iconst 5, 1) := by decide +kernel
theorem dX12_fitting_13 : decode cX12_fitting 13 = .ok (.idiv, 1) := by decide +kernel
theorem dX12_fitting_14 : decode cX12_fitting 14 = .ok (.iload_n 2, 1) := by decide +kernel
theorem dX12_fitting_15 : decode cX12_fitting 15 = .ok (.iconst 5, 1) := by decide +kernel
theorem dX12_fitting_16 : decode cX12_fitting 16 = .ok (.irem, 1) := by decide +kernel
theorem dX12_fitting_17 : decode cX12_fitting 17 = .ok (.invokevirtual 204, 3) := by decide +kernel
theorem dX12_fitting_20 : decode cX12_fitting 20 = .ok (.istore_n 3, 1) := by decide +kernel
theorem dX12_fitting_21 : decode cX12_fitting 21 = .ok (.iconst 0, 1) := by decide +kernel
theorem dX12_fitting_22 : decode cX12_fitting 22 = .ok (.istore 4, 2) := by decide +kernel
theorem dX12_fitting_24 : decode cX12_fitting 24 = .ok (.iload 4, 2) := by decide +kernel
theorem dX12_fitting_26 : decode cX12_fitting 26 = .ok (.aload_n 0, 1) := by decide +kernel
theorem dX12_fitting_27 : decode cX12_fitting 27 = .ok (.getfield 345, 3) := by decide +kernel
theorem dX12_fitting_30 : decode cX12_fitting 30 = .ok (.if_icmp .ge 33, 3) := by decide +kernel
theorem dX12_fitting_33 : decode cX12_fitting 33 = .ok (.iload_n 3, 1) := by decide +kernel
theorem dX12_fitting_34 : decode cX12_fitting 34 = .ok (.ifCond .eq 29, 3) := by decide +kernel
theorem dX12_fitting_37 : decode cX12_fitting 37 = .ok (.aload_n 0, 1) := by decide +kernel
theorem dX12_fitting_38 : decode cX12_fitting 38 = .ok (.iload_n 2, 1) := by decide +kernel
theorem dX12_fitting_39 : decode cX12_fitting 39 = .ok (.aload_n 0, 1) := by decide +kernel
theorem dX12_fitting_40 : decode cX12_fitting 40 = .ok (.getfield 60, 3) := by decide +kernel
theorem dX12_fitting_43 : decode cX12_fitting 43 = .ok (.iload 4, 2) := by decide +kernel
theorem dX12_fitting_45 : decode cX12_fitting 45 = .ok (.iaload, 1) := by decide +kernel
theorem dX12_fitting_46 : decode cX12_fitting 46 = .ok (.aload_n 0, 1) := by decide +kernel
theorem dX12_fitting_47 : decode cX12_fitting 47 = .ok (.getfield 63, 3) := by decide +kernel
theorem dX12_fitting_50 : decode cX12_fitting 50 = .ok (.iload 4, 2) := by decide +kernel
theorem dX12_fitting_52 : decode cX12_fitting 52 = .ok (.iaload, 1) := by decide +kernel
theorem dX12_fitting_53 : decode cX12_fitting 53 = .ok (.invokevirtual 348, 3) := by decide +kernel
theorem dX12_fitting_56 : decode cX12_fitting 56 = .ok (.istore_n 3, 1) := by decide +kernel
theorem dX12_fitting_57 : decode cX12_fitting 57 = .ok (.iinc 4 1, 3) := by decide +kernel
theorem dX12_fitting_60 : decode cX12_fitting 60 = .ok (.goto (-36), 3) := by decide +kernel
theorem dX12_fitting_63 : decode cX12_fitting 63 = .ok (.iload_n 1, 1) := by decide +kernel
theorem dX12_fitting_64 : decode cX12_fitting 64 = .ok (.iload_n 3, 1) := by decide +kernel
theorem dX12_fitting_65 : decode cX12_fitting 65 = .ok (.ifCond .eq 9, 3) := by decide +kernel
theorem dX12_fitting_68 : decode cX12_fitting 68 = .ok (.iconst 1, 1) := by decide +kernel
theorem dX12_fitting_69 : decode cX12_fitting 69 = .ok (.iload_n 2, 1) := by decide +kernel
theorem dX12_fitting_70 : decode cX12_fitting 70 = .ok (.ishl, 1) := by decide +kernel
theorem dX12_fitting_71 : decode cX12_fitting 71 = .ok (.goto 4, 3) := by decide +kernel
theorem dX12_fitting_74 : decode cX12_fitting 74 = .ok (.iconst 0, 1) := by decide +kernel
theorem dX12_fitting_75 : decode cX12_fitting 75 = .ok (.ior, 1) := by decide +kernel
theorem dX12_fitting_76 : decode cX12_fitting 76 = .ok (.istore_n 1, 1) := by decide +kernel
theorem dX12_fitting_77 : decode cX12_fitting 77 = .ok (.iinc 2 1, 3) := by decide +kernel
theorem dX12_fitting_80 : decode cX12_fitting 80 = .ok (.goto (-76), 3) := by decide +kernel
theorem dX12_fitting_83 : decode cX12_fitting 83 = .ok (.iload_n 1, 1) := by decide +kernel
theorem dX12_fitting_84 : decode cX12_fitting 84 = .ok (.ireturn, 1) := by decide +kernel
theorem dX12_fits_0 : decode cX12_fits 0 = .ok (.aload_n 0, 1) := by decide +kernel
theorem dX12_fits_1 : decode cX12_fits 1 = .ok (.iconst 0, 1) := by decide +kernel
theorem dX12_fits_2 : decode cX12_fits 2 = .ok (.putfield 82, 3) := by decide +kernel
theorem dX12_fits_5 : decode cX12_fits 5 = .ok (.aload_n 0, 1) := by decide +kernel
theorem dX12_fits_6 : decode cX12_fits 6 = .ok (.invokevirtual 351, 3) := by decide +kernel
theorem dX12_fits_9 : decode cX12_fits 9 = .ok (.istore_n 1, 1) := by decide +kernel
theorem dX12_fits_10 : decode cX12_fits 10 = .ok (.aload_n 0, 1) := by decide +kernel
theorem dX12_fits_11 : decode cX12_fits 11 = .ok (.iconst 0, 1) := by decide +kernel
theorem dX12_fits_12 : decode cX12_fits 12 = .ok (.putfield 86, 3) := by decide +kernel
theorem dX12_fits_15 : decode cX12_fits 15 = .ok (.aload_n 0, 1) := by decide +kernel
theorem dX12_fits_16 : decode cX12_fits 16 = .ok (.iload_n 1, 1) := by decide +kernel
theorem dX12_fits_17 : decode cX12_fits 17 = .ok (.invokestatic 229, 3) := by decide +kernel
theorem dX12_fits_20 : decode cX12_fits 20 = .ok (.i2l, 1) := by decide +kernel
theorem dX12_fits_21 : decode cX12_fits 21 = .ok (.invokevirtual 253, 3) := by decide +kernel
theorem dX12_fits_24 : decode cX12_fits 24 = .ok (.iload_n 1, 1) := by decide +kernel
theorem dX12_fits_25 : decode cX12_fits 25 = .ok (.ireturn, 1) := by decide +kernel
theorem dX12_asks_0 : decode cX12_asks 0 = .ok (.aload_n 0, 1) := by decide +kernel
theorem dX12_asks_1 : decode cX12_asks 1 = .ok (.iconst 0, 1) := by decide +kernel
theorem dX12_asks_2 : decode cX12_asks 2 = .ok (.putfield 82, 3) := by decide +kernel
theorem dX12_asks_5 : decode cX12_asks 5 = .ok (.aload_n 0, 1) := by decide +kernel
theorem dX12_asks_6 : decode cX12_asks 6 = .ok (.invokevirtual 351, 3) := by decide +kernel
theorem dX12_asks_9 : decode cX12_asks 9 = .ok (.istore_n 1, 1) := by decide +kernel
theorem dX12_asks_10 : decode cX12_asks 10 = .ok (.iload_n 1, 1) := by decide +kernel
theorem dX12_asks_11 : decode cX12_asks 11 = .ok (.ifCond .ne 6, 3) := by decide +kernel
theorem dX12_asks_14 : decode cX12_asks 14 = .ok (.bipush (-2), 2) := by decide +kernel
theorem dX12_asks_16 : decode cX12_asks 16 = .ok (.ireturn, 1) := by decide +kernel
theorem dX12_asks_17 : decode cX12_asks 17 = .ok (.iconst (-1), 1) := by decide +kernel
theorem dX12_asks_18 : decode cX12_asks 18 = .ok (.istore_n 2, 1) := by decide +kernel
theorem dX12_asks_19 : decode cX12_asks 19 = .ok (.ldc_w 300, 3) := by decide +kernel
theorem dX12_asks_22 : decode cX12_asks 22 = .ok (.istore_n 3, 1) := by decide +kernel
theorem dX12_asks_23 : decode cX12_asks 23 = .ok (.iconst 0, 1) := by decide +kernel
theorem dX12_asks_24 : decode cX12_asks 24 = .ok (.istore 4, 2) := by decide +kernel
theorem dX12_asks_26 : decode cX12_asks 26 = .ok (.iload 4, 2) := by decide +kernel
theorem dX12_asks_28 : decode cX12_asks 28 = .ok (.bipush 40, 2) := by decide +kernel
theorem dX12_asks_30 : decode cX12_asks 30 = .ok (.if_icmp .ge 125, 3) := by decide +kernel
theorem dX12_asks_33 : decode cX12_asks 33 = .ok (.iload 4, 2) := by decide +kernel
theorem dX12_asks_35 : decode cX12_asks 35 = .ok (.bipush 10, 2) := by decide +kernel
theorem dX12_asks_37 : decode cX12_asks 37 = .ok (.irem, 1) := by decide +kernel
theorem dX12_asks_38 : decode cX12_asks 38 = .ok (.iload 4, 2) := by decide +kernel
theorem dX12_asks_40 : decode cX12_asks 40 = .ok (.bipush 10, 2) := by decide +kernel
theorem dX12_asks_42 : decode cX12_asks 42 = .ok (.idiv, 1) := by decide +kernel
theorem dX12_asks_43 : decode cX12_asks 43 = .ok (.invokestatic 339, 3) := by decide +kernel
theorem dX12_asks_46 : decode cX12_asks 46 = .ok (.iload 4, 2) := by decide +kernel
theorem dX12_asks_48 : decode cX12_asks 48 = .ok (.bipush 10, 2) := by decide +kernel
theorem dX12_asks_50 : decode cX12_asks 50 = .ok (.idiv, 1) := by decide +kernel
theorem dX12_asks_51 : decode cX12_asks 51 = .ok (.invokestatic 342, 3) := by decide +kernel
theorem dX12_asks_54 : decode cX12_asks 54 = .ok (.invokestatic 89, 3) := by decide +kernel
theorem dX12_asks_57 : decode cX12_asks 57 = .ok (.ifCond .ne 6, 3) := by decide +kernel
theorem dX12_asks_60 : decode cX12_asks 60 = .ok (.goto 89, 3) := by decide +kernel
theorem dX12_asks_63 : decode cX12_asks 63 = .ok (.iconst 0, 1) := by decide +kernel
theorem dX12_asks_64 : decode cX12_asks 64 = .ok (.istore 5, 2) := by decide +kernel
theorem dX12_asks_66 : decode cX12_asks 66 = .ok (.iconst 0, 1) := by decide +kernel
theorem dX12_asks_67 : decode cX12_asks 67 = .ok (.istore 6, 2) := by decide +kernel
theorem dX12_asks_69 : decode cX12_asks 69 = .ok (.iload 6, 2) := by decide +kernel
theorem dX12_asks_71 : decode cX12_asks 71 = .ok (.bipush 10, 2) := by decide +kernel
theorem dX12_asks_73 : decode cX12_asks 73 = .ok (.if_icmp .ge 47, 3) := by decide +kernel
theorem dX12_asks_76 : decode cX12_asks 76 = .ok (.iload 5, 2) := by decide +kernel
theorem dX12_asks_78 : decode cX12_asks 78 = .ok (.iload_n 1, 1) := by decide +kernel
theorem dX12_asks_79 : decode cX12_asks 79 = .ok (.iload 6, 2) := by decide +kernel
theorem dX12_asks_81 : decode cX12_asks 81 = .ok (.invokestatic 183, 3) := by decide +kernel
theorem dX12_asks_84 : decode cX12_asks 84 = .ok (.ifCond .eq 26, 3) := by decide +kernel
theorem dX12_asks_87 : decode cX12_asks 87 = .ok (.aload_n 0, 1) := by decide +kernel
theorem dX12_asks_88 : decode cX12_asks 88 = .ok (.iload 6, 2) := by decide +kernel
theorem dX12_asks_90 : decode cX12_asks 90 = .ok (.iload 4, 2) := by decide +kernel
theorem dX12_asks_92 : decode cX12_asks 92 = .ok (.bipush 10, 2) := by decide +kernel
theorem dX12_asks_94 : decode cX12_asks 94 = .ok (.idiv, 1) := by decide +kernel
theorem dX12_asks_95 : decode cX12_asks 95 = .ok (.iload 4, 2) := by decide +kernel
theorem dX12_asks_97 : decode cX12_asks 97 = .ok (.bipush 10, 2) := by decide +kernel
theorem dX12_asks_99 : decode cX12_asks 99 = .ok (.irem, 1) := by decide +kernel
theorem dX12_asks_100 : decode cX12_asks 100 = .ok (.invokevirtual 348, 3) := by decide +kernel
theorem dX12_asks_103 : decode cX12_asks 103 = .ok (.ifCond .eq 7, 3) := by decide +kernel
theorem dX12_asks_106 : decode cX12_asks 106 = .ok (.iconst 1, 1) := by decide +kernel
theorem dX12_asks_107 : decode cX12_asks 107 = .ok (.goto 4, 3) := by decide +kernel
theorem dX12_asks_110 : decode cX12_asks 110 = .ok (.iconst 0, 1) := by decide +kernel
theorem dX12_asks_111 : decode cX12_asks 111 = .ok (.iadd, 1) := by decide +kernel
theorem dX12_asks_112 : decode cX12_asks 112 = .ok (.istore 5, 2) := by decide +kernel
theorem dX12_asks_114 : decode cX12_asks 114 = .ok (.iinc 6 1, 3) := by decide +kernel
theorem dX12_asks_117 : decode cX12_asks 117 = .ok (.goto (-48), 3) := by decide +kernel
theorem dX12_asks_120 : decode cX12_asks 120 = .ok (.iload 5, 2) := by decide +kernel
theorem dX12_asks_122 : decode cX12_asks 122 = .ok (.iload_n 1, 1) := by decide +kernel
theorem dX12_asks_123 : decode cX12_asks 123 = .ok (.invokestatic 229, 3) := by decide +kernel
theorem dX12_asks_126 : decode cX12_asks 126 = .ok (.iload 5, 2) := by decide +kernel
theorem dX12_asks_128 : decode cX12_asks 128 = .ok (.isub, 1) := by decide +kernel
theorem dX12_asks_129 : decode cX12_asks 129 = .ok (.invokestatic 201, 3) := by decide +kernel
theorem dX12_asks_132 : decode cX12_asks 132 = .ok (.istore 6, 2) := by decide +kernel
theorem dX12_asks_134 : decode cX12_asks 134 = .ok (.iload 6, 2) := by decide +kernel
theorem dX12_asks_136 : decode cX12_asks 136 = .ok (.iload_n 3, 1) := by decide +kernel
theorem dX12_asks_137 : decode cX12_asks 137 = .ok (.if_icmp .lt 6, 3) := by decide +kernel
theorem dX12_asks_140 : decode cX12_asks 140 = .ok (.goto 9, 3) := by decide +kernel
theorem dX12_asks_143 : decode cX12_asks 143 = .ok (.iload 4, 2) := by decide +kernel
theorem dX12_asks_145 : decode cX12_asks 145 = .ok (.istore_n 2, 1) := by decide +kernel
theorem dX12_asks_146 : decode cX12_asks 146 = .ok (.iload 6, 2) := by decide +kernel
theorem dX12_asks_148 : decode cX12_asks 148 = .ok (.istore_n 3, 1) := by decide +kernel
theorem dX12_asks_149 : decode cX12_asks 149 = .ok (.iinc 4 1, 3) := by decide +kernel
theorem dX12_asks_152 : decode cX12_asks 152 = .ok (.goto (-126), 3) := by decide +kernel
theorem dX12_asks_155 : decode cX12_asks 155 = .ok (.aload_n 0, 1) := by decide +kernel
theorem dX12_asks_156 : decode cX12_asks 156 = .ok (.iconst 0, 1) := by decide +kernel
theorem dX12_asks_157 : decode cX12_asks 157 = .ok (.putfield 86, 3) := by decide +kernel
theorem dX12_asks_160 : decode cX12_asks 160 = .ok (.aload_n 0, 1) := by decide +kernel
theorem dX12_asks_161 : decode cX12_asks 161 = .ok (.iload_n 3, 1) := by decide +kernel
theorem dX12_asks_162 : decode cX12_asks 162 = .ok (.i2l, 1) := by decide +kernel
theorem dX12_asks_163 : decode cX12_asks 163 = .ok (.invokevirtual 253, 3) := by decide +kernel
theorem dX12_asks_166 : decode cX12_asks 166 = .ok (.iload_n 2, 1) := by decide +kernel
theorem dX12_asks_167 : decode cX12_asks 167 = .ok (.ireturn, 1) := by decide +kernel
theorem dX12_saw_0 : decode cX12_saw 0 = .ok (.aload_n 0, 1) := by decide +kernel
theorem dX12_saw_1 : decode cX12_saw 1 = .ok (.iconst 0, 1) := by decide +kernel
theorem dX12_saw_2 : decode cX12_saw 2 = .ok (.putfield 82, 3) := by decide +kernel
theorem dX12_saw_5 : decode cX12_saw 5 = .ok (.iload_n 1, 1) := by decide +kernel
theorem dX12_saw_6 : decode cX12_saw 6 = .ok (.iconst 0, 1) := by decide +kernel
theorem dX12_saw_7 : decode cX12_saw 7 = .ok (.bipush 30, 2) := by decide +kernel
theorem dX12_saw_9 : decode cX12_saw 9 = .ok (.invokestatic 89, 3) := by decide +kernel
theorem dX12_saw_12 : decode cX12_saw 12 = .ok (.ifCond .eq 31, 3) := by decide +kernel
theorem dX12_saw_15 : decode cX12_saw 15 = .ok (.iload_n 2, 1) := by decide +kernel
theorem dX12_saw_16 : decode cX12_saw 16 = .ok (.iconst 0, 1) := by decide +kernel
theorem dX12_saw_17 : decode cX12_saw 17 = .ok (.bipush 30, 2) := by decide +kernel
theorem dX12_saw_19 : decode cX12_saw 19 = .ok (.invokestatic 89, 3) := by decide +kernel
theorem dX12_saw_22 : decode cX12_saw 22 = .ok (.ifCond .eq 21, 3) := by decide +kernel
theorem dX12_saw_25 : decode cX12_saw 25 = .ok (.iload_n 3, 1) := by decide +kernel
theorem dX12_saw_26 : decode cX12_saw 26 = .ok (.iconst 0, 1) := by decide +kernel
theorem dX12_saw_27 : decode cX12_saw 27 = .ok (.iconst 1, 1) := by decide +kernel
theorem dX12_saw_28 : decode cX12_saw 28 = .ok (.invokestatic 89, 3) := by decide +kernel
theorem dX12_saw_31 : decode cX12_saw 31 = .ok (.ifCond .eq 12, 3) := by decide +kernel
theorem dX12_saw_34 : decode cX12_saw 34 = .ok (.aload_n 0, 1) := by decide +kernel
theorem dX12_saw_35 : decode cX12_saw 35 = .ok (.getfield 354, 3) := by decide +kernel
theorem dX12_saw_38 : decode cX12_saw 38 = .ok (.bipush 10, 2) := by decide +kernel
theorem dX12_saw_40 : decode cX12_saw 40 = .ok (.if_icmp .ne 5, 3) := by decide +kernel
theorem dX12_saw_43 : decode cX12_saw 43 = .ok (.iconst (-1), 1) := by decide +kernel
theorem dX12_saw_44 : decode cX12_saw 44 = .ok (.ireturn, 1) := by decide +kernel
theorem dX12_saw_45 : decode cX12_saw 45 = .ok (.aload_n 0, 1) := by decide +kernel
theorem dX12_saw_46 : decode cX12_saw 46 = .ok (.getfield 66, 3) := by decide +kernel
theorem dX12_saw_49 : decode cX12_saw 49 = .ok (.aload_n 0, 1) := by decide +kernel
theorem dX12_saw_50 : decode cX12_saw 50 = .ok (.getfield 354, 3) := by decide +kernel
theorem dX12_saw_53 : decode cX12_saw 53 = .ok (.iload_n 1, 1) := by decide +kernel
theorem dX12_saw_54 : decode cX12_saw 54 = .ok (.iload_n 2, 1) := by decide +kernel
theorem dX12_saw_55 : decode cX12_saw 55 = .ok (.isub, 1) := by decide +kernel
theorem dX12_saw_56 : decode cX12_saw 56 = .ok (.iastore, 1) := by decide +kernel
theorem dX12_saw_57 : decode cX12_saw 57 = .ok (.aload_n 0, 1) := by decide +kernel
theorem dX12_saw_58 : decode cX12_saw 58 = .ok (.getfield 69, 3) := by decide +kernel
theorem dX12_saw_61 : decode cX12_saw 61 = .ok (.aload_n 0, 1) := by decide +kernel
theorem dX12_saw_62 : decode cX12_saw 62 = .ok (.getfield 354, 3) := by decide +kernel
theorem dX12_saw_65 : decode cX12_saw 65 = .ok (.iload_n 3, 1) := by decide +kernel
theorem dX12_saw_66 : decode cX12_saw 66 = .ok (.iastore, 1) := by decide +kernel
theorem dX12_saw_67 : decode cX12_saw 67 = .ok (.aload_n 0, 1) := by decide +kernel
theorem dX12_saw_68 : decode cX12_saw 68 = .ok (.dup, 1) := by decide +kernel
theorem dX12_saw_69 : decode cX12_saw 69 = .ok (.getfield 354, 3) := by decide +kernel
theorem dX12_saw_72 : decode cX12_saw 72 = .ok (.iconst 1, 1) := by decide +kernel
theorem dX12_saw_73 : decode cX12_saw 73 = .ok (.iadd, 1) := by decide +kernel
theorem dX12_saw_74 : decode cX12_saw 74 = .ok (.putfield 354, 3) := by decide +kernel
theorem dX12_saw_77 : decode cX12_saw 77 = .ok (.aload_n 0, 1) := by decide +kernel
theorem dX12_saw_78 : decode cX12_saw 78 = .ok (.getfield 354, 3) := by decide +kernel
theorem dX12_saw_81 : decode cX12_saw 81 = .ok (.ireturn, 1) := by decide +kernel
theorem dX12_denies_0 : decode cX12_denies 0 = .ok (.aload_n 0, 1) := by decide +kernel
theorem dX12_denies_1 : decode cX12_denies 1 = .ok (.iconst 0, 1) := by decide +kernel
theorem dX12_denies_2 : decode cX12_denies 2 = .ok (.putfield 82, 3) := by decide +kernel
theorem dX12_denies_5 : decode cX12_denies 5 = .ok (.aload_n 0, 1) := by decide +kernel
theorem dX12_denies_6 : decode cX12_denies 6 = .ok (.getfield 354, 3) := by decide +kernel
theorem dX12_denies_9 : decode cX12_denies 9 = .ok (.istore_n 1, 1) := by decide +kernel
theorem dX12_denies_10 : decode cX12_denies 10 = .ok (.aload_n 0, 1) := by decide +kernel
theorem dX12_denies_11 : decode cX12_denies 11 = .ok (.iconst 0, 1) := by decide +kernel
theorem dX12_denies_12 : decode cX12_denies 12 = .ok (.putfield 354, 3) := by decide +kernel
theorem dX12_denies_15 : decode cX12_denies 15 = .ok (.iload_n 1, 1) := by decide +kernel
theorem dX12_denies_16 : decode cX12_denies 16 = .ok (.ireturn, 1) := by decide +kernel
theorem dX12_runsBy_0 : decode cX12_runsBy 0 = .ok (.iload_n 1, 1) := by decide +kernel
theorem dX12_runsBy_1 : decode cX12_runsBy 1 = .ok (.iload_n 0, 1) := by decide +kernel
theorem dX12_runsBy_2 : decode cX12_runsBy 2 = .ok (.bipush 8, 2) := by decide +kernel
theorem dX12_runsBy_4 : decode cX12_runsBy 4 = .ok (.idiv, 1) := by decide +kernel
theorem dX12_runsBy_5 : decode cX12_runsBy 5 = .ok (.iconst 5, 1) := by decide +kernel
theorem dX12_runsBy_6 : decode cX12_runsBy 6 = .ok (.iload_n 0, 1) := by decide +kernel
theorem dX12_runsBy_7 : decode cX12_runsBy 7 = .ok (.bipush 8, 2) := by decide +kernel
theorem dX12_runsBy_9 : decode cX12_runsBy 9 = .ok (.irem, 1) := by decide +kernel
theorem dX12_runsBy_10 : decode cX12_runsBy 10 = .ok (.iadd, 1) := by decide +kernel
theorem dX12_runsBy_11 : decode cX12_runsBy 11 = .ok (.invokestatic 89, 3) := by decide +kernel
theorem dX12_runsBy_14 : decode cX12_runsBy 14 = .ok (.ireturn, 1) := by decide +kernel
theorem dX12_isLaw_0 : decode cX12_isLaw 0 = .ok (.iconst 0, 1) := by decide +kernel
theorem dX12_isLaw_1 : decode cX12_isLaw 1 = .ok (.istore_n 2, 1) := by decide +kernel
theorem dX12_isLaw_2 : decode cX12_isLaw 2 = .ok (.iload_n 2, 1) := by decide +kernel
theorem dX12_isLaw_3 : decode cX12_isLaw 3 = .ok (.aload_n 0, 1) := by decide +kernel
theorem dX12_isLaw_4 : decode cX12_isLaw 4 = .ok (.getfield 354, 3) := by decide +kernel
theorem dX12_isLaw_7 : decode cX12_isLaw 7 = .ok (.if_icmp .ge 39, 3) := by decide +kernel
theorem dX12_isLaw_10 : decode cX12_isLaw 10 = .ok (.iload_n 1, 1) := by decide +kernel
theorem dX12_isLaw_11 : decode cX12_isLaw 11 = .ok (.aload_n 0, 1) := by decide +kernel
theorem dX12_isLaw_12 : decode cX12_isLaw 12 = .ok (.getfield 66, 3) := by decide +kernel
theorem dX12_isLaw_15 : decode cX12_isLaw 15 = .ok (.iload_n 2, 1) := by decide +kernel
theorem dX12_isLaw_16 : decode cX12_isLaw 16 = .ok (.iaload, 1) := by decide +kernel
theorem dX12_isLaw_17 : decode cX12_isLaw 17 = .ok (.invokestatic 357, 3) := by decide +kernel
theorem dX12_isLaw_20 : decode cX12_isLaw 20 = .ok (.aload_n 0, 1) := by decide +kernel
theorem dX12_isLaw_21 : decode cX12_isLaw 21 = .ok (.getfield 69, 3) := by decide +kernel
theorem dX12_isLaw_24 : decode cX12_isLaw 24 = .ok (.iload_n 2, 1) := by decide +kernel
theorem dX12_isLaw_25 : decode cX12_isLaw 25 = .ok (.iaload, 1) := by decide +kernel
theorem dX12_isLaw_26 : decode cX12_isLaw 26 = .ok (.iconst 1, 1) := by decide +kernel
theorem dX12_isLaw_27 : decode cX12_isLaw 27 = .ok (.if_icmp .ne 7, 3) := by decide +kernel
theorem dX12_isLaw_30 : decode cX12_isLaw 30 = .ok (.iconst 1, 1) := by decide +kernel
theorem dX12_isLaw_31 : decode cX12_isLaw 31 = .ok (.goto 4, 3) := by decide +kernel
theorem dX12_isLaw_34 : decode cX12_isLaw 34 = .ok (.iconst 0, 1) := by decide +kernel
theorem dX12_isLaw_35 : decode cX12_isLaw 35 = .ok (.if_icmp .eq 5, 3) := by decide +kernel
theorem dX12_isLaw_38 : decode cX12_isLaw 38 = .ok (.iconst 0, 1) := by decide +kernel
theorem dX12_isLaw_39 : decode cX12_isLaw 39 = .ok (.ireturn, 1) := by decide +kernel
theorem dX12_isLaw_40 : decode cX12_isLaw 40 = .ok (.iinc 2 1, 3) := by decide +kernel
theorem dX12_isLaw_43 : decode cX12_isLaw 43 = .ok (.goto (-41), 3) := by decide +kernel
theorem dX12_isLaw_46 : decode cX12_isLaw 46 = .ok (.iconst 1, 1) := by decide +kernel
theorem dX12_isLaw_47 : decode cX12_isLaw 47 = .ok (.ireturn, 1) := by decide +kernel
theorem dX12_laws_0 : decode cX12_laws 0 = .ok (.aload_n 0, 1) := by decide +kernel
theorem dX12_laws_1 : decode cX12_laws 1 = .ok (.iconst 0, 1) := by decide +kernel
theorem dX12_laws_2 : decode cX12_laws 2 = .ok (.putfield 82, 3) := by decide +kernel
theorem dX12_laws_5 : decode cX12_laws 5 = .ok (.iconst 0, 1) := by decide +kernel
theorem dX12_laws_6 : decode cX12_laws 6 = .ok (.istore_n 1, 1) := by decide +kernel
theorem dX12_laws_7 : decode cX12_laws 7 = .ok (.aload_n 0, 1) := by decide +kernel
theorem dX12_laws_8 : decode cX12_laws 8 = .ok (.iconst 0, 1) := by decide +kernel
theorem dX12_laws_9 : decode cX12_laws 9 = .ok (.putfield 86, 3) := by decide +kernel
theorem dX12_laws_12 : decode cX12_laws 12 = .ok (.iconst 0, 1) := by decide +kernel
theorem dX12_laws_13 : decode cX12_laws 13 = .ok (.istore_n 2, 1) := by decide +kernel
theorem dX12_laws_14 : decode cX12_laws 14 = .ok (.iload_n 2, 1) := by decide +kernel
theorem dX12_laws_15 : decode cX12_laws 15 = .ok (.bipush 40, 2) := by decide +kernel
theorem dX12_laws_17 : decode cX12_laws 17 = .ok (.if_icmp .ge 47, 3) := by decide +kernel
theorem dX12_laws_20 : decode cX12_laws 20 = .ok (.aload_n 0, 1) := by decide +kernel
theorem dX12_laws_21 : decode cX12_laws 21 = .ok (.iload_n 2, 1) := by decide +kernel
theorem dX12_laws_22 : decode cX12_laws 22 = .ok (.invokevirtual 360, 3) := by decide +kernel
theorem dX12_laws_25 : decode cX12_laws 25 = .ok (.ifCond .ne 6, 3) := by decide +kernel
theorem dX12_laws_28 : decode cX12_laws 28 = .ok (.goto 30, 3) := by decide +kernel
theorem dX12_laws_31 : decode cX12_laws 31 = .ok (.iload_n 1, 1) := by decide +kernel
theorem dX12_laws_32 : decode cX12_laws 32 = .ok (.ifCond .ne 23, 3) := by decide +kernel
theorem dX12_laws_35 : decode cX12_laws 35 = .ok (.aload_n 0, 1) := by decide +kernel
theorem dX12_laws_36 : decode cX12_laws 36 = .ok (.iload_n 2, 1) := by decide +kernel
theorem dX12_laws_37 : decode cX12_laws 37 = .ok (.bipush 8, 2) := by decide +kernel
theorem dX12_laws_39 : decode cX12_laws 39 = .ok (.idiv, 1) := by decide +kernel
theorem dX12_laws_40 : decode cX12_laws 40 = .ok (.i2l, 1) := by decide +kernel
theorem dX12_laws_41 : decode cX12_laws 41 = .ok (.invokevirtual 253, 3) := by decide +kernel
theorem dX12_laws_44 : decode cX12_laws 44 = .ok (.aload_n 0, 1) := by decide +kernel
theorem dX12_laws_45 : decode cX12_laws 45 = .ok (.iconst 5, 1) := by decide +kernel
theorem dX12_laws_46 : decode cX12_laws 46 = .ok (.iload_n 2, 1) := by decide +kernel
theorem dX12_laws_47 : decode cX12_laws 47 = .ok (.bipush 8, 2) := by decide +kernel
theorem dX12_laws_49 : decode cX12_laws 49 = .ok (.irem, 1) := by decide +kernel
theorem dX12_laws_50 : decode cX12_laws 50 = .ok (.iadd, 1) := by decide +kernel
theorem dX12_laws_51 : decode cX12_laws 51 = .ok (.i2l, 1) := by decide +kernel
theorem dX12_laws_52 : decode cX12_laws 52 = .ok (.invokevirtual 253, 3) := by decide +kernel
theorem dX12_laws_55 : decode cX12_laws 55 = .ok (.iinc 1 1, 3) := by decide +kernel
theorem dX12_laws_58 : decode cX12_laws 58 = .ok (.iinc 2 1, 3) := by decide +kernel
theorem dX12_laws_61 : decode cX12_laws 61 = .ok (.goto (-47), 3) := by decide +kernel
theorem dX12_laws_64 : decode cX12_laws 64 = .ok (.iload_n 1, 1) := by decide +kernel
theorem dX12_laws_65 : decode cX12_laws 65 = .ok (.ireturn, 1) := by decide +kernel
theorem dX12_looks_0 : decode cX12_looks 0 = .ok (.aload_n 0, 1) := by decide +kernel
theorem dX12_looks_1 : decode cX12_looks 1 = .ok (.iconst 0, 1) := by decide +kernel
theorem dX12_looks_2 : decode cX12_looks 2 = .ok (.putfield 82, 3) := by decide +kernel
theorem dX12_looks_5 : decode cX12_looks 5 = .ok (.iconst (-1), 1) := by decide +kernel
theorem dX12_looks_6 : decode cX12_looks 6 = .ok (.istore_n 1, 1) := by decide +kernel
theorem dX12_looks_7 : decode cX12_looks 7 = .ok (.ldc_w 300, 3) := by decide +kernel
theorem dX12_looks_10 : decode cX12_looks 10 = .ok (.istore_n 2, 1) := by decide +kernel
theorem dX12_looks_11 : decode cX12_looks 11 = .ok (.iconst 0, 1) := by decide +kernel
theorem dX12_looks_12 : decode cX12_looks 12 = .ok (.istore_n 3, 1) := by decide +kernel
theorem dX12_looks_13 : decode cX12_looks 13 = .ok (.iload_n 3, 1) := by decide +kernel
theorem dX12_looks_14 : decode cX12_looks 14 = .ok (.bipush 30, 2) := by decide +kernel
theorem dX12_looks_16 : decode cX12_looks 16 = .ok (.if_icmp .gt 85, 3) := by decide +kernel
theorem dX12_looks_19 : decode cX12_looks 19 = .ok (.iconst 0, 1) := by decide +kernel
theorem dX12_looks_20 : decode cX12_looks 20 = .ok (.istore 4, 2) := by decide +kernel
theorem dX12_looks_22 : decode cX12_looks 22 = .ok (.iconst 0, 1) := by decide +kernel
theorem dX12_looks_23 : decode cX12_looks 23 = .ok (.istore 5, 2) := by decide +kernel
theorem dX12_looks_25 : decode cX12_looks 25 = .ok (.iconst 0, 1) := by decide +kernel
theorem dX12_looks_26 : decode cX12_looks 26 = .ok (.istore 6, 2) := by decide +kernel
theorem dX12_looks_28 : decode cX12_looks 28 = .ok (.iload 6, 2) := by decide +kernel
theorem dX12_looks_30 : decode cX12_looks 30 = .ok (.bipush 40, 2) := by decide +kernel
theorem dX12_looks_32 : decode cX12_looks 32 = .ok (.if_icmp .ge 39, 3) := by decide +kernel
theorem dX12_looks_35 : decode cX12_looks 35 = .ok (.aload_n 0, 1) := by decide +kernel
theorem dX12_looks_36 : decode cX12_looks 36 = .ok (.iload 6, 2) := by decide +kernel
theorem dX12_looks_38 : decode cX12_looks 38 = .ok (.invokevirtual 360, 3) := by decide +kernel
theorem dX12_looks_41 : decode cX12_looks 41 = .ok (.ifCond .ne 6, 3) := by decide +kernel
theorem dX12_looks_44 : decode cX12_looks 44 = .ok (.goto 21, 3) := by decide +kernel
theorem dX12_looks_47 : decode cX12_looks 47 = .ok (.iload 6, 2) := by decide +kernel
theorem dX12_looks_49 : decode cX12_looks 49 = .ok (.iload_n 3, 1) := by decide +kernel
theorem dX12_looks_50 : decode cX12_looks 50 = .ok (.invokestatic 357, 3) := by decide +kernel
theorem dX12_looks_53 : decode cX12_looks 53 = .ok (.ifCond .eq 9, 3) := by decide +kernel
theorem dX12_looks_56 : decode cX12_looks 56 = .ok (.iinc 4 1, 3) := by decide +kernel
theorem dX12_looks_59 : decode cX12_looks 59 = .ok (.goto 6, 3) := by decide +kernel
theorem dX12_looks_62 : decode cX12_looks 62 = .ok (.iinc 5 1, 3) := by decide +kernel
theorem dX12_looks_65 : decode cX12_looks 65 = .ok (.iinc 6 1, 3) := by decide +kernel
theorem dX12_looks_68 : decode cX12_looks 68 = .ok (.goto (-40), 3) := by decide +kernel
theorem dX12_looks_71 : decode cX12_looks 71 = .ok (.iload 4, 2) := by decide +kernel
theorem dX12_looks_73 : decode cX12_looks 73 = .ok (.iload 5, 2) := by decide +kernel
theorem dX12_looks_75 : decode cX12_looks 75 = .ok (.invokestatic 201, 3) := by decide +kernel
theorem dX12_looks_78 : decode cX12_looks 78 = .ok (.iload_n 2, 1) := by decide +kernel
theorem dX12_looks_79 : decode cX12_looks 79 = .ok (.if_icmp .lt 6, 3) := by decide +kernel
theorem dX12_looks_82 : decode cX12_looks 82 = .ok (.goto 13, 3) := by decide +kernel
theorem dX12_looks_85 : decode cX12_looks 85 = .ok (.iload_n 3, 1) := by decide +kernel
theorem dX12_looks_86 : decode cX12_looks 86 = .ok (.istore_n 1, 1) := by decide +kernel
theorem dX12_looks_87 : decode cX12_looks 87 = .ok (.iload 4, 2) := by decide +kernel
theorem dX12_looks_89 : decode cX12_looks 89 = .ok (.iload 5, 2) := by decide +kernel
theorem dX12_looks_91 : decode cX12_looks 91 = .ok (.invokestatic 201, 3) := by decide +kernel
theorem dX12_looks_94 : decode cX12_looks 94 = .ok (.istore_n 2, 1) := by decide +kernel
theorem dX12_looks_95 : decode cX12_looks 95 = .ok (.iinc 3 1, 3) := by decide +kernel
theorem dX12_looks_98 : decode cX12_looks 98 = .ok (.goto (-85), 3) := by decide +kernel
theorem dX12_looks_101 : decode cX12_looks 101 = .ok (.iload_n 2, 1) := by decide +kernel
theorem dX12_looks_102 : decode cX12_looks 102 = .ok (.ifCond .ne 6, 3) := by decide +kernel
theorem dX12_looks_105 : decode cX12_looks 105 = .ok (.bipush (-2), 2) := by decide +kernel
theorem dX12_looks_107 : decode cX12_looks 107 = .ok (.ireturn, 1) := by decide +kernel
theorem dX12_looks_108 : decode cX12_looks 108 = .ok (.aload_n 0, 1) := by decide +kernel
theorem dX12_looks_109 : decode cX12_looks 109 = .ok (.iconst 0, 1) := by decide +kernel
theorem dX12_looks_110 : decode cX12_looks 110 = .ok (.putfield 86, 3) := by decide +kernel
theorem dX12_looks_113 : decode cX12_looks 113 = .ok (.aload_n 0, 1) := by decide +kernel
theorem dX12_looks_114 : decode cX12_looks 114 = .ok (.iload_n 2, 1) := by decide +kernel
theorem dX12_looks_115 : decode cX12_looks 115 = .ok (.i2l, 1) := by decide +kernel
theorem dX12_looks_116 : decode cX12_looks 116 = .ok (.invokevirtual 253, 3) := by decide +kernel
theorem dX12_looks_119 : decode cX12_looks 119 = .ok (.iload_n 1, 1) := by decide +kernel
theorem dX12_looks_120 : decode cX12_looks 120 = .ok (.ireturn, 1) := by decide +kernel
theorem dX12_take_0 : decode cX12_take 0 = .ok (.iload_n 1, 1) := by decide +kernel
theorem dX12_take_1 : decode cX12_take 1 = .ok (.ifCond .le 16, 3) := by decide +kernel
theorem dX12_take_4 : decode cX12_take 4 = .ok (.aload_n 0, 1) := by decide +kernel
theorem dX12_take_5 : decode cX12_take 5 = .ok (.getfield 72, 3) := by decide +kernel
theorem dX12_take_8 : decode cX12_take 8 = .ok (.iload_n 1, 1) := by decide +kernel
theorem dX12_take_9 : decode cX12_take 9 = .ok (.iconst 1, 1) := by decide +kernel
theorem dX12_take_10 : decode cX12_take 10 = .ok (.isub, 1) := by decide +kernel
theorem dX12_take_11 : decode cX12_take 11 = .ok (.baload, 1) := by decide +kernel
theorem dX12_take_12 : decode cX12_take 12 = .ok (.ifCond .ne 5, 3) := by decide +kernel
theorem dX12_take_15 : decode cX12_take 15 = .ok (.iconst 1, 1) := by decide +kernel
theorem dX12_take_16 : decode cX12_take 16 = .ok (.ireturn, 1) := by decide +kernel
theorem dX12_take_17 : decode cX12_take 17 = .ok (.iload_n 1, 1) := by decide +kernel
theorem dX12_take_18 : decode cX12_take 18 = .ok (.ifCond .le 26, 3) := by decide +kernel
theorem dX12_take_21 : decode cX12_take 21 = .ok (.iload_n 1, 1) := by decide +kernel
theorem dX12_take_22 : decode cX12_take 22 = .ok (.iconst 2, 1) := by decide +kernel
theorem dX12_take_23 : decode cX12_take 23 = .ok (.irem, 1) := by decide +kernel
theorem dX12_take_24 : decode cX12_take 24 = .ok (.ifCond .ne 20, 3) := by decide +kernel
theorem dX12_take_27 : decode cX12_take 27 = .ok (.aload_n 0, 1) := by decide +kernel
theorem dX12_take_28 : decode cX12_take 28 = .ok (.getfield 72, 3) := by decide +kernel
theorem dX12_take_31 : decode cX12_take 31 = .ok (.iload_n 1, 1) := by decide +kernel
theorem dX12_take_32 : decode cX12_take 32 = .ok (.iconst 2, 1) := by decide +kernel
theorem dX12_take_33 : decode cX12_take 33 = .ok (.idiv, 1) := by decide +kernel
theorem dX12_take_34 : decode cX12_take 34 = .ok (.baload, 1) := by decide +kernel
theorem dX12_take_35 : decode cX12_take 35 = .ok (.ifCond .ne 9, 3) := by decide +kernel
theorem dX12_take_38 : decode cX12_take 38 = .ok (.iload_n 1, 1) := by decide +kernel
theorem dX12_take_39 : decode cX12_take 39 = .ok (.iconst 2, 1) := by decide +kernel
theorem dX12_take_40 : decode cX12_take 40 = .ok (.idiv, 1) := by decide +kernel
theorem dX12_take_41 : decode cX12_take 41 = .ok (.goto 4, 3) := by decide +kernel
theorem dX12_take_44 : decode cX12_take 44 = .ok (.iconst 0, 1) := by decide +kernel
theorem dX12_take_45 : decode cX12_take 45 = .ok (.ireturn, 1) := by decide +kernel
theorem dX12_pails_0 : decode cX12_pails 0 = .ok (.aload_n 0, 1) := by decide +kernel
theorem dX12_pails_1 : decode cX12_pails 1 = .ok (.iconst 0, 1) := by decide +kernel
theorem dX12_pails_2 : decode cX12_pails 2 = .ok (.putfield 82, 3) := by decide +kernel
theorem dX12_pails_5 : decode cX12_pails 5 = .ok (.iload_n 1, 1) := by decide +kernel
theorem dX12_pails_6 : decode cX12_pails 6 = .ok (.iconst 0, 1) := by decide +kernel
theorem dX12_pails_7 : decode cX12_pails 7 = .ok (.sipush 200, 3) := by decide +kernel
theorem dX12_pails_10 : decode cX12_pails 10 = .ok (.invokestatic 89, 3) := by decide +kernel
theorem dX12_pails_13 : decode cX12_pails 13 = .ok (.ifCond .ne 5, 3) := by decide +kernel
theorem dX12_pails_16 : decode cX12_pails 16 = .ok (.iconst (-1), 1) := by decide +kernel
theorem dX12_pails_17 : decode cX12_pails 17 = .ok (.ireturn, 1) := by decide +kernel
theorem dX12_pails_18 : decode cX12_pails 18 = .ok (.iconst 0, 1) := by decide +kernel
theorem dX12_pails_19 : decode cX12_pails 19 = .ok (.istore_n 2, 1) := by decide +kernel
theorem dX12_pails_20 : decode cX12_pails 20 = .ok (.iload_n 2, 1) := by decide +kernel
theorem dX12_pails_21 : decode cX12_pails 21 = .ok (.iload_n 1, 1) := by decide +kernel
theorem dX12_pails_22 : decode cX12_pails 22 = .ok (.if_icmp .gt 28, 3) := by decide +kernel
theorem dX12_pails_25 : decode cX12_pails 25 = .ok (.aload_n 0, 1) := by decide +kernel
theorem dX12_pails_26 : decode cX12_pails 26 = .ok (.getfield 72, 3) := by decide +kernel
theorem dX12_pails_29 : decode cX12_pails 29 = .ok (.iload_n 2, 1) := by decide +kernel
theorem dX12_pails_30 : decode cX12_pails 30 = .ok (.aload_n 0, 1) := by decide +kernel
theorem dX12_pails_31 : decode cX12_pails 31 = .ok (.iload_n 2, 1) := by decide +kernel
theorem dX12_pails_32 : decode cX12_pails 32 = .ok (.invokevirtual 364, 3) := by decide +kernel
theorem dX12_pails_35 : decode cX12_pails 35 = .ok (.ifCond .le 7, 3) := by decide +kernel
theorem dX12_pails_38 : decode cX12_pails 38 = .ok (.iconst 1, 1) := by decide +kernel
theorem dX12_pails_39 : decode cX12_pails 39 = .ok (.goto 4, 3) := by decide +kernel
theorem dX12_pails_42 : decode cX12_pails 42 = .ok (.iconst 0, 1) := by decide +kernel
theorem dX12_pails_43 : decode cX12_pails 43 = .ok (.bastore, 1) := by decide +kernel
theorem dX12_pails_44 : decode cX12_pails 44 = .ok (.iinc 2 1, 3) := by decide +kernel
theorem dX12_pails_47 : decode cX12_pails 47 = .ok (.goto (-27), 3) := by decide +kernel
theorem dX12_pails_50 : decode cX12_pails 50 = .ok (.aload_n 0, 1) := by decide +kernel
theorem dX12_pails_51 : decode cX12_pails 51 = .ok (.iconst 0, 1) := by decide +kernel
theorem dX12_pails_52 : decode cX12_pails 52 = .ok (.putfield 86, 3) := by decide +kernel
theorem dX12_pails_55 : decode cX12_pails 55 = .ok (.aload_n 0, 1) := by decide +kernel
theorem dX12_pails_56 : decode cX12_pails 56 = .ok (.iload_n 1, 1) := by decide +kernel
theorem dX12_pails_57 : decode cX12_pails 57 = .ok (.invokevirtual 364, 3) := by decide +kernel
theorem dX12_pails_60 : decode cX12_pails 60 = .ok (.ifCond .le 13, 3) := by decide +kernel
theorem dX12_pails_63 : decode cX12_pails 63 = .ok (.aload_n 0, 1) := by decide +kernel
theorem dX12_pails_64 : decode cX12_pails 64 = .ok (.aload_n 0, 1) := by decide +kernel
theorem dX12_pails_65 : decode cX12_pails 65 = .ok (.iload_n 1, 1) := by decide +kernel
theorem dX12_pails_66 : decode cX12_pails 66 = .ok (.invokevirtual 364, 3) := by decide +kernel
theorem dX12_pails_69 : decode cX12_pails 69 = .ok (.i2l, 1) := by decide +kernel
theorem dX12_pails_70 : decode cX12_pails 70 = .ok (.invokevirtual 253, 3) := by decide +kernel
theorem dX12_pails_73 : decode cX12_pails 73 = .ok (.aload_n 0, 1) := by decide +kernel
theorem dX12_pails_74 : decode cX12_pails 74 = .ok (.iload_n 1, 1) := by decide +kernel
theorem dX12_pails_75 : decode cX12_pails 75 = .ok (.invokevirtual 364, 3) := by decide +kernel
theorem dX12_pails_78 : decode cX12_pails 78 = .ok (.ifCond .le 7, 3) := by decide +kernel
theorem dX12_pails_81 : decode cX12_pails 81 = .ok (.iconst 1, 1) := by decide +kernel
theorem dX12_pails_82 : decode cX12_pails 82 = .ok (.goto 4, 3) := by decide +kernel
theorem dX12_pails_85 : decode cX12_pails 85 = .ok (.iconst 0, 1) := by decide +kernel
theorem dX12_pails_86 : decode cX12_pails 86 = .ok (.ireturn, 1) := by decide +kernel
theorem dX12_gets_0 : decode cX12_gets 0 = .ok (.iload_n 0, 1) := by decide +kernel
theorem dX12_gets_1 : decode cX12_gets 1 = .ok (.iload_n 1, 1) := by decide +kernel
theorem dX12_gets_2 : decode cX12_gets 2 = .ok (.iadd, 1) := by decide +kernel
theorem dX12_gets_3 : decode cX12_gets 3 = .ok (.iload_n 2, 1) := by decide +kernel
theorem dX12_gets_4 : decode cX12_gets 4 = .ok (.if_icmp .gt 15, 3) := by decide +kernel
theorem dX12_gets_7 : decode cX12_gets 7 = .ok (.iload_n 0, 1) := by decide +kernel
theorem dX12_gets_8 : decode cX12_gets 8 = .ok (.iload_n 2, 1) := by decide +kernel
theorem dX12_gets_9 : decode cX12_gets 9 = .ok (.iload_n 0, 1) := by decide +kernel
theorem dX12_gets_10 : decode cX12_gets 10 = .ok (.isub, 1) := by decide +kernel
theorem dX12_gets_11 : decode cX12_gets 11 = .ok (.iload_n 1, 1) := by decide +kernel
theorem dX12_gets_12 : decode cX12_gets 12 = .ok (.isub, 1) := by decide +kernel
theorem dX12_gets_13 : decode cX12_gets 13 = .ok (.iconst 4, 1) := by decide +kernel
theorem dX12_gets_14 : decode cX12_gets 14 = .ok (.idiv, 1) := by decide +kernel
theorem dX12_gets_15 : decode cX12_gets 15 = .ok (.iadd, 1) := by decide +kernel
theorem dX12_gets_16 : decode cX12_gets 16 = .ok (.goto 8, 3) := by decide +kernel
theorem dX12_gets_19 : decode cX12_gets 19 = .ok (.iload_n 0, 1) := by decide +kernel
theorem dX12_gets_20 : decode cX12_gets 20 = .ok (.iconst 2, 1) := by decide +kernel
theorem dX12_gets_21 : decode cX12_gets 21 = .ok (.idiv, 1) := by decide +kernel
theorem dX12_gets_22 : decode cX12_gets 22 = .ok (.iconst 1, 1) := by decide +kernel
theorem dX12_gets_23 : decode cX12_gets 23 = .ok (.isub, 1) := by decide +kernel
theorem dX12_gets_24 : decode cX12_gets 24 = .ok (.ireturn, 1) := by decide +kernel
theorem dX12_isBest_0 : decode cX12_isBest 0 = .ok (.iconst 0, 1) := by decide +kernel
theorem dX12_isBest_1 : decode cX12_isBest 1 = .ok (.istore_n 3, 1) := by decide +kernel
theorem dX12_isBest_2 : decode cX12_isBest 2 = .ok (.iload_n 3, 1) := by decide +kernel
theorem dX12_isBest_3 : decode cX12_isBest 3 = .ok (.bipush 9, 2) := by decide +kernel
theorem dX12_isBest_5 : decode cX12_isBest 5 = .ok (.if_icmp .gt 26, 3) := by decide +kernel
theorem dX12_isBest_8 : decode cX12_isBest 8 = .ok (.iload_n 3, 1) := by decide +kernel
theorem dX12_isBest_9 : decode cX12_isBest 9 = .ok (.iload_n 1, 1) := by decide +kernel
theorem dX12_isBest_10 : decode cX12_isBest 10 = .ok (.iload_n 2, 1) := by decide +kernel
theorem dX12_isBest_11 : decode cX12_isBest 11 = .ok (.invokestatic 367, 3) := by decide +kernel
theorem dX12_isBest_14 : decode cX12_isBest 14 = .ok (.iload_n 0, 1) := by decide +kernel
theorem dX12_isBest_15 : decode cX12_isBest 15 = .ok (.iload_n 1, 1) := by decide +kernel
theorem dX12_isBest_16 : decode cX12_isBest 16 = .ok (.iload_n 2, 1) := by decide +kernel
theorem dX12_isBest_17 : decode cX12_isBest 17 = .ok (.invokestatic 367, 3) := by decide +kernel
theorem dX12_isBest_20 : decode cX12_isBest 20 = .ok (.if_icmp .le 5, 3) := by decide +kernel
theorem dX12_isBest_23 : decode cX12_isBest 23 = .ok (.iconst 0, 1) := by decide +kernel
theorem dX12_isBest_24 : decode cX12_isBest 24 = .ok (.ireturn, 1) := by decide +kernel
theorem dX12_isBest_25 : decode cX12_isBest 25 = .ok (.iinc 3 1, 3) := by decide +kernel
theorem dX12_isBest_28 : decode cX12_isBest 28 = .ok (.goto (-26), 3) := by decide +kernel
theorem dX12_isBest_31 : decode cX12_isBest 31 = .ok (.iconst 1, 1) := by decide +kernel
theorem dX12_isBest_32 : decode cX12_isBest 32 = .ok (.ireturn, 1) := by decide +kernel
theorem dX12_rests_0 : decode cX12_rests 0 = .ok (.aload_n 0, 1) := by decide +kernel
theorem dX12_rests_1 : decode cX12_rests 1 = .ok (.iconst 0, 1) := by decide +kernel
theorem dX12_rests_2 : decode cX12_rests 2 = .ok (.putfield 82, 3) := by decide +kernel
theorem dX12_rests_5 : decode cX12_rests 5 = .ok (.iload_n 1, 1) := by decide +kernel
theorem dX12_rests_6 : decode cX12_rests 6 = .ok (.iconst 0, 1) := by decide +kernel
theorem dX12_rests_7 : decode cX12_rests 7 = .ok (.bipush 20, 2) := by decide +kernel
theorem dX12_rests_9 : decode cX12_rests 9 = .ok (.invokestatic 89, 3) := by decide +kernel
theorem dX12_rests_12 : decode cX12_rests 12 = .ok (.ifCond .ne 5, 3) := by decide +kernel
theorem dX12_rests_15 : decode cX12_rests 15 = .ok (.iconst (-1), 1) := by decide +kernel
theorem dX12_rests_16 : decode cX12_rests 16 = .ok (.ireturn, 1) := by decide +kernel
theorem dX12_rests_17 : decode cX12_rests 17 = .ok (.iconst 0, 1) := by decide +kernel
theorem dX12_rests_18 : decode cX12_rests 18 = .ok (.istore_n 2, 1) := by decide +kernel
theorem dX12_rests_19 : decode cX12_rests 19 = .ok (.aload_n 0, 1) := by decide +kernel
theorem dX12_rests_20 : decode cX12_rests 20 = .ok (.iconst 0, 1) := by decide +kernel
theorem dX12_rests_21 : decode cX12_rests 21 = .ok (.putfield 86, 3) := by decide +kernel
theorem dX12_rests_24 : decode cX12_rests 24 = .ok (.iconst 0, 1) := by decide +kernel
theorem dX12_rests_25 : decode cX12_rests 25 = .ok (.istore_n 3, 1) := by decide +kernel
theorem dX12_rests_26 : decode cX12_rests 26 = .ok (.iload_n 3, 1) := by decide +kernel
theorem dX12_rests_27 : decode cX12_rests 27 = .ok (.bipush 9, 2) := by decide +kernel
theorem dX12_rests_29 : decode cX12_rests 29 = .ok (.if_icmp .gt 68, 3) := by decide +kernel
theorem dX12_rests_32 : decode cX12_rests 32 = .ok (.iconst 0, 1) := by decide +kernel
theorem dX12_rests_33 : decode cX12_rests 33 = .ok (.istore 4, 2) := by decide +kernel
theorem dX12_rests_35 : decode cX12_rests 35 = .ok (.iload 4, 2) := by decide +kernel
theorem dX12_rests_37 : decode cX12_rests 37 = .ok (.bipush 9, 2) := by decide +kernel
theorem dX12_rests_39 : decode cX12_rests 39 = .ok (.if_icmp .gt 52, 3) := by decide +kernel
theorem dX12_rests_42 : decode cX12_rests 42 = .ok (.iload_n 3, 1) := by decide +kernel
theorem dX12_rests_43 : decode cX12_rests 43 = .ok (.iload 4, 2) := by decide +kernel
theorem dX12_rests_45 : decode cX12_rests 45 = .ok (.iload_n 1, 1) := by decide +kernel
theorem dX12_rests_46 : decode cX12_rests 46 = .ok (.invokestatic 371, 3) := by decide +kernel
theorem dX12_rests_49 : decode cX12_rests 49 = .ok (.ifCond .eq 36, 3) := by decide +kernel
theorem dX12_rests_52 : decode cX12_rests 52 = .ok (.iload 4, 2) := by decide +kernel
theorem dX12_rests_54 : decode cX12_rests 54 = .ok (.iload_n 3, 1) := by decide +kernel
theorem dX12_rests_55 : decode cX12_rests 55 = .ok (.iload_n 1, 1) := by decide +kernel
theorem dX12_rests_56 : decode cX12_rests 56 = .ok (.invokestatic 371, 3) := by decide +kernel
theorem dX12_rests_59 : decode cX12_rests 59 = .ok (.ifCond .ne 6, 3) := by decide +kernel
theorem dX12_rests_62 : decode cX12_rests 62 = .ok (.goto 23, 3) := by decide +kernel
theorem dX12_rests_65 : decode cX12_rests 65 = .ok (.iload_n 2, 1) := by decide +kernel
theorem dX12_rests_66 : decode cX12_rests 66 = .ok (.ifCond .ne 16, 3) := by decide +kernel
theorem dX12_rests_69 : decode cX12_rests 69 = .ok (.aload_n 0, 1) := by decide +kernel
theorem dX12_rests_70 : decode cX12_rests 70 = .ok (.iload_n 3, 1) := by decide +kernel
theorem dX12_rests_71 : decode cX12_rests 71 = .ok (.i2l, 1) := by decide +kernel
theorem dX12_rests_72 : decode cX12_rests 72 = .ok (.invokevirtual 253, 3) := by decide +kernel
theorem dX12_rests_75 : decode cX12_rests 75 = .ok (.aload_n 0, 1) := by decide +kernel
theorem dX12_rests_76 : decode cX12_rests 76 = .ok (.iload 4, 2) := by decide +kernel
theorem dX12_rests_78 : decode cX12_rests 78 = .ok (.i2l, 1) := by decide +kernel
theorem dX12_rests_79 : decode cX12_rests 79 = .ok (.invokevirtual 253, 3) := by decide +kernel
theorem dX12_rests_82 : decode cX12_rests 82 = .ok (.iinc 2 1, 3) := by decide +kernel
theorem dX12_rests_85 : decode cX12_rests 85 = .ok (.iinc 4 1, 3) := by decide +kernel
theorem dX12_rests_88 : decode cX12_rests 88 = .ok (.goto (-53), 3) := by decide +kernel
theorem dX12_rests_91 : decode cX12_rests 91 = .ok (.iinc 3 1, 3) := by decide +kernel
theorem dX12_rests_94 : decode cX12_rests 94 = .ok (.goto (-68), 3) := by decide +kernel
theorem dX12_rests_97 : decode cX12_rests 97 = .ok (.iload_n 2, 1) := by decide +kernel
theorem dX12_rests_98 : decode cX12_rests 98 = .ok (.ireturn, 1) := by decide +kernel
theorem dX12_law_0 : decode cX12_law 0 = .ok (.aload_n 0, 1) := by decide +kernel
theorem dX12_law_1 : decode cX12_law 1 = .ok (.iconst 0, 1) := by decide +kernel
theorem dX12_law_2 : decode cX12_law 2 = .ok (.putfield 82, 3) := by decide +kernel
theorem dX12_law_5 : decode cX12_law 5 = .ok (.aload_n 0, 1) := by decide +kernel
theorem dX12_law_6 : decode cX12_law 6 = .ok (.getfield 93, 3) := by decide +kernel
theorem dX12_law_9 : decode cX12_law 9 = .ok (.istore_n 1, 1) := by decide +kernel
theorem dX12_law_10 : decode cX12_law 10 = .ok (.aload_n 0, 1) := by decide +kernel
theorem dX12_law_11 : decode cX12_law 11 = .ok (.invokevirtual 177, 3) := by decide +kernel
theorem dX12_law_14 : decode cX12_law 14 = .ok (.ifCond .ne 12, 3) := by decide +kernel
theorem dX12_law_17 : decode cX12_law 17 = .ok (.sipush (-10000), 3) := by decide +kernel
theorem dX12_law_20 : decode cX12_law 20 = .ok (.aload_n 0, 1) := by decide +kernel
theorem dX12_law_21 : decode cX12_law 21 = .ok (.getfield 108, 3) := by decide +kernel
theorem dX12_law_24 : decode cX12_law 24 = .ok (.isub, 1) := by decide +kernel
theorem dX12_law_25 : decode cX12_law 25 = .ok (.ireturn, 1) := by decide +kernel
theorem dX12_law_26 : decode cX12_law 26 = .ok (.aload_n 0, 1) := by decide +kernel
theorem dX12_law_27 : decode cX12_law 27 = .ok (.getfield 9, 3) := by decide +kernel
theorem dX12_law_30 : decode cX12_law 30 = .ok (.aload_n 0, 1) := by decide +kernel
theorem dX12_law_31 : decode cX12_law 31 = .ok (.getfield 42, 3) := by decide +kernel
theorem dX12_law_34 : decode cX12_law 34 = .ok (.iconst 0, 1) := by decide +kernel
theorem dX12_law_35 : decode cX12_law 35 = .ok (.invokestatic 210, 3) := by decide +kernel
theorem dX12_law_38 : decode cX12_law 38 = .ok (.aload_n 0, 1) := by decide +kernel
theorem dX12_law_39 : decode cX12_law 39 = .ok (.aload_n 0, 1) := by decide +kernel
theorem dX12_law_40 : decode cX12_law 40 = .ok (.getfield 42, 3) := by decide +kernel
theorem dX12_law_43 : decode cX12_law 43 = .ok (.bipush 20, 2) := by decide +kernel
theorem dX12_law_45 : decode cX12_law 45 = .ok (.invokevirtual 276, 3) := by decide +kernel
theorem dX12_law_48 : decode cX12_law 48 = .ok (.istore_n 2, 1) := by decide +kernel
theorem dX12_law_49 : decode cX12_law 49 = .ok (.aload_n 0, 1) := by decide +kernel
theorem dX12_law_50 : decode cX12_law 50 = .ok (.getfield 42, 3) := by decide +kernel
theorem dX12_law_53 : decode cX12_law 53 = .ok (.bipush 14, 2) := by decide +kernel
theorem dX12_law_55 : decode cX12_law 55 = .ok (.iaload, 1) := by decide +kernel
theorem dX12_law_56 : decode cX12_law 56 = .ok (.istore_n 3, 1) := by decide +kernel
theorem dX12_law_57 : decode cX12_law 57 = .ok (.aload_n 0, 1) := by decide +kernel
theorem dX12_law_58 : decode cX12_law 58 = .ok (.getfield 27, 3) := by decide +kernel
theorem dX12_law_61 : decode cX12_law 61 = .ok (.astore 4, 2) := by decide +kernel
theorem dX12_law_63 : decode cX12_law 63 = .ok (.aload_n 0, 1) := by decide +kernel
theorem dX12_law_64 : decode cX12_law 64 = .ok (.getfield 180, 3) := by decide +kernel
theorem dX12_law_67 : decode cX12_law 67 = .ok (.istore 5, 2) := by decide +kernel
theorem dX12_law_69 : decode cX12_law 69 = .ok (.aload_n 0, 1) := by decide +kernel
theorem dX12_law_70 : decode cX12_law 70 = .ok (.aload_n 0, 1) := by decide +kernel
theorem dX12_law_71 : decode cX12_law 71 = .ok (.getfield 30, 3) := by decide +kernel
theorem dX12_law_74 : decode cX12_law 74 = .ok (.putfield 27, 3) := by decide +kernel
theorem dX12_law_77 : decode cX12_law 77 = .ok (.aload_n 0, 1) := by decide +kernel
theorem dX12_law_78 : decode cX12_law 78 = .ok (.iload_n 1, 1) := by decide +kernel
theorem dX12_law_79 : decode cX12_law 79 = .ok (.putfield 180, 3) := by decide +kernel
theorem dX12_law_82 : decode cX12_law 82 = .ok (.iconst 0, 1) := by decide +kernel
theorem dX12_law_83 : decode cX12_law 83 = .ok (.istore 6, 2) := by decide +kernel
theorem dX12_law_85 : decode cX12_law 85 = .ok (.iload 6, 2) := by decide +kernel
theorem dX12_law_87 : decode cX12_law 87 = .ok (.iload_n 1, 1) := by decide +kernel
theorem dX12_law_88 : decode cX12_law 88 = .ok (.if_icmp .ge 23, 3) := by decide +kernel
theorem dX12_law_91 : decode cX12_law 91 = .ok (.aload_n 0, 1) := by decide +kernel
theorem dX12_law_92 : decode cX12_law 92 = .ok (.getfield 27, 3) := by decide +kernel
theorem dX12_law_95 : decode cX12_law 95 = .ok (.iload 6, 2) := by decide +kernel
theorem dX12_law_97 : decode cX12_law 97 = .ok (.aload_n 0, 1) := by decide +kernel
theorem dX12_law_98 : decode cX12_law 98 = .ok (.getfield 13, 3) := by decide +kernel
theorem dX12_law_101 : decode cX12_law 101 = .ok (.iload 6, 2) := by decide +kernel
theorem dX12_law_103 : decode cX12_law 103 = .ok (.baload, 1) := by decide +kernel
theorem dX12_law_104 : decode cX12_law 104 = .ok (.bastore, 1) := by decide +kernel
theorem dX12_law_105 : decode cX12_law 105 = .ok (.iinc 6 1, 3) := by decide +kernel
theorem dX12_law_108 : decode cX12_law 108 = .ok (.goto (-23), 3) := by decide +kernel
theorem dX12_law_111 : decode cX12_law 111 = .ok (.aload_n 0, 1) := by decide +kernel
theorem dX12_law_112 : decode cX12_law 112 = .ok (.getfield 9, 3) := by decide +kernel
theorem dX12_law_115 : decode cX12_law 115 = .ok (.aload_n 0, 1) := by decide +kernel
theorem dX12_law_116 : decode cX12_law 116 = .ok (.getfield 42, 3) := by decide +kernel
theorem dX12_law_119 : decode cX12_law 119 = .ok (.iconst 0, 1) := by decide +kernel
theorem dX12_law_120 : decode cX12_law 120 = .ok (.invokestatic 210, 3) := by decide +kernel
theorem dX12_law_123 : decode cX12_law 123 = .ok (.aload_n 0, 1) := by decide +kernel
theorem dX12_law_124 : decode cX12_law 124 = .ok (.aload_n 0, 1) := by decide +kernel
theorem dX12_law_125 : decode cX12_law 125 = .ok (.getfield 42, 3) := by decide +kernel
theorem dX12_law_128 : decode cX12_law 128 = .ok (.bipush 20, 2) := by decide +kernel
theorem dX12_law_130 : decode cX12_law 130 = .ok (.invokevirtual 276, 3) := by decide +kernel
theorem dX12_law_133 : decode cX12_law 133 = .ok (.istore 6, 2) := by decide +kernel
theorem dX12_law_135 : decode cX12_law 135 = .ok (.aload_n 0, 1) := by decide +kernel
theorem dX12_law_136 : decode cX12_law 136 = .ok (.aload 4, 2) := by decide +kernel
theorem dX12_law_138 : decode cX12_law 138 = .ok (.putfield 27, 3) := by decide +kernel
theorem dX12_law_141 : decode cX12_law 141 = .ok (.aload_n 0, 1) := by decide +kernel
theorem dX12_law_142 : decode cX12_law 142 = .ok (.iload 5, 2) := by decide +kernel
theorem dX12_law_144 : decode cX12_law 144 = .ok (.putfield 180, 3) := by decide +kernel
theorem dX12_law_147 : decode cX12_law 147 = .ok (.aload_n 0, 1) := by decide +kernel
theorem dX12_law_148 : decode cX12_law 148 = .ok (.iconst 0, 1) := by decide +kernel
theorem dX12_law_149 : decode cX12_law 149 = .ok (.putfield 86, 3) := by decide +kernel
theorem dX12_law_152 : decode cX12_law 152 = .ok (.aload_n 0, 1) := by decide +kernel
theorem dX12_law_153 : decode cX12_law 153 = .ok (.aload_n 0, 1) := by decide +kernel
theorem dX12_law_154 : decode cX12_law 154 = .ok (.getfield 42, 3) := by decide +kernel
theorem dX12_law_157 : decode cX12_law 157 = .ok (.bipush 14, 2) := by decide +kernel
theorem dX12_law_159 : decode cX12_law 159 = .ok (.iaload, 1) := by decide +kernel
theorem dX12_law_160 : decode cX12_law 160 = .ok (.i2l, 1) := by decide +kernel
theorem dX12_law_161 : decode cX12_law 161 = .ok (.invokevirtual 253, 3) := by decide +kernel
theorem dX12_law_164 : decode cX12_law 164 = .ok (.aload_n 0, 1) := by decide +kernel
theorem dX12_law_165 : decode cX12_law 165 = .ok (.iload_n 3, 1) := by decide +kernel
theorem dX12_law_166 : decode cX12_law 166 = .ok (.i2l, 1) := by decide +kernel
theorem dX12_law_167 : decode cX12_law 167 = .ok (.invokevirtual 253, 3) := by decide +kernel
theorem dX12_law_170 : decode cX12_law 170 = .ok (.aload_n 0, 1) := by decide +kernel
theorem dX12_law_171 : decode cX12_law 171 = .ok (.iload 6, 2) := by decide +kernel
theorem dX12_law_173 : decode cX12_law 173 = .ok (.i2l, 1) := by decide +kernel
theorem dX12_law_174 : decode cX12_law 174 = .ok (.invokevirtual 253, 3) := by decide +kernel
theorem dX12_law_177 : decode cX12_law 177 = .ok (.aload_n 0, 1) := by decide +kernel
theorem dX12_law_178 : decode cX12_law 178 = .ok (.iload_n 2, 1) := by decide +kernel
theorem dX12_law_179 : decode cX12_law 179 = .ok (.i2l, 1) := by decide +kernel
theorem dX12_law_180 : decode cX12_law 180 = .ok (.invokevirtual 253, 3) := by decide +kernel
theorem dX12_law_183 : decode cX12_law 183 = .ok (.aload_n 0, 1) := by decide +kernel
theorem dX12_law_184 : decode cX12_law 184 = .ok (.getfield 42, 3) := by decide +kernel
theorem dX12_law_187 : decode cX12_law 187 = .ok (.bipush 14, 2) := by decide +kernel
theorem dX12_law_189 : decode cX12_law 189 = .ok (.iaload, 1) := by decide +kernel
theorem dX12_law_190 : decode cX12_law 190 = .ok (.iload_n 3, 1) := by decide +kernel
theorem dX12_law_191 : decode cX12_law 191 = .ok (.isub, 1) := by decide +kernel
theorem dX12_law_192 : decode cX12_law 192 = .ok (.ireturn, 1) := by decide +kernel
theorem dX12_draw_0 : decode cX12_draw 0 = .ok (.aload_n 0, 1) := by decide +kernel
theorem dX12_draw_1 : decode cX12_draw 1 = .ok (.aload_n 0, 1) := by decide +kernel
theorem dX12_draw_2 : decode cX12_draw 2 = .ok (.getfield 374, 3) := by decide +kernel
theorem dX12_draw_5 : decode cX12_draw 5 = .ok (.ldc_w 377, 3) := by decide +kernel
theorem dX12_draw_8 : decode cX12_draw 8 = .ok (.imul, 1) := by decide +kernel
theorem dX12_draw_9 : decode cX12_draw 9 = .ok (.sipush 12345, 3) := by decide +kernel
theorem dX12_draw_12 : decode cX12_draw 12 = .ok (.iadd, 1) := by decide +kernel
theorem dX12_draw_13 : decode cX12_draw 13 = .ok (.putfield 374, 3) := by decide +kernel
theorem dX12_draw_16 : decode cX12_draw 16 = .ok (.aload_n 0, 1) := by decide +kernel
theorem dX12_draw_17 : decode cX12_draw 17 = .ok (.getfield 374, 3) := by decide +kernel
theorem dX12_draw_20 : decode cX12_draw 20 = .ok (.bipush 16, 2) := by decide +kernel
theorem dX12_draw_22 : decode cX12_draw 22 = .ok (.iushr, 1) := by decide +kernel
theorem dX12_draw_23 : decode cX12_draw 23 = .ok (.iload_n 1, 1) := by decide +kernel
theorem dX12_draw_24 : decode cX12_draw 24 = .ok (.irem, 1) := by decide +kernel
theorem dX12_draw_25 : decode cX12_draw 25 = .ok (.ireturn, 1) := by decide +kernel
theorem dX12_years_0 : decode cX12_years 0 = .ok (.aload_n 0, 1) := by decide +kernel
theorem dX12_years_1 : decode cX12_years 1 = .ok (.iconst 0, 1) := by decide +kernel
theorem dX12_years_2 : decode cX12_years 2 = .ok (.putfield 82, 3) := by decide +kernel
theorem dX12_years_5 : decode cX12_years 5 = .ok (.iload_n 2, 1) := by decide +kernel
theorem dX12_years_6 : decode cX12_years 6 = .ok (.iconst 1, 1) := by decide +kernel
theorem dX12_years_7 : decode cX12_years 7 = .ok (.bipush 60, 2) := by decide +kernel
theorem dX12_years_9 : decode cX12_years 9 = .ok (.invokestatic 89, 3) := by decide +kernel
theorem dX12_years_12 : decode cX12_years 12 = .ok (.ifCond .ne 5, 3) := by decide +kernel
theorem dX12_years_15 : decode cX12_years 15 = .ok (.iconst (-1), 1) := by decide +kernel
theorem dX12_years_16 : decode cX12_years 16 = .ok (.ireturn, 1) := by decide +kernel
theorem dX12_years_17 : decode cX12_years 17 = .ok (.aload_n 0, 1) := by decide +kernel
theorem dX12_years_18 : decode cX12_years 18 = .ok (.iload_n 1, 1) := by decide +kernel
theorem dX12_years_19 : decode cX12_years 19 = .ok (.putfield 374, 3) := by decide +kernel
theorem dX12_years_22 : decode cX12_years 22 = .ok (.aload_n 0, 1) := by decide +kernel
theorem dX12_years_23 : decode cX12_years 23 = .ok (.getfield 9, 3) := by decide +kernel
theorem dX12_years_26 : decode cX12_years 26 = .ok (.aload_n 0, 1) := by decide +kernel
theorem dX12_years_27 : decode cX12_years 27 = .ok (.getfield 42, 3) := by decide +kernel
theorem dX12_years_30 : decode cX12_years 30 = .ok (.iconst 0, 1) := by decide +kernel
theorem dX12_years_31 : decode cX12_years 31 = .ok (.invokestatic 210, 3) := by decide +kernel
theorem dX12_years_34 : decode cX12_years 34 = .ok (.iconst 0, 1) := by decide +kernel
theorem dX12_years_35 : decode cX12_years 35 = .ok (.istore_n 3, 1) := by decide +kernel
theorem dX12_years_36 : decode cX12_years 36 = .ok (.iload_n 3, 1) := by decide +kernel
theorem dX12_years_37 : decode cX12_years 37 = .ok (.iload_n 2, 1) := by decide +kernel
theorem dX12_years_38 : decode cX12_years 38 = .ok (.if_icmp .ge 132, 3) := by decide +kernel
theorem dX12_years_41 : decode cX12_years 41 = .ok (.aload_n 0, 1) := by decide +kernel
theorem dX12_years_42 : decode cX12_years 42 = .ok (.iconst 4, 1) := by decide +kernel
theorem dX12_years_43 : decode cX12_years 43 = .ok (.invokevirtual 378, 3) := by decide +kernel
theorem dX12_years_46 : decode cX12_years 46 = .ok (.istore 4, 2) := by decide +kernel
theorem dX12_years_48 : decode cX12_years 48 = .ok (.iload 4, 2) := by decide +kernel
theorem dX12_years_50 : decode cX12_years 50 = .ok (.ifCond .ne 12, 3) := by decide +kernel
theorem dX12_years_53 : decode cX12_years 53 = .ok (.aload_n 0, 1) := by decide +kernel
theorem dX12_years_54 : decode cX12_years 54 = .ok (.aload_n 0, 1) := by decide +kernel
theorem dX12_years_55 : decode cX12_years 55 = .ok (.getfield 42, 3) := by decide +kernel
theorem dX12_years_58 : decode cX12_years 58 = .ok (.invokevirtual 273, 3) := by decide +kernel
theorem dX12_years_61 : decode cX12_years 61 = .ok (.pop, 1) := by decide +kernel
theorem dX12_years_62 : decode cX12_years 62 = .ok (.iload 4, 2) := by decide +kernel
theorem dX12_years_64 : decode cX12_years 64 = .ok (.iconst 3, 1) := by decide +kernel
theorem dX12_years_65 : decode cX12_years 65 = .ok (.if_icmp .ne 16, 3) := by decide +kernel
theorem dX12_years_68 : decode cX12_years 68 = .ok (.aload_n 0, 1) := by decide +kernel
theorem dX12_years_69 : decode cX12_years 69 = .ok (.getfield 42, 3) := by decide +kernel
theorem dX12_years_72 : decode cX12_years 72 = .ok (.bipush 13, 2) := by decide +kernel
theorem dX12_years_74 : decode cX12_years 74 = .ok (.aload_n 0, 1) := by decide +kernel
theorem dX12_years_75 : decode cX12_years 75 = .ok (.bipush 10, 2) := by decide +kernel
theorem dX12_years_77 : decode cX12_years 77 = .ok (.invokevirtual 378, 3) := by decide +kernel
theorem dX12_years_80 : decode cX12_years 80 = .ok (.iastore, 1) := by decide +kernel
theorem dX12_years_81 : decode cX12_years 81 = .ok (.iload 4, 2) := by decide +kernel
theorem dX12_years_83 : decode cX12_years 83 = .ok (.ifCond .eq 81, 3) := by decide +kernel
theorem dX12_years_86 : decode cX12_years 86 = .ok (.iload 4, 2) := by decide +kernel
theorem dX12_years_88 : decode cX12_years 88 = .ok (.iconst 3, 1) := by decide +kernel
theorem dX12_years_89 : decode cX12_years 89 = .ok (.if_icmp .ne 6, 3) := by decide +kernel
theorem dX12_years_92 : decode cX12_years 92 = .ok (.goto 72, 3) := by decide +kernel
theorem dX12_years_95 : decode cX12_years 95 = .ok (.iconst 1, 1) := by decide +kernel
theorem dX12_years_96 : decode cX12_years 96 = .ok (.aload_n 0, 1) := by decide +kernel
theorem dX12_years_97 : decode cX12_years 97 = .ok (.bipush 9, 2) := by decide +kernel
theorem dX12_years_99 : decode cX12_years 99 = .ok (.invokevirtual 378, 3) := by decide +kernel
theorem dX12_years_102 : decode cX12_years 102 = .ok (.iadd, 1) := by decide +kernel
theorem dX12_years_103 : decode cX12_years 103 = .ok (.istore 5, 2) := by decide +kernel
theorem dX12_years_105 : decode cX12_years 105 = .ok (.iload 4, 2) := by decide +kernel
theorem dX12_years_107 : decode cX12_years 107 = .ok (.iconst 1, 1) := by decide +kernel
theorem dX12_years_108 : decode cX12_years 108 = .ok (.isub, 1) := by decide +kernel
theorem dX12_years_109 : decode cX12_years 109 = .ok (.istore 6, 2) := by decide +kernel
theorem dX12_years_111 : decode cX12_years 111 = .ok (.aload_n 0, 1) := by decide +kernel
theorem dX12_years_112 : decode cX12_years 112 = .ok (.getfield 42, 3) := by decide +kernel
theorem dX12_years_115 : decode cX12_years 115 = .ok (.bipush 10, 2) := by decide +kernel
theorem dX12_years_117 : decode cX12_years 117 = .ok (.iload 6, 2) := by decide +kernel
theorem dX12_years_119 : decode cX12_years 119 = .ok (.iadd, 1) := by decide +kernel
theorem dX12_years_120 : decode cX12_years 120 = .ok (.iaload, 1) := by decide +kernel
theorem dX12_years_121 : decode cX12_years 121 = .ok (.iconst 5, 1) := by decide +kernel
theorem dX12_years_122 : decode cX12_years 122 = .ok (.if_icmp .ne 6, 3) := by decide +kernel
theorem dX12_years_125 : decode cX12_years 125 = .ok (.goto 39, 3) := by decide +kernel
theorem dX12_years_128 : decode cX12_years 128 = .ok (.aload_n 0, 1) := by decide +kernel
theorem dX12_years_129 : decode cX12_years 129 = .ok (.getfield 42, 3) := by decide +kernel
theorem dX12_years_132 : decode cX12_years 132 = .ok (.iconst 5, 1) := by decide +kernel
theorem dX12_years_133 : decode cX12_years 133 = .ok (.iload 6, 2) := by decide +kernel
theorem dX12_years_135 : decode cX12_years 135 = .ok (.imul, 1) := by decide +kernel
theorem dX12_years_136 : decode cX12_years 136 = .ok (.aload_n 0, 1) := by decide +kernel
theorem dX12_years_137 : decode cX12_years 137 = .ok (.getfield 42, 3) := by decide +kernel
theorem dX12_years_140 : decode cX12_years 140 = .ok (.bipush 10, 2) := by decide +kernel
theorem dX12_years_142 : decode cX12_years 142 = .ok (.iload 6, 2) := by decide +kernel
theorem dX12_years_144 : decode cX12_years 144 = .ok (.iadd, 1) := by decide +kernel
theorem dX12_years_145 : decode cX12_years 145 = .ok (.iaload, 1) := by decide +kernel
theorem dX12_years_146 : decode cX12_years 146 = .ok (.iadd, 1) := by decide +kernel
theorem dX12_years_147 : decode cX12_years 147 = .ok (.iload 5, 2) := by decide +kernel
theorem dX12_years_149 : decode cX12_years 149 = .ok (.iastore, 1) := by decide +kernel
theorem dX12_years_150 : decode cX12_years 150 = .ok (.aload_n 0, 1) := by decide +kernel
theorem dX12_years_151 : decode cX12_years 151 = .ok (.getfield 42, 3) := by decide +kernel
theorem dX12_years_154 : decode cX12_years 154 = .ok (.bipush 10, 2) := by decide +kernel
theorem dX12_years_156 : decode cX12_years 156 = .ok (.iload 6, 2) := by decide +kernel
theorem dX12_years_158 : decode cX12_years 158 = .ok (.iadd, 1) := by decide +kernel
theorem dX12_years_159 : decode cX12_years 159 = .ok (.dup2, 1) := by decide +kernel
theorem dX12_years_160 : decode cX12_years 160 = .ok (.iaload, 1) := by decide +kernel
theorem dX12_years_161 : decode cX12_years 161 = .ok (.iconst 1, 1) := by decide +kernel
theorem dX12_years_162 : decode cX12_years 162 = .ok (.iadd, 1) := by decide +kernel
theorem dX12_years_163 : decode cX12_years 163 = .ok (.iastore, 1) := by decide +kernel
theorem dX12_years_164 : decode cX12_years 164 = .ok (.iinc 3 1, 3) := by decide +kernel
theorem dX12_years_167 : decode cX12_years 167 = .ok (.goto (-131), 3) := by decide +kernel
theorem dX12_years_170 : decode cX12_years 170 = .ok (.aload_n 0, 1) := by decide +kernel
theorem dX12_years_171 : decode cX12_years 171 = .ok (.iconst 0, 1) := by decide +kernel
theorem dX12_years_172 : decode cX12_years 172 = .ok (.putfield 86, 3) := by decide +kernel
theorem dX12_years_175 : decode cX12_years 175 = .ok (.aload_n 0, 1) := by decide +kernel
theorem dX12_years_176 : decode cX12_years 176 = .ok (.aload_n 0, 1) := by decide +kernel
theorem dX12_years_177 : decode cX12_years 177 = .ok (.getfield 42, 3) := by decide +kernel
theorem dX12_years_180 : decode cX12_years 180 = .ok (.bipush 15, 2) := by decide +kernel
theorem dX12_years_182 : decode cX12_years 182 = .ok (.iaload, 1) := by decide +kernel
theorem dX12_years_183 : decode cX12_years 183 = .ok (.aload_n 0, 1) := by decide +kernel
theorem dX12_years_184 : decode cX12_years 184 = .ok (.getfield 42, 3) := by decide +kernel
theorem dX12_years_187 : decode cX12_years 187 = .ok (.bipush 16, 2) := by decide +kernel
theorem dX12_years_189 : decode cX12_years 189 = .ok (.iaload, 1) := by decide +kernel
theorem dX12_years_190 : decode cX12_years 190 = .ok (.iadd, 1) := by decide +kernel
theorem dX12_years_191 : decode cX12_years 191 = .ok (.i2l, 1) := by decide +kernel
theorem dX12_years_192 : decode cX12_years 192 = .ok (.invokevirtual 253, 3) := by decide +kernel
theorem dX12_years_195 : decode cX12_years 195 = .ok (.aload_n 0, 1) := by decide +kernel
theorem dX12_years_196 : decode cX12_years 196 = .ok (.aload_n 0, 1) := by decide +kernel
theorem dX12_years_197 : decode cX12_years 197 = .ok (.getfield 42, 3) := by decide +kernel
theorem dX12_years_200 : decode cX12_years 200 = .ok (.bipush 14, 2) := by decide +kernel
theorem dX12_years_202 : decode cX12_years 202 = .ok (.iaload, 1) := by decide +kernel
theorem dX12_years_203 : decode cX12_years 203 = .ok (.i2l, 1) := by decide +kernel
theorem dX12_years_204 : decode cX12_years 204 = .ok (.invokevirtual 253, 3) := by decide +kernel
theorem dX12_years_207 : decode cX12_years 207 = .ok (.aload_n 0, 1) := by decide +kernel
theorem dX12_years_208 : decode cX12_years 208 = .ok (.getfield 42, 3) := by decide +kernel
theorem dX12_years_211 : decode cX12_years 211 = .ok (.invokestatic 240, 3) := by decide +kernel
theorem dX12_years_214 : decode cX12_years 214 = .ok (.ireturn, 1) := by decide +kernel
theorem dX12_keep_0 : decode cX12_keep 0 = .ok (.aload_n 0, 1) := by decide +kernel
theorem dX12_keep_1 : decode cX12_keep 1 = .ok (.iconst 0, 1) := by decide +kernel
theorem dX12_keep_2 : decode cX12_keep 2 = .ok (.putfield 82, 3) := by decide +kernel
theorem dX12_keep_5 : decode cX12_keep 5 = .ok (.iload_n 1, 1) := by decide +kernel
theorem dX12_keep_6 : decode cX12_keep 6 = .ok (.iconst 0, 1) := by decide +kernel
theorem dX12_keep_7 : decode cX12_keep 7 = .ok (.iconst 1, 1) := by decide +kernel
theorem dX12_keep_8 : decode cX12_keep 8 = .ok (.invokestatic 89, 3) := by decide +kernel
theorem dX12_keep_11 : decode cX12_keep 11 = .ok (.ifCond .ne 5, 3) := by decide +kernel
theorem dX12_keep_14 : decode cX12_keep 14 = .ok (.iconst 0, 1) := by decide +kernel
theorem dX12_keep_15 : decode cX12_keep 15 = .ok (.ireturn, 1) := by decide +kernel
theorem dX12_keep_16 : decode cX12_keep 16 = .ok (.aload_n 0, 1) := by decide +kernel
theorem dX12_keep_17 : decode cX12_keep 17 = .ok (.getfield 79, 3) := by decide +kernel
theorem dX12_keep_20 : decode cX12_keep 20 = .ok (.iload_n 1, 1) := by decide +kernel
theorem dX12_keep_21 : decode cX12_keep 21 = .ok (.iconst 1, 1) := by decide +kernel
theorem dX12_keep_22 : decode cX12_keep 22 = .ok (.bastore, 1) := by decide +kernel
theorem dX12_keep_23 : decode cX12_keep 23 = .ok (.aload_n 0, 1) := by decide +kernel
theorem dX12_keep_24 : decode cX12_keep 24 = .ok (.getfield 9, 3) := by decide +kernel
theorem dX12_keep_27 : decode cX12_keep 27 = .ok (.aload_n 0, 1) := by decide +kernel
theorem dX12_keep_28 : decode cX12_keep 28 = .ok (.getfield 76, 3) := by decide +kernel
theorem dX12_keep_31 : decode cX12_keep 31 = .ok (.bipush 19, 2) := by decide +kernel
theorem dX12_keep_33 : decode cX12_keep 33 = .ok (.iload_n 1, 1) := by decide +kernel
theorem dX12_keep_34 : decode cX12_keep 34 = .ok (.imul, 1) := by decide +kernel
theorem dX12_keep_35 : decode cX12_keep 35 = .ok (.invokestatic 210, 3) := by decide +kernel
theorem dX12_keep_38 : decode cX12_keep 38 = .ok (.iconst 1, 1) := by decide +kernel
theorem dX12_keep_39 : decode cX12_keep 39 = .ok (.ireturn, 1) := by decide +kernel
theorem dX12_again_0 : decode cX12_again 0 = .ok (.aload_n 0, 1) := by decide +kernel
theorem dX12_again_1 : decode cX12_again 1 = .ok (.iconst 0, 1) := by decide +kernel
theorem dX12_again_2 : decode cX12_again 2 = .ok (.putfield 82, 3) := by decide +kernel
theorem dX12_again_5 : decode cX12_again 5 = .ok (.iload_n 1, 1) := by decide +kernel
theorem dX12_again_6 : decode cX12_again 6 = .ok (.iconst 0, 1) := by decide +kernel
theorem dX12_again_7 : decode cX12_again 7 = .ok (.iconst 1, 1) := by decide +kernel
theorem dX12_again_8 : decode cX12_again 8 = .ok (.invokestatic 89, 3) := by decide +kernel
theorem dX12_again_11 : decode cX12_again 11 = .ok (.ifCond .eq 12, 3) := by decide +kernel
theorem dX12_again_14 : decode cX12_again 14 = .ok (.aload_n 0, 1) := by decide +kernel
theorem dX12_again_15 : decode cX12_again 15 = .ok (.getfield 79, 3) := by decide +kernel
theorem dX12_again_18 : decode cX12_again 18 = .ok (.iload_n 1, 1) := by decide +kernel
theorem dX12_again_19 : decode cX12_again 19 = .ok (.baload, 1) := by decide +kernel
theorem dX12_again_20 : decode cX12_again 20 = .ok (.ifCond .ne 5, 3) := by decide +kernel
theorem dX12_again_23 : decode cX12_again 23 = .ok (.iconst 0, 1) := by decide +kernel
theorem dX12_again_24 : decode cX12_again 24 = .ok (.ireturn, 1) := by decide +kernel
theorem dX12_again_25 : decode cX12_again 25 = .ok (.iconst 0, 1) := by decide +kernel
theorem dX12_again_26 : decode cX12_again 26 = .ok (.istore_n 2, 1) := by decide +kernel
theorem dX12_again_27 : decode cX12_again 27 = .ok (.iload_n 2, 1) := by decide +kernel
theorem dX12_again_28 : decode cX12_again 28 = .ok (.bipush 19, 2) := by decide +kernel
theorem dX12_again_30 : decode cX12_again 30 = .ok (.if_icmp .ge 26, 3) := by decide +kernel
theorem dX12_again_33 : decode cX12_again 33 = .ok (.aload_n 0, 1) := by decide +kernel
theorem dX12_again_34 : decode cX12_again 34 = .ok (.getfield 9, 3) := by decide +kernel
theorem dX12_again_37 : decode cX12_again 37 = .ok (.iload_n 2, 1) := by decide +kernel
theorem dX12_again_38 : decode cX12_again 38 = .ok (.aload_n 0, 1) := by decide +kernel
theorem dX12_again_39 : decode cX12_again 39 = .ok (.getfield 76, 3) := by decide +kernel
theorem dX12_again_42 : decode cX12_again 42 = .ok (.bipush 19, 2) := by decide +kernel
theorem dX12_again_44 : decode cX12_again 44 = .ok (.iload_n 1, 1) := by decide +kernel
theorem dX12_again_45 : decode cX12_again 45 = .ok (.imul, 1) := by decide +kernel
theorem dX12_again_46 : decode cX12_again 46 = .ok (.iload_n 2, 1) := by decide +kernel
theorem dX12_again_47 : decode cX12_again 47 = .ok (.iadd, 1) := by decide +kernel
theorem dX12_again_48 : decode cX12_again 48 = .ok (.iaload, 1) := by decide +kernel
theorem dX12_again_49 : decode cX12_again 49 = .ok (.iastore, 1) := by decide +kernel
theorem dX12_again_50 : decode cX12_again 50 = .ok (.iinc 2 1, 3) := by decide +kernel
theorem dX12_again_53 : decode cX12_again 53 = .ok (.goto (-26), 3) := by decide +kernel
theorem dX12_again_56 : decode cX12_again 56 = .ok (.aload_n 0, 1) := by decide +kernel
theorem dX12_again_57 : decode cX12_again 57 = .ok (.iconst 0, 1) := by decide +kernel
theorem dX12_again_58 : decode cX12_again 58 = .ok (.putfield 147, 3) := by decide +kernel
theorem dX12_again_61 : decode cX12_again 61 = .ok (.iconst 1, 1) := by decide +kernel
theorem dX12_again_62 : decode cX12_again 62 = .ok (.ireturn, 1) := by decide +kernel
theorem dX12_count_0 : decode cX12_count 0 = .ok (.aload_n 0, 1) := by decide +kernel
theorem dX12_count_1 : decode cX12_count 1 = .ok (.iconst 0, 1) := by decide +kernel
theorem dX12_count_2 : decode cX12_count 2 = .ok (.putfield 82, 3) := by decide +kernel
theorem dX12_count_5 : decode cX12_count 5 = .ok (.iload_n 1, 1) := by decide +kernel
theorem dX12_count_6 : decode cX12_count 6 = .ok (.tableswitch 180 0 14 #[74, 82, 90, 98, 106, 114, 122, 130, 138, 146, 155, 160, 165, 170, 175], 74) := by decide +kernel
theorem dX12_count_80 : decode cX12_count 80 = .ok (.aload_n 0, 1) := by decide +kernel
theorem dX12_count_81 : decode cX12_count 81 = .ok (.getfield 9, 3) := by decide +kernel
theorem dX12_count_84 : decode cX12_count 84 = .ok (.bipush 10, 2) := by decide +kernel
theorem dX12_count_86 : decode cX12_count 86 = .ok (.iaload, 1) := by decide +kernel
theorem dX12_count_87 : decode cX12_count 87 = .ok (.ireturn, 1) := by decide +kernel
theorem dX12_count_88 : decode cX12_count 88 = .ok (.aload_n 0, 1) := by decide +kernel
theorem dX12_count_89 : decode cX12_count 89 = .ok (.getfield 9, 3) := by decide +kernel
theorem dX12_count_92 : decode cX12_count 92 = .ok (.bipush 11, 2) := by decide +kernel
theorem dX12_count_94 : decode cX12_count 94 = .ok (.iaload, 1) := by decide +kernel
theorem dX12_count_95 : decode cX12_count 95 = .ok (.ireturn, 1) := by decide +kernel
theorem dX12_count_96 : decode cX12_count 96 = .ok (.aload_n 0, 1) := by decide +kernel
theorem dX12_count_97 : decode cX12_count 97 = .ok (.getfield 9, 3) := by decide +kernel
theorem dX12_count_100 : decode cX12_count 100 = .ok (.bipush 12, 2) := by decide +kernel
theorem dX12_count_102 : decode cX12_count 102 = .ok (.iaload, 1) := by decide +kernel
theorem dX12_count_103 : decode cX12_count 103 = .ok (.ireturn, 1) := by decide +kernel
theorem dX12_count_104 : decode cX12_count 104 = .ok (.aload_n 0, 1) := by decide +kernel
theorem dX12_count_105 : decode cX12_count 105 = .ok (.getfield 9, 3) := by decide +kernel
theorem dX12_count_108 : decode cX12_count 108 = .ok (.bipush 13, 2) := by decide +kernel
theorem dX12_count_110 : decode cX12_count 110 = .ok (.iaload, 1) := by decide +kernel
theorem dX12_count_111 : decode cX12_count 111 = .ok (.ireturn, 1) := by decide +kernel
theorem dX12_count_112 : decode cX12_count 112 = .ok (.aload_n 0, 1) := by decide +kernel
theorem dX12_count_113 : decode cX12_count 113 = .ok (.getfield 9, 3) := by decide +kernel
theorem dX12_count_116 : decode cX12_count 116 = .ok (.bipush 14, 2) := by decide +kernel
theorem dX12_count_118 : decode cX12_count 118 = .ok (.iaload, 1) := by decide +kernel
theorem dX12_count_119 : decode cX12_count 119 = .ok (.ireturn, 1) := by decide +kernel
theorem dX12_count_120 : decode cX12_count 120 = .ok (.aload_n 0, 1) := by decide +kernel
theorem dX12_count_121 : decode cX12_count 121 = .ok (.getfield 9, 3) := by decide +kernel
theorem dX12_count_124 : decode cX12_count 124 = .ok (.bipush 15, 2) := by decide +kernel
theorem dX12_count_126 : decode cX12_count 126 = .ok (.iaload, 1) := by decide +kernel
theorem dX12_count_127 : decode cX12_count 127 = .ok (.ireturn, 1) := by decide +kernel
theorem dX12_count_128 : decode cX12_count 128 = .ok (.aload_n 0, 1) := by decide +kernel
theorem dX12_count_129 : decode cX12_count 129 = .ok (.getfield 9, 3) := by decide +kernel
theorem dX12_count_132 : decode cX12_count 132 = .ok (.bipush 16, 2) := by decide +kernel
theorem dX12_count_134 : decode cX12_count 134 = .ok (.iaload, 1) := by decide +kernel
theorem dX12_count_135 : decode cX12_count 135 = .ok (.ireturn, 1) := by decide +kernel
theorem dX12_count_136 : decode cX12_count 136 = .ok (.aload_n 0, 1) := by decide +kernel
theorem dX12_count_137 : decode cX12_count 137 = .ok (.getfield 9, 3) := by decide +kernel
theorem dX12_count_140 : decode cX12_count 140 = .ok (.bipush 17, 2) := by decide +kernel
theorem dX12_count_142 : decode cX12_count 142 = .ok (.iaload, 1) := by decide +kernel
theorem dX12_count_143 : decode cX12_count 143 = .ok (.ireturn, 1) := by decide +kernel
theorem dX12_count_144 : decode cX12_count 144 = .ok (.aload_n 0, 1) := by decide +kernel
theorem dX12_count_145 : decode cX12_count 145 = .ok (.getfield 9, 3) := by decide +kernel
theorem dX12_count_148 : decode cX12_count 148 = .ok (.bipush 18, 2) := by decide +kernel
theorem dX12_count_150 : decode cX12_count 150 = .ok (.iaload, 1) := by decide +kernel
theorem dX12_count_151 : decode cX12_count 151 = .ok (.ireturn, 1) := by decide +kernel
theorem dX12_count_152 : decode cX12_count 152 = .ok (.aload_n 0, 1) := by decide +kernel
theorem dX12_count_153 : decode cX12_count 153 = .ok (.aload_n 0, 1) := by decide +kernel
theorem dX12_count_154 : decode cX12_count 154 = .ok (.getfield 9, 3) := by decide +kernel
theorem dX12_count_157 : decode cX12_count 157 = .ok (.invokevirtual 214, 3) := by decide +kernel
theorem dX12_count_160 : decode cX12_count 160 = .ok (.ireturn, 1) := by decide +kernel
theorem dX12_count_161 : decode cX12_count 161 = .ok (.aload_n 0, 1) := by decide +kernel
theorem dX12_count_162 : decode cX12_count 162 = .ok (.getfield 345, 3) := by decide +kernel
theorem dX12_count_165 : decode cX12_count 165 = .ok (.ireturn, 1) := by decide +kernel
theorem dX12_count_166 : decode cX12_count 166 = .ok (.aload_n 0, 1) := by decide +kernel
theorem dX12_count_167 : decode cX12_count 167 = .ok (.getfield 354, 3) := by decide +kernel
theorem dX12_count_170 : decode cX12_count 170 = .ok (.ireturn, 1) := by decide +kernel
theorem dX12_count_171 : decode cX12_count 171 = .ok (.aload_n 0, 1) := by decide +kernel
theorem dX12_count_172 : decode cX12_count 172 = .ok (.getfield 147, 3) := by decide +kernel
theorem dX12_count_175 : decode cX12_count 175 = .ok (.ireturn, 1) := by decide +kernel
theorem dX12_count_176 : decode cX12_count 176 = .ok (.aload_n 0, 1) := by decide +kernel
theorem dX12_count_177 : decode cX12_count 177 = .ok (.getfield 86, 3) := by decide +kernel
theorem dX12_count_180 : decode cX12_count 180 = .ok (.ireturn, 1) := by decide +kernel
theorem dX12_count_181 : decode cX12_count 181 = .ok (.aload_n 0, 1) := by decide +kernel
theorem dX12_count_182 : decode cX12_count 182 = .ok (.getfield 93, 3) := by decide +kernel
theorem dX12_count_185 : decode cX12_count 185 = .ok (.ireturn, 1) := by decide +kernel
theorem dX12_count_186 : decode cX12_count 186 = .ok (.iconst (-1), 1) := by decide +kernel
theorem dX12_count_187 : decode cX12_count 187 = .ok (.ireturn, 1) := by decide +kernel
theorem dX12_row_0 : decode cX12_row 0 = .ok (.aload_n 0, 1) := by decide +kernel
theorem dX12_row_1 : decode cX12_row 1 = .ok (.iconst 0, 1) := by decide +kernel
theorem dX12_row_2 : decode cX12_row 2 = .ok (.putfield 82, 3) := by decide +kernel
theorem dX12_row_5 : decode cX12_row 5 = .ok (.iload_n 1, 1) := by decide +kernel
theorem dX12_row_6 : decode cX12_row 6 = .ok (.iconst 0, 1) := by decide +kernel
theorem dX12_row_7 : decode cX12_row 7 = .ok (.aload_n 0, 1) := by decide +kernel
theorem dX12_row_8 : decode cX12_row 8 = .ok (.getfield 86, 3) := by decide +kernel
theorem dX12_row_11 : decode cX12_row 11 = .ok (.iconst 1, 1) := by decide +kernel
theorem dX12_row_12 : decode cX12_row 12 = .ok (.isub, 1) := by decide +kernel
theorem dX12_row_13 : decode cX12_row 13 = .ok (.invokestatic 89, 3) := by decide +kernel
theorem dX12_row_16 : decode cX12_row 16 = .ok (.ifCond .eq 12, 3) := by decide +kernel
theorem dX12_row_19 : decode cX12_row 19 = .ok (.aload_n 0, 1) := by decide +kernel
theorem dX12_row_20 : decode cX12_row 20 = .ok (.getfield 17, 3) := by decide +kernel
theorem dX12_row_23 : decode cX12_row 23 = .ok (.iload_n 1, 1) := by decide +kernel
theorem dX12_row_24 : decode cX12_row 24 = .ok (.laload, 1) := by decide +kernel
theorem dX12_row_25 : decode cX12_row 25 = .ok (.goto 8, 3) := by decide +kernel
theorem dX12_row_28 : decode cX12_row 28 = .ok (.aload_n 0, 1) := by decide +kernel
theorem dX12_row_29 : decode cX12_row 29 = .ok (.invokevirtual 207, 3) := by decide +kernel
theorem dX12_row_32 : decode cX12_row 32 = .ok (.i2l, 1) := by decide +kernel
theorem dX12_row_33 : decode cX12_row 33 = .ok (.lreturn, 1) := by decide +kernel
