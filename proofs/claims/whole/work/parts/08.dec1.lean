theorem dX0_init_0 : decode cX0_init 0 = .ok (.aload_n 0, 1) := by decide +kernel
theorem dX0_init_1 : decode cX0_init 1 = .ok (.invokespecial 1, 3) := by decide +kernel
theorem dX0_init_4 : decode cX0_init 4 = .ok (.return_, 1) := by decide +kernel
theorem dX0_startFrom_0 : decode cX0_startFrom 0 = .ok (.aload_n 0, 1) := by decide +kernel
theorem dX0_startFrom_1 : decode cX0_startFrom 1 = .ok (.iload_n 1, 1) := by decide +kernel
theorem dX0_startFrom_2 : decode cX0_startFrom 2 = .ok (.putfield 7, 3) := by decide +kernel
theorem dX0_startFrom_5 : decode cX0_startFrom 5 = .ok (.return_, 1) := by decide +kernel
theorem dX0_draw_0 : decode cX0_draw 0 = .ok (.aload_n 0, 1) := by decide +kernel
theorem dX0_draw_1 : decode cX0_draw 1 = .ok (.aload_n 0, 1) := by decide +kernel
theorem dX0_draw_2 : decode cX0_draw 2 = .ok (.getfield 7, 3) := by decide +kernel
theorem dX0_draw_5 : decode cX0_draw 5 = .ok (.ldc 13, 2) := by decide +kernel
theorem dX0_draw_7 : decode cX0_draw 7 = .ok (.imul, 1) := by decide +kernel
theorem dX0_draw_8 : decode cX0_draw 8 = .ok (.sipush 12345, 3) := by decide +kernel
theorem dX0_draw_11 : decode cX0_draw 11 = .ok (.iadd, 1) := by decide +kernel
theorem dX0_draw_12 : decode cX0_draw 12 = .ok (.putfield 7, 3) := by decide +kernel
theorem dX0_draw_15 : decode cX0_draw 15 = .ok (.iload_n 1, 1) := by decide +kernel
theorem dX0_draw_16 : decode cX0_draw 16 = .ok (.ifCond .le 15, 3) := by decide +kernel
theorem dX0_draw_19 : decode cX0_draw 19 = .ok (.aload_n 0, 1) := by decide +kernel
theorem dX0_draw_20 : decode cX0_draw 20 = .ok (.getfield 7, 3) := by decide +kernel
theorem dX0_draw_23 : decode cX0_draw 23 = .ok (.bipush 16, 2) := by decide +kernel
theorem dX0_draw_25 : decode cX0_draw 25 = .ok (.iushr, 1) := by decide +kernel
theorem dX0_draw_26 : decode cX0_draw 26 = .ok (.iload_n 1, 1) := by decide +kernel
theorem dX0_draw_27 : decode cX0_draw 27 = .ok (.irem, 1) := by decide +kernel
theorem dX0_draw_28 : decode cX0_draw 28 = .ok (.goto 4, 3) := by decide +kernel
theorem dX0_draw_31 : decode cX0_draw 31 = .ok (.iconst 0, 1) := by decide +kernel
theorem dX0_draw_32 : decode cX0_draw 32 = .ok (.ireturn, 1) := by decide +kernel
theorem dX1_init_0 : decode cX1_init 0 = .ok (.aload_n 0, 1) := by decide +kernel
theorem dX1_init_1 : decode cX1_init 1 = .ok (.invokespecial 3, 3) := by decide +kernel
theorem dX1_init_4 : decode cX1_init 4 = .ok (.aload_n 0, 1) := by decide +kernel
theorem dX1_init_5 : decode cX1_init 5 = .ok (.bipush 32, 2) := by decide +kernel
theorem dX1_init_7 : decode cX1_init 7 = .ok (.newarray .int, 2) := by decide +kernel
theorem dX1_init_9 : decode cX1_init 9 = .ok (.putfield 9, 3) := by decide +kernel
theorem dX1_init_12 : decode cX1_init 12 = .ok (.aload_n 0, 1) := by decide +kernel
theorem dX1_init_13 : decode cX1_init 13 = .ok (.bipush 32, 2) := by decide +kernel
theorem dX1_init_15 : decode cX1_init 15 = .ok (.newarray .int, 2) := by decide +kernel
theorem dX1_init_17 : decode cX1_init 17 = .ok (.putfield 15, 3) := by decide +kernel
theorem dX1_init_20 : decode cX1_init 20 = .ok (.return_, 1) := by decide +kernel
theorem dX1_readFrom_0 : decode cX1_readFrom 0 = .ok (.aload_n 0, 1) := by decide +kernel
theorem dX1_readFrom_1 : decode cX1_readFrom 1 = .ok (.aload_n 1, 1) := by decide +kernel
theorem dX1_readFrom_2 : decode cX1_readFrom 2 = .ok (.iconst 0, 1) := by decide +kernel
theorem dX1_readFrom_3 : decode cX1_readFrom 3 = .ok (.invokevirtual 18, 3) := by decide +kernel
theorem dX1_readFrom_6 : decode cX1_readFrom 6 = .ok (.putfield 24, 3) := by decide +kernel
theorem dX1_readFrom_9 : decode cX1_readFrom 9 = .ok (.aload_n 0, 1) := by decide +kernel
theorem dX1_readFrom_10 : decode cX1_readFrom 10 = .ok (.aload_n 1, 1) := by decide +kernel
theorem dX1_readFrom_11 : decode cX1_readFrom 11 = .ok (.iconst 1, 1) := by decide +kernel
theorem dX1_readFrom_12 : decode cX1_readFrom 12 = .ok (.invokevirtual 18, 3) := by decide +kernel
theorem dX1_readFrom_15 : decode cX1_readFrom 15 = .ok (.putfield 28, 3) := by decide +kernel
theorem dX1_readFrom_18 : decode cX1_readFrom 18 = .ok (.aload_n 0, 1) := by decide +kernel
theorem dX1_readFrom_19 : decode cX1_readFrom 19 = .ok (.aload_n 1, 1) := by decide +kernel
theorem dX1_readFrom_20 : decode cX1_readFrom 20 = .ok (.getfield 31, 3) := by decide +kernel
theorem dX1_readFrom_23 : decode cX1_readFrom 23 = .ok (.putfield 34, 3) := by decide +kernel
theorem dX1_readFrom_26 : decode cX1_readFrom 26 = .ok (.aload_n 0, 1) := by decide +kernel
theorem dX1_readFrom_27 : decode cX1_readFrom 27 = .ok (.aload_n 1, 1) := by decide +kernel
theorem dX1_readFrom_28 : decode cX1_readFrom 28 = .ok (.getfield 35, 3) := by decide +kernel
theorem dX1_readFrom_31 : decode cX1_readFrom 31 = .ok (.putfield 38, 3) := by decide +kernel
theorem dX1_readFrom_34 : decode cX1_readFrom 34 = .ok (.iconst 0, 1) := by decide +kernel
theorem dX1_readFrom_35 : decode cX1_readFrom 35 = .ok (.istore_n 2, 1) := by decide +kernel
theorem dX1_readFrom_36 : decode cX1_readFrom 36 = .ok (.iload_n 2, 1) := by decide +kernel
theorem dX1_readFrom_37 : decode cX1_readFrom 37 = .ok (.bipush 32, 2) := by decide +kernel
theorem dX1_readFrom_39 : decode cX1_readFrom 39 = .ok (.if_icmp .ge 33, 3) := by decide +kernel
theorem dX1_readFrom_42 : decode cX1_readFrom 42 = .ok (.aload_n 0, 1) := by decide +kernel
theorem dX1_readFrom_43 : decode cX1_readFrom 43 = .ok (.getfield 9, 3) := by decide +kernel
theorem dX1_readFrom_46 : decode cX1_readFrom 46 = .ok (.iload_n 2, 1) := by decide +kernel
theorem dX1_readFrom_47 : decode cX1_readFrom 47 = .ok (.aload_n 1, 1) := by decide +kernel
theorem dX1_readFrom_48 : decode cX1_readFrom 48 = .ok (.iconst 0, 1) := by decide +kernel
theorem dX1_readFrom_49 : decode cX1_readFrom 49 = .ok (.iload_n 2, 1) := by decide +kernel
theorem dX1_readFrom_50 : decode cX1_readFrom 50 = .ok (.invokevirtual 39, 3) := by decide +kernel
theorem dX1_readFrom_53 : decode cX1_readFrom 53 = .ok (.iastore, 1) := by decide +kernel
theorem dX1_readFrom_54 : decode cX1_readFrom 54 = .ok (.aload_n 0, 1) := by decide +kernel
theorem dX1_readFrom_55 : decode cX1_readFrom 55 = .ok (.getfield 15, 3) := by decide +kernel
theorem dX1_readFrom_58 : decode cX1_readFrom 58 = .ok (.iload_n 2, 1) := by decide +kernel
theorem dX1_readFrom_59 : decode cX1_readFrom 59 = .ok (.aload_n 1, 1) := by decide +kernel
theorem dX1_readFrom_60 : decode cX1_readFrom 60 = .ok (.iconst 1, 1) := by decide +kernel
theorem dX1_readFrom_61 : decode cX1_readFrom 61 = .ok (.iload_n 2, 1) := by decide +kernel
theorem dX1_readFrom_62 : decode cX1_readFrom 62 = .ok (.invokevirtual 39, 3) := by decide +kernel
theorem dX1_readFrom_65 : decode cX1_readFrom 65 = .ok (.iastore, 1) := by decide +kernel
theorem dX1_readFrom_66 : decode cX1_readFrom 66 = .ok (.iinc 2 1, 3) := by decide +kernel
theorem dX1_readFrom_69 : decode cX1_readFrom 69 = .ok (.goto (-33), 3) := by decide +kernel
theorem dX1_readFrom_72 : decode cX1_readFrom 72 = .ok (.return_, 1) := by decide +kernel
theorem dX1_weightAbove_0 : decode cX1_weightAbove 0 = .ok (.iload_n 1, 1) := by decide +kernel
theorem dX1_weightAbove_1 : decode cX1_weightAbove 1 = .ok (.ifCond .lt 18, 3) := by decide +kernel
theorem dX1_weightAbove_4 : decode cX1_weightAbove 4 = .ok (.iload_n 1, 1) := by decide +kernel
theorem dX1_weightAbove_5 : decode cX1_weightAbove 5 = .ok (.bipush 32, 2) := by decide +kernel
theorem dX1_weightAbove_7 : decode cX1_weightAbove 7 = .ok (.if_icmp .ge 12, 3) := by decide +kernel
theorem dX1_weightAbove_10 : decode cX1_weightAbove 10 = .ok (.aload_n 0, 1) := by decide +kernel
theorem dX1_weightAbove_11 : decode cX1_weightAbove 11 = .ok (.getfield 9, 3) := by decide +kernel
theorem dX1_weightAbove_14 : decode cX1_weightAbove 14 = .ok (.iload_n 1, 1) := by decide +kernel
theorem dX1_weightAbove_15 : decode cX1_weightAbove 15 = .ok (.iaload, 1) := by decide +kernel
theorem dX1_weightAbove_16 : decode cX1_weightAbove 16 = .ok (.goto 4, 3) := by decide +kernel
theorem dX1_weightAbove_19 : decode cX1_weightAbove 19 = .ok (.iconst 0, 1) := by decide +kernel
theorem dX1_weightAbove_20 : decode cX1_weightAbove 20 = .ok (.ireturn, 1) := by decide +kernel
theorem dX1_weightBelow_0 : decode cX1_weightBelow 0 = .ok (.iload_n 1, 1) := by decide +kernel
theorem dX1_weightBelow_1 : decode cX1_weightBelow 1 = .ok (.ifCond .lt 18, 3) := by decide +kernel
theorem dX1_weightBelow_4 : decode cX1_weightBelow 4 = .ok (.iload_n 1, 1) := by decide +kernel
theorem dX1_weightBelow_5 : decode cX1_weightBelow 5 = .ok (.bipush 32, 2) := by decide +kernel
theorem dX1_weightBelow_7 : decode cX1_weightBelow 7 = .ok (.if_icmp .ge 12, 3) := by decide +kernel
theorem dX1_weightBelow_10 : decode cX1_weightBelow 10 = .ok (.aload_n 0, 1) := by decide +kernel
theorem dX1_weightBelow_11 : decode cX1_weightBelow 11 = .ok (.getfield 15, 3) := by decide +kernel
theorem dX1_weightBelow_14 : decode cX1_weightBelow 14 = .ok (.iload_n 1, 1) := by decide +kernel
theorem dX1_weightBelow_15 : decode cX1_weightBelow 15 = .ok (.iaload, 1) := by decide +kernel
theorem dX1_weightBelow_16 : decode cX1_weightBelow 16 = .ok (.goto 4, 3) := by decide +kernel
theorem dX1_weightBelow_19 : decode cX1_weightBelow 19 = .ok (.iconst 0, 1) := by decide +kernel
theorem dX1_weightBelow_20 : decode cX1_weightBelow 20 = .ok (.ireturn, 1) := by decide +kernel
theorem dX1_mayGo_0 : decode cX1_mayGo 0 = .ok (.iload_n 1, 1) := by decide +kernel
theorem dX1_mayGo_1 : decode cX1_mayGo 1 = .ok (.iload_n 2, 1) := by decide +kernel
theorem dX1_mayGo_2 : decode cX1_mayGo 2 = .ok (.ior, 1) := by decide +kernel
theorem dX1_mayGo_3 : decode cX1_mayGo 3 = .ok (.ifCond .eq 51, 3) := by decide +kernel
theorem dX1_mayGo_6 : decode cX1_mayGo 6 = .ok (.iload_n 1, 1) := by decide +kernel
theorem dX1_mayGo_7 : decode cX1_mayGo 7 = .ok (.aload_n 0, 1) := by decide +kernel
theorem dX1_mayGo_8 : decode cX1_mayGo 8 = .ok (.getfield 24, 3) := by decide +kernel
theorem dX1_mayGo_11 : decode cX1_mayGo 11 = .ok (.iconst (-1), 1) := by decide +kernel
theorem dX1_mayGo_12 : decode cX1_mayGo 12 = .ok (.ixor, 1) := by decide +kernel
theorem dX1_mayGo_13 : decode cX1_mayGo 13 = .ok (.iand, 1) := by decide +kernel
theorem dX1_mayGo_14 : decode cX1_mayGo 14 = .ok (.ifCond .ne 40, 3) := by decide +kernel
theorem dX1_mayGo_17 : decode cX1_mayGo 17 = .ok (.iload_n 2, 1) := by decide +kernel
theorem dX1_mayGo_18 : decode cX1_mayGo 18 = .ok (.aload_n 0, 1) := by decide +kernel
theorem dX1_mayGo_19 : decode cX1_mayGo 19 = .ok (.getfield 28, 3) := by decide +kernel
theorem dX1_mayGo_22 : decode cX1_mayGo 22 = .ok (.iconst (-1), 1) := by decide +kernel
theorem dX1_mayGo_23 : decode cX1_mayGo 23 = .ok (.ixor, 1) := by decide +kernel
theorem dX1_mayGo_24 : decode cX1_mayGo 24 = .ok (.iand, 1) := by decide +kernel
theorem dX1_mayGo_25 : decode cX1_mayGo 25 = .ok (.ifCond .ne 29, 3) := by decide +kernel
theorem dX1_mayGo_28 : decode cX1_mayGo 28 = .ok (.iload_n 1, 1) := by decide +kernel
theorem dX1_mayGo_29 : decode cX1_mayGo 29 = .ok (.invokestatic 43, 3) := by decide +kernel
theorem dX1_mayGo_32 : decode cX1_mayGo 32 = .ok (.aload_n 0, 1) := by decide +kernel
theorem dX1_mayGo_33 : decode cX1_mayGo 33 = .ok (.getfield 34, 3) := by decide +kernel
theorem dX1_mayGo_36 : decode cX1_mayGo 36 = .ok (.if_icmp .gt 18, 3) := by decide +kernel
theorem dX1_mayGo_39 : decode cX1_mayGo 39 = .ok (.iload_n 2, 1) := by decide +kernel
theorem dX1_mayGo_40 : decode cX1_mayGo 40 = .ok (.invokestatic 43, 3) := by decide +kernel
theorem dX1_mayGo_43 : decode cX1_mayGo 43 = .ok (.aload_n 0, 1) := by decide +kernel
theorem dX1_mayGo_44 : decode cX1_mayGo 44 = .ok (.getfield 34, 3) := by decide +kernel
theorem dX1_mayGo_47 : decode cX1_mayGo 47 = .ok (.if_icmp .gt 7, 3) := by decide +kernel
theorem dX1_mayGo_50 : decode cX1_mayGo 50 = .ok (.iconst 1, 1) := by decide +kernel
theorem dX1_mayGo_51 : decode cX1_mayGo 51 = .ok (.goto 4, 3) := by decide +kernel
theorem dX1_mayGo_54 : decode cX1_mayGo 54 = .ok (.iconst 0, 1) := by decide +kernel
theorem dX1_mayGo_55 : decode cX1_mayGo 55 = .ok (.ireturn, 1) := by decide +kernel
theorem dX1_waterFor_0 : decode cX1_waterFor 0 = .ok (.iconst 0, 1) := by decide +kernel
theorem dX1_waterFor_1 : decode cX1_waterFor 1 = .ok (.aload_n 0, 1) := by decide +kernel
theorem dX1_waterFor_2 : decode cX1_waterFor 2 = .ok (.iload_n 2, 1) := by decide +kernel
theorem dX1_waterFor_3 : decode cX1_waterFor 3 = .ok (.invokevirtual 48, 3) := by decide +kernel
theorem dX1_waterFor_6 : decode cX1_waterFor 6 = .ok (.aload_n 0, 1) := by decide +kernel
theorem dX1_waterFor_7 : decode cX1_waterFor 7 = .ok (.getfield 38, 3) := by decide +kernel
theorem dX1_waterFor_10 : decode cX1_waterFor 10 = .ok (.iadd, 1) := by decide +kernel
theorem dX1_waterFor_11 : decode cX1_waterFor 11 = .ok (.aload_n 0, 1) := by decide +kernel
theorem dX1_waterFor_12 : decode cX1_waterFor 12 = .ok (.iload_n 1, 1) := by decide +kernel
theorem dX1_waterFor_13 : decode cX1_waterFor 13 = .ok (.invokevirtual 51, 3) := by decide +kernel
theorem dX1_waterFor_16 : decode cX1_waterFor 16 = .ok (.isub, 1) := by decide +kernel
theorem dX1_waterFor_17 : decode cX1_waterFor 17 = .ok (.invokestatic 54, 3) := by decide +kernel
theorem dX1_waterFor_20 : decode cX1_waterFor 20 = .ok (.ireturn, 1) := by decide +kernel
theorem dX2_init_0 : decode cX2_init 0 = .ok (.aload_n 0, 1) := by decide +kernel
theorem dX2_init_1 : decode cX2_init 1 = .ok (.invokespecial 3, 3) := by decide +kernel
theorem dX2_init_4 : decode cX2_init 4 = .ok (.aload_n 0, 1) := by decide +kernel
theorem dX2_init_5 : decode cX2_init 5 = .ok (.bipush 12, 2) := by decide +kernel
theorem dX2_init_7 : decode cX2_init 7 = .ok (.newarray .int, 2) := by decide +kernel
theorem dX2_init_9 : decode cX2_init 9 = .ok (.putfield 11, 3) := by decide +kernel
theorem dX2_init_12 : decode cX2_init 12 = .ok (.aload_n 0, 1) := by decide +kernel
theorem dX2_init_13 : decode cX2_init 13 = .ok (.bipush 12, 2) := by decide +kernel
theorem dX2_init_15 : decode cX2_init 15 = .ok (.newarray .int, 2) := by decide +kernel
theorem dX2_init_17 : decode cX2_init 17 = .ok (.putfield 15, 3) := by decide +kernel
theorem dX2_init_20 : decode cX2_init 20 = .ok (.return_, 1) := by decide +kernel
theorem dX2_size_0 : decode cX2_size 0 = .ok (.aload_n 0, 1) := by decide +kernel
theorem dX2_size_1 : decode cX2_size 1 = .ok (.getfield 18, 3) := by decide +kernel
theorem dX2_size_4 : decode cX2_size 4 = .ok (.ireturn, 1) := by decide +kernel
theorem dX2_add_0 : decode cX2_add 0 = .ok (.aload_n 0, 1) := by decide +kernel
theorem dX2_add_1 : decode cX2_add 1 = .ok (.getfield 18, 3) := by decide +kernel
theorem dX2_add_4 : decode cX2_add 4 = .ok (.bipush 12, 2) := by decide +kernel
theorem dX2_add_6 : decode cX2_add 6 = .ok (.if_icmp .lt 5, 3) := by decide +kernel
theorem dX2_add_9 : decode cX2_add 9 = .ok (.iconst 0, 1) := by decide +kernel
theorem dX2_add_10 : decode cX2_add 10 = .ok (.ireturn, 1) := by decide +kernel
theorem dX2_add_11 : decode cX2_add 11 = .ok (.aload_n 0, 1) := by decide +kernel
theorem dX2_add_12 : decode cX2_add 12 = .ok (.getfield 11, 3) := by decide +kernel
theorem dX2_add_15 : decode cX2_add 15 = .ok (.aload_n 0, 1) := by decide +kernel
theorem dX2_add_16 : decode cX2_add 16 = .ok (.getfield 18, 3) := by decide +kernel
theorem dX2_add_19 : decode cX2_add 19 = .ok (.iload_n 1, 1) := by decide +kernel
theorem dX2_add_20 : decode cX2_add 20 = .ok (.iastore, 1) := by decide +kernel
theorem dX2_add_21 : decode cX2_add 21 = .ok (.aload_n 0, 1) := by decide +kernel
theorem dX2_add_22 : decode cX2_add 22 = .ok (.getfield 15, 3) := by decide +kernel
theorem dX2_add_25 : decode cX2_add 25 = .ok (.aload_n 0, 1) := by decide +kernel
theorem dX2_add_26 : decode cX2_add 26 = .ok (.getfield 18, 3) := by decide +kernel
theorem dX2_add_29 : decode cX2_add 29 = .ok (.iload_n 2, 1) := by decide +kernel
theorem dX2_add_30 : decode cX2_add 30 = .ok (.iastore, 1) := by decide +kernel
theorem dX2_add_31 : decode cX2_add 31 = .ok (.aload_n 0, 1) := by decide +kernel
theorem dX2_add_32 : decode cX2_add 32 = .ok (.dup, 1) := by decide +kernel
theorem dX2_add_33 : decode cX2_add 33 = .ok (.getfield 18, 3) := by decide +kernel
theorem dX2_add_36 : decode cX2_add 36 = .ok (.iconst 1, 1) := by decide +kernel
theorem dX2_add_37 : decode cX2_add 37 = .ok (.iadd, 1) := by decide +kernel
theorem dX2_add_38 : decode cX2_add 38 = .ok (.putfield 18, 3) := by decide +kernel
theorem dX2_add_41 : decode cX2_add 41 = .ok (.iconst 1, 1) := by decide +kernel
theorem dX2_add_42 : decode cX2_add 42 = .ok (.ireturn, 1) := by decide +kernel
theorem dX2_clear_0 : decode cX2_clear 0 = .ok (.aload_n 0, 1) := by decide +kernel
theorem dX2_clear_1 : decode cX2_clear 1 = .ok (.getfield 18, 3) := by decide +kernel
theorem dX2_clear_4 : decode cX2_clear 4 = .ok (.istore_n 1, 1) := by decide +kernel
theorem dX2_clear_5 : decode cX2_clear 5 = .ok (.aload_n 0, 1) := by decide +kernel
theorem dX2_clear_6 : decode cX2_clear 6 = .ok (.iconst 0, 1) := by decide +kernel
theorem dX2_clear_7 : decode cX2_clear 7 = .ok (.putfield 18, 3) := by decide +kernel
theorem dX2_clear_10 : decode cX2_clear 10 = .ok (.iload_n 1, 1) := by decide +kernel
theorem dX2_clear_11 : decode cX2_clear 11 = .ok (.ireturn, 1) := by decide +kernel
theorem dX2_fittingOf_0 : decode cX2_fittingOf 0 = .ok (.aload_n 1, 1) := by decide +kernel
theorem dX2_fittingOf_1 : decode cX2_fittingOf 1 = .ok (.iconst 0, 1) := by decide +kernel
theorem dX2_fittingOf_2 : decode cX2_fittingOf 2 = .ok (.invokevirtual 22, 3) := by decide +kernel
theorem dX2_fittingOf_5 : decode cX2_fittingOf 5 = .ok (.aload_n 1, 1) := by decide +kernel
theorem dX2_fittingOf_6 : decode cX2_fittingOf 6 = .ok (.iconst 1, 1) := by decide +kernel
theorem dX2_fittingOf_7 : decode cX2_fittingOf 7 = .ok (.invokevirtual 22, 3) := by decide +kernel
theorem dX2_fittingOf_10 : decode cX2_fittingOf 10 = .ok (.iconst 5, 1) := by decide +kernel
theorem dX2_fittingOf_11 : decode cX2_fittingOf 11 = .ok (.ishl, 1) := by decide +kernel
theorem dX2_fittingOf_12 : decode cX2_fittingOf 12 = .ok (.ior, 1) := by decide +kernel
theorem dX2_fittingOf_13 : decode cX2_fittingOf 13 = .ok (.istore_n 2, 1) := by decide +kernel
theorem dX2_fittingOf_14 : decode cX2_fittingOf 14 = .ok (.iconst 0, 1) := by decide +kernel
theorem dX2_fittingOf_15 : decode cX2_fittingOf 15 = .ok (.istore_n 3, 1) := by decide +kernel
theorem dX2_fittingOf_16 : decode cX2_fittingOf 16 = .ok (.iload_n 3, 1) := by decide +kernel
theorem dX2_fittingOf_17 : decode cX2_fittingOf 17 = .ok (.aload_n 0, 1) := by decide +kernel
theorem dX2_fittingOf_18 : decode cX2_fittingOf 18 = .ok (.getfield 18, 3) := by decide +kernel
theorem dX2_fittingOf_21 : decode cX2_fittingOf 21 = .ok (.if_icmp .ge 34, 3) := by decide +kernel
theorem dX2_fittingOf_24 : decode cX2_fittingOf 24 = .ok (.iload_n 3, 1) := by decide +kernel
theorem dX2_fittingOf_25 : decode cX2_fittingOf 25 = .ok (.bipush 12, 2) := by decide +kernel
theorem dX2_fittingOf_27 : decode cX2_fittingOf 27 = .ok (.if_icmp .ge 28, 3) := by decide +kernel
theorem dX2_fittingOf_30 : decode cX2_fittingOf 30 = .ok (.iload_n 2, 1) := by decide +kernel
theorem dX2_fittingOf_31 : decode cX2_fittingOf 31 = .ok (.aload_n 1, 1) := by decide +kernel
theorem dX2_fittingOf_32 : decode cX2_fittingOf 32 = .ok (.aload_n 0, 1) := by decide +kernel
theorem dX2_fittingOf_33 : decode cX2_fittingOf 33 = .ok (.getfield 11, 3) := by decide +kernel
theorem dX2_fittingOf_36 : decode cX2_fittingOf 36 = .ok (.iload_n 3, 1) := by decide +kernel
theorem dX2_fittingOf_37 : decode cX2_fittingOf 37 = .ok (.iaload, 1) := by decide +kernel
theorem dX2_fittingOf_38 : decode cX2_fittingOf 38 = .ok (.aload_n 0, 1) := by decide +kernel
theorem dX2_fittingOf_39 : decode cX2_fittingOf 39 = .ok (.getfield 15, 3) := by decide +kernel
theorem dX2_fittingOf_42 : decode cX2_fittingOf 42 = .ok (.iload_n 3, 1) := by decide +kernel
theorem dX2_fittingOf_43 : decode cX2_fittingOf 43 = .ok (.iaload, 1) := by decide +kernel
theorem dX2_fittingOf_44 : decode cX2_fittingOf 44 = .ok (.invokevirtual 28, 3) := by decide +kernel
theorem dX2_fittingOf_47 : decode cX2_fittingOf 47 = .ok (.iand, 1) := by decide +kernel
theorem dX2_fittingOf_48 : decode cX2_fittingOf 48 = .ok (.istore_n 2, 1) := by decide +kernel
theorem dX2_fittingOf_49 : decode cX2_fittingOf 49 = .ok (.iinc 3 1, 3) := by decide +kernel
theorem dX2_fittingOf_52 : decode cX2_fittingOf 52 = .ok (.goto (-36), 3) := by decide +kernel
theorem dX2_fittingOf_55 : decode cX2_fittingOf 55 = .ok (.iload_n 2, 1) := by decide +kernel
theorem dX2_fittingOf_56 : decode cX2_fittingOf 56 = .ok (.ireturn, 1) := by decide +kernel
theorem dX3_init_0 : decode cX3_init 0 = .ok (.aload_n 0, 1) := by decide +kernel
theorem dX3_init_1 : decode cX3_init 1 = .ok (.invokespecial 3, 3) := by decide +kernel
theorem dX3_init_4 : decode cX3_init 4 = .ok (.aload_n 0, 1) := by decide +kernel
theorem dX3_init_5 : decode cX3_init 5 = .ok (.bipush 10, 2) := by decide +kernel
theorem dX3_init_7 : decode cX3_init 7 = .ok (.newarray .int, 2) := by decide +kernel
theorem dX3_init_9 : decode cX3_init 9 = .ok (.putfield 9, 3) := by decide +kernel
theorem dX3_init_12 : decode cX3_init 12 = .ok (.aload_n 0, 1) := by decide +kernel
theorem dX3_init_13 : decode cX3_init 13 = .ok (.iconst 2, 1) := by decide +kernel
theorem dX3_init_14 : decode cX3_init 14 = .ok (.newarray .int, 2) := by decide +kernel
theorem dX3_init_16 : decode cX3_init 16 = .ok (.putfield 15, 3) := by decide +kernel
theorem dX3_init_19 : decode cX3_init 19 = .ok (.aload_n 0, 1) := by decide +kernel
theorem dX3_init_20 : decode cX3_init 20 = .ok (.iconst 2, 1) := by decide +kernel
theorem dX3_init_21 : decode cX3_init 21 = .ok (.putfield 18, 3) := by decide +kernel
theorem dX3_init_24 : decode cX3_init 24 = .ok (.aload_n 0, 1) := by decide +kernel
theorem dX3_init_25 : decode cX3_init 25 = .ok (.iconst 2, 1) := by decide +kernel
theorem dX3_init_26 : decode cX3_init 26 = .ok (.putfield 22, 3) := by decide +kernel
theorem dX3_init_29 : decode cX3_init 29 = .ok (.aload_n 0, 1) := by decide +kernel
theorem dX3_init_30 : decode cX3_init 30 = .ok (.bipush 20, 2) := by decide +kernel
theorem dX3_init_32 : decode cX3_init 32 = .ok (.putfield 25, 3) := by decide +kernel
theorem dX3_init_35 : decode cX3_init 35 = .ok (.return_, 1) := by decide +kernel
theorem dX3_copyFrom_0 : decode cX3_copyFrom 0 = .ok (.aload_n 1, 1) := by decide +kernel
theorem dX3_copyFrom_1 : decode cX3_copyFrom 1 = .ok (.getfield 9, 3) := by decide +kernel
theorem dX3_copyFrom_4 : decode cX3_copyFrom 4 = .ok (.iconst 0, 1) := by decide +kernel
theorem dX3_copyFrom_5 : decode cX3_copyFrom 5 = .ok (.aload_n 0, 1) := by decide +kernel
theorem dX3_copyFrom_6 : decode cX3_copyFrom 6 = .ok (.getfield 9, 3) := by decide +kernel
theorem dX3_copyFrom_9 : decode cX3_copyFrom 9 = .ok (.iconst 0, 1) := by decide +kernel
theorem dX3_copyFrom_10 : decode cX3_copyFrom 10 = .ok (.aload_n 0, 1) := by decide +kernel
theorem dX3_copyFrom_11 : decode cX3_copyFrom 11 = .ok (.getfield 9, 3) := by decide +kernel
theorem dX3_copyFrom_14 : decode cX3_copyFrom 14 = .ok (.arraylength, 1) := by decide +kernel
theorem dX3_copyFrom_15 : decode cX3_copyFrom 15 = .ok (.invokestatic 28, 3) := by decide +kernel
theorem dX3_copyFrom_18 : decode cX3_copyFrom 18 = .ok (.aload_n 1, 1) := by decide +kernel
theorem dX3_copyFrom_19 : decode cX3_copyFrom 19 = .ok (.getfield 15, 3) := by decide +kernel
theorem dX3_copyFrom_22 : decode cX3_copyFrom 22 = .ok (.iconst 0, 1) := by decide +kernel
theorem dX3_copyFrom_23 : decode cX3_copyFrom 23 = .ok (.aload_n 0, 1) := by decide +kernel
theorem dX3_copyFrom_24 : decode cX3_copyFrom 24 = .ok (.getfield 15, 3) := by decide +kernel
theorem dX3_copyFrom_27 : decode cX3_copyFrom 27 = .ok (.iconst 0, 1) := by decide +kernel
theorem dX3_copyFrom_28 : decode cX3_copyFrom 28 = .ok (.aload_n 0, 1) := by decide +kernel
theorem dX3_copyFrom_29 : decode cX3_copyFrom 29 = .ok (.getfield 15, 3) := by decide +kernel
theorem dX3_copyFrom_32 : decode cX3_copyFrom 32 = .ok (.arraylength, 1) := by decide +kernel
theorem dX3_copyFrom_33 : decode cX3_copyFrom 33 = .ok (.invokestatic 28, 3) := by decide +kernel
theorem dX3_copyFrom_36 : decode cX3_copyFrom 36 = .ok (.aload_n 0, 1) := by decide +kernel
theorem dX3_copyFrom_37 : decode cX3_copyFrom 37 = .ok (.aload_n 1, 1) := by decide +kernel
theorem dX3_copyFrom_38 : decode cX3_copyFrom 38 = .ok (.getfield 18, 3) := by decide +kernel
theorem dX3_copyFrom_41 : decode cX3_copyFrom 41 = .ok (.putfield 18, 3) := by decide +kernel
theorem dX3_copyFrom_44 : decode cX3_copyFrom 44 = .ok (.aload_n 0, 1) := by decide +kernel
theorem dX3_copyFrom_45 : decode cX3_copyFrom 45 = .ok (.aload_n 1, 1) := by decide +kernel
theorem dX3_copyFrom_46 : decode cX3_copyFrom 46 = .ok (.getfield 22, 3) := by decide +kernel
theorem dX3_copyFrom_49 : decode cX3_copyFrom 49 = .ok (.putfield 22, 3) := by decide +kernel
theorem dX3_copyFrom_52 : decode cX3_copyFrom 52 = .ok (.aload_n 0, 1) := by decide +kernel
theorem dX3_copyFrom_53 : decode cX3_copyFrom 53 = .ok (.aload_n 1, 1) := by decide +kernel
theorem dX3_copyFrom_54 : decode cX3_copyFrom 54 = .ok (.getfield 25, 3) := by decide +kernel
theorem dX3_copyFrom_57 : decode cX3_copyFrom 57 = .ok (.putfield 25, 3) := by decide +kernel
theorem dX3_copyFrom_60 : decode cX3_copyFrom 60 = .ok (.aload_n 0, 1) := by decide +kernel
theorem dX3_copyFrom_61 : decode cX3_copyFrom 61 = .ok (.aload_n 1, 1) := by decide +kernel
theorem dX3_copyFrom_62 : decode cX3_copyFrom 62 = .ok (.getfield 34, 3) := by decide +kernel
theorem dX3_copyFrom_65 : decode cX3_copyFrom 65 = .ok (.putfield 34, 3) := by decide +kernel
theorem dX3_copyFrom_68 : decode cX3_copyFrom 68 = .ok (.aload_n 0, 1) := by decide +kernel
theorem dX3_copyFrom_69 : decode cX3_copyFrom 69 = .ok (.aload_n 1, 1) := by decide +kernel
theorem dX3_copyFrom_70 : decode cX3_copyFrom 70 = .ok (.getfield 37, 3) := by decide +kernel
theorem dX3_copyFrom_73 : decode cX3_copyFrom 73 = .ok (.putfield 37, 3) := by decide +kernel
theorem dX3_copyFrom_76 : decode cX3_copyFrom 76 = .ok (.aload_n 0, 1) := by decide +kernel
theorem dX3_copyFrom_77 : decode cX3_copyFrom 77 = .ok (.aload_n 1, 1) := by decide +kernel
theorem dX3_copyFrom_78 : decode cX3_copyFrom 78 = .ok (.getfield 40, 3) := by decide +kernel
theorem dX3_copyFrom_81 : decode cX3_copyFrom 81 = .ok (.putfield 40, 3) := by decide +kernel
theorem dX3_copyFrom_84 : decode cX3_copyFrom 84 = .ok (.aload_n 0, 1) := by decide +kernel
theorem dX3_copyFrom_85 : decode cX3_copyFrom 85 = .ok (.aload_n 1, 1) := by decide +kernel
theorem dX3_copyFrom_86 : decode cX3_copyFrom 86 = .ok (.getfield 43, 3) := by decide +kernel
theorem dX3_copyFrom_89 : decode cX3_copyFrom 89 = .ok (.putfield 43, 3) := by decide +kernel
theorem dX3_copyFrom_92 : decode cX3_copyFrom 92 = .ok (.return_, 1) := by decide +kernel
theorem dX3_waits_0 : decode cX3_waits 0 = .ok (.iload_n 1, 1) := by decide +kernel
theorem dX3_waits_1 : decode cX3_waits 1 = .ok (.ifCond .eq 8, 3) := by decide +kernel
theorem dX3_waits_4 : decode cX3_waits 4 = .ok (.iload_n 1, 1) := by decide +kernel
theorem dX3_waits_5 : decode cX3_waits 5 = .ok (.iconst 1, 1) := by decide +kernel
theorem dX3_waits_6 : decode cX3_waits 6 = .ok (.if_icmp .ne 12, 3) := by decide +kernel
theorem dX3_waits_9 : decode cX3_waits 9 = .ok (.aload_n 0, 1) := by decide +kernel
theorem dX3_waits_10 : decode cX3_waits 10 = .ok (.getfield 15, 3) := by decide +kernel
theorem dX3_waits_13 : decode cX3_waits 13 = .ok (.iload_n 1, 1) := by decide +kernel
theorem dX3_waits_14 : decode cX3_waits 14 = .ok (.iaload, 1) := by decide +kernel
theorem dX3_waits_15 : decode cX3_waits 15 = .ok (.goto 4, 3) := by decide +kernel
theorem dX3_waits_18 : decode cX3_waits 18 = .ok (.iconst 0, 1) := by decide +kernel
theorem dX3_waits_19 : decode cX3_waits 19 = .ok (.ireturn, 1) := by decide +kernel
theorem dX3_waitsInAll_0 : decode cX3_waitsInAll 0 = .ok (.aload_n 0, 1) := by decide +kernel
theorem dX3_waitsInAll_1 : decode cX3_waitsInAll 1 = .ok (.iconst 0, 1) := by decide +kernel
theorem dX3_waitsInAll_2 : decode cX3_waitsInAll 2 = .ok (.invokevirtual 46, 3) := by decide +kernel
theorem dX3_waitsInAll_5 : decode cX3_waitsInAll 5 = .ok (.aload_n 0, 1) := by decide +kernel
theorem dX3_waitsInAll_6 : decode cX3_waitsInAll 6 = .ok (.iconst 1, 1) := by decide +kernel
theorem dX3_waitsInAll_7 : decode cX3_waitsInAll 7 = .ok (.invokevirtual 46, 3) := by decide +kernel
theorem dX3_waitsInAll_10 : decode cX3_waitsInAll 10 = .ok (.iadd, 1) := by decide +kernel
theorem dX3_waitsInAll_11 : decode cX3_waitsInAll 11 = .ok (.ireturn, 1) := by decide +kernel
theorem dX3_nobodyWaits_0 : decode cX3_nobodyWaits 0 = .ok (.aload_n 0, 1) := by decide +kernel
theorem dX3_nobodyWaits_1 : decode cX3_nobodyWaits 1 = .ok (.invokevirtual 50, 3) := by decide +kernel
theorem dX3_nobodyWaits_4 : decode cX3_nobodyWaits 4 = .ok (.ifCond .ne 7, 3) := by decide +kernel
theorem dX3_nobodyWaits_7 : decode cX3_nobodyWaits 7 = .ok (.iconst 1, 1) := by decide +kernel
theorem dX3_nobodyWaits_8 : decode cX3_nobodyWaits 8 = .ok (.goto 4, 3) := by decide +kernel
theorem dX3_nobodyWaits_11 : decode cX3_nobodyWaits 11 = .ok (.iconst 0, 1) := by decide +kernel
theorem dX3_nobodyWaits_12 : decode cX3_nobodyWaits 12 = .ok (.ireturn, 1) := by decide +kernel
theorem dX3_has_0 : decode cX3_has 0 = .ok (.iload_n 2, 1) := by decide +kernel
theorem dX3_has_1 : decode cX3_has 1 = .ok (.ifCond .lt 21, 3) := by decide +kernel
theorem dX3_has_4 : decode cX3_has 4 = .ok (.iload_n 2, 1) := by decide +kernel
theorem dX3_has_5 : decode cX3_has 5 = .ok (.aload_n 0, 1) := by decide +kernel
theorem dX3_has_6 : decode cX3_has 6 = .ok (.iload_n 1, 1) := by decide +kernel
theorem dX3_has_7 : decode cX3_has 7 = .ok (.invokevirtual 46, 3) := by decide +kernel
theorem dX3_has_10 : decode cX3_has 10 = .ok (.if_icmp .ge 12, 3) := by decide +kernel
theorem dX3_has_13 : decode cX3_has 13 = .ok (.iload_n 2, 1) := by decide +kernel
theorem dX3_has_14 : decode cX3_has 14 = .ok (.iconst 5, 1) := by decide +kernel
theorem dX3_has_15 : decode cX3_has 15 = .ok (.if_icmp .ge 7, 3) := by decide +kernel
theorem dX3_has_18 : decode cX3_has 18 = .ok (.iconst 1, 1) := by decide +kernel
theorem dX3_has_19 : decode cX3_has 19 = .ok (.goto 4, 3) := by decide +kernel
theorem dX3_has_22 : decode cX3_has 22 = .ok (.iconst 0, 1) := by decide +kernel
theorem dX3_has_23 : decode cX3_has 23 = .ok (.ireturn, 1) := by decide +kernel
theorem dX3_weightAt_0 : decode cX3_weightAt 0 = .ok (.aload_n 0, 1) := by decide +kernel
theorem dX3_weightAt_1 : decode cX3_weightAt 1 = .ok (.iload_n 1, 1) := by decide +kernel
theorem dX3_weightAt_2 : decode cX3_weightAt 2 = .ok (.iload_n 2, 1) := by decide +kernel
theorem dX3_weightAt_3 : decode cX3_weightAt 3 = .ok (.invokevirtual 54, 3) := by decide +kernel
theorem dX3_weightAt_6 : decode cX3_weightAt 6 = .ok (.ifCond .eq 16, 3) := by decide +kernel
theorem dX3_weightAt_9 : decode cX3_weightAt 9 = .ok (.aload_n 0, 1) := by decide +kernel
theorem dX3_weightAt_10 : decode cX3_weightAt 10 = .ok (.getfield 9, 3) := by decide +kernel
theorem dX3_weightAt_13 : decode cX3_weightAt 13 = .ok (.iload_n 1, 1) := by decide +kernel
theorem dX3_weightAt_14 : decode cX3_weightAt 14 = .ok (.iconst 5, 1) := by decide +kernel
theorem dX3_weightAt_15 : decode cX3_weightAt 15 = .ok (.imul, 1) := by decide +kernel
theorem dX3_weightAt_16 : decode cX3_weightAt 16 = .ok (.iload_n 2, 1) := by decide +kernel
theorem dX3_weightAt_17 : decode cX3_weightAt 17 = .ok (.iadd, 1) := by decide +kernel
theorem dX3_weightAt_18 : decode cX3_weightAt 18 = .ok (.iaload, 1) := by decide +kernel
theorem dX3_weightAt_19 : decode cX3_weightAt 19 = .ok (.goto 4, 3) := by decide +kernel
theorem dX3_weightAt_22 : decode cX3_weightAt 22 = .ok (.iconst 0, 1) := by decide +kernel
theorem dX3_weightAt_23 : decode cX3_weightAt 23 = .ok (.ireturn, 1) := by decide +kernel
theorem dX3_weigh_0 : decode cX3_weigh 0 = .ok (.aload_n 0, 1) := by decide +kernel
theorem dX3_weigh_1 : decode cX3_weigh 1 = .ok (.iload_n 1, 1) := by decide +kernel
theorem dX3_weigh_2 : decode cX3_weigh 2 = .ok (.iload_n 2, 1) := by decide +kernel
theorem dX3_weigh_3 : decode cX3_weigh 3 = .ok (.invokevirtual 54, 3) := by decide +kernel
theorem dX3_weigh_6 : decode cX3_weigh 6 = .ok (.ifCond .eq 14, 3) := by decide +kernel
theorem dX3_weigh_9 : decode cX3_weigh 9 = .ok (.aload_n 0, 1) := by decide +kernel
theorem dX3_weigh_10 : decode cX3_weigh 10 = .ok (.getfield 9, 3) := by decide +kernel
theorem dX3_weigh_13 : decode cX3_weigh 13 = .ok (.iload_n 1, 1) := by decide +kernel
theorem dX3_weigh_14 : decode cX3_weigh 14 = .ok (.iconst 5, 1) := by decide +kernel
theorem dX3_weigh_15 : decode cX3_weigh 15 = .ok (.imul, 1) := by decide +kernel
theorem dX3_weigh_16 : decode cX3_weigh 16 = .ok (.iload_n 2, 1) := by decide +kernel
theorem dX3_weigh_17 : decode cX3_weigh 17 = .ok (.iadd, 1) := by decide +kernel
theorem dX3_weigh_18 : decode cX3_weigh 18 = .ok (.iload_n 3, 1) := by decide +kernel
theorem dX3_weigh_19 : decode cX3_weigh 19 = .ok (.iastore, 1) := by decide +kernel
theorem dX3_weigh_20 : decode cX3_weigh 20 = .ok (.return_, 1) := by decide +kernel
theorem dX3_letCome_0 : decode cX3_letCome 0 = .ok (.aload_n 0, 1) := by decide +kernel
theorem dX3_letCome_1 : decode cX3_letCome 1 = .ok (.iload_n 1, 1) := by decide +kernel
theorem dX3_letCome_2 : decode cX3_letCome 2 = .ok (.invokevirtual 46, 3) := by decide +kernel
theorem dX3_letCome_5 : decode cX3_letCome 5 = .ok (.istore_n 3, 1) := by decide +kernel
theorem dX3_letCome_6 : decode cX3_letCome 6 = .ok (.iload_n 1, 1) := by decide +kernel
theorem dX3_letCome_7 : decode cX3_letCome 7 = .ok (.ifCond .eq 8, 3) := by decide +kernel
theorem dX3_letCome_10 : decode cX3_letCome 10 = .ok (.iload_n 1, 1) := by decide +kernel
theorem dX3_letCome_11 : decode cX3_letCome 11 = .ok (.iconst 1, 1) := by decide +kernel
theorem dX3_letCome_12 : decode cX3_letCome 12 = .ok (.if_icmp .ne 8, 3) := by decide +kernel
theorem dX3_letCome_15 : decode cX3_letCome 15 = .ok (.iload_n 3, 1) := by decide +kernel
theorem dX3_letCome_16 : decode cX3_letCome 16 = .ok (.iconst 5, 1) := by decide +kernel
theorem dX3_letCome_17 : decode cX3_letCome 17 = .ok (.if_icmp .lt 5, 3) := by decide +kernel
theorem dX3_letCome_20 : decode cX3_letCome 20 = .ok (.iconst 0, 1) := by decide +kernel
theorem dX3_letCome_21 : decode cX3_letCome 21 = .ok (.ireturn, 1) := by decide +kernel
theorem dX3_letCome_22 : decode cX3_letCome 22 = .ok (.aload_n 0, 1) := by decide +kernel
theorem dX3_letCome_23 : decode cX3_letCome 23 = .ok (.getfield 15, 3) := by decide +kernel
theorem dX3_letCome_26 : decode cX3_letCome 26 = .ok (.iload_n 1, 1) := by decide +kernel
theorem dX3_letCome_27 : decode cX3_letCome 27 = .ok (.iload_n 3, 1) := by decide +kernel
theorem dX3_letCome_28 : decode cX3_letCome 28 = .ok (.iconst 1, 1) := by decide +kernel
theorem dX3_letCome_29 : decode cX3_letCome 29 = .ok (.iadd, 1) := by decide +kernel
theorem dX3_letCome_30 : decode cX3_letCome 30 = .ok (.iastore, 1) := by decide +kernel
theorem dX3_letCome_31 : decode cX3_letCome 31 = .ok (.aload_n 0, 1) := by decide +kernel
theorem dX3_letCome_32 : decode cX3_letCome 32 = .ok (.iload_n 1, 1) := by decide +kernel
theorem dX3_letCome_33 : decode cX3_letCome 33 = .ok (.iload_n 3, 1) := by decide +kernel
theorem dX3_letCome_34 : decode cX3_letCome 34 = .ok (.iload_n 2, 1) := by decide +kernel
theorem dX3_letCome_35 : decode cX3_letCome 35 = .ok (.invokevirtual 58, 3) := by decide +kernel
theorem dX3_letCome_38 : decode cX3_letCome 38 = .ok (.iconst 1, 1) := by decide +kernel
theorem dX3_letCome_39 : decode cX3_letCome 39 = .ok (.ireturn, 1) := by decide +kernel
theorem dX3_allOf_0 : decode cX3_allOf 0 = .ok (.iconst 1, 1) := by decide +kernel
theorem dX3_allOf_1 : decode cX3_allOf 1 = .ok (.aload_n 0, 1) := by decide +kernel
theorem dX3_allOf_2 : decode cX3_allOf 2 = .ok (.iload_n 1, 1) := by decide +kernel
theorem dX3_allOf_3 : decode cX3_allOf 3 = .ok (.invokevirtual 46, 3) := by decide +kernel
theorem dX3_allOf_6 : decode cX3_allOf 6 = .ok (.ishl, 1) := by decide +kernel
theorem dX3_allOf_7 : decode cX3_allOf 7 = .ok (.iconst 1, 1) := by decide +kernel
theorem dX3_allOf_8 : decode cX3_allOf 8 = .ok (.isub, 1) := by decide +kernel
theorem dX3_allOf_9 : decode cX3_allOf 9 = .ok (.ireturn, 1) := by decide +kernel
theorem dX3_nextOf_0 : decode cX3_nextOf 0 = .ok (.iconst 1, 1) := by decide +kernel
theorem dX3_nextOf_1 : decode cX3_nextOf 1 = .ok (.aload_n 0, 1) := by decide +kernel
theorem dX3_nextOf_2 : decode cX3_nextOf 2 = .ok (.getfield 18, 3) := by decide +kernel
theorem dX3_nextOf_5 : decode cX3_nextOf 5 = .ok (.aload_n 0, 1) := by decide +kernel
theorem dX3_nextOf_6 : decode cX3_nextOf 6 = .ok (.iload_n 1, 1) := by decide +kernel
theorem dX3_nextOf_7 : decode cX3_nextOf 7 = .ok (.invokevirtual 46, 3) := by decide +kernel
theorem dX3_nextOf_10 : decode cX3_nextOf 10 = .ok (.invokestatic 62, 3) := by decide +kernel
theorem dX3_nextOf_13 : decode cX3_nextOf 13 = .ok (.ishl, 1) := by decide +kernel
theorem dX3_nextOf_14 : decode cX3_nextOf 14 = .ok (.iconst 1, 1) := by decide +kernel
theorem dX3_nextOf_15 : decode cX3_nextOf 15 = .ok (.isub, 1) := by decide +kernel
theorem dX3_nextOf_16 : decode cX3_nextOf 16 = .ok (.ireturn, 1) := by decide +kernel
theorem dX3_mayBoard_0 : decode cX3_mayBoard 0 = .ok (.iload_n 2, 1) := by decide +kernel
theorem dX3_mayBoard_1 : decode cX3_mayBoard 1 = .ok (.aload_n 0, 1) := by decide +kernel
theorem dX3_mayBoard_2 : decode cX3_mayBoard 2 = .ok (.iload_n 1, 1) := by decide +kernel
theorem dX3_mayBoard_3 : decode cX3_mayBoard 3 = .ok (.invokevirtual 68, 3) := by decide +kernel
theorem dX3_mayBoard_6 : decode cX3_mayBoard 6 = .ok (.iconst (-1), 1) := by decide +kernel
theorem dX3_mayBoard_7 : decode cX3_mayBoard 7 = .ok (.ixor, 1) := by decide +kernel
theorem dX3_mayBoard_8 : decode cX3_mayBoard 8 = .ok (.iand, 1) := by decide +kernel
theorem dX3_mayBoard_9 : decode cX3_mayBoard 9 = .ok (.ifCond .ne 18, 3) := by decide +kernel
theorem dX3_mayBoard_12 : decode cX3_mayBoard 12 = .ok (.iload_n 2, 1) := by decide +kernel
theorem dX3_mayBoard_13 : decode cX3_mayBoard 13 = .ok (.invokestatic 71, 3) := by decide +kernel
theorem dX3_mayBoard_16 : decode cX3_mayBoard 16 = .ok (.aload_n 0, 1) := by decide +kernel
theorem dX3_mayBoard_17 : decode cX3_mayBoard 17 = .ok (.getfield 18, 3) := by decide +kernel
theorem dX3_mayBoard_20 : decode cX3_mayBoard 20 = .ok (.if_icmp .gt 7, 3) := by decide +kernel
theorem dX3_mayBoard_23 : decode cX3_mayBoard 23 = .ok (.iconst 1, 1) := by decide +kernel
theorem dX3_mayBoard_24 : decode cX3_mayBoard 24 = .ok (.goto 4, 3) := by decide +kernel
theorem dX3_mayBoard_27 : decode cX3_mayBoard 27 = .ok (.iconst 0, 1) := by decide +kernel
theorem dX3_mayBoard_28 : decode cX3_mayBoard 28 = .ok (.ireturn, 1) := by decide +kernel
theorem dX3_weightOf_0 : decode cX3_weightOf 0 = .ok (.iconst 0, 1) := by decide +kernel
theorem dX3_weightOf_1 : decode cX3_weightOf 1 = .ok (.istore_n 3, 1) := by decide +kernel
theorem dX3_weightOf_2 : decode cX3_weightOf 2 = .ok (.iload_n 1, 1) := by decide +kernel
theorem dX3_weightOf_3 : decode cX3_weightOf 3 = .ok (.ifCond .eq 8, 3) := by decide +kernel
theorem dX3_weightOf_6 : decode cX3_weightOf 6 = .ok (.iload_n 1, 1) := by decide +kernel
theorem dX3_weightOf_7 : decode cX3_weightOf 7 = .ok (.iconst 1, 1) := by decide +kernel
theorem dX3_weightOf_8 : decode cX3_weightOf 8 = .ok (.if_icmp .ne 50, 3) := by decide +kernel
theorem dX3_weightOf_11 : decode cX3_weightOf 11 = .ok (.iconst 0, 1) := by decide +kernel
theorem dX3_weightOf_12 : decode cX3_weightOf 12 = .ok (.istore 4, 2) := by decide +kernel
theorem dX3_weightOf_14 : decode cX3_weightOf 14 = .ok (.iload 4, 2) := by decide +kernel
theorem dX3_weightOf_16 : decode cX3_weightOf 16 = .ok (.iconst 5, 1) := by decide +kernel
theorem dX3_weightOf_17 : decode cX3_weightOf 17 = .ok (.if_icmp .ge 41, 3) := by decide +kernel
theorem dX3_weightOf_20 : decode cX3_weightOf 20 = .ok (.iload 4, 2) := by decide +kernel
theorem dX3_weightOf_22 : decode cX3_weightOf 22 = .ok (.aload_n 0, 1) := by decide +kernel
theorem dX3_weightOf_23 : decode cX3_weightOf 23 = .ok (.getfield 15, 3) := by decide +kernel
theorem dX3_weightOf_26 : decode cX3_weightOf 26 = .ok (.iload_n 1, 1) := by decide +kernel
theorem dX3_weightOf_27 : decode cX3_weightOf 27 = .ok (.iaload, 1) := by decide +kernel
theorem dX3_weightOf_28 : decode cX3_weightOf 28 = .ok (.if_icmp .ge 30, 3) := by decide +kernel
theorem dX3_weightOf_31 : decode cX3_weightOf 31 = .ok (.iload_n 3, 1) := by decide +kernel
theorem dX3_weightOf_32 : decode cX3_weightOf 32 = .ok (.iload_n 2, 1) := by decide +kernel
theorem dX3_weightOf_33 : decode cX3_weightOf 33 = .ok (.iload 4, 2) := by decide +kernel
theorem dX3_weightOf_35 : decode cX3_weightOf 35 = .ok (.ishr, 1) := by decide +kernel
theorem dX3_weightOf_36 : decode cX3_weightOf 36 = .ok (.iconst 1, 1) := by decide +kernel
theorem dX3_weightOf_37 : decode cX3_weightOf 37 = .ok (.iand, 1) := by decide +kernel
theorem dX3_weightOf_38 : decode cX3_weightOf 38 = .ok (.aload_n 0, 1) := by decide +kernel
theorem dX3_weightOf_39 : decode cX3_weightOf 39 = .ok (.getfield 9, 3) := by decide +kernel
theorem dX3_weightOf_42 : decode cX3_weightOf 42 = .ok (.iload_n 1, 1) := by decide +kernel
theorem dX3_weightOf_43 : decode cX3_weightOf 43 = .ok (.iconst 5, 1) := by decide +kernel
theorem dX3_weightOf_44 : decode cX3_weightOf 44 = .ok (.imul, 1) := by decide +kernel
theorem dX3_weightOf_45 : decode cX3_weightOf 45 = .ok (.iload 4, 2) := by decide +kernel
theorem dX3_weightOf_47 : decode cX3_weightOf 47 = .ok (.iadd, 1) := by decide +kernel
theorem dX3_weightOf_48 : decode cX3_weightOf 48 = .ok (.iaload, 1) := by decide +kernel
theorem dX3_weightOf_49 : decode cX3_weightOf 49 = .ok (.imul, 1) := by decide +kernel
theorem dX3_weightOf_50 : decode cX3_weightOf 50 = .ok (.iadd, 1) := by decide +kernel
theorem dX3_weightOf_51 : decode cX3_weightOf 51 = .ok (.istore_n 3, 1) := by decide +kernel
theorem dX3_weightOf_52 : decode cX3_weightOf 52 = .ok (.iinc 4 1, 3) := by decide +kernel
theorem dX3_weightOf_55 : decode cX3_weightOf 55 = .ok (.goto (-41), 3) := by decide +kernel
theorem dX3_weightOf_58 : decode cX3_weightOf 58 = .ok (.iload_n 3, 1) := by decide +kernel
theorem dX3_weightOf_59 : decode cX3_weightOf 59 = .ok (.ireturn, 1) := by decide +kernel
theorem dX3_waterFor_0 : decode cX3_waterFor 0 = .ok (.iconst 0, 1) := by decide +kernel
theorem dX3_waterFor_1 : decode cX3_waterFor 1 = .ok (.aload_n 0, 1) := by decide +kernel
theorem dX3_waterFor_2 : decode cX3_waterFor 2 = .ok (.iconst 1, 1) := by decide +kernel
theorem dX3_waterFor_3 : decode cX3_waterFor 3 = .ok (.iload_n 2, 1) := by decide +kernel
theorem dX3_waterFor_4 : decode cX3_waterFor 4 = .ok (.invokevirtual 76, 3) := by decide +kernel
theorem dX3_waterFor_7 : decode cX3_waterFor 7 = .ok (.aload_n 0, 1) := by decide +kernel
theorem dX3_waterFor_8 : decode cX3_waterFor 8 = .ok (.getfield 22, 3) := by decide +kernel
theorem dX3_waterFor_11 : decode cX3_waterFor 11 = .ok (.iadd, 1) := by decide +kernel
theorem dX3_waterFor_12 : decode cX3_waterFor 12 = .ok (.aload_n 0, 1) := by decide +kernel
theorem dX3_waterFor_13 : decode cX3_waterFor 13 = .ok (.iconst 0, 1) := by decide +kernel
theorem dX3_waterFor_14 : decode cX3_waterFor 14 = .ok (.iload_n 1, 1) := by decide +kernel
theorem dX3_waterFor_15 : decode cX3_waterFor 15 = .ok (.invokevirtual 76, 3) := by decide +kernel
theorem dX3_waterFor_18 : decode cX3_waterFor 18 = .ok (.isub, 1) := by decide +kernel
theorem dX3_waterFor_19 : decode cX3_waterFor 19 = .ok (.invokestatic 79, 3) := by decide +kernel
theorem dX3_waterFor_22 : decode cX3_waterFor 22 = .ok (.ireturn, 1) := by decide +kernel
theorem dX3_exchange_0 : decode cX3_exchange 0 = .ok (.aload_n 0, 1) := by decide +kernel
theorem dX3_exchange_1 : decode cX3_exchange 1 = .ok (.iload_n 1, 1) := by decide +kernel
theorem dX3_exchange_2 : decode cX3_exchange 2 = .ok (.iload_n 2, 1) := by decide +kernel
theorem dX3_exchange_3 : decode cX3_exchange 3 = .ok (.invokevirtual 82, 3) := by decide +kernel
theorem dX3_exchange_6 : decode cX3_exchange 6 = .ok (.istore 4, 2) := by decide +kernel
theorem dX3_exchange_8 : decode cX3_exchange 8 = .ok (.aload_n 0, 1) := by decide +kernel
theorem dX3_exchange_9 : decode cX3_exchange 9 = .ok (.iload_n 1, 1) := by decide +kernel
theorem dX3_exchange_10 : decode cX3_exchange 10 = .ok (.iload_n 2, 1) := by decide +kernel
theorem dX3_exchange_11 : decode cX3_exchange 11 = .ok (.aload_n 0, 1) := by decide +kernel
theorem dX3_exchange_12 : decode cX3_exchange 12 = .ok (.iload_n 1, 1) := by decide +kernel
theorem dX3_exchange_13 : decode cX3_exchange 13 = .ok (.iload_n 3, 1) := by decide +kernel
theorem dX3_exchange_14 : decode cX3_exchange 14 = .ok (.invokevirtual 82, 3) := by decide +kernel
theorem dX3_exchange_17 : decode cX3_exchange 17 = .ok (.invokevirtual 58, 3) := by decide +kernel
theorem dX3_exchange_20 : decode cX3_exchange 20 = .ok (.aload_n 0, 1) := by decide +kernel
theorem dX3_exchange_21 : decode cX3_exchange 21 = .ok (.iload_n 1, 1) := by decide +kernel
theorem dX3_exchange_22 : decode cX3_exchange 22 = .ok (.iload_n 3, 1) := by decide +kernel
theorem dX3_exchange_23 : decode cX3_exchange 23 = .ok (.iload 4, 2) := by decide +kernel
theorem dX3_exchange_25 : decode cX3_exchange 25 = .ok (.invokevirtual 58, 3) := by decide +kernel
theorem dX3_exchange_28 : decode cX3_exchange 28 = .ok (.return_, 1) := by decide +kernel
theorem dX3_takeAway_0 : decode cX3_takeAway 0 = .ok (.iload_n 1, 1) := by decide +kernel
theorem dX3_takeAway_1 : decode cX3_takeAway 1 = .ok (.ifCond .eq 9, 3) := by decide +kernel
theorem dX3_takeAway_4 : decode cX3_takeAway 4 = .ok (.iload_n 1, 1) := by decide +kernel
theorem dX3_takeAway_5 : decode cX3_takeAway 5 = .ok (.iconst 1, 1) := by decide +kernel
theorem dX3_takeAway_6 : decode cX3_takeAway 6 = .ok (.if_icmp .eq 4, 3) := by decide +kernel
theorem dX3_takeAway_9 : decode cX3_takeAway 9 = .ok (.return_, 1) := by decide +kernel
theorem dX3_takeAway_10 : decode cX3_takeAway 10 = .ok (.iconst 0, 1) := by decide +kernel
theorem dX3_takeAway_11 : decode cX3_takeAway 11 = .ok (.istore_n 3, 1) := by decide +kernel
theorem dX3_takeAway_12 : decode cX3_takeAway 12 = .ok (.iconst 0, 1) := by decide +kernel
theorem dX3_takeAway_13 : decode cX3_takeAway 13 = .ok (.istore 4, 2) := by decide +kernel
theorem dX3_takeAway_15 : decode cX3_takeAway 15 = .ok (.iload 4, 2) := by decide +kernel
theorem dX3_takeAway_17 : decode cX3_takeAway 17 = .ok (.iconst 5, 1) := by decide +kernel
theorem dX3_takeAway_18 : decode cX3_takeAway 18 = .ok (.if_icmp .ge 53, 3) := by decide +kernel
theorem dX3_takeAway_21 : decode cX3_takeAway 21 = .ok (.iload 4, 2) := by decide +kernel
theorem dX3_takeAway_23 : decode cX3_takeAway 23 = .ok (.aload_n 0, 1) := by decide +kernel
theorem dX3_takeAway_24 : decode cX3_takeAway 24 = .ok (.getfield 15, 3) := by decide +kernel
theorem dX3_takeAway_27 : decode cX3_takeAway 27 = .ok (.iload_n 1, 1) := by decide +kernel
theorem dX3_takeAway_28 : decode cX3_takeAway 28 = .ok (.iaload, 1) := by decide +kernel
theorem dX3_takeAway_29 : decode cX3_takeAway 29 = .ok (.if_icmp .ge 42, 3) := by decide +kernel
theorem dX3_takeAway_32 : decode cX3_takeAway 32 = .ok (.iload_n 2, 1) := by decide +kernel
theorem dX3_takeAway_33 : decode cX3_takeAway 33 = .ok (.iload 4, 2) := by decide +kernel
theorem dX3_takeAway_35 : decode cX3_takeAway 35 = .ok (.ishr, 1) := by decide +kernel
theorem dX3_takeAway_36 : decode cX3_takeAway 36 = .ok (.iconst 1, 1) := by decide +kernel
theorem dX3_takeAway_37 : decode cX3_takeAway 37 = .ok (.iand, 1) := by decide +kernel
theorem dX3_takeAway_38 : decode cX3_takeAway 38 = .ok (.ifCond .ne 27, 3) := by decide +kernel
theorem dX3_takeAway_41 : decode cX3_takeAway 41 = .ok (.aload_n 0, 1) := by decide +kernel
theorem dX3_takeAway_42 : decode cX3_takeAway 42 = .ok (.getfield 9, 3) := by decide +kernel
theorem dX3_takeAway_45 : decode cX3_takeAway 45 = .ok (.iload_n 1, 1) := by decide +kernel
theorem dX3_takeAway_46 : decode cX3_takeAway 46 = .ok (.iconst 5, 1) := by decide +kernel
theorem dX3_takeAway_47 : decode cX3_takeAway 47 = .ok (.imul, 1) := by decide +kernel
theorem dX3_takeAway_48 : decode cX3_takeAway 48 = .ok (.iload_n 3, 1) := by decide +kernel
theorem dX3_takeAway_49 : decode cX3_takeAway 49 = .ok (.iadd, 1) := by decide +kernel
theorem dX3_takeAway_50 : decode cX3_takeAway 50 = .ok (.aload_n 0, 1) := by decide +kernel
theorem dX3_takeAway_51 : decode cX3_takeAway 51 = .ok (.getfield 9, 3) := by decide +kernel
theorem dX3_takeAway_54 : decode cX3_takeAway 54 = .ok (.iload_n 1, 1) := by decide +kernel
theorem dX3_takeAway_55 : decode cX3_takeAway 55 = .ok (.iconst 5, 1) := by decide +kernel
theorem dX3_takeAway_56 : decode cX3_takeAway 56 = .ok (.imul, 1) := by decide +kernel
theorem dX3_takeAway_57 : decode cX3_takeAway 57 = .ok (.iload 4, 2) := by decide +kernel
theorem dX3_takeAway_59 : decode cX3_takeAway 59 = .ok (.iadd, 1) := by decide +kernel
theorem dX3_takeAway_60 : decode cX3_takeAway 60 = .ok (.iaload, 1) := by decide +kernel
theorem dX3_takeAway_61 : decode cX3_takeAway 61 = .ok (.iastore, 1) := by decide +kernel
theorem dX3_takeAway_62 : decode cX3_takeAway 62 = .ok (.iinc 3 1, 3) := by decide +kernel
theorem dX3_takeAway_65 : decode cX3_takeAway 65 = .ok (.iinc 4 1, 3) := by decide +kernel
theorem dX3_takeAway_68 : decode cX3_takeAway 68 = .ok (.goto (-53), 3) := by decide +kernel
theorem dX3_takeAway_71 : decode cX3_takeAway 71 = .ok (.aload_n 0, 1) := by decide +kernel
theorem dX3_takeAway_72 : decode cX3_takeAway 72 = .ok (.getfield 15, 3) := by decide +kernel
theorem dX3_takeAway_75 : decode cX3_takeAway 75 = .ok (.iload_n 1, 1) := by decide +kernel
theorem dX3_takeAway_76 : decode cX3_takeAway 76 = .ok (.iload_n 3, 1) := by decide +kernel
theorem dX3_takeAway_77 : decode cX3_takeAway 77 = .ok (.iastore, 1) := by decide +kernel
theorem dX3_takeAway_78 : decode cX3_takeAway 78 = .ok (.return_, 1) := by decide +kernel
theorem dX3_takeNext_0 : decode cX3_takeNext 0 = .ok (.aload_n 0, 1) := by decide +kernel
theorem dX3_takeNext_1 : decode cX3_takeNext 1 = .ok (.iconst 0, 1) := by decide +kernel
theorem dX3_takeNext_2 : decode cX3_takeNext 2 = .ok (.aload_n 0, 1) := by decide +kernel
theorem dX3_takeNext_3 : decode cX3_takeNext 3 = .ok (.iconst 0, 1) := by decide +kernel
theorem dX3_takeNext_4 : decode cX3_takeNext 4 = .ok (.invokevirtual 85, 3) := by decide +kernel
theorem dX3_takeNext_7 : decode cX3_takeNext 7 = .ok (.invokevirtual 88, 3) := by decide +kernel
theorem dX3_takeNext_10 : decode cX3_takeNext 10 = .ok (.aload_n 0, 1) := by decide +kernel
theorem dX3_takeNext_11 : decode cX3_takeNext 11 = .ok (.iconst 1, 1) := by decide +kernel
theorem dX3_takeNext_12 : decode cX3_takeNext 12 = .ok (.aload_n 0, 1) := by decide +kernel
theorem dX3_takeNext_13 : decode cX3_takeNext 13 = .ok (.iconst 1, 1) := by decide +kernel
theorem dX3_takeNext_14 : decode cX3_takeNext 14 = .ok (.invokevirtual 85, 3) := by decide +kernel
theorem dX3_takeNext_17 : decode cX3_takeNext 17 = .ok (.invokevirtual 88, 3) := by decide +kernel
theorem dX3_takeNext_20 : decode cX3_takeNext 20 = .ok (.return_, 1) := by decide +kernel
theorem dX3_travel_0 : decode cX3_travel 0 = .ok (.aload_n 0, 1) := by decide +kernel
theorem dX3_travel_1 : decode cX3_travel 1 = .ok (.dup, 1) := by decide +kernel
theorem dX3_travel_2 : decode cX3_travel 2 = .ok (.getfield 25, 3) := by decide +kernel
theorem dX3_travel_5 : decode cX3_travel 5 = .ok (.aload_n 0, 1) := by decide +kernel
theorem dX3_travel_6 : decode cX3_travel 6 = .ok (.iload_n 1, 1) := by decide +kernel
theorem dX3_travel_7 : decode cX3_travel 7 = .ok (.iload_n 2, 1) := by decide +kernel
theorem dX3_travel_8 : decode cX3_travel 8 = .ok (.invokevirtual 92, 3) := by decide +kernel
theorem dX3_travel_11 : decode cX3_travel 11 = .ok (.isub, 1) := by decide +kernel
theorem dX3_travel_12 : decode cX3_travel 12 = .ok (.putfield 25, 3) := by decide +kernel
theorem dX3_travel_15 : decode cX3_travel 15 = .ok (.aload_n 0, 1) := by decide +kernel
theorem dX3_travel_16 : decode cX3_travel 16 = .ok (.sipush 9999, 3) := by decide +kernel
theorem dX3_travel_19 : decode cX3_travel 19 = .ok (.aload_n 0, 1) := by decide +kernel
theorem dX3_travel_20 : decode cX3_travel 20 = .ok (.getfield 34, 3) := by decide +kernel
theorem dX3_travel_23 : decode cX3_travel 23 = .ok (.aload_n 0, 1) := by decide +kernel
theorem dX3_travel_24 : decode cX3_travel 24 = .ok (.iconst 0, 1) := by decide +kernel
theorem dX3_travel_25 : decode cX3_travel 25 = .ok (.iload_n 1, 1) := by decide +kernel
theorem dX3_travel_26 : decode cX3_travel 26 = .ok (.invokevirtual 76, 3) := by decide +kernel
theorem dX3_travel_29 : decode cX3_travel 29 = .ok (.iadd, 1) := by decide +kernel
theorem dX3_travel_30 : decode cX3_travel 30 = .ok (.invokestatic 62, 3) := by decide +kernel
theorem dX3_travel_33 : decode cX3_travel 33 = .ok (.putfield 34, 3) := by decide +kernel
theorem dX3_travel_36 : decode cX3_travel 36 = .ok (.aload_n 0, 1) := by decide +kernel
theorem dX3_travel_37 : decode cX3_travel 37 = .ok (.sipush 9999, 3) := by decide +kernel
theorem dX3_travel_40 : decode cX3_travel 40 = .ok (.aload_n 0, 1) := by decide +kernel
theorem dX3_travel_41 : decode cX3_travel 41 = .ok (.getfield 37, 3) := by decide +kernel
theorem dX3_travel_44 : decode cX3_travel 44 = .ok (.aload_n 0, 1) := by decide +kernel
theorem dX3_travel_45 : decode cX3_travel 45 = .ok (.iconst 1, 1) := by decide +kernel
theorem dX3_travel_46 : decode cX3_travel 46 = .ok (.iload_n 2, 1) := by decide +kernel
theorem dX3_travel_47 : decode cX3_travel 47 = .ok (.invokevirtual 76, 3) := by decide +kernel
theorem dX3_travel_50 : decode cX3_travel 50 = .ok (.iadd, 1) := by decide +kernel
theorem dX3_travel_51 : decode cX3_travel 51 = .ok (.invokestatic 62, 3) := by decide +kernel
theorem dX3_travel_54 : decode cX3_travel 54 = .ok (.putfield 37, 3) := by decide +kernel
theorem dX3_travel_57 : decode cX3_travel 57 = .ok (.aload_n 0, 1) := by decide +kernel
theorem dX3_travel_58 : decode cX3_travel 58 = .ok (.iconst 0, 1) := by decide +kernel
theorem dX3_travel_59 : decode cX3_travel 59 = .ok (.iload_n 1, 1) := by decide +kernel
theorem dX3_travel_60 : decode cX3_travel 60 = .ok (.invokevirtual 88, 3) := by decide +kernel
theorem dX3_travel_63 : decode cX3_travel 63 = .ok (.aload_n 0, 1) := by decide +kernel
theorem dX3_travel_64 : decode cX3_travel 64 = .ok (.iconst 1, 1) := by decide +kernel
theorem dX3_travel_65 : decode cX3_travel 65 = .ok (.iload_n 2, 1) := by decide +kernel
theorem dX3_travel_66 : decode cX3_travel 66 = .ok (.invokevirtual 88, 3) := by decide +kernel
theorem dX3_travel_69 : decode cX3_travel 69 = .ok (.aload_n 0, 1) := by decide +kernel
theorem dX3_travel_70 : decode cX3_travel 70 = .ok (.dup, 1) := by decide +kernel
theorem dX3_travel_71 : decode cX3_travel 71 = .ok (.getfield 40, 3) := by decide +kernel
theorem dX3_travel_74 : decode cX3_travel 74 = .ok (.iconst 1, 1) := by decide +kernel
theorem dX3_travel_75 : decode cX3_travel 75 = .ok (.iadd, 1) := by decide +kernel
theorem dX3_travel_76 : decode cX3_travel 76 = .ok (.putfield 40, 3) := by decide +kernel
theorem dX3_travel_79 : decode cX3_travel 79 = .ok (.return_, 1) := by decide +kernel
theorem dX3_passMinute_0 : decode cX3_passMinute 0 = .ok (.aload_n 0, 1) := by decide +kernel
theorem dX3_passMinute_1 : decode cX3_passMinute 1 = .ok (.sipush 999, 3) := by decide +kernel
theorem dX3_passMinute_4 : decode cX3_passMinute 4 = .ok (.aload_n 0, 1) := by decide +kernel
theorem dX3_passMinute_5 : decode cX3_passMinute 5 = .ok (.getfield 25, 3) := by decide +kernel
theorem dX3_passMinute_8 : decode cX3_passMinute 8 = .ok (.iload_n 1, 1) := by decide +kernel
theorem dX3_passMinute_9 : decode cX3_passMinute 9 = .ok (.iadd, 1) := by decide +kernel
theorem dX3_passMinute_10 : decode cX3_passMinute 10 = .ok (.invokestatic 62, 3) := by decide +kernel
theorem dX3_passMinute_13 : decode cX3_passMinute 13 = .ok (.putfield 25, 3) := by decide +kernel
theorem dX3_passMinute_16 : decode cX3_passMinute 16 = .ok (.aload_n 0, 1) := by decide +kernel
theorem dX3_passMinute_17 : decode cX3_passMinute 17 = .ok (.dup, 1) := by decide +kernel
theorem dX3_passMinute_18 : decode cX3_passMinute 18 = .ok (.getfield 43, 3) := by decide +kernel
theorem dX3_passMinute_21 : decode cX3_passMinute 21 = .ok (.iconst 1, 1) := by decide +kernel
theorem dX3_passMinute_22 : decode cX3_passMinute 22 = .ok (.iadd, 1) := by decide +kernel
theorem dX3_passMinute_23 : decode cX3_passMinute 23 = .ok (.putfield 43, 3) := by decide +kernel
theorem dX3_passMinute_26 : decode cX3_passMinute 26 = .ok (.return_, 1) := by decide +kernel
theorem dX3_runMinute_0 : decode cX3_runMinute 0 = .ok (.aload_n 0, 1) := by decide +kernel
theorem dX3_runMinute_1 : decode cX3_runMinute 1 = .ok (.iconst 0, 1) := by decide +kernel
theorem dX3_runMinute_2 : decode cX3_runMinute 2 = .ok (.invokevirtual 85, 3) := by decide +kernel
theorem dX3_runMinute_5 : decode cX3_runMinute 5 = .ok (.istore_n 2, 1) := by decide +kernel
theorem dX3_runMinute_6 : decode cX3_runMinute 6 = .ok (.aload_n 0, 1) := by decide +kernel
theorem dX3_runMinute_7 : decode cX3_runMinute 7 = .ok (.iconst 1, 1) := by decide +kernel
theorem dX3_runMinute_8 : decode cX3_runMinute 8 = .ok (.invokevirtual 85, 3) := by decide +kernel
theorem dX3_runMinute_11 : decode cX3_runMinute 11 = .ok (.istore_n 3, 1) := by decide +kernel
theorem dX3_runMinute_12 : decode cX3_runMinute 12 = .ok (.aload_n 0, 1) := by decide +kernel
theorem dX3_runMinute_13 : decode cX3_runMinute 13 = .ok (.invokevirtual 95, 3) := by decide +kernel
theorem dX3_runMinute_16 : decode cX3_runMinute 16 = .ok (.ifCond .ne 20, 3) := by decide +kernel
theorem dX3_runMinute_19 : decode cX3_runMinute 19 = .ok (.aload_n 0, 1) := by decide +kernel
theorem dX3_runMinute_20 : decode cX3_runMinute 20 = .ok (.getfield 25, 3) := by decide +kernel
theorem dX3_runMinute_23 : decode cX3_runMinute 23 = .ok (.aload_n 0, 1) := by decide +kernel
theorem dX3_runMinute_24 : decode cX3_runMinute 24 = .ok (.iload_n 2, 1) := by decide +kernel
theorem dX3_runMinute_25 : decode cX3_runMinute 25 = .ok (.iload_n 3, 1) := by decide +kernel
theorem dX3_runMinute_26 : decode cX3_runMinute 26 = .ok (.invokevirtual 92, 3) := by decide +kernel
theorem dX3_runMinute_29 : decode cX3_runMinute 29 = .ok (.if_icmp .lt 7, 3) := by decide +kernel
theorem dX3_runMinute_32 : decode cX3_runMinute 32 = .ok (.iconst 1, 1) := by decide +kernel
theorem dX3_runMinute_33 : decode cX3_runMinute 33 = .ok (.goto 4, 3) := by decide +kernel
theorem dX3_runMinute_36 : decode cX3_runMinute 36 = .ok (.iconst 0, 1) := by decide +kernel
theorem dX3_runMinute_37 : decode cX3_runMinute 37 = .ok (.istore 4, 2) := by decide +kernel
theorem dX3_runMinute_39 : decode cX3_runMinute 39 = .ok (.iload 4, 2) := by decide +kernel
theorem dX3_runMinute_41 : decode cX3_runMinute 41 = .ok (.ifCond .eq 9, 3) := by decide +kernel
theorem dX3_runMinute_44 : decode cX3_runMinute 44 = .ok (.aload_n 0, 1) := by decide +kernel
theorem dX3_runMinute_45 : decode cX3_runMinute 45 = .ok (.iload_n 2, 1) := by decide +kernel
theorem dX3_runMinute_46 : decode cX3_runMinute 46 = .ok (.iload_n 3, 1) := by decide +kernel
theorem dX3_runMinute_47 : decode cX3_runMinute 47 = .ok (.invokevirtual 99, 3) := by decide +kernel
theorem dX3_runMinute_50 : decode cX3_runMinute 50 = .ok (.aload_n 0, 1) := by decide +kernel
theorem dX3_runMinute_51 : decode cX3_runMinute 51 = .ok (.aload_n 1, 1) := by decide +kernel
theorem dX3_runMinute_52 : decode cX3_runMinute 52 = .ok (.aload_n 0, 1) := by decide +kernel
theorem dX3_runMinute_53 : decode cX3_runMinute 53 = .ok (.invokevirtual 102, 3) := by decide +kernel
theorem dX3_runMinute_56 : decode cX3_runMinute 56 = .ok (.invokevirtual 108, 3) := by decide +kernel
theorem dX3_runMinute_59 : decode cX3_runMinute 59 = .ok (.iload 4, 2) := by decide +kernel
theorem dX3_runMinute_61 : decode cX3_runMinute 61 = .ok (.ireturn, 1) := by decide +kernel
theorem dX3_suchAs_0 : decode cX3_suchAs 0 = .ok (.iconst 0, 1) := by decide +kernel
theorem dX3_suchAs_1 : decode cX3_suchAs 1 = .ok (.istore_n 3, 1) := by decide +kernel
theorem dX3_suchAs_2 : decode cX3_suchAs 2 = .ok (.iconst 0, 1) := by decide +kernel
theorem dX3_suchAs_3 : decode cX3_suchAs 3 = .ok (.istore 4, 2) := by decide +kernel
theorem dX3_suchAs_5 : decode cX3_suchAs 5 = .ok (.iload 4, 2) := by decide +kernel
theorem dX3_suchAs_7 : decode cX3_suchAs 7 = .ok (.iconst 1, 1) := by decide +kernel
theorem dX3_suchAs_8 : decode cX3_suchAs 8 = .ok (.if_icmp .gt 54, 3) := by decide +kernel
theorem dX3_suchAs_11 : decode cX3_suchAs 11 = .ok (.iconst 0, 1) := by decide +kernel
theorem dX3_suchAs_12 : decode cX3_suchAs 12 = .ok (.istore 5, 2) := by decide +kernel
theorem dX3_suchAs_14 : decode cX3_suchAs 14 = .ok (.iload 5, 2) := by decide +kernel
theorem dX3_suchAs_16 : decode cX3_suchAs 16 = .ok (.aload_n 0, 1) := by decide +kernel
theorem dX3_suchAs_17 : decode cX3_suchAs 17 = .ok (.iload 4, 2) := by decide +kernel
theorem dX3_suchAs_19 : decode cX3_suchAs 19 = .ok (.invokevirtual 46, 3) := by decide +kernel
theorem dX3_suchAs_22 : decode cX3_suchAs 22 = .ok (.if_icmp .ge 34, 3) := by decide +kernel
theorem dX3_suchAs_25 : decode cX3_suchAs 25 = .ok (.aload_n 0, 1) := by decide +kernel
theorem dX3_suchAs_26 : decode cX3_suchAs 26 = .ok (.iload 4, 2) := by decide +kernel
theorem dX3_suchAs_28 : decode cX3_suchAs 28 = .ok (.iload 5, 2) := by decide +kernel
theorem dX3_suchAs_30 : decode cX3_suchAs 30 = .ok (.iload_n 1, 1) := by decide +kernel
theorem dX3_suchAs_31 : decode cX3_suchAs 31 = .ok (.iload_n 2, 1) := by decide +kernel
theorem dX3_suchAs_32 : decode cX3_suchAs 32 = .ok (.invokevirtual 112, 3) := by decide +kernel
theorem dX3_suchAs_35 : decode cX3_suchAs 35 = .ok (.ifCond .eq 15, 3) := by decide +kernel
theorem dX3_suchAs_38 : decode cX3_suchAs 38 = .ok (.iload_n 3, 1) := by decide +kernel
theorem dX3_suchAs_39 : decode cX3_suchAs 39 = .ok (.iconst 1, 1) := by decide +kernel
theorem dX3_suchAs_40 : decode cX3_suchAs 40 = .ok (.iload 4, 2) := by decide +kernel
theorem dX3_suchAs_42 : decode cX3_suchAs 42 = .ok (.iconst 5, 1) := by decide +kernel
theorem dX3_suchAs_43 : decode cX3_suchAs 43 = .ok (.imul, 1) := by decide +kernel
theorem dX3_suchAs_44 : decode cX3_suchAs 44 = .ok (.iload 5, 2) := by decide +kernel
theorem dX3_suchAs_46 : decode cX3_suchAs 46 = .ok (.iadd, 1) := by decide +kernel
theorem dX3_suchAs_47 : decode cX3_suchAs 47 = .ok (.ishl, 1) := by decide +kernel
theorem dX3_suchAs_48 : decode cX3_suchAs 48 = .ok (.ior, 1) := by decide +kernel
theorem dX3_suchAs_49 : decode cX3_suchAs 49 = .ok (.istore_n 3, 1) := by decide +kernel
theorem dX3_suchAs_50 : decode cX3_suchAs 50 = .ok (.iinc 5 1, 3) := by decide +kernel
theorem dX3_suchAs_53 : decode cX3_suchAs 53 = .ok (.goto (-39), 3) := by decide +kernel
theorem dX3_suchAs_56 : decode cX3_suchAs 56 = .ok (.iinc 4 1, 3) := by decide +kernel
theorem dX3_suchAs_59 : decode cX3_suchAs 59 = .ok (.goto (-54), 3) := by decide +kernel
theorem dX3_suchAs_62 : decode cX3_suchAs 62 = .ok (.iload_n 3, 1) := by decide +kernel
theorem dX3_suchAs_63 : decode cX3_suchAs 63 = .ok (.ireturn, 1) := by decide +kernel
theorem dX3_isSo_0 : decode cX3_isSo 0 = .ok (.iload_n 3, 1) := by decide +kernel
theorem dX3_isSo_1 : decode cX3_isSo 1 = .ok (.tableswitch 105 0 3 #[31, 43, 60, 72], 31) := by decide +kernel
theorem dX3_isSo_32 : decode cX3_isSo 32 = .ok (.iload_n 1, 1) := by decide +kernel
theorem dX3_isSo_33 : decode cX3_isSo 33 = .ok (.iload 4, 2) := by decide +kernel
theorem dX3_isSo_35 : decode cX3_isSo 35 = .ok (.if_icmp .ne 7, 3) := by decide +kernel
theorem dX3_isSo_38 : decode cX3_isSo 38 = .ok (.iconst 1, 1) := by decide +kernel
theorem dX3_isSo_39 : decode cX3_isSo 39 = .ok (.goto 4, 3) := by decide +kernel
theorem dX3_isSo_42 : decode cX3_isSo 42 = .ok (.iconst 0, 1) := by decide +kernel
theorem dX3_isSo_43 : decode cX3_isSo 43 = .ok (.ireturn, 1) := by decide +kernel
theorem dX3_isSo_44 : decode cX3_isSo 44 = .ok (.aload_n 0, 1) := by decide +kernel
theorem dX3_isSo_45 : decode cX3_isSo 45 = .ok (.iload_n 1, 1) := by decide +kernel
theorem dX3_isSo_46 : decode cX3_isSo 46 = .ok (.iload_n 2, 1) := by decide +kernel
theorem dX3_isSo_47 : decode cX3_isSo 47 = .ok (.invokevirtual 82, 3) := by decide +kernel
theorem dX3_isSo_50 : decode cX3_isSo 50 = .ok (.iload 4, 2) := by decide +kernel
theorem dX3_isSo_52 : decode cX3_isSo 52 = .ok (.if_icmp .lt 7, 3) := by decide +kernel
theorem dX3_isSo_55 : decode cX3_isSo 55 = .ok (.iconst 1, 1) := by decide +kernel
theorem dX3_isSo_56 : decode cX3_isSo 56 = .ok (.goto 4, 3) := by decide +kernel
theorem dX3_isSo_59 : decode cX3_isSo 59 = .ok (.iconst 0, 1) := by decide +kernel
theorem dX3_isSo_60 : decode cX3_isSo 60 = .ok (.ireturn, 1) := by decide +kernel
theorem dX3_isSo_61 : decode cX3_isSo 61 = .ok (.iload_n 2, 1) := by decide +kernel
theorem dX3_isSo_62 : decode cX3_isSo 62 = .ok (.iload 4, 2) := by decide +kernel
theorem dX3_isSo_64 : decode cX3_isSo 64 = .ok (.if_icmp .ne 7, 3) := by decide +kernel
theorem dX3_isSo_67 : decode cX3_isSo 67 = .ok (.iconst 1, 1) := by decide +kernel
theorem dX3_isSo_68 : decode cX3_isSo 68 = .ok (.goto 4, 3) := by decide +kernel
theorem dX3_isSo_71 : decode cX3_isSo 71 = .ok (.iconst 0, 1) := by decide +kernel
theorem dX3_isSo_72 : decode cX3_isSo 72 = .ok (.ireturn, 1) := by decide +kernel
theorem dX3_isSo_73 : decode cX3_isSo 73 = .ok (.iload_n 2, 1) := by decide +kernel
theorem dX3_isSo_74 : decode cX3_isSo 74 = .ok (.aload_n 0, 1) := by decide +kernel
theorem dX3_isSo_75 : decode cX3_isSo 75 = .ok (.getfield 18, 3) := by decide +kernel
theorem dX3_isSo_78 : decode cX3_isSo 78 = .ok (.if_icmp .ge 7, 3) := by decide +kernel
theorem dX3_isSo_81 : decode cX3_isSo 81 = .ok (.iconst 1, 1) := by decide +kernel
theorem dX3_isSo_82 : decode cX3_isSo 82 = .ok (.goto 4, 3) := by decide +kernel
theorem dX3_isSo_85 : decode cX3_isSo 85 = .ok (.iconst 0, 1) := by decide +kernel
theorem dX3_isSo_86 : decode cX3_isSo 86 = .ok (.iload 4, 2) := by decide +kernel
theorem dX3_isSo_88 : decode cX3_isSo 88 = .ok (.iconst 1, 1) := by decide +kernel
theorem dX3_isSo_89 : decode cX3_isSo 89 = .ok (.if_icmp .ne 7, 3) := by decide +kernel
theorem dX3_isSo_92 : decode cX3_isSo 92 = .ok (.iconst 1, 1) := by decide +kernel
theorem dX3_isSo_93 : decode cX3_isSo 93 = .ok (.goto 4, 3) := by decide +kernel
theorem dX3_isSo_96 : decode cX3_isSo 96 = .ok (.iconst 0, 1) := by decide +kernel
theorem dX3_isSo_97 : decode cX3_isSo 97 = .ok (.if_icmp .ne 7, 3) := by decide +kernel
theorem dX3_isSo_100 : decode cX3_isSo 100 = .ok (.iconst 1, 1) := by decide +kernel
theorem dX3_isSo_101 : decode cX3_isSo 101 = .ok (.goto 4, 3) := by decide +kernel
theorem dX3_isSo_104 : decode cX3_isSo 104 = .ok (.iconst 0, 1) := by decide +kernel
theorem dX3_isSo_105 : decode cX3_isSo 105 = .ok (.ireturn, 1) := by decide +kernel
theorem dX3_isSo_106 : decode cX3_isSo 106 = .ok (.iconst 0, 1) := by decide +kernel
theorem dX3_isSo_107 : decode cX3_isSo 107 = .ok (.ireturn, 1) := by decide +kernel
theorem dX4_init_0 : decode cX4_init 0 = .ok (.aload_n 0, 1) := by decide +kernel
theorem dX4_init_1 : decode cX4_init 1 = .ok (.invokespecial 1, 3) := by decide +kernel
theorem dX4_init_4 : decode cX4_init 4 = .ok (.aload_n 0, 1) := by decide +kernel
theorem dX4_init_5 : decode cX4_init 5 = .ok (.iconst 4, 1) := by decide +kernel
theorem dX4_init_6 : decode cX4_init 6 = .ok (.newarray .long, 2) := by decide +kernel
theorem dX4_init_8 : decode cX4_init 8 = .ok (.putfield 7, 3) := by decide +kernel
theorem dX4_init_11 : decode cX4_init 11 = .ok (.return_, 1) := by decide +kernel
theorem dX4_size_0 : decode cX4_size 0 = .ok (.aload_n 0, 1) := by decide +kernel
theorem dX4_size_1 : decode cX4_size 1 = .ok (.getfield 13, 3) := by decide +kernel
theorem dX4_size_4 : decode cX4_size 4 = .ok (.ireturn, 1) := by decide +kernel
theorem dX4_has_0 : decode cX4_has 0 = .ok (.iload_n 1, 1) := by decide +kernel
theorem dX4_has_1 : decode cX4_has 1 = .ok (.ifCond .lt 24, 3) := by decide +kernel
theorem dX4_has_4 : decode cX4_has 4 = .ok (.iload_n 1, 1) := by decide +kernel
theorem dX4_has_5 : decode cX4_has 5 = .ok (.aload_n 0, 1) := by decide +kernel
theorem dX4_has_6 : decode cX4_has 6 = .ok (.getfield 13, 3) := by decide +kernel
theorem dX4_has_9 : decode cX4_has 9 = .ok (.if_icmp .ge 16, 3) := by decide +kernel
theorem dX4_has_12 : decode cX4_has 12 = .ok (.iload_n 1, 1) := by decide +kernel
theorem dX4_has_13 : decode cX4_has 13 = .ok (.aload_n 0, 1) := by decide +kernel
theorem dX4_has_14 : decode cX4_has 14 = .ok (.getfield 7, 3) := by decide +kernel
theorem dX4_has_17 : decode cX4_has 17 = .ok (.arraylength, 1) := by decide +kernel
theorem dX4_has_18 : decode cX4_has 18 = .ok (.if_icmp .ge 7, 3) := by decide +kernel
theorem dX4_has_21 : decode cX4_has 21 = .ok (.iconst 1, 1) := by decide +kernel
theorem dX4_has_22 : decode cX4_has 22 = .ok (.goto 4, 3) := by decide +kernel
theorem dX4_has_25 : decode cX4_has 25 = .ok (.iconst 0, 1) := by decide +kernel
theorem dX4_has_26 : decode cX4_has 26 = .ok (.ireturn, 1) := by decide +kernel
theorem dX4_at_0 : decode cX4_at 0 = .ok (.aload_n 0, 1) := by decide +kernel
theorem dX4_at_1 : decode cX4_at 1 = .ok (.iload_n 1, 1) := by decide +kernel
theorem dX4_at_2 : decode cX4_at 2 = .ok (.invokevirtual 17, 3) := by decide +kernel
theorem dX4_at_5 : decode cX4_at 5 = .ok (.ifCond .eq 12, 3) := by decide +kernel
theorem dX4_at_8 : decode cX4_at 8 = .ok (.aload_n 0, 1) := by decide +kernel
theorem dX4_at_9 : decode cX4_at 9 = .ok (.getfield 7, 3) := by decide +kernel
theorem dX4_at_12 : decode cX4_at 12 = .ok (.iload_n 1, 1) := by decide +kernel
theorem dX4_at_13 : decode cX4_at 13 = .ok (.laload, 1) := by decide +kernel
theorem dX4_at_14 : decode cX4_at 14 = .ok (.goto 4, 3) := by decide +kernel
theorem dX4_at_17 : decode cX4_at 17 = .ok (.lconst 0, 1) := by decide +kernel
theorem dX4_at_18 : decode cX4_at 18 = .ok (.lreturn, 1) := by decide +kernel
theorem dX4_tell_0 : decode cX4_tell 0 = .ok (.aload_n 0, 1) := by decide +kernel
theorem dX4_tell_1 : decode cX4_tell 1 = .ok (.iconst 0, 1) := by decide +kernel
theorem dX4_tell_2 : decode cX4_tell 2 = .ok (.putfield 13, 3) := by decide +kernel
theorem dX4_tell_5 : decode cX4_tell 5 = .ok (.return_, 1) := by decide +kernel
theorem dX4_tell__0 : decode cX4_tell_ 0 = .ok (.aload_n 0, 1) := by decide +kernel
theorem dX4_tell__1 : decode cX4_tell_ 1 = .ok (.getfield 7, 3) := by decide +kernel
theorem dX4_tell__4 : decode cX4_tell_ 4 = .ok (.iconst 0, 1) := by decide +kernel
theorem dX4_tell__5 : decode cX4_tell_ 5 = .ok (.lload_n 1, 1) := by decide +kernel
theorem dX4_tell__6 : decode cX4_tell_ 6 = .ok (.lastore, 1) := by decide +kernel
theorem dX4_tell__7 : decode cX4_tell_ 7 = .ok (.aload_n 0, 1) := by decide +kernel
theorem dX4_tell__8 : decode cX4_tell_ 8 = .ok (.iconst 1, 1) := by decide +kernel
theorem dX4_tell__9 : decode cX4_tell_ 9 = .ok (.putfield 13, 3) := by decide +kernel
theorem dX4_tell__12 : decode cX4_tell_ 12 = .ok (.return_, 1) := by decide +kernel
theorem dX4_tell___0 : decode cX4_tell__ 0 = .ok (.aload_n 0, 1) := by decide +kernel
theorem dX4_tell___1 : decode cX4_tell__ 1 = .ok (.lload_n 1, 1) := by decide +kernel
theorem dX4_tell___2 : decode cX4_tell__ 2 = .ok (.invokevirtual 21, 3) := by decide +kernel
theorem dX4_tell___5 : decode cX4_tell__ 5 = .ok (.aload_n 0, 1) := by decide +kernel
theorem dX4_tell___6 : decode cX4_tell__ 6 = .ok (.getfield 7, 3) := by decide +kernel
theorem dX4_tell___9 : decode cX4_tell__ 9 = .ok (.iconst 1, 1) := by decide +kernel
theorem dX4_tell___10 : decode cX4_tell__ 10 = .ok (.lload_n 3, 1) := by decide +kernel
theorem dX4_tell___11 : decode cX4_tell__ 11 = .ok (.lastore, 1) := by decide +kernel
theorem dX4_tell___12 : decode cX4_tell__ 12 = .ok (.aload_n 0, 1) := by decide +kernel
theorem dX4_tell___13 : decode cX4_tell__ 13 = .ok (.iconst 2, 1) := by decide +kernel
theorem dX4_tell___14 : decode cX4_tell__ 14 = .ok (.putfield 13, 3) := by decide +kernel
theorem dX4_tell___17 : decode cX4_tell__ 17 = .ok (.return_, 1) := by decide +kernel
theorem dX4_tell____0 : decode cX4_tell___ 0 = .ok (.aload_n 0, 1) := by decide +kernel
theorem dX4_tell____1 : decode cX4_tell___ 1 = .ok (.lload_n 1, 1) := by decide +kernel
theorem dX4_tell____2 : decode cX4_tell___ 2 = .ok (.lload_n 3, 1) := by decide +kernel
theorem dX4_tell____3 : decode cX4_tell___ 3 = .ok (.invokevirtual 25, 3) := by decide +kernel
theorem dX4_tell____6 : decode cX4_tell___ 6 = .ok (.aload_n 0, 1) := by decide +kernel
theorem dX4_tell____7 : decode cX4_tell___ 7 = .ok (.getfield 7, 3) := by decide +kernel
theorem dX4_tell____10 : decode cX4_tell___ 10 = .ok (.iconst 2, 1) := by decide +kernel
theorem dX4_tell____11 : decode cX4_tell___ 11 = .ok (.lload 5, 2) := by decide +kernel
theorem dX4_tell____13 : decode cX4_tell___ 13 = .ok (.lastore, 1) := by decide +kernel
theorem dX4_tell____14 : decode cX4_tell___ 14 = .ok (.aload_n 0, 1) := by decide +kernel
theorem dX4_tell____15 : decode cX4_tell___ 15 = .ok (.iconst 3, 1) := by decide +kernel
theorem dX4_tell____16 : decode cX4_tell___ 16 = .ok (.putfield 13, 3) := by decide +kernel
theorem dX4_tell____19 : decode cX4_tell___ 19 = .ok (.return_, 1) := by decide +kernel
theorem dX4_tell_____0 : decode cX4_tell____ 0 = .ok (.aload_n 0, 1) := by decide +kernel
theorem dX4_tell_____1 : decode cX4_tell____ 1 = .ok (.lload_n 1, 1) := by decide +kernel
theorem dX4_tell_____2 : decode cX4_tell____ 2 = .ok (.lload_n 3, 1) := by decide +kernel
theorem dX4_tell_____3 : decode cX4_tell____ 3 = .ok (.lload 5, 2) := by decide +kernel
theorem dX4_tell_____5 : decode cX4_tell____ 5 = .ok (.invokevirtual 28, 3) := by decide +kernel
theorem dX4_tell_____8 : decode cX4_tell____ 8 = .ok (.aload_n 0, 1) := by decide +kernel
theorem dX4_tell_____9 : decode cX4_tell____ 9 = .ok (.getfield 7, 3) := by decide +kernel
theorem dX4_tell_____12 : decode cX4_tell____ 12 = .ok (.iconst 3, 1) := by decide +kernel
theorem dX4_tell_____13 : decode cX4_tell____ 13 = .ok (.lload 7, 2) := by decide +kernel
theorem dX4_tell_____15 : decode cX4_tell____ 15 = .ok (.lastore, 1) := by decide +kernel
theorem dX4_tell_____16 : decode cX4_tell____ 16 = .ok (.aload_n 0, 1) := by decide +kernel
theorem dX4_tell_____17 : decode cX4_tell____ 17 = .ok (.iconst 4, 1) := by decide +kernel
theorem dX4_tell_____18 : decode cX4_tell____ 18 = .ok (.putfield 13, 3) := by decide +kernel
theorem dX4_tell_____21 : decode cX4_tell____ 21 = .ok (.return_, 1) := by decide +kernel
theorem dX5_init_0 : decode cX5_init 0 = .ok (.aload_n 0, 1) := by decide +kernel
theorem dX5_init_1 : decode cX5_init 1 = .ok (.invokespecial 1, 3) := by decide +kernel
theorem dX5_init_4 : decode cX5_init 4 = .ok (.aload_n 0, 1) := by decide +kernel
theorem dX5_init_5 : decode cX5_init 5 = .ok (.bipush 12, 2) := by decide +kernel
theorem dX5_init_7 : decode cX5_init 7 = .ok (.anewarray 9, 3) := by decide +kernel
theorem dX5_init_10 : decode cX5_init 10 = .ok (.putfield 11, 3) := by decide +kernel
theorem dX5_init_13 : decode cX5_init 13 = .ok (.return_, 1) := by decide +kernel
theorem dX5_size_0 : decode cX5_size 0 = .ok (.aload_n 0, 1) := by decide +kernel
theorem dX5_size_1 : decode cX5_size 1 = .ok (.getfield 15, 3) := by decide +kernel
theorem dX5_size_4 : decode cX5_size 4 = .ok (.ireturn, 1) := by decide +kernel
theorem dX5_forgetAll_0 : decode cX5_forgetAll 0 = .ok (.aload_n 0, 1) := by decide +kernel
theorem dX5_forgetAll_1 : decode cX5_forgetAll 1 = .ok (.iconst 0, 1) := by decide +kernel
theorem dX5_forgetAll_2 : decode cX5_forgetAll 2 = .ok (.putfield 15, 3) := by decide +kernel
theorem dX5_forgetAll_5 : decode cX5_forgetAll 5 = .ok (.return_, 1) := by decide +kernel
theorem dX5_remember_0 : decode cX5_remember 0 = .ok (.aload_n 0, 1) := by decide +kernel
theorem dX5_remember_1 : decode cX5_remember 1 = .ok (.getfield 15, 3) := by decide +kernel
theorem dX5_remember_4 : decode cX5_remember 4 = .ok (.bipush 12, 2) := by decide +kernel
theorem dX5_remember_6 : decode cX5_remember 6 = .ok (.if_icmp .lt 7, 3) := by decide +kernel
theorem dX5_remember_9 : decode cX5_remember 9 = .ok (.aload_n 0, 1) := by decide +kernel
theorem dX5_remember_10 : decode cX5_remember 10 = .ok (.invokevirtual 19, 3) := by decide +kernel
theorem dX5_remember_13 : decode cX5_remember 13 = .ok (.aload_n 0, 1) := by decide +kernel
theorem dX5_remember_14 : decode cX5_remember 14 = .ok (.getfield 11, 3) := by decide +kernel
theorem dX5_remember_17 : decode cX5_remember 17 = .ok (.aload_n 0, 1) := by decide +kernel
theorem dX5_remember_18 : decode cX5_remember 18 = .ok (.getfield 15, 3) := by decide +kernel
theorem dX5_remember_21 : decode cX5_remember 21 = .ok (.aaload, 1) := by decide +kernel
theorem dX5_remember_22 : decode cX5_remember 22 = .ok (.ifnonnull 13, 3) := by decide +kernel
theorem dX5_remember_25 : decode cX5_remember 25 = .ok (.new 9, 3) := by decide +kernel
theorem dX5_remember_28 : decode cX5_remember 28 = .ok (.dup, 1) := by decide +kernel
theorem dX5_remember_29 : decode cX5_remember 29 = .ok (.invokespecial 22, 3) := by decide +kernel
theorem dX5_remember_32 : decode cX5_remember 32 = .ok (.goto 12, 3) := by decide +kernel
theorem dX5_remember_35 : decode cX5_remember 35 = .ok (.aload_n 0, 1) := by decide +kernel
theorem dX5_remember_36 : decode cX5_remember 36 = .ok (.getfield 11, 3) := by decide +kernel
theorem dX5_remember_39 : decode cX5_remember 39 = .ok (.aload_n 0, 1) := by decide +kernel
theorem dX5_remember_40 : decode cX5_remember 40 = .ok (.getfield 15, 3) := by decide +kernel
theorem dX5_remember_43 : decode cX5_remember 43 = .ok (.aaload, 1) := by decide +kernel
theorem dX5_remember_44 : decode cX5_remember 44 = .ok (.astore_n 2, 1) := by decide +kernel
theorem dX5_remember_45 : decode cX5_remember 45 = .ok (.aload_n 2, 1) := by decide +kernel
theorem dX5_remember_46 : decode cX5_remember 46 = .ok (.aload_n 1, 1) := by decide +kernel
theorem dX5_remember_47 : decode cX5_remember 47 = .ok (.invokevirtual 23, 3) := by decide +kernel
theorem dX5_remember_50 : decode cX5_remember 50 = .ok (.aload_n 0, 1) := by decide +kernel
theorem dX5_remember_51 : decode cX5_remember 51 = .ok (.getfield 11, 3) := by decide +kernel
theorem dX5_remember_54 : decode cX5_remember 54 = .ok (.aload_n 0, 1) := by decide +kernel
theorem dX5_remember_55 : decode cX5_remember 55 = .ok (.getfield 15, 3) := by decide +kernel
theorem dX5_remember_58 : decode cX5_remember 58 = .ok (.aload_n 2, 1) := by decide +kernel
theorem dX5_remember_59 : decode cX5_remember 59 = .ok (.aastore, 1) := by decide +kernel
theorem dX5_remember_60 : decode cX5_remember 60 = .ok (.aload_n 0, 1) := by decide +kernel
theorem dX5_remember_61 : decode cX5_remember 61 = .ok (.dup, 1) := by decide +kernel
theorem dX5_remember_62 : decode cX5_remember 62 = .ok (.getfield 15, 3) := by decide +kernel
theorem dX5_remember_65 : decode cX5_remember 65 = .ok (.iconst 1, 1) := by decide +kernel
theorem dX5_remember_66 : decode cX5_remember 66 = .ok (.iadd, 1) := by decide +kernel
theorem dX5_remember_67 : decode cX5_remember 67 = .ok (.putfield 15, 3) := by decide +kernel
theorem dX5_remember_70 : decode cX5_remember 70 = .ok (.return_, 1) := by decide +kernel
theorem dX5_dropOldest_0 : decode cX5_dropOldest 0 = .ok (.aload_n 0, 1) := by decide +kernel
theorem dX5_dropOldest_1 : decode cX5_dropOldest 1 = .ok (.getfield 11, 3) := by decide +kernel
theorem dX5_dropOldest_4 : decode cX5_dropOldest 4 = .ok (.iconst 0, 1) := by decide +kernel
theorem dX5_dropOldest_5 : decode cX5_dropOldest 5 = .ok (.aaload, 1) := by decide +kernel
theorem dX5_dropOldest_6 : decode cX5_dropOldest 6 = .ok (.astore_n 1, 1) := by decide +kernel
theorem dX5_dropOldest_7 : decode cX5_dropOldest 7 = .ok (.iconst 1, 1) := by decide +kernel
theorem dX5_dropOldest_8 : decode cX5_dropOldest 8 = .ok (.istore_n 2, 1) := by decide +kernel
theorem dX5_dropOldest_9 : decode cX5_dropOldest 9 = .ok (.iload_n 2, 1) := by decide +kernel
theorem dX5_dropOldest_10 : decode cX5_dropOldest 10 = .ok (.bipush 12, 2) := by decide +kernel
theorem dX5_dropOldest_12 : decode cX5_dropOldest 12 = .ok (.if_icmp .ge 23, 3) := by decide +kernel
theorem dX5_dropOldest_15 : decode cX5_dropOldest 15 = .ok (.aload_n 0, 1) := by decide +kernel
theorem dX5_dropOldest_16 : decode cX5_dropOldest 16 = .ok (.getfield 11, 3) := by decide +kernel
theorem dX5_dropOldest_19 : decode cX5_dropOldest 19 = .ok (.iload_n 2, 1) := by decide +kernel
theorem dX5_dropOldest_20 : decode cX5_dropOldest 20 = .ok (.iconst 1, 1) := by decide +kernel
theorem dX5_dropOldest_21 : decode cX5_dropOldest 21 = .ok (.isub, 1) := by decide +kernel
theorem dX5_dropOldest_22 : decode cX5_dropOldest 22 = .ok (.aload_n 0, 1) := by decide +kernel
theorem dX5_dropOldest_23 : decode cX5_dropOldest 23 = .ok (.getfield 11, 3) := by decide +kernel
theorem dX5_dropOldest_26 : decode cX5_dropOldest 26 = .ok (.iload_n 2, 1) := by decide +kernel
theorem dX5_dropOldest_27 : decode cX5_dropOldest 27 = .ok (.aaload, 1) := by decide +kernel
theorem dX5_dropOldest_28 : decode cX5_dropOldest 28 = .ok (.aastore, 1) := by decide +kernel
theorem dX5_dropOldest_29 : decode cX5_dropOldest 29 = .ok (.iinc 2 1, 3) := by decide +kernel
theorem dX5_dropOldest_32 : decode cX5_dropOldest 32 = .ok (.goto (-23), 3) := by decide +kernel
theorem dX5_dropOldest_35 : decode cX5_dropOldest 35 = .ok (.aload_n 0, 1) := by decide +kernel
theorem dX5_dropOldest_36 : decode cX5_dropOldest 36 = .ok (.getfield 11, 3) := by decide +kernel
theorem dX5_dropOldest_39 : decode cX5_dropOldest 39 = .ok (.bipush 11, 2) := by decide +kernel
theorem dX5_dropOldest_41 : decode cX5_dropOldest 41 = .ok (.aload_n 1, 1) := by decide +kernel
theorem dX5_dropOldest_42 : decode cX5_dropOldest 42 = .ok (.aastore, 1) := by decide +kernel
theorem dX5_dropOldest_43 : decode cX5_dropOldest 43 = .ok (.aload_n 0, 1) := by decide +kernel
theorem dX5_dropOldest_44 : decode cX5_dropOldest 44 = .ok (.bipush 11, 2) := by decide +kernel
theorem dX5_dropOldest_46 : decode cX5_dropOldest 46 = .ok (.putfield 15, 3) := by decide +kernel
theorem dX5_dropOldest_49 : decode cX5_dropOldest 49 = .ok (.return_, 1) := by decide +kernel
theorem dX5_bringBack_0 : decode cX5_bringBack 0 = .ok (.aload_n 0, 1) := by decide +kernel
theorem dX5_bringBack_1 : decode cX5_bringBack 1 = .ok (.getfield 15, 3) := by decide +kernel
theorem dX5_bringBack_4 : decode cX5_bringBack 4 = .ok (.ifCond .le 26, 3) := by decide +kernel
theorem dX5_bringBack_7 : decode cX5_bringBack 7 = .ok (.aload_n 0, 1) := by decide +kernel
theorem dX5_bringBack_8 : decode cX5_bringBack 8 = .ok (.getfield 15, 3) := by decide +kernel
theorem dX5_bringBack_11 : decode cX5_bringBack 11 = .ok (.bipush 12, 2) := by decide +kernel
theorem dX5_bringBack_13 : decode cX5_bringBack 13 = .ok (.if_icmp .gt 17, 3) := by decide +kernel
theorem dX5_bringBack_16 : decode cX5_bringBack 16 = .ok (.aload_n 0, 1) := by decide +kernel
theorem dX5_bringBack_17 : decode cX5_bringBack 17 = .ok (.getfield 11, 3) := by decide +kernel
theorem dX5_bringBack_20 : decode cX5_bringBack 20 = .ok (.aload_n 0, 1) := by decide +kernel
theorem dX5_bringBack_21 : decode cX5_bringBack 21 = .ok (.getfield 15, 3) := by decide +kernel
theorem dX5_bringBack_24 : decode cX5_bringBack 24 = .ok (.iconst 1, 1) := by decide +kernel
theorem dX5_bringBack_25 : decode cX5_bringBack 25 = .ok (.isub, 1) := by decide +kernel
theorem dX5_bringBack_26 : decode cX5_bringBack 26 = .ok (.aaload, 1) := by decide +kernel
theorem dX5_bringBack_27 : decode cX5_bringBack 27 = .ok (.ifnonnull 5, 3) := by decide +kernel
theorem dX5_bringBack_30 : decode cX5_bringBack 30 = .ok (.iconst 0, 1) := by decide +kernel
theorem dX5_bringBack_31 : decode cX5_bringBack 31 = .ok (.ireturn, 1) := by decide +kernel
theorem dX5_bringBack_32 : decode cX5_bringBack 32 = .ok (.aload_n 0, 1) := by decide +kernel
theorem dX5_bringBack_33 : decode cX5_bringBack 33 = .ok (.dup, 1) := by decide +kernel
theorem dX5_bringBack_34 : decode cX5_bringBack 34 = .ok (.getfield 15, 3) := by decide +kernel
theorem dX5_bringBack_37 : decode cX5_bringBack 37 = .ok (.iconst 1, 1) := by decide +kernel
theorem dX5_bringBack_38 : decode cX5_bringBack 38 = .ok (.isub, 1) := by decide +kernel
theorem dX5_bringBack_39 : decode cX5_bringBack 39 = .ok (.putfield 15, 3) := by decide +kernel
theorem dX5_bringBack_42 : decode cX5_bringBack 42 = .ok (.aload_n 1, 1) := by decide +kernel
theorem dX5_bringBack_43 : decode cX5_bringBack 43 = .ok (.aload_n 0, 1) := by decide +kernel
theorem dX5_bringBack_44 : decode cX5_bringBack 44 = .ok (.getfield 11, 3) := by decide +kernel
theorem dX5_bringBack_47 : decode cX5_bringBack 47 = .ok (.aload_n 0, 1) := by decide +kernel
theorem dX5_bringBack_48 : decode cX5_bringBack 48 = .ok (.getfield 15, 3) := by decide +kernel
theorem dX5_bringBack_51 : decode cX5_bringBack 51 = .ok (.aaload, 1) := by decide +kernel
theorem dX5_bringBack_52 : decode cX5_bringBack 52 = .ok (.invokevirtual 23, 3) := by decide +kernel
theorem dX5_bringBack_55 : decode cX5_bringBack 55 = .ok (.iconst 1, 1) := by decide +kernel
theorem dX5_bringBack_56 : decode cX5_bringBack 56 = .ok (.ireturn, 1) := by decide +kernel
theorem dX6_init_0 : decode cX6_init 0 = .ok (.aload_n 0, 1) := by decide +kernel
theorem dX6_init_1 : decode cX6_init 1 = .ok (.invokespecial 3, 3) := by decide +kernel
theorem dX6_init_4 : decode cX6_init 4 = .ok (.aload_n 0, 1) := by decide +kernel
theorem dX6_init_5 : decode cX6_init 5 = .ok (.sipush 1024, 3) := by decide +kernel
theorem dX6_init_8 : decode cX6_init 8 = .ok (.newarray .int, 2) := by decide +kernel
theorem dX6_init_10 : decode cX6_init 10 = .ok (.putfield 9, 3) := by decide +kernel
theorem dX6_init_13 : decode cX6_init 13 = .ok (.aload_n 0, 1) := by decide +kernel
theorem dX6_init_14 : decode cX6_init 14 = .ok (.sipush 1024, 3) := by decide +kernel
theorem dX6_init_17 : decode cX6_init 17 = .ok (.newarray .int, 2) := by decide +kernel
theorem dX6_init_19 : decode cX6_init 19 = .ok (.putfield 15, 3) := by decide +kernel
theorem dX6_init_22 : decode cX6_init 22 = .ok (.aload_n 0, 1) := by decide +kernel
theorem dX6_init_23 : decode cX6_init 23 = .ok (.aload_n 1, 1) := by decide +kernel
theorem dX6_init_24 : decode cX6_init 24 = .ok (.putfield 18, 3) := by decide +kernel
theorem dX6_init_27 : decode cX6_init 27 = .ok (.return_, 1) := by decide +kernel
theorem dX6_start_0 : decode cX6_start 0 = .ok (.iconst 0, 1) := by decide +kernel
theorem dX6_start_1 : decode cX6_start 1 = .ok (.istore_n 1, 1) := by decide +kernel
theorem dX6_start_2 : decode cX6_start 2 = .ok (.iload_n 1, 1) := by decide +kernel
theorem dX6_start_3 : decode cX6_start 3 = .ok (.aload_n 0, 1) := by decide +kernel
theorem dX6_start_4 : decode cX6_start 4 = .ok (.getfield 9, 3) := by decide +kernel
theorem dX6_start_7 : decode cX6_start 7 = .ok (.arraylength, 1) := by decide +kernel
theorem dX6_start_8 : decode cX6_start 8 = .ok (.if_icmp .ge 17, 3) := by decide +kernel
theorem dX6_start_11 : decode cX6_start 11 = .ok (.aload_n 0, 1) := by decide +kernel
theorem dX6_start_12 : decode cX6_start 12 = .ok (.getfield 9, 3) := by decide +kernel
theorem dX6_start_15 : decode cX6_start 15 = .ok (.iload_n 1, 1) := by decide +kernel
theorem dX6_start_16 : decode cX6_start 16 = .ok (.ldc 22, 2) := by decide +kernel
theorem dX6_start_18 : decode cX6_start 18 = .ok (.iastore, 1) := by decide +kernel
theorem dX6_start_19 : decode cX6_start 19 = .ok (.iinc 1 1, 3) := by decide +kernel
theorem dX6_start_22 : decode cX6_start 22 = .ok (.goto (-20), 3) := by decide +kernel
theorem dX6_start_25 : decode cX6_start 25 = .ok (.aload_n 0, 1) := by decide +kernel
theorem dX6_start_26 : decode cX6_start 26 = .ok (.getfield 9, 3) := by decide +kernel
theorem dX6_start_29 : decode cX6_start 29 = .ok (.iconst 0, 1) := by decide +kernel
theorem dX6_start_30 : decode cX6_start 30 = .ok (.iconst 0, 1) := by decide +kernel
theorem dX6_start_31 : decode cX6_start 31 = .ok (.iastore, 1) := by decide +kernel
theorem dX6_start_32 : decode cX6_start 32 = .ok (.aload_n 0, 1) := by decide +kernel
theorem dX6_start_33 : decode cX6_start 33 = .ok (.iconst 0, 1) := by decide +kernel
theorem dX6_start_34 : decode cX6_start 34 = .ok (.putfield 23, 3) := by decide +kernel
theorem dX6_start_37 : decode cX6_start 37 = .ok (.return_, 1) := by decide +kernel
theorem dX6_allowOneTripMore_0 : decode cX6_allowOneTripMore 0 = .ok (.aload_n 0, 1) := by decide +kernel
theorem dX6_allowOneTripMore_1 : decode cX6_allowOneTripMore 1 = .ok (.dup, 1) := by decide +kernel
theorem dX6_allowOneTripMore_2 : decode cX6_allowOneTripMore 2 = .ok (.getfield 23, 3) := by decide +kernel
theorem dX6_allowOneTripMore_5 : decode cX6_allowOneTripMore 5 = .ok (.iconst 1, 1) := by decide +kernel
theorem dX6_allowOneTripMore_6 : decode cX6_allowOneTripMore 6 = .ok (.iadd, 1) := by decide +kernel
theorem dX6_allowOneTripMore_7 : decode cX6_allowOneTripMore 7 = .ok (.putfield 23, 3) := by decide +kernel
theorem dX6_allowOneTripMore_10 : decode cX6_allowOneTripMore 10 = .ok (.iconst 0, 1) := by decide +kernel
theorem dX6_allowOneTripMore_11 : decode cX6_allowOneTripMore 11 = .ok (.istore_n 1, 1) := by decide +kernel
theorem dX6_allowOneTripMore_12 : decode cX6_allowOneTripMore 12 = .ok (.iload_n 1, 1) := by decide +kernel
theorem dX6_allowOneTripMore_13 : decode cX6_allowOneTripMore 13 = .ok (.aload_n 0, 1) := by decide +kernel
theorem dX6_allowOneTripMore_14 : decode cX6_allowOneTripMore 14 = .ok (.getfield 18, 3) := by decide +kernel
theorem dX6_allowOneTripMore_17 : decode cX6_allowOneTripMore 17 = .ok (.getfield 27, 3) := by decide +kernel
theorem dX6_allowOneTripMore_20 : decode cX6_allowOneTripMore 20 = .ok (.if_icmp .gt 65, 3) := by decide +kernel
theorem dX6_allowOneTripMore_23 : decode cX6_allowOneTripMore 23 = .ok (.iconst 0, 1) := by decide +kernel
theorem dX6_allowOneTripMore_24 : decode cX6_allowOneTripMore 24 = .ok (.istore_n 2, 1) := by decide +kernel
theorem dX6_allowOneTripMore_25 : decode cX6_allowOneTripMore 25 = .ok (.iload_n 2, 1) := by decide +kernel
theorem dX6_allowOneTripMore_26 : decode cX6_allowOneTripMore 26 = .ok (.aload_n 0, 1) := by decide +kernel
theorem dX6_allowOneTripMore_27 : decode cX6_allowOneTripMore 27 = .ok (.getfield 18, 3) := by decide +kernel
theorem dX6_allowOneTripMore_30 : decode cX6_allowOneTripMore 30 = .ok (.getfield 32, 3) := by decide +kernel
theorem dX6_allowOneTripMore_33 : decode cX6_allowOneTripMore 33 = .ok (.if_icmp .gt 46, 3) := by decide +kernel
theorem dX6_allowOneTripMore_36 : decode cX6_allowOneTripMore 36 = .ok (.iload_n 1, 1) := by decide +kernel
theorem dX6_allowOneTripMore_37 : decode cX6_allowOneTripMore 37 = .ok (.bipush 32, 2) := by decide +kernel
theorem dX6_allowOneTripMore_39 : decode cX6_allowOneTripMore 39 = .ok (.imul, 1) := by decide +kernel
theorem dX6_allowOneTripMore_40 : decode cX6_allowOneTripMore 40 = .ok (.iload_n 2, 1) := by decide +kernel
theorem dX6_allowOneTripMore_41 : decode cX6_allowOneTripMore 41 = .ok (.iadd, 1) := by decide +kernel
theorem dX6_allowOneTripMore_42 : decode cX6_allowOneTripMore 42 = .ok (.istore_n 3, 1) := by decide +kernel
theorem dX6_allowOneTripMore_43 : decode cX6_allowOneTripMore 43 = .ok (.aload_n 0, 1) := by decide +kernel
theorem dX6_allowOneTripMore_44 : decode cX6_allowOneTripMore 44 = .ok (.getfield 15, 3) := by decide +kernel
theorem dX6_allowOneTripMore_47 : decode cX6_allowOneTripMore 47 = .ok (.iload_n 3, 1) := by decide +kernel
theorem dX6_allowOneTripMore_48 : decode cX6_allowOneTripMore 48 = .ok (.sipush 1023, 3) := by decide +kernel
theorem dX6_allowOneTripMore_51 : decode cX6_allowOneTripMore 51 = .ok (.iand, 1) := by decide +kernel
theorem dX6_allowOneTripMore_52 : decode cX6_allowOneTripMore 52 = .ok (.aload_n 0, 1) := by decide +kernel
theorem dX6_allowOneTripMore_53 : decode cX6_allowOneTripMore 53 = .ok (.iload_n 1, 1) := by decide +kernel
theorem dX6_allowOneTripMore_54 : decode cX6_allowOneTripMore 54 = .ok (.iload_n 2, 1) := by decide +kernel
theorem dX6_allowOneTripMore_55 : decode cX6_allowOneTripMore 55 = .ok (.invokevirtual 35, 3) := by decide +kernel
theorem dX6_allowOneTripMore_58 : decode cX6_allowOneTripMore 58 = .ok (.ifCond .eq 12, 3) := by decide +kernel
theorem dX6_allowOneTripMore_61 : decode cX6_allowOneTripMore 61 = .ok (.aload_n 0, 1) := by decide +kernel
theorem dX6_allowOneTripMore_62 : decode cX6_allowOneTripMore 62 = .ok (.iload_n 1, 1) := by decide +kernel
theorem dX6_allowOneTripMore_63 : decode cX6_allowOneTripMore 63 = .ok (.iload_n 2, 1) := by decide +kernel
theorem dX6_allowOneTripMore_64 : decode cX6_allowOneTripMore 64 = .ok (.invokevirtual 39, 3) := by decide +kernel
theorem dX6_allowOneTripMore_67 : decode cX6_allowOneTripMore 67 = .ok (.goto 5, 3) := by decide +kernel
theorem dX6_allowOneTripMore_70 : decode cX6_allowOneTripMore 70 = .ok (.ldc 22, 2) := by decide +kernel
theorem dX6_allowOneTripMore_72 : decode cX6_allowOneTripMore 72 = .ok (.iastore, 1) := by decide +kernel
theorem dX6_allowOneTripMore_73 : decode cX6_allowOneTripMore 73 = .ok (.iinc 2 1, 3) := by decide +kernel
theorem dX6_allowOneTripMore_76 : decode cX6_allowOneTripMore 76 = .ok (.goto (-51), 3) := by decide +kernel
theorem dX6_allowOneTripMore_79 : decode cX6_allowOneTripMore 79 = .ok (.iinc 1 1, 3) := by decide +kernel
theorem dX6_allowOneTripMore_82 : decode cX6_allowOneTripMore 82 = .ok (.goto (-70), 3) := by decide +kernel
theorem dX6_allowOneTripMore_85 : decode cX6_allowOneTripMore 85 = .ok (.aload_n 0, 1) := by decide +kernel
theorem dX6_allowOneTripMore_86 : decode cX6_allowOneTripMore 86 = .ok (.getfield 15, 3) := by decide +kernel
theorem dX6_allowOneTripMore_89 : decode cX6_allowOneTripMore 89 = .ok (.iconst 0, 1) := by decide +kernel
theorem dX6_allowOneTripMore_90 : decode cX6_allowOneTripMore 90 = .ok (.aload_n 0, 1) := by decide +kernel
theorem dX6_allowOneTripMore_91 : decode cX6_allowOneTripMore 91 = .ok (.getfield 9, 3) := by decide +kernel
theorem dX6_allowOneTripMore_94 : decode cX6_allowOneTripMore 94 = .ok (.iconst 0, 1) := by decide +kernel
theorem dX6_allowOneTripMore_95 : decode cX6_allowOneTripMore 95 = .ok (.aload_n 0, 1) := by decide +kernel
theorem dX6_allowOneTripMore_96 : decode cX6_allowOneTripMore 96 = .ok (.getfield 9, 3) := by decide +kernel
theorem dX6_allowOneTripMore_99 : decode cX6_allowOneTripMore 99 = .ok (.arraylength, 1) := by decide +kernel
theorem dX6_allowOneTripMore_100 : decode cX6_allowOneTripMore 100 = .ok (.invokestatic 43, 3) := by decide +kernel
theorem dX6_allowOneTripMore_103 : decode cX6_allowOneTripMore 103 = .ok (.return_, 1) := by decide +kernel
theorem dX6_haveSeats_0 : decode cX6_haveSeats 0 = .ok (.aload_n 0, 1) := by decide +kernel
theorem dX6_haveSeats_1 : decode cX6_haveSeats 1 = .ok (.getfield 23, 3) := by decide +kernel
theorem dX6_haveSeats_4 : decode cX6_haveSeats 4 = .ok (.aload_n 0, 1) := by decide +kernel
theorem dX6_haveSeats_5 : decode cX6_haveSeats 5 = .ok (.getfield 18, 3) := by decide +kernel
theorem dX6_haveSeats_8 : decode cX6_haveSeats 8 = .ok (.getfield 49, 3) := by decide +kernel
theorem dX6_haveSeats_11 : decode cX6_haveSeats 11 = .ok (.imul, 1) := by decide +kernel
theorem dX6_haveSeats_12 : decode cX6_haveSeats 12 = .ok (.istore_n 3, 1) := by decide +kernel
theorem dX6_haveSeats_13 : decode cX6_haveSeats 13 = .ok (.iload_n 1, 1) := by decide +kernel
theorem dX6_haveSeats_14 : decode cX6_haveSeats 14 = .ok (.invokestatic 52, 3) := by decide +kernel
theorem dX6_haveSeats_17 : decode cX6_haveSeats 17 = .ok (.iload_n 3, 1) := by decide +kernel
theorem dX6_haveSeats_18 : decode cX6_haveSeats 18 = .ok (.if_icmp .gt 15, 3) := by decide +kernel
theorem dX6_haveSeats_21 : decode cX6_haveSeats 21 = .ok (.iload_n 2, 1) := by decide +kernel
theorem dX6_haveSeats_22 : decode cX6_haveSeats 22 = .ok (.invokestatic 52, 3) := by decide +kernel
theorem dX6_haveSeats_25 : decode cX6_haveSeats 25 = .ok (.iload_n 3, 1) := by decide +kernel
theorem dX6_haveSeats_26 : decode cX6_haveSeats 26 = .ok (.if_icmp .gt 7, 3) := by decide +kernel
theorem dX6_haveSeats_29 : decode cX6_haveSeats 29 = .ok (.iconst 1, 1) := by decide +kernel
theorem dX6_haveSeats_30 : decode cX6_haveSeats 30 = .ok (.goto 4, 3) := by decide +kernel
theorem dX6_haveSeats_33 : decode cX6_haveSeats 33 = .ok (.iconst 0, 1) := by decide +kernel
theorem dX6_haveSeats_34 : decode cX6_haveSeats 34 = .ok (.ireturn, 1) := by decide +kernel
theorem dX6_leastFor_0 : decode cX6_leastFor 0 = .ok (.iload_n 1, 1) := by decide +kernel
theorem dX6_leastFor_1 : decode cX6_leastFor 1 = .ok (.ifCond .ne 10, 3) := by decide +kernel
theorem dX6_leastFor_4 : decode cX6_leastFor 4 = .ok (.iload_n 2, 1) := by decide +kernel
theorem dX6_leastFor_5 : decode cX6_leastFor 5 = .ok (.ifCond .ne 6, 3) := by decide +kernel
theorem dX6_leastFor_8 : decode cX6_leastFor 8 = .ok (.ldc 22, 2) := by decide +kernel
theorem dX6_leastFor_10 : decode cX6_leastFor 10 = .ok (.ireturn, 1) := by decide +kernel
theorem dX6_leastFor_11 : decode cX6_leastFor 11 = .ok (.iload_n 1, 1) := by decide +kernel
theorem dX6_leastFor_12 : decode cX6_leastFor 12 = .ok (.iload_n 1, 1) := by decide +kernel
theorem dX6_leastFor_13 : decode cX6_leastFor 13 = .ok (.ineg, 1) := by decide +kernel
theorem dX6_leastFor_14 : decode cX6_leastFor 14 = .ok (.iand, 1) := by decide +kernel
theorem dX6_leastFor_15 : decode cX6_leastFor 15 = .ok (.istore_n 3, 1) := by decide +kernel
theorem dX6_leastFor_16 : decode cX6_leastFor 16 = .ok (.iload_n 1, 1) := by decide +kernel
theorem dX6_leastFor_17 : decode cX6_leastFor 17 = .ok (.ifCond .ne 10, 3) := by decide +kernel
theorem dX6_leastFor_20 : decode cX6_leastFor 20 = .ok (.iload_n 2, 1) := by decide +kernel
theorem dX6_leastFor_21 : decode cX6_leastFor 21 = .ok (.iload_n 2, 1) := by decide +kernel
theorem dX6_leastFor_22 : decode cX6_leastFor 22 = .ok (.ineg, 1) := by decide +kernel
theorem dX6_leastFor_23 : decode cX6_leastFor 23 = .ok (.iand, 1) := by decide +kernel
theorem dX6_leastFor_24 : decode cX6_leastFor 24 = .ok (.goto 4, 3) := by decide +kernel
theorem dX6_leastFor_27 : decode cX6_leastFor 27 = .ok (.iconst 0, 1) := by decide +kernel
theorem dX6_leastFor_28 : decode cX6_leastFor 28 = .ok (.istore 4, 2) := by decide +kernel
theorem dX6_leastFor_30 : decode cX6_leastFor 30 = .ok (.iload_n 1, 1) := by decide +kernel
theorem dX6_leastFor_31 : decode cX6_leastFor 31 = .ok (.iload_n 3, 1) := by decide +kernel
theorem dX6_leastFor_32 : decode cX6_leastFor 32 = .ok (.ixor, 1) := by decide +kernel
theorem dX6_leastFor_33 : decode cX6_leastFor 33 = .ok (.istore 5, 2) := by decide +kernel
theorem dX6_leastFor_35 : decode cX6_leastFor 35 = .ok (.ldc 22, 2) := by decide +kernel
theorem dX6_leastFor_37 : decode cX6_leastFor 37 = .ok (.istore 6, 2) := by decide +kernel
theorem dX6_leastFor_39 : decode cX6_leastFor 39 = .ok (.iload 5, 2) := by decide +kernel
theorem dX6_leastFor_41 : decode cX6_leastFor 41 = .ok (.istore 7, 2) := by decide +kernel
theorem dX6_leastFor_43 : decode cX6_leastFor 43 = .ok (.iconst 0, 1) := by decide +kernel
theorem dX6_leastFor_44 : decode cX6_leastFor 44 = .ok (.istore 8, 2) := by decide +kernel
theorem dX6_leastFor_46 : decode cX6_leastFor 46 = .ok (.iload 8, 2) := by decide +kernel
theorem dX6_leastFor_48 : decode cX6_leastFor 48 = .ok (.bipush 32, 2) := by decide +kernel
theorem dX6_leastFor_50 : decode cX6_leastFor 50 = .ok (.if_icmp .ge 67, 3) := by decide +kernel
theorem dX6_leastFor_53 : decode cX6_leastFor 53 = .ok (.iload 7, 2) := by decide +kernel
theorem dX6_leastFor_55 : decode cX6_leastFor 55 = .ok (.iload_n 3, 1) := by decide +kernel
theorem dX6_leastFor_56 : decode cX6_leastFor 56 = .ok (.ior, 1) := by decide +kernel
theorem dX6_leastFor_57 : decode cX6_leastFor 57 = .ok (.istore 9, 2) := by decide +kernel
theorem dX6_leastFor_59 : decode cX6_leastFor 59 = .ok (.iload 9, 2) := by decide +kernel
theorem dX6_leastFor_61 : decode cX6_leastFor 61 = .ok (.invokestatic 52, 3) := by decide +kernel
theorem dX6_leastFor_64 : decode cX6_leastFor 64 = .ok (.aload_n 0, 1) := by decide +kernel
theorem dX6_leastFor_65 : decode cX6_leastFor 65 = .ok (.getfield 18, 3) := by decide +kernel
theorem dX6_leastFor_68 : decode cX6_leastFor 68 = .ok (.getfield 49, 3) := by decide +kernel
theorem dX6_leastFor_71 : decode cX6_leastFor 71 = .ok (.if_icmp .gt 23, 3) := by decide +kernel
theorem dX6_leastFor_74 : decode cX6_leastFor 74 = .ok (.iload 6, 2) := by decide +kernel
theorem dX6_leastFor_76 : decode cX6_leastFor 76 = .ok (.aload_n 0, 1) := by decide +kernel
theorem dX6_leastFor_77 : decode cX6_leastFor 77 = .ok (.iload 9, 2) := by decide +kernel
theorem dX6_leastFor_79 : decode cX6_leastFor 79 = .ok (.iload_n 1, 1) := by decide +kernel
theorem dX6_leastFor_80 : decode cX6_leastFor 80 = .ok (.iload 9, 2) := by decide +kernel
theorem dX6_leastFor_82 : decode cX6_leastFor 82 = .ok (.ixor, 1) := by decide +kernel
theorem dX6_leastFor_83 : decode cX6_leastFor 83 = .ok (.iload_n 2, 1) := by decide +kernel
theorem dX6_leastFor_84 : decode cX6_leastFor 84 = .ok (.iload 4, 2) := by decide +kernel
theorem dX6_leastFor_86 : decode cX6_leastFor 86 = .ok (.invokevirtual 58, 3) := by decide +kernel
theorem dX6_leastFor_89 : decode cX6_leastFor 89 = .ok (.invokestatic 62, 3) := by decide +kernel
theorem dX6_leastFor_92 : decode cX6_leastFor 92 = .ok (.istore 6, 2) := by decide +kernel
theorem dX6_leastFor_94 : decode cX6_leastFor 94 = .ok (.iload 7, 2) := by decide +kernel
theorem dX6_leastFor_96 : decode cX6_leastFor 96 = .ok (.ifCond .ne 6, 3) := by decide +kernel
theorem dX6_leastFor_99 : decode cX6_leastFor 99 = .ok (.goto 18, 3) := by decide +kernel
theorem dX6_leastFor_102 : decode cX6_leastFor 102 = .ok (.iload 7, 2) := by decide +kernel
theorem dX6_leastFor_104 : decode cX6_leastFor 104 = .ok (.iconst 1, 1) := by decide +kernel
theorem dX6_leastFor_105 : decode cX6_leastFor 105 = .ok (.isub, 1) := by decide +kernel
theorem dX6_leastFor_106 : decode cX6_leastFor 106 = .ok (.iload 5, 2) := by decide +kernel
theorem dX6_leastFor_108 : decode cX6_leastFor 108 = .ok (.iand, 1) := by decide +kernel
theorem dX6_leastFor_109 : decode cX6_leastFor 109 = .ok (.istore 7, 2) := by decide +kernel
theorem dX6_leastFor_111 : decode cX6_leastFor 111 = .ok (.iinc 8 1, 3) := by decide +kernel
theorem dX6_leastFor_114 : decode cX6_leastFor 114 = .ok (.goto (-68), 3) := by decide +kernel
theorem dX6_leastFor_117 : decode cX6_leastFor 117 = .ok (.iload 6, 2) := by decide +kernel
theorem dX6_leastFor_119 : decode cX6_leastFor 119 = .ok (.ireturn, 1) := by decide +kernel
theorem dX6_leastWith_0 : decode cX6_leastWith 0 = .ok (.iload_n 3, 1) := by decide +kernel
theorem dX6_leastWith_1 : decode cX6_leastWith 1 = .ok (.iload 4, 2) := by decide +kernel
theorem dX6_leastWith_3 : decode cX6_leastWith 3 = .ok (.ixor, 1) := by decide +kernel
theorem dX6_leastWith_4 : decode cX6_leastWith 4 = .ok (.istore 5, 2) := by decide +kernel
theorem dX6_leastWith_6 : decode cX6_leastWith 6 = .ok (.ldc 22, 2) := by decide +kernel
theorem dX6_leastWith_8 : decode cX6_leastWith 8 = .ok (.istore 6, 2) := by decide +kernel
theorem dX6_leastWith_10 : decode cX6_leastWith 10 = .ok (.iload 5, 2) := by decide +kernel
theorem dX6_leastWith_12 : decode cX6_leastWith 12 = .ok (.istore 7, 2) := by decide +kernel
theorem dX6_leastWith_14 : decode cX6_leastWith 14 = .ok (.iconst 0, 1) := by decide +kernel
theorem dX6_leastWith_15 : decode cX6_leastWith 15 = .ok (.istore 8, 2) := by decide +kernel
theorem dX6_leastWith_17 : decode cX6_leastWith 17 = .ok (.iload 8, 2) := by decide +kernel
theorem dX6_leastWith_19 : decode cX6_leastWith 19 = .ok (.bipush 32, 2) := by decide +kernel
theorem dX6_leastWith_21 : decode cX6_leastWith 21 = .ok (.if_icmp .ge 95, 3) := by decide +kernel
theorem dX6_leastWith_24 : decode cX6_leastWith 24 = .ok (.iload 7, 2) := by decide +kernel
theorem dX6_leastWith_26 : decode cX6_leastWith 26 = .ok (.iload 4, 2) := by decide +kernel
theorem dX6_leastWith_28 : decode cX6_leastWith 28 = .ok (.ior, 1) := by decide +kernel
theorem dX6_leastWith_29 : decode cX6_leastWith 29 = .ok (.istore 9, 2) := by decide +kernel
theorem dX6_leastWith_31 : decode cX6_leastWith 31 = .ok (.aload_n 0, 1) := by decide +kernel
theorem dX6_leastWith_32 : decode cX6_leastWith 32 = .ok (.getfield 9, 3) := by decide +kernel
theorem dX6_leastWith_35 : decode cX6_leastWith 35 = .ok (.iload_n 2, 1) := by decide +kernel
theorem dX6_leastWith_36 : decode cX6_leastWith 36 = .ok (.bipush 32, 2) := by decide +kernel
theorem dX6_leastWith_38 : decode cX6_leastWith 38 = .ok (.imul, 1) := by decide +kernel
theorem dX6_leastWith_39 : decode cX6_leastWith 39 = .ok (.iload_n 3, 1) := by decide +kernel
theorem dX6_leastWith_40 : decode cX6_leastWith 40 = .ok (.iload 9, 2) := by decide +kernel
theorem dX6_leastWith_42 : decode cX6_leastWith 42 = .ok (.ixor, 1) := by decide +kernel
theorem dX6_leastWith_43 : decode cX6_leastWith 43 = .ok (.iadd, 1) := by decide +kernel
theorem dX6_leastWith_44 : decode cX6_leastWith 44 = .ok (.sipush 1023, 3) := by decide +kernel
theorem dX6_leastWith_47 : decode cX6_leastWith 47 = .ok (.iand, 1) := by decide +kernel
theorem dX6_leastWith_48 : decode cX6_leastWith 48 = .ok (.iaload, 1) := by decide +kernel
theorem dX6_leastWith_49 : decode cX6_leastWith 49 = .ok (.istore 10, 2) := by decide +kernel
theorem dX6_leastWith_51 : decode cX6_leastWith 51 = .ok (.iload 10, 2) := by decide +kernel
theorem dX6_leastWith_53 : decode cX6_leastWith 53 = .ok (.iload 6, 2) := by decide +kernel
theorem dX6_leastWith_55 : decode cX6_leastWith 55 = .ok (.if_icmp .ge 38, 3) := by decide +kernel
theorem dX6_leastWith_58 : decode cX6_leastWith 58 = .ok (.iload 9, 2) := by decide +kernel
theorem dX6_leastWith_60 : decode cX6_leastWith 60 = .ok (.invokestatic 52, 3) := by decide +kernel
theorem dX6_leastWith_63 : decode cX6_leastWith 63 = .ok (.aload_n 0, 1) := by decide +kernel
theorem dX6_leastWith_64 : decode cX6_leastWith 64 = .ok (.getfield 18, 3) := by decide +kernel
theorem dX6_leastWith_67 : decode cX6_leastWith 67 = .ok (.getfield 49, 3) := by decide +kernel
theorem dX6_leastWith_70 : decode cX6_leastWith 70 = .ok (.if_icmp .gt 23, 3) := by decide +kernel
theorem dX6_leastWith_73 : decode cX6_leastWith 73 = .ok (.iload 6, 2) := by decide +kernel
theorem dX6_leastWith_75 : decode cX6_leastWith 75 = .ok (.iload 10, 2) := by decide +kernel
theorem dX6_leastWith_77 : decode cX6_leastWith 77 = .ok (.aload_n 0, 1) := by decide +kernel
theorem dX6_leastWith_78 : decode cX6_leastWith 78 = .ok (.getfield 18, 3) := by decide +kernel
theorem dX6_leastWith_81 : decode cX6_leastWith 81 = .ok (.iload_n 1, 1) := by decide +kernel
theorem dX6_leastWith_82 : decode cX6_leastWith 82 = .ok (.iload 9, 2) := by decide +kernel
theorem dX6_leastWith_84 : decode cX6_leastWith 84 = .ok (.invokevirtual 67, 3) := by decide +kernel
theorem dX6_leastWith_87 : decode cX6_leastWith 87 = .ok (.iadd, 1) := by decide +kernel
theorem dX6_leastWith_88 : decode cX6_leastWith 88 = .ok (.invokestatic 62, 3) := by decide +kernel
theorem dX6_leastWith_91 : decode cX6_leastWith 91 = .ok (.istore 6, 2) := by decide +kernel
theorem dX6_leastWith_93 : decode cX6_leastWith 93 = .ok (.iload 7, 2) := by decide +kernel
theorem dX6_leastWith_95 : decode cX6_leastWith 95 = .ok (.ifCond .ne 6, 3) := by decide +kernel
theorem dX6_leastWith_98 : decode cX6_leastWith 98 = .ok (.goto 18, 3) := by decide +kernel
theorem dX6_leastWith_101 : decode cX6_leastWith 101 = .ok (.iload 7, 2) := by decide +kernel
theorem dX6_leastWith_103 : decode cX6_leastWith 103 = .ok (.iconst 1, 1) := by decide +kernel
theorem dX6_leastWith_104 : decode cX6_leastWith 104 = .ok (.isub, 1) := by decide +kernel
theorem dX6_leastWith_105 : decode cX6_leastWith 105 = .ok (.iload 5, 2) := by decide +kernel
theorem dX6_leastWith_107 : decode cX6_leastWith 107 = .ok (.iand, 1) := by decide +kernel
theorem dX6_leastWith_108 : decode cX6_leastWith 108 = .ok (.istore 7, 2) := by decide +kernel
theorem dX6_leastWith_110 : decode cX6_leastWith 110 = .ok (.iinc 8 1, 3) := by decide +kernel
theorem dX6_leastWith_113 : decode cX6_leastWith 113 = .ok (.goto (-96), 3) := by decide +kernel
theorem dX6_leastWith_116 : decode cX6_leastWith 116 = .ok (.iload 6, 2) := by decide +kernel
theorem dX6_leastWith_118 : decode cX6_leastWith 118 = .ok (.ireturn, 1) := by decide +kernel
theorem dX6_chooseFirst_0 : decode cX6_chooseFirst 0 = .ok (.ldc 22, 2) := by decide +kernel
theorem dX6_chooseFirst_2 : decode cX6_chooseFirst 2 = .ok (.istore_n 1, 1) := by decide +kernel
theorem dX6_chooseFirst_3 : decode cX6_chooseFirst 3 = .ok (.iconst 0, 1) := by decide +kernel
theorem dX6_chooseFirst_4 : decode cX6_chooseFirst 4 = .ok (.istore_n 2, 1) := by decide +kernel
theorem dX6_chooseFirst_5 : decode cX6_chooseFirst 5 = .ok (.iload_n 2, 1) := by decide +kernel
theorem dX6_chooseFirst_6 : decode cX6_chooseFirst 6 = .ok (.aload_n 0, 1) := by decide +kernel
theorem dX6_chooseFirst_7 : decode cX6_chooseFirst 7 = .ok (.getfield 18, 3) := by decide +kernel
theorem dX6_chooseFirst_10 : decode cX6_chooseFirst 10 = .ok (.getfield 27, 3) := by decide +kernel
theorem dX6_chooseFirst_13 : decode cX6_chooseFirst 13 = .ok (.if_icmp .gt 116, 3) := by decide +kernel
theorem dX6_chooseFirst_16 : decode cX6_chooseFirst 16 = .ok (.iconst 0, 1) := by decide +kernel
theorem dX6_chooseFirst_17 : decode cX6_chooseFirst 17 = .ok (.istore_n 3, 1) := by decide +kernel
theorem dX6_chooseFirst_18 : decode cX6_chooseFirst 18 = .ok (.iload_n 3, 1) := by decide +kernel
theorem dX6_chooseFirst_19 : decode cX6_chooseFirst 19 = .ok (.aload_n 0, 1) := by decide +kernel
theorem dX6_chooseFirst_20 : decode cX6_chooseFirst 20 = .ok (.getfield 18, 3) := by decide +kernel
theorem dX6_chooseFirst_23 : decode cX6_chooseFirst 23 = .ok (.getfield 32, 3) := by decide +kernel
theorem dX6_chooseFirst_26 : decode cX6_chooseFirst 26 = .ok (.if_icmp .gt 97, 3) := by decide +kernel
theorem dX6_chooseFirst_29 : decode cX6_chooseFirst 29 = .ok (.aload_n 0, 1) := by decide +kernel
theorem dX6_chooseFirst_30 : decode cX6_chooseFirst 30 = .ok (.getfield 18, 3) := by decide +kernel
theorem dX6_chooseFirst_33 : decode cX6_chooseFirst 33 = .ok (.getfield 27, 3) := by decide +kernel
theorem dX6_chooseFirst_36 : decode cX6_chooseFirst 36 = .ok (.iload_n 2, 1) := by decide +kernel
theorem dX6_chooseFirst_37 : decode cX6_chooseFirst 37 = .ok (.ixor, 1) := by decide +kernel
theorem dX6_chooseFirst_38 : decode cX6_chooseFirst 38 = .ok (.bipush 32, 2) := by decide +kernel
theorem dX6_chooseFirst_40 : decode cX6_chooseFirst 40 = .ok (.imul, 1) := by decide +kernel
theorem dX6_chooseFirst_41 : decode cX6_chooseFirst 41 = .ok (.aload_n 0, 1) := by decide +kernel
theorem dX6_chooseFirst_42 : decode cX6_chooseFirst 42 = .ok (.getfield 18, 3) := by decide +kernel
theorem dX6_chooseFirst_45 : decode cX6_chooseFirst 45 = .ok (.getfield 32, 3) := by decide +kernel
theorem dX6_chooseFirst_48 : decode cX6_chooseFirst 48 = .ok (.iload_n 3, 1) := by decide +kernel
theorem dX6_chooseFirst_49 : decode cX6_chooseFirst 49 = .ok (.ixor, 1) := by decide +kernel
theorem dX6_chooseFirst_50 : decode cX6_chooseFirst 50 = .ok (.iadd, 1) := by decide +kernel
theorem dX6_chooseFirst_51 : decode cX6_chooseFirst 51 = .ok (.istore 4, 2) := by decide +kernel
theorem dX6_chooseFirst_53 : decode cX6_chooseFirst 53 = .ok (.aload_n 0, 1) := by decide +kernel
theorem dX6_chooseFirst_54 : decode cX6_chooseFirst 54 = .ok (.getfield 9, 3) := by decide +kernel
theorem dX6_chooseFirst_57 : decode cX6_chooseFirst 57 = .ok (.iload 4, 2) := by decide +kernel
theorem dX6_chooseFirst_59 : decode cX6_chooseFirst 59 = .ok (.sipush 1023, 3) := by decide +kernel
theorem dX6_chooseFirst_62 : decode cX6_chooseFirst 62 = .ok (.iand, 1) := by decide +kernel
theorem dX6_chooseFirst_63 : decode cX6_chooseFirst 63 = .ok (.iaload, 1) := by decide +kernel
theorem dX6_chooseFirst_64 : decode cX6_chooseFirst 64 = .ok (.istore 5, 2) := by decide +kernel
theorem dX6_chooseFirst_66 : decode cX6_chooseFirst 66 = .ok (.iload 5, 2) := by decide +kernel
theorem dX6_chooseFirst_68 : decode cX6_chooseFirst 68 = .ok (.iload_n 1, 1) := by decide +kernel
theorem dX6_chooseFirst_69 : decode cX6_chooseFirst 69 = .ok (.if_icmp .ge 48, 3) := by decide +kernel
theorem dX6_chooseFirst_72 : decode cX6_chooseFirst 72 = .ok (.aload_n 0, 1) := by decide +kernel
theorem dX6_chooseFirst_73 : decode cX6_chooseFirst 73 = .ok (.getfield 18, 3) := by decide +kernel
theorem dX6_chooseFirst_76 : decode cX6_chooseFirst 76 = .ok (.iload_n 2, 1) := by decide +kernel
theorem dX6_chooseFirst_77 : decode cX6_chooseFirst 77 = .ok (.iload_n 3, 1) := by decide +kernel
theorem dX6_chooseFirst_78 : decode cX6_chooseFirst 78 = .ok (.invokevirtual 70, 3) := by decide +kernel
theorem dX6_chooseFirst_81 : decode cX6_chooseFirst 81 = .ok (.ifCond .eq 36, 3) := by decide +kernel
theorem dX6_chooseFirst_84 : decode cX6_chooseFirst 84 = .ok (.iload 5, 2) := by decide +kernel
theorem dX6_chooseFirst_86 : decode cX6_chooseFirst 86 = .ok (.aload_n 0, 1) := by decide +kernel
theorem dX6_chooseFirst_87 : decode cX6_chooseFirst 87 = .ok (.getfield 18, 3) := by decide +kernel
theorem dX6_chooseFirst_90 : decode cX6_chooseFirst 90 = .ok (.iload_n 2, 1) := by decide +kernel
theorem dX6_chooseFirst_91 : decode cX6_chooseFirst 91 = .ok (.iload_n 3, 1) := by decide +kernel
theorem dX6_chooseFirst_92 : decode cX6_chooseFirst 92 = .ok (.invokevirtual 67, 3) := by decide +kernel
theorem dX6_chooseFirst_95 : decode cX6_chooseFirst 95 = .ok (.iadd, 1) := by decide +kernel
theorem dX6_chooseFirst_96 : decode cX6_chooseFirst 96 = .ok (.istore 6, 2) := by decide +kernel
theorem dX6_chooseFirst_98 : decode cX6_chooseFirst 98 = .ok (.iload 6, 2) := by decide +kernel
theorem dX6_chooseFirst_100 : decode cX6_chooseFirst 100 = .ok (.iload_n 1, 1) := by decide +kernel
theorem dX6_chooseFirst_101 : decode cX6_chooseFirst 101 = .ok (.if_icmp .ge 16, 3) := by decide +kernel
theorem dX6_chooseFirst_104 : decode cX6_chooseFirst 104 = .ok (.iload 6, 2) := by decide +kernel
theorem dX6_chooseFirst_106 : decode cX6_chooseFirst 106 = .ok (.istore_n 1, 1) := by decide +kernel
theorem dX6_chooseFirst_107 : decode cX6_chooseFirst 107 = .ok (.aload_n 0, 1) := by decide +kernel
theorem dX6_chooseFirst_108 : decode cX6_chooseFirst 108 = .ok (.iload_n 2, 1) := by decide +kernel
theorem dX6_chooseFirst_109 : decode cX6_chooseFirst 109 = .ok (.putfield 73, 3) := by decide +kernel
theorem dX6_chooseFirst_112 : decode cX6_chooseFirst 112 = .ok (.aload_n 0, 1) := by decide +kernel
theorem dX6_chooseFirst_113 : decode cX6_chooseFirst 113 = .ok (.iload_n 3, 1) := by decide +kernel
theorem dX6_chooseFirst_114 : decode cX6_chooseFirst 114 = .ok (.putfield 76, 3) := by decide +kernel
theorem dX6_chooseFirst_117 : decode cX6_chooseFirst 117 = .ok (.iinc 3 1, 3) := by decide +kernel
theorem dX6_chooseFirst_120 : decode cX6_chooseFirst 120 = .ok (.goto (-102), 3) := by decide +kernel
theorem dX6_chooseFirst_123 : decode cX6_chooseFirst 123 = .ok (.iinc 2 1, 3) := by decide +kernel
theorem dX6_chooseFirst_126 : decode cX6_chooseFirst 126 = .ok (.goto (-121), 3) := by decide +kernel
theorem dX6_chooseFirst_129 : decode cX6_chooseFirst 129 = .ok (.iload_n 1, 1) := by decide +kernel
theorem dX6_chooseFirst_130 : decode cX6_chooseFirst 130 = .ok (.ireturn, 1) := by decide +kernel
theorem dX7_init_0 : decode cX7_init 0 = .ok (.aload_n 0, 1) := by decide +kernel
theorem dX7_init_1 : decode cX7_init 1 = .ok (.invokespecial 3, 3) := by decide +kernel
theorem dX7_init_4 : decode cX7_init 4 = .ok (.aload_n 0, 1) := by decide +kernel
theorem dX7_init_5 : decode cX7_init 5 = .ok (.bipush 40, 2) := by decide +kernel
theorem dX7_init_7 : decode cX7_init 7 = .ok (.newarray .int, 2) := by decide +kernel
theorem dX7_init_9 : decode cX7_init 9 = .ok (.putfield 11, 3) := by decide +kernel
theorem dX7_init_12 : decode cX7_init 12 = .ok (.aload_n 0, 1) := by decide +kernel
theorem dX7_init_13 : decode cX7_init 13 = .ok (.bipush 40, 2) := by decide +kernel
theorem dX7_init_15 : decode cX7_init 15 = .ok (.newarray .int, 2) := by decide +kernel
theorem dX7_init_17 : decode cX7_init 17 = .ok (.putfield 15, 3) := by decide +kernel
theorem dX7_init_20 : decode cX7_init 20 = .ok (.return_, 1) := by decide +kernel
theorem dX7_clear_0 : decode cX7_clear 0 = .ok (.aload_n 0, 1) := by decide +kernel
theorem dX7_clear_1 : decode cX7_clear 1 = .ok (.iconst 0, 1) := by decide +kernel
theorem dX7_clear_2 : decode cX7_clear 2 = .ok (.putfield 18, 3) := by decide +kernel
theorem dX7_clear_5 : decode cX7_clear 5 = .ok (.return_, 1) := by decide +kernel
theorem dX7_add_0 : decode cX7_add 0 = .ok (.aload_n 0, 1) := by decide +kernel
theorem dX7_add_1 : decode cX7_add 1 = .ok (.getfield 18, 3) := by decide +kernel
theorem dX7_add_4 : decode cX7_add 4 = .ok (.bipush 40, 2) := by decide +kernel
theorem dX7_add_6 : decode cX7_add 6 = .ok (.if_icmp .ge 23, 3) := by decide +kernel
theorem dX7_add_9 : decode cX7_add 9 = .ok (.aload_n 0, 1) := by decide +kernel
theorem dX7_add_10 : decode cX7_add 10 = .ok (.getfield 11, 3) := by decide +kernel
theorem dX7_add_13 : decode cX7_add 13 = .ok (.aload_n 0, 1) := by decide +kernel
theorem dX7_add_14 : decode cX7_add 14 = .ok (.getfield 18, 3) := by decide +kernel
theorem dX7_add_17 : decode cX7_add 17 = .ok (.iload_n 1, 1) := by decide +kernel
theorem dX7_add_18 : decode cX7_add 18 = .ok (.iastore, 1) := by decide +kernel
theorem dX7_add_19 : decode cX7_add 19 = .ok (.aload_n 0, 1) := by decide +kernel
theorem dX7_add_20 : decode cX7_add 20 = .ok (.dup, 1) := by decide +kernel
theorem dX7_add_21 : decode cX7_add 21 = .ok (.getfield 18, 3) := by decide +kernel
theorem dX7_add_24 : decode cX7_add 24 = .ok (.iconst 1, 1) := by decide +kernel
theorem dX7_add_25 : decode cX7_add 25 = .ok (.iadd, 1) := by decide +kernel
theorem dX7_add_26 : decode cX7_add 26 = .ok (.putfield 18, 3) := by decide +kernel
theorem dX7_add_29 : decode cX7_add 29 = .ok (.return_, 1) := by decide +kernel
theorem dX7_copyFrom_0 : decode cX7_copyFrom 0 = .ok (.aload_n 1, 1) := by decide +kernel
theorem dX7_copyFrom_1 : decode cX7_copyFrom 1 = .ok (.getfield 11, 3) := by decide +kernel
theorem dX7_copyFrom_4 : decode cX7_copyFrom 4 = .ok (.iconst 0, 1) := by decide +kernel
theorem dX7_copyFrom_5 : decode cX7_copyFrom 5 = .ok (.aload_n 0, 1) := by decide +kernel
theorem dX7_copyFrom_6 : decode cX7_copyFrom 6 = .ok (.getfield 11, 3) := by decide +kernel
theorem dX7_copyFrom_9 : decode cX7_copyFrom 9 = .ok (.iconst 0, 1) := by decide +kernel
theorem dX7_copyFrom_10 : decode cX7_copyFrom 10 = .ok (.aload_n 0, 1) := by decide +kernel
theorem dX7_copyFrom_11 : decode cX7_copyFrom 11 = .ok (.getfield 11, 3) := by decide +kernel
theorem dX7_copyFrom_14 : decode cX7_copyFrom 14 = .ok (.arraylength, 1) := by decide +kernel
theorem dX7_copyFrom_15 : decode cX7_copyFrom 15 = .ok (.invokestatic 22, 3) := by decide +kernel
theorem dX7_copyFrom_18 : decode cX7_copyFrom 18 = .ok (.aload_n 0, 1) := by decide +kernel
theorem dX7_copyFrom_19 : decode cX7_copyFrom 19 = .ok (.aload_n 1, 1) := by decide +kernel
theorem dX7_copyFrom_20 : decode cX7_copyFrom 20 = .ok (.getfield 18, 3) := by decide +kernel
theorem dX7_copyFrom_23 : decode cX7_copyFrom 23 = .ok (.putfield 18, 3) := by decide +kernel
theorem dX7_copyFrom_26 : decode cX7_copyFrom 26 = .ok (.return_, 1) := by decide +kernel
theorem dX7_spring_0 : decode cX7_spring 0 = .ok (.aload_n 0, 1) := by decide +kernel
theorem dX7_spring_1 : decode cX7_spring 1 = .ok (.getfield 18, 3) := by decide +kernel
theorem dX7_spring_4 : decode cX7_spring 4 = .ok (.ifCond .ne 5, 3) := by decide +kernel
theorem dX7_spring_7 : decode cX7_spring 7 = .ok (.iconst 3, 1) := by decide +kernel
theorem dX7_spring_8 : decode cX7_spring 8 = .ok (.ireturn, 1) := by decide +kernel
theorem dX7_spring_9 : decode cX7_spring 9 = .ok (.iconst 0, 1) := by decide +kernel
theorem dX7_spring_10 : decode cX7_spring 10 = .ok (.istore_n 2, 1) := by decide +kernel
theorem dX7_spring_11 : decode cX7_spring 11 = .ok (.iconst 0, 1) := by decide +kernel
theorem dX7_spring_12 : decode cX7_spring 12 = .ok (.istore_n 3, 1) := by decide +kernel
theorem dX7_spring_13 : decode cX7_spring 13 = .ok (.iload_n 3, 1) := by decide +kernel
theorem dX7_spring_14 : decode cX7_spring 14 = .ok (.aload_n 0, 1) := by decide +kernel
theorem dX7_spring_15 : decode cX7_spring 15 = .ok (.getfield 18, 3) := by decide +kernel
theorem dX7_spring_18 : decode cX7_spring 18 = .ok (.if_icmp .ge 136, 3) := by decide +kernel
theorem dX7_spring_21 : decode cX7_spring 21 = .ok (.iload_n 3, 1) := by decide +kernel
theorem dX7_spring_22 : decode cX7_spring 22 = .ok (.bipush 40, 2) := by decide +kernel
theorem dX7_spring_24 : decode cX7_spring 24 = .ok (.if_icmp .ge 130, 3) := by decide +kernel
theorem dX7_spring_27 : decode cX7_spring 27 = .ok (.aload_n 0, 1) := by decide +kernel
theorem dX7_spring_28 : decode cX7_spring 28 = .ok (.getfield 11, 3) := by decide +kernel
theorem dX7_spring_31 : decode cX7_spring 31 = .ok (.iload_n 3, 1) := by decide +kernel
theorem dX7_spring_32 : decode cX7_spring 32 = .ok (.iaload, 1) := by decide +kernel
theorem dX7_spring_33 : decode cX7_spring 33 = .ok (.istore 4, 2) := by decide +kernel
theorem dX7_spring_35 : decode cX7_spring 35 = .ok (.iload 4, 2) := by decide +kernel
theorem dX7_spring_37 : decode cX7_spring 37 = .ok (.iconst (-1), 1) := by decide +kernel
theorem dX7_spring_38 : decode cX7_spring 38 = .ok (.if_icmp .ne 28, 3) := by decide +kernel
theorem dX7_spring_41 : decode cX7_spring 41 = .ok (.iload_n 2, 1) := by decide +kernel
theorem dX7_spring_42 : decode cX7_spring 42 = .ok (.iconst 1, 1) := by decide +kernel
theorem dX7_spring_43 : decode cX7_spring 43 = .ok (.if_icmp .lt 105, 3) := by decide +kernel
theorem dX7_spring_46 : decode cX7_spring 46 = .ok (.aload_n 0, 1) := by decide +kernel
theorem dX7_spring_47 : decode cX7_spring 47 = .ok (.getfield 15, 3) := by decide +kernel
theorem dX7_spring_50 : decode cX7_spring 50 = .ok (.iload_n 2, 1) := by decide +kernel
theorem dX7_spring_51 : decode cX7_spring 51 = .ok (.iconst 1, 1) := by decide +kernel
theorem dX7_spring_52 : decode cX7_spring 52 = .ok (.isub, 1) := by decide +kernel
theorem dX7_spring_53 : decode cX7_spring 53 = .ok (.aload_n 0, 1) := by decide +kernel
theorem dX7_spring_54 : decode cX7_spring 54 = .ok (.getfield 15, 3) := by decide +kernel
theorem dX7_spring_57 : decode cX7_spring 57 = .ok (.iload_n 2, 1) := by decide +kernel
theorem dX7_spring_58 : decode cX7_spring 58 = .ok (.iconst 1, 1) := by decide +kernel
theorem dX7_spring_59 : decode cX7_spring 59 = .ok (.isub, 1) := by decide +kernel
theorem dX7_spring_60 : decode cX7_spring 60 = .ok (.iaload, 1) := by decide +kernel
theorem dX7_spring_61 : decode cX7_spring 61 = .ok (.ineg, 1) := by decide +kernel
theorem dX7_spring_62 : decode cX7_spring 62 = .ok (.iastore, 1) := by decide +kernel
theorem dX7_spring_63 : decode cX7_spring 63 = .ok (.goto 85, 3) := by decide +kernel
theorem dX7_spring_66 : decode cX7_spring 66 = .ok (.iload 4, 2) := by decide +kernel
theorem dX7_spring_68 : decode cX7_spring 68 = .ok (.ineg, 1) := by decide +kernel
theorem dX7_spring_69 : decode cX7_spring 69 = .ok (.invokestatic 28, 3) := by decide +kernel
theorem dX7_spring_72 : decode cX7_spring 72 = .ok (.ifCond .eq 44, 3) := by decide +kernel
theorem dX7_spring_75 : decode cX7_spring 75 = .ok (.iload_n 2, 1) := by decide +kernel
theorem dX7_spring_76 : decode cX7_spring 76 = .ok (.iconst 2, 1) := by decide +kernel
theorem dX7_spring_77 : decode cX7_spring 77 = .ok (.if_icmp .lt 71, 3) := by decide +kernel
theorem dX7_spring_80 : decode cX7_spring 80 = .ok (.aload_n 0, 1) := by decide +kernel
theorem dX7_spring_81 : decode cX7_spring 81 = .ok (.getfield 15, 3) := by decide +kernel
theorem dX7_spring_84 : decode cX7_spring 84 = .ok (.iload_n 2, 1) := by decide +kernel
theorem dX7_spring_85 : decode cX7_spring 85 = .ok (.iconst 2, 1) := by decide +kernel
theorem dX7_spring_86 : decode cX7_spring 86 = .ok (.isub, 1) := by decide +kernel
theorem dX7_spring_87 : decode cX7_spring 87 = .ok (.iload 4, 2) := by decide +kernel
theorem dX7_spring_89 : decode cX7_spring 89 = .ok (.ineg, 1) := by decide +kernel
theorem dX7_spring_90 : decode cX7_spring 90 = .ok (.aload_n 0, 1) := by decide +kernel
theorem dX7_spring_91 : decode cX7_spring 91 = .ok (.getfield 15, 3) := by decide +kernel
theorem dX7_spring_94 : decode cX7_spring 94 = .ok (.iload_n 2, 1) := by decide +kernel
theorem dX7_spring_95 : decode cX7_spring 95 = .ok (.iconst 2, 1) := by decide +kernel
theorem dX7_spring_96 : decode cX7_spring 96 = .ok (.isub, 1) := by decide +kernel
theorem dX7_spring_97 : decode cX7_spring 97 = .ok (.iaload, 1) := by decide +kernel
theorem dX7_spring_98 : decode cX7_spring 98 = .ok (.aload_n 0, 1) := by decide +kernel
theorem dX7_spring_99 : decode cX7_spring 99 = .ok (.getfield 15, 3) := by decide +kernel
theorem dX7_spring_102 : decode cX7_spring 102 = .ok (.iload_n 2, 1) := by decide +kernel
theorem dX7_spring_103 : decode cX7_spring 103 = .ok (.iconst 1, 1) := by decide +kernel
theorem dX7_spring_104 : decode cX7_spring 104 = .ok (.isub, 1) := by decide +kernel
theorem dX7_spring_105 : decode cX7_spring 105 = .ok (.iaload, 1) := by decide +kernel
theorem dX7_spring_106 : decode cX7_spring 106 = .ok (.invokestatic 32, 3) := by decide +kernel
theorem dX7_spring_109 : decode cX7_spring 109 = .ok (.iastore, 1) := by decide +kernel
theorem dX7_spring_110 : decode cX7_spring 110 = .ok (.iinc 2 (-1), 3) := by decide +kernel
theorem dX7_spring_113 : decode cX7_spring 113 = .ok (.goto 35, 3) := by decide +kernel
theorem dX7_spring_116 : decode cX7_spring 116 = .ok (.iload_n 2, 1) := by decide +kernel
theorem dX7_spring_117 : decode cX7_spring 117 = .ok (.bipush 40, 2) := by decide +kernel
theorem dX7_spring_119 : decode cX7_spring 119 = .ok (.if_icmp .ge 29, 3) := by decide +kernel
theorem dX7_spring_122 : decode cX7_spring 122 = .ok (.aload_n 0, 1) := by decide +kernel
theorem dX7_spring_123 : decode cX7_spring 123 = .ok (.getfield 15, 3) := by decide +kernel
theorem dX7_spring_126 : decode cX7_spring 126 = .ok (.iload_n 2, 1) := by decide +kernel
theorem dX7_spring_127 : decode cX7_spring 127 = .ok (.iload 4, 2) := by decide +kernel
theorem dX7_spring_129 : decode cX7_spring 129 = .ok (.ifCond .lt 8, 3) := by decide +kernel
theorem dX7_spring_132 : decode cX7_spring 132 = .ok (.iload 4, 2) := by decide +kernel
theorem dX7_spring_134 : decode cX7_spring 134 = .ok (.goto 10, 3) := by decide +kernel
theorem dX7_spring_137 : decode cX7_spring 137 = .ok (.iload 4, 2) := by decide +kernel
theorem dX7_spring_139 : decode cX7_spring 139 = .ok (.ineg, 1) := by decide +kernel
theorem dX7_spring_140 : decode cX7_spring 140 = .ok (.aload_n 1, 1) := by decide +kernel
theorem dX7_spring_141 : decode cX7_spring 141 = .ok (.invokestatic 36, 3) := by decide +kernel
theorem dX7_spring_144 : decode cX7_spring 144 = .ok (.iastore, 1) := by decide +kernel
theorem dX7_spring_145 : decode cX7_spring 145 = .ok (.iinc 2 1, 3) := by decide +kernel
theorem dX7_spring_148 : decode cX7_spring 148 = .ok (.iinc 3 1, 3) := by decide +kernel
theorem dX7_spring_151 : decode cX7_spring 151 = .ok (.goto (-138), 3) := by decide +kernel
theorem dX7_spring_154 : decode cX7_spring 154 = .ok (.iconst 0, 1) := by decide +kernel
theorem dX7_spring_155 : decode cX7_spring 155 = .ok (.bipush 9, 2) := by decide +kernel
theorem dX7_spring_157 : decode cX7_spring 157 = .ok (.aload_n 0, 1) := by decide +kernel
theorem dX7_spring_158 : decode cX7_spring 158 = .ok (.getfield 15, 3) := by decide +kernel
theorem dX7_spring_161 : decode cX7_spring 161 = .ok (.iconst 0, 1) := by decide +kernel
theorem dX7_spring_162 : decode cX7_spring 162 = .ok (.iaload, 1) := by decide +kernel
theorem dX7_spring_163 : decode cX7_spring 163 = .ok (.invokestatic 40, 3) := by decide +kernel
theorem dX7_spring_166 : decode cX7_spring 166 = .ok (.invokestatic 46, 3) := by decide +kernel
theorem dX7_spring_169 : decode cX7_spring 169 = .ok (.ireturn, 1) := by decide +kernel
theorem dX7_joins_0 : decode cX7_joins 0 = .ok (.iload_n 0, 1) := by decide +kernel
theorem dX7_joins_1 : decode cX7_joins 1 = .ok (.tableswitch 101 42 62 #[99, 99, 101, 99, 101, 99, 101, 101, 101, 101, 101, 101, 101, 101, 101, 101, 101, 101, 99, 99, 99], 99) := by decide +kernel
theorem dX7_joins_100 : decode cX7_joins 100 = .ok (.iconst 1, 1) := by decide +kernel
theorem dX7_joins_101 : decode cX7_joins 101 = .ok (.ireturn, 1) := by decide +kernel
theorem dX7_joins_102 : decode cX7_joins 102 = .ok (.iconst 0, 1) := by decide +kernel
theorem dX7_joins_103 : decode cX7_joins 103 = .ok (.ireturn, 1) := by decide +kernel
theorem dX7_join_0 : decode cX7_join 0 = .ok (.iload_n 0, 1) := by decide +kernel
theorem dX7_join_1 : decode cX7_join 1 = .ok (.lookupswitch 104 #[(42, 100), (43, 92), (45, 96), (60, 59), (61, 81), (62, 70)], 59) := by decide +kernel
theorem dX7_join_60 : decode cX7_join 60 = .ok (.iload_n 1, 1) := by decide +kernel
theorem dX7_join_61 : decode cX7_join 61 = .ok (.iload_n 2, 1) := by decide +kernel
theorem dX7_join_62 : decode cX7_join 62 = .ok (.if_icmp .ge 7, 3) := by decide +kernel
theorem dX7_join_65 : decode cX7_join 65 = .ok (.iconst 1, 1) := by decide +kernel
theorem dX7_join_66 : decode cX7_join 66 = .ok (.goto 4, 3) := by decide +kernel
theorem dX7_join_69 : decode cX7_join 69 = .ok (.iconst 0, 1) := by decide +kernel
theorem dX7_join_70 : decode cX7_join 70 = .ok (.ireturn, 1) := by decide +kernel
theorem dX7_join_71 : decode cX7_join 71 = .ok (.iload_n 1, 1) := by decide +kernel
theorem dX7_join_72 : decode cX7_join 72 = .ok (.iload_n 2, 1) := by decide +kernel
theorem dX7_join_73 : decode cX7_join 73 = .ok (.if_icmp .le 7, 3) := by decide +kernel
theorem dX7_join_76 : decode cX7_join 76 = .ok (.iconst 1, 1) := by decide +kernel
theorem dX7_join_77 : decode cX7_join 77 = .ok (.goto 4, 3) := by decide +kernel
theorem dX7_join_80 : decode cX7_join 80 = .ok (.iconst 0, 1) := by decide +kernel
theorem dX7_join_81 : decode cX7_join 81 = .ok (.ireturn, 1) := by decide +kernel
theorem dX7_join_82 : decode cX7_join 82 = .ok (.iload_n 1, 1) := by decide +kernel
theorem dX7_join_83 : decode cX7_join 83 = .ok (.iload_n 2, 1) := by decide +kernel
theorem dX7_join_84 : decode cX7_join 84 = .ok (.if_icmp .ne 7, 3) := by decide +kernel
theorem dX7_join_87 : decode cX7_join 87 = .ok (.iconst 1, 1) := by decide +kernel
theorem dX7_join_88 : decode cX7_join 88 = .ok (.goto 4, 3) := by decide +kernel
theorem dX7_join_91 : decode cX7_join 91 = .ok (.iconst 0, 1) := by decide +kernel
theorem dX7_join_92 : decode cX7_join 92 = .ok (.ireturn, 1) := by decide +kernel
theorem dX7_join_93 : decode cX7_join 93 = .ok (.iload_n 1, 1) := by decide +kernel
theorem dX7_join_94 : decode cX7_join 94 = .ok (.iload_n 2, 1) := by decide +kernel
theorem dX7_join_95 : decode cX7_join 95 = .ok (.iadd, 1) := by decide +kernel
theorem dX7_join_96 : decode cX7_join 96 = .ok (.ireturn, 1) := by decide +kernel
theorem dX7_join_97 : decode cX7_join 97 = .ok (.iload_n 1, 1) := by decide +kernel
theorem dX7_join_98 : decode cX7_join 98 = .ok (.iload_n 2, 1) := by decide +kernel
theorem dX7_join_99 : decode cX7_join 99 = .ok (.isub, 1) := by decide +kernel
theorem dX7_join_100 : decode cX7_join 100 = .ok (.ireturn, 1) := by decide +kernel
theorem dX7_join_101 : decode cX7_join 101 = .ok (.iload_n 1, 1) := by decide +kernel
theorem dX7_join_102 : decode cX7_join 102 = .ok (.iload_n 2, 1) := by decide +kernel
theorem dX7_join_103 : decode cX7_join 103 = .ok (.imul, 1) := by decide +kernel
theorem dX7_join_104 : decode cX7_join 104 = .ok (.ireturn, 1) := by decide +kernel
theorem dX7_join_105 : decode cX7_join 105 = .ok (.iload_n 2, 1) := by decide +kernel
theorem dX7_join_106 : decode cX7_join 106 = .ok (.ifCond .ne 7, 3) := by decide +kernel
theorem dX7_join_109 : decode cX7_join 109 = .ok (.iconst 0, 1) := by decide +kernel
theorem dX7_join_110 : decode cX7_join 110 = .ok (.goto 6, 3) := by decide +kernel
theorem dX7_join_113 : decode cX7_join 113 = .ok (.iload_n 1, 1) := by decide +kernel
theorem dX7_join_114 : decode cX7_join 114 = .ok (.iload_n 2, 1) := by decide +kernel
theorem dX7_join_115 : decode cX7_join 115 = .ok (.idiv, 1) := by decide +kernel
theorem dX7_join_116 : decode cX7_join 116 = .ok (.ireturn, 1) := by decide +kernel
theorem dX7_names_0 : decode cX7_names 0 = .ok (.iload_n 0, 1) := by decide +kernel
theorem dX7_names_1 : decode cX7_names 1 = .ok (.tableswitch 101 99 119 #[99, 99, 101, 101, 99, 101, 101, 101, 101, 101, 101, 99, 101, 101, 101, 101, 101, 99, 99, 101, 99], 99) := by decide +kernel
theorem dX7_names_100 : decode cX7_names 100 = .ok (.iconst 1, 1) := by decide +kernel
theorem dX7_names_101 : decode cX7_names 101 = .ok (.ireturn, 1) := by decide +kernel
theorem dX7_names_102 : decode cX7_names 102 = .ok (.iconst 0, 1) := by decide +kernel
theorem dX7_names_103 : decode cX7_names 103 = .ok (.ireturn, 1) := by decide +kernel
theorem dX7_named_0 : decode cX7_named 0 = .ok (.iload_n 0, 1) := by decide +kernel
theorem dX7_named_1 : decode cX7_named 1 = .ok (.tableswitch 144 99 119 #[107, 118, 144, 144, 132, 144, 144, 144, 144, 144, 144, 99, 144, 144, 144, 144, 144, 137, 112, 144, 124], 99) := by decide +kernel
theorem dX7_named_100 : decode cX7_named 100 = .ok (.aload_n 1, 1) := by decide +kernel
theorem dX7_named_101 : decode cX7_named 101 = .ok (.getfield 49, 3) := by decide +kernel
theorem dX7_named_104 : decode cX7_named 104 = .ok (.bipush 7, 2) := by decide +kernel
theorem dX7_named_106 : decode cX7_named 106 = .ok (.irem, 1) := by decide +kernel
theorem dX7_named_107 : decode cX7_named 107 = .ok (.ireturn, 1) := by decide +kernel
theorem dX7_named_108 : decode cX7_named 108 = .ok (.aload_n 1, 1) := by decide +kernel
theorem dX7_named_109 : decode cX7_named 109 = .ok (.getfield 54, 3) := by decide +kernel
theorem dX7_named_112 : decode cX7_named 112 = .ok (.ireturn, 1) := by decide +kernel
theorem dX7_named_113 : decode cX7_named 113 = .ok (.aload_n 1, 1) := by decide +kernel
theorem dX7_named_114 : decode cX7_named 114 = .ok (.iconst 0, 1) := by decide +kernel
theorem dX7_named_115 : decode cX7_named 115 = .ok (.invokevirtual 57, 3) := by decide +kernel
theorem dX7_named_118 : decode cX7_named 118 = .ok (.ireturn, 1) := by decide +kernel
theorem dX7_named_119 : decode cX7_named 119 = .ok (.aload_n 1, 1) := by decide +kernel
theorem dX7_named_120 : decode cX7_named 120 = .ok (.iconst 1, 1) := by decide +kernel
theorem dX7_named_121 : decode cX7_named 121 = .ok (.invokevirtual 57, 3) := by decide +kernel
theorem dX7_named_124 : decode cX7_named 124 = .ok (.ireturn, 1) := by decide +kernel
theorem dX7_named_125 : decode cX7_named 125 = .ok (.aload_n 1, 1) := by decide +kernel
theorem dX7_named_126 : decode cX7_named 126 = .ok (.iconst 0, 1) := by decide +kernel
theorem dX7_named_127 : decode cX7_named 127 = .ok (.bipush 31, 2) := by decide +kernel
theorem dX7_named_129 : decode cX7_named 129 = .ok (.invokevirtual 61, 3) := by decide +kernel
theorem dX7_named_132 : decode cX7_named 132 = .ok (.ireturn, 1) := by decide +kernel
theorem dX7_named_133 : decode cX7_named 133 = .ok (.aload_n 1, 1) := by decide +kernel
theorem dX7_named_134 : decode cX7_named 134 = .ok (.getfield 64, 3) := by decide +kernel
theorem dX7_named_137 : decode cX7_named 137 = .ok (.ireturn, 1) := by decide +kernel
theorem dX7_named_138 : decode cX7_named 138 = .ok (.aload_n 1, 1) := by decide +kernel
theorem dX7_named_139 : decode cX7_named 139 = .ok (.getfield 67, 3) := by decide +kernel
theorem dX7_named_142 : decode cX7_named 142 = .ok (.iconst 5, 1) := by decide +kernel
theorem dX7_named_143 : decode cX7_named 143 = .ok (.irem, 1) := by decide +kernel
theorem dX7_named_144 : decode cX7_named 144 = .ok (.ireturn, 1) := by decide +kernel
theorem dX7_named_145 : decode cX7_named 145 = .ok (.iconst 0, 1) := by decide +kernel
theorem dX7_named_146 : decode cX7_named 146 = .ok (.ireturn, 1) := by decide +kernel
theorem dX8_init_0 : decode cX8_init 0 = .ok (.aload_n 0, 1) := by decide +kernel
theorem dX8_init_1 : decode cX8_init 1 = .ok (.invokespecial 3, 3) := by decide +kernel
theorem dX8_init_4 : decode cX8_init 4 = .ok (.aload_n 0, 1) := by decide +kernel
theorem dX8_init_5 : decode cX8_init 5 = .ok (.bipush 40, 2) := by decide +kernel
theorem dX8_init_7 : decode cX8_init 7 = .ok (.newarray .int, 2) := by decide +kernel
theorem dX8_init_9 : decode cX8_init 9 = .ok (.putfield 11, 3) := by decide +kernel
theorem dX8_init_12 : decode cX8_init 12 = .ok (.aload_n 0, 1) := by decide +kernel
theorem dX8_init_13 : decode cX8_init 13 = .ok (.aload_n 1, 1) := by decide +kernel
theorem dX8_init_14 : decode cX8_init 14 = .ok (.putfield 17, 3) := by decide +kernel
theorem dX8_init_17 : decode cX8_init 17 = .ok (.aload_n 0, 1) := by decide +kernel
theorem dX8_init_18 : decode cX8_init 18 = .ok (.aload_n 2, 1) := by decide +kernel
theorem dX8_init_19 : decode cX8_init 19 = .ok (.putfield 21, 3) := by decide +kernel
theorem dX8_init_22 : decode cX8_init 22 = .ok (.return_, 1) := by decide +kernel
theorem dX8_read_0 : decode cX8_read 0 = .ok (.aload_n 0, 1) := by decide +kernel
theorem dX8_read_1 : decode cX8_read 1 = .ok (.getfield 21, 3) := by decide +kernel
theorem dX8_read_4 : decode cX8_read 4 = .ok (.invokevirtual 25, 3) := by decide +kernel
theorem dX8_read_7 : decode cX8_read 7 = .ok (.aload_n 0, 1) := by decide +kernel
theorem dX8_read_8 : decode cX8_read 8 = .ok (.getfield 17, 3) := by decide +kernel
theorem dX8_read_11 : decode cX8_read 11 = .ok (.invokevirtual 28, 3) := by decide +kernel
theorem dX8_read_14 : decode cX8_read 14 = .ok (.ifCond .ne 5, 3) := by decide +kernel
theorem dX8_read_17 : decode cX8_read 17 = .ok (.iconst (-1), 1) := by decide +kernel
theorem dX8_read_18 : decode cX8_read 18 = .ok (.ireturn, 1) := by decide +kernel
theorem dX8_read_19 : decode cX8_read 19 = .ok (.aload_n 0, 1) := by decide +kernel
theorem dX8_read_20 : decode cX8_read 20 = .ok (.iconst 0, 1) := by decide +kernel
theorem dX8_read_21 : decode cX8_read 21 = .ok (.putfield 34, 3) := by decide +kernel
theorem dX8_read_24 : decode cX8_read 24 = .ok (.aload_n 0, 1) := by decide +kernel
theorem dX8_read_25 : decode cX8_read 25 = .ok (.iconst 0, 1) := by decide +kernel
theorem dX8_read_26 : decode cX8_read 26 = .ok (.putfield 38, 3) := by decide +kernel
theorem dX8_read_29 : decode cX8_read 29 = .ok (.aload_n 0, 1) := by decide +kernel
theorem dX8_read_30 : decode cX8_read 30 = .ok (.iconst 0, 1) := by decide +kernel
theorem dX8_read_31 : decode cX8_read 31 = .ok (.putfield 41, 3) := by decide +kernel
theorem dX8_read_34 : decode cX8_read 34 = .ok (.aload_n 0, 1) := by decide +kernel
theorem dX8_read_35 : decode cX8_read 35 = .ok (.iconst 0, 1) := by decide +kernel
theorem dX8_read_36 : decode cX8_read 36 = .ok (.putfield 44, 3) := by decide +kernel
theorem dX8_read_39 : decode cX8_read 39 = .ok (.aload_n 0, 1) := by decide +kernel
theorem dX8_read_40 : decode cX8_read 40 = .ok (.iconst 1, 1) := by decide +kernel
theorem dX8_read_41 : decode cX8_read 41 = .ok (.putfield 47, 3) := by decide +kernel
theorem dX8_read_44 : decode cX8_read 44 = .ok (.aload_n 0, 1) := by decide +kernel
theorem dX8_read_45 : decode cX8_read 45 = .ok (.getfield 17, 3) := by decide +kernel
theorem dX8_read_48 : decode cX8_read 48 = .ok (.invokevirtual 28, 3) := by decide +kernel
theorem dX8_read_51 : decode cX8_read 51 = .ok (.bipush 40, 2) := by decide +kernel
theorem dX8_read_53 : decode cX8_read 53 = .ok (.invokestatic 51, 3) := by decide +kernel
theorem dX8_read_56 : decode cX8_read 56 = .ok (.istore_n 1, 1) := by decide +kernel
theorem dX8_read_57 : decode cX8_read 57 = .ok (.iconst 0, 1) := by decide +kernel
theorem dX8_read_58 : decode cX8_read 58 = .ok (.istore_n 2, 1) := by decide +kernel
theorem dX8_read_59 : decode cX8_read 59 = .ok (.iload_n 2, 1) := by decide +kernel
theorem dX8_read_60 : decode cX8_read 60 = .ok (.bipush 40, 2) := by decide +kernel
theorem dX8_read_62 : decode cX8_read 62 = .ok (.if_icmp .ge 67, 3) := by decide +kernel
theorem dX8_read_65 : decode cX8_read 65 = .ok (.aload_n 0, 1) := by decide +kernel
theorem dX8_read_66 : decode cX8_read 66 = .ok (.getfield 38, 3) := by decide +kernel
theorem dX8_read_69 : decode cX8_read 69 = .ok (.iload_n 1, 1) := by decide +kernel
theorem dX8_read_70 : decode cX8_read 70 = .ok (.if_icmp .ge 59, 3) := by decide +kernel
theorem dX8_read_73 : decode cX8_read 73 = .ok (.aload_n 0, 1) := by decide +kernel
theorem dX8_read_74 : decode cX8_read 74 = .ok (.getfield 47, 3) := by decide +kernel
theorem dX8_read_77 : decode cX8_read 77 = .ok (.ifCond .eq 21, 3) := by decide +kernel
theorem dX8_read_80 : decode cX8_read 80 = .ok (.aload_n 0, 1) := by decide +kernel
theorem dX8_read_81 : decode cX8_read 81 = .ok (.aload_n 0, 1) := by decide +kernel
theorem dX8_read_82 : decode cX8_read 82 = .ok (.getfield 17, 3) := by decide +kernel
theorem dX8_read_85 : decode cX8_read 85 = .ok (.aload_n 0, 1) := by decide +kernel
theorem dX8_read_86 : decode cX8_read 86 = .ok (.getfield 38, 3) := by decide +kernel
theorem dX8_read_89 : decode cX8_read 89 = .ok (.invokevirtual 57, 3) := by decide +kernel
theorem dX8_read_92 : decode cX8_read 92 = .ok (.invokevirtual 61, 3) := by decide +kernel
theorem dX8_read_95 : decode cX8_read 95 = .ok (.goto 18, 3) := by decide +kernel
theorem dX8_read_98 : decode cX8_read 98 = .ok (.aload_n 0, 1) := by decide +kernel
theorem dX8_read_99 : decode cX8_read 99 = .ok (.aload_n 0, 1) := by decide +kernel
theorem dX8_read_100 : decode cX8_read 100 = .ok (.getfield 17, 3) := by decide +kernel
theorem dX8_read_103 : decode cX8_read 103 = .ok (.aload_n 0, 1) := by decide +kernel
theorem dX8_read_104 : decode cX8_read 104 = .ok (.getfield 38, 3) := by decide +kernel
theorem dX8_read_107 : decode cX8_read 107 = .ok (.invokevirtual 57, 3) := by decide +kernel
theorem dX8_read_110 : decode cX8_read 110 = .ok (.invokevirtual 65, 3) := by decide +kernel
theorem dX8_read_113 : decode cX8_read 113 = .ok (.istore_n 3, 1) := by decide +kernel
theorem dX8_read_114 : decode cX8_read 114 = .ok (.iload_n 3, 1) := by decide +kernel
theorem dX8_read_115 : decode cX8_read 115 = .ok (.ifCond .ne 8, 3) := by decide +kernel
theorem dX8_read_118 : decode cX8_read 118 = .ok (.aload_n 0, 1) := by decide +kernel
theorem dX8_read_119 : decode cX8_read 119 = .ok (.getfield 38, 3) := by decide +kernel
theorem dX8_read_122 : decode cX8_read 122 = .ok (.ireturn, 1) := by decide +kernel
theorem dX8_read_123 : decode cX8_read 123 = .ok (.iinc 2 1, 3) := by decide +kernel
theorem dX8_read_126 : decode cX8_read 126 = .ok (.goto (-67), 3) := by decide +kernel
theorem dX8_read_129 : decode cX8_read 129 = .ok (.aload_n 0, 1) := by decide +kernel
theorem dX8_read_130 : decode cX8_read 130 = .ok (.getfield 47, 3) := by decide +kernel
theorem dX8_read_133 : decode cX8_read 133 = .ok (.ifCond .ne 21, 3) := by decide +kernel
theorem dX8_read_136 : decode cX8_read 136 = .ok (.aload_n 0, 1) := by decide +kernel
theorem dX8_read_137 : decode cX8_read 137 = .ok (.getfield 41, 3) := by decide +kernel
theorem dX8_read_140 : decode cX8_read 140 = .ok (.ifCond .gt 14, 3) := by decide +kernel
theorem dX8_read_143 : decode cX8_read 143 = .ok (.aload_n 0, 1) := by decide +kernel
theorem dX8_read_144 : decode cX8_read 144 = .ok (.getfield 17, 3) := by decide +kernel
theorem dX8_read_147 : decode cX8_read 147 = .ok (.invokevirtual 28, 3) := by decide +kernel
theorem dX8_read_150 : decode cX8_read 150 = .ok (.iload_n 1, 1) := by decide +kernel
theorem dX8_read_151 : decode cX8_read 151 = .ok (.if_icmp .le 5, 3) := by decide +kernel
theorem dX8_read_154 : decode cX8_read 154 = .ok (.iload_n 1, 1) := by decide +kernel
theorem dX8_read_155 : decode cX8_read 155 = .ok (.ireturn, 1) := by decide +kernel
theorem dX8_read_156 : decode cX8_read 156 = .ok (.aload_n 0, 1) := by decide +kernel
theorem dX8_read_157 : decode cX8_read 157 = .ok (.iconst 1, 1) := by decide +kernel
theorem dX8_read_158 : decode cX8_read 158 = .ok (.invokevirtual 68, 3) := by decide +kernel
theorem dX8_read_161 : decode cX8_read 161 = .ok (.iconst (-1), 1) := by decide +kernel
theorem dX8_read_162 : decode cX8_read 162 = .ok (.ireturn, 1) := by decide +kernel
theorem dX8_takeThing_0 : decode cX8_takeThing 0 = .ok (.iload_n 1, 1) := by decide +kernel
theorem dX8_takeThing_1 : decode cX8_takeThing 1 = .ok (.invokestatic 72, 3) := by decide +kernel
theorem dX8_takeThing_4 : decode cX8_takeThing 4 = .ok (.ifCond .eq 14, 3) := by decide +kernel
theorem dX8_takeThing_7 : decode cX8_takeThing 7 = .ok (.aload_n 0, 1) := by decide +kernel
theorem dX8_takeThing_8 : decode cX8_takeThing 8 = .ok (.invokevirtual 75, 3) := by decide +kernel
theorem dX8_takeThing_11 : decode cX8_takeThing 11 = .ok (.aload_n 0, 1) := by decide +kernel
theorem dX8_takeThing_12 : decode cX8_takeThing 12 = .ok (.iconst 0, 1) := by decide +kernel
theorem dX8_takeThing_13 : decode cX8_takeThing 13 = .ok (.putfield 47, 3) := by decide +kernel
theorem dX8_takeThing_16 : decode cX8_takeThing 16 = .ok (.iconst 1, 1) := by decide +kernel
theorem dX8_takeThing_17 : decode cX8_takeThing 17 = .ok (.ireturn, 1) := by decide +kernel
theorem dX8_takeThing_18 : decode cX8_takeThing 18 = .ok (.iload_n 1, 1) := by decide +kernel
theorem dX8_takeThing_19 : decode cX8_takeThing 19 = .ok (.invokestatic 78, 3) := by decide +kernel
theorem dX8_takeThing_22 : decode cX8_takeThing 22 = .ok (.ifCond .eq 20, 3) := by decide +kernel
theorem dX8_takeThing_25 : decode cX8_takeThing 25 = .ok (.aload_n 0, 1) := by decide +kernel
theorem dX8_takeThing_26 : decode cX8_takeThing 26 = .ok (.getfield 21, 3) := by decide +kernel
theorem dX8_takeThing_29 : decode cX8_takeThing 29 = .ok (.iload_n 1, 1) := by decide +kernel
theorem dX8_takeThing_30 : decode cX8_takeThing 30 = .ok (.ineg, 1) := by decide +kernel
theorem dX8_takeThing_31 : decode cX8_takeThing 31 = .ok (.invokevirtual 81, 3) := by decide +kernel
theorem dX8_takeThing_34 : decode cX8_takeThing 34 = .ok (.aload_n 0, 1) := by decide +kernel
theorem dX8_takeThing_35 : decode cX8_takeThing 35 = .ok (.iconst 0, 1) := by decide +kernel
theorem dX8_takeThing_36 : decode cX8_takeThing 36 = .ok (.putfield 47, 3) := by decide +kernel
theorem dX8_takeThing_39 : decode cX8_takeThing 39 = .ok (.goto 68, 3) := by decide +kernel
theorem dX8_takeThing_42 : decode cX8_takeThing 42 = .ok (.iload_n 1, 1) := by decide +kernel
theorem dX8_takeThing_43 : decode cX8_takeThing 43 = .ok (.bipush 45, 2) := by decide +kernel
theorem dX8_takeThing_45 : decode cX8_takeThing 45 = .ok (.if_icmp .ne 11, 3) := by decide +kernel
theorem dX8_takeThing_48 : decode cX8_takeThing 48 = .ok (.aload_n 0, 1) := by decide +kernel
theorem dX8_takeThing_49 : decode cX8_takeThing 49 = .ok (.iconst (-1), 1) := by decide +kernel
theorem dX8_takeThing_50 : decode cX8_takeThing 50 = .ok (.invokevirtual 84, 3) := by decide +kernel
theorem dX8_takeThing_53 : decode cX8_takeThing 53 = .ok (.goto 54, 3) := by decide +kernel
theorem dX8_takeThing_56 : decode cX8_takeThing 56 = .ok (.iload_n 1, 1) := by decide +kernel
theorem dX8_takeThing_57 : decode cX8_takeThing 57 = .ok (.bipush 40, 2) := by decide +kernel
theorem dX8_takeThing_59 : decode cX8_takeThing 59 = .ok (.if_icmp .ne 46, 3) := by decide +kernel
theorem dX8_takeThing_62 : decode cX8_takeThing 62 = .ok (.aload_n 0, 1) := by decide +kernel
theorem dX8_takeThing_63 : decode cX8_takeThing 63 = .ok (.getfield 41, 3) := by decide +kernel
theorem dX8_takeThing_66 : decode cX8_takeThing 66 = .ok (.iconst 4, 1) := by decide +kernel
theorem dX8_takeThing_67 : decode cX8_takeThing 67 = .ok (.if_icmp .ge 38, 3) := by decide +kernel
theorem dX8_takeThing_70 : decode cX8_takeThing 70 = .ok (.aload_n 0, 1) := by decide +kernel
theorem dX8_takeThing_71 : decode cX8_takeThing 71 = .ok (.iload_n 1, 1) := by decide +kernel
theorem dX8_takeThing_72 : decode cX8_takeThing 72 = .ok (.invokevirtual 84, 3) := by decide +kernel
theorem dX8_takeThing_75 : decode cX8_takeThing 75 = .ok (.aload_n 0, 1) := by decide +kernel
theorem dX8_takeThing_76 : decode cX8_takeThing 76 = .ok (.dup, 1) := by decide +kernel
theorem dX8_takeThing_77 : decode cX8_takeThing 77 = .ok (.getfield 41, 3) := by decide +kernel
theorem dX8_takeThing_80 : decode cX8_takeThing 80 = .ok (.iconst 1, 1) := by decide +kernel
theorem dX8_takeThing_81 : decode cX8_takeThing 81 = .ok (.iadd, 1) := by decide +kernel
theorem dX8_takeThing_82 : decode cX8_takeThing 82 = .ok (.putfield 41, 3) := by decide +kernel
theorem dX8_takeThing_85 : decode cX8_takeThing 85 = .ok (.aload_n 0, 1) := by decide +kernel
theorem dX8_takeThing_86 : decode cX8_takeThing 86 = .ok (.dup, 1) := by decide +kernel
theorem dX8_takeThing_87 : decode cX8_takeThing 87 = .ok (.getfield 44, 3) := by decide +kernel
theorem dX8_takeThing_90 : decode cX8_takeThing 90 = .ok (.iconst 1, 1) := by decide +kernel
theorem dX8_takeThing_91 : decode cX8_takeThing 91 = .ok (.aload_n 0, 1) := by decide +kernel
theorem dX8_takeThing_92 : decode cX8_takeThing 92 = .ok (.getfield 41, 3) := by decide +kernel
theorem dX8_takeThing_95 : decode cX8_takeThing 95 = .ok (.ishl, 1) := by decide +kernel
theorem dX8_takeThing_96 : decode cX8_takeThing 96 = .ok (.iconst (-1), 1) := by decide +kernel
theorem dX8_takeThing_97 : decode cX8_takeThing 97 = .ok (.ixor, 1) := by decide +kernel
theorem dX8_takeThing_98 : decode cX8_takeThing 98 = .ok (.iand, 1) := by decide +kernel
theorem dX8_takeThing_99 : decode cX8_takeThing 99 = .ok (.putfield 44, 3) := by decide +kernel
theorem dX8_takeThing_102 : decode cX8_takeThing 102 = .ok (.goto 5, 3) := by decide +kernel
theorem dX8_takeThing_105 : decode cX8_takeThing 105 = .ok (.iconst 0, 1) := by decide +kernel
theorem dX8_takeThing_106 : decode cX8_takeThing 106 = .ok (.ireturn, 1) := by decide +kernel
theorem dX8_takeThing_107 : decode cX8_takeThing 107 = .ok (.aload_n 0, 1) := by decide +kernel
theorem dX8_takeThing_108 : decode cX8_takeThing 108 = .ok (.dup, 1) := by decide +kernel
theorem dX8_takeThing_109 : decode cX8_takeThing 109 = .ok (.getfield 38, 3) := by decide +kernel
theorem dX8_takeThing_112 : decode cX8_takeThing 112 = .ok (.iconst 1, 1) := by decide +kernel
theorem dX8_takeThing_113 : decode cX8_takeThing 113 = .ok (.iadd, 1) := by decide +kernel
theorem dX8_takeThing_114 : decode cX8_takeThing 114 = .ok (.putfield 38, 3) := by decide +kernel
theorem dX8_takeThing_117 : decode cX8_takeThing 117 = .ok (.iconst 1, 1) := by decide +kernel
theorem dX8_takeThing_118 : decode cX8_takeThing 118 = .ok (.ireturn, 1) := by decide +kernel
theorem dX8_takeNumber_0 : decode cX8_takeNumber 0 = .ok (.iconst 0, 1) := by decide +kernel
theorem dX8_takeNumber_1 : decode cX8_takeNumber 1 = .ok (.istore_n 1, 1) := by decide +kernel
theorem dX8_takeNumber_2 : decode cX8_takeNumber 2 = .ok (.iconst 0, 1) := by decide +kernel
theorem dX8_takeNumber_3 : decode cX8_takeNumber 3 = .ok (.istore_n 2, 1) := by decide +kernel
theorem dX8_takeNumber_4 : decode cX8_takeNumber 4 = .ok (.iload_n 2, 1) := by decide +kernel
theorem dX8_takeNumber_5 : decode cX8_takeNumber 5 = .ok (.iconst 3, 1) := by decide +kernel
theorem dX8_takeNumber_6 : decode cX8_takeNumber 6 = .ok (.if_icmp .ge 65, 3) := by decide +kernel
theorem dX8_takeNumber_9 : decode cX8_takeNumber 9 = .ok (.aload_n 0, 1) := by decide +kernel
theorem dX8_takeNumber_10 : decode cX8_takeNumber 10 = .ok (.getfield 38, 3) := by decide +kernel
theorem dX8_takeNumber_13 : decode cX8_takeNumber 13 = .ok (.bipush 40, 2) := by decide +kernel
theorem dX8_takeNumber_15 : decode cX8_takeNumber 15 = .ok (.if_icmp .ge 56, 3) := by decide +kernel
theorem dX8_takeNumber_18 : decode cX8_takeNumber 18 = .ok (.aload_n 0, 1) := by decide +kernel
theorem dX8_takeNumber_19 : decode cX8_takeNumber 19 = .ok (.getfield 17, 3) := by decide +kernel
theorem dX8_takeNumber_22 : decode cX8_takeNumber 22 = .ok (.aload_n 0, 1) := by decide +kernel
theorem dX8_takeNumber_23 : decode cX8_takeNumber 23 = .ok (.getfield 38, 3) := by decide +kernel
theorem dX8_takeNumber_26 : decode cX8_takeNumber 26 = .ok (.invokevirtual 57, 3) := by decide +kernel
theorem dX8_takeNumber_29 : decode cX8_takeNumber 29 = .ok (.invokestatic 72, 3) := by decide +kernel
theorem dX8_takeNumber_32 : decode cX8_takeNumber 32 = .ok (.ifCond .eq 39, 3) := by decide +kernel
theorem dX8_takeNumber_35 : decode cX8_takeNumber 35 = .ok (.bipush 10, 2) := by decide +kernel
theorem dX8_takeNumber_37 : decode cX8_takeNumber 37 = .ok (.iload_n 1, 1) := by decide +kernel
theorem dX8_takeNumber_38 : decode cX8_takeNumber 38 = .ok (.imul, 1) := by decide +kernel
theorem dX8_takeNumber_39 : decode cX8_takeNumber 39 = .ok (.aload_n 0, 1) := by decide +kernel
theorem dX8_takeNumber_40 : decode cX8_takeNumber 40 = .ok (.getfield 17, 3) := by decide +kernel
theorem dX8_takeNumber_43 : decode cX8_takeNumber 43 = .ok (.aload_n 0, 1) := by decide +kernel
theorem dX8_takeNumber_44 : decode cX8_takeNumber 44 = .ok (.getfield 38, 3) := by decide +kernel
theorem dX8_takeNumber_47 : decode cX8_takeNumber 47 = .ok (.invokevirtual 57, 3) := by decide +kernel
theorem dX8_takeNumber_50 : decode cX8_takeNumber 50 = .ok (.iadd, 1) := by decide +kernel
theorem dX8_takeNumber_51 : decode cX8_takeNumber 51 = .ok (.bipush 48, 2) := by decide +kernel
theorem dX8_takeNumber_53 : decode cX8_takeNumber 53 = .ok (.isub, 1) := by decide +kernel
theorem dX8_takeNumber_54 : decode cX8_takeNumber 54 = .ok (.istore_n 1, 1) := by decide +kernel
theorem dX8_takeNumber_55 : decode cX8_takeNumber 55 = .ok (.aload_n 0, 1) := by decide +kernel
theorem dX8_takeNumber_56 : decode cX8_takeNumber 56 = .ok (.dup, 1) := by decide +kernel
theorem dX8_takeNumber_57 : decode cX8_takeNumber 57 = .ok (.getfield 38, 3) := by decide +kernel
theorem dX8_takeNumber_60 : decode cX8_takeNumber 60 = .ok (.iconst 1, 1) := by decide +kernel
theorem dX8_takeNumber_61 : decode cX8_takeNumber 61 = .ok (.iadd, 1) := by decide +kernel
theorem dX8_takeNumber_62 : decode cX8_takeNumber 62 = .ok (.putfield 38, 3) := by decide +kernel
theorem dX8_takeNumber_65 : decode cX8_takeNumber 65 = .ok (.iinc 2 1, 3) := by decide +kernel
theorem dX8_takeNumber_68 : decode cX8_takeNumber 68 = .ok (.goto (-64), 3) := by decide +kernel
theorem dX8_takeNumber_71 : decode cX8_takeNumber 71 = .ok (.aload_n 0, 1) := by decide +kernel
theorem dX8_takeNumber_72 : decode cX8_takeNumber 72 = .ok (.getfield 21, 3) := by decide +kernel
theorem dX8_takeNumber_75 : decode cX8_takeNumber 75 = .ok (.iload_n 1, 1) := by decide +kernel
theorem dX8_takeNumber_76 : decode cX8_takeNumber 76 = .ok (.invokevirtual 81, 3) := by decide +kernel
theorem dX8_takeNumber_79 : decode cX8_takeNumber 79 = .ok (.return_, 1) := by decide +kernel
theorem dX8_takeJoin_0 : decode cX8_takeJoin 0 = .ok (.iload_n 1, 1) := by decide +kernel
theorem dX8_takeJoin_1 : decode cX8_takeJoin 1 = .ok (.ineg, 1) := by decide +kernel
theorem dX8_takeJoin_2 : decode cX8_takeJoin 2 = .ok (.invokestatic 87, 3) := by decide +kernel
theorem dX8_takeJoin_5 : decode cX8_takeJoin 5 = .ok (.iconst 1, 1) := by decide +kernel
theorem dX8_takeJoin_6 : decode cX8_takeJoin 6 = .ok (.if_icmp .ne 7, 3) := by decide +kernel
theorem dX8_takeJoin_9 : decode cX8_takeJoin 9 = .ok (.iconst 1, 1) := by decide +kernel
theorem dX8_takeJoin_10 : decode cX8_takeJoin 10 = .ok (.goto 4, 3) := by decide +kernel
theorem dX8_takeJoin_13 : decode cX8_takeJoin 13 = .ok (.iconst 0, 1) := by decide +kernel
theorem dX8_takeJoin_14 : decode cX8_takeJoin 14 = .ok (.istore_n 2, 1) := by decide +kernel
theorem dX8_takeJoin_15 : decode cX8_takeJoin 15 = .ok (.aload_n 0, 1) := by decide +kernel
theorem dX8_takeJoin_16 : decode cX8_takeJoin 16 = .ok (.getfield 44, 3) := by decide +kernel
theorem dX8_takeJoin_19 : decode cX8_takeJoin 19 = .ok (.aload_n 0, 1) := by decide +kernel
theorem dX8_takeJoin_20 : decode cX8_takeJoin 20 = .ok (.getfield 41, 3) := by decide +kernel
theorem dX8_takeJoin_23 : decode cX8_takeJoin 23 = .ok (.ishr, 1) := by decide +kernel
theorem dX8_takeJoin_24 : decode cX8_takeJoin 24 = .ok (.iconst 1, 1) := by decide +kernel
theorem dX8_takeJoin_25 : decode cX8_takeJoin 25 = .ok (.iand, 1) := by decide +kernel
theorem dX8_takeJoin_26 : decode cX8_takeJoin 26 = .ok (.iconst 1, 1) := by decide +kernel
theorem dX8_takeJoin_27 : decode cX8_takeJoin 27 = .ok (.if_icmp .ne 7, 3) := by decide +kernel
theorem dX8_takeJoin_30 : decode cX8_takeJoin 30 = .ok (.iconst 1, 1) := by decide +kernel
theorem dX8_takeJoin_31 : decode cX8_takeJoin 31 = .ok (.goto 4, 3) := by decide +kernel
theorem dX8_takeJoin_34 : decode cX8_takeJoin 34 = .ok (.iconst 0, 1) := by decide +kernel
theorem dX8_takeJoin_35 : decode cX8_takeJoin 35 = .ok (.istore_n 3, 1) := by decide +kernel
theorem dX8_takeJoin_36 : decode cX8_takeJoin 36 = .ok (.iload_n 1, 1) := by decide +kernel
theorem dX8_takeJoin_37 : decode cX8_takeJoin 37 = .ok (.bipush 41, 2) := by decide +kernel
theorem dX8_takeJoin_39 : decode cX8_takeJoin 39 = .ok (.if_icmp .ne 22, 3) := by decide +kernel
theorem dX8_takeJoin_42 : decode cX8_takeJoin 42 = .ok (.aload_n 0, 1) := by decide +kernel
theorem dX8_takeJoin_43 : decode cX8_takeJoin 43 = .ok (.getfield 41, 3) := by decide +kernel
theorem dX8_takeJoin_46 : decode cX8_takeJoin 46 = .ok (.ifCond .le 15, 3) := by decide +kernel
theorem dX8_takeJoin_49 : decode cX8_takeJoin 49 = .ok (.aload_n 0, 1) := by decide +kernel
theorem dX8_takeJoin_50 : decode cX8_takeJoin 50 = .ok (.iconst 1, 1) := by decide +kernel
theorem dX8_takeJoin_51 : decode cX8_takeJoin 51 = .ok (.invokevirtual 68, 3) := by decide +kernel
theorem dX8_takeJoin_54 : decode cX8_takeJoin 54 = .ok (.aload_n 0, 1) := by decide +kernel
theorem dX8_takeJoin_55 : decode cX8_takeJoin 55 = .ok (.invokevirtual 90, 3) := by decide +kernel
theorem dX8_takeJoin_58 : decode cX8_takeJoin 58 = .ok (.goto 66, 3) := by decide +kernel
theorem dX8_takeJoin_61 : decode cX8_takeJoin 61 = .ok (.iload_n 1, 1) := by decide +kernel
theorem dX8_takeJoin_62 : decode cX8_takeJoin 62 = .ok (.invokestatic 93, 3) := by decide +kernel
theorem dX8_takeJoin_65 : decode cX8_takeJoin 65 = .ok (.ifCond .eq 57, 3) := by decide +kernel
theorem dX8_takeJoin_68 : decode cX8_takeJoin 68 = .ok (.iload_n 2, 1) := by decide +kernel
theorem dX8_takeJoin_69 : decode cX8_takeJoin 69 = .ok (.ifCond .eq 7, 3) := by decide +kernel
theorem dX8_takeJoin_72 : decode cX8_takeJoin 72 = .ok (.iload_n 3, 1) := by decide +kernel
theorem dX8_takeJoin_73 : decode cX8_takeJoin 73 = .ok (.ifCond .ne 49, 3) := by decide +kernel
theorem dX8_takeJoin_76 : decode cX8_takeJoin 76 = .ok (.aload_n 0, 1) := by decide +kernel
theorem dX8_takeJoin_77 : decode cX8_takeJoin 77 = .ok (.iload_n 1, 1) := by decide +kernel
theorem dX8_takeJoin_78 : decode cX8_takeJoin 78 = .ok (.ineg, 1) := by decide +kernel
theorem dX8_takeJoin_79 : decode cX8_takeJoin 79 = .ok (.invokestatic 87, 3) := by decide +kernel
theorem dX8_takeJoin_82 : decode cX8_takeJoin 82 = .ok (.invokevirtual 68, 3) := by decide +kernel
theorem dX8_takeJoin_85 : decode cX8_takeJoin 85 = .ok (.aload_n 0, 1) := by decide +kernel
theorem dX8_takeJoin_86 : decode cX8_takeJoin 86 = .ok (.iload_n 1, 1) := by decide +kernel
theorem dX8_takeJoin_87 : decode cX8_takeJoin 87 = .ok (.ineg, 1) := by decide +kernel
theorem dX8_takeJoin_88 : decode cX8_takeJoin 88 = .ok (.invokevirtual 84, 3) := by decide +kernel
theorem dX8_takeJoin_91 : decode cX8_takeJoin 91 = .ok (.aload_n 0, 1) := by decide +kernel
theorem dX8_takeJoin_92 : decode cX8_takeJoin 92 = .ok (.dup, 1) := by decide +kernel
theorem dX8_takeJoin_93 : decode cX8_takeJoin 93 = .ok (.getfield 44, 3) := by decide +kernel
theorem dX8_takeJoin_96 : decode cX8_takeJoin 96 = .ok (.iload_n 2, 1) := by decide +kernel
theorem dX8_takeJoin_97 : decode cX8_takeJoin 97 = .ok (.ifCond .eq 12, 3) := by decide +kernel
theorem dX8_takeJoin_100 : decode cX8_takeJoin 100 = .ok (.iconst 1, 1) := by decide +kernel
theorem dX8_takeJoin_101 : decode cX8_takeJoin 101 = .ok (.aload_n 0, 1) := by decide +kernel
theorem dX8_takeJoin_102 : decode cX8_takeJoin 102 = .ok (.getfield 41, 3) := by decide +kernel
theorem dX8_takeJoin_105 : decode cX8_takeJoin 105 = .ok (.ishl, 1) := by decide +kernel
theorem dX8_takeJoin_106 : decode cX8_takeJoin 106 = .ok (.goto 4, 3) := by decide +kernel
theorem dX8_takeJoin_109 : decode cX8_takeJoin 109 = .ok (.iconst 0, 1) := by decide +kernel
theorem dX8_takeJoin_110 : decode cX8_takeJoin 110 = .ok (.ior, 1) := by decide +kernel
theorem dX8_takeJoin_111 : decode cX8_takeJoin 111 = .ok (.putfield 44, 3) := by decide +kernel
theorem dX8_takeJoin_114 : decode cX8_takeJoin 114 = .ok (.aload_n 0, 1) := by decide +kernel
theorem dX8_takeJoin_115 : decode cX8_takeJoin 115 = .ok (.iconst 1, 1) := by decide +kernel
theorem dX8_takeJoin_116 : decode cX8_takeJoin 116 = .ok (.putfield 47, 3) := by decide +kernel
theorem dX8_takeJoin_119 : decode cX8_takeJoin 119 = .ok (.goto 5, 3) := by decide +kernel
theorem dX8_takeJoin_122 : decode cX8_takeJoin 122 = .ok (.iconst 0, 1) := by decide +kernel
theorem dX8_takeJoin_123 : decode cX8_takeJoin 123 = .ok (.ireturn, 1) := by decide +kernel
theorem dX8_takeJoin_124 : decode cX8_takeJoin 124 = .ok (.aload_n 0, 1) := by decide +kernel
theorem dX8_takeJoin_125 : decode cX8_takeJoin 125 = .ok (.dup, 1) := by decide +kernel
theorem dX8_takeJoin_126 : decode cX8_takeJoin 126 = .ok (.getfield 38, 3) := by decide +kernel
theorem dX8_takeJoin_129 : decode cX8_takeJoin 129 = .ok (.iconst 1, 1) := by decide +kernel
theorem dX8_takeJoin_130 : decode cX8_takeJoin 130 = .ok (.iadd, 1) := by decide +kernel
theorem dX8_takeJoin_131 : decode cX8_takeJoin 131 = .ok (.putfield 38, 3) := by decide +kernel
theorem dX8_takeJoin_134 : decode cX8_takeJoin 134 = .ok (.iconst 1, 1) := by decide +kernel
theorem dX8_takeJoin_135 : decode cX8_takeJoin 135 = .ok (.ireturn, 1) := by decide +kernel
theorem dX8_dropBracket_0 : decode cX8_dropBracket 0 = .ok (.aload_n 0, 1) := by decide +kernel
theorem dX8_dropBracket_1 : decode cX8_dropBracket 1 = .ok (.dup, 1) := by decide +kernel
theorem dX8_dropBracket_2 : decode cX8_dropBracket 2 = .ok (.getfield 41, 3) := by decide +kernel
theorem dX8_dropBracket_5 : decode cX8_dropBracket 5 = .ok (.iconst 1, 1) := by decide +kernel
theorem dX8_dropBracket_6 : decode cX8_dropBracket 6 = .ok (.isub, 1) := by decide +kernel
theorem dX8_dropBracket_7 : decode cX8_dropBracket 7 = .ok (.putfield 41, 3) := by decide +kernel
theorem dX8_dropBracket_10 : decode cX8_dropBracket 10 = .ok (.aload_n 0, 1) := by decide +kernel
theorem dX8_dropBracket_11 : decode cX8_dropBracket 11 = .ok (.getfield 34, 3) := by decide +kernel
theorem dX8_dropBracket_14 : decode cX8_dropBracket 14 = .ok (.ifCond .le 13, 3) := by decide +kernel
theorem dX8_dropBracket_17 : decode cX8_dropBracket 17 = .ok (.aload_n 0, 1) := by decide +kernel
theorem dX8_dropBracket_18 : decode cX8_dropBracket 18 = .ok (.dup, 1) := by decide +kernel
theorem dX8_dropBracket_19 : decode cX8_dropBracket 19 = .ok (.getfield 34, 3) := by decide +kernel
theorem dX8_dropBracket_22 : decode cX8_dropBracket 22 = .ok (.iconst 1, 1) := by decide +kernel
theorem dX8_dropBracket_23 : decode cX8_dropBracket 23 = .ok (.isub, 1) := by decide +kernel
theorem dX8_dropBracket_24 : decode cX8_dropBracket 24 = .ok (.putfield 34, 3) := by decide +kernel
theorem dX8_dropBracket_27 : decode cX8_dropBracket 27 = .ok (.return_, 1) := by decide +kernel
theorem dX8_putBy_0 : decode cX8_putBy 0 = .ok (.aload_n 0, 1) := by decide +kernel
theorem dX8_putBy_1 : decode cX8_putBy 1 = .ok (.getfield 34, 3) := by decide +kernel
theorem dX8_putBy_4 : decode cX8_putBy 4 = .ok (.bipush 40, 2) := by decide +kernel
theorem dX8_putBy_6 : decode cX8_putBy 6 = .ok (.if_icmp .ge 23, 3) := by decide +kernel
theorem dX8_putBy_9 : decode cX8_putBy 9 = .ok (.aload_n 0, 1) := by decide +kernel
theorem dX8_putBy_10 : decode cX8_putBy 10 = .ok (.getfield 11, 3) := by decide +kernel
theorem dX8_putBy_13 : decode cX8_putBy 13 = .ok (.aload_n 0, 1) := by decide +kernel
theorem dX8_putBy_14 : decode cX8_putBy 14 = .ok (.getfield 34, 3) := by decide +kernel
theorem dX8_putBy_17 : decode cX8_putBy 17 = .ok (.iload_n 1, 1) := by decide +kernel
theorem dX8_putBy_18 : decode cX8_putBy 18 = .ok (.iastore, 1) := by decide +kernel
theorem dX8_putBy_19 : decode cX8_putBy 19 = .ok (.aload_n 0, 1) := by decide +kernel
theorem dX8_putBy_20 : decode cX8_putBy 20 = .ok (.dup, 1) := by decide +kernel
theorem dX8_putBy_21 : decode cX8_putBy 21 = .ok (.getfield 34, 3) := by decide +kernel
theorem dX8_putBy_24 : decode cX8_putBy 24 = .ok (.iconst 1, 1) := by decide +kernel
theorem dX8_putBy_25 : decode cX8_putBy 25 = .ok (.iadd, 1) := by decide +kernel
theorem dX8_putBy_26 : decode cX8_putBy 26 = .ok (.putfield 34, 3) := by decide +kernel
theorem dX8_putBy_29 : decode cX8_putBy 29 = .ok (.return_, 1) := by decide +kernel
theorem dX8_bringBack_0 : decode cX8_bringBack 0 = .ok (.iconst 0, 1) := by decide +kernel
theorem dX8_bringBack_1 : decode cX8_bringBack 1 = .ok (.istore_n 2, 1) := by decide +kernel
theorem dX8_bringBack_2 : decode cX8_bringBack 2 = .ok (.iload_n 2, 1) := by decide +kernel
theorem dX8_bringBack_3 : decode cX8_bringBack 3 = .ok (.bipush 40, 2) := by decide +kernel
theorem dX8_bringBack_5 : decode cX8_bringBack 5 = .ok (.if_icmp .ge 55, 3) := by decide +kernel
theorem dX8_bringBack_8 : decode cX8_bringBack 8 = .ok (.aload_n 0, 1) := by decide +kernel
theorem dX8_bringBack_9 : decode cX8_bringBack 9 = .ok (.getfield 34, 3) := by decide +kernel
theorem dX8_bringBack_12 : decode cX8_bringBack 12 = .ok (.ifCond .le 48, 3) := by decide +kernel
theorem dX8_bringBack_15 : decode cX8_bringBack 15 = .ok (.aload_n 0, 1) := by decide +kernel
theorem dX8_bringBack_16 : decode cX8_bringBack 16 = .ok (.getfield 11, 3) := by decide +kernel
theorem dX8_bringBack_19 : decode cX8_bringBack 19 = .ok (.aload_n 0, 1) := by decide +kernel
theorem dX8_bringBack_20 : decode cX8_bringBack 20 = .ok (.getfield 34, 3) := by decide +kernel
theorem dX8_bringBack_23 : decode cX8_bringBack 23 = .ok (.iconst 1, 1) := by decide +kernel
theorem dX8_bringBack_24 : decode cX8_bringBack 24 = .ok (.isub, 1) := by decide +kernel
theorem dX8_bringBack_25 : decode cX8_bringBack 25 = .ok (.iaload, 1) := by decide +kernel
theorem dX8_bringBack_26 : decode cX8_bringBack 26 = .ok (.istore_n 3, 1) := by decide +kernel
theorem dX8_bringBack_27 : decode cX8_bringBack 27 = .ok (.iload_n 3, 1) := by decide +kernel
theorem dX8_bringBack_28 : decode cX8_bringBack 28 = .ok (.invokestatic 87, 3) := by decide +kernel
theorem dX8_bringBack_31 : decode cX8_bringBack 31 = .ok (.iload_n 1, 1) := by decide +kernel
theorem dX8_bringBack_32 : decode cX8_bringBack 32 = .ok (.if_icmp .ge 4, 3) := by decide +kernel
theorem dX8_bringBack_35 : decode cX8_bringBack 35 = .ok (.return_, 1) := by decide +kernel
theorem dX8_bringBack_36 : decode cX8_bringBack 36 = .ok (.aload_n 0, 1) := by decide +kernel
theorem dX8_bringBack_37 : decode cX8_bringBack 37 = .ok (.getfield 21, 3) := by decide +kernel
theorem dX8_bringBack_40 : decode cX8_bringBack 40 = .ok (.iload_n 3, 1) := by decide +kernel
theorem dX8_bringBack_41 : decode cX8_bringBack 41 = .ok (.invokevirtual 81, 3) := by decide +kernel
theorem dX8_bringBack_44 : decode cX8_bringBack 44 = .ok (.aload_n 0, 1) := by decide +kernel
theorem dX8_bringBack_45 : decode cX8_bringBack 45 = .ok (.dup, 1) := by decide +kernel
theorem dX8_bringBack_46 : decode cX8_bringBack 46 = .ok (.getfield 34, 3) := by decide +kernel
theorem dX8_bringBack_49 : decode cX8_bringBack 49 = .ok (.iconst 1, 1) := by decide +kernel
theorem dX8_bringBack_50 : decode cX8_bringBack 50 = .ok (.isub, 1) := by decide +kernel
theorem dX8_bringBack_51 : decode cX8_bringBack 51 = .ok (.putfield 34, 3) := by decide +kernel
theorem dX8_bringBack_54 : decode cX8_bringBack 54 = .ok (.iinc 2 1, 3) := by decide +kernel
theorem dX8_bringBack_57 : decode cX8_bringBack 57 = .ok (.goto (-55), 3) := by decide +kernel
theorem dX8_bringBack_60 : decode cX8_bringBack 60 = .ok (.return_, 1) := by decide +kernel
theorem dX8_tightness_0 : decode cX8_tightness 0 = .ok (.iload_n 0, 1) := by decide +kernel
theorem dX8_tightness_1 : decode cX8_tightness 1 = .ok (.lookupswitch 83 #[(-62, 81), (-61, 81), (-60, 81), (-47, 77), (-45, 79), (-43, 79), (-42, 77), (-1, 75)], 75) := by decide +kernel
theorem dX8_tightness_76 : decode cX8_tightness 76 = .ok (.iconst 4, 1) := by decide +kernel
theorem dX8_tightness_77 : decode cX8_tightness 77 = .ok (.ireturn, 1) := by decide +kernel
theorem dX8_tightness_78 : decode cX8_tightness 78 = .ok (.iconst 3, 1) := by decide +kernel
theorem dX8_tightness_79 : decode cX8_tightness 79 = .ok (.ireturn, 1) := by decide +kernel
theorem dX8_tightness_80 : decode cX8_tightness 80 = .ok (.iconst 2, 1) := by decide +kernel
theorem dX8_tightness_81 : decode cX8_tightness 81 = .ok (.ireturn, 1) := by decide +kernel
theorem dX8_tightness_82 : decode cX8_tightness 82 = .ok (.iconst 1, 1) := by decide +kernel
theorem dX8_tightness_83 : decode cX8_tightness 83 = .ok (.ireturn, 1) := by decide +kernel
theorem dX8_tightness_84 : decode cX8_tightness 84 = .ok (.iconst 0, 1) := by decide +kernel
theorem dX8_tightness_85 : decode cX8_tightness 85 = .ok (.ireturn, 1) := by decide +kernel
theorem dX9_init_0 : decode cX9_init 0 = .ok (.aload_n 0, 1) := by decide +kernel
theorem dX9_init_1 : decode cX9_init 1 = .ok (.invokespecial 3, 3) := by decide +kernel
theorem dX9_init_4 : decode cX9_init 4 = .ok (.aload_n 0, 1) := by decide +kernel
theorem dX9_init_5 : decode cX9_init 5 = .ok (.bipush 10, 2) := by decide +kernel
theorem dX9_init_7 : decode cX9_init 7 = .ok (.newarray .int, 2) := by decide +kernel
theorem dX9_init_9 : decode cX9_init 9 = .ok (.putfield 9, 3) := by decide +kernel
theorem dX9_init_12 : decode cX9_init 12 = .ok (.aload_n 0, 1) := by decide +kernel
theorem dX9_init_13 : decode cX9_init 13 = .ok (.bipush 10, 2) := by decide +kernel
theorem dX9_init_15 : decode cX9_init 15 = .ok (.newarray .boolean, 2) := by decide +kernel
theorem dX9_init_17 : decode cX9_init 17 = .ok (.putfield 13, 3) := by decide +kernel
theorem dX9_init_20 : decode cX9_init 20 = .ok (.return_, 1) := by decide +kernel
theorem dX9_size_0 : decode cX9_size 0 = .ok (.aload_n 0, 1) := by decide +kernel
theorem dX9_size_1 : decode cX9_size 1 = .ok (.getfield 17, 3) := by decide +kernel
theorem dX9_size_4 : decode cX9_size 4 = .ok (.ireturn, 1) := by decide +kernel
theorem dX9_add_0 : decode cX9_add 0 = .ok (.aload_n 0, 1) := by decide +kernel
theorem dX9_add_1 : decode cX9_add 1 = .ok (.getfield 17, 3) := by decide +kernel
theorem dX9_add_4 : decode cX9_add 4 = .ok (.bipush 10, 2) := by decide +kernel
theorem dX9_add_6 : decode cX9_add 6 = .ok (.if_icmp .lt 5, 3) := by decide +kernel
theorem dX9_add_9 : decode cX9_add 9 = .ok (.iconst 0, 1) := by decide +kernel
theorem dX9_add_10 : decode cX9_add 10 = .ok (.ireturn, 1) := by decide +kernel
theorem dX9_add_11 : decode cX9_add 11 = .ok (.aload_n 0, 1) := by decide +kernel
theorem dX9_add_12 : decode cX9_add 12 = .ok (.getfield 9, 3) := by decide +kernel
theorem dX9_add_15 : decode cX9_add 15 = .ok (.aload_n 0, 1) := by decide +kernel
theorem dX9_add_16 : decode cX9_add 16 = .ok (.getfield 17, 3) := by decide +kernel
theorem dX9_add_19 : decode cX9_add 19 = .ok (.iload_n 1, 1) := by decide +kernel
theorem dX9_add_20 : decode cX9_add 20 = .ok (.iastore, 1) := by decide +kernel
theorem dX9_add_21 : decode cX9_add 21 = .ok (.aload_n 0, 1) := by decide +kernel
theorem dX9_add_22 : decode cX9_add 22 = .ok (.getfield 13, 3) := by decide +kernel
theorem dX9_add_25 : decode cX9_add 25 = .ok (.aload_n 0, 1) := by decide +kernel
theorem dX9_add_26 : decode cX9_add 26 = .ok (.getfield 17, 3) := by decide +kernel
theorem dX9_add_29 : decode cX9_add 29 = .ok (.iload_n 2, 1) := by decide +kernel
theorem dX9_add_30 : decode cX9_add 30 = .ok (.bastore, 1) := by decide +kernel
theorem dX9_add_31 : decode cX9_add 31 = .ok (.aload_n 0, 1) := by decide +kernel
theorem dX9_add_32 : decode cX9_add 32 = .ok (.dup, 1) := by decide +kernel
theorem dX9_add_33 : decode cX9_add 33 = .ok (.getfield 17, 3) := by decide +kernel
theorem dX9_add_36 : decode cX9_add 36 = .ok (.iconst 1, 1) := by decide +kernel
theorem dX9_add_37 : decode cX9_add 37 = .ok (.iadd, 1) := by decide +kernel
theorem dX9_add_38 : decode cX9_add 38 = .ok (.putfield 17, 3) := by decide +kernel
theorem dX9_add_41 : decode cX9_add 41 = .ok (.iconst 1, 1) := by decide +kernel
theorem dX9_add_42 : decode cX9_add 42 = .ok (.ireturn, 1) := by decide +kernel
theorem dX9_clear_0 : decode cX9_clear 0 = .ok (.aload_n 0, 1) := by decide +kernel
theorem dX9_clear_1 : decode cX9_clear 1 = .ok (.getfield 17, 3) := by decide +kernel
theorem dX9_clear_4 : decode cX9_clear 4 = .ok (.istore_n 1, 1) := by decide +kernel
theorem dX9_clear_5 : decode cX9_clear 5 = .ok (.aload_n 0, 1) := by decide +kernel
theorem dX9_clear_6 : decode cX9_clear 6 = .ok (.iconst 0, 1) := by decide +kernel
theorem dX9_clear_7 : decode cX9_clear 7 = .ok (.putfield 17, 3) := by decide +kernel
theorem dX9_clear_10 : decode cX9_clear 10 = .ok (.iload_n 1, 1) := by decide +kernel
theorem dX9_clear_11 : decode cX9_clear 11 = .ok (.ireturn, 1) := by decide +kernel
theorem dX9_fittingLaws_0 : decode cX9_fittingLaws 0 = .ok (.ldc2_w 21, 3) := by decide +kernel
theorem dX9_fittingLaws_3 : decode cX9_fittingLaws 3 = .ok (.lstore_n 1, 1) := by decide +kernel
theorem dX9_fittingLaws_4 : decode cX9_fittingLaws 4 = .ok (.iconst 0, 1) := by decide +kernel
theorem dX9_fittingLaws_5 : decode cX9_fittingLaws 5 = .ok (.istore_n 3, 1) := by decide +kernel
theorem dX9_fittingLaws_6 : decode cX9_fittingLaws 6 = .ok (.iload_n 3, 1) := by decide +kernel
theorem dX9_fittingLaws_7 : decode cX9_fittingLaws 7 = .ok (.aload_n 0, 1) := by decide +kernel
theorem dX9_fittingLaws_8 : decode cX9_fittingLaws 8 = .ok (.getfield 17, 3) := by decide +kernel
theorem dX9_fittingLaws_11 : decode cX9_fittingLaws 11 = .ok (.if_icmp .ge 49, 3) := by decide +kernel
theorem dX9_fittingLaws_14 : decode cX9_fittingLaws 14 = .ok (.iload_n 3, 1) := by decide +kernel
theorem dX9_fittingLaws_15 : decode cX9_fittingLaws 15 = .ok (.bipush 10, 2) := by decide +kernel
theorem dX9_fittingLaws_17 : decode cX9_fittingLaws 17 = .ok (.if_icmp .ge 43, 3) := by decide +kernel
theorem dX9_fittingLaws_20 : decode cX9_fittingLaws 20 = .ok (.aload_n 0, 1) := by decide +kernel
theorem dX9_fittingLaws_21 : decode cX9_fittingLaws 21 = .ok (.getfield 9, 3) := by decide +kernel
theorem dX9_fittingLaws_24 : decode cX9_fittingLaws 24 = .ok (.iload_n 3, 1) := by decide +kernel
theorem dX9_fittingLaws_25 : decode cX9_fittingLaws 25 = .ok (.iaload, 1) := by decide +kernel
theorem dX9_fittingLaws_26 : decode cX9_fittingLaws 26 = .ok (.invokestatic 23, 3) := by decide +kernel
theorem dX9_fittingLaws_29 : decode cX9_fittingLaws 29 = .ok (.lstore 4, 2) := by decide +kernel
theorem dX9_fittingLaws_31 : decode cX9_fittingLaws 31 = .ok (.lload_n 1, 1) := by decide +kernel
theorem dX9_fittingLaws_32 : decode cX9_fittingLaws 32 = .ok (.aload_n 0, 1) := by decide +kernel
theorem dX9_fittingLaws_33 : decode cX9_fittingLaws 33 = .ok (.getfield 13, 3) := by decide +kernel
theorem dX9_fittingLaws_36 : decode cX9_fittingLaws 36 = .ok (.iload_n 3, 1) := by decide +kernel
theorem dX9_fittingLaws_37 : decode cX9_fittingLaws 37 = .ok (.baload, 1) := by decide +kernel
theorem dX9_fittingLaws_38 : decode cX9_fittingLaws 38 = .ok (.ifCond .eq 8, 3) := by decide +kernel
theorem dX9_fittingLaws_41 : decode cX9_fittingLaws 41 = .ok (.lload 4, 2) := by decide +kernel
theorem dX9_fittingLaws_43 : decode cX9_fittingLaws 43 = .ok (.goto 9, 3) := by decide +kernel
theorem dX9_fittingLaws_46 : decode cX9_fittingLaws 46 = .ok (.lload 4, 2) := by decide +kernel
theorem dX9_fittingLaws_48 : decode cX9_fittingLaws 48 = .ok (.ldc2_w 27, 3) := by decide +kernel
theorem dX9_fittingLaws_51 : decode cX9_fittingLaws 51 = .ok (.lxor, 1) := by decide +kernel
theorem dX9_fittingLaws_52 : decode cX9_fittingLaws 52 = .ok (.land, 1) := by decide +kernel
theorem dX9_fittingLaws_53 : decode cX9_fittingLaws 53 = .ok (.lstore_n 1, 1) := by decide +kernel
theorem dX9_fittingLaws_54 : decode cX9_fittingLaws 54 = .ok (.iinc 3 1, 3) := by decide +kernel
theorem dX9_fittingLaws_57 : decode cX9_fittingLaws 57 = .ok (.goto (-51), 3) := by decide +kernel
theorem dX9_fittingLaws_60 : decode cX9_fittingLaws 60 = .ok (.lload_n 1, 1) := by decide +kernel
theorem dX9_fittingLaws_61 : decode cX9_fittingLaws 61 = .ok (.lreturn, 1) := by decide +kernel
theorem dX9_leastOf_0 : decode cX9_leastOf 0 = .ok (.iload_n 0, 1) := by decide +kernel
theorem dX9_leastOf_1 : decode cX9_leastOf 1 = .ok (.bipush 8, 2) := by decide +kernel
theorem dX9_leastOf_3 : decode cX9_leastOf 3 = .ok (.idiv, 1) := by decide +kernel
theorem dX9_leastOf_4 : decode cX9_leastOf 4 = .ok (.ireturn, 1) := by decide +kernel
theorem dX9_greatestOf_0 : decode cX9_greatestOf 0 = .ok (.iconst 5, 1) := by decide +kernel
theorem dX9_greatestOf_1 : decode cX9_greatestOf 1 = .ok (.iload_n 0, 1) := by decide +kernel
theorem dX9_greatestOf_2 : decode cX9_greatestOf 2 = .ok (.bipush 8, 2) := by decide +kernel
theorem dX9_greatestOf_4 : decode cX9_greatestOf 4 = .ok (.irem, 1) := by decide +kernel
theorem dX9_greatestOf_5 : decode cX9_greatestOf 5 = .ok (.iadd, 1) := by decide +kernel
theorem dX9_greatestOf_6 : decode cX9_greatestOf 6 = .ok (.ireturn, 1) := by decide +kernel
theorem dX9_lawsThatRun_0 : decode cX9_lawsThatRun 0 = .ok (.lconst 0, 1) := by decide +kernel
theorem dX9_lawsThatRun_1 : decode cX9_lawsThatRun 1 = .ok (.lstore_n 1, 1) := by decide +kernel
theorem dX9_lawsThatRun_2 : decode cX9_lawsThatRun 2 = .ok (.iconst 0, 1) := by decide +kernel
theorem dX9_lawsThatRun_3 : decode cX9_lawsThatRun 3 = .ok (.istore_n 3, 1) := by decide +kernel
theorem dX9_lawsThatRun_4 : decode cX9_lawsThatRun 4 = .ok (.iload_n 3, 1) := by decide +kernel
theorem dX9_lawsThatRun_5 : decode cX9_lawsThatRun 5 = .ok (.bipush 40, 2) := by decide +kernel
theorem dX9_lawsThatRun_7 : decode cX9_lawsThatRun 7 = .ok (.if_icmp .ge 31, 3) := by decide +kernel
theorem dX9_lawsThatRun_10 : decode cX9_lawsThatRun 10 = .ok (.iload_n 0, 1) := by decide +kernel
theorem dX9_lawsThatRun_11 : decode cX9_lawsThatRun 11 = .ok (.iload_n 3, 1) := by decide +kernel
theorem dX9_lawsThatRun_12 : decode cX9_lawsThatRun 12 = .ok (.invokestatic 29, 3) := by decide +kernel
theorem dX9_lawsThatRun_15 : decode cX9_lawsThatRun 15 = .ok (.if_icmp .lt 17, 3) := by decide +kernel
theorem dX9_lawsThatRun_18 : decode cX9_lawsThatRun 18 = .ok (.iload_n 0, 1) := by decide +kernel
theorem dX9_lawsThatRun_19 : decode cX9_lawsThatRun 19 = .ok (.iload_n 3, 1) := by decide +kernel
theorem dX9_lawsThatRun_20 : decode cX9_lawsThatRun 20 = .ok (.invokestatic 33, 3) := by decide +kernel
theorem dX9_lawsThatRun_23 : decode cX9_lawsThatRun 23 = .ok (.if_icmp .gt 9, 3) := by decide +kernel
theorem dX9_lawsThatRun_26 : decode cX9_lawsThatRun 26 = .ok (.lload_n 1, 1) := by decide +kernel
theorem dX9_lawsThatRun_27 : decode cX9_lawsThatRun 27 = .ok (.lconst 1, 1) := by decide +kernel
theorem dX9_lawsThatRun_28 : decode cX9_lawsThatRun 28 = .ok (.iload_n 3, 1) := by decide +kernel
theorem dX9_lawsThatRun_29 : decode cX9_lawsThatRun 29 = .ok (.lshl, 1) := by decide +kernel
theorem dX9_lawsThatRun_30 : decode cX9_lawsThatRun 30 = .ok (.lor, 1) := by decide +kernel
theorem dX9_lawsThatRun_31 : decode cX9_lawsThatRun 31 = .ok (.lstore_n 1, 1) := by decide +kernel
theorem dX9_lawsThatRun_32 : decode cX9_lawsThatRun 32 = .ok (.iinc 3 1, 3) := by decide +kernel
theorem dX9_lawsThatRun_35 : decode cX9_lawsThatRun 35 = .ok (.goto (-31), 3) := by decide +kernel
theorem dX9_lawsThatRun_38 : decode cX9_lawsThatRun 38 = .ok (.lload_n 1, 1) := by decide +kernel
theorem dX9_lawsThatRun_39 : decode cX9_lawsThatRun 39 = .ok (.lreturn, 1) := by decide +kernel
theorem dX10_init_0 : decode cX10_init 0 = .ok (.aload_n 0, 1) := by decide +kernel
theorem dX10_init_1 : decode cX10_init 1 = .ok (.invokespecial 1, 3) := by decide +kernel
theorem dX10_init_4 : decode cX10_init 4 = .ok (.aload_n 0, 1) := by decide +kernel
theorem dX10_init_5 : decode cX10_init 5 = .ok (.bipush 80, 2) := by decide +kernel
theorem dX10_init_7 : decode cX10_init 7 = .ok (.newarray .int, 2) := by decide +kernel
theorem dX10_init_9 : decode cX10_init 9 = .ok (.putfield 9, 3) := by decide +kernel
theorem dX10_init_12 : decode cX10_init 12 = .ok (.return_, 1) := by decide +kernel
theorem dX10_length_0 : decode cX10_length 0 = .ok (.aload_n 0, 1) := by decide +kernel
theorem dX10_length_1 : decode cX10_length 1 = .ok (.getfield 13, 3) := by decide +kernel
theorem dX10_length_4 : decode cX10_length 4 = .ok (.ireturn, 1) := by decide +kernel
theorem dX10_at_0 : decode cX10_at 0 = .ok (.iload_n 1, 1) := by decide +kernel
theorem dX10_at_1 : decode cX10_at 1 = .ok (.ifCond .lt 26, 3) := by decide +kernel
theorem dX10_at_4 : decode cX10_at 4 = .ok (.iload_n 1, 1) := by decide +kernel
theorem dX10_at_5 : decode cX10_at 5 = .ok (.aload_n 0, 1) := by decide +kernel
theorem dX10_at_6 : decode cX10_at 6 = .ok (.getfield 13, 3) := by decide +kernel
theorem dX10_at_9 : decode cX10_at 9 = .ok (.if_icmp .ge 18, 3) := by decide +kernel
theorem dX10_at_12 : decode cX10_at 12 = .ok (.iload_n 1, 1) := by decide +kernel
theorem dX10_at_13 : decode cX10_at 13 = .ok (.bipush 80, 2) := by decide +kernel
theorem dX10_at_15 : decode cX10_at 15 = .ok (.if_icmp .ge 12, 3) := by decide +kernel
theorem dX10_at_18 : decode cX10_at 18 = .ok (.aload_n 0, 1) := by decide +kernel
theorem dX10_at_19 : decode cX10_at 19 = .ok (.getfield 9, 3) := by decide +kernel
theorem dX10_at_22 : decode cX10_at 22 = .ok (.iload_n 1, 1) := by decide +kernel
theorem dX10_at_23 : decode cX10_at 23 = .ok (.iaload, 1) := by decide +kernel
theorem dX10_at_24 : decode cX10_at 24 = .ok (.goto 4, 3) := by decide +kernel
theorem dX10_at_27 : decode cX10_at 27 = .ok (.iconst (-1), 1) := by decide +kernel
theorem dX10_at_28 : decode cX10_at 28 = .ok (.ireturn, 1) := by decide +kernel
theorem dX10_write_0 : decode cX10_write 0 = .ok (.aload_n 0, 1) := by decide +kernel
theorem dX10_write_1 : decode cX10_write 1 = .ok (.getfield 13, 3) := by decide +kernel
theorem dX10_write_4 : decode cX10_write 4 = .ok (.bipush 80, 2) := by decide +kernel
theorem dX10_write_6 : decode cX10_write 6 = .ok (.if_icmp .ge 23, 3) := by decide +kernel
theorem dX10_write_9 : decode cX10_write 9 = .ok (.aload_n 0, 1) := by decide +kernel
theorem dX10_write_10 : decode cX10_write 10 = .ok (.getfield 9, 3) := by decide +kernel
theorem dX10_write_13 : decode cX10_write 13 = .ok (.aload_n 0, 1) := by decide +kernel
theorem dX10_write_14 : decode cX10_write 14 = .ok (.getfield 13, 3) := by decide +kernel
theorem dX10_write_17 : decode cX10_write 17 = .ok (.iload_n 1, 1) := by decide +kernel
theorem dX10_write_18 : decode cX10_write 18 = .ok (.iastore, 1) := by decide +kernel
theorem dX10_write_19 : decode cX10_write 19 = .ok (.aload_n 0, 1) := by decide +kernel
theorem dX10_write_20 : decode cX10_write 20 = .ok (.dup, 1) := by decide +kernel
theorem dX10_write_21 : decode cX10_write 21 = .ok (.getfield 13, 3) := by decide +kernel
theorem dX10_write_24 : decode cX10_write 24 = .ok (.iconst 1, 1) := by decide +kernel
theorem dX10_write_25 : decode cX10_write 25 = .ok (.iadd, 1) := by decide +kernel
theorem dX10_write_26 : decode cX10_write 26 = .ok (.putfield 13, 3) := by decide +kernel
theorem dX10_write_29 : decode cX10_write 29 = .ok (.return_, 1) := by decide +kernel
theorem dX10_cutTo_0 : decode cX10_cutTo 0 = .ok (.iload_n 1, 1) := by decide +kernel
theorem dX10_cutTo_1 : decode cX10_cutTo 1 = .ok (.ifCond .lt 11, 3) := by decide +kernel
theorem dX10_cutTo_4 : decode cX10_cutTo 4 = .ok (.iload_n 1, 1) := by decide +kernel
theorem dX10_cutTo_5 : decode cX10_cutTo 5 = .ok (.aload_n 0, 1) := by decide +kernel
theorem dX10_cutTo_6 : decode cX10_cutTo 6 = .ok (.getfield 13, 3) := by decide +kernel
theorem dX10_cutTo_9 : decode cX10_cutTo 9 = .ok (.if_icmp .le 5, 3) := by decide +kernel
theorem dX10_cutTo_12 : decode cX10_cutTo 12 = .ok (.iconst 0, 1) := by decide +kernel
theorem dX10_cutTo_13 : decode cX10_cutTo 13 = .ok (.ireturn, 1) := by decide +kernel
theorem dX10_cutTo_14 : decode cX10_cutTo 14 = .ok (.aload_n 0, 1) := by decide +kernel
theorem dX10_cutTo_15 : decode cX10_cutTo 15 = .ok (.iload_n 1, 1) := by decide +kernel
theorem dX10_cutTo_16 : decode cX10_cutTo 16 = .ok (.putfield 13, 3) := by decide +kernel
theorem dX10_cutTo_19 : decode cX10_cutTo 19 = .ok (.iconst 1, 1) := by decide +kernel
theorem dX10_cutTo_20 : decode cX10_cutTo 20 = .ok (.ireturn, 1) := by decide +kernel
theorem dX10_clear_0 : decode cX10_clear 0 = .ok (.aload_n 0, 1) := by decide +kernel
theorem dX10_clear_1 : decode cX10_clear 1 = .ok (.iconst 0, 1) := by decide +kernel
theorem dX10_clear_2 : decode cX10_clear 2 = .ok (.putfield 13, 3) := by decide +kernel
theorem dX10_clear_5 : decode cX10_clear 5 = .ok (.return_, 1) := by decide +kernel
theorem dJ6_numberOfTrailingZeros_0f7a4_0 : decode cJ6_numberOfTrailingZeros_0f7a4 0 = .ok (.iload_n 0, 1) := by decide +kernel
theorem dJ6_numberOfTrailingZeros_0f7a4_1 : decode cJ6_numberOfTrailingZeros_0f7a4 1 = .ok (.iconst (-1), 1) := by decide +kernel
theorem dJ6_numberOfTrailingZeros_0f7a4_2 : decode cJ6_numberOfTrailingZeros_0f7a4 2 = .ok (.ixor, 1) := by decide +kernel
theorem dJ6_numberOfTrailingZeros_0f7a4_3 : decode cJ6_numberOfTrailingZeros_0f7a4 3 = .ok (.iload_n 0, 1) := by decide +kernel
theorem dJ6_numberOfTrailingZeros_0f7a4_4 : decode cJ6_numberOfTrailingZeros_0f7a4 4 = .ok (.iconst 1, 1) := by decide +kernel
theorem dJ6_numberOfTrailingZeros_0f7a4_5 : decode cJ6_numberOfTrailingZeros_0f7a4 5 = .ok (.isub, 1) := by decide +kernel
theorem dJ6_numberOfTrailingZeros_0f7a4_6 : decode cJ6_numberOfTrailingZeros_0f7a4 6 = .ok (.iand, 1) := by decide +kernel
theorem dJ6_numberOfTrailingZeros_0f7a4_7 : decode cJ6_numberOfTrailingZeros_0f7a4 7 = .ok (.istore_n 0, 1) := by decide +kernel
theorem dJ6_numberOfTrailingZeros_0f7a4_8 : decode cJ6_numberOfTrailingZeros_0f7a4 8 = .ok (.iload_n 0, 1) := by decide +kernel
theorem dJ6_numberOfTrailingZeros_0f7a4_9 : decode cJ6_numberOfTrailingZeros_0f7a4 9 = .ok (.ifCond .gt 8, 3) := by decide +kernel
theorem dJ6_numberOfTrailingZeros_0f7a4_12 : decode cJ6_numberOfTrailingZeros_0f7a4 12 = .ok (.iload_n 0, 1) := by decide +kernel
theorem dJ6_numberOfTrailingZeros_0f7a4_13 : decode cJ6_numberOfTrailingZeros_0f7a4 13 = .ok (.bipush 32, 2) := by decide +kernel
theorem dJ6_numberOfTrailingZeros_0f7a4_15 : decode cJ6_numberOfTrailingZeros_0f7a4 15 = .ok (.iand, 1) := by decide +kernel
theorem dJ6_numberOfTrailingZeros_0f7a4_16 : decode cJ6_numberOfTrailingZeros_0f7a4 16 = .ok (.ireturn, 1) := by decide +kernel
theorem dJ6_numberOfTrailingZeros_0f7a4_17 : decode cJ6_numberOfTrailingZeros_0f7a4 17 = .ok (.iconst 1, 1) := by decide +kernel
theorem dJ6_numberOfTrailingZeros_0f7a4_18 : decode cJ6_numberOfTrailingZeros_0f7a4 18 = .ok (.istore_n 1, 1) := by decide +kernel
theorem dJ6_numberOfTrailingZeros_0f7a4_19 : decode cJ6_numberOfTrailingZeros_0f7a4 19 = .ok (.iload_n 0, 1) := by decide +kernel
theorem dJ6_numberOfTrailingZeros_0f7a4_20 : decode cJ6_numberOfTrailingZeros_0f7a4 20 = .ok (.ldc_w 264, 3) := by decide +kernel
theorem dJ6_numberOfTrailingZeros_0f7a4_23 : decode cJ6_numberOfTrailingZeros_0f7a4 23 = .ok (.if_icmp .le 11, 3) := by decide +kernel
theorem dJ6_numberOfTrailingZeros_0f7a4_26 : decode cJ6_numberOfTrailingZeros_0f7a4 26 = .ok (.iinc 1 16, 3) := by decide +kernel
theorem dJ6_numberOfTrailingZeros_0f7a4_29 : decode cJ6_numberOfTrailingZeros_0f7a4 29 = .ok (.iload_n 0, 1) := by decide +kernel
theorem dJ6_numberOfTrailingZeros_0f7a4_30 : decode cJ6_numberOfTrailingZeros_0f7a4 30 = .ok (.bipush 16, 2) := by decide +kernel
theorem dJ6_numberOfTrailingZeros_0f7a4_32 : decode cJ6_numberOfTrailingZeros_0f7a4 32 = .ok (.iushr, 1) := by decide +kernel
theorem dJ6_numberOfTrailingZeros_0f7a4_33 : decode cJ6_numberOfTrailingZeros_0f7a4 33 = .ok (.istore_n 0, 1) := by decide +kernel
theorem dJ6_numberOfTrailingZeros_0f7a4_34 : decode cJ6_numberOfTrailingZeros_0f7a4 34 = .ok (.iload_n 0, 1) := by decide +kernel
theorem dJ6_numberOfTrailingZeros_0f7a4_35 : decode cJ6_numberOfTrailingZeros_0f7a4 35 = .ok (.sipush 256, 3) := by decide +kernel
theorem dJ6_numberOfTrailingZeros_0f7a4_38 : decode cJ6_numberOfTrailingZeros_0f7a4 38 = .ok (.if_icmp .le 11, 3) := by decide +kernel
theorem dJ6_numberOfTrailingZeros_0f7a4_41 : decode cJ6_numberOfTrailingZeros_0f7a4 41 = .ok (.iinc 1 8, 3) := by decide +kernel
theorem dJ6_numberOfTrailingZeros_0f7a4_44 : decode cJ6_numberOfTrailingZeros_0f7a4 44 = .ok (.iload_n 0, 1) := by decide +kernel
theorem dJ6_numberOfTrailingZeros_0f7a4_45 : decode cJ6_numberOfTrailingZeros_0f7a4 45 = .ok (.bipush 8, 2) := by decide +kernel
theorem dJ6_numberOfTrailingZeros_0f7a4_47 : decode cJ6_numberOfTrailingZeros_0f7a4 47 = .ok (.iushr, 1) := by decide +kernel
theorem dJ6_numberOfTrailingZeros_0f7a4_48 : decode cJ6_numberOfTrailingZeros_0f7a4 48 = .ok (.istore_n 0, 1) := by decide +kernel
theorem dJ6_numberOfTrailingZeros_0f7a4_49 : decode cJ6_numberOfTrailingZeros_0f7a4 49 = .ok (.iload_n 0, 1) := by decide +kernel
theorem dJ6_numberOfTrailingZeros_0f7a4_50 : decode cJ6_numberOfTrailingZeros_0f7a4 50 = .ok (.bipush 16, 2) := by decide +kernel
theorem dJ6_numberOfTrailingZeros_0f7a4_52 : decode cJ6_numberOfTrailingZeros_0f7a4 52 = .ok (.if_icmp .le 10, 3) := by decide +kernel
theorem dJ6_numberOfTrailingZeros_0f7a4_55 : decode cJ6_numberOfTrailingZeros_0f7a4 55 = .ok (.iinc 1 4, 3) := by decide +kernel
theorem dJ6_numberOfTrailingZeros_0f7a4_58 : decode cJ6_numberOfTrailingZeros_0f7a4 58 = .ok (.iload_n 0, 1) := by decide +kernel
theorem dJ6_numberOfTrailingZeros_0f7a4_59 : decode cJ6_numberOfTrailingZeros_0f7a4 59 = .ok (.iconst 4, 1) := by decide +kernel
theorem dJ6_numberOfTrailingZeros_0f7a4_60 : decode cJ6_numberOfTrailingZeros_0f7a4 60 = .ok (.iushr, 1) := by decide +kernel
theorem dJ6_numberOfTrailingZeros_0f7a4_61 : decode cJ6_numberOfTrailingZeros_0f7a4 61 = .ok (.istore_n 0, 1) := by decide +kernel
theorem dJ6_numberOfTrailingZeros_0f7a4_62 : decode cJ6_numberOfTrailingZeros_0f7a4 62 = .ok (.iload_n 0, 1) := by decide +kernel
theorem dJ6_numberOfTrailingZeros_0f7a4_63 : decode cJ6_numberOfTrailingZeros_0f7a4 63 = .ok (.iconst 4, 1) := by decide +kernel
theorem dJ6_numberOfTrailingZeros_0f7a4_64 : decode cJ6_numberOfTrailingZeros_0f7a4 64 = .ok (.if_icmp .le 10, 3) := by decide +kernel
theorem dJ6_numberOfTrailingZeros_0f7a4_67 : decode cJ6_numberOfTrailingZeros_0f7a4 67 = .ok (.iinc 1 2, 3) := by decide +kernel
theorem dJ6_numberOfTrailingZeros_0f7a4_70 : decode cJ6_numberOfTrailingZeros_0f7a4 70 = .ok (.iload_n 0, 1) := by decide +kernel
theorem dJ6_numberOfTrailingZeros_0f7a4_71 : decode cJ6_numberOfTrailingZeros_0f7a4 71 = .ok (.iconst 2, 1) := by decide +kernel
theorem dJ6_numberOfTrailingZeros_0f7a4_72 : decode cJ6_numberOfTrailingZeros_0f7a4 72 = .ok (.iushr, 1) := by decide +kernel
theorem dJ6_numberOfTrailingZeros_0f7a4_73 : decode cJ6_numberOfTrailingZeros_0f7a4 73 = .ok (.istore_n 0, 1) := by decide +kernel
theorem dJ6_numberOfTrailingZeros_0f7a4_74 : decode cJ6_numberOfTrailingZeros_0f7a4 74 = .ok (.iload_n 1, 1) := by decide +kernel
theorem dJ6_numberOfTrailingZeros_0f7a4_75 : decode cJ6_numberOfTrailingZeros_0f7a4 75 = .ok (.iload_n 0, 1) := by decide +kernel
theorem dJ6_numberOfTrailingZeros_0f7a4_76 : decode cJ6_numberOfTrailingZeros_0f7a4 76 = .ok (.iconst 1, 1) := by decide +kernel
theorem dJ6_numberOfTrailingZeros_0f7a4_77 : decode cJ6_numberOfTrailingZeros_0f7a4 77 = .ok (.iushr, 1) := by decide +kernel
theorem dJ6_numberOfTrailingZeros_0f7a4_78 : decode cJ6_numberOfTrailingZeros_0f7a4 78 = .ok (.iadd, 1) := by decide +kernel
theorem dJ6_numberOfTrailingZeros_0f7a4_79 : decode cJ6_numberOfTrailingZeros_0f7a4 79 = .ok (.ireturn, 1) := by decide +kernel
theorem dJ6_bitCount_0f7a4_0 : decode cJ6_bitCount_0f7a4 0 = .ok (.iload_n 0, 1) := by decide +kernel
theorem dJ6_bitCount_0f7a4_1 : decode cJ6_bitCount_0f7a4 1 = .ok (.iload_n 0, 1) := by decide +kernel
theorem dJ6_bitCount_0f7a4_2 : decode cJ6_bitCount_0f7a4 2 = .ok (.iconst 1, 1) := by decide +kernel
theorem dJ6_bitCount_0f7a4_3 : decode cJ6_bitCount_0f7a4 3 = .ok (.iushr, 1) := by decide +kernel
theorem dJ6_bitCount_0f7a4_4 : decode cJ6_bitCount_0f7a4 4 = .ok (.ldc_w 265, 3) := by decide +kernel
theorem dJ6_bitCount_0f7a4_7 : decode cJ6_bitCount_0f7a4 7 = .ok (.iand, 1) := by decide +kernel
theorem dJ6_bitCount_0f7a4_8 : decode cJ6_bitCount_0f7a4 8 = .ok (.isub, 1) := by decide +kernel
theorem dJ6_bitCount_0f7a4_9 : decode cJ6_bitCount_0f7a4 9 = .ok (.istore_n 0, 1) := by decide +kernel
theorem dJ6_bitCount_0f7a4_10 : decode cJ6_bitCount_0f7a4 10 = .ok (.iload_n 0, 1) := by decide +kernel
theorem dJ6_bitCount_0f7a4_11 : decode cJ6_bitCount_0f7a4 11 = .ok (.ldc_w 266, 3) := by decide +kernel
theorem dJ6_bitCount_0f7a4_14 : decode cJ6_bitCount_0f7a4 14 = .ok (.iand, 1) := by decide +kernel
theorem dJ6_bitCount_0f7a4_15 : decode cJ6_bitCount_0f7a4 15 = .ok (.iload_n 0, 1) := by decide +kernel
theorem dJ6_bitCount_0f7a4_16 : decode cJ6_bitCount_0f7a4 16 = .ok (.iconst 2, 1) := by decide +kernel
theorem dJ6_bitCount_0f7a4_17 : decode cJ6_bitCount_0f7a4 17 = .ok (.iushr, 1) := by decide +kernel
theorem dJ6_bitCount_0f7a4_18 : decode cJ6_bitCount_0f7a4 18 = .ok (.ldc_w 266, 3) := by decide +kernel
theorem dJ6_bitCount_0f7a4_21 : decode cJ6_bitCount_0f7a4 21 = .ok (.iand, 1) := by decide +kernel
theorem dJ6_bitCount_0f7a4_22 : decode cJ6_bitCount_0f7a4 22 = .ok (.iadd, 1) := by decide +kernel
theorem dJ6_bitCount_0f7a4_23 : decode cJ6_bitCount_0f7a4 23 = .ok (.istore_n 0, 1) := by decide +kernel
theorem dJ6_bitCount_0f7a4_24 : decode cJ6_bitCount_0f7a4 24 = .ok (.iload_n 0, 1) := by decide +kernel
theorem dJ6_bitCount_0f7a4_25 : decode cJ6_bitCount_0f7a4 25 = .ok (.iload_n 0, 1) := by decide +kernel
theorem dJ6_bitCount_0f7a4_26 : decode cJ6_bitCount_0f7a4 26 = .ok (.iconst 4, 1) := by decide +kernel
theorem dJ6_bitCount_0f7a4_27 : decode cJ6_bitCount_0f7a4 27 = .ok (.iushr, 1) := by decide +kernel
theorem dJ6_bitCount_0f7a4_28 : decode cJ6_bitCount_0f7a4 28 = .ok (.iadd, 1) := by decide +kernel
theorem dJ6_bitCount_0f7a4_29 : decode cJ6_bitCount_0f7a4 29 = .ok (.ldc_w 267, 3) := by decide +kernel
theorem dJ6_bitCount_0f7a4_32 : decode cJ6_bitCount_0f7a4 32 = .ok (.iand, 1) := by decide +kernel
theorem dJ6_bitCount_0f7a4_33 : decode cJ6_bitCount_0f7a4 33 = .ok (.istore_n 0, 1) := by decide +kernel
theorem dJ6_bitCount_0f7a4_34 : decode cJ6_bitCount_0f7a4 34 = .ok (.iload_n 0, 1) := by decide +kernel
theorem dJ6_bitCount_0f7a4_35 : decode cJ6_bitCount_0f7a4 35 = .ok (.iload_n 0, 1) := by decide +kernel
theorem dJ6_bitCount_0f7a4_36 : decode cJ6_bitCount_0f7a4 36 = .ok (.bipush 8, 2) := by decide +kernel
theorem dJ6_bitCount_0f7a4_38 : decode cJ6_bitCount_0f7a4 38 = .ok (.iushr, 1) := by decide +kernel
theorem dJ6_bitCount_0f7a4_39 : decode cJ6_bitCount_0f7a4 39 = .ok (.iadd, 1) := by decide +kernel
theorem dJ6_bitCount_0f7a4_40 : decode cJ6_bitCount_0f7a4 40 = .ok (.istore_n 0, 1) := by decide +kernel
theorem dJ6_bitCount_0f7a4_41 : decode cJ6_bitCount_0f7a4 41 = .ok (.iload_n 0, 1) := by decide +kernel
theorem dJ6_bitCount_0f7a4_42 : decode cJ6_bitCount_0f7a4 42 = .ok (.iload_n 0, 1) := by decide +kernel
theorem dJ6_bitCount_0f7a4_43 : decode cJ6_bitCount_0f7a4 43 = .ok (.bipush 16, 2) := by decide +kernel
theorem dJ6_bitCount_0f7a4_45 : decode cJ6_bitCount_0f7a4 45 = .ok (.iushr, 1) := by decide +kernel
theorem dJ6_bitCount_0f7a4_46 : decode cJ6_bitCount_0f7a4 46 = .ok (.iadd, 1) := by decide +kernel
theorem dJ6_bitCount_0f7a4_47 : decode cJ6_bitCount_0f7a4 47 = .ok (.istore_n 0, 1) := by decide +kernel
theorem dJ6_bitCount_0f7a4_48 : decode cJ6_bitCount_0f7a4 48 = .ok (.iload_n 0, 1) := by decide +kernel
theorem dJ6_bitCount_0f7a4_49 : decode cJ6_bitCount_0f7a4 49 = .ok (.bipush 63, 2) := by decide +kernel
theorem dJ6_bitCount_0f7a4_51 : decode cJ6_bitCount_0f7a4 51 = .ok (.iand, 1) := by decide +kernel
theorem dJ6_bitCount_0f7a4_52 : decode cJ6_bitCount_0f7a4 52 = .ok (.ireturn, 1) := by decide +kernel
theorem dJ13_numberOfTrailingZeros_95d88_0 : decode cJ13_numberOfTrailingZeros_95d88 0 = .ok (.lload_n 0, 1) := by decide +kernel
theorem dJ13_numberOfTrailingZeros_95d88_1 : decode cJ13_numberOfTrailingZeros_95d88 1 = .ok (.l2i, 1) := by decide +kernel
theorem dJ13_numberOfTrailingZeros_95d88_2 : decode cJ13_numberOfTrailingZeros_95d88 2 = .ok (.istore_n 2, 1) := by decide +kernel
theorem dJ13_numberOfTrailingZeros_95d88_3 : decode cJ13_numberOfTrailingZeros_95d88 3 = .ok (.iload_n 2, 1) := by decide +kernel
theorem dJ13_numberOfTrailingZeros_95d88_4 : decode cJ13_numberOfTrailingZeros_95d88 4 = .ok (.ifCond .ne 17, 3) := by decide +kernel
theorem dJ13_numberOfTrailingZeros_95d88_7 : decode cJ13_numberOfTrailingZeros_95d88 7 = .ok (.bipush 32, 2) := by decide +kernel
theorem dJ13_numberOfTrailingZeros_95d88_9 : decode cJ13_numberOfTrailingZeros_95d88 9 = .ok (.lload_n 0, 1) := by decide +kernel
theorem dJ13_numberOfTrailingZeros_95d88_10 : decode cJ13_numberOfTrailingZeros_95d88 10 = .ok (.bipush 32, 2) := by decide +kernel
theorem dJ13_numberOfTrailingZeros_95d88_12 : decode cJ13_numberOfTrailingZeros_95d88 12 = .ok (.lushr, 1) := by decide +kernel
theorem dJ13_numberOfTrailingZeros_95d88_13 : decode cJ13_numberOfTrailingZeros_95d88 13 = .ok (.l2i, 1) := by decide +kernel
theorem dJ13_numberOfTrailingZeros_95d88_14 : decode cJ13_numberOfTrailingZeros_95d88 14 = .ok (.invokestatic 311, 3) := by decide +kernel
theorem dJ13_numberOfTrailingZeros_95d88_17 : decode cJ13_numberOfTrailingZeros_95d88 17 = .ok (.iadd, 1) := by decide +kernel
theorem dJ13_numberOfTrailingZeros_95d88_18 : decode cJ13_numberOfTrailingZeros_95d88 18 = .ok (.goto 7, 3) := by decide +kernel
theorem dJ13_numberOfTrailingZeros_95d88_21 : decode cJ13_numberOfTrailingZeros_95d88 21 = .ok (.iload_n 2, 1) := by decide +kernel
theorem dJ13_numberOfTrailingZeros_95d88_22 : decode cJ13_numberOfTrailingZeros_95d88 22 = .ok (.invokestatic 311, 3) := by decide +kernel
theorem dJ13_numberOfTrailingZeros_95d88_25 : decode cJ13_numberOfTrailingZeros_95d88 25 = .ok (.ireturn, 1) := by decide +kernel
theorem dJ13_bitCount_95d88_0 : decode cJ13_bitCount_95d88 0 = .ok (.lload_n 0, 1) := by decide +kernel
theorem dJ13_bitCount_95d88_1 : decode cJ13_bitCount_95d88 1 = .ok (.lload_n 0, 1) := by decide +kernel
theorem dJ13_bitCount_95d88_2 : decode cJ13_bitCount_95d88 2 = .ok (.iconst 1, 1) := by decide +kernel
theorem dJ13_bitCount_95d88_3 : decode cJ13_bitCount_95d88 3 = .ok (.lushr, 1) := by decide +kernel
theorem dJ13_bitCount_95d88_4 : decode cJ13_bitCount_95d88 4 = .ok (.ldc2_w 314, 3) := by decide +kernel
theorem dJ13_bitCount_95d88_7 : decode cJ13_bitCount_95d88 7 = .ok (.land, 1) := by decide +kernel
theorem dJ13_bitCount_95d88_8 : decode cJ13_bitCount_95d88 8 = .ok (.lsub, 1) := by decide +kernel
theorem dJ13_bitCount_95d88_9 : decode cJ13_bitCount_95d88 9 = .ok (.lstore_n 0, 1) := by decide +kernel
theorem dJ13_bitCount_95d88_10 : decode cJ13_bitCount_95d88 10 = .ok (.lload_n 0, 1) := by decide +kernel
theorem dJ13_bitCount_95d88_11 : decode cJ13_bitCount_95d88 11 = .ok (.ldc2_w 316, 3) := by decide +kernel
theorem dJ13_bitCount_95d88_14 : decode cJ13_bitCount_95d88 14 = .ok (.land, 1) := by decide +kernel
theorem dJ13_bitCount_95d88_15 : decode cJ13_bitCount_95d88 15 = .ok (.lload_n 0, 1) := by decide +kernel
theorem dJ13_bitCount_95d88_16 : decode cJ13_bitCount_95d88 16 = .ok (.iconst 2, 1) := by decide +kernel
theorem dJ13_bitCount_95d88_17 : decode cJ13_bitCount_95d88 17 = .ok (.lushr, 1) := by decide +kernel
theorem dJ13_bitCount_95d88_18 : decode cJ13_bitCount_95d88 18 = .ok (.ldc2_w 316, 3) := by decide +kernel
theorem dJ13_bitCount_95d88_21 : decode cJ13_bitCount_95d88 21 = .ok (.land, 1) := by decide +kernel
theorem dJ13_bitCount_95d88_22 : decode cJ13_bitCount_95d88 22 = .ok (.ladd, 1) := by decide +kernel
theorem dJ13_bitCount_95d88_23 : decode cJ13_bitCount_95d88 23 = .ok (.lstore_n 0, 1) := by decide +kernel
theorem dJ13_bitCount_95d88_24 : decode cJ13_bitCount_95d88 24 = .ok (.lload_n 0, 1) := by decide +kernel
theorem dJ13_bitCount_95d88_25 : decode cJ13_bitCount_95d88 25 = .ok (.lload_n 0, 1) := by decide +kernel
theorem dJ13_bitCount_95d88_26 : decode cJ13_bitCount_95d88 26 = .ok (.iconst 4, 1) := by decide +kernel
theorem dJ13_bitCount_95d88_27 : decode cJ13_bitCount_95d88 27 = .ok (.lushr, 1) := by decide +kernel
theorem dJ13_bitCount_95d88_28 : decode cJ13_bitCount_95d88 28 = .ok (.ladd, 1) := by decide +kernel
theorem dJ13_bitCount_95d88_29 : decode cJ13_bitCount_95d88 29 = .ok (.ldc2_w 318, 3) := by decide +kernel
theorem dJ13_bitCount_95d88_32 : decode cJ13_bitCount_95d88 32 = .ok (.land, 1) := by decide +kernel
theorem dJ13_bitCount_95d88_33 : decode cJ13_bitCount_95d88 33 = .ok (.lstore_n 0, 1) := by decide +kernel
theorem dJ13_bitCount_95d88_34 : decode cJ13_bitCount_95d88 34 = .ok (.lload_n 0, 1) := by decide +kernel
theorem dJ13_bitCount_95d88_35 : decode cJ13_bitCount_95d88 35 = .ok (.lload_n 0, 1) := by decide +kernel
theorem dJ13_bitCount_95d88_36 : decode cJ13_bitCount_95d88 36 = .ok (.bipush 8, 2) := by decide +kernel
theorem dJ13_bitCount_95d88_38 : decode cJ13_bitCount_95d88 38 = .ok (.lushr, 1) := by decide +kernel
theorem dJ13_bitCount_95d88_39 : decode cJ13_bitCount_95d88 39 = .ok (.ladd, 1) := by decide +kernel
theorem dJ13_bitCount_95d88_40 : decode cJ13_bitCount_95d88 40 = .ok (.lstore_n 0, 1) := by decide +kernel
theorem dJ13_bitCount_95d88_41 : decode cJ13_bitCount_95d88 41 = .ok (.lload_n 0, 1) := by decide +kernel
theorem dJ13_bitCount_95d88_42 : decode cJ13_bitCount_95d88 42 = .ok (.lload_n 0, 1) := by decide +kernel
theorem dJ13_bitCount_95d88_43 : decode cJ13_bitCount_95d88 43 = .ok (.bipush 16, 2) := by decide +kernel
theorem dJ13_bitCount_95d88_45 : decode cJ13_bitCount_95d88 45 = .ok (.lushr, 1) := by decide +kernel
theorem dJ13_bitCount_95d88_46 : decode cJ13_bitCount_95d88 46 = .ok (.ladd, 1) := by decide +kernel
theorem dJ13_bitCount_95d88_47 : decode cJ13_bitCount_95d88 47 = .ok (.lstore_n 0, 1) := by decide +kernel
theorem dJ13_bitCount_95d88_48 : decode cJ13_bitCount_95d88 48 = .ok (.lload_n 0, 1) := by decide +kernel
theorem dJ13_bitCount_95d88_49 : decode cJ13_bitCount_95d88 49 = .ok (.lload_n 0, 1) := by decide +kernel
theorem dJ13_bitCount_95d88_50 : decode cJ13_bitCount_95d88 50 = .ok (.bipush 32, 2) := by decide +kernel
theorem dJ13_bitCount_95d88_52 : decode cJ13_bitCount_95d88 52 = .ok (.lushr, 1) := by decide +kernel
theorem dJ13_bitCount_95d88_53 : decode cJ13_bitCount_95d88 53 = .ok (.ladd, 1) := by decide +kernel
theorem dJ13_bitCount_95d88_54 : decode cJ13_bitCount_95d88 54 = .ok (.lstore_n 0, 1) := by decide +kernel
theorem dJ13_bitCount_95d88_55 : decode cJ13_bitCount_95d88 55 = .ok (.lload_n 0, 1) := by decide +kernel
theorem dJ13_bitCount_95d88_56 : decode cJ13_bitCount_95d88 56 = .ok (.l2i, 1) := by decide +kernel
theorem dJ13_bitCount_95d88_57 : decode cJ13_bitCount_95d88 57 = .ok (.bipush 127, 2) := by decide +kernel
theorem dJ13_bitCount_95d88_59 : decode cJ13_bitCount_95d88 59 = .ok (.iand, 1) := by decide +kernel
theorem dJ13_bitCount_95d88_60 : decode cJ13_bitCount_95d88 60 = .ok (.ireturn, 1) := by decide +kernel
theorem dJ9_abs_0f7a4_0 : decode cJ9_abs_0f7a4 0 = .ok (.iload_n 0, 1) := by decide +kernel
theorem dJ9_abs_0f7a4_1 : decode cJ9_abs_0f7a4 1 = .ok (.ifCond .ge 8, 3) := by decide +kernel
theorem dJ9_abs_0f7a4_4 : decode cJ9_abs_0f7a4 4 = .ok (.iload_n 0, 1) := by decide +kernel
theorem dJ9_abs_0f7a4_5 : decode cJ9_abs_0f7a4 5 = .ok (.ineg, 1) := by decide +kernel
theorem dJ9_abs_0f7a4_6 : decode cJ9_abs_0f7a4 6 = .ok (.goto 4, 3) := by decide +kernel
theorem dJ9_abs_0f7a4_9 : decode cJ9_abs_0f7a4 9 = .ok (.iload_n 0, 1) := by decide +kernel
theorem dJ9_abs_0f7a4_10 : decode cJ9_abs_0f7a4 10 = .ok (.ireturn, 1) := by decide +kernel
theorem dJ9_max_7cf53_0 : decode cJ9_max_7cf53 0 = .ok (.iload_n 0, 1) := by decide +kernel
theorem dJ9_max_7cf53_1 : decode cJ9_max_7cf53 1 = .ok (.iload_n 1, 1) := by decide +kernel
theorem dJ9_max_7cf53_2 : decode cJ9_max_7cf53 2 = .ok (.if_icmp .lt 7, 3) := by decide +kernel
theorem dJ9_max_7cf53_5 : decode cJ9_max_7cf53 5 = .ok (.iload_n 0, 1) := by decide +kernel
theorem dJ9_max_7cf53_6 : decode cJ9_max_7cf53 6 = .ok (.goto 4, 3) := by decide +kernel
theorem dJ9_max_7cf53_9 : decode cJ9_max_7cf53 9 = .ok (.iload_n 1, 1) := by decide +kernel
theorem dJ9_max_7cf53_10 : decode cJ9_max_7cf53 10 = .ok (.ireturn, 1) := by decide +kernel
theorem dJ9_min_7cf53_0 : decode cJ9_min_7cf53 0 = .ok (.iload_n 0, 1) := by decide +kernel
theorem dJ9_min_7cf53_1 : decode cJ9_min_7cf53 1 = .ok (.iload_n 1, 1) := by decide +kernel
theorem dJ9_min_7cf53_2 : decode cJ9_min_7cf53 2 = .ok (.if_icmp .gt 7, 3) := by decide +kernel
theorem dJ9_min_7cf53_5 : decode cJ9_min_7cf53 5 = .ok (.iload_n 0, 1) := by decide +kernel
theorem dJ9_min_7cf53_6 : decode cJ9_min_7cf53 6 = .ok (.goto 4, 3) := by decide +kernel
theorem dJ9_min_7cf53_9 : decode cJ9_min_7cf53 9 = .ok (.iload_n 1, 1) := by decide +kernel
theorem dJ9_min_7cf53_10 : decode cJ9_min_7cf53 10 = .ok (.ireturn, 1) := by decide +kernel
