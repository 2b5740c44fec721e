theorem dX6_init_0 : decode cX6_init 0 = .ok (.aload_n 0, 1) := by decide +kernel
theorem dX6_init_1 : decode cX6_init 1 = .ok (.invokespecial 1, 3) := by decide +kernel
theorem dX6_init_4 : decode cX6_init 4 = .ok (.aload_n 0, 1) := by decide +kernel
theorem dX6_init_5 : decode cX6_init 5 = .ok (.sipush 128, 3) := by decide +kernel
theorem dX6_init_8 : decode cX6_init 8 = .ok (.newarray .int, 2) := by decide +kernel
theorem dX6_init_10 : decode cX6_init 10 = .ok (.putfield 7, 3) := by decide +kernel
theorem dX6_init_13 : decode cX6_init 13 = .ok (.aload_n 0, 1) := by decide +kernel
theorem dX6_init_14 : decode cX6_init 14 = .ok (.sipush 128, 3) := by decide +kernel
theorem dX6_init_17 : decode cX6_init 17 = .ok (.newarray .int, 2) := by decide +kernel
theorem dX6_init_19 : decode cX6_init 19 = .ok (.putfield 13, 3) := by decide +kernel
theorem dX6_init_22 : decode cX6_init 22 = .ok (.aload_n 0, 1) := by decide +kernel
theorem dX6_init_23 : decode cX6_init 23 = .ok (.sipush 384, 3) := by decide +kernel
theorem dX6_init_26 : decode cX6_init 26 = .ok (.newarray .int, 2) := by decide +kernel
theorem dX6_init_28 : decode cX6_init 28 = .ok (.putfield 16, 3) := by decide +kernel
theorem dX6_init_31 : decode cX6_init 31 = .ok (.aload_n 0, 1) := by decide +kernel
theorem dX6_init_32 : decode cX6_init 32 = .ok (.bipush 24, 2) := by decide +kernel
theorem dX6_init_34 : decode cX6_init 34 = .ok (.newarray .int, 2) := by decide +kernel
theorem dX6_init_36 : decode cX6_init 36 = .ok (.putfield 19, 3) := by decide +kernel
theorem dX6_init_39 : decode cX6_init 39 = .ok (.aload_n 0, 1) := by decide +kernel
theorem dX6_init_40 : decode cX6_init 40 = .ok (.bipush 24, 2) := by decide +kernel
theorem dX6_init_42 : decode cX6_init 42 = .ok (.newarray .int, 2) := by decide +kernel
theorem dX6_init_44 : decode cX6_init 44 = .ok (.putfield 22, 3) := by decide +kernel
theorem dX6_init_47 : decode cX6_init 47 = .ok (.aload_n 0, 1) := by decide +kernel
theorem dX6_init_48 : decode cX6_init 48 = .ok (.bipush 24, 2) := by decide +kernel
theorem dX6_init_50 : decode cX6_init 50 = .ok (.newarray .int, 2) := by decide +kernel
theorem dX6_init_52 : decode cX6_init 52 = .ok (.putfield 25, 3) := by decide +kernel
theorem dX6_init_55 : decode cX6_init 55 = .ok (.aload_n 0, 1) := by decide +kernel
theorem dX6_init_56 : decode cX6_init 56 = .ok (.bipush 20, 2) := by decide +kernel
theorem dX6_init_58 : decode cX6_init 58 = .ok (.newarray .int, 2) := by decide +kernel
theorem dX6_init_60 : decode cX6_init 60 = .ok (.putfield 28, 3) := by decide +kernel
theorem dX6_init_63 : decode cX6_init 63 = .ok (.aload_n 0, 1) := by decide +kernel
theorem dX6_init_64 : decode cX6_init 64 = .ok (.bipush 20, 2) := by decide +kernel
theorem dX6_init_66 : decode cX6_init 66 = .ok (.newarray .int, 2) := by decide +kernel
theorem dX6_init_68 : decode cX6_init 68 = .ok (.putfield 31, 3) := by decide +kernel
theorem dX6_init_71 : decode cX6_init 71 = .ok (.aload_n 0, 1) := by decide +kernel
theorem dX6_init_72 : decode cX6_init 72 = .ok (.getfield 7, 3) := by decide +kernel
theorem dX6_init_75 : decode cX6_init 75 = .ok (.bipush 71, 2) := by decide +kernel
theorem dX6_init_77 : decode cX6_init 77 = .ok (.bipush 100, 2) := by decide +kernel
theorem dX6_init_79 : decode cX6_init 79 = .ok (.iastore, 1) := by decide +kernel
theorem dX6_init_80 : decode cX6_init 80 = .ok (.aload_n 0, 1) := by decide +kernel
theorem dX6_init_81 : decode cX6_init 81 = .ok (.getfield 7, 3) := by decide +kernel
theorem dX6_init_84 : decode cX6_init 84 = .ok (.bipush 72, 2) := by decide +kernel
theorem dX6_init_86 : decode cX6_init 86 = .ok (.iconst 1, 1) := by decide +kernel
theorem dX6_init_87 : decode cX6_init 87 = .ok (.iastore, 1) := by decide +kernel
theorem dX6_init_88 : decode cX6_init 88 = .ok (.aload_n 0, 1) := by decide +kernel
theorem dX6_init_89 : decode cX6_init 89 = .ok (.invokevirtual 34, 3) := by decide +kernel
theorem dX6_init_92 : decode cX6_init 92 = .ok (.return_, 1) := by decide +kernel
theorem dX6_in_0 : decode cX6_in 0 = .ok (.iload_n 0, 1) := by decide +kernel
theorem dX6_in_1 : decode cX6_in 1 = .ok (.iload_n 1, 1) := by decide +kernel
theorem dX6_in_2 : decode cX6_in 2 = .ok (.if_icmp .lt 12, 3) := by decide +kernel
theorem dX6_in_5 : decode cX6_in 5 = .ok (.iload_n 0, 1) := by decide +kernel
theorem dX6_in_6 : decode cX6_in 6 = .ok (.iload_n 2, 1) := by decide +kernel
theorem dX6_in_7 : decode cX6_in 7 = .ok (.if_icmp .gt 7, 3) := by decide +kernel
theorem dX6_in_10 : decode cX6_in 10 = .ok (.iconst 1, 1) := by decide +kernel
theorem dX6_in_11 : decode cX6_in 11 = .ok (.goto 4, 3) := by decide +kernel
theorem dX6_in_14 : decode cX6_in 14 = .ok (.iconst 0, 1) := by decide +kernel
theorem dX6_in_15 : decode cX6_in 15 = .ok (.ireturn, 1) := by decide +kernel
theorem dX6_size_0 : decode cX6_size 0 = .ok (.iload_n 0, 1) := by decide +kernel
theorem dX6_size_1 : decode cX6_size 1 = .ok (.ifCond .ge 8, 3) := by decide +kernel
theorem dX6_size_4 : decode cX6_size 4 = .ok (.iload_n 0, 1) := by decide +kernel
theorem dX6_size_5 : decode cX6_size 5 = .ok (.ineg, 1) := by decide +kernel
theorem dX6_size_6 : decode cX6_size 6 = .ok (.goto 4, 3) := by decide +kernel
theorem dX6_size_9 : decode cX6_size 9 = .ok (.iload_n 0, 1) := by decide +kernel
theorem dX6_size_10 : decode cX6_size 10 = .ok (.ireturn, 1) := by decide +kernel
theorem dX6_sign_0 : decode cX6_sign 0 = .ok (.iload_n 0, 1) := by decide +kernel
theorem dX6_sign_1 : decode cX6_sign 1 = .ok (.ifCond .le 7, 3) := by decide +kernel
theorem dX6_sign_4 : decode cX6_sign 4 = .ok (.iconst 1, 1) := by decide +kernel
theorem dX6_sign_5 : decode cX6_sign 5 = .ok (.goto 12, 3) := by decide +kernel
theorem dX6_sign_8 : decode cX6_sign 8 = .ok (.iload_n 0, 1) := by decide +kernel
theorem dX6_sign_9 : decode cX6_sign 9 = .ok (.ifCond .ge 7, 3) := by decide +kernel
theorem dX6_sign_12 : decode cX6_sign 12 = .ok (.iconst (-1), 1) := by decide +kernel
theorem dX6_sign_13 : decode cX6_sign 13 = .ok (.goto 4, 3) := by decide +kernel
theorem dX6_sign_16 : decode cX6_sign 16 = .ok (.iconst 0, 1) := by decide +kernel
theorem dX6_sign_17 : decode cX6_sign 17 = .ok (.ireturn, 1) := by decide +kernel
theorem dX6_at_0 : decode cX6_at 0 = .ok (.aload_n 0, 1) := by decide +kernel
theorem dX6_at_1 : decode cX6_at 1 = .ok (.getfield 37, 3) := by decide +kernel
theorem dX6_at_4 : decode cX6_at 4 = .ok (.ifCond .eq 12, 3) := by decide +kernel
theorem dX6_at_7 : decode cX6_at 7 = .ok (.aload_n 0, 1) := by decide +kernel
theorem dX6_at_8 : decode cX6_at 8 = .ok (.getfield 13, 3) := by decide +kernel
theorem dX6_at_11 : decode cX6_at 11 = .ok (.iload_n 1, 1) := by decide +kernel
theorem dX6_at_12 : decode cX6_at 12 = .ok (.iaload, 1) := by decide +kernel
theorem dX6_at_13 : decode cX6_at 13 = .ok (.goto 9, 3) := by decide +kernel
theorem dX6_at_16 : decode cX6_at 16 = .ok (.aload_n 0, 1) := by decide +kernel
theorem dX6_at_17 : decode cX6_at 17 = .ok (.getfield 7, 3) := by decide +kernel
theorem dX6_at_20 : decode cX6_at 20 = .ok (.iload_n 1, 1) := by decide +kernel
theorem dX6_at_21 : decode cX6_at 21 = .ok (.iaload, 1) := by decide +kernel
theorem dX6_at_22 : decode cX6_at 22 = .ok (.ireturn, 1) := by decide +kernel
theorem dX6_lay_0 : decode cX6_lay 0 = .ok (.aload_n 0, 1) := by decide +kernel
theorem dX6_lay_1 : decode cX6_lay 1 = .ok (.getfield 37, 3) := by decide +kernel
theorem dX6_lay_4 : decode cX6_lay 4 = .ok (.ifCond .eq 13, 3) := by decide +kernel
theorem dX6_lay_7 : decode cX6_lay 7 = .ok (.aload_n 0, 1) := by decide +kernel
theorem dX6_lay_8 : decode cX6_lay 8 = .ok (.getfield 13, 3) := by decide +kernel
theorem dX6_lay_11 : decode cX6_lay 11 = .ok (.iload_n 1, 1) := by decide +kernel
theorem dX6_lay_12 : decode cX6_lay 12 = .ok (.iload_n 2, 1) := by decide +kernel
theorem dX6_lay_13 : decode cX6_lay 13 = .ok (.iastore, 1) := by decide +kernel
theorem dX6_lay_14 : decode cX6_lay 14 = .ok (.goto 10, 3) := by decide +kernel
theorem dX6_lay_17 : decode cX6_lay 17 = .ok (.aload_n 0, 1) := by decide +kernel
theorem dX6_lay_18 : decode cX6_lay 18 = .ok (.getfield 7, 3) := by decide +kernel
theorem dX6_lay_21 : decode cX6_lay 21 = .ok (.iload_n 1, 1) := by decide +kernel
theorem dX6_lay_22 : decode cX6_lay 22 = .ok (.iload_n 2, 1) := by decide +kernel
theorem dX6_lay_23 : decode cX6_lay 23 = .ok (.iastore, 1) := by decide +kernel
theorem dX6_lay_24 : decode cX6_lay 24 = .ok (.return_, 1) := by decide +kernel
theorem dX6_how_0 : decode cX6_how 0 = .ok (.aload_n 0, 1) := by decide +kernel
theorem dX6_how_1 : decode cX6_how 1 = .ok (.iload_n 1, 1) := by decide +kernel
theorem dX6_how_2 : decode cX6_how 2 = .ok (.invokevirtual 41, 3) := by decide +kernel
theorem dX6_how_5 : decode cX6_how 5 = .ok (.ireturn, 1) := by decide +kernel
theorem dX6_baseX_0 : decode cX6_baseX 0 = .ok (.iload_n 0, 1) := by decide +kernel
theorem dX6_baseX_1 : decode cX6_baseX 1 = .ok (.iconst 1, 1) := by decide +kernel
theorem dX6_baseX_2 : decode cX6_baseX 2 = .ok (.if_icmp .eq 8, 3) := by decide +kernel
theorem dX6_baseX_5 : decode cX6_baseX 5 = .ok (.iload_n 0, 1) := by decide +kernel
theorem dX6_baseX_6 : decode cX6_baseX 6 = .ok (.iconst 2, 1) := by decide +kernel
theorem dX6_baseX_7 : decode cX6_baseX 7 = .ok (.if_icmp .ne 8, 3) := by decide +kernel
theorem dX6_baseX_10 : decode cX6_baseX 10 = .ok (.bipush 40, 2) := by decide +kernel
theorem dX6_baseX_12 : decode cX6_baseX 12 = .ok (.goto 4, 3) := by decide +kernel
theorem dX6_baseX_15 : decode cX6_baseX 15 = .ok (.iconst 0, 1) := by decide +kernel
theorem dX6_baseX_16 : decode cX6_baseX 16 = .ok (.ireturn, 1) := by decide +kernel
theorem dX6_baseY_0 : decode cX6_baseY 0 = .ok (.iload_n 0, 1) := by decide +kernel
theorem dX6_baseY_1 : decode cX6_baseY 1 = .ok (.iconst 2, 1) := by decide +kernel
theorem dX6_baseY_2 : decode cX6_baseY 2 = .ok (.if_icmp .lt 8, 3) := by decide +kernel
theorem dX6_baseY_5 : decode cX6_baseY 5 = .ok (.bipush 40, 2) := by decide +kernel
theorem dX6_baseY_7 : decode cX6_baseY 7 = .ok (.goto 4, 3) := by decide +kernel
theorem dX6_baseY_10 : decode cX6_baseY 10 = .ok (.iconst 0, 1) := by decide +kernel
theorem dX6_baseY_11 : decode cX6_baseY 11 = .ok (.ireturn, 1) := by decide +kernel
theorem dX6_xOf_0 : decode cX6_xOf 0 = .ok (.aload_n 0, 1) := by decide +kernel
theorem dX6_xOf_1 : decode cX6_xOf 1 = .ok (.iload_n 1, 1) := by decide +kernel
theorem dX6_xOf_2 : decode cX6_xOf 2 = .ok (.invokevirtual 45, 3) := by decide +kernel
theorem dX6_xOf_5 : decode cX6_xOf 5 = .ok (.ifCond .ne 12, 3) := by decide +kernel
theorem dX6_xOf_8 : decode cX6_xOf 8 = .ok (.iload_n 1, 1) := by decide +kernel
theorem dX6_xOf_9 : decode cX6_xOf 9 = .ok (.iconst 4, 1) := by decide +kernel
theorem dX6_xOf_10 : decode cX6_xOf 10 = .ok (.irem, 1) := by decide +kernel
theorem dX6_xOf_11 : decode cX6_xOf 11 = .ok (.invokestatic 48, 3) := by decide +kernel
theorem dX6_xOf_14 : decode cX6_xOf 14 = .ok (.goto 25, 3) := by decide +kernel
theorem dX6_xOf_17 : decode cX6_xOf 17 = .ok (.aload_n 0, 1) := by decide +kernel
theorem dX6_xOf_18 : decode cX6_xOf 18 = .ok (.iload_n 1, 1) := by decide +kernel
theorem dX6_xOf_19 : decode cX6_xOf 19 = .ok (.invokevirtual 45, 3) := by decide +kernel
theorem dX6_xOf_22 : decode cX6_xOf 22 = .ok (.iconst 2, 1) := by decide +kernel
theorem dX6_xOf_23 : decode cX6_xOf 23 = .ok (.if_icmp .ne 8, 3) := by decide +kernel
theorem dX6_xOf_26 : decode cX6_xOf 26 = .ok (.bipush 41, 2) := by decide +kernel
theorem dX6_xOf_28 : decode cX6_xOf 28 = .ok (.goto 11, 3) := by decide +kernel
theorem dX6_xOf_31 : decode cX6_xOf 31 = .ok (.aload_n 0, 1) := by decide +kernel
theorem dX6_xOf_32 : decode cX6_xOf 32 = .ok (.bipush 16, 2) := by decide +kernel
theorem dX6_xOf_34 : decode cX6_xOf 34 = .ok (.iload_n 1, 1) := by decide +kernel
theorem dX6_xOf_35 : decode cX6_xOf 35 = .ok (.iadd, 1) := by decide +kernel
theorem dX6_xOf_36 : decode cX6_xOf 36 = .ok (.invokevirtual 41, 3) := by decide +kernel
theorem dX6_xOf_39 : decode cX6_xOf 39 = .ok (.ireturn, 1) := by decide +kernel
theorem dX6_yOf_0 : decode cX6_yOf 0 = .ok (.aload_n 0, 1) := by decide +kernel
theorem dX6_yOf_1 : decode cX6_yOf 1 = .ok (.iload_n 1, 1) := by decide +kernel
theorem dX6_yOf_2 : decode cX6_yOf 2 = .ok (.invokevirtual 45, 3) := by decide +kernel
theorem dX6_yOf_5 : decode cX6_yOf 5 = .ok (.ifCond .ne 12, 3) := by decide +kernel
theorem dX6_yOf_8 : decode cX6_yOf 8 = .ok (.iload_n 1, 1) := by decide +kernel
theorem dX6_yOf_9 : decode cX6_yOf 9 = .ok (.iconst 4, 1) := by decide +kernel
theorem dX6_yOf_10 : decode cX6_yOf 10 = .ok (.irem, 1) := by decide +kernel
theorem dX6_yOf_11 : decode cX6_yOf 11 = .ok (.invokestatic 51, 3) := by decide +kernel
theorem dX6_yOf_14 : decode cX6_yOf 14 = .ok (.goto 25, 3) := by decide +kernel
theorem dX6_yOf_17 : decode cX6_yOf 17 = .ok (.aload_n 0, 1) := by decide +kernel
theorem dX6_yOf_18 : decode cX6_yOf 18 = .ok (.iload_n 1, 1) := by decide +kernel
theorem dX6_yOf_19 : decode cX6_yOf 19 = .ok (.invokevirtual 45, 3) := by decide +kernel
theorem dX6_yOf_22 : decode cX6_yOf 22 = .ok (.iconst 2, 1) := by decide +kernel
theorem dX6_yOf_23 : decode cX6_yOf 23 = .ok (.if_icmp .ne 8, 3) := by decide +kernel
theorem dX6_yOf_26 : decode cX6_yOf 26 = .ok (.bipush 41, 2) := by decide +kernel
theorem dX6_yOf_28 : decode cX6_yOf 28 = .ok (.goto 11, 3) := by decide +kernel
theorem dX6_yOf_31 : decode cX6_yOf 31 = .ok (.aload_n 0, 1) := by decide +kernel
theorem dX6_yOf_32 : decode cX6_yOf 32 = .ok (.bipush 32, 2) := by decide +kernel
theorem dX6_yOf_34 : decode cX6_yOf 34 = .ok (.iload_n 1, 1) := by decide +kernel
theorem dX6_yOf_35 : decode cX6_yOf 35 = .ok (.iadd, 1) := by decide +kernel
theorem dX6_yOf_36 : decode cX6_yOf 36 = .ok (.invokevirtual 41, 3) := by decide +kernel
theorem dX6_yOf_39 : decode cX6_yOf 39 = .ok (.ireturn, 1) := by decide +kernel
theorem dX6_sizeOf_0 : decode cX6_sizeOf 0 = .ok (.iload_n 0, 1) := by decide +kernel
theorem dX6_sizeOf_1 : decode cX6_sizeOf 1 = .ok (.bipush 8, 2) := by decide +kernel
theorem dX6_sizeOf_3 : decode cX6_sizeOf 3 = .ok (.if_icmp .ge 7, 3) := by decide +kernel
theorem dX6_sizeOf_6 : decode cX6_sizeOf 6 = .ok (.iconst 1, 1) := by decide +kernel
theorem dX6_sizeOf_7 : decode cX6_sizeOf 7 = .ok (.goto 4, 3) := by decide +kernel
theorem dX6_sizeOf_10 : decode cX6_sizeOf 10 = .ok (.iconst 2, 1) := by decide +kernel
theorem dX6_sizeOf_11 : decode cX6_sizeOf 11 = .ok (.ireturn, 1) := by decide +kernel
theorem dX6_turn_0 : decode cX6_turn 0 = .ok (.aload_n 0, 1) := by decide +kernel
theorem dX6_turn_1 : decode cX6_turn 1 = .ok (.bipush 64, 2) := by decide +kernel
theorem dX6_turn_3 : decode cX6_turn 3 = .ok (.invokevirtual 41, 3) := by decide +kernel
theorem dX6_turn_6 : decode cX6_turn 6 = .ok (.ireturn, 1) := by decide +kernel
theorem dX6_gone_0 : decode cX6_gone 0 = .ok (.aload_n 0, 1) := by decide +kernel
theorem dX6_gone_1 : decode cX6_gone 1 = .ok (.bipush 65, 2) := by decide +kernel
theorem dX6_gone_3 : decode cX6_gone 3 = .ok (.invokevirtual 41, 3) := by decide +kernel
theorem dX6_gone_6 : decode cX6_gone 6 = .ok (.ireturn, 1) := by decide +kernel
theorem dX6_isCome_0 : decode cX6_isCome 0 = .ok (.aload_n 0, 1) := by decide +kernel
theorem dX6_isCome_1 : decode cX6_isCome 1 = .ok (.bipush 66, 2) := by decide +kernel
theorem dX6_isCome_3 : decode cX6_isCome 3 = .ok (.invokevirtual 41, 3) := by decide +kernel
theorem dX6_isCome_6 : decode cX6_isCome 6 = .ok (.iconst 1, 1) := by decide +kernel
theorem dX6_isCome_7 : decode cX6_isCome 7 = .ok (.if_icmp .ne 7, 3) := by decide +kernel
theorem dX6_isCome_10 : decode cX6_isCome 10 = .ok (.iconst 1, 1) := by decide +kernel
theorem dX6_isCome_11 : decode cX6_isCome 11 = .ok (.goto 4, 3) := by decide +kernel
theorem dX6_isCome_14 : decode cX6_isCome 14 = .ok (.iconst 0, 1) := by decide +kernel
theorem dX6_isCome_15 : decode cX6_isCome 15 = .ok (.ireturn, 1) := by decide +kernel
theorem dX6_clear_0 : decode cX6_clear 0 = .ok (.iconst 0, 1) := by decide +kernel
theorem dX6_clear_1 : decode cX6_clear 1 = .ok (.istore_n 1, 1) := by decide +kernel
theorem dX6_clear_2 : decode cX6_clear 2 = .ok (.iload_n 1, 1) := by decide +kernel
theorem dX6_clear_3 : decode cX6_clear 3 = .ok (.bipush 16, 2) := by decide +kernel
theorem dX6_clear_5 : decode cX6_clear 5 = .ok (.if_icmp .ge 15, 3) := by decide +kernel
theorem dX6_clear_8 : decode cX6_clear 8 = .ok (.aload_n 0, 1) := by decide +kernel
theorem dX6_clear_9 : decode cX6_clear 9 = .ok (.iload_n 1, 1) := by decide +kernel
theorem dX6_clear_10 : decode cX6_clear 10 = .ok (.iconst 0, 1) := by decide +kernel
theorem dX6_clear_11 : decode cX6_clear 11 = .ok (.invokevirtual 54, 3) := by decide +kernel
theorem dX6_clear_14 : decode cX6_clear 14 = .ok (.iinc 1 1, 3) := by decide +kernel
theorem dX6_clear_17 : decode cX6_clear 17 = .ok (.goto (-15), 3) := by decide +kernel
theorem dX6_clear_20 : decode cX6_clear 20 = .ok (.aload_n 0, 1) := by decide +kernel
theorem dX6_clear_21 : decode cX6_clear 21 = .ok (.bipush 64, 2) := by decide +kernel
theorem dX6_clear_23 : decode cX6_clear 23 = .ok (.iconst 0, 1) := by decide +kernel
theorem dX6_clear_24 : decode cX6_clear 24 = .ok (.invokevirtual 54, 3) := by decide +kernel
theorem dX6_clear_27 : decode cX6_clear 27 = .ok (.aload_n 0, 1) := by decide +kernel
theorem dX6_clear_28 : decode cX6_clear 28 = .ok (.bipush 65, 2) := by decide +kernel
theorem dX6_clear_30 : decode cX6_clear 30 = .ok (.iconst 0, 1) := by decide +kernel
theorem dX6_clear_31 : decode cX6_clear 31 = .ok (.invokevirtual 54, 3) := by decide +kernel
theorem dX6_clear_34 : decode cX6_clear 34 = .ok (.aload_n 0, 1) := by decide +kernel
theorem dX6_clear_35 : decode cX6_clear 35 = .ok (.bipush 66, 2) := by decide +kernel
theorem dX6_clear_37 : decode cX6_clear 37 = .ok (.iconst 0, 1) := by decide +kernel
theorem dX6_clear_38 : decode cX6_clear 38 = .ok (.invokevirtual 54, 3) := by decide +kernel
theorem dX6_clear_41 : decode cX6_clear 41 = .ok (.aload_n 0, 1) := by decide +kernel
theorem dX6_clear_42 : decode cX6_clear 42 = .ok (.bipush 67, 2) := by decide +kernel
theorem dX6_clear_44 : decode cX6_clear 44 = .ok (.iconst 0, 1) := by decide +kernel
theorem dX6_clear_45 : decode cX6_clear 45 = .ok (.invokevirtual 54, 3) := by decide +kernel
theorem dX6_clear_48 : decode cX6_clear 48 = .ok (.aload_n 0, 1) := by decide +kernel
theorem dX6_clear_49 : decode cX6_clear 49 = .ok (.bipush 68, 2) := by decide +kernel
theorem dX6_clear_51 : decode cX6_clear 51 = .ok (.iconst 0, 1) := by decide +kernel
theorem dX6_clear_52 : decode cX6_clear 52 = .ok (.invokevirtual 54, 3) := by decide +kernel
theorem dX6_clear_55 : decode cX6_clear 55 = .ok (.return_, 1) := by decide +kernel
theorem dX6_place_0 : decode cX6_place 0 = .ok (.aload_n 0, 1) := by decide +kernel
theorem dX6_place_1 : decode cX6_place 1 = .ok (.iload_n 1, 1) := by decide +kernel
theorem dX6_place_2 : decode cX6_place 2 = .ok (.iconst 1, 1) := by decide +kernel
theorem dX6_place_3 : decode cX6_place 3 = .ok (.invokevirtual 54, 3) := by decide +kernel
theorem dX6_place_6 : decode cX6_place 6 = .ok (.aload_n 0, 1) := by decide +kernel
theorem dX6_place_7 : decode cX6_place 7 = .ok (.bipush 16, 2) := by decide +kernel
theorem dX6_place_9 : decode cX6_place 9 = .ok (.iload_n 1, 1) := by decide +kernel
theorem dX6_place_10 : decode cX6_place 10 = .ok (.iadd, 1) := by decide +kernel
theorem dX6_place_11 : decode cX6_place 11 = .ok (.iload_n 2, 1) := by decide +kernel
theorem dX6_place_12 : decode cX6_place 12 = .ok (.invokevirtual 54, 3) := by decide +kernel
theorem dX6_place_15 : decode cX6_place 15 = .ok (.aload_n 0, 1) := by decide +kernel
theorem dX6_place_16 : decode cX6_place 16 = .ok (.bipush 32, 2) := by decide +kernel
theorem dX6_place_18 : decode cX6_place 18 = .ok (.iload_n 1, 1) := by decide +kernel
theorem dX6_place_19 : decode cX6_place 19 = .ok (.iadd, 1) := by decide +kernel
theorem dX6_place_20 : decode cX6_place 20 = .ok (.iload_n 3, 1) := by decide +kernel
theorem dX6_place_21 : decode cX6_place 21 = .ok (.invokevirtual 54, 3) := by decide +kernel
theorem dX6_place_24 : decode cX6_place 24 = .ok (.aload_n 0, 1) := by decide +kernel
theorem dX6_place_25 : decode cX6_place 25 = .ok (.bipush 48, 2) := by decide +kernel
theorem dX6_place_27 : decode cX6_place 27 = .ok (.iload_n 1, 1) := by decide +kernel
theorem dX6_place_28 : decode cX6_place 28 = .ok (.iadd, 1) := by decide +kernel
theorem dX6_place_29 : decode cX6_place 29 = .ok (.aload_n 0, 1) := by decide +kernel
theorem dX6_place_30 : decode cX6_place 30 = .ok (.bipush 68, 2) := by decide +kernel
theorem dX6_place_32 : decode cX6_place 32 = .ok (.invokevirtual 41, 3) := by decide +kernel
theorem dX6_place_35 : decode cX6_place 35 = .ok (.invokevirtual 54, 3) := by decide +kernel
theorem dX6_place_38 : decode cX6_place 38 = .ok (.aload_n 0, 1) := by decide +kernel
theorem dX6_place_39 : decode cX6_place 39 = .ok (.bipush 68, 2) := by decide +kernel
theorem dX6_place_41 : decode cX6_place 41 = .ok (.aload_n 0, 1) := by decide +kernel
theorem dX6_place_42 : decode cX6_place 42 = .ok (.bipush 68, 2) := by decide +kernel
theorem dX6_place_44 : decode cX6_place 44 = .ok (.invokevirtual 41, 3) := by decide +kernel
theorem dX6_place_47 : decode cX6_place 47 = .ok (.iconst 1, 1) := by decide +kernel
theorem dX6_place_48 : decode cX6_place 48 = .ok (.iadd, 1) := by decide +kernel
theorem dX6_place_49 : decode cX6_place 49 = .ok (.invokevirtual 54, 3) := by decide +kernel
theorem dX6_place_52 : decode cX6_place 52 = .ok (.return_, 1) := by decide +kernel
theorem dX6_isOff_0 : decode cX6_isOff 0 = .ok (.iload_n 0, 1) := by decide +kernel
theorem dX6_isOff_1 : decode cX6_isOff 1 = .ok (.ifCond .ge 7, 3) := by decide +kernel
theorem dX6_isOff_4 : decode cX6_isOff 4 = .ok (.iconst 1, 1) := by decide +kernel
theorem dX6_isOff_5 : decode cX6_isOff 5 = .ok (.goto 4, 3) := by decide +kernel
theorem dX6_isOff_8 : decode cX6_isOff 8 = .ok (.iconst 0, 1) := by decide +kernel
theorem dX6_isOff_9 : decode cX6_isOff 9 = .ok (.ireturn, 1) := by decide +kernel
theorem dX6_covers_0 : decode cX6_covers 0 = .ok (.aload_n 0, 1) := by decide +kernel
theorem dX6_covers_1 : decode cX6_covers 1 = .ok (.iload_n 1, 1) := by decide +kernel
theorem dX6_covers_2 : decode cX6_covers 2 = .ok (.invokevirtual 45, 3) := by decide +kernel
theorem dX6_covers_5 : decode cX6_covers 5 = .ok (.iconst 1, 1) := by decide +kernel
theorem dX6_covers_6 : decode cX6_covers 6 = .ok (.if_icmp .ne 58, 3) := by decide +kernel
theorem dX6_covers_9 : decode cX6_covers 9 = .ok (.aload_n 0, 1) := by decide +kernel
theorem dX6_covers_10 : decode cX6_covers 10 = .ok (.iload_n 2, 1) := by decide +kernel
theorem dX6_covers_11 : decode cX6_covers 11 = .ok (.invokevirtual 45, 3) := by decide +kernel
theorem dX6_covers_14 : decode cX6_covers 14 = .ok (.iconst 1, 1) := by decide +kernel
theorem dX6_covers_15 : decode cX6_covers 15 = .ok (.if_icmp .ne 49, 3) := by decide +kernel
theorem dX6_covers_18 : decode cX6_covers 18 = .ok (.iload_n 1, 1) := by decide +kernel
theorem dX6_covers_19 : decode cX6_covers 19 = .ok (.iload_n 2, 1) := by decide +kernel
theorem dX6_covers_20 : decode cX6_covers 20 = .ok (.if_icmp .eq 44, 3) := by decide +kernel
theorem dX6_covers_23 : decode cX6_covers 23 = .ok (.aload_n 0, 1) := by decide +kernel
theorem dX6_covers_24 : decode cX6_covers 24 = .ok (.bipush 48, 2) := by decide +kernel
theorem dX6_covers_26 : decode cX6_covers 26 = .ok (.iload_n 1, 1) := by decide +kernel
theorem dX6_covers_27 : decode cX6_covers 27 = .ok (.iadd, 1) := by decide +kernel
theorem dX6_covers_28 : decode cX6_covers 28 = .ok (.invokevirtual 41, 3) := by decide +kernel
theorem dX6_covers_31 : decode cX6_covers 31 = .ok (.aload_n 0, 1) := by decide +kernel
theorem dX6_covers_32 : decode cX6_covers 32 = .ok (.bipush 48, 2) := by decide +kernel
theorem dX6_covers_34 : decode cX6_covers 34 = .ok (.iload_n 2, 1) := by decide +kernel
theorem dX6_covers_35 : decode cX6_covers 35 = .ok (.iadd, 1) := by decide +kernel
theorem dX6_covers_36 : decode cX6_covers 36 = .ok (.invokevirtual 41, 3) := by decide +kernel
theorem dX6_covers_39 : decode cX6_covers 39 = .ok (.if_icmp .lt 25, 3) := by decide +kernel
theorem dX6_covers_42 : decode cX6_covers 42 = .ok (.aload_n 0, 1) := by decide +kernel
theorem dX6_covers_43 : decode cX6_covers 43 = .ok (.iload_n 1, 1) := by decide +kernel
theorem dX6_covers_44 : decode cX6_covers 44 = .ok (.invokevirtual 58, 3) := by decide +kernel
theorem dX6_covers_47 : decode cX6_covers 47 = .ok (.invokestatic 61, 3) := by decide +kernel
theorem dX6_covers_50 : decode cX6_covers 50 = .ok (.ifCond .ne 14, 3) := by decide +kernel
theorem dX6_covers_53 : decode cX6_covers 53 = .ok (.aload_n 0, 1) := by decide +kernel
theorem dX6_covers_54 : decode cX6_covers 54 = .ok (.iload_n 2, 1) := by decide +kernel
theorem dX6_covers_55 : decode cX6_covers 55 = .ok (.invokevirtual 58, 3) := by decide +kernel
theorem dX6_covers_58 : decode cX6_covers 58 = .ok (.invokestatic 61, 3) := by decide +kernel
theorem dX6_covers_61 : decode cX6_covers 61 = .ok (.ifCond .eq 5, 3) := by decide +kernel
theorem dX6_covers_64 : decode cX6_covers 64 = .ok (.iconst 0, 1) := by decide +kernel
theorem dX6_covers_65 : decode cX6_covers 65 = .ok (.ireturn, 1) := by decide +kernel
theorem dX6_covers_66 : decode cX6_covers 66 = .ok (.aload_n 0, 1) := by decide +kernel
theorem dX6_covers_67 : decode cX6_covers 67 = .ok (.iload_n 1, 1) := by decide +kernel
theorem dX6_covers_68 : decode cX6_covers 68 = .ok (.invokevirtual 58, 3) := by decide +kernel
theorem dX6_covers_71 : decode cX6_covers 71 = .ok (.aload_n 0, 1) := by decide +kernel
theorem dX6_covers_72 : decode cX6_covers 72 = .ok (.iload_n 2, 1) := by decide +kernel
theorem dX6_covers_73 : decode cX6_covers 73 = .ok (.invokevirtual 58, 3) := by decide +kernel
theorem dX6_covers_76 : decode cX6_covers 76 = .ok (.isub, 1) := by decide +kernel
theorem dX6_covers_77 : decode cX6_covers 77 = .ok (.istore_n 3, 1) := by decide +kernel
theorem dX6_covers_78 : decode cX6_covers 78 = .ok (.aload_n 0, 1) := by decide +kernel
theorem dX6_covers_79 : decode cX6_covers 79 = .ok (.iload_n 1, 1) := by decide +kernel
theorem dX6_covers_80 : decode cX6_covers 80 = .ok (.invokevirtual 65, 3) := by decide +kernel
theorem dX6_covers_83 : decode cX6_covers 83 = .ok (.aload_n 0, 1) := by decide +kernel
theorem dX6_covers_84 : decode cX6_covers 84 = .ok (.iload_n 2, 1) := by decide +kernel
theorem dX6_covers_85 : decode cX6_covers 85 = .ok (.invokevirtual 65, 3) := by decide +kernel
theorem dX6_covers_88 : decode cX6_covers 88 = .ok (.isub, 1) := by decide +kernel
theorem dX6_covers_89 : decode cX6_covers 89 = .ok (.istore 4, 2) := by decide +kernel
theorem dX6_covers_91 : decode cX6_covers 91 = .ok (.iload_n 1, 1) := by decide +kernel
theorem dX6_covers_92 : decode cX6_covers 92 = .ok (.invokestatic 68, 3) := by decide +kernel
theorem dX6_covers_95 : decode cX6_covers 95 = .ok (.iload_n 2, 1) := by decide +kernel
theorem dX6_covers_96 : decode cX6_covers 96 = .ok (.invokestatic 68, 3) := by decide +kernel
theorem dX6_covers_99 : decode cX6_covers 99 = .ok (.iadd, 1) := by decide +kernel
theorem dX6_covers_100 : decode cX6_covers 100 = .ok (.istore 5, 2) := by decide +kernel
theorem dX6_covers_102 : decode cX6_covers 102 = .ok (.iload_n 3, 1) := by decide +kernel
theorem dX6_covers_103 : decode cX6_covers 103 = .ok (.iload_n 3, 1) := by decide +kernel
theorem dX6_covers_104 : decode cX6_covers 104 = .ok (.imul, 1) := by decide +kernel
theorem dX6_covers_105 : decode cX6_covers 105 = .ok (.iload 4, 2) := by decide +kernel
theorem dX6_covers_107 : decode cX6_covers 107 = .ok (.iload 4, 2) := by decide +kernel
theorem dX6_covers_109 : decode cX6_covers 109 = .ok (.imul, 1) := by decide +kernel
theorem dX6_covers_110 : decode cX6_covers 110 = .ok (.iadd, 1) := by decide +kernel
theorem dX6_covers_111 : decode cX6_covers 111 = .ok (.iload 5, 2) := by decide +kernel
theorem dX6_covers_113 : decode cX6_covers 113 = .ok (.iload 5, 2) := by decide +kernel
theorem dX6_covers_115 : decode cX6_covers 115 = .ok (.imul, 1) := by decide +kernel
theorem dX6_covers_116 : decode cX6_covers 116 = .ok (.if_icmp .ge 7, 3) := by decide +kernel
theorem dX6_covers_119 : decode cX6_covers 119 = .ok (.iconst 1, 1) := by decide +kernel
theorem dX6_covers_120 : decode cX6_covers 120 = .ok (.goto 4, 3) := by decide +kernel
theorem dX6_covers_123 : decode cX6_covers 123 = .ok (.iconst 0, 1) := by decide +kernel
theorem dX6_covers_124 : decode cX6_covers 124 = .ok (.ireturn, 1) := by decide +kernel
theorem dX6_coverers_0 : decode cX6_coverers 0 = .ok (.iconst 0, 1) := by decide +kernel
theorem dX6_coverers_1 : decode cX6_coverers 1 = .ok (.istore_n 2, 1) := by decide +kernel
theorem dX6_coverers_2 : decode cX6_coverers 2 = .ok (.iconst 0, 1) := by decide +kernel
theorem dX6_coverers_3 : decode cX6_coverers 3 = .ok (.istore_n 3, 1) := by decide +kernel
theorem dX6_coverers_4 : decode cX6_coverers 4 = .ok (.iload_n 3, 1) := by decide +kernel
theorem dX6_coverers_5 : decode cX6_coverers 5 = .ok (.bipush 16, 2) := by decide +kernel
theorem dX6_coverers_7 : decode cX6_coverers 7 = .ok (.if_icmp .ge 28, 3) := by decide +kernel
theorem dX6_coverers_10 : decode cX6_coverers 10 = .ok (.iload_n 2, 1) := by decide +kernel
theorem dX6_coverers_11 : decode cX6_coverers 11 = .ok (.aload_n 0, 1) := by decide +kernel
theorem dX6_coverers_12 : decode cX6_coverers 12 = .ok (.iload_n 3, 1) := by decide +kernel
theorem dX6_coverers_13 : decode cX6_coverers 13 = .ok (.iload_n 1, 1) := by decide +kernel
theorem dX6_coverers_14 : decode cX6_coverers 14 = .ok (.invokevirtual 71, 3) := by decide +kernel
theorem dX6_coverers_17 : decode cX6_coverers 17 = .ok (.ifCond .eq 9, 3) := by decide +kernel
theorem dX6_coverers_20 : decode cX6_coverers 20 = .ok (.iconst 1, 1) := by decide +kernel
theorem dX6_coverers_21 : decode cX6_coverers 21 = .ok (.iload_n 3, 1) := by decide +kernel
theorem dX6_coverers_22 : decode cX6_coverers 22 = .ok (.ishl, 1) := by decide +kernel
theorem dX6_coverers_23 : decode cX6_coverers 23 = .ok (.goto 4, 3) := by decide +kernel
theorem dX6_coverers_26 : decode cX6_coverers 26 = .ok (.iconst 0, 1) := by decide +kernel
theorem dX6_coverers_27 : decode cX6_coverers 27 = .ok (.ior, 1) := by decide +kernel
theorem dX6_coverers_28 : decode cX6_coverers 28 = .ok (.istore_n 2, 1) := by decide +kernel
theorem dX6_coverers_29 : decode cX6_coverers 29 = .ok (.iinc 3 1, 3) := by decide +kernel
theorem dX6_coverers_32 : decode cX6_coverers 32 = .ok (.goto (-28), 3) := by decide +kernel
theorem dX6_coverers_35 : decode cX6_coverers 35 = .ok (.iload_n 2, 1) := by decide +kernel
theorem dX6_coverers_36 : decode cX6_coverers 36 = .ok (.ireturn, 1) := by decide +kernel
theorem dX6_covered_0 : decode cX6_covered 0 = .ok (.iconst 0, 1) := by decide +kernel
theorem dX6_covered_1 : decode cX6_covered 1 = .ok (.istore_n 2, 1) := by decide +kernel
theorem dX6_covered_2 : decode cX6_covered 2 = .ok (.iconst 0, 1) := by decide +kernel
theorem dX6_covered_3 : decode cX6_covered 3 = .ok (.istore_n 3, 1) := by decide +kernel
theorem dX6_covered_4 : decode cX6_covered 4 = .ok (.iload_n 3, 1) := by decide +kernel
theorem dX6_covered_5 : decode cX6_covered 5 = .ok (.bipush 16, 2) := by decide +kernel
theorem dX6_covered_7 : decode cX6_covered 7 = .ok (.if_icmp .ge 28, 3) := by decide +kernel
theorem dX6_covered_10 : decode cX6_covered 10 = .ok (.iload_n 2, 1) := by decide +kernel
theorem dX6_covered_11 : decode cX6_covered 11 = .ok (.aload_n 0, 1) := by decide +kernel
theorem dX6_covered_12 : decode cX6_covered 12 = .ok (.iload_n 1, 1) := by decide +kernel
theorem dX6_covered_13 : decode cX6_covered 13 = .ok (.iload_n 3, 1) := by decide +kernel
theorem dX6_covered_14 : decode cX6_covered 14 = .ok (.invokevirtual 71, 3) := by decide +kernel
theorem dX6_covered_17 : decode cX6_covered 17 = .ok (.ifCond .eq 9, 3) := by decide +kernel
theorem dX6_covered_20 : decode cX6_covered 20 = .ok (.iconst 1, 1) := by decide +kernel
theorem dX6_covered_21 : decode cX6_covered 21 = .ok (.iload_n 3, 1) := by decide +kernel
theorem dX6_covered_22 : decode cX6_covered 22 = .ok (.ishl, 1) := by decide +kernel
theorem dX6_covered_23 : decode cX6_covered 23 = .ok (.goto 4, 3) := by decide +kernel
theorem dX6_covered_26 : decode cX6_covered 26 = .ok (.iconst 0, 1) := by decide +kernel
theorem dX6_covered_27 : decode cX6_covered 27 = .ok (.ior, 1) := by decide +kernel
theorem dX6_covered_28 : decode cX6_covered 28 = .ok (.istore_n 2, 1) := by decide +kernel
theorem dX6_covered_29 : decode cX6_covered 29 = .ok (.iinc 3 1, 3) := by decide +kernel
theorem dX6_covered_32 : decode cX6_covered 32 = .ok (.goto (-28), 3) := by decide +kernel
theorem dX6_covered_35 : decode cX6_covered 35 = .ok (.iload_n 2, 1) := by decide +kernel
theorem dX6_covered_36 : decode cX6_covered 36 = .ok (.ireturn, 1) := by decide +kernel
theorem dX6_isFree_0 : decode cX6_isFree 0 = .ok (.aload_n 0, 1) := by decide +kernel
theorem dX6_isFree_1 : decode cX6_isFree 1 = .ok (.iload_n 1, 1) := by decide +kernel
theorem dX6_isFree_2 : decode cX6_isFree 2 = .ok (.invokevirtual 45, 3) := by decide +kernel
theorem dX6_isFree_5 : decode cX6_isFree 5 = .ok (.ifCond .eq 20, 3) := by decide +kernel
theorem dX6_isFree_8 : decode cX6_isFree 8 = .ok (.aload_n 0, 1) := by decide +kernel
theorem dX6_isFree_9 : decode cX6_isFree 9 = .ok (.iload_n 1, 1) := by decide +kernel
theorem dX6_isFree_10 : decode cX6_isFree 10 = .ok (.invokevirtual 45, 3) := by decide +kernel
theorem dX6_isFree_13 : decode cX6_isFree 13 = .ok (.iconst 1, 1) := by decide +kernel
theorem dX6_isFree_14 : decode cX6_isFree 14 = .ok (.if_icmp .ne 15, 3) := by decide +kernel
theorem dX6_isFree_17 : decode cX6_isFree 17 = .ok (.aload_n 0, 1) := by decide +kernel
theorem dX6_isFree_18 : decode cX6_isFree 18 = .ok (.iload_n 1, 1) := by decide +kernel
theorem dX6_isFree_19 : decode cX6_isFree 19 = .ok (.invokevirtual 75, 3) := by decide +kernel
theorem dX6_isFree_22 : decode cX6_isFree 22 = .ok (.ifCond .ne 7, 3) := by decide +kernel
theorem dX6_isFree_25 : decode cX6_isFree 25 = .ok (.iconst 1, 1) := by decide +kernel
theorem dX6_isFree_26 : decode cX6_isFree 26 = .ok (.goto 4, 3) := by decide +kernel
theorem dX6_isFree_29 : decode cX6_isFree 29 = .ok (.iconst 0, 1) := by decide +kernel
theorem dX6_isFree_30 : decode cX6_isFree 30 = .ok (.ireturn, 1) := by decide +kernel
theorem dX6_pile_0 : decode cX6_pile 0 = .ok (.aload_n 0, 1) := by decide +kernel
theorem dX6_pile_1 : decode cX6_pile 1 = .ok (.iload_n 1, 1) := by decide +kernel
theorem dX6_pile_2 : decode cX6_pile 2 = .ok (.invokevirtual 45, 3) := by decide +kernel
theorem dX6_pile_5 : decode cX6_pile 5 = .ok (.iconst 1, 1) := by decide +kernel
theorem dX6_pile_6 : decode cX6_pile 6 = .ok (.if_icmp .eq 5, 3) := by decide +kernel
theorem dX6_pile_9 : decode cX6_pile 9 = .ok (.iconst 0, 1) := by decide +kernel
theorem dX6_pile_10 : decode cX6_pile 10 = .ok (.ireturn, 1) := by decide +kernel
theorem dX6_pile_11 : decode cX6_pile 11 = .ok (.iconst 1, 1) := by decide +kernel
theorem dX6_pile_12 : decode cX6_pile 12 = .ok (.iload_n 1, 1) := by decide +kernel
theorem dX6_pile_13 : decode cX6_pile 13 = .ok (.ishl, 1) := by decide +kernel
theorem dX6_pile_14 : decode cX6_pile 14 = .ok (.istore_n 2, 1) := by decide +kernel
theorem dX6_pile_15 : decode cX6_pile 15 = .ok (.iconst 0, 1) := by decide +kernel
theorem dX6_pile_16 : decode cX6_pile 16 = .ok (.istore_n 3, 1) := by decide +kernel
theorem dX6_pile_17 : decode cX6_pile 17 = .ok (.iload_n 2, 1) := by decide +kernel
theorem dX6_pile_18 : decode cX6_pile 18 = .ok (.iload_n 3, 1) := by decide +kernel
theorem dX6_pile_19 : decode cX6_pile 19 = .ok (.if_icmp .eq 54, 3) := by decide +kernel
theorem dX6_pile_22 : decode cX6_pile 22 = .ok (.iload_n 2, 1) := by decide +kernel
theorem dX6_pile_23 : decode cX6_pile 23 = .ok (.istore_n 3, 1) := by decide +kernel
theorem dX6_pile_24 : decode cX6_pile 24 = .ok (.iconst 0, 1) := by decide +kernel
theorem dX6_pile_25 : decode cX6_pile 25 = .ok (.istore 4, 2) := by decide +kernel
theorem dX6_pile_27 : decode cX6_pile 27 = .ok (.iload 4, 2) := by decide +kernel
theorem dX6_pile_29 : decode cX6_pile 29 = .ok (.bipush 16, 2) := by decide +kernel
theorem dX6_pile_31 : decode cX6_pile 31 = .ok (.if_icmp .ge 39, 3) := by decide +kernel
theorem dX6_pile_34 : decode cX6_pile 34 = .ok (.iload_n 2, 1) := by decide +kernel
theorem dX6_pile_35 : decode cX6_pile 35 = .ok (.iload_n 3, 1) := by decide +kernel
theorem dX6_pile_36 : decode cX6_pile 36 = .ok (.iload 4, 2) := by decide +kernel
theorem dX6_pile_38 : decode cX6_pile 38 = .ok (.ishr, 1) := by decide +kernel
theorem dX6_pile_39 : decode cX6_pile 39 = .ok (.iconst 1, 1) := by decide +kernel
theorem dX6_pile_40 : decode cX6_pile 40 = .ok (.iand, 1) := by decide +kernel
theorem dX6_pile_41 : decode cX6_pile 41 = .ok (.iconst 1, 1) := by decide +kernel
theorem dX6_pile_42 : decode cX6_pile 42 = .ok (.if_icmp .ne 19, 3) := by decide +kernel
theorem dX6_pile_45 : decode cX6_pile 45 = .ok (.aload_n 0, 1) := by decide +kernel
theorem dX6_pile_46 : decode cX6_pile 46 = .ok (.iload 4, 2) := by decide +kernel
theorem dX6_pile_48 : decode cX6_pile 48 = .ok (.invokevirtual 75, 3) := by decide +kernel
theorem dX6_pile_51 : decode cX6_pile 51 = .ok (.aload_n 0, 1) := by decide +kernel
theorem dX6_pile_52 : decode cX6_pile 52 = .ok (.iload 4, 2) := by decide +kernel
theorem dX6_pile_54 : decode cX6_pile 54 = .ok (.invokevirtual 78, 3) := by decide +kernel
theorem dX6_pile_57 : decode cX6_pile 57 = .ok (.ior, 1) := by decide +kernel
theorem dX6_pile_58 : decode cX6_pile 58 = .ok (.goto 4, 3) := by decide +kernel
theorem dX6_pile_61 : decode cX6_pile 61 = .ok (.iconst 0, 1) := by decide +kernel
theorem dX6_pile_62 : decode cX6_pile 62 = .ok (.ior, 1) := by decide +kernel
theorem dX6_pile_63 : decode cX6_pile 63 = .ok (.istore_n 2, 1) := by decide +kernel
theorem dX6_pile_64 : decode cX6_pile 64 = .ok (.iinc 4 1, 3) := by decide +kernel
theorem dX6_pile_67 : decode cX6_pile 67 = .ok (.goto (-40), 3) := by decide +kernel
theorem dX6_pile_70 : decode cX6_pile 70 = .ok (.goto (-53), 3) := by decide +kernel
theorem dX6_pile_73 : decode cX6_pile 73 = .ok (.iload_n 2, 1) := by decide +kernel
theorem dX6_pile_74 : decode cX6_pile 74 = .ok (.ireturn, 1) := by decide +kernel
theorem dX6_freeOf_0 : decode cX6_freeOf 0 = .ok (.iconst 0, 1) := by decide +kernel
theorem dX6_freeOf_1 : decode cX6_freeOf 1 = .ok (.istore_n 2, 1) := by decide +kernel
theorem dX6_freeOf_2 : decode cX6_freeOf 2 = .ok (.iload_n 1, 1) := by decide +kernel
theorem dX6_freeOf_3 : decode cX6_freeOf 3 = .ok (.istore_n 3, 1) := by decide +kernel
theorem dX6_freeOf_4 : decode cX6_freeOf 4 = .ok (.iload_n 3, 1) := by decide +kernel
theorem dX6_freeOf_5 : decode cX6_freeOf 5 = .ok (.bipush 16, 2) := by decide +kernel
theorem dX6_freeOf_7 : decode cX6_freeOf 7 = .ok (.if_icmp .ge 27, 3) := by decide +kernel
theorem dX6_freeOf_10 : decode cX6_freeOf 10 = .ok (.iload_n 2, 1) := by decide +kernel
theorem dX6_freeOf_11 : decode cX6_freeOf 11 = .ok (.aload_n 0, 1) := by decide +kernel
theorem dX6_freeOf_12 : decode cX6_freeOf 12 = .ok (.iload_n 3, 1) := by decide +kernel
theorem dX6_freeOf_13 : decode cX6_freeOf 13 = .ok (.invokevirtual 81, 3) := by decide +kernel
theorem dX6_freeOf_16 : decode cX6_freeOf 16 = .ok (.ifCond .eq 9, 3) := by decide +kernel
theorem dX6_freeOf_19 : decode cX6_freeOf 19 = .ok (.iconst 1, 1) := by decide +kernel
theorem dX6_freeOf_20 : decode cX6_freeOf 20 = .ok (.iload_n 3, 1) := by decide +kernel
theorem dX6_freeOf_21 : decode cX6_freeOf 21 = .ok (.ishl, 1) := by decide +kernel
theorem dX6_freeOf_22 : decode cX6_freeOf 22 = .ok (.goto 4, 3) := by decide +kernel
theorem dX6_freeOf_25 : decode cX6_freeOf 25 = .ok (.iconst 0, 1) := by decide +kernel
theorem dX6_freeOf_26 : decode cX6_freeOf 26 = .ok (.ior, 1) := by decide +kernel
theorem dX6_freeOf_27 : decode cX6_freeOf 27 = .ok (.istore_n 2, 1) := by decide +kernel
theorem dX6_freeOf_28 : decode cX6_freeOf 28 = .ok (.iinc 3 4, 3) := by decide +kernel
theorem dX6_freeOf_31 : decode cX6_freeOf 31 = .ok (.goto (-27), 3) := by decide +kernel
theorem dX6_freeOf_34 : decode cX6_freeOf 34 = .ok (.iload_n 2, 1) := by decide +kernel
theorem dX6_freeOf_35 : decode cX6_freeOf 35 = .ok (.ireturn, 1) := by decide +kernel
theorem dX6_allIn_0 : decode cX6_allIn 0 = .ok (.aload_n 0, 1) := by decide +kernel
theorem dX6_allIn_1 : decode cX6_allIn 1 = .ok (.iload_n 1, 1) := by decide +kernel
theorem dX6_allIn_2 : decode cX6_allIn 2 = .ok (.invokevirtual 45, 3) := by decide +kernel
theorem dX6_allIn_5 : decode cX6_allIn 5 = .ok (.iconst 2, 1) := by decide +kernel
theorem dX6_allIn_6 : decode cX6_allIn 6 = .ok (.if_icmp .ne 42, 3) := by decide +kernel
theorem dX6_allIn_9 : decode cX6_allIn 9 = .ok (.aload_n 0, 1) := by decide +kernel
theorem dX6_allIn_10 : decode cX6_allIn 10 = .ok (.iload_n 1, 1) := by decide +kernel
theorem dX6_allIn_11 : decode cX6_allIn 11 = .ok (.iconst 4, 1) := by decide +kernel
theorem dX6_allIn_12 : decode cX6_allIn 12 = .ok (.iadd, 1) := by decide +kernel
theorem dX6_allIn_13 : decode cX6_allIn 13 = .ok (.invokevirtual 45, 3) := by decide +kernel
theorem dX6_allIn_16 : decode cX6_allIn 16 = .ok (.iconst 2, 1) := by decide +kernel
theorem dX6_allIn_17 : decode cX6_allIn 17 = .ok (.if_icmp .ne 31, 3) := by decide +kernel
theorem dX6_allIn_20 : decode cX6_allIn 20 = .ok (.aload_n 0, 1) := by decide +kernel
theorem dX6_allIn_21 : decode cX6_allIn 21 = .ok (.iload_n 1, 1) := by decide +kernel
theorem dX6_allIn_22 : decode cX6_allIn 22 = .ok (.bipush 8, 2) := by decide +kernel
theorem dX6_allIn_24 : decode cX6_allIn 24 = .ok (.iadd, 1) := by decide +kernel
theorem dX6_allIn_25 : decode cX6_allIn 25 = .ok (.invokevirtual 45, 3) := by decide +kernel
theorem dX6_allIn_28 : decode cX6_allIn 28 = .ok (.iconst 2, 1) := by decide +kernel
theorem dX6_allIn_29 : decode cX6_allIn 29 = .ok (.if_icmp .ne 19, 3) := by decide +kernel
theorem dX6_allIn_32 : decode cX6_allIn 32 = .ok (.aload_n 0, 1) := by decide +kernel
theorem dX6_allIn_33 : decode cX6_allIn 33 = .ok (.iload_n 1, 1) := by decide +kernel
theorem dX6_allIn_34 : decode cX6_allIn 34 = .ok (.bipush 12, 2) := by decide +kernel
theorem dX6_allIn_36 : decode cX6_allIn 36 = .ok (.iadd, 1) := by decide +kernel
theorem dX6_allIn_37 : decode cX6_allIn 37 = .ok (.invokevirtual 45, 3) := by decide +kernel
theorem dX6_allIn_40 : decode cX6_allIn 40 = .ok (.iconst 2, 1) := by decide +kernel
theorem dX6_allIn_41 : decode cX6_allIn 41 = .ok (.if_icmp .ne 7, 3) := by decide +kernel
theorem dX6_allIn_44 : decode cX6_allIn 44 = .ok (.iconst 1, 1) := by decide +kernel
theorem dX6_allIn_45 : decode cX6_allIn 45 = .ok (.goto 4, 3) := by decide +kernel
theorem dX6_allIn_48 : decode cX6_allIn 48 = .ok (.iconst 0, 1) := by decide +kernel
theorem dX6_allIn_49 : decode cX6_allIn 49 = .ok (.ireturn, 1) := by decide +kernel
theorem dX6_isOver_0 : decode cX6_isOver 0 = .ok (.aload_n 0, 1) := by decide +kernel
theorem dX6_isOver_1 : decode cX6_isOver 1 = .ok (.invokevirtual 84, 3) := by decide +kernel
theorem dX6_isOver_4 : decode cX6_isOver 4 = .ok (.ifCond .eq 18, 3) := by decide +kernel
theorem dX6_isOver_7 : decode cX6_isOver 7 = .ok (.aload_n 0, 1) := by decide +kernel
theorem dX6_isOver_8 : decode cX6_isOver 8 = .ok (.bipush 67, 2) := by decide +kernel
theorem dX6_isOver_10 : decode cX6_isOver 10 = .ok (.invokevirtual 41, 3) := by decide +kernel
theorem dX6_isOver_13 : decode cX6_isOver 13 = .ok (.bipush 6, 2) := by decide +kernel
theorem dX6_isOver_15 : decode cX6_isOver 15 = .ok (.if_icmp .lt 7, 3) := by decide +kernel
theorem dX6_isOver_18 : decode cX6_isOver 18 = .ok (.iconst 1, 1) := by decide +kernel
theorem dX6_isOver_19 : decode cX6_isOver 19 = .ok (.goto 4, 3) := by decide +kernel
theorem dX6_isOver_22 : decode cX6_isOver 22 = .ok (.iconst 0, 1) := by decide +kernel
theorem dX6_isOver_23 : decode cX6_isOver 23 = .ok (.istore_n 1, 1) := by decide +kernel
theorem dX6_isOver_24 : decode cX6_isOver 24 = .ok (.iconst 0, 1) := by decide +kernel
theorem dX6_isOver_25 : decode cX6_isOver 25 = .ok (.istore_n 2, 1) := by decide +kernel
theorem dX6_isOver_26 : decode cX6_isOver 26 = .ok (.iconst 0, 1) := by decide +kernel
theorem dX6_isOver_27 : decode cX6_isOver 27 = .ok (.istore_n 3, 1) := by decide +kernel
theorem dX6_isOver_28 : decode cX6_isOver 28 = .ok (.iload_n 3, 1) := by decide +kernel
theorem dX6_isOver_29 : decode cX6_isOver 29 = .ok (.iconst 4, 1) := by decide +kernel
theorem dX6_isOver_30 : decode cX6_isOver 30 = .ok (.if_icmp .ge 45, 3) := by decide +kernel
theorem dX6_isOver_33 : decode cX6_isOver 33 = .ok (.iload_n 1, 1) := by decide +kernel
theorem dX6_isOver_34 : decode cX6_isOver 34 = .ok (.ifCond .ne 11, 3) := by decide +kernel
theorem dX6_isOver_37 : decode cX6_isOver 37 = .ok (.aload_n 0, 1) := by decide +kernel
theorem dX6_isOver_38 : decode cX6_isOver 38 = .ok (.iload_n 3, 1) := by decide +kernel
theorem dX6_isOver_39 : decode cX6_isOver 39 = .ok (.invokevirtual 88, 3) := by decide +kernel
theorem dX6_isOver_42 : decode cX6_isOver 42 = .ok (.ifCond .eq 7, 3) := by decide +kernel
theorem dX6_isOver_45 : decode cX6_isOver 45 = .ok (.iconst 1, 1) := by decide +kernel
theorem dX6_isOver_46 : decode cX6_isOver 46 = .ok (.goto 4, 3) := by decide +kernel
theorem dX6_isOver_49 : decode cX6_isOver 49 = .ok (.iconst 0, 1) := by decide +kernel
theorem dX6_isOver_50 : decode cX6_isOver 50 = .ok (.istore_n 1, 1) := by decide +kernel
theorem dX6_isOver_51 : decode cX6_isOver 51 = .ok (.iload_n 2, 1) := by decide +kernel
theorem dX6_isOver_52 : decode cX6_isOver 52 = .ok (.ifCond .ne 11, 3) := by decide +kernel
theorem dX6_isOver_55 : decode cX6_isOver 55 = .ok (.aload_n 0, 1) := by decide +kernel
theorem dX6_isOver_56 : decode cX6_isOver 56 = .ok (.iload_n 3, 1) := by decide +kernel
theorem dX6_isOver_57 : decode cX6_isOver 57 = .ok (.invokevirtual 91, 3) := by decide +kernel
theorem dX6_isOver_60 : decode cX6_isOver 60 = .ok (.ifCond .eq 7, 3) := by decide +kernel
theorem dX6_isOver_63 : decode cX6_isOver 63 = .ok (.iconst 1, 1) := by decide +kernel
theorem dX6_isOver_64 : decode cX6_isOver 64 = .ok (.goto 4, 3) := by decide +kernel
theorem dX6_isOver_67 : decode cX6_isOver 67 = .ok (.iconst 0, 1) := by decide +kernel
theorem dX6_isOver_68 : decode cX6_isOver 68 = .ok (.istore_n 2, 1) := by decide +kernel
theorem dX6_isOver_69 : decode cX6_isOver 69 = .ok (.iinc 3 1, 3) := by decide +kernel
theorem dX6_isOver_72 : decode cX6_isOver 72 = .ok (.goto (-44), 3) := by decide +kernel
theorem dX6_isOver_75 : decode cX6_isOver 75 = .ok (.iload_n 1, 1) := by decide +kernel
theorem dX6_isOver_76 : decode cX6_isOver 76 = .ok (.ifCond .ne 7, 3) := by decide +kernel
theorem dX6_isOver_79 : decode cX6_isOver 79 = .ok (.iload_n 2, 1) := by decide +kernel
theorem dX6_isOver_80 : decode cX6_isOver 80 = .ok (.ifCond .ne 7, 3) := by decide +kernel
theorem dX6_isOver_83 : decode cX6_isOver 83 = .ok (.iconst 1, 1) := by decide +kernel
theorem dX6_isOver_84 : decode cX6_isOver 84 = .ok (.goto 4, 3) := by decide +kernel
theorem dX6_isOver_87 : decode cX6_isOver 87 = .ok (.iconst 0, 1) := by decide +kernel
theorem dX6_isOver_88 : decode cX6_isOver 88 = .ok (.ireturn, 1) := by decide +kernel
theorem dX6_next_0 : decode cX6_next 0 = .ok (.iload_n 1, 1) := by decide +kernel
theorem dX6_next_1 : decode cX6_next 1 = .ok (.iconst 3, 1) := by decide +kernel
theorem dX6_next_2 : decode cX6_next 2 = .ok (.if_icmp .ge 7, 3) := by decide +kernel
theorem dX6_next_5 : decode cX6_next 5 = .ok (.iload_n 1, 1) := by decide +kernel
theorem dX6_next_6 : decode cX6_next 6 = .ok (.iconst 1, 1) := by decide +kernel
theorem dX6_next_7 : decode cX6_next 7 = .ok (.iadd, 1) := by decide +kernel
theorem dX6_next_8 : decode cX6_next 8 = .ok (.ireturn, 1) := by decide +kernel
theorem dX6_next_9 : decode cX6_next 9 = .ok (.aload_n 0, 1) := by decide +kernel
theorem dX6_next_10 : decode cX6_next 10 = .ok (.bipush 67, 2) := by decide +kernel
theorem dX6_next_12 : decode cX6_next 12 = .ok (.aload_n 0, 1) := by decide +kernel
theorem dX6_next_13 : decode cX6_next 13 = .ok (.bipush 67, 2) := by decide +kernel
theorem dX6_next_15 : decode cX6_next 15 = .ok (.invokevirtual 41, 3) := by decide +kernel
theorem dX6_next_18 : decode cX6_next 18 = .ok (.iload_n 2, 1) := by decide +kernel
theorem dX6_next_19 : decode cX6_next 19 = .ok (.ifCond .eq 14, 3) := by decide +kernel
theorem dX6_next_22 : decode cX6_next 22 = .ok (.aload_n 0, 1) := by decide +kernel
theorem dX6_next_23 : decode cX6_next 23 = .ok (.invokevirtual 84, 3) := by decide +kernel
theorem dX6_next_26 : decode cX6_next 26 = .ok (.ifCond .eq 7, 3) := by decide +kernel
theorem dX6_next_29 : decode cX6_next 29 = .ok (.iconst 1, 1) := by decide +kernel
theorem dX6_next_30 : decode cX6_next 30 = .ok (.goto 4, 3) := by decide +kernel
theorem dX6_next_33 : decode cX6_next 33 = .ok (.iconst 0, 1) := by decide +kernel
theorem dX6_next_34 : decode cX6_next 34 = .ok (.iadd, 1) := by decide +kernel
theorem dX6_next_35 : decode cX6_next 35 = .ok (.invokevirtual 54, 3) := by decide +kernel
theorem dX6_next_38 : decode cX6_next 38 = .ok (.iconst 0, 1) := by decide +kernel
theorem dX6_next_39 : decode cX6_next 39 = .ok (.ireturn, 1) := by decide +kernel
theorem dX6_passOver_0 : decode cX6_passOver 0 = .ok (.iload_n 1, 1) := by decide +kernel
theorem dX6_passOver_1 : decode cX6_passOver 1 = .ok (.istore_n 3, 1) := by decide +kernel
theorem dX6_passOver_2 : decode cX6_passOver 2 = .ok (.iconst 0, 1) := by decide +kernel
theorem dX6_passOver_3 : decode cX6_passOver 3 = .ok (.istore 4, 2) := by decide +kernel
theorem dX6_passOver_5 : decode cX6_passOver 5 = .ok (.iload 4, 2) := by decide +kernel
theorem dX6_passOver_7 : decode cX6_passOver 7 = .ok (.iconst 3, 1) := by decide +kernel
theorem dX6_passOver_8 : decode cX6_passOver 8 = .ok (.if_icmp .ge 24, 3) := by decide +kernel
theorem dX6_passOver_11 : decode cX6_passOver 11 = .ok (.aload_n 0, 1) := by decide +kernel
theorem dX6_passOver_12 : decode cX6_passOver 12 = .ok (.iload_n 3, 1) := by decide +kernel
theorem dX6_passOver_13 : decode cX6_passOver 13 = .ok (.invokevirtual 91, 3) := by decide +kernel
theorem dX6_passOver_16 : decode cX6_passOver 16 = .ok (.ifCond .ne 16, 3) := by decide +kernel
theorem dX6_passOver_19 : decode cX6_passOver 19 = .ok (.aload_n 0, 1) := by decide +kernel
theorem dX6_passOver_20 : decode cX6_passOver 20 = .ok (.iload_n 3, 1) := by decide +kernel
theorem dX6_passOver_21 : decode cX6_passOver 21 = .ok (.iload_n 2, 1) := by decide +kernel
theorem dX6_passOver_22 : decode cX6_passOver 22 = .ok (.invokevirtual 94, 3) := by decide +kernel
theorem dX6_passOver_25 : decode cX6_passOver 25 = .ok (.istore_n 3, 1) := by decide +kernel
theorem dX6_passOver_26 : decode cX6_passOver 26 = .ok (.iinc 4 1, 3) := by decide +kernel
theorem dX6_passOver_29 : decode cX6_passOver 29 = .ok (.goto (-24), 3) := by decide +kernel
theorem dX6_passOver_32 : decode cX6_passOver 32 = .ok (.aload_n 0, 1) := by decide +kernel
theorem dX6_passOver_33 : decode cX6_passOver 33 = .ok (.bipush 64, 2) := by decide +kernel
theorem dX6_passOver_35 : decode cX6_passOver 35 = .ok (.iload_n 3, 1) := by decide +kernel
theorem dX6_passOver_36 : decode cX6_passOver 36 = .ok (.invokevirtual 54, 3) := by decide +kernel
theorem dX6_passOver_39 : decode cX6_passOver 39 = .ok (.return_, 1) := by decide +kernel
theorem dX6_goOn_0 : decode cX6_goOn 0 = .ok (.aload_n 0, 1) := by decide +kernel
theorem dX6_goOn_1 : decode cX6_goOn 1 = .ok (.bipush 65, 2) := by decide +kernel
theorem dX6_goOn_3 : decode cX6_goOn 3 = .ok (.aload_n 0, 1) := by decide +kernel
theorem dX6_goOn_4 : decode cX6_goOn 4 = .ok (.invokevirtual 98, 3) := by decide +kernel
theorem dX6_goOn_7 : decode cX6_goOn 7 = .ok (.iconst 1, 1) := by decide +kernel
theorem dX6_goOn_8 : decode cX6_goOn 8 = .ok (.iadd, 1) := by decide +kernel
theorem dX6_goOn_9 : decode cX6_goOn 9 = .ok (.invokevirtual 54, 3) := by decide +kernel
theorem dX6_goOn_12 : decode cX6_goOn 12 = .ok (.aload_n 0, 1) := by decide +kernel
theorem dX6_goOn_13 : decode cX6_goOn 13 = .ok (.invokevirtual 98, 3) := by decide +kernel
theorem dX6_goOn_16 : decode cX6_goOn 16 = .ok (.aload_n 0, 1) := by decide +kernel
theorem dX6_goOn_17 : decode cX6_goOn 17 = .ok (.getfield 7, 3) := by decide +kernel
theorem dX6_goOn_20 : decode cX6_goOn 20 = .ok (.bipush 71, 2) := by decide +kernel
theorem dX6_goOn_22 : decode cX6_goOn 22 = .ok (.iaload, 1) := by decide +kernel
theorem dX6_goOn_23 : decode cX6_goOn 23 = .ok (.if_icmp .lt 10, 3) := by decide +kernel
theorem dX6_goOn_26 : decode cX6_goOn 26 = .ok (.aload_n 0, 1) := by decide +kernel
theorem dX6_goOn_27 : decode cX6_goOn 27 = .ok (.bipush 66, 2) := by decide +kernel
theorem dX6_goOn_29 : decode cX6_goOn 29 = .ok (.iconst 1, 1) := by decide +kernel
theorem dX6_goOn_30 : decode cX6_goOn 30 = .ok (.invokevirtual 54, 3) := by decide +kernel
theorem dX6_goOn_33 : decode cX6_goOn 33 = .ok (.aload_n 0, 1) := by decide +kernel
theorem dX6_goOn_34 : decode cX6_goOn 34 = .ok (.iload_n 1, 1) := by decide +kernel
theorem dX6_goOn_35 : decode cX6_goOn 35 = .ok (.ifCond .eq 10, 3) := by decide +kernel
theorem dX6_goOn_38 : decode cX6_goOn 38 = .ok (.aload_n 0, 1) := by decide +kernel
theorem dX6_goOn_39 : decode cX6_goOn 39 = .ok (.invokevirtual 102, 3) := by decide +kernel
theorem dX6_goOn_42 : decode cX6_goOn 42 = .ok (.goto 12, 3) := by decide +kernel
theorem dX6_goOn_45 : decode cX6_goOn 45 = .ok (.aload_n 0, 1) := by decide +kernel
theorem dX6_goOn_46 : decode cX6_goOn 46 = .ok (.aload_n 0, 1) := by decide +kernel
theorem dX6_goOn_47 : decode cX6_goOn 47 = .ok (.invokevirtual 102, 3) := by decide +kernel
theorem dX6_goOn_50 : decode cX6_goOn 50 = .ok (.iconst 1, 1) := by decide +kernel
theorem dX6_goOn_51 : decode cX6_goOn 51 = .ok (.invokevirtual 94, 3) := by decide +kernel
theorem dX6_goOn_54 : decode cX6_goOn 54 = .ok (.iconst 1, 1) := by decide +kernel
theorem dX6_goOn_55 : decode cX6_goOn 55 = .ok (.invokevirtual 105, 3) := by decide +kernel
theorem dX6_goOn_58 : decode cX6_goOn 58 = .ok (.return_, 1) := by decide +kernel
theorem dX6_anew_0 : decode cX6_anew 0 = .ok (.aload_n 0, 1) := by decide +kernel
theorem dX6_anew_1 : decode cX6_anew 1 = .ok (.invokevirtual 98, 3) := by decide +kernel
theorem dX6_anew_4 : decode cX6_anew 4 = .ok (.istore_n 1, 1) := by decide +kernel
theorem dX6_anew_5 : decode cX6_anew 5 = .ok (.aload_n 0, 1) := by decide +kernel
theorem dX6_anew_6 : decode cX6_anew 6 = .ok (.invokevirtual 34, 3) := by decide +kernel
theorem dX6_anew_9 : decode cX6_anew 9 = .ok (.iload_n 1, 1) := by decide +kernel
theorem dX6_anew_10 : decode cX6_anew 10 = .ok (.ireturn, 1) := by decide +kernel
theorem dX6_rule_0 : decode cX6_rule 0 = .ok (.iload_n 1, 1) := by decide +kernel
theorem dX6_rule_1 : decode cX6_rule 1 = .ok (.ifCond .eq 8, 3) := by decide +kernel
theorem dX6_rule_4 : decode cX6_rule 4 = .ok (.iload_n 1, 1) := by decide +kernel
theorem dX6_rule_5 : decode cX6_rule 5 = .ok (.iconst 1, 1) := by decide +kernel
theorem dX6_rule_6 : decode cX6_rule 6 = .ok (.if_icmp .ne 12, 3) := by decide +kernel
theorem dX6_rule_9 : decode cX6_rule 9 = .ok (.iload_n 2, 1) := by decide +kernel
theorem dX6_rule_10 : decode cX6_rule 10 = .ok (.iconst 0, 1) := by decide +kernel
theorem dX6_rule_11 : decode cX6_rule 11 = .ok (.iconst 5, 1) := by decide +kernel
theorem dX6_rule_12 : decode cX6_rule 12 = .ok (.invokestatic 109, 3) := by decide +kernel
theorem dX6_rule_15 : decode cX6_rule 15 = .ok (.goto 25, 3) := by decide +kernel
theorem dX6_rule_18 : decode cX6_rule 18 = .ok (.iload_n 1, 1) := by decide +kernel
theorem dX6_rule_19 : decode cX6_rule 19 = .ok (.iconst 2, 1) := by decide +kernel
theorem dX6_rule_20 : decode cX6_rule 20 = .ok (.if_icmp .ne 19, 3) := by decide +kernel
theorem dX6_rule_23 : decode cX6_rule 23 = .ok (.iload_n 2, 1) := by decide +kernel
theorem dX6_rule_24 : decode cX6_rule 24 = .ok (.bipush 10, 2) := by decide +kernel
theorem dX6_rule_26 : decode cX6_rule 26 = .ok (.sipush 400, 3) := by decide +kernel
theorem dX6_rule_29 : decode cX6_rule 29 = .ok (.invokestatic 109, 3) := by decide +kernel
theorem dX6_rule_32 : decode cX6_rule 32 = .ok (.ifCond .eq 7, 3) := by decide +kernel
theorem dX6_rule_35 : decode cX6_rule 35 = .ok (.iconst 1, 1) := by decide +kernel
theorem dX6_rule_36 : decode cX6_rule 36 = .ok (.goto 4, 3) := by decide +kernel
theorem dX6_rule_39 : decode cX6_rule 39 = .ok (.iconst 0, 1) := by decide +kernel
theorem dX6_rule_40 : decode cX6_rule 40 = .ok (.istore_n 3, 1) := by decide +kernel
theorem dX6_rule_41 : decode cX6_rule 41 = .ok (.iload_n 3, 1) := by decide +kernel
theorem dX6_rule_42 : decode cX6_rule 42 = .ok (.ifCond .ne 5, 3) := by decide +kernel
theorem dX6_rule_45 : decode cX6_rule 45 = .ok (.iconst (-1), 1) := by decide +kernel
theorem dX6_rule_46 : decode cX6_rule 46 = .ok (.ireturn, 1) := by decide +kernel
theorem dX6_rule_47 : decode cX6_rule 47 = .ok (.iload_n 1, 1) := by decide +kernel
theorem dX6_rule_48 : decode cX6_rule 48 = .ok (.iconst 2, 1) := by decide +kernel
theorem dX6_rule_49 : decode cX6_rule 49 = .ok (.if_icmp .ne 14, 3) := by decide +kernel
theorem dX6_rule_52 : decode cX6_rule 52 = .ok (.iload_n 2, 1) := by decide +kernel
theorem dX6_rule_53 : decode cX6_rule 53 = .ok (.aload_n 0, 1) := by decide +kernel
theorem dX6_rule_54 : decode cX6_rule 54 = .ok (.invokevirtual 98, 3) := by decide +kernel
theorem dX6_rule_57 : decode cX6_rule 57 = .ok (.if_icmp .ge 6, 3) := by decide +kernel
theorem dX6_rule_60 : decode cX6_rule 60 = .ok (.bipush (-2), 2) := by decide +kernel
theorem dX6_rule_62 : decode cX6_rule 62 = .ok (.ireturn, 1) := by decide +kernel
theorem dX6_rule_63 : decode cX6_rule 63 = .ok (.aload_n 0, 1) := by decide +kernel
theorem dX6_rule_64 : decode cX6_rule 64 = .ok (.getfield 7, 3) := by decide +kernel
theorem dX6_rule_67 : decode cX6_rule 67 = .ok (.bipush 69, 2) := by decide +kernel
theorem dX6_rule_69 : decode cX6_rule 69 = .ok (.iload_n 1, 1) := by decide +kernel
theorem dX6_rule_70 : decode cX6_rule 70 = .ok (.iadd, 1) := by decide +kernel
theorem dX6_rule_71 : decode cX6_rule 71 = .ok (.iaload, 1) := by decide +kernel
theorem dX6_rule_72 : decode cX6_rule 72 = .ok (.istore 4, 2) := by decide +kernel
theorem dX6_rule_74 : decode cX6_rule 74 = .ok (.aload_n 0, 1) := by decide +kernel
theorem dX6_rule_75 : decode cX6_rule 75 = .ok (.getfield 7, 3) := by decide +kernel
theorem dX6_rule_78 : decode cX6_rule 78 = .ok (.bipush 69, 2) := by decide +kernel
theorem dX6_rule_80 : decode cX6_rule 80 = .ok (.iload_n 1, 1) := by decide +kernel
theorem dX6_rule_81 : decode cX6_rule 81 = .ok (.iadd, 1) := by decide +kernel
theorem dX6_rule_82 : decode cX6_rule 82 = .ok (.iload_n 2, 1) := by decide +kernel
theorem dX6_rule_83 : decode cX6_rule 83 = .ok (.iastore, 1) := by decide +kernel
theorem dX6_rule_84 : decode cX6_rule 84 = .ok (.iload_n 1, 1) := by decide +kernel
theorem dX6_rule_85 : decode cX6_rule 85 = .ok (.iconst 2, 1) := by decide +kernel
theorem dX6_rule_86 : decode cX6_rule 86 = .ok (.if_icmp .ne 78, 3) := by decide +kernel
theorem dX6_rule_89 : decode cX6_rule 89 = .ok (.aload_n 0, 1) := by decide +kernel
theorem dX6_rule_90 : decode cX6_rule 90 = .ok (.invokevirtual 98, 3) := by decide +kernel
theorem dX6_rule_93 : decode cX6_rule 93 = .ok (.iload_n 2, 1) := by decide +kernel
theorem dX6_rule_94 : decode cX6_rule 94 = .ok (.if_icmp .lt 7, 3) := by decide +kernel
theorem dX6_rule_97 : decode cX6_rule 97 = .ok (.iconst 1, 1) := by decide +kernel
theorem dX6_rule_98 : decode cX6_rule 98 = .ok (.goto 4, 3) := by decide +kernel
theorem dX6_rule_101 : decode cX6_rule 101 = .ok (.iconst 0, 1) := by decide +kernel
theorem dX6_rule_102 : decode cX6_rule 102 = .ok (.istore 5, 2) := by decide +kernel
theorem dX6_rule_104 : decode cX6_rule 104 = .ok (.aload_n 0, 1) := by decide +kernel
theorem dX6_rule_105 : decode cX6_rule 105 = .ok (.bipush 67, 2) := by decide +kernel
theorem dX6_rule_107 : decode cX6_rule 107 = .ok (.iload 5, 2) := by decide +kernel
theorem dX6_rule_109 : decode cX6_rule 109 = .ok (.ifCond .eq 19, 3) := by decide +kernel
theorem dX6_rule_112 : decode cX6_rule 112 = .ok (.aload_n 0, 1) := by decide +kernel
theorem dX6_rule_113 : decode cX6_rule 113 = .ok (.invokevirtual 84, 3) := by decide +kernel
theorem dX6_rule_116 : decode cX6_rule 116 = .ok (.ifCond .eq 12, 3) := by decide +kernel
theorem dX6_rule_119 : decode cX6_rule 119 = .ok (.aload_n 0, 1) := by decide +kernel
theorem dX6_rule_120 : decode cX6_rule 120 = .ok (.bipush 67, 2) := by decide +kernel
theorem dX6_rule_122 : decode cX6_rule 122 = .ok (.invokevirtual 41, 3) := by decide +kernel
theorem dX6_rule_125 : decode cX6_rule 125 = .ok (.goto 4, 3) := by decide +kernel
theorem dX6_rule_128 : decode cX6_rule 128 = .ok (.iconst 0, 1) := by decide +kernel
theorem dX6_rule_129 : decode cX6_rule 129 = .ok (.invokevirtual 54, 3) := by decide +kernel
theorem dX6_rule_132 : decode cX6_rule 132 = .ok (.aload_n 0, 1) := by decide +kernel
theorem dX6_rule_133 : decode cX6_rule 133 = .ok (.bipush 66, 2) := by decide +kernel
theorem dX6_rule_135 : decode cX6_rule 135 = .ok (.iload 5, 2) := by decide +kernel
theorem dX6_rule_137 : decode cX6_rule 137 = .ok (.ifCond .eq 7, 3) := by decide +kernel
theorem dX6_rule_140 : decode cX6_rule 140 = .ok (.iconst 1, 1) := by decide +kernel
theorem dX6_rule_141 : decode cX6_rule 141 = .ok (.goto 4, 3) := by decide +kernel
theorem dX6_rule_144 : decode cX6_rule 144 = .ok (.iconst 0, 1) := by decide +kernel
theorem dX6_rule_145 : decode cX6_rule 145 = .ok (.invokevirtual 54, 3) := by decide +kernel
theorem dX6_rule_148 : decode cX6_rule 148 = .ok (.aload_n 0, 1) := by decide +kernel
theorem dX6_rule_149 : decode cX6_rule 149 = .ok (.invokevirtual 113, 3) := by decide +kernel
theorem dX6_rule_152 : decode cX6_rule 152 = .ok (.ifCond .ne 12, 3) := by decide +kernel
theorem dX6_rule_155 : decode cX6_rule 155 = .ok (.aload_n 0, 1) := by decide +kernel
theorem dX6_rule_156 : decode cX6_rule 156 = .ok (.aload_n 0, 1) := by decide +kernel
theorem dX6_rule_157 : decode cX6_rule 157 = .ok (.invokevirtual 102, 3) := by decide +kernel
theorem dX6_rule_160 : decode cX6_rule 160 = .ok (.iconst 0, 1) := by decide +kernel
theorem dX6_rule_161 : decode cX6_rule 161 = .ok (.invokevirtual 105, 3) := by decide +kernel
theorem dX6_rule_164 : decode cX6_rule 164 = .ok (.iload 4, 2) := by decide +kernel
theorem dX6_rule_166 : decode cX6_rule 166 = .ok (.ireturn, 1) := by decide +kernel
theorem dX6_seed_0 : decode cX6_seed 0 = .ok (.iload_n 1, 1) := by decide +kernel
theorem dX6_seed_1 : decode cX6_seed 1 = .ok (.iconst 1, 1) := by decide +kernel
theorem dX6_seed_2 : decode cX6_seed 2 = .ok (.ldc 116, 2) := by decide +kernel
theorem dX6_seed_4 : decode cX6_seed 4 = .ok (.invokestatic 109, 3) := by decide +kernel
theorem dX6_seed_7 : decode cX6_seed 7 = .ok (.ifCond .ne 5, 3) := by decide +kernel
theorem dX6_seed_10 : decode cX6_seed 10 = .ok (.iconst (-1), 1) := by decide +kernel
theorem dX6_seed_11 : decode cX6_seed 11 = .ok (.ireturn, 1) := by decide +kernel
theorem dX6_seed_12 : decode cX6_seed 12 = .ok (.aload_n 0, 1) := by decide +kernel
theorem dX6_seed_13 : decode cX6_seed 13 = .ok (.getfield 7, 3) := by decide +kernel
theorem dX6_seed_16 : decode cX6_seed 16 = .ok (.bipush 72, 2) := by decide +kernel
theorem dX6_seed_18 : decode cX6_seed 18 = .ok (.iload_n 1, 1) := by decide +kernel
theorem dX6_seed_19 : decode cX6_seed 19 = .ok (.iastore, 1) := by decide +kernel
theorem dX6_seed_20 : decode cX6_seed 20 = .ok (.iconst 0, 1) := by decide +kernel
theorem dX6_seed_21 : decode cX6_seed 21 = .ok (.ireturn, 1) := by decide +kernel
theorem dX6_isDisc_0 : decode cX6_isDisc 0 = .ok (.iload_n 0, 1) := by decide +kernel
theorem dX6_isDisc_1 : decode cX6_isDisc 1 = .ok (.iconst 0, 1) := by decide +kernel
theorem dX6_isDisc_2 : decode cX6_isDisc 2 = .ok (.bipush 15, 2) := by decide +kernel
theorem dX6_isDisc_4 : decode cX6_isDisc 4 = .ok (.invokestatic 109, 3) := by decide +kernel
theorem dX6_isDisc_7 : decode cX6_isDisc 7 = .ok (.ireturn, 1) := by decide +kernel
theorem dX6_isSpot_0 : decode cX6_isSpot 0 = .ok (.iload_n 0, 1) := by decide +kernel
theorem dX6_isSpot_1 : decode cX6_isSpot 1 = .ok (.iconst 0, 1) := by decide +kernel
theorem dX6_isSpot_2 : decode cX6_isSpot 2 = .ok (.bipush 40, 2) := by decide +kernel
theorem dX6_isSpot_4 : decode cX6_isSpot 4 = .ok (.invokestatic 109, 3) := by decide +kernel
theorem dX6_isSpot_7 : decode cX6_isSpot 7 = .ok (.ifCond .eq 17, 3) := by decide +kernel
theorem dX6_isSpot_10 : decode cX6_isSpot 10 = .ok (.iload_n 1, 1) := by decide +kernel
theorem dX6_isSpot_11 : decode cX6_isSpot 11 = .ok (.iconst 0, 1) := by decide +kernel
theorem dX6_isSpot_12 : decode cX6_isSpot 12 = .ok (.bipush 40, 2) := by decide +kernel
theorem dX6_isSpot_14 : decode cX6_isSpot 14 = .ok (.invokestatic 109, 3) := by decide +kernel
theorem dX6_isSpot_17 : decode cX6_isSpot 17 = .ok (.ifCond .eq 7, 3) := by decide +kernel
theorem dX6_isSpot_20 : decode cX6_isSpot 20 = .ok (.iconst 1, 1) := by decide +kernel
theorem dX6_isSpot_21 : decode cX6_isSpot 21 = .ok (.goto 4, 3) := by decide +kernel
theorem dX6_isSpot_24 : decode cX6_isSpot 24 = .ok (.iconst 0, 1) := by decide +kernel
theorem dX6_isSpot_25 : decode cX6_isSpot 25 = .ok (.ireturn, 1) := by decide +kernel
theorem dX6_isCup_0 : decode cX6_isCup 0 = .ok (.iload_n 0, 1) := by decide +kernel
theorem dX6_isCup_1 : decode cX6_isCup 1 = .ok (.bipush 41, 2) := by decide +kernel
theorem dX6_isCup_3 : decode cX6_isCup 3 = .ok (.if_icmp .ne 13, 3) := by decide +kernel
theorem dX6_isCup_6 : decode cX6_isCup 6 = .ok (.iload_n 1, 1) := by decide +kernel
theorem dX6_isCup_7 : decode cX6_isCup 7 = .ok (.bipush 41, 2) := by decide +kernel
theorem dX6_isCup_9 : decode cX6_isCup 9 = .ok (.if_icmp .ne 7, 3) := by decide +kernel
theorem dX6_isCup_12 : decode cX6_isCup 12 = .ok (.iconst 1, 1) := by decide +kernel
theorem dX6_isCup_13 : decode cX6_isCup 13 = .ok (.goto 4, 3) := by decide +kernel
theorem dX6_isCup_16 : decode cX6_isCup 16 = .ok (.iconst 0, 1) := by decide +kernel
theorem dX6_isCup_17 : decode cX6_isCup 17 = .ok (.ireturn, 1) := by decide +kernel
theorem dX6_isNowhere_0 : decode cX6_isNowhere 0 = .ok (.iload_n 0, 1) := by decide +kernel
theorem dX6_isNowhere_1 : decode cX6_isNowhere 1 = .ok (.iconst (-1), 1) := by decide +kernel
theorem dX6_isNowhere_2 : decode cX6_isNowhere 2 = .ok (.if_icmp .ne 12, 3) := by decide +kernel
theorem dX6_isNowhere_5 : decode cX6_isNowhere 5 = .ok (.iload_n 1, 1) := by decide +kernel
theorem dX6_isNowhere_6 : decode cX6_isNowhere 6 = .ok (.iconst (-1), 1) := by decide +kernel
theorem dX6_isNowhere_7 : decode cX6_isNowhere 7 = .ok (.if_icmp .ne 7, 3) := by decide +kernel
theorem dX6_isNowhere_10 : decode cX6_isNowhere 10 = .ok (.iconst 1, 1) := by decide +kernel
theorem dX6_isNowhere_11 : decode cX6_isNowhere 11 = .ok (.goto 4, 3) := by decide +kernel
theorem dX6_isNowhere_14 : decode cX6_isNowhere 14 = .ok (.iconst 0, 1) := by decide +kernel
theorem dX6_isNowhere_15 : decode cX6_isNowhere 15 = .ok (.ireturn, 1) := by decide +kernel
theorem dX6_put_0 : decode cX6_put 0 = .ok (.iload_n 1, 1) := by decide +kernel
theorem dX6_put_1 : decode cX6_put 1 = .ok (.invokestatic 117, 3) := by decide +kernel
theorem dX6_put_4 : decode cX6_put 4 = .ok (.ifCond .eq 27, 3) := by decide +kernel
theorem dX6_put_7 : decode cX6_put 7 = .ok (.iload_n 2, 1) := by decide +kernel
theorem dX6_put_8 : decode cX6_put 8 = .ok (.iload_n 3, 1) := by decide +kernel
theorem dX6_put_9 : decode cX6_put 9 = .ok (.invokestatic 120, 3) := by decide +kernel
theorem dX6_put_12 : decode cX6_put 12 = .ok (.ifCond .ne 21, 3) := by decide +kernel
theorem dX6_put_15 : decode cX6_put 15 = .ok (.iload_n 2, 1) := by decide +kernel
theorem dX6_put_16 : decode cX6_put 16 = .ok (.iload_n 3, 1) := by decide +kernel
theorem dX6_put_17 : decode cX6_put 17 = .ok (.invokestatic 123, 3) := by decide +kernel
theorem dX6_put_20 : decode cX6_put 20 = .ok (.ifCond .ne 13, 3) := by decide +kernel
theorem dX6_put_23 : decode cX6_put 23 = .ok (.iload_n 2, 1) := by decide +kernel
theorem dX6_put_24 : decode cX6_put 24 = .ok (.iload_n 3, 1) := by decide +kernel
theorem dX6_put_25 : decode cX6_put 25 = .ok (.invokestatic 126, 3) := by decide +kernel
theorem dX6_put_28 : decode cX6_put 28 = .ok (.ifCond .ne 5, 3) := by decide +kernel
theorem dX6_put_31 : decode cX6_put 31 = .ok (.iconst (-1), 1) := by decide +kernel
theorem dX6_put_32 : decode cX6_put 32 = .ok (.ireturn, 1) := by decide +kernel
theorem dX6_put_33 : decode cX6_put 33 = .ok (.iload_n 2, 1) := by decide +kernel
theorem dX6_put_34 : decode cX6_put 34 = .ok (.iload_n 3, 1) := by decide +kernel
theorem dX6_put_35 : decode cX6_put 35 = .ok (.invokestatic 120, 3) := by decide +kernel
theorem dX6_put_38 : decode cX6_put 38 = .ok (.ifCond .eq 13, 3) := by decide +kernel
theorem dX6_put_41 : decode cX6_put 41 = .ok (.aload_n 0, 1) := by decide +kernel
theorem dX6_put_42 : decode cX6_put 42 = .ok (.iload_n 1, 1) := by decide +kernel
theorem dX6_put_43 : decode cX6_put 43 = .ok (.iload_n 2, 1) := by decide +kernel
theorem dX6_put_44 : decode cX6_put 44 = .ok (.iload_n 3, 1) := by decide +kernel
theorem dX6_put_45 : decode cX6_put 45 = .ok (.invokevirtual 129, 3) := by decide +kernel
theorem dX6_put_48 : decode cX6_put 48 = .ok (.goto 21, 3) := by decide +kernel
theorem dX6_put_51 : decode cX6_put 51 = .ok (.aload_n 0, 1) := by decide +kernel
theorem dX6_put_52 : decode cX6_put 52 = .ok (.iload_n 1, 1) := by decide +kernel
theorem dX6_put_53 : decode cX6_put 53 = .ok (.iload_n 2, 1) := by decide +kernel
theorem dX6_put_54 : decode cX6_put 54 = .ok (.iload_n 3, 1) := by decide +kernel
theorem dX6_put_55 : decode cX6_put 55 = .ok (.invokestatic 123, 3) := by decide +kernel
theorem dX6_put_58 : decode cX6_put 58 = .ok (.ifCond .eq 7, 3) := by decide +kernel
theorem dX6_put_61 : decode cX6_put 61 = .ok (.iconst 2, 1) := by decide +kernel
theorem dX6_put_62 : decode cX6_put 62 = .ok (.goto 4, 3) := by decide +kernel
theorem dX6_put_65 : decode cX6_put 65 = .ok (.iconst 0, 1) := by decide +kernel
theorem dX6_put_66 : decode cX6_put 66 = .ok (.invokevirtual 54, 3) := by decide +kernel
theorem dX6_put_69 : decode cX6_put 69 = .ok (.aload_n 0, 1) := by decide +kernel
theorem dX6_put_70 : decode cX6_put 70 = .ok (.invokevirtual 113, 3) := by decide +kernel
theorem dX6_put_73 : decode cX6_put 73 = .ok (.ifCond .ne 12, 3) := by decide +kernel
theorem dX6_put_76 : decode cX6_put 76 = .ok (.aload_n 0, 1) := by decide +kernel
theorem dX6_put_77 : decode cX6_put 77 = .ok (.aload_n 0, 1) := by decide +kernel
theorem dX6_put_78 : decode cX6_put 78 = .ok (.invokevirtual 102, 3) := by decide +kernel
theorem dX6_put_81 : decode cX6_put 81 = .ok (.iconst 0, 1) := by decide +kernel
theorem dX6_put_82 : decode cX6_put 82 = .ok (.invokevirtual 105, 3) := by decide +kernel
theorem dX6_put_85 : decode cX6_put 85 = .ok (.iconst 0, 1) := by decide +kernel
theorem dX6_put_86 : decode cX6_put 86 = .ok (.ireturn, 1) := by decide +kernel
theorem dX6_about_0 : decode cX6_about 0 = .ok (.iload_n 1, 1) := by decide +kernel
theorem dX6_about_1 : decode cX6_about 1 = .ok (.invokestatic 117, 3) := by decide +kernel
theorem dX6_about_4 : decode cX6_about 4 = .ok (.ifCond .ne 5, 3) := by decide +kernel
theorem dX6_about_7 : decode cX6_about 7 = .ok (.iconst (-1), 1) := by decide +kernel
theorem dX6_about_8 : decode cX6_about 8 = .ok (.ireturn, 1) := by decide +kernel
theorem dX6_about_9 : decode cX6_about 9 = .ok (.iload_n 2, 1) := by decide +kernel
theorem dX6_about_10 : decode cX6_about 10 = .ok (.tableswitch 92 0 6 #[42, 48, 54, 60, 74, 80, 86], 42) := by decide +kernel
theorem dX6_about_52 : decode cX6_about 52 = .ok (.aload_n 0, 1) := by decide +kernel
theorem dX6_about_53 : decode cX6_about 53 = .ok (.iload_n 1, 1) := by decide +kernel
theorem dX6_about_54 : decode cX6_about 54 = .ok (.invokevirtual 45, 3) := by decide +kernel
theorem dX6_about_57 : decode cX6_about 57 = .ok (.ireturn, 1) := by decide +kernel
theorem dX6_about_58 : decode cX6_about 58 = .ok (.aload_n 0, 1) := by decide +kernel
theorem dX6_about_59 : decode cX6_about 59 = .ok (.iload_n 1, 1) := by decide +kernel
theorem dX6_about_60 : decode cX6_about 60 = .ok (.invokevirtual 58, 3) := by decide +kernel
theorem dX6_about_63 : decode cX6_about 63 = .ok (.ireturn, 1) := by decide +kernel
theorem dX6_about_64 : decode cX6_about 64 = .ok (.aload_n 0, 1) := by decide +kernel
theorem dX6_about_65 : decode cX6_about 65 = .ok (.iload_n 1, 1) := by decide +kernel
theorem dX6_about_66 : decode cX6_about 66 = .ok (.invokevirtual 65, 3) := by decide +kernel
theorem dX6_about_69 : decode cX6_about 69 = .ok (.ireturn, 1) := by decide +kernel
theorem dX6_about_70 : decode cX6_about 70 = .ok (.aload_n 0, 1) := by decide +kernel
theorem dX6_about_71 : decode cX6_about 71 = .ok (.iload_n 1, 1) := by decide +kernel
theorem dX6_about_72 : decode cX6_about 72 = .ok (.invokevirtual 81, 3) := by decide +kernel
theorem dX6_about_75 : decode cX6_about 75 = .ok (.ifCond .eq 7, 3) := by decide +kernel
theorem dX6_about_78 : decode cX6_about 78 = .ok (.iconst 1, 1) := by decide +kernel
theorem dX6_about_79 : decode cX6_about 79 = .ok (.goto 4, 3) := by decide +kernel
theorem dX6_about_82 : decode cX6_about 82 = .ok (.iconst 0, 1) := by decide +kernel
theorem dX6_about_83 : decode cX6_about 83 = .ok (.ireturn, 1) := by decide +kernel
theorem dX6_about_84 : decode cX6_about 84 = .ok (.aload_n 0, 1) := by decide +kernel
theorem dX6_about_85 : decode cX6_about 85 = .ok (.iload_n 1, 1) := by decide +kernel
theorem dX6_about_86 : decode cX6_about 86 = .ok (.invokevirtual 78, 3) := by decide +kernel
theorem dX6_about_89 : decode cX6_about 89 = .ok (.ireturn, 1) := by decide +kernel
theorem dX6_about_90 : decode cX6_about 90 = .ok (.aload_n 0, 1) := by decide +kernel
theorem dX6_about_91 : decode cX6_about 91 = .ok (.iload_n 1, 1) := by decide +kernel
theorem dX6_about_92 : decode cX6_about 92 = .ok (.invokevirtual 75, 3) := by decide +kernel
theorem dX6_about_95 : decode cX6_about 95 = .ok (.ireturn, 1) := by decide +kernel
theorem dX6_about_96 : decode cX6_about 96 = .ok (.aload_n 0, 1) := by decide +kernel
theorem dX6_about_97 : decode cX6_about 97 = .ok (.iload_n 1, 1) := by decide +kernel
theorem dX6_about_98 : decode cX6_about 98 = .ok (.invokevirtual 133, 3) := by decide +kernel
theorem dX6_about_101 : decode cX6_about 101 = .ok (.ireturn, 1) := by decide +kernel
theorem dX6_about_102 : decode cX6_about 102 = .ok (.iconst (-1), 1) := by decide +kernel
theorem dX6_about_103 : decode cX6_about 103 = .ok (.ireturn, 1) := by decide +kernel
theorem dX6_draw_0 : decode cX6_draw 0 = .ok (.aload_n 0, 1) := by decide +kernel
theorem dX6_draw_1 : decode cX6_draw 1 = .ok (.getfield 7, 3) := by decide +kernel
theorem dX6_draw_4 : decode cX6_draw 4 = .ok (.bipush 72, 2) := by decide +kernel
theorem dX6_draw_6 : decode cX6_draw 6 = .ok (.aload_n 0, 1) := by decide +kernel
theorem dX6_draw_7 : decode cX6_draw 7 = .ok (.getfield 7, 3) := by decide +kernel
theorem dX6_draw_10 : decode cX6_draw 10 = .ok (.bipush 72, 2) := by decide +kernel
theorem dX6_draw_12 : decode cX6_draw 12 = .ok (.iaload, 1) := by decide +kernel
theorem dX6_draw_13 : decode cX6_draw 13 = .ok (.i2l, 1) := by decide +kernel
theorem dX6_draw_14 : decode cX6_draw 14 = .ok (.ldc2_w 136, 3) := by decide +kernel
theorem dX6_draw_17 : decode cX6_draw 17 = .ok (.lmul, 1) := by decide +kernel
theorem dX6_draw_18 : decode cX6_draw 18 = .ok (.ldc2_w 138, 3) := by decide +kernel
theorem dX6_draw_21 : decode cX6_draw 21 = .ok (.lrem, 1) := by decide +kernel
theorem dX6_draw_22 : decode cX6_draw 22 = .ok (.l2i, 1) := by decide +kernel
theorem dX6_draw_23 : decode cX6_draw 23 = .ok (.iastore, 1) := by decide +kernel
theorem dX6_draw_24 : decode cX6_draw 24 = .ok (.aload_n 0, 1) := by decide +kernel
theorem dX6_draw_25 : decode cX6_draw 25 = .ok (.getfield 7, 3) := by decide +kernel
theorem dX6_draw_28 : decode cX6_draw 28 = .ok (.bipush 72, 2) := by decide +kernel
theorem dX6_draw_30 : decode cX6_draw 30 = .ok (.iaload, 1) := by decide +kernel
theorem dX6_draw_31 : decode cX6_draw 31 = .ok (.iload_n 1, 1) := by decide +kernel
theorem dX6_draw_32 : decode cX6_draw 32 = .ok (.irem, 1) := by decide +kernel
theorem dX6_draw_33 : decode cX6_draw 33 = .ok (.ireturn, 1) := by decide +kernel
theorem dX6_onMat_0 : decode cX6_onMat 0 = .ok (.iload_n 0, 1) := by decide +kernel
theorem dX6_onMat_1 : decode cX6_onMat 1 = .ok (.ifCond .ge 7, 3) := by decide +kernel
theorem dX6_onMat_4 : decode cX6_onMat 4 = .ok (.iconst 0, 1) := by decide +kernel
theorem dX6_onMat_5 : decode cX6_onMat 5 = .ok (.goto 15, 3) := by decide +kernel
theorem dX6_onMat_8 : decode cX6_onMat 8 = .ok (.iload_n 0, 1) := by decide +kernel
theorem dX6_onMat_9 : decode cX6_onMat 9 = .ok (.bipush 40, 2) := by decide +kernel
theorem dX6_onMat_11 : decode cX6_onMat 11 = .ok (.if_icmp .le 8, 3) := by decide +kernel
theorem dX6_onMat_14 : decode cX6_onMat 14 = .ok (.bipush 40, 2) := by decide +kernel
theorem dX6_onMat_16 : decode cX6_onMat 16 = .ok (.goto 4, 3) := by decide +kernel
theorem dX6_onMat_19 : decode cX6_onMat 19 = .ok (.iload_n 0, 1) := by decide +kernel
theorem dX6_onMat_20 : decode cX6_onMat 20 = .ok (.ireturn, 1) := by decide +kernel
theorem dX6_wayOf_0 : decode cX6_wayOf 0 = .ok (.iload_n 2, 1) := by decide +kernel
theorem dX6_wayOf_1 : decode cX6_wayOf 1 = .ok (.iload_n 0, 1) := by decide +kernel
theorem dX6_wayOf_2 : decode cX6_wayOf 2 = .ok (.isub, 1) := by decide +kernel
theorem dX6_wayOf_3 : decode cX6_wayOf 3 = .ok (.invokestatic 140, 3) := by decide +kernel
theorem dX6_wayOf_6 : decode cX6_wayOf 6 = .ok (.istore 4, 2) := by decide +kernel
theorem dX6_wayOf_8 : decode cX6_wayOf 8 = .ok (.iload_n 3, 1) := by decide +kernel
theorem dX6_wayOf_9 : decode cX6_wayOf 9 = .ok (.iload_n 1, 1) := by decide +kernel
theorem dX6_wayOf_10 : decode cX6_wayOf 10 = .ok (.isub, 1) := by decide +kernel
theorem dX6_wayOf_11 : decode cX6_wayOf 11 = .ok (.invokestatic 140, 3) := by decide +kernel
theorem dX6_wayOf_14 : decode cX6_wayOf 14 = .ok (.istore 5, 2) := by decide +kernel
theorem dX6_wayOf_16 : decode cX6_wayOf 16 = .ok (.iload 4, 2) := by decide +kernel
theorem dX6_wayOf_18 : decode cX6_wayOf 18 = .ok (.iload 5, 2) := by decide +kernel
theorem dX6_wayOf_20 : decode cX6_wayOf 20 = .ok (.if_icmp .le 8, 3) := by decide +kernel
theorem dX6_wayOf_23 : decode cX6_wayOf 23 = .ok (.iload 4, 2) := by decide +kernel
theorem dX6_wayOf_25 : decode cX6_wayOf 25 = .ok (.goto 5, 3) := by decide +kernel
theorem dX6_wayOf_28 : decode cX6_wayOf 28 = .ok (.iload 5, 2) := by decide +kernel
theorem dX6_wayOf_30 : decode cX6_wayOf 30 = .ok (.ireturn, 1) := by decide +kernel
theorem dX6_mayShoot_0 : decode cX6_mayShoot 0 = .ok (.aload_n 0, 1) := by decide +kernel
theorem dX6_mayShoot_1 : decode cX6_mayShoot 1 = .ok (.invokevirtual 113, 3) := by decide +kernel
theorem dX6_mayShoot_4 : decode cX6_mayShoot 4 = .ok (.ifCond .ne 25, 3) := by decide +kernel
theorem dX6_mayShoot_7 : decode cX6_mayShoot 7 = .ok (.iload_n 1, 1) := by decide +kernel
theorem dX6_mayShoot_8 : decode cX6_mayShoot 8 = .ok (.iconst 4, 1) := by decide +kernel
theorem dX6_mayShoot_9 : decode cX6_mayShoot 9 = .ok (.irem, 1) := by decide +kernel
theorem dX6_mayShoot_10 : decode cX6_mayShoot 10 = .ok (.aload_n 0, 1) := by decide +kernel
theorem dX6_mayShoot_11 : decode cX6_mayShoot 11 = .ok (.invokevirtual 102, 3) := by decide +kernel
theorem dX6_mayShoot_14 : decode cX6_mayShoot 14 = .ok (.if_icmp .ne 15, 3) := by decide +kernel
theorem dX6_mayShoot_17 : decode cX6_mayShoot 17 = .ok (.aload_n 0, 1) := by decide +kernel
theorem dX6_mayShoot_18 : decode cX6_mayShoot 18 = .ok (.iload_n 1, 1) := by decide +kernel
theorem dX6_mayShoot_19 : decode cX6_mayShoot 19 = .ok (.invokevirtual 81, 3) := by decide +kernel
theorem dX6_mayShoot_22 : decode cX6_mayShoot 22 = .ok (.ifCond .eq 7, 3) := by decide +kernel
theorem dX6_mayShoot_25 : decode cX6_mayShoot 25 = .ok (.iconst 1, 1) := by decide +kernel
theorem dX6_mayShoot_26 : decode cX6_mayShoot 26 = .ok (.goto 4, 3) := by decide +kernel
theorem dX6_mayShoot_29 : decode cX6_mayShoot 29 = .ok (.iconst 0, 1) := by decide +kernel
theorem dX6_mayShoot_30 : decode cX6_mayShoot 30 = .ok (.ireturn, 1) := by decide +kernel
theorem dX6_shoot_0 : decode cX6_shoot 0 = .ok (.iload_n 1, 1) := by decide +kernel
theorem dX6_shoot_1 : decode cX6_shoot 1 = .ok (.invokestatic 117, 3) := by decide +kernel
theorem dX6_shoot_4 : decode cX6_shoot 4 = .ok (.ifCond .eq 11, 3) := by decide +kernel
theorem dX6_shoot_7 : decode cX6_shoot 7 = .ok (.iload_n 2, 1) := by decide +kernel
theorem dX6_shoot_8 : decode cX6_shoot 8 = .ok (.iload_n 3, 1) := by decide +kernel
theorem dX6_shoot_9 : decode cX6_shoot 9 = .ok (.invokestatic 120, 3) := by decide +kernel
theorem dX6_shoot_12 : decode cX6_shoot 12 = .ok (.ifCond .ne 5, 3) := by decide +kernel
theorem dX6_shoot_15 : decode cX6_shoot 15 = .ok (.iconst (-1), 1) := by decide +kernel
theorem dX6_shoot_16 : decode cX6_shoot 16 = .ok (.ireturn, 1) := by decide +kernel
theorem dX6_shoot_17 : decode cX6_shoot 17 = .ok (.aload_n 0, 1) := by decide +kernel
theorem dX6_shoot_18 : decode cX6_shoot 18 = .ok (.iload_n 1, 1) := by decide +kernel
theorem dX6_shoot_19 : decode cX6_shoot 19 = .ok (.invokevirtual 143, 3) := by decide +kernel
theorem dX6_shoot_22 : decode cX6_shoot 22 = .ok (.ifCond .ne 6, 3) := by decide +kernel
theorem dX6_shoot_25 : decode cX6_shoot 25 = .ok (.bipush (-2), 2) := by decide +kernel
theorem dX6_shoot_27 : decode cX6_shoot 27 = .ok (.ireturn, 1) := by decide +kernel
theorem dX6_shoot_28 : decode cX6_shoot 28 = .ok (.aload_n 0, 1) := by decide +kernel
theorem dX6_shoot_29 : decode cX6_shoot 29 = .ok (.iload_n 1, 1) := by decide +kernel
theorem dX6_shoot_30 : decode cX6_shoot 30 = .ok (.invokevirtual 58, 3) := by decide +kernel
theorem dX6_shoot_33 : decode cX6_shoot 33 = .ok (.istore 4, 2) := by decide +kernel
theorem dX6_shoot_35 : decode cX6_shoot 35 = .ok (.aload_n 0, 1) := by decide +kernel
theorem dX6_shoot_36 : decode cX6_shoot 36 = .ok (.iload_n 1, 1) := by decide +kernel
theorem dX6_shoot_37 : decode cX6_shoot 37 = .ok (.invokevirtual 65, 3) := by decide +kernel
theorem dX6_shoot_40 : decode cX6_shoot 40 = .ok (.istore 5, 2) := by decide +kernel
theorem dX6_shoot_42 : decode cX6_shoot 42 = .ok (.iload 4, 2) := by decide +kernel
theorem dX6_shoot_44 : decode cX6_shoot 44 = .ok (.iload 5, 2) := by decide +kernel
theorem dX6_shoot_46 : decode cX6_shoot 46 = .ok (.iload_n 2, 1) := by decide +kernel
theorem dX6_shoot_47 : decode cX6_shoot 47 = .ok (.iload_n 3, 1) := by decide +kernel
theorem dX6_shoot_48 : decode cX6_shoot 48 = .ok (.invokestatic 146, 3) := by decide +kernel
theorem dX6_shoot_51 : decode cX6_shoot 51 = .ok (.bipush 8, 2) := by decide +kernel
theorem dX6_shoot_53 : decode cX6_shoot 53 = .ok (.idiv, 1) := by decide +kernel
theorem dX6_shoot_54 : decode cX6_shoot 54 = .ok (.iload_n 1, 1) := by decide +kernel
theorem dX6_shoot_55 : decode cX6_shoot 55 = .ok (.invokestatic 68, 3) := by decide +kernel
theorem dX6_shoot_58 : decode cX6_shoot 58 = .ok (.iadd, 1) := by decide +kernel
theorem dX6_shoot_59 : decode cX6_shoot 59 = .ok (.iconst 1, 1) := by decide +kernel
theorem dX6_shoot_60 : decode cX6_shoot 60 = .ok (.isub, 1) := by decide +kernel
theorem dX6_shoot_61 : decode cX6_shoot 61 = .ok (.aload_n 0, 1) := by decide +kernel
theorem dX6_shoot_62 : decode cX6_shoot 62 = .ok (.getfield 7, 3) := by decide +kernel
theorem dX6_shoot_65 : decode cX6_shoot 65 = .ok (.bipush 69, 2) := by decide +kernel
theorem dX6_shoot_67 : decode cX6_shoot 67 = .ok (.iaload, 1) := by decide +kernel
theorem dX6_shoot_68 : decode cX6_shoot 68 = .ok (.iadd, 1) := by decide +kernel
theorem dX6_shoot_69 : decode cX6_shoot 69 = .ok (.istore 6, 2) := by decide +kernel
theorem dX6_shoot_71 : decode cX6_shoot 71 = .ok (.iload_n 2, 1) := by decide +kernel
theorem dX6_shoot_72 : decode cX6_shoot 72 = .ok (.aload_n 0, 1) := by decide +kernel
theorem dX6_shoot_73 : decode cX6_shoot 73 = .ok (.iconst 2, 1) := by decide +kernel
theorem dX6_shoot_74 : decode cX6_shoot 74 = .ok (.iload 6, 2) := by decide +kernel
theorem dX6_shoot_76 : decode cX6_shoot 76 = .ok (.imul, 1) := by decide +kernel
theorem dX6_shoot_77 : decode cX6_shoot 77 = .ok (.iconst 1, 1) := by decide +kernel
theorem dX6_shoot_78 : decode cX6_shoot 78 = .ok (.iadd, 1) := by decide +kernel
theorem dX6_shoot_79 : decode cX6_shoot 79 = .ok (.invokevirtual 150, 3) := by decide +kernel
theorem dX6_shoot_82 : decode cX6_shoot 82 = .ok (.iadd, 1) := by decide +kernel
theorem dX6_shoot_83 : decode cX6_shoot 83 = .ok (.iload 6, 2) := by decide +kernel
theorem dX6_shoot_85 : decode cX6_shoot 85 = .ok (.isub, 1) := by decide +kernel
theorem dX6_shoot_86 : decode cX6_shoot 86 = .ok (.istore 7, 2) := by decide +kernel
theorem dX6_shoot_88 : decode cX6_shoot 88 = .ok (.iload_n 3, 1) := by decide +kernel
theorem dX6_shoot_89 : decode cX6_shoot 89 = .ok (.aload_n 0, 1) := by decide +kernel
theorem dX6_shoot_90 : decode cX6_shoot 90 = .ok (.iconst 2, 1) := by decide +kernel
theorem dX6_shoot_91 : decode cX6_shoot 91 = .ok (.iload 6, 2) := by decide +kernel
theorem dX6_shoot_93 : decode cX6_shoot 93 = .ok (.imul, 1) := by decide +kernel
theorem dX6_shoot_94 : decode cX6_shoot 94 = .ok (.iconst 1, 1) := by decide +kernel
theorem dX6_shoot_95 : decode cX6_shoot 95 = .ok (.iadd, 1) := by decide +kernel
theorem dX6_shoot_96 : decode cX6_shoot 96 = .ok (.invokevirtual 150, 3) := by decide +kernel
theorem dX6_shoot_99 : decode cX6_shoot 99 = .ok (.iadd, 1) := by decide +kernel
theorem dX6_shoot_100 : decode cX6_shoot 100 = .ok (.iload 6, 2) := by decide +kernel
theorem dX6_shoot_102 : decode cX6_shoot 102 = .ok (.isub, 1) := by decide +kernel
theorem dX6_shoot_103 : decode cX6_shoot 103 = .ok (.istore 8, 2) := by decide +kernel
theorem dX6_shoot_105 : decode cX6_shoot 105 = .ok (.iload 7, 2) := by decide +kernel
theorem dX6_shoot_107 : decode cX6_shoot 107 = .ok (.bipush 20, 2) := by decide +kernel
theorem dX6_shoot_109 : decode cX6_shoot 109 = .ok (.isub, 1) := by decide +kernel
theorem dX6_shoot_110 : decode cX6_shoot 110 = .ok (.istore 9, 2) := by decide +kernel
theorem dX6_shoot_112 : decode cX6_shoot 112 = .ok (.iload 8, 2) := by decide +kernel
theorem dX6_shoot_114 : decode cX6_shoot 114 = .ok (.bipush 20, 2) := by decide +kernel
theorem dX6_shoot_116 : decode cX6_shoot 116 = .ok (.isub, 1) := by decide +kernel
theorem dX6_shoot_117 : decode cX6_shoot 117 = .ok (.istore 10, 2) := by decide +kernel
theorem dX6_shoot_119 : decode cX6_shoot 119 = .ok (.iload 9, 2) := by decide +kernel
theorem dX6_shoot_121 : decode cX6_shoot 121 = .ok (.iload 9, 2) := by decide +kernel
theorem dX6_shoot_123 : decode cX6_shoot 123 = .ok (.imul, 1) := by decide +kernel
theorem dX6_shoot_124 : decode cX6_shoot 124 = .ok (.iload 10, 2) := by decide +kernel
theorem dX6_shoot_126 : decode cX6_shoot 126 = .ok (.iload 10, 2) := by decide +kernel
theorem dX6_shoot_128 : decode cX6_shoot 128 = .ok (.imul, 1) := by decide +kernel
theorem dX6_shoot_129 : decode cX6_shoot 129 = .ok (.iadd, 1) := by decide +kernel
theorem dX6_shoot_130 : decode cX6_shoot 130 = .ok (.iconst 4, 1) := by decide +kernel
theorem dX6_shoot_131 : decode cX6_shoot 131 = .ok (.if_icmp .gt 7, 3) := by decide +kernel
theorem dX6_shoot_134 : decode cX6_shoot 134 = .ok (.iconst 1, 1) := by decide +kernel
theorem dX6_shoot_135 : decode cX6_shoot 135 = .ok (.goto 4, 3) := by decide +kernel
theorem dX6_shoot_138 : decode cX6_shoot 138 = .ok (.iconst 0, 1) := by decide +kernel
theorem dX6_shoot_139 : decode cX6_shoot 139 = .ok (.istore 11, 2) := by decide +kernel
theorem dX6_shoot_141 : decode cX6_shoot 141 = .ok (.iload 11, 2) := by decide +kernel
theorem dX6_shoot_143 : decode cX6_shoot 143 = .ok (.ifCond .eq 12, 3) := by decide +kernel
theorem dX6_shoot_146 : decode cX6_shoot 146 = .ok (.aload_n 0, 1) := by decide +kernel
theorem dX6_shoot_147 : decode cX6_shoot 147 = .ok (.iload_n 1, 1) := by decide +kernel
theorem dX6_shoot_148 : decode cX6_shoot 148 = .ok (.iconst 2, 1) := by decide +kernel
theorem dX6_shoot_149 : decode cX6_shoot 149 = .ok (.invokevirtual 54, 3) := by decide +kernel
theorem dX6_shoot_152 : decode cX6_shoot 152 = .ok (.goto 50, 3) := by decide +kernel
theorem dX6_shoot_155 : decode cX6_shoot 155 = .ok (.aload_n 0, 1) := by decide +kernel
theorem dX6_shoot_156 : decode cX6_shoot 156 = .ok (.iload_n 1, 1) := by decide +kernel
theorem dX6_shoot_157 : decode cX6_shoot 157 = .ok (.iload 7, 2) := by decide +kernel
theorem dX6_shoot_159 : decode cX6_shoot 159 = .ok (.aload_n 0, 1) := by decide +kernel
theorem dX6_shoot_160 : decode cX6_shoot 160 = .ok (.getfield 7, 3) := by decide +kernel
theorem dX6_shoot_163 : decode cX6_shoot 163 = .ok (.bipush 70, 2) := by decide +kernel
theorem dX6_shoot_165 : decode cX6_shoot 165 = .ok (.iaload, 1) := by decide +kernel
theorem dX6_shoot_166 : decode cX6_shoot 166 = .ok (.iload_n 2, 1) := by decide +kernel
theorem dX6_shoot_167 : decode cX6_shoot 167 = .ok (.iload 4, 2) := by decide +kernel
theorem dX6_shoot_169 : decode cX6_shoot 169 = .ok (.isub, 1) := by decide +kernel
theorem dX6_shoot_170 : decode cX6_shoot 170 = .ok (.invokestatic 153, 3) := by decide +kernel
theorem dX6_shoot_173 : decode cX6_shoot 173 = .ok (.imul, 1) := by decide +kernel
theorem dX6_shoot_174 : decode cX6_shoot 174 = .ok (.iadd, 1) := by decide +kernel
theorem dX6_shoot_175 : decode cX6_shoot 175 = .ok (.invokestatic 156, 3) := by decide +kernel
theorem dX6_shoot_178 : decode cX6_shoot 178 = .ok (.iload 8, 2) := by decide +kernel
theorem dX6_shoot_180 : decode cX6_shoot 180 = .ok (.aload_n 0, 1) := by decide +kernel
theorem dX6_shoot_181 : decode cX6_shoot 181 = .ok (.getfield 7, 3) := by decide +kernel
theorem dX6_shoot_184 : decode cX6_shoot 184 = .ok (.bipush 70, 2) := by decide +kernel
theorem dX6_shoot_186 : decode cX6_shoot 186 = .ok (.iaload, 1) := by decide +kernel
theorem dX6_shoot_187 : decode cX6_shoot 187 = .ok (.iload_n 3, 1) := by decide +kernel
theorem dX6_shoot_188 : decode cX6_shoot 188 = .ok (.iload 5, 2) := by decide +kernel
theorem dX6_shoot_190 : decode cX6_shoot 190 = .ok (.isub, 1) := by decide +kernel
theorem dX6_shoot_191 : decode cX6_shoot 191 = .ok (.invokestatic 153, 3) := by decide +kernel
theorem dX6_shoot_194 : decode cX6_shoot 194 = .ok (.imul, 1) := by decide +kernel
theorem dX6_shoot_195 : decode cX6_shoot 195 = .ok (.iadd, 1) := by decide +kernel
theorem dX6_shoot_196 : decode cX6_shoot 196 = .ok (.invokestatic 156, 3) := by decide +kernel
theorem dX6_shoot_199 : decode cX6_shoot 199 = .ok (.invokevirtual 129, 3) := by decide +kernel
theorem dX6_shoot_202 : decode cX6_shoot 202 = .ok (.aload_n 0, 1) := by decide +kernel
theorem dX6_shoot_203 : decode cX6_shoot 203 = .ok (.iload 11, 2) := by decide +kernel
theorem dX6_shoot_205 : decode cX6_shoot 205 = .ok (.invokevirtual 159, 3) := by decide +kernel
theorem dX6_shoot_208 : decode cX6_shoot 208 = .ok (.iload 11, 2) := by decide +kernel
theorem dX6_shoot_210 : decode cX6_shoot 210 = .ok (.ifCond .eq 7, 3) := by decide +kernel
theorem dX6_shoot_213 : decode cX6_shoot 213 = .ok (.iconst 1, 1) := by decide +kernel
theorem dX6_shoot_214 : decode cX6_shoot 214 = .ok (.goto 4, 3) := by decide +kernel
theorem dX6_shoot_217 : decode cX6_shoot 217 = .ok (.iconst 0, 1) := by decide +kernel
theorem dX6_shoot_218 : decode cX6_shoot 218 = .ok (.ireturn, 1) := by decide +kernel
theorem dX6_blow_0 : decode cX6_blow 0 = .ok (.iload_n 1, 1) := by decide +kernel
theorem dX6_blow_1 : decode cX6_blow 1 = .ok (.invokestatic 117, 3) := by decide +kernel
theorem dX6_blow_4 : decode cX6_blow 4 = .ok (.ifCond .ne 5, 3) := by decide +kernel
theorem dX6_blow_7 : decode cX6_blow 7 = .ok (.iconst (-1), 1) := by decide +kernel
theorem dX6_blow_8 : decode cX6_blow 8 = .ok (.ireturn, 1) := by decide +kernel
theorem dX6_blow_9 : decode cX6_blow 9 = .ok (.aload_n 0, 1) := by decide +kernel
theorem dX6_blow_10 : decode cX6_blow 10 = .ok (.iload_n 1, 1) := by decide +kernel
theorem dX6_blow_11 : decode cX6_blow 11 = .ok (.invokevirtual 133, 3) := by decide +kernel
theorem dX6_blow_14 : decode cX6_blow 14 = .ok (.istore_n 2, 1) := by decide +kernel
theorem dX6_blow_15 : decode cX6_blow 15 = .ok (.aload_n 0, 1) := by decide +kernel
theorem dX6_blow_16 : decode cX6_blow 16 = .ok (.iload_n 1, 1) := by decide +kernel
theorem dX6_blow_17 : decode cX6_blow 17 = .ok (.invokevirtual 143, 3) := by decide +kernel
theorem dX6_blow_20 : decode cX6_blow 20 = .ok (.ifCond .eq 11, 3) := by decide +kernel
theorem dX6_blow_23 : decode cX6_blow 23 = .ok (.iload_n 2, 1) := by decide +kernel
theorem dX6_blow_24 : decode cX6_blow 24 = .ok (.iload_n 2, 1) := by decide +kernel
theorem dX6_blow_25 : decode cX6_blow 25 = .ok (.iconst 1, 1) := by decide +kernel
theorem dX6_blow_26 : decode cX6_blow 26 = .ok (.isub, 1) := by decide +kernel
theorem dX6_blow_27 : decode cX6_blow 27 = .ok (.iand, 1) := by decide +kernel
theorem dX6_blow_28 : decode cX6_blow 28 = .ok (.ifCond .ne 6, 3) := by decide +kernel
theorem dX6_blow_31 : decode cX6_blow 31 = .ok (.bipush (-2), 2) := by decide +kernel
theorem dX6_blow_33 : decode cX6_blow 33 = .ok (.ireturn, 1) := by decide +kernel
theorem dX6_blow_34 : decode cX6_blow 34 = .ok (.iconst 0, 1) := by decide +kernel
theorem dX6_blow_35 : decode cX6_blow 35 = .ok (.istore_n 3, 1) := by decide +kernel
theorem dX6_blow_36 : decode cX6_blow 36 = .ok (.iload_n 3, 1) := by decide +kernel
theorem dX6_blow_37 : decode cX6_blow 37 = .ok (.bipush 16, 2) := by decide +kernel
theorem dX6_blow_39 : decode cX6_blow 39 = .ok (.if_icmp .ge 65, 3) := by decide +kernel
theorem dX6_blow_42 : decode cX6_blow 42 = .ok (.iload_n 2, 1) := by decide +kernel
theorem dX6_blow_43 : decode cX6_blow 43 = .ok (.iload_n 3, 1) := by decide +kernel
theorem dX6_blow_44 : decode cX6_blow 44 = .ok (.ishr, 1) := by decide +kernel
theorem dX6_blow_45 : decode cX6_blow 45 = .ok (.iconst 1, 1) := by decide +kernel
theorem dX6_blow_46 : decode cX6_blow 46 = .ok (.iand, 1) := by decide +kernel
theorem dX6_blow_47 : decode cX6_blow 47 = .ok (.iconst 1, 1) := by decide +kernel
theorem dX6_blow_48 : decode cX6_blow 48 = .ok (.if_icmp .ne 50, 3) := by decide +kernel
theorem dX6_blow_51 : decode cX6_blow 51 = .ok (.aload_n 0, 1) := by decide +kernel
theorem dX6_blow_52 : decode cX6_blow 52 = .ok (.iload_n 3, 1) := by decide +kernel
theorem dX6_blow_53 : decode cX6_blow 53 = .ok (.invokevirtual 58, 3) := by decide +kernel
theorem dX6_blow_56 : decode cX6_blow 56 = .ok (.aload_n 0, 1) := by decide +kernel
theorem dX6_blow_57 : decode cX6_blow 57 = .ok (.bipush 7, 2) := by decide +kernel
theorem dX6_blow_59 : decode cX6_blow 59 = .ok (.invokevirtual 150, 3) := by decide +kernel
theorem dX6_blow_62 : decode cX6_blow 62 = .ok (.iadd, 1) := by decide +kernel
theorem dX6_blow_63 : decode cX6_blow 63 = .ok (.iconst 3, 1) := by decide +kernel
theorem dX6_blow_64 : decode cX6_blow 64 = .ok (.isub, 1) := by decide +kernel
theorem dX6_blow_65 : decode cX6_blow 65 = .ok (.istore 4, 2) := by decide +kernel
theorem dX6_blow_67 : decode cX6_blow 67 = .ok (.aload_n 0, 1) := by decide +kernel
theorem dX6_blow_68 : decode cX6_blow 68 = .ok (.iload_n 3, 1) := by decide +kernel
theorem dX6_blow_69 : decode cX6_blow 69 = .ok (.invokevirtual 65, 3) := by decide +kernel
theorem dX6_blow_72 : decode cX6_blow 72 = .ok (.aload_n 0, 1) := by decide +kernel
theorem dX6_blow_73 : decode cX6_blow 73 = .ok (.bipush 7, 2) := by decide +kernel
theorem dX6_blow_75 : decode cX6_blow 75 = .ok (.invokevirtual 150, 3) := by decide +kernel
theorem dX6_blow_78 : decode cX6_blow 78 = .ok (.iadd, 1) := by decide +kernel
theorem dX6_blow_79 : decode cX6_blow 79 = .ok (.iconst 3, 1) := by decide +kernel
theorem dX6_blow_80 : decode cX6_blow 80 = .ok (.isub, 1) := by decide +kernel
theorem dX6_blow_81 : decode cX6_blow 81 = .ok (.istore 5, 2) := by decide +kernel
theorem dX6_blow_83 : decode cX6_blow 83 = .ok (.aload_n 0, 1) := by decide +kernel
theorem dX6_blow_84 : decode cX6_blow 84 = .ok (.iload_n 3, 1) := by decide +kernel
theorem dX6_blow_85 : decode cX6_blow 85 = .ok (.iload 4, 2) := by decide +kernel
theorem dX6_blow_87 : decode cX6_blow 87 = .ok (.invokestatic 156, 3) := by decide +kernel
theorem dX6_blow_90 : decode cX6_blow 90 = .ok (.iload 5, 2) := by decide +kernel
theorem dX6_blow_92 : decode cX6_blow 92 = .ok (.invokestatic 156, 3) := by decide +kernel
theorem dX6_blow_95 : decode cX6_blow 95 = .ok (.invokevirtual 129, 3) := by decide +kernel
theorem dX6_blow_98 : decode cX6_blow 98 = .ok (.iinc 3 1, 3) := by decide +kernel
theorem dX6_blow_101 : decode cX6_blow 101 = .ok (.goto (-65), 3) := by decide +kernel
theorem dX6_blow_104 : decode cX6_blow 104 = .ok (.aload_n 0, 1) := by decide +kernel
theorem dX6_blow_105 : decode cX6_blow 105 = .ok (.iconst 0, 1) := by decide +kernel
theorem dX6_blow_106 : decode cX6_blow 106 = .ok (.invokevirtual 159, 3) := by decide +kernel
theorem dX6_blow_109 : decode cX6_blow 109 = .ok (.iload_n 2, 1) := by decide +kernel
theorem dX6_blow_110 : decode cX6_blow 110 = .ok (.ireturn, 1) := by decide +kernel
theorem dX6_game_0 : decode cX6_game 0 = .ok (.aload_n 0, 1) := by decide +kernel
theorem dX6_game_1 : decode cX6_game 1 = .ok (.invokevirtual 113, 3) := by decide +kernel
theorem dX6_game_4 : decode cX6_game 4 = .ok (.istore_n 2, 1) := by decide +kernel
theorem dX6_game_5 : decode cX6_game 5 = .ok (.iload_n 1, 1) := by decide +kernel
theorem dX6_game_6 : decode cX6_game 6 = .ok (.tableswitch 115 0 4 #[34, 48, 53, 88, 98], 34) := by decide +kernel
theorem dX6_game_40 : decode cX6_game 40 = .ok (.iload_n 2, 1) := by decide +kernel
theorem dX6_game_41 : decode cX6_game 41 = .ok (.ifCond .eq 8, 3) := by decide +kernel
theorem dX6_game_44 : decode cX6_game 44 = .ok (.bipush (-4), 2) := by decide +kernel
theorem dX6_game_46 : decode cX6_game 46 = .ok (.goto 7, 3) := by decide +kernel
theorem dX6_game_49 : decode cX6_game 49 = .ok (.aload_n 0, 1) := by decide +kernel
theorem dX6_game_50 : decode cX6_game 50 = .ok (.invokevirtual 102, 3) := by decide +kernel
theorem dX6_game_53 : decode cX6_game 53 = .ok (.ireturn, 1) := by decide +kernel
theorem dX6_game_54 : decode cX6_game 54 = .ok (.aload_n 0, 1) := by decide +kernel
theorem dX6_game_55 : decode cX6_game 55 = .ok (.invokevirtual 98, 3) := by decide +kernel
theorem dX6_game_58 : decode cX6_game 58 = .ok (.ireturn, 1) := by decide +kernel
theorem dX6_game_59 : decode cX6_game 59 = .ok (.aload_n 0, 1) := by decide +kernel
theorem dX6_game_60 : decode cX6_game 60 = .ok (.invokevirtual 84, 3) := by decide +kernel
theorem dX6_game_63 : decode cX6_game 63 = .ok (.ifCond .ne 8, 3) := by decide +kernel
theorem dX6_game_66 : decode cX6_game 66 = .ok (.bipush (-4), 2) := by decide +kernel
theorem dX6_game_68 : decode cX6_game 68 = .ok (.goto 25, 3) := by decide +kernel
theorem dX6_game_71 : decode cX6_game 71 = .ok (.aload_n 0, 1) := by decide +kernel
theorem dX6_game_72 : decode cX6_game 72 = .ok (.bipush 67, 2) := by decide +kernel
theorem dX6_game_74 : decode cX6_game 74 = .ok (.invokevirtual 41, 3) := by decide +kernel
theorem dX6_game_77 : decode cX6_game 77 = .ok (.ifCond .ne 7, 3) := by decide +kernel
theorem dX6_game_80 : decode cX6_game 80 = .ok (.iconst 5, 1) := by decide +kernel
theorem dX6_game_81 : decode cX6_game 81 = .ok (.goto 12, 3) := by decide +kernel
theorem dX6_game_84 : decode cX6_game 84 = .ok (.bipush 6, 2) := by decide +kernel
theorem dX6_game_86 : decode cX6_game 86 = .ok (.aload_n 0, 1) := by decide +kernel
theorem dX6_game_87 : decode cX6_game 87 = .ok (.bipush 67, 2) := by decide +kernel
theorem dX6_game_89 : decode cX6_game 89 = .ok (.invokevirtual 41, 3) := by decide +kernel
theorem dX6_game_92 : decode cX6_game 92 = .ok (.isub, 1) := by decide +kernel
theorem dX6_game_93 : decode cX6_game 93 = .ok (.ireturn, 1) := by decide +kernel
theorem dX6_game_94 : decode cX6_game 94 = .ok (.iload_n 2, 1) := by decide +kernel
theorem dX6_game_95 : decode cX6_game 95 = .ok (.ifCond .eq 7, 3) := by decide +kernel
theorem dX6_game_98 : decode cX6_game 98 = .ok (.iconst 1, 1) := by decide +kernel
theorem dX6_game_99 : decode cX6_game 99 = .ok (.goto 4, 3) := by decide +kernel
theorem dX6_game_102 : decode cX6_game 102 = .ok (.iconst 0, 1) := by decide +kernel
theorem dX6_game_103 : decode cX6_game 103 = .ok (.ireturn, 1) := by decide +kernel
theorem dX6_game_104 : decode cX6_game 104 = .ok (.iload_n 2, 1) := by decide +kernel
theorem dX6_game_105 : decode cX6_game 105 = .ok (.ifCond .eq 7, 3) := by decide +kernel
theorem dX6_game_108 : decode cX6_game 108 = .ok (.iconst 0, 1) := by decide +kernel
theorem dX6_game_109 : decode cX6_game 109 = .ok (.goto 11, 3) := by decide +kernel
theorem dX6_game_112 : decode cX6_game 112 = .ok (.aload_n 0, 1) := by decide +kernel
theorem dX6_game_113 : decode cX6_game 113 = .ok (.aload_n 0, 1) := by decide +kernel
theorem dX6_game_114 : decode cX6_game 114 = .ok (.invokevirtual 102, 3) := by decide +kernel
theorem dX6_game_117 : decode cX6_game 117 = .ok (.invokevirtual 91, 3) := by decide +kernel
theorem dX6_game_120 : decode cX6_game 120 = .ok (.ireturn, 1) := by decide +kernel
theorem dX6_game_121 : decode cX6_game 121 = .ok (.iconst (-1), 1) := by decide +kernel
theorem dX6_game_122 : decode cX6_game 122 = .ok (.ireturn, 1) := by decide +kernel
theorem dX6_isPlayer_0 : decode cX6_isPlayer 0 = .ok (.iload_n 0, 1) := by decide +kernel
theorem dX6_isPlayer_1 : decode cX6_isPlayer 1 = .ok (.iconst 0, 1) := by decide +kernel
theorem dX6_isPlayer_2 : decode cX6_isPlayer 2 = .ok (.iconst 3, 1) := by decide +kernel
theorem dX6_isPlayer_3 : decode cX6_isPlayer 3 = .ok (.invokestatic 109, 3) := by decide +kernel
theorem dX6_isPlayer_6 : decode cX6_isPlayer 6 = .ok (.ireturn, 1) := by decide +kernel
theorem dX6_scoreOf_0 : decode cX6_scoreOf 0 = .ok (.iconst 0, 1) := by decide +kernel
theorem dX6_scoreOf_1 : decode cX6_scoreOf 1 = .ok (.istore_n 2, 1) := by decide +kernel
theorem dX6_scoreOf_2 : decode cX6_scoreOf 2 = .ok (.iload_n 1, 1) := by decide +kernel
theorem dX6_scoreOf_3 : decode cX6_scoreOf 3 = .ok (.istore_n 3, 1) := by decide +kernel
theorem dX6_scoreOf_4 : decode cX6_scoreOf 4 = .ok (.iload_n 3, 1) := by decide +kernel
theorem dX6_scoreOf_5 : decode cX6_scoreOf 5 = .ok (.bipush 16, 2) := by decide +kernel
theorem dX6_scoreOf_7 : decode cX6_scoreOf 7 = .ok (.if_icmp .ge 47, 3) := by decide +kernel
theorem dX6_scoreOf_10 : decode cX6_scoreOf 10 = .ok (.iload_n 2, 1) := by decide +kernel
theorem dX6_scoreOf_11 : decode cX6_scoreOf 11 = .ok (.aload_n 0, 1) := by decide +kernel
theorem dX6_scoreOf_12 : decode cX6_scoreOf 12 = .ok (.iload_n 3, 1) := by decide +kernel
theorem dX6_scoreOf_13 : decode cX6_scoreOf 13 = .ok (.invokevirtual 45, 3) := by decide +kernel
theorem dX6_scoreOf_16 : decode cX6_scoreOf 16 = .ok (.iconst 2, 1) := by decide +kernel
theorem dX6_scoreOf_17 : decode cX6_scoreOf 17 = .ok (.if_icmp .ne 7, 3) := by decide +kernel
theorem dX6_scoreOf_20 : decode cX6_scoreOf 20 = .ok (.iconst 3, 1) := by decide +kernel
theorem dX6_scoreOf_21 : decode cX6_scoreOf 21 = .ok (.goto 25, 3) := by decide +kernel
theorem dX6_scoreOf_24 : decode cX6_scoreOf 24 = .ok (.aload_n 0, 1) := by decide +kernel
theorem dX6_scoreOf_25 : decode cX6_scoreOf 25 = .ok (.iload_n 3, 1) := by decide +kernel
theorem dX6_scoreOf_26 : decode cX6_scoreOf 26 = .ok (.invokevirtual 45, 3) := by decide +kernel
theorem dX6_scoreOf_29 : decode cX6_scoreOf 29 = .ok (.iconst 1, 1) := by decide +kernel
theorem dX6_scoreOf_30 : decode cX6_scoreOf 30 = .ok (.if_icmp .ne 15, 3) := by decide +kernel
theorem dX6_scoreOf_33 : decode cX6_scoreOf 33 = .ok (.aload_n 0, 1) := by decide +kernel
theorem dX6_scoreOf_34 : decode cX6_scoreOf 34 = .ok (.iload_n 3, 1) := by decide +kernel
theorem dX6_scoreOf_35 : decode cX6_scoreOf 35 = .ok (.invokevirtual 81, 3) := by decide +kernel
theorem dX6_scoreOf_38 : decode cX6_scoreOf 38 = .ok (.ifCond .eq 7, 3) := by decide +kernel
theorem dX6_scoreOf_41 : decode cX6_scoreOf 41 = .ok (.iconst 1, 1) := by decide +kernel
theorem dX6_scoreOf_42 : decode cX6_scoreOf 42 = .ok (.goto 4, 3) := by decide +kernel
theorem dX6_scoreOf_45 : decode cX6_scoreOf 45 = .ok (.iconst 0, 1) := by decide +kernel
theorem dX6_scoreOf_46 : decode cX6_scoreOf 46 = .ok (.iadd, 1) := by decide +kernel
theorem dX6_scoreOf_47 : decode cX6_scoreOf 47 = .ok (.istore_n 2, 1) := by decide +kernel
theorem dX6_scoreOf_48 : decode cX6_scoreOf 48 = .ok (.iinc 3 4, 3) := by decide +kernel
theorem dX6_scoreOf_51 : decode cX6_scoreOf 51 = .ok (.goto (-47), 3) := by decide +kernel
theorem dX6_scoreOf_54 : decode cX6_scoreOf 54 = .ok (.iload_n 2, 1) := by decide +kernel
theorem dX6_scoreOf_55 : decode cX6_scoreOf 55 = .ok (.ireturn, 1) := by decide +kernel
theorem dX6_score_0 : decode cX6_score 0 = .ok (.iload_n 1, 1) := by decide +kernel
theorem dX6_score_1 : decode cX6_score 1 = .ok (.invokestatic 163, 3) := by decide +kernel
theorem dX6_score_4 : decode cX6_score 4 = .ok (.ifCond .eq 11, 3) := by decide +kernel
theorem dX6_score_7 : decode cX6_score 7 = .ok (.aload_n 0, 1) := by decide +kernel
theorem dX6_score_8 : decode cX6_score 8 = .ok (.iload_n 1, 1) := by decide +kernel
theorem dX6_score_9 : decode cX6_score 9 = .ok (.invokevirtual 166, 3) := by decide +kernel
theorem dX6_score_12 : decode cX6_score 12 = .ok (.goto 4, 3) := by decide +kernel
theorem dX6_score_15 : decode cX6_score 15 = .ok (.iconst (-1), 1) := by decide +kernel
theorem dX6_score_16 : decode cX6_score 16 = .ok (.ireturn, 1) := by decide +kernel
theorem dX6_rank_0 : decode cX6_rank 0 = .ok (.aload_n 0, 1) := by decide +kernel
theorem dX6_rank_1 : decode cX6_rank 1 = .ok (.iload_n 1, 1) := by decide +kernel
theorem dX6_rank_2 : decode cX6_rank 2 = .ok (.invokevirtual 166, 3) := by decide +kernel
theorem dX6_rank_5 : decode cX6_rank 5 = .ok (.aload_n 0, 1) := by decide +kernel
theorem dX6_rank_6 : decode cX6_rank 6 = .ok (.iload_n 1, 1) := by decide +kernel
theorem dX6_rank_7 : decode cX6_rank 7 = .ok (.invokevirtual 88, 3) := by decide +kernel
theorem dX6_rank_10 : decode cX6_rank 10 = .ok (.ifCond .eq 9, 3) := by decide +kernel
theorem dX6_rank_13 : decode cX6_rank 13 = .ok (.sipush 1000, 3) := by decide +kernel
theorem dX6_rank_16 : decode cX6_rank 16 = .ok (.goto 4, 3) := by decide +kernel
theorem dX6_rank_19 : decode cX6_rank 19 = .ok (.iconst 0, 1) := by decide +kernel
theorem dX6_rank_20 : decode cX6_rank 20 = .ok (.iadd, 1) := by decide +kernel
theorem dX6_rank_21 : decode cX6_rank 21 = .ok (.ireturn, 1) := by decide +kernel
theorem dX6_twelfthsOf_0 : decode cX6_twelfthsOf 0 = .ok (.iconst 0, 1) := by decide +kernel
theorem dX6_twelfthsOf_1 : decode cX6_twelfthsOf 1 = .ok (.istore_n 2, 1) := by decide +kernel
theorem dX6_twelfthsOf_2 : decode cX6_twelfthsOf 2 = .ok (.iconst 0, 1) := by decide +kernel
theorem dX6_twelfthsOf_3 : decode cX6_twelfthsOf 3 = .ok (.istore_n 3, 1) := by decide +kernel
theorem dX6_twelfthsOf_4 : decode cX6_twelfthsOf 4 = .ok (.iconst 0, 1) := by decide +kernel
theorem dX6_twelfthsOf_5 : decode cX6_twelfthsOf 5 = .ok (.istore 4, 2) := by decide +kernel
theorem dX6_twelfthsOf_7 : decode cX6_twelfthsOf 7 = .ok (.iload 4, 2) := by decide +kernel
theorem dX6_twelfthsOf_9 : decode cX6_twelfthsOf 9 = .ok (.iconst 4, 1) := by decide +kernel
theorem dX6_twelfthsOf_10 : decode cX6_twelfthsOf 10 = .ok (.if_icmp .ge 53, 3) := by decide +kernel
theorem dX6_twelfthsOf_13 : decode cX6_twelfthsOf 13 = .ok (.iload_n 2, 1) := by decide +kernel
theorem dX6_twelfthsOf_14 : decode cX6_twelfthsOf 14 = .ok (.aload_n 0, 1) := by decide +kernel
theorem dX6_twelfthsOf_15 : decode cX6_twelfthsOf 15 = .ok (.iload 4, 2) := by decide +kernel
theorem dX6_twelfthsOf_17 : decode cX6_twelfthsOf 17 = .ok (.invokevirtual 169, 3) := by decide +kernel
theorem dX6_twelfthsOf_20 : decode cX6_twelfthsOf 20 = .ok (.aload_n 0, 1) := by decide +kernel
theorem dX6_twelfthsOf_21 : decode cX6_twelfthsOf 21 = .ok (.iload_n 1, 1) := by decide +kernel
theorem dX6_twelfthsOf_22 : decode cX6_twelfthsOf 22 = .ok (.invokevirtual 169, 3) := by decide +kernel
theorem dX6_twelfthsOf_25 : decode cX6_twelfthsOf 25 = .ok (.if_icmp .le 7, 3) := by decide +kernel
theorem dX6_twelfthsOf_28 : decode cX6_twelfthsOf 28 = .ok (.iconst 1, 1) := by decide +kernel
theorem dX6_twelfthsOf_29 : decode cX6_twelfthsOf 29 = .ok (.goto 4, 3) := by decide +kernel
theorem dX6_twelfthsOf_32 : decode cX6_twelfthsOf 32 = .ok (.iconst 0, 1) := by decide +kernel
theorem dX6_twelfthsOf_33 : decode cX6_twelfthsOf 33 = .ok (.iadd, 1) := by decide +kernel
theorem dX6_twelfthsOf_34 : decode cX6_twelfthsOf 34 = .ok (.istore_n 2, 1) := by decide +kernel
theorem dX6_twelfthsOf_35 : decode cX6_twelfthsOf 35 = .ok (.iload_n 3, 1) := by decide +kernel
theorem dX6_twelfthsOf_36 : decode cX6_twelfthsOf 36 = .ok (.aload_n 0, 1) := by decide +kernel
theorem dX6_twelfthsOf_37 : decode cX6_twelfthsOf 37 = .ok (.iload 4, 2) := by decide +kernel
theorem dX6_twelfthsOf_39 : decode cX6_twelfthsOf 39 = .ok (.invokevirtual 169, 3) := by decide +kernel
theorem dX6_twelfthsOf_42 : decode cX6_twelfthsOf 42 = .ok (.aload_n 0, 1) := by decide +kernel
theorem dX6_twelfthsOf_43 : decode cX6_twelfthsOf 43 = .ok (.iload_n 1, 1) := by decide +kernel
theorem dX6_twelfthsOf_44 : decode cX6_twelfthsOf 44 = .ok (.invokevirtual 169, 3) := by decide +kernel
theorem dX6_twelfthsOf_47 : decode cX6_twelfthsOf 47 = .ok (.if_icmp .ne 7, 3) := by decide +kernel
theorem dX6_twelfthsOf_50 : decode cX6_twelfthsOf 50 = .ok (.iconst 1, 1) := by decide +kernel
theorem dX6_twelfthsOf_51 : decode cX6_twelfthsOf 51 = .ok (.goto 4, 3) := by decide +kernel
theorem dX6_twelfthsOf_54 : decode cX6_twelfthsOf 54 = .ok (.iconst 0, 1) := by decide +kernel
theorem dX6_twelfthsOf_55 : decode cX6_twelfthsOf 55 = .ok (.iadd, 1) := by decide +kernel
theorem dX6_twelfthsOf_56 : decode cX6_twelfthsOf 56 = .ok (.istore_n 3, 1) := by decide +kernel
theorem dX6_twelfthsOf_57 : decode cX6_twelfthsOf 57 = .ok (.iinc 4 1, 3) := by decide +kernel
theorem dX6_twelfthsOf_60 : decode cX6_twelfthsOf 60 = .ok (.goto (-53), 3) := by decide +kernel
theorem dX6_twelfthsOf_63 : decode cX6_twelfthsOf 63 = .ok (.iconst 0, 1) := by decide +kernel
theorem dX6_twelfthsOf_64 : decode cX6_twelfthsOf 64 = .ok (.istore 4, 2) := by decide +kernel
theorem dX6_twelfthsOf_66 : decode cX6_twelfthsOf 66 = .ok (.iload_n 2, 1) := by decide +kernel
theorem dX6_twelfthsOf_67 : decode cX6_twelfthsOf 67 = .ok (.istore 5, 2) := by decide +kernel
theorem dX6_twelfthsOf_69 : decode cX6_twelfthsOf 69 = .ok (.iload 5, 2) := by decide +kernel
theorem dX6_twelfthsOf_71 : decode cX6_twelfthsOf 71 = .ok (.iload_n 2, 1) := by decide +kernel
theorem dX6_twelfthsOf_72 : decode cX6_twelfthsOf 72 = .ok (.iload_n 3, 1) := by decide +kernel
theorem dX6_twelfthsOf_73 : decode cX6_twelfthsOf 73 = .ok (.iadd, 1) := by decide +kernel
theorem dX6_twelfthsOf_74 : decode cX6_twelfthsOf 74 = .ok (.if_icmp .ge 47, 3) := by decide +kernel
theorem dX6_twelfthsOf_77 : decode cX6_twelfthsOf 77 = .ok (.iload 4, 2) := by decide +kernel
theorem dX6_twelfthsOf_79 : decode cX6_twelfthsOf 79 = .ok (.iload 5, 2) := by decide +kernel
theorem dX6_twelfthsOf_81 : decode cX6_twelfthsOf 81 = .ok (.ifCond .ne 8, 3) := by decide +kernel
theorem dX6_twelfthsOf_84 : decode cX6_twelfthsOf 84 = .ok (.bipush 48, 2) := by decide +kernel
theorem dX6_twelfthsOf_86 : decode cX6_twelfthsOf 86 = .ok (.goto 26, 3) := by decide +kernel
theorem dX6_twelfthsOf_89 : decode cX6_twelfthsOf 89 = .ok (.iload 5, 2) := by decide +kernel
theorem dX6_twelfthsOf_91 : decode cX6_twelfthsOf 91 = .ok (.iconst 1, 1) := by decide +kernel
theorem dX6_twelfthsOf_92 : decode cX6_twelfthsOf 92 = .ok (.if_icmp .ne 8, 3) := by decide +kernel
theorem dX6_twelfthsOf_95 : decode cX6_twelfthsOf 95 = .ok (.bipush 24, 2) := by decide +kernel
theorem dX6_twelfthsOf_97 : decode cX6_twelfthsOf 97 = .ok (.goto 15, 3) := by decide +kernel
theorem dX6_twelfthsOf_100 : decode cX6_twelfthsOf 100 = .ok (.iload 5, 2) := by decide +kernel
theorem dX6_twelfthsOf_102 : decode cX6_twelfthsOf 102 = .ok (.iconst 2, 1) := by decide +kernel
theorem dX6_twelfthsOf_103 : decode cX6_twelfthsOf 103 = .ok (.if_icmp .ne 8, 3) := by decide +kernel
theorem dX6_twelfthsOf_106 : decode cX6_twelfthsOf 106 = .ok (.bipush 12, 2) := by decide +kernel
theorem dX6_twelfthsOf_108 : decode cX6_twelfthsOf 108 = .ok (.goto 4, 3) := by decide +kernel
theorem dX6_twelfthsOf_111 : decode cX6_twelfthsOf 111 = .ok (.iconst 0, 1) := by decide +kernel
theorem dX6_twelfthsOf_112 : decode cX6_twelfthsOf 112 = .ok (.iadd, 1) := by decide +kernel
theorem dX6_twelfthsOf_113 : decode cX6_twelfthsOf 113 = .ok (.istore 4, 2) := by decide +kernel
theorem dX6_twelfthsOf_115 : decode cX6_twelfthsOf 115 = .ok (.iinc 5 1, 3) := by decide +kernel
theorem dX6_twelfthsOf_118 : decode cX6_twelfthsOf 118 = .ok (.goto (-49), 3) := by decide +kernel
theorem dX6_twelfthsOf_121 : decode cX6_twelfthsOf 121 = .ok (.iload 4, 2) := by decide +kernel
theorem dX6_twelfthsOf_123 : decode cX6_twelfthsOf 123 = .ok (.iload_n 3, 1) := by decide +kernel
theorem dX6_twelfthsOf_124 : decode cX6_twelfthsOf 124 = .ok (.idiv, 1) := by decide +kernel
theorem dX6_twelfthsOf_125 : decode cX6_twelfthsOf 125 = .ok (.ireturn, 1) := by decide +kernel
theorem dX6_twelfths_0 : decode cX6_twelfths 0 = .ok (.iload_n 1, 1) := by decide +kernel
theorem dX6_twelfths_1 : decode cX6_twelfths 1 = .ok (.invokestatic 163, 3) := by decide +kernel
theorem dX6_twelfths_4 : decode cX6_twelfths 4 = .ok (.ifCond .eq 11, 3) := by decide +kernel
theorem dX6_twelfths_7 : decode cX6_twelfths 7 = .ok (.aload_n 0, 1) := by decide +kernel
theorem dX6_twelfths_8 : decode cX6_twelfths 8 = .ok (.iload_n 1, 1) := by decide +kernel
theorem dX6_twelfths_9 : decode cX6_twelfths 9 = .ok (.invokevirtual 172, 3) := by decide +kernel
theorem dX6_twelfths_12 : decode cX6_twelfths 12 = .ok (.goto 4, 3) := by decide +kernel
theorem dX6_twelfths_15 : decode cX6_twelfths 15 = .ok (.iconst (-1), 1) := by decide +kernel
theorem dX6_twelfths_16 : decode cX6_twelfths 16 = .ok (.ireturn, 1) := by decide +kernel
theorem dX6_points_0 : decode cX6_points 0 = .ok (.iload_n 1, 1) := by decide +kernel
theorem dX6_points_1 : decode cX6_points 1 = .ok (.iconst 0, 1) := by decide +kernel
theorem dX6_points_2 : decode cX6_points 2 = .ok (.iconst 1, 1) := by decide +kernel
theorem dX6_points_3 : decode cX6_points 3 = .ok (.invokestatic 109, 3) := by decide +kernel
theorem dX6_points_6 : decode cX6_points 6 = .ok (.ifCond .ne 5, 3) := by decide +kernel
theorem dX6_points_9 : decode cX6_points 9 = .ok (.iconst (-1), 1) := by decide +kernel
theorem dX6_points_10 : decode cX6_points 10 = .ok (.ireturn, 1) := by decide +kernel
theorem dX6_points_11 : decode cX6_points 11 = .ok (.aload_n 0, 1) := by decide +kernel
theorem dX6_points_12 : decode cX6_points 12 = .ok (.iload_n 1, 1) := by decide +kernel
theorem dX6_points_13 : decode cX6_points 13 = .ok (.invokevirtual 172, 3) := by decide +kernel
theorem dX6_points_16 : decode cX6_points 16 = .ok (.aload_n 0, 1) := by decide +kernel
theorem dX6_points_17 : decode cX6_points 17 = .ok (.iload_n 1, 1) := by decide +kernel
theorem dX6_points_18 : decode cX6_points 18 = .ok (.iconst 2, 1) := by decide +kernel
theorem dX6_points_19 : decode cX6_points 19 = .ok (.iadd, 1) := by decide +kernel
theorem dX6_points_20 : decode cX6_points 20 = .ok (.invokevirtual 172, 3) := by decide +kernel
theorem dX6_points_23 : decode cX6_points 23 = .ok (.iadd, 1) := by decide +kernel
theorem dX6_points_24 : decode cX6_points 24 = .ok (.istore_n 2, 1) := by decide +kernel
theorem dX6_points_25 : decode cX6_points 25 = .ok (.iconst 0, 1) := by decide +kernel
theorem dX6_points_26 : decode cX6_points 26 = .ok (.istore_n 3, 1) := by decide +kernel
theorem dX6_points_27 : decode cX6_points 27 = .ok (.iload_n 3, 1) := by decide +kernel
theorem dX6_points_28 : decode cX6_points 28 = .ok (.iconst 4, 1) := by decide +kernel
theorem dX6_points_29 : decode cX6_points 29 = .ok (.if_icmp .ge 38, 3) := by decide +kernel
theorem dX6_points_32 : decode cX6_points 32 = .ok (.iload_n 2, 1) := by decide +kernel
theorem dX6_points_33 : decode cX6_points 33 = .ok (.aload_n 0, 1) := by decide +kernel
theorem dX6_points_34 : decode cX6_points 34 = .ok (.iload_n 3, 1) := by decide +kernel
theorem dX6_points_35 : decode cX6_points 35 = .ok (.invokevirtual 88, 3) := by decide +kernel
theorem dX6_points_38 : decode cX6_points 38 = .ok (.ifCond .ne 7, 3) := by decide +kernel
theorem dX6_points_41 : decode cX6_points 41 = .ok (.iconst 0, 1) := by decide +kernel
theorem dX6_points_42 : decode cX6_points 42 = .ok (.goto 17, 3) := by decide +kernel
theorem dX6_points_45 : decode cX6_points 45 = .ok (.iload_n 3, 1) := by decide +kernel
theorem dX6_points_46 : decode cX6_points 46 = .ok (.iconst 2, 1) := by decide +kernel
theorem dX6_points_47 : decode cX6_points 47 = .ok (.irem, 1) := by decide +kernel
theorem dX6_points_48 : decode cX6_points 48 = .ok (.iload_n 1, 1) := by decide +kernel
theorem dX6_points_49 : decode cX6_points 49 = .ok (.if_icmp .ne 8, 3) := by decide +kernel
theorem dX6_points_52 : decode cX6_points 52 = .ok (.bipush 12, 2) := by decide +kernel
theorem dX6_points_54 : decode cX6_points 54 = .ok (.goto 5, 3) := by decide +kernel
theorem dX6_points_57 : decode cX6_points 57 = .ok (.bipush (-12), 2) := by decide +kernel
theorem dX6_points_59 : decode cX6_points 59 = .ok (.iadd, 1) := by decide +kernel
theorem dX6_points_60 : decode cX6_points 60 = .ok (.istore_n 2, 1) := by decide +kernel
theorem dX6_points_61 : decode cX6_points 61 = .ok (.iinc 3 1, 3) := by decide +kernel
theorem dX6_points_64 : decode cX6_points 64 = .ok (.goto (-37), 3) := by decide +kernel
theorem dX6_points_67 : decode cX6_points 67 = .ok (.iload_n 2, 1) := by decide +kernel
theorem dX6_points_68 : decode cX6_points 68 = .ok (.ireturn, 1) := by decide +kernel
theorem dX6_chanceOf_0 : decode cX6_chanceOf 0 = .ok (.iload_n 2, 1) := by decide +kernel
theorem dX6_chanceOf_1 : decode cX6_chanceOf 1 = .ok (.ifCond .ge 8, 3) := by decide +kernel
theorem dX6_chanceOf_4 : decode cX6_chanceOf 4 = .ok (.bipush 20, 2) := by decide +kernel
theorem dX6_chanceOf_6 : decode cX6_chanceOf 6 = .ok (.goto 8, 3) := by decide +kernel
theorem dX6_chanceOf_9 : decode cX6_chanceOf 9 = .ok (.aload_n 0, 1) := by decide +kernel
theorem dX6_chanceOf_10 : decode cX6_chanceOf 10 = .ok (.iload_n 2, 1) := by decide +kernel
theorem dX6_chanceOf_11 : decode cX6_chanceOf 11 = .ok (.invokevirtual 58, 3) := by decide +kernel
theorem dX6_chanceOf_14 : decode cX6_chanceOf 14 = .ok (.istore_n 3, 1) := by decide +kernel
theorem dX6_chanceOf_15 : decode cX6_chanceOf 15 = .ok (.iload_n 2, 1) := by decide +kernel
theorem dX6_chanceOf_16 : decode cX6_chanceOf 16 = .ok (.ifCond .ge 8, 3) := by decide +kernel
theorem dX6_chanceOf_19 : decode cX6_chanceOf 19 = .ok (.bipush 20, 2) := by decide +kernel
theorem dX6_chanceOf_21 : decode cX6_chanceOf 21 = .ok (.goto 8, 3) := by decide +kernel
theorem dX6_chanceOf_24 : decode cX6_chanceOf 24 = .ok (.aload_n 0, 1) := by decide +kernel
theorem dX6_chanceOf_25 : decode cX6_chanceOf 25 = .ok (.iload_n 2, 1) := by decide +kernel
theorem dX6_chanceOf_26 : decode cX6_chanceOf 26 = .ok (.invokevirtual 65, 3) := by decide +kernel
theorem dX6_chanceOf_29 : decode cX6_chanceOf 29 = .ok (.istore 4, 2) := by decide +kernel
theorem dX6_chanceOf_31 : decode cX6_chanceOf 31 = .ok (.aload_n 0, 1) := by decide +kernel
theorem dX6_chanceOf_32 : decode cX6_chanceOf 32 = .ok (.iload_n 1, 1) := by decide +kernel
theorem dX6_chanceOf_33 : decode cX6_chanceOf 33 = .ok (.invokevirtual 58, 3) := by decide +kernel
theorem dX6_chanceOf_36 : decode cX6_chanceOf 36 = .ok (.aload_n 0, 1) := by decide +kernel
theorem dX6_chanceOf_37 : decode cX6_chanceOf 37 = .ok (.iload_n 1, 1) := by decide +kernel
theorem dX6_chanceOf_38 : decode cX6_chanceOf 38 = .ok (.invokevirtual 65, 3) := by decide +kernel
theorem dX6_chanceOf_41 : decode cX6_chanceOf 41 = .ok (.iload_n 3, 1) := by decide +kernel
theorem dX6_chanceOf_42 : decode cX6_chanceOf 42 = .ok (.iload 4, 2) := by decide +kernel
theorem dX6_chanceOf_44 : decode cX6_chanceOf 44 = .ok (.invokestatic 146, 3) := by decide +kernel
theorem dX6_chanceOf_47 : decode cX6_chanceOf 47 = .ok (.istore 5, 2) := by decide +kernel
theorem dX6_chanceOf_49 : decode cX6_chanceOf 49 = .ok (.iload_n 2, 1) := by decide +kernel
theorem dX6_chanceOf_50 : decode cX6_chanceOf 50 = .ok (.ifCond .lt 21, 3) := by decide +kernel
theorem dX6_chanceOf_53 : decode cX6_chanceOf 53 = .ok (.iload_n 1, 1) := by decide +kernel
theorem dX6_chanceOf_54 : decode cX6_chanceOf 54 = .ok (.invokestatic 68, 3) := by decide +kernel
theorem dX6_chanceOf_57 : decode cX6_chanceOf 57 = .ok (.iconst 1, 1) := by decide +kernel
theorem dX6_chanceOf_58 : decode cX6_chanceOf 58 = .ok (.if_icmp .ne 13, 3) := by decide +kernel
theorem dX6_chanceOf_61 : decode cX6_chanceOf 61 = .ok (.bipush 36, 2) := by decide +kernel
theorem dX6_chanceOf_63 : decode cX6_chanceOf 63 = .ok (.iconst 2, 1) := by decide +kernel
theorem dX6_chanceOf_64 : decode cX6_chanceOf 64 = .ok (.iload 5, 2) := by decide +kernel
theorem dX6_chanceOf_66 : decode cX6_chanceOf 66 = .ok (.imul, 1) := by decide +kernel
theorem dX6_chanceOf_67 : decode cX6_chanceOf 67 = .ok (.isub, 1) := by decide +kernel
theorem dX6_chanceOf_68 : decode cX6_chanceOf 68 = .ok (.goto 8, 3) := by decide +kernel
theorem dX6_chanceOf_71 : decode cX6_chanceOf 71 = .ok (.bipush 36, 2) := by decide +kernel
theorem dX6_chanceOf_73 : decode cX6_chanceOf 73 = .ok (.iload 5, 2) := by decide +kernel
theorem dX6_chanceOf_75 : decode cX6_chanceOf 75 = .ok (.isub, 1) := by decide +kernel
theorem dX6_chanceOf_76 : decode cX6_chanceOf 76 = .ok (.istore 6, 2) := by decide +kernel
theorem dX6_chanceOf_78 : decode cX6_chanceOf 78 = .ok (.iload 6, 2) := by decide +kernel
theorem dX6_chanceOf_80 : decode cX6_chanceOf 80 = .ok (.iconst 1, 1) := by decide +kernel
theorem dX6_chanceOf_81 : decode cX6_chanceOf 81 = .ok (.if_icmp .ge 7, 3) := by decide +kernel
theorem dX6_chanceOf_84 : decode cX6_chanceOf 84 = .ok (.iconst 1, 1) := by decide +kernel
theorem dX6_chanceOf_85 : decode cX6_chanceOf 85 = .ok (.goto 5, 3) := by decide +kernel
theorem dX6_chanceOf_88 : decode cX6_chanceOf 88 = .ok (.iload 6, 2) := by decide +kernel
theorem dX6_chanceOf_90 : decode cX6_chanceOf 90 = .ok (.ireturn, 1) := by decide +kernel
theorem dX6_chance_0 : decode cX6_chance 0 = .ok (.iload_n 1, 1) := by decide +kernel
theorem dX6_chance_1 : decode cX6_chance 1 = .ok (.invokestatic 117, 3) := by decide +kernel
theorem dX6_chance_4 : decode cX6_chance 4 = .ok (.ifCond .eq 13, 3) := by decide +kernel
theorem dX6_chance_7 : decode cX6_chance 7 = .ok (.iload_n 2, 1) := by decide +kernel
theorem dX6_chance_8 : decode cX6_chance 8 = .ok (.iconst (-1), 1) := by decide +kernel
theorem dX6_chance_9 : decode cX6_chance 9 = .ok (.bipush 15, 2) := by decide +kernel
theorem dX6_chance_11 : decode cX6_chance 11 = .ok (.invokestatic 109, 3) := by decide +kernel
theorem dX6_chance_14 : decode cX6_chance 14 = .ok (.ifCond .ne 5, 3) := by decide +kernel
theorem dX6_chance_17 : decode cX6_chance 17 = .ok (.iconst (-1), 1) := by decide +kernel
theorem dX6_chance_18 : decode cX6_chance 18 = .ok (.ireturn, 1) := by decide +kernel
theorem dX6_chance_19 : decode cX6_chance 19 = .ok (.aload_n 0, 1) := by decide +kernel
theorem dX6_chance_20 : decode cX6_chance 20 = .ok (.iload_n 1, 1) := by decide +kernel
theorem dX6_chance_21 : decode cX6_chance 21 = .ok (.invokevirtual 45, 3) := by decide +kernel
theorem dX6_chance_24 : decode cX6_chance 24 = .ok (.iconst 2, 1) := by decide +kernel
theorem dX6_chance_25 : decode cX6_chance 25 = .ok (.if_icmp .eq 21, 3) := by decide +kernel
theorem dX6_chance_28 : decode cX6_chance 28 = .ok (.iload_n 2, 1) := by decide +kernel
theorem dX6_chance_29 : decode cX6_chance 29 = .ok (.ifCond .lt 20, 3) := by decide +kernel
theorem dX6_chance_32 : decode cX6_chance 32 = .ok (.aload_n 0, 1) := by decide +kernel
theorem dX6_chance_33 : decode cX6_chance 33 = .ok (.iload_n 2, 1) := by decide +kernel
theorem dX6_chance_34 : decode cX6_chance 34 = .ok (.invokevirtual 45, 3) := by decide +kernel
theorem dX6_chance_37 : decode cX6_chance 37 = .ok (.iconst 1, 1) := by decide +kernel
theorem dX6_chance_38 : decode cX6_chance 38 = .ok (.if_icmp .ne 8, 3) := by decide +kernel
theorem dX6_chance_41 : decode cX6_chance 41 = .ok (.iload_n 2, 1) := by decide +kernel
theorem dX6_chance_42 : decode cX6_chance 42 = .ok (.iload_n 1, 1) := by decide +kernel
theorem dX6_chance_43 : decode cX6_chance 43 = .ok (.if_icmp .ne 6, 3) := by decide +kernel
theorem dX6_chance_46 : decode cX6_chance 46 = .ok (.bipush (-2), 2) := by decide +kernel
theorem dX6_chance_48 : decode cX6_chance 48 = .ok (.ireturn, 1) := by decide +kernel
theorem dX6_chance_49 : decode cX6_chance 49 = .ok (.aload_n 0, 1) := by decide +kernel
theorem dX6_chance_50 : decode cX6_chance 50 = .ok (.iload_n 1, 1) := by decide +kernel
theorem dX6_chance_51 : decode cX6_chance 51 = .ok (.iload_n 2, 1) := by decide +kernel
theorem dX6_chance_52 : decode cX6_chance 52 = .ok (.invokevirtual 175, 3) := by decide +kernel
theorem dX6_chance_55 : decode cX6_chance 55 = .ok (.ireturn, 1) := by decide +kernel
theorem dX6_gainOf_0 : decode cX6_gainOf 0 = .ok (.iload_n 2, 1) := by decide +kernel
theorem dX6_gainOf_1 : decode cX6_gainOf 1 = .ok (.ifCond .ge 17, 3) := by decide +kernel
theorem dX6_gainOf_4 : decode cX6_gainOf 4 = .ok (.aload_n 0, 1) := by decide +kernel
theorem dX6_gainOf_5 : decode cX6_gainOf 5 = .ok (.iload_n 1, 1) := by decide +kernel
theorem dX6_gainOf_6 : decode cX6_gainOf 6 = .ok (.invokevirtual 45, 3) := by decide +kernel
theorem dX6_gainOf_9 : decode cX6_gainOf 9 = .ok (.ifCond .ne 7, 3) := by decide +kernel
theorem dX6_gainOf_12 : decode cX6_gainOf 12 = .ok (.iconst 3, 1) := by decide +kernel
theorem dX6_gainOf_13 : decode cX6_gainOf 13 = .ok (.goto 4, 3) := by decide +kernel
theorem dX6_gainOf_16 : decode cX6_gainOf 16 = .ok (.iconst 2, 1) := by decide +kernel
theorem dX6_gainOf_17 : decode cX6_gainOf 17 = .ok (.ireturn, 1) := by decide +kernel
theorem dX6_gainOf_18 : decode cX6_gainOf 18 = .ok (.aload_n 0, 1) := by decide +kernel
theorem dX6_gainOf_19 : decode cX6_gainOf 19 = .ok (.iload_n 2, 1) := by decide +kernel
theorem dX6_gainOf_20 : decode cX6_gainOf 20 = .ok (.invokevirtual 58, 3) := by decide +kernel
theorem dX6_gainOf_23 : decode cX6_gainOf 23 = .ok (.aload_n 0, 1) := by decide +kernel
theorem dX6_gainOf_24 : decode cX6_gainOf 24 = .ok (.iload_n 2, 1) := by decide +kernel
theorem dX6_gainOf_25 : decode cX6_gainOf 25 = .ok (.invokevirtual 65, 3) := by decide +kernel
theorem dX6_gainOf_28 : decode cX6_gainOf 28 = .ok (.bipush 20, 2) := by decide +kernel
theorem dX6_gainOf_30 : decode cX6_gainOf 30 = .ok (.bipush 20, 2) := by decide +kernel
theorem dX6_gainOf_32 : decode cX6_gainOf 32 = .ok (.invokestatic 146, 3) := by decide +kernel
theorem dX6_gainOf_35 : decode cX6_gainOf 35 = .ok (.bipush 6, 2) := by decide +kernel
theorem dX6_gainOf_37 : decode cX6_gainOf 37 = .ok (.if_icmp .gt 7, 3) := by decide +kernel
theorem dX6_gainOf_40 : decode cX6_gainOf 40 = .ok (.iconst 2, 1) := by decide +kernel
theorem dX6_gainOf_41 : decode cX6_gainOf 41 = .ok (.goto 4, 3) := by decide +kernel
theorem dX6_gainOf_44 : decode cX6_gainOf 44 = .ok (.iconst 1, 1) := by decide +kernel
theorem dX6_gainOf_45 : decode cX6_gainOf 45 = .ok (.istore_n 3, 1) := by decide +kernel
theorem dX6_gainOf_46 : decode cX6_gainOf 46 = .ok (.iconst 0, 1) := by decide +kernel
theorem dX6_gainOf_47 : decode cX6_gainOf 47 = .ok (.istore 4, 2) := by decide +kernel
theorem dX6_gainOf_49 : decode cX6_gainOf 49 = .ok (.iload 4, 2) := by decide +kernel
theorem dX6_gainOf_51 : decode cX6_gainOf 51 = .ok (.bipush 16, 2) := by decide +kernel
theorem dX6_gainOf_53 : decode cX6_gainOf 53 = .ok (.if_icmp .ge 37, 3) := by decide +kernel
theorem dX6_gainOf_56 : decode cX6_gainOf 56 = .ok (.iload_n 3, 1) := by decide +kernel
theorem dX6_gainOf_57 : decode cX6_gainOf 57 = .ok (.aload_n 0, 1) := by decide +kernel
theorem dX6_gainOf_58 : decode cX6_gainOf 58 = .ok (.iload_n 2, 1) := by decide +kernel
theorem dX6_gainOf_59 : decode cX6_gainOf 59 = .ok (.iload 4, 2) := by decide +kernel
theorem dX6_gainOf_61 : decode cX6_gainOf 61 = .ok (.invokevirtual 71, 3) := by decide +kernel
theorem dX6_gainOf_64 : decode cX6_gainOf 64 = .ok (.ifCond .eq 17, 3) := by decide +kernel
theorem dX6_gainOf_67 : decode cX6_gainOf 67 = .ok (.iload 4, 2) := by decide +kernel
theorem dX6_gainOf_69 : decode cX6_gainOf 69 = .ok (.iconst 2, 1) := by decide +kernel
theorem dX6_gainOf_70 : decode cX6_gainOf 70 = .ok (.irem, 1) := by decide +kernel
theorem dX6_gainOf_71 : decode cX6_gainOf 71 = .ok (.iload_n 1, 1) := by decide +kernel
theorem dX6_gainOf_72 : decode cX6_gainOf 72 = .ok (.iconst 2, 1) := by decide +kernel
theorem dX6_gainOf_73 : decode cX6_gainOf 73 = .ok (.irem, 1) := by decide +kernel
theorem dX6_gainOf_74 : decode cX6_gainOf 74 = .ok (.if_icmp .ne 7, 3) := by decide +kernel
theorem dX6_gainOf_77 : decode cX6_gainOf 77 = .ok (.iconst 1, 1) := by decide +kernel
theorem dX6_gainOf_78 : decode cX6_gainOf 78 = .ok (.goto 4, 3) := by decide +kernel
theorem dX6_gainOf_81 : decode cX6_gainOf 81 = .ok (.iconst 0, 1) := by decide +kernel
theorem dX6_gainOf_82 : decode cX6_gainOf 82 = .ok (.iadd, 1) := by decide +kernel
theorem dX6_gainOf_83 : decode cX6_gainOf 83 = .ok (.istore_n 3, 1) := by decide +kernel
theorem dX6_gainOf_84 : decode cX6_gainOf 84 = .ok (.iinc 4 1, 3) := by decide +kernel
theorem dX6_gainOf_87 : decode cX6_gainOf 87 = .ok (.goto (-38), 3) := by decide +kernel
theorem dX6_gainOf_90 : decode cX6_gainOf 90 = .ok (.iload_n 3, 1) := by decide +kernel
theorem dX6_gainOf_91 : decode cX6_gainOf 91 = .ok (.ireturn, 1) := by decide +kernel
theorem dX6_layBest_0 : decode cX6_layBest 0 = .ok (.aload_n 0, 1) := by decide +kernel
theorem dX6_layBest_1 : decode cX6_layBest 1 = .ok (.bipush (-4), 2) := by decide +kernel
theorem dX6_layBest_3 : decode cX6_layBest 3 = .ok (.putfield 179, 3) := by decide +kernel
theorem dX6_layBest_6 : decode cX6_layBest 6 = .ok (.aload_n 0, 1) := by decide +kernel
theorem dX6_layBest_7 : decode cX6_layBest 7 = .ok (.iconst 0, 1) := by decide +kernel
theorem dX6_layBest_8 : decode cX6_layBest 8 = .ok (.putfield 183, 3) := by decide +kernel
theorem dX6_layBest_11 : decode cX6_layBest 11 = .ok (.iload_n 1, 1) := by decide +kernel
theorem dX6_layBest_12 : decode cX6_layBest 12 = .ok (.istore_n 2, 1) := by decide +kernel
theorem dX6_layBest_13 : decode cX6_layBest 13 = .ok (.iload_n 2, 1) := by decide +kernel
theorem dX6_layBest_14 : decode cX6_layBest 14 = .ok (.bipush 16, 2) := by decide +kernel
theorem dX6_layBest_16 : decode cX6_layBest 16 = .ok (.if_icmp .ge 120, 3) := by decide +kernel
theorem dX6_layBest_19 : decode cX6_layBest 19 = .ok (.iconst (-1), 1) := by decide +kernel
theorem dX6_layBest_20 : decode cX6_layBest 20 = .ok (.istore_n 3, 1) := by decide +kernel
theorem dX6_layBest_21 : decode cX6_layBest 21 = .ok (.iload_n 3, 1) := by decide +kernel
theorem dX6_layBest_22 : decode cX6_layBest 22 = .ok (.bipush 16, 2) := by decide +kernel
theorem dX6_layBest_24 : decode cX6_layBest 24 = .ok (.if_icmp .ge 106, 3) := by decide +kernel
theorem dX6_layBest_27 : decode cX6_layBest 27 = .ok (.aload_n 0, 1) := by decide +kernel
theorem dX6_layBest_28 : decode cX6_layBest 28 = .ok (.iload_n 2, 1) := by decide +kernel
theorem dX6_layBest_29 : decode cX6_layBest 29 = .ok (.invokevirtual 81, 3) := by decide +kernel
theorem dX6_layBest_32 : decode cX6_layBest 32 = .ok (.ifCond .eq 98, 3) := by decide +kernel
theorem dX6_layBest_35 : decode cX6_layBest 35 = .ok (.iload_n 3, 1) := by decide +kernel
theorem dX6_layBest_36 : decode cX6_layBest 36 = .ok (.ifCond .lt 29, 3) := by decide +kernel
theorem dX6_layBest_39 : decode cX6_layBest 39 = .ok (.iload_n 3, 1) := by decide +kernel
theorem dX6_layBest_40 : decode cX6_layBest 40 = .ok (.iconst 2, 1) := by decide +kernel
theorem dX6_layBest_41 : decode cX6_layBest 41 = .ok (.irem, 1) := by decide +kernel
theorem dX6_layBest_42 : decode cX6_layBest 42 = .ok (.iload_n 2, 1) := by decide +kernel
theorem dX6_layBest_43 : decode cX6_layBest 43 = .ok (.iconst 2, 1) := by decide +kernel
theorem dX6_layBest_44 : decode cX6_layBest 44 = .ok (.irem, 1) := by decide +kernel
theorem dX6_layBest_45 : decode cX6_layBest 45 = .ok (.if_icmp .eq 24, 3) := by decide +kernel
theorem dX6_layBest_48 : decode cX6_layBest 48 = .ok (.aload_n 0, 1) := by decide +kernel
theorem dX6_layBest_49 : decode cX6_layBest 49 = .ok (.iload_n 3, 1) := by decide +kernel
theorem dX6_layBest_50 : decode cX6_layBest 50 = .ok (.invokevirtual 45, 3) := by decide +kernel
theorem dX6_layBest_53 : decode cX6_layBest 53 = .ok (.iconst 1, 1) := by decide +kernel
theorem dX6_layBest_54 : decode cX6_layBest 54 = .ok (.if_icmp .ne 15, 3) := by decide +kernel
theorem dX6_layBest_57 : decode cX6_layBest 57 = .ok (.aload_n 0, 1) := by decide +kernel
theorem dX6_layBest_58 : decode cX6_layBest 58 = .ok (.iload_n 3, 1) := by decide +kernel
theorem dX6_layBest_59 : decode cX6_layBest 59 = .ok (.invokevirtual 81, 3) := by decide +kernel
theorem dX6_layBest_62 : decode cX6_layBest 62 = .ok (.ifCond .eq 7, 3) := by decide +kernel
theorem dX6_layBest_65 : decode cX6_layBest 65 = .ok (.iconst 1, 1) := by decide +kernel
theorem dX6_layBest_66 : decode cX6_layBest 66 = .ok (.goto 4, 3) := by decide +kernel
theorem dX6_layBest_69 : decode cX6_layBest 69 = .ok (.iconst 0, 1) := by decide +kernel
theorem dX6_layBest_70 : decode cX6_layBest 70 = .ok (.istore 4, 2) := by decide +kernel
theorem dX6_layBest_72 : decode cX6_layBest 72 = .ok (.iload 4, 2) := by decide +kernel
theorem dX6_layBest_74 : decode cX6_layBest 74 = .ok (.ifCond .eq 50, 3) := by decide +kernel
theorem dX6_layBest_77 : decode cX6_layBest 77 = .ok (.aload_n 0, 1) := by decide +kernel
theorem dX6_layBest_78 : decode cX6_layBest 78 = .ok (.iload_n 2, 1) := by decide +kernel
theorem dX6_layBest_79 : decode cX6_layBest 79 = .ok (.iload_n 3, 1) := by decide +kernel
theorem dX6_layBest_80 : decode cX6_layBest 80 = .ok (.invokevirtual 175, 3) := by decide +kernel
theorem dX6_layBest_83 : decode cX6_layBest 83 = .ok (.aload_n 0, 1) := by decide +kernel
theorem dX6_layBest_84 : decode cX6_layBest 84 = .ok (.iload_n 2, 1) := by decide +kernel
theorem dX6_layBest_85 : decode cX6_layBest 85 = .ok (.iload_n 3, 1) := by decide +kernel
theorem dX6_layBest_86 : decode cX6_layBest 86 = .ok (.invokevirtual 186, 3) := by decide +kernel
theorem dX6_layBest_89 : decode cX6_layBest 89 = .ok (.imul, 1) := by decide +kernel
theorem dX6_layBest_90 : decode cX6_layBest 90 = .ok (.aload_n 0, 1) := by decide +kernel
theorem dX6_layBest_91 : decode cX6_layBest 91 = .ok (.getfield 183, 3) := by decide +kernel
theorem dX6_layBest_94 : decode cX6_layBest 94 = .ok (.if_icmp .le 30, 3) := by decide +kernel
theorem dX6_layBest_97 : decode cX6_layBest 97 = .ok (.aload_n 0, 1) := by decide +kernel
theorem dX6_layBest_98 : decode cX6_layBest 98 = .ok (.iload_n 2, 1) := by decide +kernel
theorem dX6_layBest_99 : decode cX6_layBest 99 = .ok (.putfield 179, 3) := by decide +kernel
theorem dX6_layBest_102 : decode cX6_layBest 102 = .ok (.aload_n 0, 1) := by decide +kernel
theorem dX6_layBest_103 : decode cX6_layBest 103 = .ok (.iload_n 3, 1) := by decide +kernel
theorem dX6_layBest_104 : decode cX6_layBest 104 = .ok (.putfield 189, 3) := by decide +kernel
theorem dX6_layBest_107 : decode cX6_layBest 107 = .ok (.aload_n 0, 1) := by decide +kernel
theorem dX6_layBest_108 : decode cX6_layBest 108 = .ok (.aload_n 0, 1) := by decide +kernel
theorem dX6_layBest_109 : decode cX6_layBest 109 = .ok (.iload_n 2, 1) := by decide +kernel
theorem dX6_layBest_110 : decode cX6_layBest 110 = .ok (.iload_n 3, 1) := by decide +kernel
theorem dX6_layBest_111 : decode cX6_layBest 111 = .ok (.invokevirtual 175, 3) := by decide +kernel
theorem dX6_layBest_114 : decode cX6_layBest 114 = .ok (.aload_n 0, 1) := by decide +kernel
theorem dX6_layBest_115 : decode cX6_layBest 115 = .ok (.iload_n 2, 1) := by decide +kernel
theorem dX6_layBest_116 : decode cX6_layBest 116 = .ok (.iload_n 3, 1) := by decide +kernel
theorem dX6_layBest_117 : decode cX6_layBest 117 = .ok (.invokevirtual 186, 3) := by decide +kernel
theorem dX6_layBest_120 : decode cX6_layBest 120 = .ok (.imul, 1) := by decide +kernel
theorem dX6_layBest_121 : decode cX6_layBest 121 = .ok (.putfield 183, 3) := by decide +kernel
theorem dX6_layBest_124 : decode cX6_layBest 124 = .ok (.iinc 3 1, 3) := by decide +kernel
theorem dX6_layBest_127 : decode cX6_layBest 127 = .ok (.goto (-106), 3) := by decide +kernel
theorem dX6_layBest_130 : decode cX6_layBest 130 = .ok (.iinc 2 4, 3) := by decide +kernel
theorem dX6_layBest_133 : decode cX6_layBest 133 = .ok (.goto (-120), 3) := by decide +kernel
theorem dX6_layBest_136 : decode cX6_layBest 136 = .ok (.return_, 1) := by decide +kernel
theorem dX6_best_0 : decode cX6_best 0 = .ok (.iload_n 1, 1) := by decide +kernel
theorem dX6_best_1 : decode cX6_best 1 = .ok (.invokestatic 163, 3) := by decide +kernel
theorem dX6_best_4 : decode cX6_best 4 = .ok (.ifCond .eq 12, 3) := by decide +kernel
theorem dX6_best_7 : decode cX6_best 7 = .ok (.iload_n 2, 1) := by decide +kernel
theorem dX6_best_8 : decode cX6_best 8 = .ok (.iconst 0, 1) := by decide +kernel
theorem dX6_best_9 : decode cX6_best 9 = .ok (.iconst 2, 1) := by decide +kernel
theorem dX6_best_10 : decode cX6_best 10 = .ok (.invokestatic 109, 3) := by decide +kernel
theorem dX6_best_13 : decode cX6_best 13 = .ok (.ifCond .ne 6, 3) := by decide +kernel
theorem dX6_best_16 : decode cX6_best 16 = .ok (.bipush (-100), 2) := by decide +kernel
theorem dX6_best_18 : decode cX6_best 18 = .ok (.ireturn, 1) := by decide +kernel
theorem dX6_best_19 : decode cX6_best 19 = .ok (.aload_n 0, 1) := by decide +kernel
theorem dX6_best_20 : decode cX6_best 20 = .ok (.iload_n 1, 1) := by decide +kernel
theorem dX6_best_21 : decode cX6_best 21 = .ok (.invokevirtual 192, 3) := by decide +kernel
theorem dX6_best_24 : decode cX6_best 24 = .ok (.aload_n 0, 1) := by decide +kernel
theorem dX6_best_25 : decode cX6_best 25 = .ok (.getfield 179, 3) := by decide +kernel
theorem dX6_best_28 : decode cX6_best 28 = .ok (.bipush (-4), 2) := by decide +kernel
theorem dX6_best_30 : decode cX6_best 30 = .ok (.if_icmp .ne 8, 3) := by decide +kernel
theorem dX6_best_33 : decode cX6_best 33 = .ok (.bipush (-102), 2) := by decide +kernel
theorem dX6_best_35 : decode cX6_best 35 = .ok (.goto 30, 3) := by decide +kernel
theorem dX6_best_38 : decode cX6_best 38 = .ok (.iload_n 2, 1) := by decide +kernel
theorem dX6_best_39 : decode cX6_best 39 = .ok (.ifCond .ne 10, 3) := by decide +kernel
theorem dX6_best_42 : decode cX6_best 42 = .ok (.aload_n 0, 1) := by decide +kernel
theorem dX6_best_43 : decode cX6_best 43 = .ok (.getfield 179, 3) := by decide +kernel
theorem dX6_best_46 : decode cX6_best 46 = .ok (.goto 19, 3) := by decide +kernel
theorem dX6_best_49 : decode cX6_best 49 = .ok (.iload_n 2, 1) := by decide +kernel
theorem dX6_best_50 : decode cX6_best 50 = .ok (.iconst 1, 1) := by decide +kernel
theorem dX6_best_51 : decode cX6_best 51 = .ok (.if_icmp .ne 10, 3) := by decide +kernel
theorem dX6_best_54 : decode cX6_best 54 = .ok (.aload_n 0, 1) := by decide +kernel
theorem dX6_best_55 : decode cX6_best 55 = .ok (.getfield 189, 3) := by decide +kernel
theorem dX6_best_58 : decode cX6_best 58 = .ok (.goto 7, 3) := by decide +kernel
theorem dX6_best_61 : decode cX6_best 61 = .ok (.aload_n 0, 1) := by decide +kernel
theorem dX6_best_62 : decode cX6_best 62 = .ok (.getfield 183, 3) := by decide +kernel
theorem dX6_best_65 : decode cX6_best 65 = .ok (.ireturn, 1) := by decide +kernel
theorem dX6_ahead_0 : decode cX6_ahead 0 = .ok (.aload_n 0, 1) := by decide +kernel
theorem dX6_ahead_1 : decode cX6_ahead 1 = .ok (.invokevirtual 113, 3) := by decide +kernel
theorem dX6_ahead_4 : decode cX6_ahead 4 = .ok (.ifCond .eq 7, 3) := by decide +kernel
theorem dX6_ahead_7 : decode cX6_ahead 7 = .ok (.sipush (-10002), 3) := by decide +kernel
theorem dX6_ahead_10 : decode cX6_ahead 10 = .ok (.ireturn, 1) := by decide +kernel
theorem dX6_ahead_11 : decode cX6_ahead 11 = .ok (.aload_n 0, 1) := by decide +kernel
theorem dX6_ahead_12 : decode cX6_ahead 12 = .ok (.aload_n 0, 1) := by decide +kernel
theorem dX6_ahead_13 : decode cX6_ahead 13 = .ok (.invokevirtual 102, 3) := by decide +kernel
theorem dX6_ahead_16 : decode cX6_ahead 16 = .ok (.invokevirtual 192, 3) := by decide +kernel
theorem dX6_ahead_19 : decode cX6_ahead 19 = .ok (.aload_n 0, 1) := by decide +kernel
theorem dX6_ahead_20 : decode cX6_ahead 20 = .ok (.getfield 183, 3) := by decide +kernel
theorem dX6_ahead_23 : decode cX6_ahead 23 = .ok (.istore_n 1, 1) := by decide +kernel
theorem dX6_ahead_24 : decode cX6_ahead 24 = .ok (.aload_n 0, 1) := by decide +kernel
theorem dX6_ahead_25 : decode cX6_ahead 25 = .ok (.invokevirtual 102, 3) := by decide +kernel
theorem dX6_ahead_28 : decode cX6_ahead 28 = .ok (.iconst 1, 1) := by decide +kernel
theorem dX6_ahead_29 : decode cX6_ahead 29 = .ok (.iadd, 1) := by decide +kernel
theorem dX6_ahead_30 : decode cX6_ahead 30 = .ok (.iconst 4, 1) := by decide +kernel
theorem dX6_ahead_31 : decode cX6_ahead 31 = .ok (.irem, 1) := by decide +kernel
theorem dX6_ahead_32 : decode cX6_ahead 32 = .ok (.istore_n 2, 1) := by decide +kernel
theorem dX6_ahead_33 : decode cX6_ahead 33 = .ok (.aload_n 0, 1) := by decide +kernel
theorem dX6_ahead_34 : decode cX6_ahead 34 = .ok (.iload_n 2, 1) := by decide +kernel
theorem dX6_ahead_35 : decode cX6_ahead 35 = .ok (.invokevirtual 91, 3) := by decide +kernel
theorem dX6_ahead_38 : decode cX6_ahead 38 = .ok (.ifCond .ne 12, 3) := by decide +kernel
theorem dX6_ahead_41 : decode cX6_ahead 41 = .ok (.iload_n 2, 1) := by decide +kernel
theorem dX6_ahead_42 : decode cX6_ahead 42 = .ok (.iconst 1, 1) := by decide +kernel
theorem dX6_ahead_43 : decode cX6_ahead 43 = .ok (.iadd, 1) := by decide +kernel
theorem dX6_ahead_44 : decode cX6_ahead 44 = .ok (.iconst 4, 1) := by decide +kernel
theorem dX6_ahead_45 : decode cX6_ahead 45 = .ok (.irem, 1) := by decide +kernel
theorem dX6_ahead_46 : decode cX6_ahead 46 = .ok (.istore_n 2, 1) := by decide +kernel
theorem dX6_ahead_47 : decode cX6_ahead 47 = .ok (.goto (-14), 3) := by decide +kernel
theorem dX6_ahead_50 : decode cX6_ahead 50 = .ok (.aload_n 0, 1) := by decide +kernel
theorem dX6_ahead_51 : decode cX6_ahead 51 = .ok (.iload_n 2, 1) := by decide +kernel
theorem dX6_ahead_52 : decode cX6_ahead 52 = .ok (.invokevirtual 192, 3) := by decide +kernel
theorem dX6_ahead_55 : decode cX6_ahead 55 = .ok (.iload_n 1, 1) := by decide +kernel
theorem dX6_ahead_56 : decode cX6_ahead 56 = .ok (.aload_n 0, 1) := by decide +kernel
theorem dX6_ahead_57 : decode cX6_ahead 57 = .ok (.getfield 183, 3) := by decide +kernel
theorem dX6_ahead_60 : decode cX6_ahead 60 = .ok (.isub, 1) := by decide +kernel
theorem dX6_ahead_61 : decode cX6_ahead 61 = .ok (.ireturn, 1) := by decide +kernel
theorem dX6_write_0 : decode cX6_write 0 = .ok (.iload_n 1, 1) := by decide +kernel
theorem dX6_write_1 : decode cX6_write 1 = .ok (.invokestatic 117, 3) := by decide +kernel
theorem dX6_write_4 : decode cX6_write 4 = .ok (.ifCond .eq 27, 3) := by decide +kernel
theorem dX6_write_7 : decode cX6_write 7 = .ok (.iload_n 2, 1) := by decide +kernel
theorem dX6_write_8 : decode cX6_write 8 = .ok (.iload_n 3, 1) := by decide +kernel
theorem dX6_write_9 : decode cX6_write 9 = .ok (.invokestatic 120, 3) := by decide +kernel
theorem dX6_write_12 : decode cX6_write 12 = .ok (.ifCond .ne 21, 3) := by decide +kernel
theorem dX6_write_15 : decode cX6_write 15 = .ok (.iload_n 2, 1) := by decide +kernel
theorem dX6_write_16 : decode cX6_write 16 = .ok (.iload_n 3, 1) := by decide +kernel
theorem dX6_write_17 : decode cX6_write 17 = .ok (.invokestatic 123, 3) := by decide +kernel
theorem dX6_write_20 : decode cX6_write 20 = .ok (.ifCond .ne 13, 3) := by decide +kernel
theorem dX6_write_23 : decode cX6_write 23 = .ok (.iload_n 2, 1) := by decide +kernel
theorem dX6_write_24 : decode cX6_write 24 = .ok (.iload_n 3, 1) := by decide +kernel
theorem dX6_write_25 : decode cX6_write 25 = .ok (.invokestatic 126, 3) := by decide +kernel
theorem dX6_write_28 : decode cX6_write 28 = .ok (.ifCond .ne 5, 3) := by decide +kernel
theorem dX6_write_31 : decode cX6_write 31 = .ok (.iconst (-1), 1) := by decide +kernel
theorem dX6_write_32 : decode cX6_write 32 = .ok (.ireturn, 1) := by decide +kernel
theorem dX6_write_33 : decode cX6_write 33 = .ok (.aload_n 0, 1) := by decide +kernel
theorem dX6_write_34 : decode cX6_write 34 = .ok (.getfield 196, 3) := by decide +kernel
theorem dX6_write_37 : decode cX6_write 37 = .ok (.bipush 24, 2) := by decide +kernel
theorem dX6_write_39 : decode cX6_write 39 = .ok (.if_icmp .ne 6, 3) := by decide +kernel
theorem dX6_write_42 : decode cX6_write 42 = .ok (.bipush (-3), 2) := by decide +kernel
theorem dX6_write_44 : decode cX6_write 44 = .ok (.ireturn, 1) := by decide +kernel
theorem dX6_write_45 : decode cX6_write 45 = .ok (.aload_n 0, 1) := by decide +kernel
theorem dX6_write_46 : decode cX6_write 46 = .ok (.getfield 19, 3) := by decide +kernel
theorem dX6_write_49 : decode cX6_write 49 = .ok (.aload_n 0, 1) := by decide +kernel
theorem dX6_write_50 : decode cX6_write 50 = .ok (.getfield 196, 3) := by decide +kernel
theorem dX6_write_53 : decode cX6_write 53 = .ok (.iload_n 1, 1) := by decide +kernel
theorem dX6_write_54 : decode cX6_write 54 = .ok (.iastore, 1) := by decide +kernel
theorem dX6_write_55 : decode cX6_write 55 = .ok (.aload_n 0, 1) := by decide +kernel
theorem dX6_write_56 : decode cX6_write 56 = .ok (.getfield 22, 3) := by decide +kernel
theorem dX6_write_59 : decode cX6_write 59 = .ok (.aload_n 0, 1) := by decide +kernel
theorem dX6_write_60 : decode cX6_write 60 = .ok (.getfield 196, 3) := by decide +kernel
theorem dX6_write_63 : decode cX6_write 63 = .ok (.iload_n 2, 1) := by decide +kernel
theorem dX6_write_64 : decode cX6_write 64 = .ok (.iastore, 1) := by decide +kernel
theorem dX6_write_65 : decode cX6_write 65 = .ok (.aload_n 0, 1) := by decide +kernel
theorem dX6_write_66 : decode cX6_write 66 = .ok (.getfield 25, 3) := by decide +kernel
theorem dX6_write_69 : decode cX6_write 69 = .ok (.aload_n 0, 1) := by decide +kernel
theorem dX6_write_70 : decode cX6_write 70 = .ok (.getfield 196, 3) := by decide +kernel
theorem dX6_write_73 : decode cX6_write 73 = .ok (.iload_n 3, 1) := by decide +kernel
theorem dX6_write_74 : decode cX6_write 74 = .ok (.iastore, 1) := by decide +kernel
theorem dX6_write_75 : decode cX6_write 75 = .ok (.aload_n 0, 1) := by decide +kernel
theorem dX6_write_76 : decode cX6_write 76 = .ok (.dup, 1) := by decide +kernel
theorem dX6_write_77 : decode cX6_write 77 = .ok (.getfield 196, 3) := by decide +kernel
theorem dX6_write_80 : decode cX6_write 80 = .ok (.iconst 1, 1) := by decide +kernel
theorem dX6_write_81 : decode cX6_write 81 = .ok (.iadd, 1) := by decide +kernel
theorem dX6_write_82 : decode cX6_write 82 = .ok (.putfield 196, 3) := by decide +kernel
theorem dX6_write_85 : decode cX6_write 85 = .ok (.aload_n 0, 1) := by decide +kernel
theorem dX6_write_86 : decode cX6_write 86 = .ok (.getfield 196, 3) := by decide +kernel
theorem dX6_write_89 : decode cX6_write 89 = .ok (.ireturn, 1) := by decide +kernel
theorem dX6_wipe_0 : decode cX6_wipe 0 = .ok (.aload_n 0, 1) := by decide +kernel
theorem dX6_wipe_1 : decode cX6_wipe 1 = .ok (.getfield 196, 3) := by decide +kernel
theorem dX6_wipe_4 : decode cX6_wipe 4 = .ok (.istore_n 1, 1) := by decide +kernel
theorem dX6_wipe_5 : decode cX6_wipe 5 = .ok (.aload_n 0, 1) := by decide +kernel
theorem dX6_wipe_6 : decode cX6_wipe 6 = .ok (.iconst 0, 1) := by decide +kernel
theorem dX6_wipe_7 : decode cX6_wipe 7 = .ok (.putfield 196, 3) := by decide +kernel
theorem dX6_wipe_10 : decode cX6_wipe 10 = .ok (.iload_n 1, 1) := by decide +kernel
theorem dX6_wipe_11 : decode cX6_wipe 11 = .ok (.ireturn, 1) := by decide +kernel
theorem dX6_wrongWith_0 : decode cX6_wrongWith 0 = .ok (.aload_n 0, 1) := by decide +kernel
theorem dX6_wrongWith_1 : decode cX6_wrongWith 1 = .ok (.iconst 1, 1) := by decide +kernel
theorem dX6_wrongWith_2 : decode cX6_wrongWith 2 = .ok (.putfield 37, 3) := by decide +kernel
theorem dX6_wrongWith_5 : decode cX6_wrongWith 5 = .ok (.aload_n 0, 1) := by decide +kernel
theorem dX6_wrongWith_6 : decode cX6_wrongWith 6 = .ok (.invokevirtual 34, 3) := by decide +kernel
theorem dX6_wrongWith_9 : decode cX6_wrongWith 9 = .ok (.bipush (-4), 2) := by decide +kernel
theorem dX6_wrongWith_11 : decode cX6_wrongWith 11 = .ok (.istore_n 3, 1) := by decide +kernel
theorem dX6_wrongWith_12 : decode cX6_wrongWith 12 = .ok (.iconst 0, 1) := by decide +kernel
theorem dX6_wrongWith_13 : decode cX6_wrongWith 13 = .ok (.istore 4, 2) := by decide +kernel
theorem dX6_wrongWith_15 : decode cX6_wrongWith 15 = .ok (.iload 4, 2) := by decide +kernel
theorem dX6_wrongWith_17 : decode cX6_wrongWith 17 = .ok (.aload_n 0, 1) := by decide +kernel
theorem dX6_wrongWith_18 : decode cX6_wrongWith 18 = .ok (.getfield 196, 3) := by decide +kernel
theorem dX6_wrongWith_21 : decode cX6_wrongWith 21 = .ok (.if_icmp .ge 141, 3) := by decide +kernel
theorem dX6_wrongWith_24 : decode cX6_wrongWith 24 = .ok (.iload_n 3, 1) := by decide +kernel
theorem dX6_wrongWith_25 : decode cX6_wrongWith 25 = .ok (.bipush (-4), 2) := by decide +kernel
theorem dX6_wrongWith_27 : decode cX6_wrongWith 27 = .ok (.if_icmp .ne 135, 3) := by decide +kernel
theorem dX6_wrongWith_30 : decode cX6_wrongWith 30 = .ok (.aload_n 0, 1) := by decide +kernel
theorem dX6_wrongWith_31 : decode cX6_wrongWith 31 = .ok (.aload_n 0, 1) := by decide +kernel
theorem dX6_wrongWith_32 : decode cX6_wrongWith 32 = .ok (.getfield 19, 3) := by decide +kernel
theorem dX6_wrongWith_35 : decode cX6_wrongWith 35 = .ok (.iload 4, 2) := by decide +kernel
theorem dX6_wrongWith_37 : decode cX6_wrongWith 37 = .ok (.iaload, 1) := by decide +kernel
theorem dX6_wrongWith_38 : decode cX6_wrongWith 38 = .ok (.invokevirtual 143, 3) := by decide +kernel
theorem dX6_wrongWith_41 : decode cX6_wrongWith 41 = .ok (.ifCond .eq 112, 3) := by decide +kernel
theorem dX6_wrongWith_44 : decode cX6_wrongWith 44 = .ok (.aload_n 0, 1) := by decide +kernel
theorem dX6_wrongWith_45 : decode cX6_wrongWith 45 = .ok (.getfield 22, 3) := by decide +kernel
theorem dX6_wrongWith_48 : decode cX6_wrongWith 48 = .ok (.iload 4, 2) := by decide +kernel
theorem dX6_wrongWith_50 : decode cX6_wrongWith 50 = .ok (.iaload, 1) := by decide +kernel
theorem dX6_wrongWith_51 : decode cX6_wrongWith 51 = .ok (.aload_n 0, 1) := by decide +kernel
theorem dX6_wrongWith_52 : decode cX6_wrongWith 52 = .ok (.getfield 25, 3) := by decide +kernel
theorem dX6_wrongWith_55 : decode cX6_wrongWith 55 = .ok (.iload 4, 2) := by decide +kernel
theorem dX6_wrongWith_57 : decode cX6_wrongWith 57 = .ok (.iaload, 1) := by decide +kernel
theorem dX6_wrongWith_58 : decode cX6_wrongWith 58 = .ok (.invokestatic 126, 3) := by decide +kernel
theorem dX6_wrongWith_61 : decode cX6_wrongWith 61 = .ok (.istore 5, 2) := by decide +kernel
theorem dX6_wrongWith_63 : decode cX6_wrongWith 63 = .ok (.iload 5, 2) := by decide +kernel
theorem dX6_wrongWith_65 : decode cX6_wrongWith 65 = .ok (.ifCond .eq 7, 3) := by decide +kernel
theorem dX6_wrongWith_68 : decode cX6_wrongWith 68 = .ok (.iload_n 1, 1) := by decide +kernel
theorem dX6_wrongWith_69 : decode cX6_wrongWith 69 = .ok (.goto 10, 3) := by decide +kernel
theorem dX6_wrongWith_72 : decode cX6_wrongWith 72 = .ok (.aload_n 0, 1) := by decide +kernel
theorem dX6_wrongWith_73 : decode cX6_wrongWith 73 = .ok (.getfield 22, 3) := by decide +kernel
theorem dX6_wrongWith_76 : decode cX6_wrongWith 76 = .ok (.iload 4, 2) := by decide +kernel
theorem dX6_wrongWith_78 : decode cX6_wrongWith 78 = .ok (.iaload, 1) := by decide +kernel
theorem dX6_wrongWith_79 : decode cX6_wrongWith 79 = .ok (.istore 6, 2) := by decide +kernel
theorem dX6_wrongWith_81 : decode cX6_wrongWith 81 = .ok (.iload 5, 2) := by decide +kernel
theorem dX6_wrongWith_83 : decode cX6_wrongWith 83 = .ok (.ifCond .eq 7, 3) := by decide +kernel
theorem dX6_wrongWith_86 : decode cX6_wrongWith 86 = .ok (.iload_n 2, 1) := by decide +kernel
theorem dX6_wrongWith_87 : decode cX6_wrongWith 87 = .ok (.goto 10, 3) := by decide +kernel
theorem dX6_wrongWith_90 : decode cX6_wrongWith 90 = .ok (.aload_n 0, 1) := by decide +kernel
theorem dX6_wrongWith_91 : decode cX6_wrongWith 91 = .ok (.getfield 25, 3) := by decide +kernel
theorem dX6_wrongWith_94 : decode cX6_wrongWith 94 = .ok (.iload 4, 2) := by decide +kernel
theorem dX6_wrongWith_96 : decode cX6_wrongWith 96 = .ok (.iaload, 1) := by decide +kernel
theorem dX6_wrongWith_97 : decode cX6_wrongWith 97 = .ok (.istore 7, 2) := by decide +kernel
theorem dX6_wrongWith_99 : decode cX6_wrongWith 99 = .ok (.iload 6, 2) := by decide +kernel
theorem dX6_wrongWith_101 : decode cX6_wrongWith 101 = .ok (.iload 7, 2) := by decide +kernel
theorem dX6_wrongWith_103 : decode cX6_wrongWith 103 = .ok (.invokestatic 123, 3) := by decide +kernel
theorem dX6_wrongWith_106 : decode cX6_wrongWith 106 = .ok (.ifCond .eq 18, 3) := by decide +kernel
theorem dX6_wrongWith_109 : decode cX6_wrongWith 109 = .ok (.aload_n 0, 1) := by decide +kernel
theorem dX6_wrongWith_110 : decode cX6_wrongWith 110 = .ok (.aload_n 0, 1) := by decide +kernel
theorem dX6_wrongWith_111 : decode cX6_wrongWith 111 = .ok (.getfield 19, 3) := by decide +kernel
theorem dX6_wrongWith_114 : decode cX6_wrongWith 114 = .ok (.iload 4, 2) := by decide +kernel
theorem dX6_wrongWith_116 : decode cX6_wrongWith 116 = .ok (.iaload, 1) := by decide +kernel
theorem dX6_wrongWith_117 : decode cX6_wrongWith 117 = .ok (.iconst 2, 1) := by decide +kernel
theorem dX6_wrongWith_118 : decode cX6_wrongWith 118 = .ok (.invokevirtual 54, 3) := by decide +kernel
theorem dX6_wrongWith_121 : decode cX6_wrongWith 121 = .ok (.goto 18, 3) := by decide +kernel
theorem dX6_wrongWith_124 : decode cX6_wrongWith 124 = .ok (.aload_n 0, 1) := by decide +kernel
theorem dX6_wrongWith_125 : decode cX6_wrongWith 125 = .ok (.aload_n 0, 1) := by decide +kernel
theorem dX6_wrongWith_126 : decode cX6_wrongWith 126 = .ok (.getfield 19, 3) := by decide +kernel
theorem dX6_wrongWith_129 : decode cX6_wrongWith 129 = .ok (.iload 4, 2) := by decide +kernel
theorem dX6_wrongWith_131 : decode cX6_wrongWith 131 = .ok (.iaload, 1) := by decide +kernel
theorem dX6_wrongWith_132 : decode cX6_wrongWith 132 = .ok (.iload 6, 2) := by decide +kernel
theorem dX6_wrongWith_134 : decode cX6_wrongWith 134 = .ok (.iload 7, 2) := by decide +kernel
theorem dX6_wrongWith_136 : decode cX6_wrongWith 136 = .ok (.invokevirtual 129, 3) := by decide +kernel
theorem dX6_wrongWith_139 : decode cX6_wrongWith 139 = .ok (.aload_n 0, 1) := by decide +kernel
theorem dX6_wrongWith_140 : decode cX6_wrongWith 140 = .ok (.iload 6, 2) := by decide +kernel
theorem dX6_wrongWith_142 : decode cX6_wrongWith 142 = .ok (.iload 7, 2) := by decide +kernel
theorem dX6_wrongWith_144 : decode cX6_wrongWith 144 = .ok (.invokestatic 123, 3) := by decide +kernel
theorem dX6_wrongWith_147 : decode cX6_wrongWith 147 = .ok (.invokevirtual 159, 3) := by decide +kernel
theorem dX6_wrongWith_150 : decode cX6_wrongWith 150 = .ok (.goto 6, 3) := by decide +kernel
theorem dX6_wrongWith_153 : decode cX6_wrongWith 153 = .ok (.iload 4, 2) := by decide +kernel
theorem dX6_wrongWith_155 : decode cX6_wrongWith 155 = .ok (.istore_n 3, 1) := by decide +kernel
theorem dX6_wrongWith_156 : decode cX6_wrongWith 156 = .ok (.iinc 4 1, 3) := by decide +kernel
theorem dX6_wrongWith_159 : decode cX6_wrongWith 159 = .ok (.goto (-144), 3) := by decide +kernel
theorem dX6_wrongWith_162 : decode cX6_wrongWith 162 = .ok (.aload_n 0, 1) := by decide +kernel
theorem dX6_wrongWith_163 : decode cX6_wrongWith 163 = .ok (.iconst 0, 1) := by decide +kernel
theorem dX6_wrongWith_164 : decode cX6_wrongWith 164 = .ok (.putfield 37, 3) := by decide +kernel
theorem dX6_wrongWith_167 : decode cX6_wrongWith 167 = .ok (.iload_n 3, 1) := by decide +kernel
theorem dX6_wrongWith_168 : decode cX6_wrongWith 168 = .ok (.ireturn, 1) := by decide +kernel
theorem dX6_wrong_0 : decode cX6_wrong 0 = .ok (.aload_n 0, 1) := by decide +kernel
theorem dX6_wrong_1 : decode cX6_wrong 1 = .ok (.iconst (-1), 1) := by decide +kernel
theorem dX6_wrong_2 : decode cX6_wrong 2 = .ok (.iconst (-1), 1) := by decide +kernel
theorem dX6_wrong_3 : decode cX6_wrong 3 = .ok (.invokevirtual 199, 3) := by decide +kernel
theorem dX6_wrong_6 : decode cX6_wrong 6 = .ok (.ireturn, 1) := by decide +kernel
theorem dX6_canBe_0 : decode cX6_canBe 0 = .ok (.iload_n 1, 1) := by decide +kernel
theorem dX6_canBe_1 : decode cX6_canBe 1 = .ok (.iconst 0, 1) := by decide +kernel
theorem dX6_canBe_2 : decode cX6_canBe 2 = .ok (.iconst 1, 1) := by decide +kernel
theorem dX6_canBe_3 : decode cX6_canBe 3 = .ok (.invokestatic 109, 3) := by decide +kernel
theorem dX6_canBe_6 : decode cX6_canBe 6 = .ok (.ifCond .ne 5, 3) := by decide +kernel
theorem dX6_canBe_9 : decode cX6_canBe 9 = .ok (.iconst (-1), 1) := by decide +kernel
theorem dX6_canBe_10 : decode cX6_canBe 10 = .ok (.ireturn, 1) := by decide +kernel
theorem dX6_canBe_11 : decode cX6_canBe 11 = .ok (.iconst 0, 1) := by decide +kernel
theorem dX6_canBe_12 : decode cX6_canBe 12 = .ok (.istore_n 2, 1) := by decide +kernel
theorem dX6_canBe_13 : decode cX6_canBe 13 = .ok (.iconst 0, 1) := by decide +kernel
theorem dX6_canBe_14 : decode cX6_canBe 14 = .ok (.istore_n 3, 1) := by decide +kernel
theorem dX6_canBe_15 : decode cX6_canBe 15 = .ok (.iload_n 3, 1) := by decide +kernel
theorem dX6_canBe_16 : decode cX6_canBe 16 = .ok (.aload_n 0, 1) := by decide +kernel
theorem dX6_canBe_17 : decode cX6_canBe 17 = .ok (.getfield 196, 3) := by decide +kernel
theorem dX6_canBe_20 : decode cX6_canBe 20 = .ok (.if_icmp .ge 35, 3) := by decide +kernel
theorem dX6_canBe_23 : decode cX6_canBe 23 = .ok (.iload_n 2, 1) := by decide +kernel
theorem dX6_canBe_24 : decode cX6_canBe 24 = .ok (.aload_n 0, 1) := by decide +kernel
theorem dX6_canBe_25 : decode cX6_canBe 25 = .ok (.getfield 22, 3) := by decide +kernel
theorem dX6_canBe_28 : decode cX6_canBe 28 = .ok (.iload_n 3, 1) := by decide +kernel
theorem dX6_canBe_29 : decode cX6_canBe 29 = .ok (.iaload, 1) := by decide +kernel
theorem dX6_canBe_30 : decode cX6_canBe 30 = .ok (.aload_n 0, 1) := by decide +kernel
theorem dX6_canBe_31 : decode cX6_canBe 31 = .ok (.getfield 25, 3) := by decide +kernel
theorem dX6_canBe_34 : decode cX6_canBe 34 = .ok (.iload_n 3, 1) := by decide +kernel
theorem dX6_canBe_35 : decode cX6_canBe 35 = .ok (.iaload, 1) := by decide +kernel
theorem dX6_canBe_36 : decode cX6_canBe 36 = .ok (.invokestatic 126, 3) := by decide +kernel
theorem dX6_canBe_39 : decode cX6_canBe 39 = .ok (.ifCond .eq 7, 3) := by decide +kernel
theorem dX6_canBe_42 : decode cX6_canBe 42 = .ok (.iconst 1, 1) := by decide +kernel
theorem dX6_canBe_43 : decode cX6_canBe 43 = .ok (.goto 4, 3) := by decide +kernel
theorem dX6_canBe_46 : decode cX6_canBe 46 = .ok (.iconst 0, 1) := by decide +kernel
theorem dX6_canBe_47 : decode cX6_canBe 47 = .ok (.iadd, 1) := by decide +kernel
theorem dX6_canBe_48 : decode cX6_canBe 48 = .ok (.istore_n 2, 1) := by decide +kernel
theorem dX6_canBe_49 : decode cX6_canBe 49 = .ok (.iinc 3 1, 3) := by decide +kernel
theorem dX6_canBe_52 : decode cX6_canBe 52 = .ok (.goto (-37), 3) := by decide +kernel
theorem dX6_canBe_55 : decode cX6_canBe 55 = .ok (.iload_n 2, 1) := by decide +kernel
theorem dX6_canBe_56 : decode cX6_canBe 56 = .ok (.iconst 1, 1) := by decide +kernel
theorem dX6_canBe_57 : decode cX6_canBe 57 = .ok (.if_icmp .eq 6, 3) := by decide +kernel
theorem dX6_canBe_60 : decode cX6_canBe 60 = .ok (.bipush (-2), 2) := by decide +kernel
theorem dX6_canBe_62 : decode cX6_canBe 62 = .ok (.ireturn, 1) := by decide +kernel
theorem dX6_canBe_63 : decode cX6_canBe 63 = .ok (.iconst 0, 1) := by decide +kernel
theorem dX6_canBe_64 : decode cX6_canBe 64 = .ok (.istore_n 3, 1) := by decide +kernel
theorem dX6_canBe_65 : decode cX6_canBe 65 = .ok (.bipush (-4), 2) := by decide +kernel
theorem dX6_canBe_67 : decode cX6_canBe 67 = .ok (.istore 4, 2) := by decide +kernel
theorem dX6_canBe_69 : decode cX6_canBe 69 = .ok (.iconst 0, 1) := by decide +kernel
theorem dX6_canBe_70 : decode cX6_canBe 70 = .ok (.istore 5, 2) := by decide +kernel
theorem dX6_canBe_72 : decode cX6_canBe 72 = .ok (.iload 5, 2) := by decide +kernel
theorem dX6_canBe_74 : decode cX6_canBe 74 = .ok (.bipush 41, 2) := by decide +kernel
theorem dX6_canBe_76 : decode cX6_canBe 76 = .ok (.if_icmp .gt 80, 3) := by decide +kernel
theorem dX6_canBe_79 : decode cX6_canBe 79 = .ok (.iconst 0, 1) := by decide +kernel
theorem dX6_canBe_80 : decode cX6_canBe 80 = .ok (.istore 6, 2) := by decide +kernel
theorem dX6_canBe_82 : decode cX6_canBe 82 = .ok (.iload 6, 2) := by decide +kernel
theorem dX6_canBe_84 : decode cX6_canBe 84 = .ok (.bipush 41, 2) := by decide +kernel
theorem dX6_canBe_86 : decode cX6_canBe 86 = .ok (.if_icmp .gt 64, 3) := by decide +kernel
theorem dX6_canBe_89 : decode cX6_canBe 89 = .ok (.iload 5, 2) := by decide +kernel
theorem dX6_canBe_91 : decode cX6_canBe 91 = .ok (.iload 6, 2) := by decide +kernel
theorem dX6_canBe_93 : decode cX6_canBe 93 = .ok (.invokestatic 120, 3) := by decide +kernel
theorem dX6_canBe_96 : decode cX6_canBe 96 = .ok (.ifCond .ne 13, 3) := by decide +kernel
theorem dX6_canBe_99 : decode cX6_canBe 99 = .ok (.iload 5, 2) := by decide +kernel
theorem dX6_canBe_101 : decode cX6_canBe 101 = .ok (.iload 6, 2) := by decide +kernel
theorem dX6_canBe_103 : decode cX6_canBe 103 = .ok (.invokestatic 123, 3) := by decide +kernel
theorem dX6_canBe_106 : decode cX6_canBe 106 = .ok (.ifCond .eq 38, 3) := by decide +kernel
theorem dX6_canBe_109 : decode cX6_canBe 109 = .ok (.aload_n 0, 1) := by decide +kernel
theorem dX6_canBe_110 : decode cX6_canBe 110 = .ok (.iload 5, 2) := by decide +kernel
theorem dX6_canBe_112 : decode cX6_canBe 112 = .ok (.iload 6, 2) := by decide +kernel
theorem dX6_canBe_114 : decode cX6_canBe 114 = .ok (.invokevirtual 199, 3) := by decide +kernel
theorem dX6_canBe_117 : decode cX6_canBe 117 = .ok (.bipush (-4), 2) := by decide +kernel
theorem dX6_canBe_119 : decode cX6_canBe 119 = .ok (.if_icmp .ne 25, 3) := by decide +kernel
theorem dX6_canBe_122 : decode cX6_canBe 122 = .ok (.iload_n 3, 1) := by decide +kernel
theorem dX6_canBe_123 : decode cX6_canBe 123 = .ok (.ifCond .ne 14, 3) := by decide +kernel
theorem dX6_canBe_126 : decode cX6_canBe 126 = .ok (.bipush 100, 2) := by decide +kernel
theorem dX6_canBe_128 : decode cX6_canBe 128 = .ok (.iload 5, 2) := by decide +kernel
theorem dX6_canBe_130 : decode cX6_canBe 130 = .ok (.imul, 1) := by decide +kernel
theorem dX6_canBe_131 : decode cX6_canBe 131 = .ok (.iload 6, 2) := by decide +kernel
theorem dX6_canBe_133 : decode cX6_canBe 133 = .ok (.iadd, 1) := by decide +kernel
theorem dX6_canBe_134 : decode cX6_canBe 134 = .ok (.goto 5, 3) := by decide +kernel
theorem dX6_canBe_137 : decode cX6_canBe 137 = .ok (.iload 4, 2) := by decide +kernel
theorem dX6_canBe_139 : decode cX6_canBe 139 = .ok (.istore 4, 2) := by decide +kernel
theorem dX6_canBe_141 : decode cX6_canBe 141 = .ok (.iinc 3 1, 3) := by decide +kernel
theorem dX6_canBe_144 : decode cX6_canBe 144 = .ok (.iinc 6 1, 3) := by decide +kernel
theorem dX6_canBe_147 : decode cX6_canBe 147 = .ok (.goto (-65), 3) := by decide +kernel
theorem dX6_canBe_150 : decode cX6_canBe 150 = .ok (.iinc 5 1, 3) := by decide +kernel
theorem dX6_canBe_153 : decode cX6_canBe 153 = .ok (.goto (-81), 3) := by decide +kernel
theorem dX6_canBe_156 : decode cX6_canBe 156 = .ok (.iload_n 1, 1) := by decide +kernel
theorem dX6_canBe_157 : decode cX6_canBe 157 = .ok (.ifCond .ne 7, 3) := by decide +kernel
theorem dX6_canBe_160 : decode cX6_canBe 160 = .ok (.iload_n 3, 1) := by decide +kernel
theorem dX6_canBe_161 : decode cX6_canBe 161 = .ok (.goto 5, 3) := by decide +kernel
theorem dX6_canBe_164 : decode cX6_canBe 164 = .ok (.iload 4, 2) := by decide +kernel
theorem dX6_canBe_166 : decode cX6_canBe 166 = .ok (.ireturn, 1) := by decide +kernel
theorem dX6_pairsOf_0 : decode cX6_pairsOf 0 = .ok (.iconst 0, 1) := by decide +kernel
theorem dX6_pairsOf_1 : decode cX6_pairsOf 1 = .ok (.istore_n 2, 1) := by decide +kernel
theorem dX6_pairsOf_2 : decode cX6_pairsOf 2 = .ok (.iconst 0, 1) := by decide +kernel
theorem dX6_pairsOf_3 : decode cX6_pairsOf 3 = .ok (.istore_n 3, 1) := by decide +kernel
theorem dX6_pairsOf_4 : decode cX6_pairsOf 4 = .ok (.iload_n 3, 1) := by decide +kernel
theorem dX6_pairsOf_5 : decode cX6_pairsOf 5 = .ok (.iconst 5, 1) := by decide +kernel
theorem dX6_pairsOf_6 : decode cX6_pairsOf 6 = .ok (.if_icmp .ge 22, 3) := by decide +kernel
theorem dX6_pairsOf_9 : decode cX6_pairsOf 9 = .ok (.iload_n 2, 1) := by decide +kernel
theorem dX6_pairsOf_10 : decode cX6_pairsOf 10 = .ok (.aload_n 0, 1) := by decide +kernel
theorem dX6_pairsOf_11 : decode cX6_pairsOf 11 = .ok (.getfield 28, 3) := by decide +kernel
theorem dX6_pairsOf_14 : decode cX6_pairsOf 14 = .ok (.iconst 5, 1) := by decide +kernel
theorem dX6_pairsOf_15 : decode cX6_pairsOf 15 = .ok (.iload_n 1, 1) := by decide +kernel
theorem dX6_pairsOf_16 : decode cX6_pairsOf 16 = .ok (.imul, 1) := by decide +kernel
theorem dX6_pairsOf_17 : decode cX6_pairsOf 17 = .ok (.iload_n 3, 1) := by decide +kernel
theorem dX6_pairsOf_18 : decode cX6_pairsOf 18 = .ok (.iadd, 1) := by decide +kernel
theorem dX6_pairsOf_19 : decode cX6_pairsOf 19 = .ok (.iaload, 1) := by decide +kernel
theorem dX6_pairsOf_20 : decode cX6_pairsOf 20 = .ok (.iadd, 1) := by decide +kernel
theorem dX6_pairsOf_21 : decode cX6_pairsOf 21 = .ok (.istore_n 2, 1) := by decide +kernel
theorem dX6_pairsOf_22 : decode cX6_pairsOf 22 = .ok (.iinc 3 1, 3) := by decide +kernel
theorem dX6_pairsOf_25 : decode cX6_pairsOf 25 = .ok (.goto (-21), 3) := by decide +kernel
theorem dX6_pairsOf_28 : decode cX6_pairsOf 28 = .ok (.iload_n 2, 1) := by decide +kernel
theorem dX6_pairsOf_29 : decode cX6_pairsOf 29 = .ok (.ireturn, 1) := by decide +kernel
theorem dX6_seen_0 : decode cX6_seen 0 = .ok (.iload_n 1, 1) := by decide +kernel
theorem dX6_seen_1 : decode cX6_seen 1 = .ok (.invokestatic 163, 3) := by decide +kernel
theorem dX6_seen_4 : decode cX6_seen 4 = .ok (.ifCond .eq 31, 3) := by decide +kernel
theorem dX6_seen_7 : decode cX6_seen 7 = .ok (.iload_n 2, 1) := by decide +kernel
theorem dX6_seen_8 : decode cX6_seen 8 = .ok (.iload_n 3, 1) := by decide +kernel
theorem dX6_seen_9 : decode cX6_seen 9 = .ok (.invokestatic 120, 3) := by decide +kernel
theorem dX6_seen_12 : decode cX6_seen 12 = .ok (.ifCond .eq 23, 3) := by decide +kernel
theorem dX6_seen_15 : decode cX6_seen 15 = .ok (.iload 4, 2) := by decide +kernel
theorem dX6_seen_17 : decode cX6_seen 17 = .ok (.iload 5, 2) := by decide +kernel
theorem dX6_seen_19 : decode cX6_seen 19 = .ok (.invokestatic 120, 3) := by decide +kernel
theorem dX6_seen_22 : decode cX6_seen 22 = .ok (.ifCond .eq 13, 3) := by decide +kernel
theorem dX6_seen_25 : decode cX6_seen 25 = .ok (.iload 6, 2) := by decide +kernel
theorem dX6_seen_27 : decode cX6_seen 27 = .ok (.iload 7, 2) := by decide +kernel
theorem dX6_seen_29 : decode cX6_seen 29 = .ok (.invokestatic 120, 3) := by decide +kernel
theorem dX6_seen_32 : decode cX6_seen 32 = .ok (.ifCond .ne 5, 3) := by decide +kernel
theorem dX6_seen_35 : decode cX6_seen 35 = .ok (.iconst (-1), 1) := by decide +kernel
theorem dX6_seen_36 : decode cX6_seen 36 = .ok (.ireturn, 1) := by decide +kernel
theorem dX6_seen_37 : decode cX6_seen 37 = .ok (.aload_n 0, 1) := by decide +kernel
theorem dX6_seen_38 : decode cX6_seen 38 = .ok (.iload_n 1, 1) := by decide +kernel
theorem dX6_seen_39 : decode cX6_seen 39 = .ok (.invokevirtual 202, 3) := by decide +kernel
theorem dX6_seen_42 : decode cX6_seen 42 = .ok (.sipush 1000, 3) := by decide +kernel
theorem dX6_seen_45 : decode cX6_seen 45 = .ok (.if_icmp .ne 6, 3) := by decide +kernel
theorem dX6_seen_48 : decode cX6_seen 48 = .ok (.bipush (-3), 2) := by decide +kernel
theorem dX6_seen_50 : decode cX6_seen 50 = .ok (.ireturn, 1) := by decide +kernel
theorem dX6_seen_51 : decode cX6_seen 51 = .ok (.iload_n 2, 1) := by decide +kernel
theorem dX6_seen_52 : decode cX6_seen 52 = .ok (.iload_n 3, 1) := by decide +kernel
theorem dX6_seen_53 : decode cX6_seen 53 = .ok (.iload 4, 2) := by decide +kernel
theorem dX6_seen_55 : decode cX6_seen 55 = .ok (.iload 5, 2) := by decide +kernel
theorem dX6_seen_57 : decode cX6_seen 57 = .ok (.invokestatic 146, 3) := by decide +kernel
theorem dX6_seen_60 : decode cX6_seen 60 = .ok (.bipush 8, 2) := by decide +kernel
theorem dX6_seen_62 : decode cX6_seen 62 = .ok (.idiv, 1) := by decide +kernel
theorem dX6_seen_63 : decode cX6_seen 63 = .ok (.istore 8, 2) := by decide +kernel
theorem dX6_seen_65 : decode cX6_seen 65 = .ok (.iload 8, 2) := by decide +kernel
theorem dX6_seen_67 : decode cX6_seen 67 = .ok (.iconst 4, 1) := by decide +kernel
theorem dX6_seen_68 : decode cX6_seen 68 = .ok (.if_icmp .le 7, 3) := by decide +kernel
theorem dX6_seen_71 : decode cX6_seen 71 = .ok (.iconst 4, 1) := by decide +kernel
theorem dX6_seen_72 : decode cX6_seen 72 = .ok (.goto 5, 3) := by decide +kernel
theorem dX6_seen_75 : decode cX6_seen 75 = .ok (.iload 8, 2) := by decide +kernel
theorem dX6_seen_77 : decode cX6_seen 77 = .ok (.istore 8, 2) := by decide +kernel
theorem dX6_seen_79 : decode cX6_seen 79 = .ok (.aload_n 0, 1) := by decide +kernel
theorem dX6_seen_80 : decode cX6_seen 80 = .ok (.getfield 28, 3) := by decide +kernel
theorem dX6_seen_83 : decode cX6_seen 83 = .ok (.iconst 5, 1) := by decide +kernel
theorem dX6_seen_84 : decode cX6_seen 84 = .ok (.iload_n 1, 1) := by decide +kernel
theorem dX6_seen_85 : decode cX6_seen 85 = .ok (.imul, 1) := by decide +kernel
theorem dX6_seen_86 : decode cX6_seen 86 = .ok (.iload 8, 2) := by decide +kernel
theorem dX6_seen_88 : decode cX6_seen 88 = .ok (.iadd, 1) := by decide +kernel
theorem dX6_seen_89 : decode cX6_seen 89 = .ok (.dup2, 1) := by decide +kernel
theorem dX6_seen_90 : decode cX6_seen 90 = .ok (.iaload, 1) := by decide +kernel
theorem dX6_seen_91 : decode cX6_seen 91 = .ok (.iconst 1, 1) := by decide +kernel
theorem dX6_seen_92 : decode cX6_seen 92 = .ok (.iadd, 1) := by decide +kernel
theorem dX6_seen_93 : decode cX6_seen 93 = .ok (.iastore, 1) := by decide +kernel
theorem dX6_seen_94 : decode cX6_seen 94 = .ok (.aload_n 0, 1) := by decide +kernel
theorem dX6_seen_95 : decode cX6_seen 95 = .ok (.getfield 31, 3) := by decide +kernel
theorem dX6_seen_98 : decode cX6_seen 98 = .ok (.iconst 5, 1) := by decide +kernel
theorem dX6_seen_99 : decode cX6_seen 99 = .ok (.iload_n 1, 1) := by decide +kernel
theorem dX6_seen_100 : decode cX6_seen 100 = .ok (.imul, 1) := by decide +kernel
theorem dX6_seen_101 : decode cX6_seen 101 = .ok (.iload 8, 2) := by decide +kernel
theorem dX6_seen_103 : decode cX6_seen 103 = .ok (.iadd, 1) := by decide +kernel
theorem dX6_seen_104 : decode cX6_seen 104 = .ok (.dup2, 1) := by decide +kernel
theorem dX6_seen_105 : decode cX6_seen 105 = .ok (.iaload, 1) := by decide +kernel
theorem dX6_seen_106 : decode cX6_seen 106 = .ok (.iload 6, 2) := by decide +kernel
theorem dX6_seen_108 : decode cX6_seen 108 = .ok (.iload 4, 2) := by decide +kernel
theorem dX6_seen_110 : decode cX6_seen 110 = .ok (.isub, 1) := by decide +kernel
theorem dX6_seen_111 : decode cX6_seen 111 = .ok (.invokestatic 140, 3) := by decide +kernel
theorem dX6_seen_114 : decode cX6_seen 114 = .ok (.iload 7, 2) := by decide +kernel
theorem dX6_seen_116 : decode cX6_seen 116 = .ok (.iload 5, 2) := by decide +kernel
theorem dX6_seen_118 : decode cX6_seen 118 = .ok (.isub, 1) := by decide +kernel
theorem dX6_seen_119 : decode cX6_seen 119 = .ok (.invokestatic 140, 3) := by decide +kernel
theorem dX6_seen_122 : decode cX6_seen 122 = .ok (.iadd, 1) := by decide +kernel
theorem dX6_seen_123 : decode cX6_seen 123 = .ok (.iadd, 1) := by decide +kernel
theorem dX6_seen_124 : decode cX6_seen 124 = .ok (.iastore, 1) := by decide +kernel
theorem dX6_seen_125 : decode cX6_seen 125 = .ok (.aload_n 0, 1) := by decide +kernel
theorem dX6_seen_126 : decode cX6_seen 126 = .ok (.iload_n 1, 1) := by decide +kernel
theorem dX6_seen_127 : decode cX6_seen 127 = .ok (.invokevirtual 202, 3) := by decide +kernel
theorem dX6_seen_130 : decode cX6_seen 130 = .ok (.ireturn, 1) := by decide +kernel
theorem dX6_scatter_0 : decode cX6_scatter 0 = .ok (.iload_n 1, 1) := by decide +kernel
theorem dX6_scatter_1 : decode cX6_scatter 1 = .ok (.invokestatic 163, 3) := by decide +kernel
theorem dX6_scatter_4 : decode cX6_scatter 4 = .ok (.ifCond .eq 21, 3) := by decide +kernel
theorem dX6_scatter_7 : decode cX6_scatter 7 = .ok (.iload_n 2, 1) := by decide +kernel
theorem dX6_scatter_8 : decode cX6_scatter 8 = .ok (.iconst 0, 1) := by decide +kernel
theorem dX6_scatter_9 : decode cX6_scatter 9 = .ok (.iconst 4, 1) := by decide +kernel
theorem dX6_scatter_10 : decode cX6_scatter 10 = .ok (.invokestatic 109, 3) := by decide +kernel
theorem dX6_scatter_13 : decode cX6_scatter 13 = .ok (.ifCond .eq 12, 3) := by decide +kernel
theorem dX6_scatter_16 : decode cX6_scatter 16 = .ok (.iload_n 3, 1) := by decide +kernel
theorem dX6_scatter_17 : decode cX6_scatter 17 = .ok (.iconst 0, 1) := by decide +kernel
theorem dX6_scatter_18 : decode cX6_scatter 18 = .ok (.iconst 2, 1) := by decide +kernel
theorem dX6_scatter_19 : decode cX6_scatter 19 = .ok (.invokestatic 109, 3) := by decide +kernel
theorem dX6_scatter_22 : decode cX6_scatter 22 = .ok (.ifCond .ne 5, 3) := by decide +kernel
theorem dX6_scatter_25 : decode cX6_scatter 25 = .ok (.iconst (-1), 1) := by decide +kernel
theorem dX6_scatter_26 : decode cX6_scatter 26 = .ok (.ireturn, 1) := by decide +kernel
theorem dX6_scatter_27 : decode cX6_scatter 27 = .ok (.aload_n 0, 1) := by decide +kernel
theorem dX6_scatter_28 : decode cX6_scatter 28 = .ok (.getfield 28, 3) := by decide +kernel
theorem dX6_scatter_31 : decode cX6_scatter 31 = .ok (.iconst 5, 1) := by decide +kernel
theorem dX6_scatter_32 : decode cX6_scatter 32 = .ok (.iload_n 1, 1) := by decide +kernel
theorem dX6_scatter_33 : decode cX6_scatter 33 = .ok (.imul, 1) := by decide +kernel
theorem dX6_scatter_34 : decode cX6_scatter 34 = .ok (.iload_n 2, 1) := by decide +kernel
theorem dX6_scatter_35 : decode cX6_scatter 35 = .ok (.iadd, 1) := by decide +kernel
theorem dX6_scatter_36 : decode cX6_scatter 36 = .ok (.iaload, 1) := by decide +kernel
theorem dX6_scatter_37 : decode cX6_scatter 37 = .ok (.istore 4, 2) := by decide +kernel
theorem dX6_scatter_39 : decode cX6_scatter 39 = .ok (.aload_n 0, 1) := by decide +kernel
theorem dX6_scatter_40 : decode cX6_scatter 40 = .ok (.getfield 31, 3) := by decide +kernel
theorem dX6_scatter_43 : decode cX6_scatter 43 = .ok (.iconst 5, 1) := by decide +kernel
theorem dX6_scatter_44 : decode cX6_scatter 44 = .ok (.iload_n 1, 1) := by decide +kernel
theorem dX6_scatter_45 : decode cX6_scatter 45 = .ok (.imul, 1) := by decide +kernel
theorem dX6_scatter_46 : decode cX6_scatter 46 = .ok (.iload_n 2, 1) := by decide +kernel
theorem dX6_scatter_47 : decode cX6_scatter 47 = .ok (.iadd, 1) := by decide +kernel
theorem dX6_scatter_48 : decode cX6_scatter 48 = .ok (.iaload, 1) := by decide +kernel
theorem dX6_scatter_49 : decode cX6_scatter 49 = .ok (.istore 5, 2) := by decide +kernel
theorem dX6_scatter_51 : decode cX6_scatter 51 = .ok (.iload_n 3, 1) := by decide +kernel
theorem dX6_scatter_52 : decode cX6_scatter 52 = .ok (.iconst 2, 1) := by decide +kernel
theorem dX6_scatter_53 : decode cX6_scatter 53 = .ok (.if_icmp .ne 6, 3) := by decide +kernel
theorem dX6_scatter_56 : decode cX6_scatter 56 = .ok (.iload 4, 2) := by decide +kernel
theorem dX6_scatter_58 : decode cX6_scatter 58 = .ok (.ireturn, 1) := by decide +kernel
theorem dX6_scatter_59 : decode cX6_scatter 59 = .ok (.iload 4, 2) := by decide +kernel
theorem dX6_scatter_61 : decode cX6_scatter 61 = .ok (.ifCond .ne 6, 3) := by decide +kernel
theorem dX6_scatter_64 : decode cX6_scatter 64 = .ok (.bipush (-2), 2) := by decide +kernel
theorem dX6_scatter_66 : decode cX6_scatter 66 = .ok (.ireturn, 1) := by decide +kernel
theorem dX6_scatter_67 : decode cX6_scatter 67 = .ok (.iload 5, 2) := by decide +kernel
theorem dX6_scatter_69 : decode cX6_scatter 69 = .ok (.istore 6, 2) := by decide +kernel
theorem dX6_scatter_71 : decode cX6_scatter 71 = .ok (.iload 4, 2) := by decide +kernel
theorem dX6_scatter_73 : decode cX6_scatter 73 = .ok (.istore 7, 2) := by decide +kernel
theorem dX6_scatter_75 : decode cX6_scatter 75 = .ok (.iload 7, 2) := by decide +kernel
theorem dX6_scatter_77 : decode cX6_scatter 77 = .ok (.ifCond .eq 21, 3) := by decide +kernel
theorem dX6_scatter_80 : decode cX6_scatter 80 = .ok (.iload 6, 2) := by decide +kernel
theorem dX6_scatter_82 : decode cX6_scatter 82 = .ok (.iload 7, 2) := by decide +kernel
theorem dX6_scatter_84 : decode cX6_scatter 84 = .ok (.irem, 1) := by decide +kernel
theorem dX6_scatter_85 : decode cX6_scatter 85 = .ok (.istore 8, 2) := by decide +kernel
theorem dX6_scatter_87 : decode cX6_scatter 87 = .ok (.iload 7, 2) := by decide +kernel
theorem dX6_scatter_89 : decode cX6_scatter 89 = .ok (.istore 6, 2) := by decide +kernel
theorem dX6_scatter_91 : decode cX6_scatter 91 = .ok (.iload 8, 2) := by decide +kernel
theorem dX6_scatter_93 : decode cX6_scatter 93 = .ok (.istore 7, 2) := by decide +kernel
theorem dX6_scatter_95 : decode cX6_scatter 95 = .ok (.goto (-20), 3) := by decide +kernel
theorem dX6_scatter_98 : decode cX6_scatter 98 = .ok (.iload_n 3, 1) := by decide +kernel
theorem dX6_scatter_99 : decode cX6_scatter 99 = .ok (.ifCond .ne 11, 3) := by decide +kernel
theorem dX6_scatter_102 : decode cX6_scatter 102 = .ok (.iload 5, 2) := by decide +kernel
theorem dX6_scatter_104 : decode cX6_scatter 104 = .ok (.iload 6, 2) := by decide +kernel
theorem dX6_scatter_106 : decode cX6_scatter 106 = .ok (.idiv, 1) := by decide +kernel
theorem dX6_scatter_107 : decode cX6_scatter 107 = .ok (.goto 8, 3) := by decide +kernel
theorem dX6_scatter_110 : decode cX6_scatter 110 = .ok (.iload 4, 2) := by decide +kernel
theorem dX6_scatter_112 : decode cX6_scatter 112 = .ok (.iload 6, 2) := by decide +kernel
theorem dX6_scatter_114 : decode cX6_scatter 114 = .ok (.idiv, 1) := by decide +kernel
theorem dX6_scatter_115 : decode cX6_scatter 115 = .ok (.ireturn, 1) := by decide +kernel
theorem dX6_keep_0 : decode cX6_keep 0 = .ok (.aload_n 0, 1) := by decide +kernel
theorem dX6_keep_1 : decode cX6_keep 1 = .ok (.getfield 205, 3) := by decide +kernel
theorem dX6_keep_4 : decode cX6_keep 4 = .ok (.iconst 3, 1) := by decide +kernel
theorem dX6_keep_5 : decode cX6_keep 5 = .ok (.if_icmp .ne 6, 3) := by decide +kernel
theorem dX6_keep_8 : decode cX6_keep 8 = .ok (.bipush (-3), 2) := by decide +kernel
theorem dX6_keep_10 : decode cX6_keep 10 = .ok (.ireturn, 1) := by decide +kernel
theorem dX6_keep_11 : decode cX6_keep 11 = .ok (.iconst 0, 1) := by decide +kernel
theorem dX6_keep_12 : decode cX6_keep 12 = .ok (.istore_n 1, 1) := by decide +kernel
theorem dX6_keep_13 : decode cX6_keep 13 = .ok (.iload_n 1, 1) := by decide +kernel
theorem dX6_keep_14 : decode cX6_keep 14 = .ok (.sipush 128, 3) := by decide +kernel
theorem dX6_keep_17 : decode cX6_keep 17 = .ok (.if_icmp .ge 30, 3) := by decide +kernel
theorem dX6_keep_20 : decode cX6_keep 20 = .ok (.aload_n 0, 1) := by decide +kernel
theorem dX6_keep_21 : decode cX6_keep 21 = .ok (.getfield 16, 3) := by decide +kernel
theorem dX6_keep_24 : decode cX6_keep 24 = .ok (.sipush 128, 3) := by decide +kernel
theorem dX6_keep_27 : decode cX6_keep 27 = .ok (.aload_n 0, 1) := by decide +kernel
theorem dX6_keep_28 : decode cX6_keep 28 = .ok (.getfield 205, 3) := by decide +kernel
theorem dX6_keep_31 : decode cX6_keep 31 = .ok (.imul, 1) := by decide +kernel
theorem dX6_keep_32 : decode cX6_keep 32 = .ok (.iload_n 1, 1) := by decide +kernel
theorem dX6_keep_33 : decode cX6_keep 33 = .ok (.iadd, 1) := by decide +kernel
theorem dX6_keep_34 : decode cX6_keep 34 = .ok (.aload_n 0, 1) := by decide +kernel
theorem dX6_keep_35 : decode cX6_keep 35 = .ok (.getfield 7, 3) := by decide +kernel
theorem dX6_keep_38 : decode cX6_keep 38 = .ok (.iload_n 1, 1) := by decide +kernel
theorem dX6_keep_39 : decode cX6_keep 39 = .ok (.iaload, 1) := by decide +kernel
theorem dX6_keep_40 : decode cX6_keep 40 = .ok (.iastore, 1) := by decide +kernel
theorem dX6_keep_41 : decode cX6_keep 41 = .ok (.iinc 1 1, 3) := by decide +kernel
theorem dX6_keep_44 : decode cX6_keep 44 = .ok (.goto (-31), 3) := by decide +kernel
theorem dX6_keep_47 : decode cX6_keep 47 = .ok (.aload_n 0, 1) := by decide +kernel
theorem dX6_keep_48 : decode cX6_keep 48 = .ok (.dup, 1) := by decide +kernel
theorem dX6_keep_49 : decode cX6_keep 49 = .ok (.getfield 205, 3) := by decide +kernel
theorem dX6_keep_52 : decode cX6_keep 52 = .ok (.iconst 1, 1) := by decide +kernel
theorem dX6_keep_53 : decode cX6_keep 53 = .ok (.iadd, 1) := by decide +kernel
theorem dX6_keep_54 : decode cX6_keep 54 = .ok (.putfield 205, 3) := by decide +kernel
theorem dX6_keep_57 : decode cX6_keep 57 = .ok (.aload_n 0, 1) := by decide +kernel
theorem dX6_keep_58 : decode cX6_keep 58 = .ok (.getfield 205, 3) := by decide +kernel
theorem dX6_keep_61 : decode cX6_keep 61 = .ok (.ireturn, 1) := by decide +kernel
theorem dX6_back_0 : decode cX6_back 0 = .ok (.aload_n 0, 1) := by decide +kernel
theorem dX6_back_1 : decode cX6_back 1 = .ok (.getfield 205, 3) := by decide +kernel
theorem dX6_back_4 : decode cX6_back 4 = .ok (.ifCond .ne 6, 3) := by decide +kernel
theorem dX6_back_7 : decode cX6_back 7 = .ok (.bipush (-2), 2) := by decide +kernel
theorem dX6_back_9 : decode cX6_back 9 = .ok (.ireturn, 1) := by decide +kernel
theorem dX6_back_10 : decode cX6_back 10 = .ok (.aload_n 0, 1) := by decide +kernel
theorem dX6_back_11 : decode cX6_back 11 = .ok (.dup, 1) := by decide +kernel
theorem dX6_back_12 : decode cX6_back 12 = .ok (.getfield 205, 3) := by decide +kernel
theorem dX6_back_15 : decode cX6_back 15 = .ok (.iconst 1, 1) := by decide +kernel
theorem dX6_back_16 : decode cX6_back 16 = .ok (.isub, 1) := by decide +kernel
theorem dX6_back_17 : decode cX6_back 17 = .ok (.putfield 205, 3) := by decide +kernel
theorem dX6_back_20 : decode cX6_back 20 = .ok (.iconst 0, 1) := by decide +kernel
theorem dX6_back_21 : decode cX6_back 21 = .ok (.istore_n 1, 1) := by decide +kernel
theorem dX6_back_22 : decode cX6_back 22 = .ok (.iload_n 1, 1) := by decide +kernel
theorem dX6_back_23 : decode cX6_back 23 = .ok (.sipush 128, 3) := by decide +kernel
theorem dX6_back_26 : decode cX6_back 26 = .ok (.if_icmp .ge 30, 3) := by decide +kernel
theorem dX6_back_29 : decode cX6_back 29 = .ok (.aload_n 0, 1) := by decide +kernel
theorem dX6_back_30 : decode cX6_back 30 = .ok (.getfield 7, 3) := by decide +kernel
theorem dX6_back_33 : decode cX6_back 33 = .ok (.iload_n 1, 1) := by decide +kernel
theorem dX6_back_34 : decode cX6_back 34 = .ok (.aload_n 0, 1) := by decide +kernel
theorem dX6_back_35 : decode cX6_back 35 = .ok (.getfield 16, 3) := by decide +kernel
theorem dX6_back_38 : decode cX6_back 38 = .ok (.sipush 128, 3) := by decide +kernel
theorem dX6_back_41 : decode cX6_back 41 = .ok (.aload_n 0, 1) := by decide +kernel
theorem dX6_back_42 : decode cX6_back 42 = .ok (.getfield 205, 3) := by decide +kernel
theorem dX6_back_45 : decode cX6_back 45 = .ok (.imul, 1) := by decide +kernel
theorem dX6_back_46 : decode cX6_back 46 = .ok (.iload_n 1, 1) := by decide +kernel
theorem dX6_back_47 : decode cX6_back 47 = .ok (.iadd, 1) := by decide +kernel
theorem dX6_back_48 : decode cX6_back 48 = .ok (.iaload, 1) := by decide +kernel
theorem dX6_back_49 : decode cX6_back 49 = .ok (.iastore, 1) := by decide +kernel
theorem dX6_back_50 : decode cX6_back 50 = .ok (.iinc 1 1, 3) := by decide +kernel
theorem dX6_back_53 : decode cX6_back 53 = .ok (.goto (-31), 3) := by decide +kernel
theorem dX6_back_56 : decode cX6_back 56 = .ok (.aload_n 0, 1) := by decide +kernel
theorem dX6_back_57 : decode cX6_back 57 = .ok (.getfield 205, 3) := by decide +kernel
theorem dX6_back_60 : decode cX6_back 60 = .ok (.ireturn, 1) := by decide +kernel
theorem dX6_count_0 : decode cX6_count 0 = .ok (.iload_n 1, 1) := by decide +kernel
theorem dX6_count_1 : decode cX6_count 1 = .ok (.iconst 3, 1) := by decide +kernel
theorem dX6_count_2 : decode cX6_count 2 = .ok (.if_icmp .eq 8, 3) := by decide +kernel
theorem dX6_count_5 : decode cX6_count 5 = .ok (.iload_n 1, 1) := by decide +kernel
theorem dX6_count_6 : decode cX6_count 6 = .ok (.iconst 4, 1) := by decide +kernel
theorem dX6_count_7 : decode cX6_count 7 = .ok (.if_icmp .ne 20, 3) := by decide +kernel
theorem dX6_count_10 : decode cX6_count 10 = .ok (.iload_n 1, 1) := by decide +kernel
theorem dX6_count_11 : decode cX6_count 11 = .ok (.iconst 3, 1) := by decide +kernel
theorem dX6_count_12 : decode cX6_count 12 = .ok (.if_icmp .ne 10, 3) := by decide +kernel
theorem dX6_count_15 : decode cX6_count 15 = .ok (.aload_n 0, 1) := by decide +kernel
theorem dX6_count_16 : decode cX6_count 16 = .ok (.getfield 196, 3) := by decide +kernel
theorem dX6_count_19 : decode cX6_count 19 = .ok (.goto 7, 3) := by decide +kernel
theorem dX6_count_22 : decode cX6_count 22 = .ok (.aload_n 0, 1) := by decide +kernel
theorem dX6_count_23 : decode cX6_count 23 = .ok (.getfield 205, 3) := by decide +kernel
theorem dX6_count_26 : decode cX6_count 26 = .ok (.ireturn, 1) := by decide +kernel
theorem dX6_count_27 : decode cX6_count 27 = .ok (.iload_n 1, 1) := by decide +kernel
theorem dX6_count_28 : decode cX6_count 28 = .ok (.iconst 0, 1) := by decide +kernel
theorem dX6_count_29 : decode cX6_count 29 = .ok (.iconst 5, 1) := by decide +kernel
theorem dX6_count_30 : decode cX6_count 30 = .ok (.invokestatic 109, 3) := by decide +kernel
theorem dX6_count_33 : decode cX6_count 33 = .ok (.ifCond .ne 5, 3) := by decide +kernel
theorem dX6_count_36 : decode cX6_count 36 = .ok (.iconst (-1), 1) := by decide +kernel
theorem dX6_count_37 : decode cX6_count 37 = .ok (.ireturn, 1) := by decide +kernel
theorem dX6_count_38 : decode cX6_count 38 = .ok (.iconst 0, 1) := by decide +kernel
theorem dX6_count_39 : decode cX6_count 39 = .ok (.istore_n 2, 1) := by decide +kernel
theorem dX6_count_40 : decode cX6_count 40 = .ok (.iconst 0, 1) := by decide +kernel
theorem dX6_count_41 : decode cX6_count 41 = .ok (.istore_n 3, 1) := by decide +kernel
theorem dX6_count_42 : decode cX6_count 42 = .ok (.iload_n 3, 1) := by decide +kernel
theorem dX6_count_43 : decode cX6_count 43 = .ok (.bipush 16, 2) := by decide +kernel
theorem dX6_count_45 : decode cX6_count 45 = .ok (.if_icmp .ge 56, 3) := by decide +kernel
theorem dX6_count_48 : decode cX6_count 48 = .ok (.iload_n 2, 1) := by decide +kernel
theorem dX6_count_49 : decode cX6_count 49 = .ok (.iload_n 1, 1) := by decide +kernel
theorem dX6_count_50 : decode cX6_count 50 = .ok (.iconst 3, 1) := by decide +kernel
theorem dX6_count_51 : decode cX6_count 51 = .ok (.if_icmp .ge 20, 3) := by decide +kernel
theorem dX6_count_54 : decode cX6_count 54 = .ok (.aload_n 0, 1) := by decide +kernel
theorem dX6_count_55 : decode cX6_count 55 = .ok (.iload_n 3, 1) := by decide +kernel
theorem dX6_count_56 : decode cX6_count 56 = .ok (.invokevirtual 45, 3) := by decide +kernel
theorem dX6_count_59 : decode cX6_count 59 = .ok (.iload_n 1, 1) := by decide +kernel
theorem dX6_count_60 : decode cX6_count 60 = .ok (.if_icmp .ne 7, 3) := by decide +kernel
theorem dX6_count_63 : decode cX6_count 63 = .ok (.iconst 1, 1) := by decide +kernel
theorem dX6_count_64 : decode cX6_count 64 = .ok (.goto 29, 3) := by decide +kernel
theorem dX6_count_67 : decode cX6_count 67 = .ok (.iconst 0, 1) := by decide +kernel
theorem dX6_count_68 : decode cX6_count 68 = .ok (.goto 25, 3) := by decide +kernel
theorem dX6_count_71 : decode cX6_count 71 = .ok (.aload_n 0, 1) := by decide +kernel
theorem dX6_count_72 : decode cX6_count 72 = .ok (.iload_n 3, 1) := by decide +kernel
theorem dX6_count_73 : decode cX6_count 73 = .ok (.invokevirtual 45, 3) := by decide +kernel
theorem dX6_count_76 : decode cX6_count 76 = .ok (.iconst 1, 1) := by decide +kernel
theorem dX6_count_77 : decode cX6_count 77 = .ok (.if_icmp .ne 15, 3) := by decide +kernel
theorem dX6_count_80 : decode cX6_count 80 = .ok (.aload_n 0, 1) := by decide +kernel
theorem dX6_count_81 : decode cX6_count 81 = .ok (.iload_n 3, 1) := by decide +kernel
theorem dX6_count_82 : decode cX6_count 82 = .ok (.invokevirtual 81, 3) := by decide +kernel
theorem dX6_count_85 : decode cX6_count 85 = .ok (.ifCond .ne 7, 3) := by decide +kernel
theorem dX6_count_88 : decode cX6_count 88 = .ok (.iconst 1, 1) := by decide +kernel
theorem dX6_count_89 : decode cX6_count 89 = .ok (.goto 4, 3) := by decide +kernel
theorem dX6_count_92 : decode cX6_count 92 = .ok (.iconst 0, 1) := by decide +kernel
theorem dX6_count_93 : decode cX6_count 93 = .ok (.iadd, 1) := by decide +kernel
theorem dX6_count_94 : decode cX6_count 94 = .ok (.istore_n 2, 1) := by decide +kernel
theorem dX6_count_95 : decode cX6_count 95 = .ok (.iinc 3 1, 3) := by decide +kernel
theorem dX6_count_98 : decode cX6_count 98 = .ok (.goto (-56), 3) := by decide +kernel
theorem dX6_count_101 : decode cX6_count 101 = .ok (.iload_n 2, 1) := by decide +kernel
theorem dX6_count_102 : decode cX6_count 102 = .ok (.ireturn, 1) := by decide +kernel
