theorem dX0_init_0 : decode cX0_init 0 = .ok (.aload_n 0, 1) := by decide +kernel
theorem dX0_init_1 : decode cX0_init 1 = .ok (.invokespecial 3, 3) := by decide +kernel
theorem dX0_init_4 : decode cX0_init 4 = .ok (.aload_n 0, 1) := by decide +kernel
theorem dX0_init_5 : decode cX0_init 5 = .ok (.iconst 0, 1) := by decide +kernel
theorem dX0_init_6 : decode cX0_init 6 = .ok (.putfield 9, 3) := by decide +kernel
theorem dX0_init_9 : decode cX0_init 9 = .ok (.aload_n 0, 1) := by decide +kernel
theorem dX0_init_10 : decode cX0_init 10 = .ok (.iconst (-1), 1) := by decide +kernel
theorem dX0_init_11 : decode cX0_init 11 = .ok (.putfield 15, 3) := by decide +kernel
theorem dX0_init_14 : decode cX0_init 14 = .ok (.aload_n 0, 1) := by decide +kernel
theorem dX0_init_15 : decode cX0_init 15 = .ok (.iconst 0, 1) := by decide +kernel
theorem dX0_init_16 : decode cX0_init 16 = .ok (.putfield 18, 3) := by decide +kernel
theorem dX0_init_19 : decode cX0_init 19 = .ok (.return_, 1) := by decide +kernel
theorem dX0_worthOfBest_0 : decode cX0_worthOfBest 0 = .ok (.aload_n 0, 1) := by decide +kernel
theorem dX0_worthOfBest_1 : decode cX0_worthOfBest 1 = .ok (.iconst 0, 1) := by decide +kernel
theorem dX0_worthOfBest_2 : decode cX0_worthOfBest 2 = .ok (.putfield 18, 3) := by decide +kernel
theorem dX0_worthOfBest_5 : decode cX0_worthOfBest 5 = .ok (.iconst 0, 1) := by decide +kernel
theorem dX0_worthOfBest_6 : decode cX0_worthOfBest 6 = .ok (.istore_n 3, 1) := by decide +kernel
theorem dX0_worthOfBest_7 : decode cX0_worthOfBest 7 = .ok (.iload_n 3, 1) := by decide +kernel
theorem dX0_worthOfBest_8 : decode cX0_worthOfBest 8 = .ok (.iconst 4, 1) := by decide +kernel
theorem dX0_worthOfBest_9 : decode cX0_worthOfBest 9 = .ok (.if_icmp .ge 32, 3) := by decide +kernel
theorem dX0_worthOfBest_12 : decode cX0_worthOfBest 12 = .ok (.iload_n 2, 1) := by decide +kernel
theorem dX0_worthOfBest_13 : decode cX0_worthOfBest 13 = .ok (.iconst 4, 1) := by decide +kernel
theorem dX0_worthOfBest_14 : decode cX0_worthOfBest 14 = .ok (.iload_n 3, 1) := by decide +kernel
theorem dX0_worthOfBest_15 : decode cX0_worthOfBest 15 = .ok (.imul, 1) := by decide +kernel
theorem dX0_worthOfBest_16 : decode cX0_worthOfBest 16 = .ok (.iadd, 1) := by decide +kernel
theorem dX0_worthOfBest_17 : decode cX0_worthOfBest 17 = .ok (.istore 4, 2) := by decide +kernel
theorem dX0_worthOfBest_19 : decode cX0_worthOfBest 19 = .ok (.aload_n 1, 1) := by decide +kernel
theorem dX0_worthOfBest_20 : decode cX0_worthOfBest 20 = .ok (.iload 4, 2) := by decide +kernel
theorem dX0_worthOfBest_22 : decode cX0_worthOfBest 22 = .ok (.invokevirtual 21, 3) := by decide +kernel
theorem dX0_worthOfBest_25 : decode cX0_worthOfBest 25 = .ok (.ifCond .eq 10, 3) := by decide +kernel
theorem dX0_worthOfBest_28 : decode cX0_worthOfBest 28 = .ok (.aload_n 0, 1) := by decide +kernel
theorem dX0_worthOfBest_29 : decode cX0_worthOfBest 29 = .ok (.aload_n 1, 1) := by decide +kernel
theorem dX0_worthOfBest_30 : decode cX0_worthOfBest 30 = .ok (.iload 4, 2) := by decide +kernel
theorem dX0_worthOfBest_32 : decode cX0_worthOfBest 32 = .ok (.invokevirtual 27, 3) := by decide +kernel
theorem dX0_worthOfBest_35 : decode cX0_worthOfBest 35 = .ok (.iinc 3 1, 3) := by decide +kernel
theorem dX0_worthOfBest_38 : decode cX0_worthOfBest 38 = .ok (.goto (-31), 3) := by decide +kernel
theorem dX0_worthOfBest_41 : decode cX0_worthOfBest 41 = .ok (.aload_n 0, 1) := by decide +kernel
theorem dX0_worthOfBest_42 : decode cX0_worthOfBest 42 = .ok (.getfield 18, 3) := by decide +kernel
theorem dX0_worthOfBest_45 : decode cX0_worthOfBest 45 = .ok (.ireturn, 1) := by decide +kernel
theorem dX0_weighAims_0 : decode cX0_weighAims 0 = .ok (.aload_n 0, 1) := by decide +kernel
theorem dX0_weighAims_1 : decode cX0_weighAims 1 = .ok (.aload_n 1, 1) := by decide +kernel
theorem dX0_weighAims_2 : decode cX0_weighAims 2 = .ok (.iload_n 2, 1) := by decide +kernel
theorem dX0_weighAims_3 : decode cX0_weighAims 3 = .ok (.iconst (-1), 1) := by decide +kernel
theorem dX0_weighAims_4 : decode cX0_weighAims 4 = .ok (.invokevirtual 31, 3) := by decide +kernel
theorem dX0_weighAims_7 : decode cX0_weighAims 7 = .ok (.iconst 0, 1) := by decide +kernel
theorem dX0_weighAims_8 : decode cX0_weighAims 8 = .ok (.istore_n 3, 1) := by decide +kernel
theorem dX0_weighAims_9 : decode cX0_weighAims 9 = .ok (.iload_n 3, 1) := by decide +kernel
theorem dX0_weighAims_10 : decode cX0_weighAims 10 = .ok (.bipush 16, 2) := by decide +kernel
theorem dX0_weighAims_12 : decode cX0_weighAims 12 = .ok (.if_icmp .ge 52, 3) := by decide +kernel
theorem dX0_weighAims_15 : decode cX0_weighAims 15 = .ok (.iload_n 3, 1) := by decide +kernel
theorem dX0_weighAims_16 : decode cX0_weighAims 16 = .ok (.iload_n 2, 1) := by decide +kernel
theorem dX0_weighAims_17 : decode cX0_weighAims 17 = .ok (.isub, 1) := by decide +kernel
theorem dX0_weighAims_18 : decode cX0_weighAims 18 = .ok (.iconst 2, 1) := by decide +kernel
theorem dX0_weighAims_19 : decode cX0_weighAims 19 = .ok (.irem, 1) := by decide +kernel
theorem dX0_weighAims_20 : decode cX0_weighAims 20 = .ok (.ifCond .eq 7, 3) := by decide +kernel
theorem dX0_weighAims_23 : decode cX0_weighAims 23 = .ok (.iconst 1, 1) := by decide +kernel
theorem dX0_weighAims_24 : decode cX0_weighAims 24 = .ok (.goto 4, 3) := by decide +kernel
theorem dX0_weighAims_27 : decode cX0_weighAims 27 = .ok (.iconst 0, 1) := by decide +kernel
theorem dX0_weighAims_28 : decode cX0_weighAims 28 = .ok (.istore 4, 2) := by decide +kernel
theorem dX0_weighAims_30 : decode cX0_weighAims 30 = .ok (.iload 4, 2) := by decide +kernel
theorem dX0_weighAims_32 : decode cX0_weighAims 32 = .ok (.ifCond .eq 26, 3) := by decide +kernel
theorem dX0_weighAims_35 : decode cX0_weighAims 35 = .ok (.aload_n 1, 1) := by decide +kernel
theorem dX0_weighAims_36 : decode cX0_weighAims 36 = .ok (.iload_n 3, 1) := by decide +kernel
theorem dX0_weighAims_37 : decode cX0_weighAims 37 = .ok (.invokevirtual 35, 3) := by decide +kernel
theorem dX0_weighAims_40 : decode cX0_weighAims 40 = .ok (.ifCond .eq 18, 3) := by decide +kernel
theorem dX0_weighAims_43 : decode cX0_weighAims 43 = .ok (.aload_n 1, 1) := by decide +kernel
theorem dX0_weighAims_44 : decode cX0_weighAims 44 = .ok (.iload_n 3, 1) := by decide +kernel
theorem dX0_weighAims_45 : decode cX0_weighAims 45 = .ok (.invokevirtual 21, 3) := by decide +kernel
theorem dX0_weighAims_48 : decode cX0_weighAims 48 = .ok (.ifCond .eq 10, 3) := by decide +kernel
theorem dX0_weighAims_51 : decode cX0_weighAims 51 = .ok (.aload_n 0, 1) := by decide +kernel
theorem dX0_weighAims_52 : decode cX0_weighAims 52 = .ok (.aload_n 1, 1) := by decide +kernel
theorem dX0_weighAims_53 : decode cX0_weighAims 53 = .ok (.iload_n 2, 1) := by decide +kernel
theorem dX0_weighAims_54 : decode cX0_weighAims 54 = .ok (.iload_n 3, 1) := by decide +kernel
theorem dX0_weighAims_55 : decode cX0_weighAims 55 = .ok (.invokevirtual 31, 3) := by decide +kernel
theorem dX0_weighAims_58 : decode cX0_weighAims 58 = .ok (.iinc 3 1, 3) := by decide +kernel
theorem dX0_weighAims_61 : decode cX0_weighAims 61 = .ok (.goto (-52), 3) := by decide +kernel
theorem dX0_weighAims_64 : decode cX0_weighAims 64 = .ok (.return_, 1) := by decide +kernel
theorem dX0_weigh_0 : decode cX0_weigh 0 = .ok (.aload_n 1, 1) := by decide +kernel
theorem dX0_weigh_1 : decode cX0_weigh 1 = .ok (.iload_n 2, 1) := by decide +kernel
theorem dX0_weigh_2 : decode cX0_weigh 2 = .ok (.iload_n 3, 1) := by decide +kernel
theorem dX0_weigh_3 : decode cX0_weigh 3 = .ok (.invokestatic 38, 3) := by decide +kernel
theorem dX0_weigh_6 : decode cX0_weigh 6 = .ok (.aload_n 1, 1) := by decide +kernel
theorem dX0_weigh_7 : decode cX0_weigh 7 = .ok (.iload_n 2, 1) := by decide +kernel
theorem dX0_weigh_8 : decode cX0_weigh 8 = .ok (.iload_n 3, 1) := by decide +kernel
theorem dX0_weigh_9 : decode cX0_weigh 9 = .ok (.invokestatic 42, 3) := by decide +kernel
theorem dX0_weigh_12 : decode cX0_weigh 12 = .ok (.imul, 1) := by decide +kernel
theorem dX0_weigh_13 : decode cX0_weigh 13 = .ok (.istore 4, 2) := by decide +kernel
theorem dX0_weigh_15 : decode cX0_weigh 15 = .ok (.iload 4, 2) := by decide +kernel
theorem dX0_weigh_17 : decode cX0_weigh 17 = .ok (.aload_n 0, 1) := by decide +kernel
theorem dX0_weigh_18 : decode cX0_weigh 18 = .ok (.getfield 18, 3) := by decide +kernel
theorem dX0_weigh_21 : decode cX0_weigh 21 = .ok (.if_icmp .le 19, 3) := by decide +kernel
theorem dX0_weigh_24 : decode cX0_weigh 24 = .ok (.aload_n 0, 1) := by decide +kernel
theorem dX0_weigh_25 : decode cX0_weigh 25 = .ok (.iload_n 2, 1) := by decide +kernel
theorem dX0_weigh_26 : decode cX0_weigh 26 = .ok (.putfield 9, 3) := by decide +kernel
theorem dX0_weigh_29 : decode cX0_weigh 29 = .ok (.aload_n 0, 1) := by decide +kernel
theorem dX0_weigh_30 : decode cX0_weigh 30 = .ok (.iload_n 3, 1) := by decide +kernel
theorem dX0_weigh_31 : decode cX0_weigh 31 = .ok (.putfield 15, 3) := by decide +kernel
theorem dX0_weigh_34 : decode cX0_weigh 34 = .ok (.aload_n 0, 1) := by decide +kernel
theorem dX0_weigh_35 : decode cX0_weigh 35 = .ok (.iload 4, 2) := by decide +kernel
theorem dX0_weigh_37 : decode cX0_weigh 37 = .ok (.putfield 18, 3) := by decide +kernel
theorem dX0_weigh_40 : decode cX0_weigh 40 = .ok (.return_, 1) := by decide +kernel
theorem dX0_chanceOf_0 : decode cX0_chanceOf 0 = .ok (.iload_n 2, 1) := by decide +kernel
theorem dX0_chanceOf_1 : decode cX0_chanceOf 1 = .ok (.iconst (-1), 1) := by decide +kernel
theorem dX0_chanceOf_2 : decode cX0_chanceOf 2 = .ok (.if_icmp .ne 16, 3) := by decide +kernel
theorem dX0_chanceOf_5 : decode cX0_chanceOf 5 = .ok (.iconst 1, 1) := by decide +kernel
theorem dX0_chanceOf_6 : decode cX0_chanceOf 6 = .ok (.bipush 36, 2) := by decide +kernel
theorem dX0_chanceOf_8 : decode cX0_chanceOf 8 = .ok (.aload_n 0, 1) := by decide +kernel
theorem dX0_chanceOf_9 : decode cX0_chanceOf 9 = .ok (.iload_n 1, 1) := by decide +kernel
theorem dX0_chanceOf_10 : decode cX0_chanceOf 10 = .ok (.invokestatic 45, 3) := by decide +kernel
theorem dX0_chanceOf_13 : decode cX0_chanceOf 13 = .ok (.isub, 1) := by decide +kernel
theorem dX0_chanceOf_14 : decode cX0_chanceOf 14 = .ok (.invokestatic 49, 3) := by decide +kernel
theorem dX0_chanceOf_17 : decode cX0_chanceOf 17 = .ok (.ireturn, 1) := by decide +kernel
theorem dX0_chanceOf_18 : decode cX0_chanceOf 18 = .ok (.aload_n 0, 1) := by decide +kernel
theorem dX0_chanceOf_19 : decode cX0_chanceOf 19 = .ok (.getfield 55, 3) := by decide +kernel
theorem dX0_chanceOf_22 : decode cX0_chanceOf 22 = .ok (.iload_n 1, 1) := by decide +kernel
theorem dX0_chanceOf_23 : decode cX0_chanceOf 23 = .ok (.iaload, 1) := by decide +kernel
theorem dX0_chanceOf_24 : decode cX0_chanceOf 24 = .ok (.aload_n 0, 1) := by decide +kernel
theorem dX0_chanceOf_25 : decode cX0_chanceOf 25 = .ok (.getfield 59, 3) := by decide +kernel
theorem dX0_chanceOf_28 : decode cX0_chanceOf 28 = .ok (.iload_n 1, 1) := by decide +kernel
theorem dX0_chanceOf_29 : decode cX0_chanceOf 29 = .ok (.iaload, 1) := by decide +kernel
theorem dX0_chanceOf_30 : decode cX0_chanceOf 30 = .ok (.aload_n 0, 1) := by decide +kernel
theorem dX0_chanceOf_31 : decode cX0_chanceOf 31 = .ok (.getfield 55, 3) := by decide +kernel
theorem dX0_chanceOf_34 : decode cX0_chanceOf 34 = .ok (.iload_n 2, 1) := by decide +kernel
theorem dX0_chanceOf_35 : decode cX0_chanceOf 35 = .ok (.iaload, 1) := by decide +kernel
theorem dX0_chanceOf_36 : decode cX0_chanceOf 36 = .ok (.aload_n 0, 1) := by decide +kernel
theorem dX0_chanceOf_37 : decode cX0_chanceOf 37 = .ok (.getfield 59, 3) := by decide +kernel
theorem dX0_chanceOf_40 : decode cX0_chanceOf 40 = .ok (.iload_n 2, 1) := by decide +kernel
theorem dX0_chanceOf_41 : decode cX0_chanceOf 41 = .ok (.iaload, 1) := by decide +kernel
theorem dX0_chanceOf_42 : decode cX0_chanceOf 42 = .ok (.invokestatic 62, 3) := by decide +kernel
theorem dX0_chanceOf_45 : decode cX0_chanceOf 45 = .ok (.istore_n 3, 1) := by decide +kernel
theorem dX0_chanceOf_46 : decode cX0_chanceOf 46 = .ok (.iconst 1, 1) := by decide +kernel
theorem dX0_chanceOf_47 : decode cX0_chanceOf 47 = .ok (.bipush 36, 2) := by decide +kernel
theorem dX0_chanceOf_49 : decode cX0_chanceOf 49 = .ok (.iload_n 1, 1) := by decide +kernel
theorem dX0_chanceOf_50 : decode cX0_chanceOf 50 = .ok (.bipush 8, 2) := by decide +kernel
theorem dX0_chanceOf_52 : decode cX0_chanceOf 52 = .ok (.if_icmp .ge 9, 3) := by decide +kernel
theorem dX0_chanceOf_55 : decode cX0_chanceOf 55 = .ok (.iconst 2, 1) := by decide +kernel
theorem dX0_chanceOf_56 : decode cX0_chanceOf 56 = .ok (.iload_n 3, 1) := by decide +kernel
theorem dX0_chanceOf_57 : decode cX0_chanceOf 57 = .ok (.imul, 1) := by decide +kernel
theorem dX0_chanceOf_58 : decode cX0_chanceOf 58 = .ok (.goto 4, 3) := by decide +kernel
theorem dX0_chanceOf_61 : decode cX0_chanceOf 61 = .ok (.iload_n 3, 1) := by decide +kernel
theorem dX0_chanceOf_62 : decode cX0_chanceOf 62 = .ok (.isub, 1) := by decide +kernel
theorem dX0_chanceOf_63 : decode cX0_chanceOf 63 = .ok (.invokestatic 49, 3) := by decide +kernel
theorem dX0_chanceOf_66 : decode cX0_chanceOf 66 = .ok (.ireturn, 1) := by decide +kernel
theorem dX0_gainOf_0 : decode cX0_gainOf 0 = .ok (.iload_n 2, 1) := by decide +kernel
theorem dX0_gainOf_1 : decode cX0_gainOf 1 = .ok (.iconst (-1), 1) := by decide +kernel
theorem dX0_gainOf_2 : decode cX0_gainOf 2 = .ok (.if_icmp .ne 17, 3) := by decide +kernel
theorem dX0_gainOf_5 : decode cX0_gainOf 5 = .ok (.aload_n 0, 1) := by decide +kernel
theorem dX0_gainOf_6 : decode cX0_gainOf 6 = .ok (.iload_n 1, 1) := by decide +kernel
theorem dX0_gainOf_7 : decode cX0_gainOf 7 = .ok (.invokevirtual 66, 3) := by decide +kernel
theorem dX0_gainOf_10 : decode cX0_gainOf 10 = .ok (.ifCond .eq 7, 3) := by decide +kernel
theorem dX0_gainOf_13 : decode cX0_gainOf 13 = .ok (.iconst 3, 1) := by decide +kernel
theorem dX0_gainOf_14 : decode cX0_gainOf 14 = .ok (.goto 4, 3) := by decide +kernel
theorem dX0_gainOf_17 : decode cX0_gainOf 17 = .ok (.iconst 2, 1) := by decide +kernel
theorem dX0_gainOf_18 : decode cX0_gainOf 18 = .ok (.ireturn, 1) := by decide +kernel
theorem dX0_gainOf_19 : decode cX0_gainOf 19 = .ok (.aload_n 0, 1) := by decide +kernel
theorem dX0_gainOf_20 : decode cX0_gainOf 20 = .ok (.iload_n 2, 1) := by decide +kernel
theorem dX0_gainOf_21 : decode cX0_gainOf 21 = .ok (.invokestatic 45, 3) := by decide +kernel
theorem dX0_gainOf_24 : decode cX0_gainOf 24 = .ok (.bipush 6, 2) := by decide +kernel
theorem dX0_gainOf_26 : decode cX0_gainOf 26 = .ok (.if_icmp .gt 7, 3) := by decide +kernel
theorem dX0_gainOf_29 : decode cX0_gainOf 29 = .ok (.iconst 1, 1) := by decide +kernel
theorem dX0_gainOf_30 : decode cX0_gainOf 30 = .ok (.goto 4, 3) := by decide +kernel
theorem dX0_gainOf_33 : decode cX0_gainOf 33 = .ok (.iconst 0, 1) := by decide +kernel
theorem dX0_gainOf_34 : decode cX0_gainOf 34 = .ok (.istore_n 3, 1) := by decide +kernel
theorem dX0_gainOf_35 : decode cX0_gainOf 35 = .ok (.sipush 21845, 3) := by decide +kernel
theorem dX0_gainOf_38 : decode cX0_gainOf 38 = .ok (.iload_n 1, 1) := by decide +kernel
theorem dX0_gainOf_39 : decode cX0_gainOf 39 = .ok (.iconst 2, 1) := by decide +kernel
theorem dX0_gainOf_40 : decode cX0_gainOf 40 = .ok (.irem, 1) := by decide +kernel
theorem dX0_gainOf_41 : decode cX0_gainOf 41 = .ok (.ishl, 1) := by decide +kernel
theorem dX0_gainOf_42 : decode cX0_gainOf 42 = .ok (.istore 4, 2) := by decide +kernel
theorem dX0_gainOf_44 : decode cX0_gainOf 44 = .ok (.iconst 1, 1) := by decide +kernel
theorem dX0_gainOf_45 : decode cX0_gainOf 45 = .ok (.iload_n 3, 1) := by decide +kernel
theorem dX0_gainOf_46 : decode cX0_gainOf 46 = .ok (.iadd, 1) := by decide +kernel
theorem dX0_gainOf_47 : decode cX0_gainOf 47 = .ok (.aload_n 0, 1) := by decide +kernel
theorem dX0_gainOf_48 : decode cX0_gainOf 48 = .ok (.iload_n 2, 1) := by decide +kernel
theorem dX0_gainOf_49 : decode cX0_gainOf 49 = .ok (.invokevirtual 69, 3) := by decide +kernel
theorem dX0_gainOf_52 : decode cX0_gainOf 52 = .ok (.iload 4, 2) := by decide +kernel
theorem dX0_gainOf_54 : decode cX0_gainOf 54 = .ok (.iand, 1) := by decide +kernel
theorem dX0_gainOf_55 : decode cX0_gainOf 55 = .ok (.invokestatic 73, 3) := by decide +kernel
theorem dX0_gainOf_58 : decode cX0_gainOf 58 = .ok (.iadd, 1) := by decide +kernel
theorem dX0_gainOf_59 : decode cX0_gainOf 59 = .ok (.ireturn, 1) := by decide +kernel
theorem dX0_wayToCup_0 : decode cX0_wayToCup 0 = .ok (.aload_n 0, 1) := by decide +kernel
theorem dX0_wayToCup_1 : decode cX0_wayToCup 1 = .ok (.getfield 55, 3) := by decide +kernel
theorem dX0_wayToCup_4 : decode cX0_wayToCup 4 = .ok (.iload_n 1, 1) := by decide +kernel
theorem dX0_wayToCup_5 : decode cX0_wayToCup 5 = .ok (.iaload, 1) := by decide +kernel
theorem dX0_wayToCup_6 : decode cX0_wayToCup 6 = .ok (.aload_n 0, 1) := by decide +kernel
theorem dX0_wayToCup_7 : decode cX0_wayToCup 7 = .ok (.getfield 59, 3) := by decide +kernel
theorem dX0_wayToCup_10 : decode cX0_wayToCup 10 = .ok (.iload_n 1, 1) := by decide +kernel
theorem dX0_wayToCup_11 : decode cX0_wayToCup 11 = .ok (.iaload, 1) := by decide +kernel
theorem dX0_wayToCup_12 : decode cX0_wayToCup 12 = .ok (.bipush 20, 2) := by decide +kernel
theorem dX0_wayToCup_14 : decode cX0_wayToCup 14 = .ok (.bipush 20, 2) := by decide +kernel
theorem dX0_wayToCup_16 : decode cX0_wayToCup 16 = .ok (.invokestatic 62, 3) := by decide +kernel
theorem dX0_wayToCup_19 : decode cX0_wayToCup 19 = .ok (.ireturn, 1) := by decide +kernel
theorem dX1_init_0 : decode cX1_init 0 = .ok (.aload_n 0, 1) := by decide +kernel
theorem dX1_init_1 : decode cX1_init 1 = .ok (.invokespecial 3, 3) := by decide +kernel
theorem dX1_init_4 : decode cX1_init 4 = .ok (.aload_n 0, 1) := by decide +kernel
theorem dX1_init_5 : decode cX1_init 5 = .ok (.bipush 16, 2) := by decide +kernel
theorem dX1_init_7 : decode cX1_init 7 = .ok (.newarray .int, 2) := by decide +kernel
theorem dX1_init_9 : decode cX1_init 9 = .ok (.putfield 9, 3) := by decide +kernel
theorem dX1_init_12 : decode cX1_init 12 = .ok (.aload_n 0, 1) := by decide +kernel
theorem dX1_init_13 : decode cX1_init 13 = .ok (.bipush 16, 2) := by decide +kernel
theorem dX1_init_15 : decode cX1_init 15 = .ok (.newarray .int, 2) := by decide +kernel
theorem dX1_init_17 : decode cX1_init 17 = .ok (.putfield 15, 3) := by decide +kernel
theorem dX1_init_20 : decode cX1_init 20 = .ok (.aload_n 0, 1) := by decide +kernel
theorem dX1_init_21 : decode cX1_init 21 = .ok (.bipush 16, 2) := by decide +kernel
theorem dX1_init_23 : decode cX1_init 23 = .ok (.newarray .int, 2) := by decide +kernel
theorem dX1_init_25 : decode cX1_init 25 = .ok (.putfield 18, 3) := by decide +kernel
theorem dX1_init_28 : decode cX1_init 28 = .ok (.aload_n 0, 1) := by decide +kernel
theorem dX1_init_29 : decode cX1_init 29 = .ok (.iconst 0, 1) := by decide +kernel
theorem dX1_init_30 : decode cX1_init 30 = .ok (.putfield 21, 3) := by decide +kernel
theorem dX1_init_33 : decode cX1_init 33 = .ok (.aload_n 0, 1) := by decide +kernel
theorem dX1_init_34 : decode cX1_init 34 = .ok (.iconst 0, 1) := by decide +kernel
theorem dX1_init_35 : decode cX1_init 35 = .ok (.putfield 25, 3) := by decide +kernel
theorem dX1_init_38 : decode cX1_init 38 = .ok (.aload_n 0, 1) := by decide +kernel
theorem dX1_init_39 : decode cX1_init 39 = .ok (.iconst 0, 1) := by decide +kernel
theorem dX1_init_40 : decode cX1_init 40 = .ok (.putfield 28, 3) := by decide +kernel
theorem dX1_init_43 : decode cX1_init 43 = .ok (.aload_n 0, 1) := by decide +kernel
theorem dX1_init_44 : decode cX1_init 44 = .ok (.invokevirtual 31, 3) := by decide +kernel
theorem dX1_init_47 : decode cX1_init 47 = .ok (.return_, 1) := by decide +kernel
theorem dX1_bringAllToBase_0 : decode cX1_bringAllToBase 0 = .ok (.iconst 0, 1) := by decide +kernel
theorem dX1_bringAllToBase_1 : decode cX1_bringAllToBase 1 = .ok (.istore_n 1, 1) := by decide +kernel
theorem dX1_bringAllToBase_2 : decode cX1_bringAllToBase 2 = .ok (.iload_n 1, 1) := by decide +kernel
theorem dX1_bringAllToBase_3 : decode cX1_bringAllToBase 3 = .ok (.bipush 16, 2) := by decide +kernel
theorem dX1_bringAllToBase_5 : decode cX1_bringAllToBase 5 = .ok (.if_icmp .ge 16, 3) := by decide +kernel
theorem dX1_bringAllToBase_8 : decode cX1_bringAllToBase 8 = .ok (.aload_n 0, 1) := by decide +kernel
theorem dX1_bringAllToBase_9 : decode cX1_bringAllToBase 9 = .ok (.iload_n 1, 1) := by decide +kernel
theorem dX1_bringAllToBase_10 : decode cX1_bringAllToBase 10 = .ok (.iconst (-1), 1) := by decide +kernel
theorem dX1_bringAllToBase_11 : decode cX1_bringAllToBase 11 = .ok (.iconst (-1), 1) := by decide +kernel
theorem dX1_bringAllToBase_12 : decode cX1_bringAllToBase 12 = .ok (.invokevirtual 34, 3) := by decide +kernel
theorem dX1_bringAllToBase_15 : decode cX1_bringAllToBase 15 = .ok (.iinc 1 1, 3) := by decide +kernel
theorem dX1_bringAllToBase_18 : decode cX1_bringAllToBase 18 = .ok (.goto (-16), 3) := by decide +kernel
theorem dX1_bringAllToBase_21 : decode cX1_bringAllToBase 21 = .ok (.return_, 1) := by decide +kernel
theorem dX1_copyFrom_0 : decode cX1_copyFrom 0 = .ok (.aload_n 1, 1) := by decide +kernel
theorem dX1_copyFrom_1 : decode cX1_copyFrom 1 = .ok (.getfield 9, 3) := by decide +kernel
theorem dX1_copyFrom_4 : decode cX1_copyFrom 4 = .ok (.iconst 0, 1) := by decide +kernel
theorem dX1_copyFrom_5 : decode cX1_copyFrom 5 = .ok (.aload_n 0, 1) := by decide +kernel
theorem dX1_copyFrom_6 : decode cX1_copyFrom 6 = .ok (.getfield 9, 3) := by decide +kernel
theorem dX1_copyFrom_9 : decode cX1_copyFrom 9 = .ok (.iconst 0, 1) := by decide +kernel
theorem dX1_copyFrom_10 : decode cX1_copyFrom 10 = .ok (.bipush 16, 2) := by decide +kernel
theorem dX1_copyFrom_12 : decode cX1_copyFrom 12 = .ok (.invokestatic 38, 3) := by decide +kernel
theorem dX1_copyFrom_15 : decode cX1_copyFrom 15 = .ok (.aload_n 1, 1) := by decide +kernel
theorem dX1_copyFrom_16 : decode cX1_copyFrom 16 = .ok (.getfield 15, 3) := by decide +kernel
theorem dX1_copyFrom_19 : decode cX1_copyFrom 19 = .ok (.iconst 0, 1) := by decide +kernel
theorem dX1_copyFrom_20 : decode cX1_copyFrom 20 = .ok (.aload_n 0, 1) := by decide +kernel
theorem dX1_copyFrom_21 : decode cX1_copyFrom 21 = .ok (.getfield 15, 3) := by decide +kernel
theorem dX1_copyFrom_24 : decode cX1_copyFrom 24 = .ok (.iconst 0, 1) := by decide +kernel
theorem dX1_copyFrom_25 : decode cX1_copyFrom 25 = .ok (.bipush 16, 2) := by decide +kernel
theorem dX1_copyFrom_27 : decode cX1_copyFrom 27 = .ok (.invokestatic 38, 3) := by decide +kernel
theorem dX1_copyFrom_30 : decode cX1_copyFrom 30 = .ok (.aload_n 1, 1) := by decide +kernel
theorem dX1_copyFrom_31 : decode cX1_copyFrom 31 = .ok (.getfield 18, 3) := by decide +kernel
theorem dX1_copyFrom_34 : decode cX1_copyFrom 34 = .ok (.iconst 0, 1) := by decide +kernel
theorem dX1_copyFrom_35 : decode cX1_copyFrom 35 = .ok (.aload_n 0, 1) := by decide +kernel
theorem dX1_copyFrom_36 : decode cX1_copyFrom 36 = .ok (.getfield 18, 3) := by decide +kernel
theorem dX1_copyFrom_39 : decode cX1_copyFrom 39 = .ok (.iconst 0, 1) := by decide +kernel
theorem dX1_copyFrom_40 : decode cX1_copyFrom 40 = .ok (.bipush 16, 2) := by decide +kernel
theorem dX1_copyFrom_42 : decode cX1_copyFrom 42 = .ok (.invokestatic 38, 3) := by decide +kernel
theorem dX1_copyFrom_45 : decode cX1_copyFrom 45 = .ok (.aload_n 0, 1) := by decide +kernel
theorem dX1_copyFrom_46 : decode cX1_copyFrom 46 = .ok (.aload_n 1, 1) := by decide +kernel
theorem dX1_copyFrom_47 : decode cX1_copyFrom 47 = .ok (.getfield 21, 3) := by decide +kernel
theorem dX1_copyFrom_50 : decode cX1_copyFrom 50 = .ok (.putfield 21, 3) := by decide +kernel
theorem dX1_copyFrom_53 : decode cX1_copyFrom 53 = .ok (.aload_n 0, 1) := by decide +kernel
theorem dX1_copyFrom_54 : decode cX1_copyFrom 54 = .ok (.aload_n 1, 1) := by decide +kernel
theorem dX1_copyFrom_55 : decode cX1_copyFrom 55 = .ok (.getfield 25, 3) := by decide +kernel
theorem dX1_copyFrom_58 : decode cX1_copyFrom 58 = .ok (.putfield 25, 3) := by decide +kernel
theorem dX1_copyFrom_61 : decode cX1_copyFrom 61 = .ok (.aload_n 0, 1) := by decide +kernel
theorem dX1_copyFrom_62 : decode cX1_copyFrom 62 = .ok (.aload_n 1, 1) := by decide +kernel
theorem dX1_copyFrom_63 : decode cX1_copyFrom 63 = .ok (.getfield 28, 3) := by decide +kernel
theorem dX1_copyFrom_66 : decode cX1_copyFrom 66 = .ok (.putfield 28, 3) := by decide +kernel
theorem dX1_copyFrom_69 : decode cX1_copyFrom 69 = .ok (.return_, 1) := by decide +kernel
theorem dX1_bring_0 : decode cX1_bring 0 = .ok (.aload_n 0, 1) := by decide +kernel
theorem dX1_bring_1 : decode cX1_bring 1 = .ok (.iload_n 1, 1) := by decide +kernel
theorem dX1_bring_2 : decode cX1_bring 2 = .ok (.invokevirtual 44, 3) := by decide +kernel
theorem dX1_bring_5 : decode cX1_bring 5 = .ok (.iload_n 2, 1) := by decide +kernel
theorem dX1_bring_6 : decode cX1_bring 6 = .ok (.iconst (-1), 1) := by decide +kernel
theorem dX1_bring_7 : decode cX1_bring 7 = .ok (.if_icmp .ne 32, 3) := by decide +kernel
theorem dX1_bring_10 : decode cX1_bring 10 = .ok (.aload_n 0, 1) := by decide +kernel
theorem dX1_bring_11 : decode cX1_bring 11 = .ok (.getfield 9, 3) := by decide +kernel
theorem dX1_bring_14 : decode cX1_bring 14 = .ok (.iload_n 1, 1) := by decide +kernel
theorem dX1_bring_15 : decode cX1_bring 15 = .ok (.getstatic 48, 3) := by decide +kernel
theorem dX1_bring_18 : decode cX1_bring 18 = .ok (.iload_n 1, 1) := by decide +kernel
theorem dX1_bring_19 : decode cX1_bring 19 = .ok (.invokestatic 51, 3) := by decide +kernel
theorem dX1_bring_22 : decode cX1_bring 22 = .ok (.iaload, 1) := by decide +kernel
theorem dX1_bring_23 : decode cX1_bring 23 = .ok (.iastore, 1) := by decide +kernel
theorem dX1_bring_24 : decode cX1_bring 24 = .ok (.aload_n 0, 1) := by decide +kernel
theorem dX1_bring_25 : decode cX1_bring 25 = .ok (.getfield 15, 3) := by decide +kernel
theorem dX1_bring_28 : decode cX1_bring 28 = .ok (.iload_n 1, 1) := by decide +kernel
theorem dX1_bring_29 : decode cX1_bring 29 = .ok (.getstatic 55, 3) := by decide +kernel
theorem dX1_bring_32 : decode cX1_bring 32 = .ok (.iload_n 1, 1) := by decide +kernel
theorem dX1_bring_33 : decode cX1_bring 33 = .ok (.invokestatic 51, 3) := by decide +kernel
theorem dX1_bring_36 : decode cX1_bring 36 = .ok (.iaload, 1) := by decide +kernel
theorem dX1_bring_37 : decode cX1_bring 37 = .ok (.iastore, 1) := by decide +kernel
theorem dX1_bring_38 : decode cX1_bring 38 = .ok (.return_, 1) := by decide +kernel
theorem dX1_bring_39 : decode cX1_bring 39 = .ok (.aload_n 0, 1) := by decide +kernel
theorem dX1_bring_40 : decode cX1_bring 40 = .ok (.getfield 9, 3) := by decide +kernel
theorem dX1_bring_43 : decode cX1_bring 43 = .ok (.iload_n 1, 1) := by decide +kernel
theorem dX1_bring_44 : decode cX1_bring 44 = .ok (.iload_n 2, 1) := by decide +kernel
theorem dX1_bring_45 : decode cX1_bring 45 = .ok (.iastore, 1) := by decide +kernel
theorem dX1_bring_46 : decode cX1_bring 46 = .ok (.aload_n 0, 1) := by decide +kernel
theorem dX1_bring_47 : decode cX1_bring 47 = .ok (.getfield 15, 3) := by decide +kernel
theorem dX1_bring_50 : decode cX1_bring 50 = .ok (.iload_n 1, 1) := by decide +kernel
theorem dX1_bring_51 : decode cX1_bring 51 = .ok (.iload_n 3, 1) := by decide +kernel
theorem dX1_bring_52 : decode cX1_bring 52 = .ok (.iastore, 1) := by decide +kernel
theorem dX1_bring_53 : decode cX1_bring 53 = .ok (.iload_n 2, 1) := by decide +kernel
theorem dX1_bring_54 : decode cX1_bring 54 = .ok (.bipush 41, 2) := by decide +kernel
theorem dX1_bring_56 : decode cX1_bring 56 = .ok (.if_icmp .ne 16, 3) := by decide +kernel
theorem dX1_bring_59 : decode cX1_bring 59 = .ok (.aload_n 0, 1) := by decide +kernel
theorem dX1_bring_60 : decode cX1_bring 60 = .ok (.dup, 1) := by decide +kernel
theorem dX1_bring_61 : decode cX1_bring 61 = .ok (.getfield 25, 3) := by decide +kernel
theorem dX1_bring_64 : decode cX1_bring 64 = .ok (.iconst 1, 1) := by decide +kernel
theorem dX1_bring_65 : decode cX1_bring 65 = .ok (.iload_n 1, 1) := by decide +kernel
theorem dX1_bring_66 : decode cX1_bring 66 = .ok (.ishl, 1) := by decide +kernel
theorem dX1_bring_67 : decode cX1_bring 67 = .ok (.ior, 1) := by decide +kernel
theorem dX1_bring_68 : decode cX1_bring 68 = .ok (.putfield 25, 3) := by decide +kernel
theorem dX1_bring_71 : decode cX1_bring 71 = .ok (.return_, 1) := by decide +kernel
theorem dX1_bring_72 : decode cX1_bring 72 = .ok (.iconst 0, 1) := by decide +kernel
theorem dX1_bring_73 : decode cX1_bring 73 = .ok (.istore 4, 2) := by decide +kernel
theorem dX1_bring_75 : decode cX1_bring 75 = .ok (.iload 4, 2) := by decide +kernel
theorem dX1_bring_77 : decode cX1_bring 77 = .ok (.bipush 16, 2) := by decide +kernel
theorem dX1_bring_79 : decode cX1_bring 79 = .ok (.if_icmp .ge 54, 3) := by decide +kernel
theorem dX1_bring_82 : decode cX1_bring 82 = .ok (.aload_n 0, 1) := by decide +kernel
theorem dX1_bring_83 : decode cX1_bring 83 = .ok (.iload 4, 2) := by decide +kernel
theorem dX1_bring_85 : decode cX1_bring 85 = .ok (.invokevirtual 58, 3) := by decide +kernel
theorem dX1_bring_88 : decode cX1_bring 88 = .ok (.ifCond .eq 39, 3) := by decide +kernel
theorem dX1_bring_91 : decode cX1_bring 91 = .ok (.aload_n 0, 1) := by decide +kernel
theorem dX1_bring_92 : decode cX1_bring 92 = .ok (.iload_n 1, 1) := by decide +kernel
theorem dX1_bring_93 : decode cX1_bring 93 = .ok (.iload 4, 2) := by decide +kernel
theorem dX1_bring_95 : decode cX1_bring 95 = .ok (.invokevirtual 62, 3) := by decide +kernel
theorem dX1_bring_98 : decode cX1_bring 98 = .ok (.ifCond .eq 29, 3) := by decide +kernel
theorem dX1_bring_101 : decode cX1_bring 101 = .ok (.aload_n 0, 1) := by decide +kernel
theorem dX1_bring_102 : decode cX1_bring 102 = .ok (.getfield 18, 3) := by decide +kernel
theorem dX1_bring_105 : decode cX1_bring 105 = .ok (.iload 4, 2) := by decide +kernel
theorem dX1_bring_107 : decode cX1_bring 107 = .ok (.dup2, 1) := by decide +kernel
theorem dX1_bring_108 : decode cX1_bring 108 = .ok (.iaload, 1) := by decide +kernel
theorem dX1_bring_109 : decode cX1_bring 109 = .ok (.iconst 1, 1) := by decide +kernel
theorem dX1_bring_110 : decode cX1_bring 110 = .ok (.iload_n 1, 1) := by decide +kernel
theorem dX1_bring_111 : decode cX1_bring 111 = .ok (.ishl, 1) := by decide +kernel
theorem dX1_bring_112 : decode cX1_bring 112 = .ok (.ior, 1) := by decide +kernel
theorem dX1_bring_113 : decode cX1_bring 113 = .ok (.iastore, 1) := by decide +kernel
theorem dX1_bring_114 : decode cX1_bring 114 = .ok (.aload_n 0, 1) := by decide +kernel
theorem dX1_bring_115 : decode cX1_bring 115 = .ok (.dup, 1) := by decide +kernel
theorem dX1_bring_116 : decode cX1_bring 116 = .ok (.getfield 28, 3) := by decide +kernel
theorem dX1_bring_119 : decode cX1_bring 119 = .ok (.iconst 1, 1) := by decide +kernel
theorem dX1_bring_120 : decode cX1_bring 120 = .ok (.iload 4, 2) := by decide +kernel
theorem dX1_bring_122 : decode cX1_bring 122 = .ok (.ishl, 1) := by decide +kernel
theorem dX1_bring_123 : decode cX1_bring 123 = .ok (.ior, 1) := by decide +kernel
theorem dX1_bring_124 : decode cX1_bring 124 = .ok (.putfield 28, 3) := by decide +kernel
theorem dX1_bring_127 : decode cX1_bring 127 = .ok (.iinc 4 1, 3) := by decide +kernel
theorem dX1_bring_130 : decode cX1_bring 130 = .ok (.goto (-55), 3) := by decide +kernel
theorem dX1_bring_133 : decode cX1_bring 133 = .ok (.aload_n 0, 1) := by decide +kernel
theorem dX1_bring_134 : decode cX1_bring 134 = .ok (.dup, 1) := by decide +kernel
theorem dX1_bring_135 : decode cX1_bring 135 = .ok (.getfield 21, 3) := by decide +kernel
theorem dX1_bring_138 : decode cX1_bring 138 = .ok (.iconst 1, 1) := by decide +kernel
theorem dX1_bring_139 : decode cX1_bring 139 = .ok (.iload_n 1, 1) := by decide +kernel
theorem dX1_bring_140 : decode cX1_bring 140 = .ok (.ishl, 1) := by decide +kernel
theorem dX1_bring_141 : decode cX1_bring 141 = .ok (.ior, 1) := by decide +kernel
theorem dX1_bring_142 : decode cX1_bring 142 = .ok (.putfield 21, 3) := by decide +kernel
theorem dX1_bring_145 : decode cX1_bring 145 = .ok (.return_, 1) := by decide +kernel
theorem dX1_lift_0 : decode cX1_lift 0 = .ok (.iconst 1, 1) := by decide +kernel
theorem dX1_lift_1 : decode cX1_lift 1 = .ok (.iload_n 1, 1) := by decide +kernel
theorem dX1_lift_2 : decode cX1_lift 2 = .ok (.ishl, 1) := by decide +kernel
theorem dX1_lift_3 : decode cX1_lift 3 = .ok (.iconst (-1), 1) := by decide +kernel
theorem dX1_lift_4 : decode cX1_lift 4 = .ok (.ixor, 1) := by decide +kernel
theorem dX1_lift_5 : decode cX1_lift 5 = .ok (.istore_n 2, 1) := by decide +kernel
theorem dX1_lift_6 : decode cX1_lift 6 = .ok (.aload_n 0, 1) := by decide +kernel
theorem dX1_lift_7 : decode cX1_lift 7 = .ok (.dup, 1) := by decide +kernel
theorem dX1_lift_8 : decode cX1_lift 8 = .ok (.getfield 25, 3) := by decide +kernel
theorem dX1_lift_11 : decode cX1_lift 11 = .ok (.iload_n 2, 1) := by decide +kernel
theorem dX1_lift_12 : decode cX1_lift 12 = .ok (.iand, 1) := by decide +kernel
theorem dX1_lift_13 : decode cX1_lift 13 = .ok (.putfield 25, 3) := by decide +kernel
theorem dX1_lift_16 : decode cX1_lift 16 = .ok (.aload_n 0, 1) := by decide +kernel
theorem dX1_lift_17 : decode cX1_lift 17 = .ok (.iload_n 1, 1) := by decide +kernel
theorem dX1_lift_18 : decode cX1_lift 18 = .ok (.invokevirtual 58, 3) := by decide +kernel
theorem dX1_lift_21 : decode cX1_lift 21 = .ok (.ifCond .ne 4, 3) := by decide +kernel
theorem dX1_lift_24 : decode cX1_lift 24 = .ok (.return_, 1) := by decide +kernel
theorem dX1_lift_25 : decode cX1_lift 25 = .ok (.aload_n 0, 1) := by decide +kernel
theorem dX1_lift_26 : decode cX1_lift 26 = .ok (.dup, 1) := by decide +kernel
theorem dX1_lift_27 : decode cX1_lift 27 = .ok (.getfield 21, 3) := by decide +kernel
theorem dX1_lift_30 : decode cX1_lift 30 = .ok (.iload_n 2, 1) := by decide +kernel
theorem dX1_lift_31 : decode cX1_lift 31 = .ok (.iand, 1) := by decide +kernel
theorem dX1_lift_32 : decode cX1_lift 32 = .ok (.putfield 21, 3) := by decide +kernel
theorem dX1_lift_35 : decode cX1_lift 35 = .ok (.aload_n 0, 1) := by decide +kernel
theorem dX1_lift_36 : decode cX1_lift 36 = .ok (.getfield 18, 3) := by decide +kernel
theorem dX1_lift_39 : decode cX1_lift 39 = .ok (.iload_n 1, 1) := by decide +kernel
theorem dX1_lift_40 : decode cX1_lift 40 = .ok (.iconst 0, 1) := by decide +kernel
theorem dX1_lift_41 : decode cX1_lift 41 = .ok (.iastore, 1) := by decide +kernel
theorem dX1_lift_42 : decode cX1_lift 42 = .ok (.aload_n 0, 1) := by decide +kernel
theorem dX1_lift_43 : decode cX1_lift 43 = .ok (.iconst 0, 1) := by decide +kernel
theorem dX1_lift_44 : decode cX1_lift 44 = .ok (.putfield 28, 3) := by decide +kernel
theorem dX1_lift_47 : decode cX1_lift 47 = .ok (.iconst 0, 1) := by decide +kernel
theorem dX1_lift_48 : decode cX1_lift 48 = .ok (.istore_n 3, 1) := by decide +kernel
theorem dX1_lift_49 : decode cX1_lift 49 = .ok (.iload_n 3, 1) := by decide +kernel
theorem dX1_lift_50 : decode cX1_lift 50 = .ok (.bipush 16, 2) := by decide +kernel
theorem dX1_lift_52 : decode cX1_lift 52 = .ok (.if_icmp .ge 40, 3) := by decide +kernel
theorem dX1_lift_55 : decode cX1_lift 55 = .ok (.aload_n 0, 1) := by decide +kernel
theorem dX1_lift_56 : decode cX1_lift 56 = .ok (.getfield 18, 3) := by decide +kernel
theorem dX1_lift_59 : decode cX1_lift 59 = .ok (.iload_n 3, 1) := by decide +kernel
theorem dX1_lift_60 : decode cX1_lift 60 = .ok (.dup2, 1) := by decide +kernel
theorem dX1_lift_61 : decode cX1_lift 61 = .ok (.iaload, 1) := by decide +kernel
theorem dX1_lift_62 : decode cX1_lift 62 = .ok (.iload_n 2, 1) := by decide +kernel
theorem dX1_lift_63 : decode cX1_lift 63 = .ok (.iand, 1) := by decide +kernel
theorem dX1_lift_64 : decode cX1_lift 64 = .ok (.iastore, 1) := by decide +kernel
theorem dX1_lift_65 : decode cX1_lift 65 = .ok (.aload_n 0, 1) := by decide +kernel
theorem dX1_lift_66 : decode cX1_lift 66 = .ok (.getfield 18, 3) := by decide +kernel
theorem dX1_lift_69 : decode cX1_lift 69 = .ok (.iload_n 3, 1) := by decide +kernel
theorem dX1_lift_70 : decode cX1_lift 70 = .ok (.iaload, 1) := by decide +kernel
theorem dX1_lift_71 : decode cX1_lift 71 = .ok (.ifCond .eq 15, 3) := by decide +kernel
theorem dX1_lift_74 : decode cX1_lift 74 = .ok (.aload_n 0, 1) := by decide +kernel
theorem dX1_lift_75 : decode cX1_lift 75 = .ok (.dup, 1) := by decide +kernel
theorem dX1_lift_76 : decode cX1_lift 76 = .ok (.getfield 28, 3) := by decide +kernel
theorem dX1_lift_79 : decode cX1_lift 79 = .ok (.iconst 1, 1) := by decide +kernel
theorem dX1_lift_80 : decode cX1_lift 80 = .ok (.iload_n 3, 1) := by decide +kernel
theorem dX1_lift_81 : decode cX1_lift 81 = .ok (.ishl, 1) := by decide +kernel
theorem dX1_lift_82 : decode cX1_lift 82 = .ok (.ior, 1) := by decide +kernel
theorem dX1_lift_83 : decode cX1_lift 83 = .ok (.putfield 28, 3) := by decide +kernel
theorem dX1_lift_86 : decode cX1_lift 86 = .ok (.iinc 3 1, 3) := by decide +kernel
theorem dX1_lift_89 : decode cX1_lift 89 = .ok (.goto (-40), 3) := by decide +kernel
theorem dX1_lift_92 : decode cX1_lift 92 = .ok (.return_, 1) := by decide +kernel
theorem dX1_isOverlap_0 : decode cX1_isOverlap 0 = .ok (.aload_n 0, 1) := by decide +kernel
theorem dX1_isOverlap_1 : decode cX1_isOverlap 1 = .ok (.getfield 9, 3) := by decide +kernel
theorem dX1_isOverlap_4 : decode cX1_isOverlap 4 = .ok (.iload_n 1, 1) := by decide +kernel
theorem dX1_isOverlap_5 : decode cX1_isOverlap 5 = .ok (.iaload, 1) := by decide +kernel
theorem dX1_isOverlap_6 : decode cX1_isOverlap 6 = .ok (.aload_n 0, 1) := by decide +kernel
theorem dX1_isOverlap_7 : decode cX1_isOverlap 7 = .ok (.getfield 9, 3) := by decide +kernel
theorem dX1_isOverlap_10 : decode cX1_isOverlap 10 = .ok (.iload_n 2, 1) := by decide +kernel
theorem dX1_isOverlap_11 : decode cX1_isOverlap 11 = .ok (.iaload, 1) := by decide +kernel
theorem dX1_isOverlap_12 : decode cX1_isOverlap 12 = .ok (.isub, 1) := by decide +kernel
theorem dX1_isOverlap_13 : decode cX1_isOverlap 13 = .ok (.istore_n 3, 1) := by decide +kernel
theorem dX1_isOverlap_14 : decode cX1_isOverlap 14 = .ok (.aload_n 0, 1) := by decide +kernel
theorem dX1_isOverlap_15 : decode cX1_isOverlap 15 = .ok (.getfield 15, 3) := by decide +kernel
theorem dX1_isOverlap_18 : decode cX1_isOverlap 18 = .ok (.iload_n 1, 1) := by decide +kernel
theorem dX1_isOverlap_19 : decode cX1_isOverlap 19 = .ok (.iaload, 1) := by decide +kernel
theorem dX1_isOverlap_20 : decode cX1_isOverlap 20 = .ok (.aload_n 0, 1) := by decide +kernel
theorem dX1_isOverlap_21 : decode cX1_isOverlap 21 = .ok (.getfield 15, 3) := by decide +kernel
theorem dX1_isOverlap_24 : decode cX1_isOverlap 24 = .ok (.iload_n 2, 1) := by decide +kernel
theorem dX1_isOverlap_25 : decode cX1_isOverlap 25 = .ok (.iaload, 1) := by decide +kernel
theorem dX1_isOverlap_26 : decode cX1_isOverlap 26 = .ok (.isub, 1) := by decide +kernel
theorem dX1_isOverlap_27 : decode cX1_isOverlap 27 = .ok (.istore 4, 2) := by decide +kernel
theorem dX1_isOverlap_29 : decode cX1_isOverlap 29 = .ok (.iload_n 1, 1) := by decide +kernel
theorem dX1_isOverlap_30 : decode cX1_isOverlap 30 = .ok (.invokestatic 66, 3) := by decide +kernel
theorem dX1_isOverlap_33 : decode cX1_isOverlap 33 = .ok (.iload_n 2, 1) := by decide +kernel
theorem dX1_isOverlap_34 : decode cX1_isOverlap 34 = .ok (.invokestatic 66, 3) := by decide +kernel
theorem dX1_isOverlap_37 : decode cX1_isOverlap 37 = .ok (.iadd, 1) := by decide +kernel
theorem dX1_isOverlap_38 : decode cX1_isOverlap 38 = .ok (.istore 5, 2) := by decide +kernel
theorem dX1_isOverlap_40 : decode cX1_isOverlap 40 = .ok (.iload_n 3, 1) := by decide +kernel
theorem dX1_isOverlap_41 : decode cX1_isOverlap 41 = .ok (.iload_n 3, 1) := by decide +kernel
theorem dX1_isOverlap_42 : decode cX1_isOverlap 42 = .ok (.imul, 1) := by decide +kernel
theorem dX1_isOverlap_43 : decode cX1_isOverlap 43 = .ok (.iload 4, 2) := by decide +kernel
theorem dX1_isOverlap_45 : decode cX1_isOverlap 45 = .ok (.iload 4, 2) := by decide +kernel
theorem dX1_isOverlap_47 : decode cX1_isOverlap 47 = .ok (.imul, 1) := by decide +kernel
theorem dX1_isOverlap_48 : decode cX1_isOverlap 48 = .ok (.iadd, 1) := by decide +kernel
theorem dX1_isOverlap_49 : decode cX1_isOverlap 49 = .ok (.iload 5, 2) := by decide +kernel
theorem dX1_isOverlap_51 : decode cX1_isOverlap 51 = .ok (.iload 5, 2) := by decide +kernel
theorem dX1_isOverlap_53 : decode cX1_isOverlap 53 = .ok (.imul, 1) := by decide +kernel
theorem dX1_isOverlap_54 : decode cX1_isOverlap 54 = .ok (.if_icmp .ge 7, 3) := by decide +kernel
theorem dX1_isOverlap_57 : decode cX1_isOverlap 57 = .ok (.iconst 1, 1) := by decide +kernel
theorem dX1_isOverlap_58 : decode cX1_isOverlap 58 = .ok (.goto 4, 3) := by decide +kernel
theorem dX1_isOverlap_61 : decode cX1_isOverlap 61 = .ok (.iconst 0, 1) := by decide +kernel
theorem dX1_isOverlap_62 : decode cX1_isOverlap 62 = .ok (.ireturn, 1) := by decide +kernel
theorem dX1_doesLie_0 : decode cX1_doesLie 0 = .ok (.aload_n 0, 1) := by decide +kernel
theorem dX1_doesLie_1 : decode cX1_doesLie 1 = .ok (.getfield 21, 3) := by decide +kernel
theorem dX1_doesLie_4 : decode cX1_doesLie 4 = .ok (.iconst 1, 1) := by decide +kernel
theorem dX1_doesLie_5 : decode cX1_doesLie 5 = .ok (.iload_n 1, 1) := by decide +kernel
theorem dX1_doesLie_6 : decode cX1_doesLie 6 = .ok (.ishl, 1) := by decide +kernel
theorem dX1_doesLie_7 : decode cX1_doesLie 7 = .ok (.iand, 1) := by decide +kernel
theorem dX1_doesLie_8 : decode cX1_doesLie 8 = .ok (.ifCond .eq 7, 3) := by decide +kernel
theorem dX1_doesLie_11 : decode cX1_doesLie 11 = .ok (.iconst 1, 1) := by decide +kernel
theorem dX1_doesLie_12 : decode cX1_doesLie 12 = .ok (.goto 4, 3) := by decide +kernel
theorem dX1_doesLie_15 : decode cX1_doesLie 15 = .ok (.iconst 0, 1) := by decide +kernel
theorem dX1_doesLie_16 : decode cX1_doesLie 16 = .ok (.ireturn, 1) := by decide +kernel
theorem dX1_isInCup_0 : decode cX1_isInCup 0 = .ok (.aload_n 0, 1) := by decide +kernel
theorem dX1_isInCup_1 : decode cX1_isInCup 1 = .ok (.getfield 25, 3) := by decide +kernel
theorem dX1_isInCup_4 : decode cX1_isInCup 4 = .ok (.iconst 1, 1) := by decide +kernel
theorem dX1_isInCup_5 : decode cX1_isInCup 5 = .ok (.iload_n 1, 1) := by decide +kernel
theorem dX1_isInCup_6 : decode cX1_isInCup 6 = .ok (.ishl, 1) := by decide +kernel
theorem dX1_isInCup_7 : decode cX1_isInCup 7 = .ok (.iand, 1) := by decide +kernel
theorem dX1_isInCup_8 : decode cX1_isInCup 8 = .ok (.ifCond .eq 7, 3) := by decide +kernel
theorem dX1_isInCup_11 : decode cX1_isInCup 11 = .ok (.iconst 1, 1) := by decide +kernel
theorem dX1_isInCup_12 : decode cX1_isInCup 12 = .ok (.goto 4, 3) := by decide +kernel
theorem dX1_isInCup_15 : decode cX1_isInCup 15 = .ok (.iconst 0, 1) := by decide +kernel
theorem dX1_isInCup_16 : decode cX1_isInCup 16 = .ok (.ireturn, 1) := by decide +kernel
theorem dX1_isAtBase_0 : decode cX1_isAtBase 0 = .ok (.aload_n 0, 1) := by decide +kernel
theorem dX1_isAtBase_1 : decode cX1_isAtBase 1 = .ok (.iload_n 1, 1) := by decide +kernel
theorem dX1_isAtBase_2 : decode cX1_isAtBase 2 = .ok (.invokevirtual 58, 3) := by decide +kernel
theorem dX1_isAtBase_5 : decode cX1_isAtBase 5 = .ok (.ifCond .ne 15, 3) := by decide +kernel
theorem dX1_isAtBase_8 : decode cX1_isAtBase 8 = .ok (.aload_n 0, 1) := by decide +kernel
theorem dX1_isAtBase_9 : decode cX1_isAtBase 9 = .ok (.iload_n 1, 1) := by decide +kernel
theorem dX1_isAtBase_10 : decode cX1_isAtBase 10 = .ok (.invokevirtual 69, 3) := by decide +kernel
theorem dX1_isAtBase_13 : decode cX1_isAtBase 13 = .ok (.ifCond .ne 7, 3) := by decide +kernel
theorem dX1_isAtBase_16 : decode cX1_isAtBase 16 = .ok (.iconst 1, 1) := by decide +kernel
theorem dX1_isAtBase_17 : decode cX1_isAtBase 17 = .ok (.goto 4, 3) := by decide +kernel
theorem dX1_isAtBase_20 : decode cX1_isAtBase 20 = .ok (.iconst 0, 1) := by decide +kernel
theorem dX1_isAtBase_21 : decode cX1_isAtBase 21 = .ok (.ireturn, 1) := by decide +kernel
theorem dX1_isFree_0 : decode cX1_isFree 0 = .ok (.aload_n 0, 1) := by decide +kernel
theorem dX1_isFree_1 : decode cX1_isFree 1 = .ok (.getfield 25, 3) := by decide +kernel
theorem dX1_isFree_4 : decode cX1_isFree 4 = .ok (.aload_n 0, 1) := by decide +kernel
theorem dX1_isFree_5 : decode cX1_isFree 5 = .ok (.getfield 28, 3) := by decide +kernel
theorem dX1_isFree_8 : decode cX1_isFree 8 = .ok (.ior, 1) := by decide +kernel
theorem dX1_isFree_9 : decode cX1_isFree 9 = .ok (.iconst 1, 1) := by decide +kernel
theorem dX1_isFree_10 : decode cX1_isFree 10 = .ok (.iload_n 1, 1) := by decide +kernel
theorem dX1_isFree_11 : decode cX1_isFree 11 = .ok (.ishl, 1) := by decide +kernel
theorem dX1_isFree_12 : decode cX1_isFree 12 = .ok (.iand, 1) := by decide +kernel
theorem dX1_isFree_13 : decode cX1_isFree 13 = .ok (.ifCond .ne 7, 3) := by decide +kernel
theorem dX1_isFree_16 : decode cX1_isFree 16 = .ok (.iconst 1, 1) := by decide +kernel
theorem dX1_isFree_17 : decode cX1_isFree 17 = .ok (.goto 4, 3) := by decide +kernel
theorem dX1_isFree_20 : decode cX1_isFree 20 = .ok (.iconst 0, 1) := by decide +kernel
theorem dX1_isFree_21 : decode cX1_isFree 21 = .ok (.ireturn, 1) := by decide +kernel
theorem dX1_coveredBy_0 : decode cX1_coveredBy 0 = .ok (.iconst 0, 1) := by decide +kernel
theorem dX1_coveredBy_1 : decode cX1_coveredBy 1 = .ok (.istore_n 2, 1) := by decide +kernel
theorem dX1_coveredBy_2 : decode cX1_coveredBy 2 = .ok (.iconst 0, 1) := by decide +kernel
theorem dX1_coveredBy_3 : decode cX1_coveredBy 3 = .ok (.istore_n 3, 1) := by decide +kernel
theorem dX1_coveredBy_4 : decode cX1_coveredBy 4 = .ok (.iload_n 3, 1) := by decide +kernel
theorem dX1_coveredBy_5 : decode cX1_coveredBy 5 = .ok (.bipush 16, 2) := by decide +kernel
theorem dX1_coveredBy_7 : decode cX1_coveredBy 7 = .ok (.if_icmp .ge 28, 3) := by decide +kernel
theorem dX1_coveredBy_10 : decode cX1_coveredBy 10 = .ok (.aload_n 0, 1) := by decide +kernel
theorem dX1_coveredBy_11 : decode cX1_coveredBy 11 = .ok (.getfield 18, 3) := by decide +kernel
theorem dX1_coveredBy_14 : decode cX1_coveredBy 14 = .ok (.iload_n 3, 1) := by decide +kernel
theorem dX1_coveredBy_15 : decode cX1_coveredBy 15 = .ok (.iaload, 1) := by decide +kernel
theorem dX1_coveredBy_16 : decode cX1_coveredBy 16 = .ok (.iconst 1, 1) := by decide +kernel
theorem dX1_coveredBy_17 : decode cX1_coveredBy 17 = .ok (.iload_n 1, 1) := by decide +kernel
theorem dX1_coveredBy_18 : decode cX1_coveredBy 18 = .ok (.ishl, 1) := by decide +kernel
theorem dX1_coveredBy_19 : decode cX1_coveredBy 19 = .ok (.iand, 1) := by decide +kernel
theorem dX1_coveredBy_20 : decode cX1_coveredBy 20 = .ok (.ifCond .eq 9, 3) := by decide +kernel
theorem dX1_coveredBy_23 : decode cX1_coveredBy 23 = .ok (.iload_n 2, 1) := by decide +kernel
theorem dX1_coveredBy_24 : decode cX1_coveredBy 24 = .ok (.iconst 1, 1) := by decide +kernel
theorem dX1_coveredBy_25 : decode cX1_coveredBy 25 = .ok (.iload_n 3, 1) := by decide +kernel
theorem dX1_coveredBy_26 : decode cX1_coveredBy 26 = .ok (.ishl, 1) := by decide +kernel
theorem dX1_coveredBy_27 : decode cX1_coveredBy 27 = .ok (.ior, 1) := by decide +kernel
theorem dX1_coveredBy_28 : decode cX1_coveredBy 28 = .ok (.istore_n 2, 1) := by decide +kernel
theorem dX1_coveredBy_29 : decode cX1_coveredBy 29 = .ok (.iinc 3 1, 3) := by decide +kernel
theorem dX1_coveredBy_32 : decode cX1_coveredBy 32 = .ok (.goto (-28), 3) := by decide +kernel
theorem dX1_coveredBy_35 : decode cX1_coveredBy 35 = .ok (.iload_n 2, 1) := by decide +kernel
theorem dX1_coveredBy_36 : decode cX1_coveredBy 36 = .ok (.ireturn, 1) := by decide +kernel
theorem dX1_pileOf_0 : decode cX1_pileOf 0 = .ok (.aload_n 0, 1) := by decide +kernel
theorem dX1_pileOf_1 : decode cX1_pileOf 1 = .ok (.iload_n 1, 1) := by decide +kernel
theorem dX1_pileOf_2 : decode cX1_pileOf 2 = .ok (.invokevirtual 58, 3) := by decide +kernel
theorem dX1_pileOf_5 : decode cX1_pileOf 5 = .ok (.ifCond .ne 5, 3) := by decide +kernel
theorem dX1_pileOf_8 : decode cX1_pileOf 8 = .ok (.iconst 0, 1) := by decide +kernel
theorem dX1_pileOf_9 : decode cX1_pileOf 9 = .ok (.ireturn, 1) := by decide +kernel
theorem dX1_pileOf_10 : decode cX1_pileOf 10 = .ok (.iconst 1, 1) := by decide +kernel
theorem dX1_pileOf_11 : decode cX1_pileOf 11 = .ok (.iload_n 1, 1) := by decide +kernel
theorem dX1_pileOf_12 : decode cX1_pileOf 12 = .ok (.ishl, 1) := by decide +kernel
theorem dX1_pileOf_13 : decode cX1_pileOf 13 = .ok (.istore_n 2, 1) := by decide +kernel
theorem dX1_pileOf_14 : decode cX1_pileOf 14 = .ok (.iconst 0, 1) := by decide +kernel
theorem dX1_pileOf_15 : decode cX1_pileOf 15 = .ok (.istore_n 3, 1) := by decide +kernel
theorem dX1_pileOf_16 : decode cX1_pileOf 16 = .ok (.iload_n 3, 1) := by decide +kernel
theorem dX1_pileOf_17 : decode cX1_pileOf 17 = .ok (.bipush 16, 2) := by decide +kernel
theorem dX1_pileOf_19 : decode cX1_pileOf 19 = .ok (.if_icmp .ge 15, 3) := by decide +kernel
theorem dX1_pileOf_22 : decode cX1_pileOf 22 = .ok (.aload_n 0, 1) := by decide +kernel
theorem dX1_pileOf_23 : decode cX1_pileOf 23 = .ok (.iload_n 2, 1) := by decide +kernel
theorem dX1_pileOf_24 : decode cX1_pileOf 24 = .ok (.invokevirtual 72, 3) := by decide +kernel
theorem dX1_pileOf_27 : decode cX1_pileOf 27 = .ok (.istore_n 2, 1) := by decide +kernel
theorem dX1_pileOf_28 : decode cX1_pileOf 28 = .ok (.iinc 3 1, 3) := by decide +kernel
theorem dX1_pileOf_31 : decode cX1_pileOf 31 = .ok (.goto (-15), 3) := by decide +kernel
theorem dX1_pileOf_34 : decode cX1_pileOf 34 = .ok (.iload_n 2, 1) := by decide +kernel
theorem dX1_pileOf_35 : decode cX1_pileOf 35 = .ok (.ireturn, 1) := by decide +kernel
theorem dX1_withNeighbours_0 : decode cX1_withNeighbours 0 = .ok (.iload_n 1, 1) := by decide +kernel
theorem dX1_withNeighbours_1 : decode cX1_withNeighbours 1 = .ok (.istore_n 2, 1) := by decide +kernel
theorem dX1_withNeighbours_2 : decode cX1_withNeighbours 2 = .ok (.iconst 0, 1) := by decide +kernel
theorem dX1_withNeighbours_3 : decode cX1_withNeighbours 3 = .ok (.istore_n 3, 1) := by decide +kernel
theorem dX1_withNeighbours_4 : decode cX1_withNeighbours 4 = .ok (.iload_n 3, 1) := by decide +kernel
theorem dX1_withNeighbours_5 : decode cX1_withNeighbours 5 = .ok (.bipush 16, 2) := by decide +kernel
theorem dX1_withNeighbours_7 : decode cX1_withNeighbours 7 = .ok (.if_icmp .ge 46, 3) := by decide +kernel
theorem dX1_withNeighbours_10 : decode cX1_withNeighbours 10 = .ok (.iload_n 2, 1) := by decide +kernel
theorem dX1_withNeighbours_11 : decode cX1_withNeighbours 11 = .ok (.iconst 1, 1) := by decide +kernel
theorem dX1_withNeighbours_12 : decode cX1_withNeighbours 12 = .ok (.iload_n 3, 1) := by decide +kernel
theorem dX1_withNeighbours_13 : decode cX1_withNeighbours 13 = .ok (.ishl, 1) := by decide +kernel
theorem dX1_withNeighbours_14 : decode cX1_withNeighbours 14 = .ok (.iand, 1) := by decide +kernel
theorem dX1_withNeighbours_15 : decode cX1_withNeighbours 15 = .ok (.ifCond .eq 15, 3) := by decide +kernel
theorem dX1_withNeighbours_18 : decode cX1_withNeighbours 18 = .ok (.iload_n 2, 1) := by decide +kernel
theorem dX1_withNeighbours_19 : decode cX1_withNeighbours 19 = .ok (.aload_n 0, 1) := by decide +kernel
theorem dX1_withNeighbours_20 : decode cX1_withNeighbours 20 = .ok (.getfield 18, 3) := by decide +kernel
theorem dX1_withNeighbours_23 : decode cX1_withNeighbours 23 = .ok (.iload_n 3, 1) := by decide +kernel
theorem dX1_withNeighbours_24 : decode cX1_withNeighbours 24 = .ok (.iaload, 1) := by decide +kernel
theorem dX1_withNeighbours_25 : decode cX1_withNeighbours 25 = .ok (.ior, 1) := by decide +kernel
theorem dX1_withNeighbours_26 : decode cX1_withNeighbours 26 = .ok (.istore_n 2, 1) := by decide +kernel
theorem dX1_withNeighbours_27 : decode cX1_withNeighbours 27 = .ok (.goto 20, 3) := by decide +kernel
theorem dX1_withNeighbours_30 : decode cX1_withNeighbours 30 = .ok (.iload_n 2, 1) := by decide +kernel
theorem dX1_withNeighbours_31 : decode cX1_withNeighbours 31 = .ok (.aload_n 0, 1) := by decide +kernel
theorem dX1_withNeighbours_32 : decode cX1_withNeighbours 32 = .ok (.getfield 18, 3) := by decide +kernel
theorem dX1_withNeighbours_35 : decode cX1_withNeighbours 35 = .ok (.iload_n 3, 1) := by decide +kernel
theorem dX1_withNeighbours_36 : decode cX1_withNeighbours 36 = .ok (.iaload, 1) := by decide +kernel
theorem dX1_withNeighbours_37 : decode cX1_withNeighbours 37 = .ok (.iand, 1) := by decide +kernel
theorem dX1_withNeighbours_38 : decode cX1_withNeighbours 38 = .ok (.ifCond .eq 9, 3) := by decide +kernel
theorem dX1_withNeighbours_41 : decode cX1_withNeighbours 41 = .ok (.iload_n 2, 1) := by decide +kernel
theorem dX1_withNeighbours_42 : decode cX1_withNeighbours 42 = .ok (.iconst 1, 1) := by decide +kernel
theorem dX1_withNeighbours_43 : decode cX1_withNeighbours 43 = .ok (.iload_n 3, 1) := by decide +kernel
theorem dX1_withNeighbours_44 : decode cX1_withNeighbours 44 = .ok (.ishl, 1) := by decide +kernel
theorem dX1_withNeighbours_45 : decode cX1_withNeighbours 45 = .ok (.ior, 1) := by decide +kernel
theorem dX1_withNeighbours_46 : decode cX1_withNeighbours 46 = .ok (.istore_n 2, 1) := by decide +kernel
theorem dX1_withNeighbours_47 : decode cX1_withNeighbours 47 = .ok (.iinc 3 1, 3) := by decide +kernel
theorem dX1_withNeighbours_50 : decode cX1_withNeighbours 50 = .ok (.goto (-46), 3) := by decide +kernel
theorem dX1_withNeighbours_53 : decode cX1_withNeighbours 53 = .ok (.iload_n 2, 1) := by decide +kernel
theorem dX1_withNeighbours_54 : decode cX1_withNeighbours 54 = .ok (.ireturn, 1) := by decide +kernel
theorem dX1_freeOf_0 : decode cX1_freeOf 0 = .ok (.sipush 4369, 3) := by decide +kernel
theorem dX1_freeOf_3 : decode cX1_freeOf 3 = .ok (.iload_n 1, 1) := by decide +kernel
theorem dX1_freeOf_4 : decode cX1_freeOf 4 = .ok (.ishl, 1) := by decide +kernel
theorem dX1_freeOf_5 : decode cX1_freeOf 5 = .ok (.aload_n 0, 1) := by decide +kernel
theorem dX1_freeOf_6 : decode cX1_freeOf 6 = .ok (.getfield 25, 3) := by decide +kernel
theorem dX1_freeOf_9 : decode cX1_freeOf 9 = .ok (.aload_n 0, 1) := by decide +kernel
theorem dX1_freeOf_10 : decode cX1_freeOf 10 = .ok (.getfield 28, 3) := by decide +kernel
theorem dX1_freeOf_13 : decode cX1_freeOf 13 = .ok (.ior, 1) := by decide +kernel
theorem dX1_freeOf_14 : decode cX1_freeOf 14 = .ok (.iconst (-1), 1) := by decide +kernel
theorem dX1_freeOf_15 : decode cX1_freeOf 15 = .ok (.ixor, 1) := by decide +kernel
theorem dX1_freeOf_16 : decode cX1_freeOf 16 = .ok (.iand, 1) := by decide +kernel
theorem dX1_freeOf_17 : decode cX1_freeOf 17 = .ok (.ireturn, 1) := by decide +kernel
theorem dX1_isAllIn_0 : decode cX1_isAllIn 0 = .ok (.sipush 4369, 3) := by decide +kernel
theorem dX1_isAllIn_3 : decode cX1_isAllIn 3 = .ok (.iload_n 1, 1) := by decide +kernel
theorem dX1_isAllIn_4 : decode cX1_isAllIn 4 = .ok (.ishl, 1) := by decide +kernel
theorem dX1_isAllIn_5 : decode cX1_isAllIn 5 = .ok (.istore_n 2, 1) := by decide +kernel
theorem dX1_isAllIn_6 : decode cX1_isAllIn 6 = .ok (.aload_n 0, 1) := by decide +kernel
theorem dX1_isAllIn_7 : decode cX1_isAllIn 7 = .ok (.getfield 25, 3) := by decide +kernel
theorem dX1_isAllIn_10 : decode cX1_isAllIn 10 = .ok (.iload_n 2, 1) := by decide +kernel
theorem dX1_isAllIn_11 : decode cX1_isAllIn 11 = .ok (.iand, 1) := by decide +kernel
theorem dX1_isAllIn_12 : decode cX1_isAllIn 12 = .ok (.iload_n 2, 1) := by decide +kernel
theorem dX1_isAllIn_13 : decode cX1_isAllIn 13 = .ok (.if_icmp .ne 7, 3) := by decide +kernel
theorem dX1_isAllIn_16 : decode cX1_isAllIn 16 = .ok (.iconst 1, 1) := by decide +kernel
theorem dX1_isAllIn_17 : decode cX1_isAllIn 17 = .ok (.goto 4, 3) := by decide +kernel
theorem dX1_isAllIn_20 : decode cX1_isAllIn 20 = .ok (.iconst 0, 1) := by decide +kernel
theorem dX1_isAllIn_21 : decode cX1_isAllIn 21 = .ok (.ireturn, 1) := by decide +kernel
theorem dX1_isAnyoneAllIn_0 : decode cX1_isAnyoneAllIn 0 = .ok (.aload_n 0, 1) := by decide +kernel
theorem dX1_isAnyoneAllIn_1 : decode cX1_isAnyoneAllIn 1 = .ok (.getfield 25, 3) := by decide +kernel
theorem dX1_isAnyoneAllIn_4 : decode cX1_isAnyoneAllIn 4 = .ok (.aload_n 0, 1) := by decide +kernel
theorem dX1_isAnyoneAllIn_5 : decode cX1_isAnyoneAllIn 5 = .ok (.getfield 25, 3) := by decide +kernel
theorem dX1_isAnyoneAllIn_8 : decode cX1_isAnyoneAllIn 8 = .ok (.iconst 4, 1) := by decide +kernel
theorem dX1_isAnyoneAllIn_9 : decode cX1_isAnyoneAllIn 9 = .ok (.ishr, 1) := by decide +kernel
theorem dX1_isAnyoneAllIn_10 : decode cX1_isAnyoneAllIn 10 = .ok (.iand, 1) := by decide +kernel
theorem dX1_isAnyoneAllIn_11 : decode cX1_isAnyoneAllIn 11 = .ok (.aload_n 0, 1) := by decide +kernel
theorem dX1_isAnyoneAllIn_12 : decode cX1_isAnyoneAllIn 12 = .ok (.getfield 25, 3) := by decide +kernel
theorem dX1_isAnyoneAllIn_15 : decode cX1_isAnyoneAllIn 15 = .ok (.bipush 8, 2) := by decide +kernel
theorem dX1_isAnyoneAllIn_17 : decode cX1_isAnyoneAllIn 17 = .ok (.ishr, 1) := by decide +kernel
theorem dX1_isAnyoneAllIn_18 : decode cX1_isAnyoneAllIn 18 = .ok (.iand, 1) := by decide +kernel
theorem dX1_isAnyoneAllIn_19 : decode cX1_isAnyoneAllIn 19 = .ok (.aload_n 0, 1) := by decide +kernel
theorem dX1_isAnyoneAllIn_20 : decode cX1_isAnyoneAllIn 20 = .ok (.getfield 25, 3) := by decide +kernel
theorem dX1_isAnyoneAllIn_23 : decode cX1_isAnyoneAllIn 23 = .ok (.bipush 12, 2) := by decide +kernel
theorem dX1_isAnyoneAllIn_25 : decode cX1_isAnyoneAllIn 25 = .ok (.ishr, 1) := by decide +kernel
theorem dX1_isAnyoneAllIn_26 : decode cX1_isAnyoneAllIn 26 = .ok (.iand, 1) := by decide +kernel
theorem dX1_isAnyoneAllIn_27 : decode cX1_isAnyoneAllIn 27 = .ok (.ifCond .eq 7, 3) := by decide +kernel
theorem dX1_isAnyoneAllIn_30 : decode cX1_isAnyoneAllIn 30 = .ok (.iconst 1, 1) := by decide +kernel
theorem dX1_isAnyoneAllIn_31 : decode cX1_isAnyoneAllIn 31 = .ok (.goto 4, 3) := by decide +kernel
theorem dX1_isAnyoneAllIn_34 : decode cX1_isAnyoneAllIn 34 = .ok (.iconst 0, 1) := by decide +kernel
theorem dX1_isAnyoneAllIn_35 : decode cX1_isAnyoneAllIn 35 = .ok (.ireturn, 1) := by decide +kernel
theorem dX1_scoreOf_0 : decode cX1_scoreOf 0 = .ok (.sipush 4369, 3) := by decide +kernel
theorem dX1_scoreOf_3 : decode cX1_scoreOf 3 = .ok (.iload_n 1, 1) := by decide +kernel
theorem dX1_scoreOf_4 : decode cX1_scoreOf 4 = .ok (.ishl, 1) := by decide +kernel
theorem dX1_scoreOf_5 : decode cX1_scoreOf 5 = .ok (.istore_n 2, 1) := by decide +kernel
theorem dX1_scoreOf_6 : decode cX1_scoreOf 6 = .ok (.iconst 3, 1) := by decide +kernel
theorem dX1_scoreOf_7 : decode cX1_scoreOf 7 = .ok (.aload_n 0, 1) := by decide +kernel
theorem dX1_scoreOf_8 : decode cX1_scoreOf 8 = .ok (.getfield 25, 3) := by decide +kernel
theorem dX1_scoreOf_11 : decode cX1_scoreOf 11 = .ok (.iload_n 2, 1) := by decide +kernel
theorem dX1_scoreOf_12 : decode cX1_scoreOf 12 = .ok (.iand, 1) := by decide +kernel
theorem dX1_scoreOf_13 : decode cX1_scoreOf 13 = .ok (.invokestatic 75, 3) := by decide +kernel
theorem dX1_scoreOf_16 : decode cX1_scoreOf 16 = .ok (.imul, 1) := by decide +kernel
theorem dX1_scoreOf_17 : decode cX1_scoreOf 17 = .ok (.aload_n 0, 1) := by decide +kernel
theorem dX1_scoreOf_18 : decode cX1_scoreOf 18 = .ok (.iload_n 1, 1) := by decide +kernel
theorem dX1_scoreOf_19 : decode cX1_scoreOf 19 = .ok (.invokevirtual 80, 3) := by decide +kernel
theorem dX1_scoreOf_22 : decode cX1_scoreOf 22 = .ok (.aload_n 0, 1) := by decide +kernel
theorem dX1_scoreOf_23 : decode cX1_scoreOf 23 = .ok (.getfield 21, 3) := by decide +kernel
theorem dX1_scoreOf_26 : decode cX1_scoreOf 26 = .ok (.iand, 1) := by decide +kernel
theorem dX1_scoreOf_27 : decode cX1_scoreOf 27 = .ok (.invokestatic 75, 3) := by decide +kernel
theorem dX1_scoreOf_30 : decode cX1_scoreOf 30 = .ok (.iadd, 1) := by decide +kernel
theorem dX1_scoreOf_31 : decode cX1_scoreOf 31 = .ok (.ireturn, 1) := by decide +kernel
theorem dX2_init_0 : decode cX2_init 0 = .ok (.aload_n 0, 1) := by decide +kernel
theorem dX2_init_1 : decode cX2_init 1 = .ok (.invokespecial 3, 3) := by decide +kernel
theorem dX2_init_4 : decode cX2_init 4 = .ok (.aload_n 0, 1) := by decide +kernel
theorem dX2_init_5 : decode cX2_init 5 = .ok (.new 9, 3) := by decide +kernel
theorem dX2_init_8 : decode cX2_init 8 = .ok (.dup, 1) := by decide +kernel
theorem dX2_init_9 : decode cX2_init 9 = .ok (.invokespecial 11, 3) := by decide +kernel
theorem dX2_init_12 : decode cX2_init 12 = .ok (.putfield 12, 3) := by decide +kernel
theorem dX2_init_15 : decode cX2_init 15 = .ok (.aload_n 0, 1) := by decide +kernel
theorem dX2_init_16 : decode cX2_init 16 = .ok (.iconst 0, 1) := by decide +kernel
theorem dX2_init_17 : decode cX2_init 17 = .ok (.putfield 18, 3) := by decide +kernel
theorem dX2_init_20 : decode cX2_init 20 = .ok (.aload_n 0, 1) := by decide +kernel
theorem dX2_init_21 : decode cX2_init 21 = .ok (.iconst 0, 1) := by decide +kernel
theorem dX2_init_22 : decode cX2_init 22 = .ok (.putfield 22, 3) := by decide +kernel
theorem dX2_init_25 : decode cX2_init 25 = .ok (.aload_n 0, 1) := by decide +kernel
theorem dX2_init_26 : decode cX2_init 26 = .ok (.bipush 100, 2) := by decide +kernel
theorem dX2_init_28 : decode cX2_init 28 = .ok (.putfield 25, 3) := by decide +kernel
theorem dX2_init_31 : decode cX2_init 31 = .ok (.aload_n 0, 1) := by decide +kernel
theorem dX2_init_32 : decode cX2_init 32 = .ok (.lconst 1, 1) := by decide +kernel
theorem dX2_init_33 : decode cX2_init 33 = .ok (.putfield 28, 3) := by decide +kernel
theorem dX2_init_36 : decode cX2_init 36 = .ok (.aload_n 0, 1) := by decide +kernel
theorem dX2_init_37 : decode cX2_init 37 = .ok (.iconst 0, 1) := by decide +kernel
theorem dX2_init_38 : decode cX2_init 38 = .ok (.putfield 32, 3) := by decide +kernel
theorem dX2_init_41 : decode cX2_init 41 = .ok (.aload_n 0, 1) := by decide +kernel
theorem dX2_init_42 : decode cX2_init 42 = .ok (.iconst 0, 1) := by decide +kernel
theorem dX2_init_43 : decode cX2_init 43 = .ok (.putfield 35, 3) := by decide +kernel
theorem dX2_init_46 : decode cX2_init 46 = .ok (.aload_n 0, 1) := by decide +kernel
theorem dX2_init_47 : decode cX2_init 47 = .ok (.iconst 0, 1) := by decide +kernel
theorem dX2_init_48 : decode cX2_init 48 = .ok (.putfield 38, 3) := by decide +kernel
theorem dX2_init_51 : decode cX2_init 51 = .ok (.return_, 1) := by decide +kernel
theorem dX2_beginAnew_0 : decode cX2_beginAnew 0 = .ok (.aload_n 0, 1) := by decide +kernel
theorem dX2_beginAnew_1 : decode cX2_beginAnew 1 = .ok (.getfield 12, 3) := by decide +kernel
theorem dX2_beginAnew_4 : decode cX2_beginAnew 4 = .ok (.invokevirtual 41, 3) := by decide +kernel
theorem dX2_beginAnew_7 : decode cX2_beginAnew 7 = .ok (.aload_n 0, 1) := by decide +kernel
theorem dX2_beginAnew_8 : decode cX2_beginAnew 8 = .ok (.iconst 0, 1) := by decide +kernel
theorem dX2_beginAnew_9 : decode cX2_beginAnew 9 = .ok (.putfield 32, 3) := by decide +kernel
theorem dX2_beginAnew_12 : decode cX2_beginAnew 12 = .ok (.aload_n 0, 1) := by decide +kernel
theorem dX2_beginAnew_13 : decode cX2_beginAnew 13 = .ok (.iconst 0, 1) := by decide +kernel
theorem dX2_beginAnew_14 : decode cX2_beginAnew 14 = .ok (.putfield 35, 3) := by decide +kernel
theorem dX2_beginAnew_17 : decode cX2_beginAnew 17 = .ok (.aload_n 0, 1) := by decide +kernel
theorem dX2_beginAnew_18 : decode cX2_beginAnew 18 = .ok (.iconst 0, 1) := by decide +kernel
theorem dX2_beginAnew_19 : decode cX2_beginAnew 19 = .ok (.putfield 38, 3) := by decide +kernel
theorem dX2_beginAnew_22 : decode cX2_beginAnew 22 = .ok (.return_, 1) := by decide +kernel
theorem dX2_copyFrom_0 : decode cX2_copyFrom 0 = .ok (.aload_n 0, 1) := by decide +kernel
theorem dX2_copyFrom_1 : decode cX2_copyFrom 1 = .ok (.getfield 12, 3) := by decide +kernel
theorem dX2_copyFrom_4 : decode cX2_copyFrom 4 = .ok (.aload_n 1, 1) := by decide +kernel
theorem dX2_copyFrom_5 : decode cX2_copyFrom 5 = .ok (.getfield 12, 3) := by decide +kernel
theorem dX2_copyFrom_8 : decode cX2_copyFrom 8 = .ok (.invokevirtual 44, 3) := by decide +kernel
theorem dX2_copyFrom_11 : decode cX2_copyFrom 11 = .ok (.aload_n 0, 1) := by decide +kernel
theorem dX2_copyFrom_12 : decode cX2_copyFrom 12 = .ok (.aload_n 1, 1) := by decide +kernel
theorem dX2_copyFrom_13 : decode cX2_copyFrom 13 = .ok (.getfield 18, 3) := by decide +kernel
theorem dX2_copyFrom_16 : decode cX2_copyFrom 16 = .ok (.putfield 18, 3) := by decide +kernel
theorem dX2_copyFrom_19 : decode cX2_copyFrom 19 = .ok (.aload_n 0, 1) := by decide +kernel
theorem dX2_copyFrom_20 : decode cX2_copyFrom 20 = .ok (.aload_n 1, 1) := by decide +kernel
theorem dX2_copyFrom_21 : decode cX2_copyFrom 21 = .ok (.getfield 22, 3) := by decide +kernel
theorem dX2_copyFrom_24 : decode cX2_copyFrom 24 = .ok (.putfield 22, 3) := by decide +kernel
theorem dX2_copyFrom_27 : decode cX2_copyFrom 27 = .ok (.aload_n 0, 1) := by decide +kernel
theorem dX2_copyFrom_28 : decode cX2_copyFrom 28 = .ok (.aload_n 1, 1) := by decide +kernel
theorem dX2_copyFrom_29 : decode cX2_copyFrom 29 = .ok (.getfield 25, 3) := by decide +kernel
theorem dX2_copyFrom_32 : decode cX2_copyFrom 32 = .ok (.putfield 25, 3) := by decide +kernel
theorem dX2_copyFrom_35 : decode cX2_copyFrom 35 = .ok (.aload_n 0, 1) := by decide +kernel
theorem dX2_copyFrom_36 : decode cX2_copyFrom 36 = .ok (.aload_n 1, 1) := by decide +kernel
theorem dX2_copyFrom_37 : decode cX2_copyFrom 37 = .ok (.getfield 28, 3) := by decide +kernel
theorem dX2_copyFrom_40 : decode cX2_copyFrom 40 = .ok (.putfield 28, 3) := by decide +kernel
theorem dX2_copyFrom_43 : decode cX2_copyFrom 43 = .ok (.aload_n 0, 1) := by decide +kernel
theorem dX2_copyFrom_44 : decode cX2_copyFrom 44 = .ok (.aload_n 1, 1) := by decide +kernel
theorem dX2_copyFrom_45 : decode cX2_copyFrom 45 = .ok (.getfield 32, 3) := by decide +kernel
theorem dX2_copyFrom_48 : decode cX2_copyFrom 48 = .ok (.putfield 32, 3) := by decide +kernel
theorem dX2_copyFrom_51 : decode cX2_copyFrom 51 = .ok (.aload_n 0, 1) := by decide +kernel
theorem dX2_copyFrom_52 : decode cX2_copyFrom 52 = .ok (.aload_n 1, 1) := by decide +kernel
theorem dX2_copyFrom_53 : decode cX2_copyFrom 53 = .ok (.getfield 35, 3) := by decide +kernel
theorem dX2_copyFrom_56 : decode cX2_copyFrom 56 = .ok (.putfield 35, 3) := by decide +kernel
theorem dX2_copyFrom_59 : decode cX2_copyFrom 59 = .ok (.aload_n 0, 1) := by decide +kernel
theorem dX2_copyFrom_60 : decode cX2_copyFrom 60 = .ok (.aload_n 1, 1) := by decide +kernel
theorem dX2_copyFrom_61 : decode cX2_copyFrom 61 = .ok (.getfield 38, 3) := by decide +kernel
theorem dX2_copyFrom_64 : decode cX2_copyFrom 64 = .ok (.putfield 38, 3) := by decide +kernel
theorem dX2_copyFrom_67 : decode cX2_copyFrom 67 = .ok (.return_, 1) := by decide +kernel
theorem dX2_changeRough_0 : decode cX2_changeRough 0 = .ok (.aload_n 0, 1) := by decide +kernel
theorem dX2_changeRough_1 : decode cX2_changeRough 1 = .ok (.getfield 18, 3) := by decide +kernel
theorem dX2_changeRough_4 : decode cX2_changeRough 4 = .ok (.istore_n 2, 1) := by decide +kernel
theorem dX2_changeRough_5 : decode cX2_changeRough 5 = .ok (.aload_n 0, 1) := by decide +kernel
theorem dX2_changeRough_6 : decode cX2_changeRough 6 = .ok (.iload_n 1, 1) := by decide +kernel
theorem dX2_changeRough_7 : decode cX2_changeRough 7 = .ok (.putfield 18, 3) := by decide +kernel
theorem dX2_changeRough_10 : decode cX2_changeRough 10 = .ok (.iload_n 2, 1) := by decide +kernel
theorem dX2_changeRough_11 : decode cX2_changeRough 11 = .ok (.ireturn, 1) := by decide +kernel
theorem dX2_changeRun_0 : decode cX2_changeRun 0 = .ok (.aload_n 0, 1) := by decide +kernel
theorem dX2_changeRun_1 : decode cX2_changeRun 1 = .ok (.getfield 22, 3) := by decide +kernel
theorem dX2_changeRun_4 : decode cX2_changeRun 4 = .ok (.istore_n 2, 1) := by decide +kernel
theorem dX2_changeRun_5 : decode cX2_changeRun 5 = .ok (.aload_n 0, 1) := by decide +kernel
theorem dX2_changeRun_6 : decode cX2_changeRun 6 = .ok (.iload_n 1, 1) := by decide +kernel
theorem dX2_changeRun_7 : decode cX2_changeRun 7 = .ok (.putfield 22, 3) := by decide +kernel
theorem dX2_changeRun_10 : decode cX2_changeRun 10 = .ok (.iload_n 2, 1) := by decide +kernel
theorem dX2_changeRun_11 : decode cX2_changeRun 11 = .ok (.ireturn, 1) := by decide +kernel
theorem dX2_changeTime_0 : decode cX2_changeTime 0 = .ok (.iload_n 1, 1) := by decide +kernel
theorem dX2_changeTime_1 : decode cX2_changeTime 1 = .ok (.aload_n 0, 1) := by decide +kernel
theorem dX2_changeTime_2 : decode cX2_changeTime 2 = .ok (.getfield 35, 3) := by decide +kernel
theorem dX2_changeTime_5 : decode cX2_changeTime 5 = .ok (.if_icmp .ge 6, 3) := by decide +kernel
theorem dX2_changeTime_8 : decode cX2_changeTime 8 = .ok (.bipush (-2), 2) := by decide +kernel
theorem dX2_changeTime_10 : decode cX2_changeTime 10 = .ok (.ireturn, 1) := by decide +kernel
theorem dX2_changeTime_11 : decode cX2_changeTime 11 = .ok (.aload_n 0, 1) := by decide +kernel
theorem dX2_changeTime_12 : decode cX2_changeTime 12 = .ok (.getfield 25, 3) := by decide +kernel
theorem dX2_changeTime_15 : decode cX2_changeTime 15 = .ok (.istore_n 2, 1) := by decide +kernel
theorem dX2_changeTime_16 : decode cX2_changeTime 16 = .ok (.aload_n 0, 1) := by decide +kernel
theorem dX2_changeTime_17 : decode cX2_changeTime 17 = .ok (.iload_n 1, 1) := by decide +kernel
theorem dX2_changeTime_18 : decode cX2_changeTime 18 = .ok (.putfield 25, 3) := by decide +kernel
theorem dX2_changeTime_21 : decode cX2_changeTime 21 = .ok (.aload_n 0, 1) := by decide +kernel
theorem dX2_changeTime_22 : decode cX2_changeTime 22 = .ok (.invokevirtual 48, 3) := by decide +kernel
theorem dX2_changeTime_25 : decode cX2_changeTime 25 = .ok (.ifCond .ne 12, 3) := by decide +kernel
theorem dX2_changeTime_28 : decode cX2_changeTime 28 = .ok (.aload_n 0, 1) := by decide +kernel
theorem dX2_changeTime_29 : decode cX2_changeTime 29 = .ok (.iconst 0, 1) := by decide +kernel
theorem dX2_changeTime_30 : decode cX2_changeTime 30 = .ok (.putfield 38, 3) := by decide +kernel
theorem dX2_changeTime_33 : decode cX2_changeTime 33 = .ok (.aload_n 0, 1) := by decide +kernel
theorem dX2_changeTime_34 : decode cX2_changeTime 34 = .ok (.invokevirtual 52, 3) := by decide +kernel
theorem dX2_changeTime_37 : decode cX2_changeTime 37 = .ok (.iload_n 2, 1) := by decide +kernel
theorem dX2_changeTime_38 : decode cX2_changeTime 38 = .ok (.ireturn, 1) := by decide +kernel
theorem dX2_isTimeCome_0 : decode cX2_isTimeCome 0 = .ok (.aload_n 0, 1) := by decide +kernel
theorem dX2_isTimeCome_1 : decode cX2_isTimeCome 1 = .ok (.getfield 35, 3) := by decide +kernel
theorem dX2_isTimeCome_4 : decode cX2_isTimeCome 4 = .ok (.aload_n 0, 1) := by decide +kernel
theorem dX2_isTimeCome_5 : decode cX2_isTimeCome 5 = .ok (.getfield 25, 3) := by decide +kernel
theorem dX2_isTimeCome_8 : decode cX2_isTimeCome 8 = .ok (.if_icmp .lt 7, 3) := by decide +kernel
theorem dX2_isTimeCome_11 : decode cX2_isTimeCome 11 = .ok (.iconst 1, 1) := by decide +kernel
theorem dX2_isTimeCome_12 : decode cX2_isTimeCome 12 = .ok (.goto 4, 3) := by decide +kernel
theorem dX2_isTimeCome_15 : decode cX2_isTimeCome 15 = .ok (.iconst 0, 1) := by decide +kernel
theorem dX2_isTimeCome_16 : decode cX2_isTimeCome 16 = .ok (.ireturn, 1) := by decide +kernel
theorem dX2_roundsLeft_0 : decode cX2_roundsLeft 0 = .ok (.aload_n 0, 1) := by decide +kernel
theorem dX2_roundsLeft_1 : decode cX2_roundsLeft 1 = .ok (.invokevirtual 48, 3) := by decide +kernel
theorem dX2_roundsLeft_4 : decode cX2_roundsLeft 4 = .ok (.ifCond .ne 6, 3) := by decide +kernel
theorem dX2_roundsLeft_7 : decode cX2_roundsLeft 7 = .ok (.bipush (-4), 2) := by decide +kernel
theorem dX2_roundsLeft_9 : decode cX2_roundsLeft 9 = .ok (.ireturn, 1) := by decide +kernel
theorem dX2_roundsLeft_10 : decode cX2_roundsLeft 10 = .ok (.aload_n 0, 1) := by decide +kernel
theorem dX2_roundsLeft_11 : decode cX2_roundsLeft 11 = .ok (.getfield 38, 3) := by decide +kernel
theorem dX2_roundsLeft_14 : decode cX2_roundsLeft 14 = .ok (.ifCond .ne 7, 3) := by decide +kernel
theorem dX2_roundsLeft_17 : decode cX2_roundsLeft 17 = .ok (.iconst 5, 1) := by decide +kernel
theorem dX2_roundsLeft_18 : decode cX2_roundsLeft 18 = .ok (.goto 10, 3) := by decide +kernel
theorem dX2_roundsLeft_21 : decode cX2_roundsLeft 21 = .ok (.bipush 6, 2) := by decide +kernel
theorem dX2_roundsLeft_23 : decode cX2_roundsLeft 23 = .ok (.aload_n 0, 1) := by decide +kernel
theorem dX2_roundsLeft_24 : decode cX2_roundsLeft 24 = .ok (.getfield 38, 3) := by decide +kernel
theorem dX2_roundsLeft_27 : decode cX2_roundsLeft 27 = .ok (.isub, 1) := by decide +kernel
theorem dX2_roundsLeft_28 : decode cX2_roundsLeft 28 = .ok (.ireturn, 1) := by decide +kernel
theorem dX2_isOver_0 : decode cX2_isOver 0 = .ok (.aload_n 0, 1) := by decide +kernel
theorem dX2_isOver_1 : decode cX2_isOver 1 = .ok (.getfield 38, 3) := by decide +kernel
theorem dX2_isOver_4 : decode cX2_isOver 4 = .ok (.iconst 5, 1) := by decide +kernel
theorem dX2_isOver_5 : decode cX2_isOver 5 = .ok (.if_icmp .gt 13, 3) := by decide +kernel
theorem dX2_isOver_8 : decode cX2_isOver 8 = .ok (.aload_n 0, 1) := by decide +kernel
theorem dX2_isOver_9 : decode cX2_isOver 9 = .ok (.getfield 12, 3) := by decide +kernel
theorem dX2_isOver_12 : decode cX2_isOver 12 = .ok (.invokevirtual 55, 3) := by decide +kernel
theorem dX2_isOver_15 : decode cX2_isOver 15 = .ok (.ifCond .eq 7, 3) := by decide +kernel
theorem dX2_isOver_18 : decode cX2_isOver 18 = .ok (.iconst 1, 1) := by decide +kernel
theorem dX2_isOver_19 : decode cX2_isOver 19 = .ok (.goto 4, 3) := by decide +kernel
theorem dX2_isOver_22 : decode cX2_isOver 22 = .ok (.iconst 0, 1) := by decide +kernel
theorem dX2_isOver_23 : decode cX2_isOver 23 = .ok (.ireturn, 1) := by decide +kernel
theorem dX2_mayPlay_0 : decode cX2_mayPlay 0 = .ok (.iload_n 1, 1) := by decide +kernel
theorem dX2_mayPlay_1 : decode cX2_mayPlay 1 = .ok (.invokestatic 58, 3) := by decide +kernel
theorem dX2_mayPlay_4 : decode cX2_mayPlay 4 = .ok (.aload_n 0, 1) := by decide +kernel
theorem dX2_mayPlay_5 : decode cX2_mayPlay 5 = .ok (.getfield 32, 3) := by decide +kernel
theorem dX2_mayPlay_8 : decode cX2_mayPlay 8 = .ok (.if_icmp .ne 25, 3) := by decide +kernel
theorem dX2_mayPlay_11 : decode cX2_mayPlay 11 = .ok (.aload_n 0, 1) := by decide +kernel
theorem dX2_mayPlay_12 : decode cX2_mayPlay 12 = .ok (.getfield 12, 3) := by decide +kernel
theorem dX2_mayPlay_15 : decode cX2_mayPlay 15 = .ok (.iload_n 1, 1) := by decide +kernel
theorem dX2_mayPlay_16 : decode cX2_mayPlay 16 = .ok (.invokevirtual 62, 3) := by decide +kernel
theorem dX2_mayPlay_19 : decode cX2_mayPlay 19 = .ok (.ifCond .eq 14, 3) := by decide +kernel
theorem dX2_mayPlay_22 : decode cX2_mayPlay 22 = .ok (.aload_n 0, 1) := by decide +kernel
theorem dX2_mayPlay_23 : decode cX2_mayPlay 23 = .ok (.invokevirtual 66, 3) := by decide +kernel
theorem dX2_mayPlay_26 : decode cX2_mayPlay 26 = .ok (.ifCond .ne 7, 3) := by decide +kernel
theorem dX2_mayPlay_29 : decode cX2_mayPlay 29 = .ok (.iconst 1, 1) := by decide +kernel
theorem dX2_mayPlay_30 : decode cX2_mayPlay 30 = .ok (.goto 4, 3) := by decide +kernel
theorem dX2_mayPlay_33 : decode cX2_mayPlay 33 = .ok (.iconst 0, 1) := by decide +kernel
theorem dX2_mayPlay_34 : decode cX2_mayPlay 34 = .ok (.ireturn, 1) := by decide +kernel
theorem dX2_playShot_0 : decode cX2_playShot 0 = .ok (.aload_n 0, 1) := by decide +kernel
theorem dX2_playShot_1 : decode cX2_playShot 1 = .ok (.getfield 12, 3) := by decide +kernel
theorem dX2_playShot_4 : decode cX2_playShot 4 = .ok (.getfield 69, 3) := by decide +kernel
theorem dX2_playShot_7 : decode cX2_playShot 7 = .ok (.iload_n 1, 1) := by decide +kernel
theorem dX2_playShot_8 : decode cX2_playShot 8 = .ok (.iaload, 1) := by decide +kernel
theorem dX2_playShot_9 : decode cX2_playShot 9 = .ok (.istore 4, 2) := by decide +kernel
theorem dX2_playShot_11 : decode cX2_playShot 11 = .ok (.aload_n 0, 1) := by decide +kernel
theorem dX2_playShot_12 : decode cX2_playShot 12 = .ok (.getfield 12, 3) := by decide +kernel
theorem dX2_playShot_15 : decode cX2_playShot 15 = .ok (.getfield 73, 3) := by decide +kernel
theorem dX2_playShot_18 : decode cX2_playShot 18 = .ok (.iload_n 1, 1) := by decide +kernel
theorem dX2_playShot_19 : decode cX2_playShot 19 = .ok (.iaload, 1) := by decide +kernel
theorem dX2_playShot_20 : decode cX2_playShot 20 = .ok (.istore 5, 2) := by decide +kernel
theorem dX2_playShot_22 : decode cX2_playShot 22 = .ok (.iload 4, 2) := by decide +kernel
theorem dX2_playShot_24 : decode cX2_playShot 24 = .ok (.iload 5, 2) := by decide +kernel
theorem dX2_playShot_26 : decode cX2_playShot 26 = .ok (.iload_n 2, 1) := by decide +kernel
theorem dX2_playShot_27 : decode cX2_playShot 27 = .ok (.iload_n 3, 1) := by decide +kernel
theorem dX2_playShot_28 : decode cX2_playShot 28 = .ok (.invokestatic 76, 3) := by decide +kernel
theorem dX2_playShot_31 : decode cX2_playShot 31 = .ok (.bipush 8, 2) := by decide +kernel
theorem dX2_playShot_33 : decode cX2_playShot 33 = .ok (.idiv, 1) := by decide +kernel
theorem dX2_playShot_34 : decode cX2_playShot 34 = .ok (.iload_n 1, 1) := by decide +kernel
theorem dX2_playShot_35 : decode cX2_playShot 35 = .ok (.invokestatic 80, 3) := by decide +kernel
theorem dX2_playShot_38 : decode cX2_playShot 38 = .ok (.iadd, 1) := by decide +kernel
theorem dX2_playShot_39 : decode cX2_playShot 39 = .ok (.iconst 1, 1) := by decide +kernel
theorem dX2_playShot_40 : decode cX2_playShot 40 = .ok (.isub, 1) := by decide +kernel
theorem dX2_playShot_41 : decode cX2_playShot 41 = .ok (.aload_n 0, 1) := by decide +kernel
theorem dX2_playShot_42 : decode cX2_playShot 42 = .ok (.getfield 18, 3) := by decide +kernel
theorem dX2_playShot_45 : decode cX2_playShot 45 = .ok (.iadd, 1) := by decide +kernel
theorem dX2_playShot_46 : decode cX2_playShot 46 = .ok (.istore 6, 2) := by decide +kernel
theorem dX2_playShot_48 : decode cX2_playShot 48 = .ok (.iload_n 2, 1) := by decide +kernel
theorem dX2_playShot_49 : decode cX2_playShot 49 = .ok (.aload_n 0, 1) := by decide +kernel
theorem dX2_playShot_50 : decode cX2_playShot 50 = .ok (.iload 6, 2) := by decide +kernel
theorem dX2_playShot_52 : decode cX2_playShot 52 = .ok (.invokevirtual 83, 3) := by decide +kernel
theorem dX2_playShot_55 : decode cX2_playShot 55 = .ok (.iadd, 1) := by decide +kernel
theorem dX2_playShot_56 : decode cX2_playShot 56 = .ok (.istore 7, 2) := by decide +kernel
theorem dX2_playShot_58 : decode cX2_playShot 58 = .ok (.iload_n 3, 1) := by decide +kernel
theorem dX2_playShot_59 : decode cX2_playShot 59 = .ok (.aload_n 0, 1) := by decide +kernel
theorem dX2_playShot_60 : decode cX2_playShot 60 = .ok (.iload 6, 2) := by decide +kernel
theorem dX2_playShot_62 : decode cX2_playShot 62 = .ok (.invokevirtual 83, 3) := by decide +kernel
theorem dX2_playShot_65 : decode cX2_playShot 65 = .ok (.iadd, 1) := by decide +kernel
theorem dX2_playShot_66 : decode cX2_playShot 66 = .ok (.istore 8, 2) := by decide +kernel
theorem dX2_playShot_68 : decode cX2_playShot 68 = .ok (.iload 7, 2) := by decide +kernel
theorem dX2_playShot_70 : decode cX2_playShot 70 = .ok (.iload 8, 2) := by decide +kernel
theorem dX2_playShot_72 : decode cX2_playShot 72 = .ok (.invokestatic 86, 3) := by decide +kernel
theorem dX2_playShot_75 : decode cX2_playShot 75 = .ok (.istore 9, 2) := by decide +kernel
theorem dX2_playShot_77 : decode cX2_playShot 77 = .ok (.iload 9, 2) := by decide +kernel
theorem dX2_playShot_79 : decode cX2_playShot 79 = .ok (.ifCond .eq 18, 3) := by decide +kernel
theorem dX2_playShot_82 : decode cX2_playShot 82 = .ok (.aload_n 0, 1) := by decide +kernel
theorem dX2_playShot_83 : decode cX2_playShot 83 = .ok (.getfield 12, 3) := by decide +kernel
theorem dX2_playShot_86 : decode cX2_playShot 86 = .ok (.iload_n 1, 1) := by decide +kernel
theorem dX2_playShot_87 : decode cX2_playShot 87 = .ok (.bipush 41, 2) := by decide +kernel
theorem dX2_playShot_89 : decode cX2_playShot 89 = .ok (.bipush 41, 2) := by decide +kernel
theorem dX2_playShot_91 : decode cX2_playShot 91 = .ok (.invokevirtual 90, 3) := by decide +kernel
theorem dX2_playShot_94 : decode cX2_playShot 94 = .ok (.goto 55, 3) := by decide +kernel
theorem dX2_playShot_97 : decode cX2_playShot 97 = .ok (.iload 7, 2) := by decide +kernel
theorem dX2_playShot_99 : decode cX2_playShot 99 = .ok (.aload_n 0, 1) := by decide +kernel
theorem dX2_playShot_100 : decode cX2_playShot 100 = .ok (.getfield 22, 3) := by decide +kernel
theorem dX2_playShot_103 : decode cX2_playShot 103 = .ok (.iload_n 2, 1) := by decide +kernel
theorem dX2_playShot_104 : decode cX2_playShot 104 = .ok (.iload 4, 2) := by decide +kernel
theorem dX2_playShot_106 : decode cX2_playShot 106 = .ok (.isub, 1) := by decide +kernel
theorem dX2_playShot_107 : decode cX2_playShot 107 = .ok (.invokestatic 94, 3) := by decide +kernel
theorem dX2_playShot_110 : decode cX2_playShot 110 = .ok (.imul, 1) := by decide +kernel
theorem dX2_playShot_111 : decode cX2_playShot 111 = .ok (.iadd, 1) := by decide +kernel
theorem dX2_playShot_112 : decode cX2_playShot 112 = .ok (.istore 10, 2) := by decide +kernel
theorem dX2_playShot_114 : decode cX2_playShot 114 = .ok (.iload 8, 2) := by decide +kernel
theorem dX2_playShot_116 : decode cX2_playShot 116 = .ok (.aload_n 0, 1) := by decide +kernel
theorem dX2_playShot_117 : decode cX2_playShot 117 = .ok (.getfield 22, 3) := by decide +kernel
theorem dX2_playShot_120 : decode cX2_playShot 120 = .ok (.iload_n 3, 1) := by decide +kernel
theorem dX2_playShot_121 : decode cX2_playShot 121 = .ok (.iload 5, 2) := by decide +kernel
theorem dX2_playShot_123 : decode cX2_playShot 123 = .ok (.isub, 1) := by decide +kernel
theorem dX2_playShot_124 : decode cX2_playShot 124 = .ok (.invokestatic 94, 3) := by decide +kernel
theorem dX2_playShot_127 : decode cX2_playShot 127 = .ok (.imul, 1) := by decide +kernel
theorem dX2_playShot_128 : decode cX2_playShot 128 = .ok (.iadd, 1) := by decide +kernel
theorem dX2_playShot_129 : decode cX2_playShot 129 = .ok (.istore 11, 2) := by decide +kernel
theorem dX2_playShot_131 : decode cX2_playShot 131 = .ok (.aload_n 0, 1) := by decide +kernel
theorem dX2_playShot_132 : decode cX2_playShot 132 = .ok (.getfield 12, 3) := by decide +kernel
theorem dX2_playShot_135 : decode cX2_playShot 135 = .ok (.iload_n 1, 1) := by decide +kernel
theorem dX2_playShot_136 : decode cX2_playShot 136 = .ok (.iload 10, 2) := by decide +kernel
theorem dX2_playShot_138 : decode cX2_playShot 138 = .ok (.invokestatic 97, 3) := by decide +kernel
theorem dX2_playShot_141 : decode cX2_playShot 141 = .ok (.iload 11, 2) := by decide +kernel
theorem dX2_playShot_143 : decode cX2_playShot 143 = .ok (.invokestatic 97, 3) := by decide +kernel
theorem dX2_playShot_146 : decode cX2_playShot 146 = .ok (.invokevirtual 90, 3) := by decide +kernel
theorem dX2_playShot_149 : decode cX2_playShot 149 = .ok (.aload_n 0, 1) := by decide +kernel
theorem dX2_playShot_150 : decode cX2_playShot 150 = .ok (.iload 9, 2) := by decide +kernel
theorem dX2_playShot_152 : decode cX2_playShot 152 = .ok (.invokevirtual 100, 3) := by decide +kernel
theorem dX2_playShot_155 : decode cX2_playShot 155 = .ok (.iload 9, 2) := by decide +kernel
theorem dX2_playShot_157 : decode cX2_playShot 157 = .ok (.ireturn, 1) := by decide +kernel
theorem dX2_blowApart_0 : decode cX2_blowApart 0 = .ok (.iconst 0, 1) := by decide +kernel
theorem dX2_blowApart_1 : decode cX2_blowApart 1 = .ok (.istore_n 2, 1) := by decide +kernel
theorem dX2_blowApart_2 : decode cX2_blowApart 2 = .ok (.iload_n 2, 1) := by decide +kernel
theorem dX2_blowApart_3 : decode cX2_blowApart 3 = .ok (.bipush 16, 2) := by decide +kernel
theorem dX2_blowApart_5 : decode cX2_blowApart 5 = .ok (.if_icmp .ge 67, 3) := by decide +kernel
theorem dX2_blowApart_8 : decode cX2_blowApart 8 = .ok (.iload_n 1, 1) := by decide +kernel
theorem dX2_blowApart_9 : decode cX2_blowApart 9 = .ok (.iconst 1, 1) := by decide +kernel
theorem dX2_blowApart_10 : decode cX2_blowApart 10 = .ok (.iload_n 2, 1) := by decide +kernel
theorem dX2_blowApart_11 : decode cX2_blowApart 11 = .ok (.ishl, 1) := by decide +kernel
theorem dX2_blowApart_12 : decode cX2_blowApart 12 = .ok (.iand, 1) := by decide +kernel
theorem dX2_blowApart_13 : decode cX2_blowApart 13 = .ok (.ifCond .eq 53, 3) := by decide +kernel
theorem dX2_blowApart_16 : decode cX2_blowApart 16 = .ok (.aload_n 0, 1) := by decide +kernel
theorem dX2_blowApart_17 : decode cX2_blowApart 17 = .ok (.getfield 12, 3) := by decide +kernel
theorem dX2_blowApart_20 : decode cX2_blowApart 20 = .ok (.getfield 69, 3) := by decide +kernel
theorem dX2_blowApart_23 : decode cX2_blowApart 23 = .ok (.iload_n 2, 1) := by decide +kernel
theorem dX2_blowApart_24 : decode cX2_blowApart 24 = .ok (.iaload, 1) := by decide +kernel
theorem dX2_blowApart_25 : decode cX2_blowApart 25 = .ok (.aload_n 0, 1) := by decide +kernel
theorem dX2_blowApart_26 : decode cX2_blowApart 26 = .ok (.iconst 3, 1) := by decide +kernel
theorem dX2_blowApart_27 : decode cX2_blowApart 27 = .ok (.invokevirtual 83, 3) := by decide +kernel
theorem dX2_blowApart_30 : decode cX2_blowApart 30 = .ok (.iadd, 1) := by decide +kernel
theorem dX2_blowApart_31 : decode cX2_blowApart 31 = .ok (.istore_n 3, 1) := by decide +kernel
theorem dX2_blowApart_32 : decode cX2_blowApart 32 = .ok (.aload_n 0, 1) := by decide +kernel
theorem dX2_blowApart_33 : decode cX2_blowApart 33 = .ok (.getfield 12, 3) := by decide +kernel
theorem dX2_blowApart_36 : decode cX2_blowApart 36 = .ok (.getfield 73, 3) := by decide +kernel
theorem dX2_blowApart_39 : decode cX2_blowApart 39 = .ok (.iload_n 2, 1) := by decide +kernel
theorem dX2_blowApart_40 : decode cX2_blowApart 40 = .ok (.iaload, 1) := by decide +kernel
theorem dX2_blowApart_41 : decode cX2_blowApart 41 = .ok (.aload_n 0, 1) := by decide +kernel
theorem dX2_blowApart_42 : decode cX2_blowApart 42 = .ok (.iconst 3, 1) := by decide +kernel
theorem dX2_blowApart_43 : decode cX2_blowApart 43 = .ok (.invokevirtual 83, 3) := by decide +kernel
theorem dX2_blowApart_46 : decode cX2_blowApart 46 = .ok (.iadd, 1) := by decide +kernel
theorem dX2_blowApart_47 : decode cX2_blowApart 47 = .ok (.istore 4, 2) := by decide +kernel
theorem dX2_blowApart_49 : decode cX2_blowApart 49 = .ok (.aload_n 0, 1) := by decide +kernel
theorem dX2_blowApart_50 : decode cX2_blowApart 50 = .ok (.getfield 12, 3) := by decide +kernel
theorem dX2_blowApart_53 : decode cX2_blowApart 53 = .ok (.iload_n 2, 1) := by decide +kernel
theorem dX2_blowApart_54 : decode cX2_blowApart 54 = .ok (.iload_n 3, 1) := by decide +kernel
theorem dX2_blowApart_55 : decode cX2_blowApart 55 = .ok (.invokestatic 97, 3) := by decide +kernel
theorem dX2_blowApart_58 : decode cX2_blowApart 58 = .ok (.iload 4, 2) := by decide +kernel
theorem dX2_blowApart_60 : decode cX2_blowApart 60 = .ok (.invokestatic 97, 3) := by decide +kernel
theorem dX2_blowApart_63 : decode cX2_blowApart 63 = .ok (.invokevirtual 90, 3) := by decide +kernel
theorem dX2_blowApart_66 : decode cX2_blowApart 66 = .ok (.iinc 2 1, 3) := by decide +kernel
theorem dX2_blowApart_69 : decode cX2_blowApart 69 = .ok (.goto (-67), 3) := by decide +kernel
theorem dX2_blowApart_72 : decode cX2_blowApart 72 = .ok (.aload_n 0, 1) := by decide +kernel
theorem dX2_blowApart_73 : decode cX2_blowApart 73 = .ok (.iconst 0, 1) := by decide +kernel
theorem dX2_blowApart_74 : decode cX2_blowApart 74 = .ok (.invokevirtual 100, 3) := by decide +kernel
theorem dX2_blowApart_77 : decode cX2_blowApart 77 = .ok (.return_, 1) := by decide +kernel
theorem dX2_follow_0 : decode cX2_follow 0 = .ok (.aload_n 0, 1) := by decide +kernel
theorem dX2_follow_1 : decode cX2_follow 1 = .ok (.iload_n 1, 1) := by decide +kernel
theorem dX2_follow_2 : decode cX2_follow 2 = .ok (.invokevirtual 104, 3) := by decide +kernel
theorem dX2_follow_5 : decode cX2_follow 5 = .ok (.ifCond .ne 5, 3) := by decide +kernel
theorem dX2_follow_8 : decode cX2_follow 8 = .ok (.iconst 0, 1) := by decide +kernel
theorem dX2_follow_9 : decode cX2_follow 9 = .ok (.ireturn, 1) := by decide +kernel
theorem dX2_follow_10 : decode cX2_follow 10 = .ok (.aload_n 0, 1) := by decide +kernel
theorem dX2_follow_11 : decode cX2_follow 11 = .ok (.getfield 12, 3) := by decide +kernel
theorem dX2_follow_14 : decode cX2_follow 14 = .ok (.iload_n 1, 1) := by decide +kernel
theorem dX2_follow_15 : decode cX2_follow 15 = .ok (.iload_n 2, 1) := by decide +kernel
theorem dX2_follow_16 : decode cX2_follow 16 = .ok (.iload_n 3, 1) := by decide +kernel
theorem dX2_follow_17 : decode cX2_follow 17 = .ok (.invokevirtual 90, 3) := by decide +kernel
theorem dX2_follow_20 : decode cX2_follow 20 = .ok (.aload_n 0, 1) := by decide +kernel
theorem dX2_follow_21 : decode cX2_follow 21 = .ok (.iload_n 2, 1) := by decide +kernel
theorem dX2_follow_22 : decode cX2_follow 22 = .ok (.bipush 41, 2) := by decide +kernel
theorem dX2_follow_24 : decode cX2_follow 24 = .ok (.if_icmp .ne 7, 3) := by decide +kernel
theorem dX2_follow_27 : decode cX2_follow 27 = .ok (.iconst 1, 1) := by decide +kernel
theorem dX2_follow_28 : decode cX2_follow 28 = .ok (.goto 4, 3) := by decide +kernel
theorem dX2_follow_31 : decode cX2_follow 31 = .ok (.iconst 0, 1) := by decide +kernel
theorem dX2_follow_32 : decode cX2_follow 32 = .ok (.invokevirtual 100, 3) := by decide +kernel
theorem dX2_follow_35 : decode cX2_follow 35 = .ok (.iconst 1, 1) := by decide +kernel
theorem dX2_follow_36 : decode cX2_follow 36 = .ok (.ireturn, 1) := by decide +kernel
theorem dX2_endTurn_0 : decode cX2_endTurn 0 = .ok (.aload_n 0, 1) := by decide +kernel
theorem dX2_endTurn_1 : decode cX2_endTurn 1 = .ok (.dup, 1) := by decide +kernel
theorem dX2_endTurn_2 : decode cX2_endTurn 2 = .ok (.getfield 35, 3) := by decide +kernel
theorem dX2_endTurn_5 : decode cX2_endTurn 5 = .ok (.iconst 1, 1) := by decide +kernel
theorem dX2_endTurn_6 : decode cX2_endTurn 6 = .ok (.iadd, 1) := by decide +kernel
theorem dX2_endTurn_7 : decode cX2_endTurn 7 = .ok (.putfield 35, 3) := by decide +kernel
theorem dX2_endTurn_10 : decode cX2_endTurn 10 = .ok (.iload_n 1, 1) := by decide +kernel
theorem dX2_endTurn_11 : decode cX2_endTurn 11 = .ok (.ifCond .ne 7, 3) := by decide +kernel
theorem dX2_endTurn_14 : decode cX2_endTurn 14 = .ok (.aload_n 0, 1) := by decide +kernel
theorem dX2_endTurn_15 : decode cX2_endTurn 15 = .ok (.invokevirtual 107, 3) := by decide +kernel
theorem dX2_endTurn_18 : decode cX2_endTurn 18 = .ok (.iconst 0, 1) := by decide +kernel
theorem dX2_endTurn_19 : decode cX2_endTurn 19 = .ok (.istore_n 2, 1) := by decide +kernel
theorem dX2_endTurn_20 : decode cX2_endTurn 20 = .ok (.iload_n 2, 1) := by decide +kernel
theorem dX2_endTurn_21 : decode cX2_endTurn 21 = .ok (.iconst 4, 1) := by decide +kernel
theorem dX2_endTurn_22 : decode cX2_endTurn 22 = .ok (.if_icmp .ge 27, 3) := by decide +kernel
theorem dX2_endTurn_25 : decode cX2_endTurn 25 = .ok (.aload_n 0, 1) := by decide +kernel
theorem dX2_endTurn_26 : decode cX2_endTurn 26 = .ok (.getfield 12, 3) := by decide +kernel
theorem dX2_endTurn_29 : decode cX2_endTurn 29 = .ok (.aload_n 0, 1) := by decide +kernel
theorem dX2_endTurn_30 : decode cX2_endTurn 30 = .ok (.getfield 32, 3) := by decide +kernel
theorem dX2_endTurn_33 : decode cX2_endTurn 33 = .ok (.invokevirtual 110, 3) := by decide +kernel
theorem dX2_endTurn_36 : decode cX2_endTurn 36 = .ok (.ifCond .ne 13, 3) := by decide +kernel
theorem dX2_endTurn_39 : decode cX2_endTurn 39 = .ok (.aload_n 0, 1) := by decide +kernel
theorem dX2_endTurn_40 : decode cX2_endTurn 40 = .ok (.invokevirtual 107, 3) := by decide +kernel
theorem dX2_endTurn_43 : decode cX2_endTurn 43 = .ok (.iinc 2 1, 3) := by decide +kernel
theorem dX2_endTurn_46 : decode cX2_endTurn 46 = .ok (.goto (-26), 3) := by decide +kernel
theorem dX2_endTurn_49 : decode cX2_endTurn 49 = .ok (.return_, 1) := by decide +kernel
theorem dX2_stepTurn_0 : decode cX2_stepTurn 0 = .ok (.aload_n 0, 1) := by decide +kernel
theorem dX2_stepTurn_1 : decode cX2_stepTurn 1 = .ok (.aload_n 0, 1) := by decide +kernel
theorem dX2_stepTurn_2 : decode cX2_stepTurn 2 = .ok (.getfield 32, 3) := by decide +kernel
theorem dX2_stepTurn_5 : decode cX2_stepTurn 5 = .ok (.invokestatic 113, 3) := by decide +kernel
theorem dX2_stepTurn_8 : decode cX2_stepTurn 8 = .ok (.putfield 32, 3) := by decide +kernel
theorem dX2_stepTurn_11 : decode cX2_stepTurn 11 = .ok (.aload_n 0, 1) := by decide +kernel
theorem dX2_stepTurn_12 : decode cX2_stepTurn 12 = .ok (.getfield 32, 3) := by decide +kernel
theorem dX2_stepTurn_15 : decode cX2_stepTurn 15 = .ok (.ifCond .ne 20, 3) := by decide +kernel
theorem dX2_stepTurn_18 : decode cX2_stepTurn 18 = .ok (.aload_n 0, 1) := by decide +kernel
theorem dX2_stepTurn_19 : decode cX2_stepTurn 19 = .ok (.invokevirtual 48, 3) := by decide +kernel
theorem dX2_stepTurn_22 : decode cX2_stepTurn 22 = .ok (.ifCond .eq 13, 3) := by decide +kernel
theorem dX2_stepTurn_25 : decode cX2_stepTurn 25 = .ok (.aload_n 0, 1) := by decide +kernel
theorem dX2_stepTurn_26 : decode cX2_stepTurn 26 = .ok (.dup, 1) := by decide +kernel
theorem dX2_stepTurn_27 : decode cX2_stepTurn 27 = .ok (.getfield 38, 3) := by decide +kernel
theorem dX2_stepTurn_30 : decode cX2_stepTurn 30 = .ok (.iconst 1, 1) := by decide +kernel
theorem dX2_stepTurn_31 : decode cX2_stepTurn 31 = .ok (.iadd, 1) := by decide +kernel
theorem dX2_stepTurn_32 : decode cX2_stepTurn 32 = .ok (.putfield 38, 3) := by decide +kernel
theorem dX2_stepTurn_35 : decode cX2_stepTurn 35 = .ok (.return_, 1) := by decide +kernel
theorem dX2_passOverWithoutRounds_0 : decode cX2_passOverWithoutRounds 0 = .ok (.iconst 0, 1) := by decide +kernel
theorem dX2_passOverWithoutRounds_1 : decode cX2_passOverWithoutRounds 1 = .ok (.istore_n 1, 1) := by decide +kernel
theorem dX2_passOverWithoutRounds_2 : decode cX2_passOverWithoutRounds 2 = .ok (.iload_n 1, 1) := by decide +kernel
theorem dX2_passOverWithoutRounds_3 : decode cX2_passOverWithoutRounds 3 = .ok (.iconst 4, 1) := by decide +kernel
theorem dX2_passOverWithoutRounds_4 : decode cX2_passOverWithoutRounds 4 = .ok (.if_icmp .ge 41, 3) := by decide +kernel
theorem dX2_passOverWithoutRounds_7 : decode cX2_passOverWithoutRounds 7 = .ok (.aload_n 0, 1) := by decide +kernel
theorem dX2_passOverWithoutRounds_8 : decode cX2_passOverWithoutRounds 8 = .ok (.invokevirtual 66, 3) := by decide +kernel
theorem dX2_passOverWithoutRounds_11 : decode cX2_passOverWithoutRounds 11 = .ok (.ifCond .ne 34, 3) := by decide +kernel
theorem dX2_passOverWithoutRounds_14 : decode cX2_passOverWithoutRounds 14 = .ok (.aload_n 0, 1) := by decide +kernel
theorem dX2_passOverWithoutRounds_15 : decode cX2_passOverWithoutRounds 15 = .ok (.getfield 12, 3) := by decide +kernel
theorem dX2_passOverWithoutRounds_18 : decode cX2_passOverWithoutRounds 18 = .ok (.aload_n 0, 1) := by decide +kernel
theorem dX2_passOverWithoutRounds_19 : decode cX2_passOverWithoutRounds 19 = .ok (.getfield 32, 3) := by decide +kernel
theorem dX2_passOverWithoutRounds_22 : decode cX2_passOverWithoutRounds 22 = .ok (.invokevirtual 110, 3) := by decide +kernel
theorem dX2_passOverWithoutRounds_25 : decode cX2_passOverWithoutRounds 25 = .ok (.ifCond .ne 20, 3) := by decide +kernel
theorem dX2_passOverWithoutRounds_28 : decode cX2_passOverWithoutRounds 28 = .ok (.aload_n 0, 1) := by decide +kernel
theorem dX2_passOverWithoutRounds_29 : decode cX2_passOverWithoutRounds 29 = .ok (.aload_n 0, 1) := by decide +kernel
theorem dX2_passOverWithoutRounds_30 : decode cX2_passOverWithoutRounds 30 = .ok (.getfield 32, 3) := by decide +kernel
theorem dX2_passOverWithoutRounds_33 : decode cX2_passOverWithoutRounds 33 = .ok (.invokestatic 113, 3) := by decide +kernel
theorem dX2_passOverWithoutRounds_36 : decode cX2_passOverWithoutRounds 36 = .ok (.putfield 32, 3) := by decide +kernel
theorem dX2_passOverWithoutRounds_39 : decode cX2_passOverWithoutRounds 39 = .ok (.iinc 1 1, 3) := by decide +kernel
theorem dX2_passOverWithoutRounds_42 : decode cX2_passOverWithoutRounds 42 = .ok (.goto (-40), 3) := by decide +kernel
theorem dX2_passOverWithoutRounds_45 : decode cX2_passOverWithoutRounds 45 = .ok (.return_, 1) := by decide +kernel
theorem dX2_playerBehind_0 : decode cX2_playerBehind 0 = .ok (.aload_n 0, 1) := by decide +kernel
theorem dX2_playerBehind_1 : decode cX2_playerBehind 1 = .ok (.getfield 32, 3) := by decide +kernel
theorem dX2_playerBehind_4 : decode cX2_playerBehind 4 = .ok (.invokestatic 113, 3) := by decide +kernel
theorem dX2_playerBehind_7 : decode cX2_playerBehind 7 = .ok (.istore_n 1, 1) := by decide +kernel
theorem dX2_playerBehind_8 : decode cX2_playerBehind 8 = .ok (.iconst 0, 1) := by decide +kernel
theorem dX2_playerBehind_9 : decode cX2_playerBehind 9 = .ok (.istore_n 2, 1) := by decide +kernel
theorem dX2_playerBehind_10 : decode cX2_playerBehind 10 = .ok (.iload_n 2, 1) := by decide +kernel
theorem dX2_playerBehind_11 : decode cX2_playerBehind 11 = .ok (.iconst 4, 1) := by decide +kernel
theorem dX2_playerBehind_12 : decode cX2_playerBehind 12 = .ok (.if_icmp .ge 25, 3) := by decide +kernel
theorem dX2_playerBehind_15 : decode cX2_playerBehind 15 = .ok (.aload_n 0, 1) := by decide +kernel
theorem dX2_playerBehind_16 : decode cX2_playerBehind 16 = .ok (.getfield 12, 3) := by decide +kernel
theorem dX2_playerBehind_19 : decode cX2_playerBehind 19 = .ok (.iload_n 1, 1) := by decide +kernel
theorem dX2_playerBehind_20 : decode cX2_playerBehind 20 = .ok (.invokevirtual 110, 3) := by decide +kernel
theorem dX2_playerBehind_23 : decode cX2_playerBehind 23 = .ok (.ifCond .ne 14, 3) := by decide +kernel
theorem dX2_playerBehind_26 : decode cX2_playerBehind 26 = .ok (.iload_n 1, 1) := by decide +kernel
theorem dX2_playerBehind_27 : decode cX2_playerBehind 27 = .ok (.invokestatic 113, 3) := by decide +kernel
theorem dX2_playerBehind_30 : decode cX2_playerBehind 30 = .ok (.istore_n 1, 1) := by decide +kernel
theorem dX2_playerBehind_31 : decode cX2_playerBehind 31 = .ok (.iinc 2 1, 3) := by decide +kernel
theorem dX2_playerBehind_34 : decode cX2_playerBehind 34 = .ok (.goto (-24), 3) := by decide +kernel
theorem dX2_playerBehind_37 : decode cX2_playerBehind 37 = .ok (.iload_n 1, 1) := by decide +kernel
theorem dX2_playerBehind_38 : decode cX2_playerBehind 38 = .ok (.ireturn, 1) := by decide +kernel
theorem dX2_drawOff_0 : decode cX2_drawOff 0 = .ok (.aload_n 0, 1) := by decide +kernel
theorem dX2_drawOff_1 : decode cX2_drawOff 1 = .ok (.aload_n 0, 1) := by decide +kernel
theorem dX2_drawOff_2 : decode cX2_drawOff 2 = .ok (.getfield 28, 3) := by decide +kernel
theorem dX2_drawOff_5 : decode cX2_drawOff 5 = .ok (.ldc2_w 116, 3) := by decide +kernel
theorem dX2_drawOff_8 : decode cX2_drawOff 8 = .ok (.lmul, 1) := by decide +kernel
theorem dX2_drawOff_9 : decode cX2_drawOff 9 = .ok (.ldc2_w 118, 3) := by decide +kernel
theorem dX2_drawOff_12 : decode cX2_drawOff 12 = .ok (.lrem, 1) := by decide +kernel
theorem dX2_drawOff_13 : decode cX2_drawOff 13 = .ok (.putfield 28, 3) := by decide +kernel
theorem dX2_drawOff_16 : decode cX2_drawOff 16 = .ok (.aload_n 0, 1) := by decide +kernel
theorem dX2_drawOff_17 : decode cX2_drawOff 17 = .ok (.getfield 28, 3) := by decide +kernel
theorem dX2_drawOff_20 : decode cX2_drawOff 20 = .ok (.iconst 2, 1) := by decide +kernel
theorem dX2_drawOff_21 : decode cX2_drawOff 21 = .ok (.iload_n 1, 1) := by decide +kernel
theorem dX2_drawOff_22 : decode cX2_drawOff 22 = .ok (.imul, 1) := by decide +kernel
theorem dX2_drawOff_23 : decode cX2_drawOff 23 = .ok (.iconst 1, 1) := by decide +kernel
theorem dX2_drawOff_24 : decode cX2_drawOff 24 = .ok (.iadd, 1) := by decide +kernel
theorem dX2_drawOff_25 : decode cX2_drawOff 25 = .ok (.i2l, 1) := by decide +kernel
theorem dX2_drawOff_26 : decode cX2_drawOff 26 = .ok (.lrem, 1) := by decide +kernel
theorem dX2_drawOff_27 : decode cX2_drawOff 27 = .ok (.l2i, 1) := by decide +kernel
theorem dX2_drawOff_28 : decode cX2_drawOff 28 = .ok (.iload_n 1, 1) := by decide +kernel
theorem dX2_drawOff_29 : decode cX2_drawOff 29 = .ok (.isub, 1) := by decide +kernel
theorem dX2_drawOff_30 : decode cX2_drawOff 30 = .ok (.ireturn, 1) := by decide +kernel
theorem dX2_nextInRound_0 : decode cX2_nextInRound 0 = .ok (.iload_n 0, 1) := by decide +kernel
theorem dX2_nextInRound_1 : decode cX2_nextInRound 1 = .ok (.iconst 1, 1) := by decide +kernel
theorem dX2_nextInRound_2 : decode cX2_nextInRound 2 = .ok (.iadd, 1) := by decide +kernel
theorem dX2_nextInRound_3 : decode cX2_nextInRound 3 = .ok (.iconst 4, 1) := by decide +kernel
theorem dX2_nextInRound_4 : decode cX2_nextInRound 4 = .ok (.irem, 1) := by decide +kernel
theorem dX2_nextInRound_5 : decode cX2_nextInRound 5 = .ok (.ireturn, 1) := by decide +kernel
theorem dX2_doesCupTake_0 : decode cX2_doesCupTake 0 = .ok (.iload_n 0, 1) := by decide +kernel
theorem dX2_doesCupTake_1 : decode cX2_doesCupTake 1 = .ok (.bipush 20, 2) := by decide +kernel
theorem dX2_doesCupTake_3 : decode cX2_doesCupTake 3 = .ok (.isub, 1) := by decide +kernel
theorem dX2_doesCupTake_4 : decode cX2_doesCupTake 4 = .ok (.istore_n 2, 1) := by decide +kernel
theorem dX2_doesCupTake_5 : decode cX2_doesCupTake 5 = .ok (.iload_n 1, 1) := by decide +kernel
theorem dX2_doesCupTake_6 : decode cX2_doesCupTake 6 = .ok (.bipush 20, 2) := by decide +kernel
theorem dX2_doesCupTake_8 : decode cX2_doesCupTake 8 = .ok (.isub, 1) := by decide +kernel
theorem dX2_doesCupTake_9 : decode cX2_doesCupTake 9 = .ok (.istore_n 3, 1) := by decide +kernel
theorem dX2_doesCupTake_10 : decode cX2_doesCupTake 10 = .ok (.iload_n 2, 1) := by decide +kernel
theorem dX2_doesCupTake_11 : decode cX2_doesCupTake 11 = .ok (.iload_n 2, 1) := by decide +kernel
theorem dX2_doesCupTake_12 : decode cX2_doesCupTake 12 = .ok (.imul, 1) := by decide +kernel
theorem dX2_doesCupTake_13 : decode cX2_doesCupTake 13 = .ok (.iload_n 3, 1) := by decide +kernel
theorem dX2_doesCupTake_14 : decode cX2_doesCupTake 14 = .ok (.iload_n 3, 1) := by decide +kernel
theorem dX2_doesCupTake_15 : decode cX2_doesCupTake 15 = .ok (.imul, 1) := by decide +kernel
theorem dX2_doesCupTake_16 : decode cX2_doesCupTake 16 = .ok (.iadd, 1) := by decide +kernel
theorem dX2_doesCupTake_17 : decode cX2_doesCupTake 17 = .ok (.iconst 4, 1) := by decide +kernel
theorem dX2_doesCupTake_18 : decode cX2_doesCupTake 18 = .ok (.if_icmp .gt 7, 3) := by decide +kernel
theorem dX2_doesCupTake_21 : decode cX2_doesCupTake 21 = .ok (.iconst 1, 1) := by decide +kernel
theorem dX2_doesCupTake_22 : decode cX2_doesCupTake 22 = .ok (.goto 4, 3) := by decide +kernel
theorem dX2_doesCupTake_25 : decode cX2_doesCupTake 25 = .ok (.iconst 0, 1) := by decide +kernel
theorem dX2_doesCupTake_26 : decode cX2_doesCupTake 26 = .ok (.ireturn, 1) := by decide +kernel
theorem dX2_nearestOnMat_0 : decode cX2_nearestOnMat 0 = .ok (.iconst 0, 1) := by decide +kernel
theorem dX2_nearestOnMat_1 : decode cX2_nearestOnMat 1 = .ok (.bipush 40, 2) := by decide +kernel
theorem dX2_nearestOnMat_3 : decode cX2_nearestOnMat 3 = .ok (.iload_n 0, 1) := by decide +kernel
theorem dX2_nearestOnMat_4 : decode cX2_nearestOnMat 4 = .ok (.invokestatic 120, 3) := by decide +kernel
theorem dX2_nearestOnMat_7 : decode cX2_nearestOnMat 7 = .ok (.invokestatic 126, 3) := by decide +kernel
theorem dX2_nearestOnMat_10 : decode cX2_nearestOnMat 10 = .ok (.ireturn, 1) := by decide +kernel
theorem dX2_signOf_0 : decode cX2_signOf 0 = .ok (.iload_n 0, 1) := by decide +kernel
theorem dX2_signOf_1 : decode cX2_signOf 1 = .ok (.ifCond .le 7, 3) := by decide +kernel
theorem dX2_signOf_4 : decode cX2_signOf 4 = .ok (.iconst 1, 1) := by decide +kernel
theorem dX2_signOf_5 : decode cX2_signOf 5 = .ok (.goto 12, 3) := by decide +kernel
theorem dX2_signOf_8 : decode cX2_signOf 8 = .ok (.iload_n 0, 1) := by decide +kernel
theorem dX2_signOf_9 : decode cX2_signOf 9 = .ok (.ifCond .ge 7, 3) := by decide +kernel
theorem dX2_signOf_12 : decode cX2_signOf 12 = .ok (.iconst (-1), 1) := by decide +kernel
theorem dX2_signOf_13 : decode cX2_signOf 13 = .ok (.goto 4, 3) := by decide +kernel
theorem dX2_signOf_16 : decode cX2_signOf 16 = .ok (.iconst 0, 1) := by decide +kernel
theorem dX2_signOf_17 : decode cX2_signOf 17 = .ok (.ireturn, 1) := by decide +kernel
theorem dX3_init_0 : decode cX3_init 0 = .ok (.aload_n 0, 1) := by decide +kernel
theorem dX3_init_1 : decode cX3_init 1 = .ok (.invokespecial 3, 3) := by decide +kernel
theorem dX3_init_4 : decode cX3_init 4 = .ok (.aload_n 0, 1) := by decide +kernel
theorem dX3_init_5 : decode cX3_init 5 = .ok (.bipush 24, 2) := by decide +kernel
theorem dX3_init_7 : decode cX3_init 7 = .ok (.newarray .int, 2) := by decide +kernel
theorem dX3_init_9 : decode cX3_init 9 = .ok (.putfield 9, 3) := by decide +kernel
theorem dX3_init_12 : decode cX3_init 12 = .ok (.aload_n 0, 1) := by decide +kernel
theorem dX3_init_13 : decode cX3_init 13 = .ok (.bipush 24, 2) := by decide +kernel
theorem dX3_init_15 : decode cX3_init 15 = .ok (.newarray .int, 2) := by decide +kernel
theorem dX3_init_17 : decode cX3_init 17 = .ok (.putfield 15, 3) := by decide +kernel
theorem dX3_init_20 : decode cX3_init 20 = .ok (.aload_n 0, 1) := by decide +kernel
theorem dX3_init_21 : decode cX3_init 21 = .ok (.bipush 24, 2) := by decide +kernel
theorem dX3_init_23 : decode cX3_init 23 = .ok (.newarray .int, 2) := by decide +kernel
theorem dX3_init_25 : decode cX3_init 25 = .ok (.putfield 18, 3) := by decide +kernel
theorem dX3_init_28 : decode cX3_init 28 = .ok (.aload_n 0, 1) := by decide +kernel
theorem dX3_init_29 : decode cX3_init 29 = .ok (.iconst 0, 1) := by decide +kernel
theorem dX3_init_30 : decode cX3_init 30 = .ok (.putfield 21, 3) := by decide +kernel
theorem dX3_init_33 : decode cX3_init 33 = .ok (.aload_n 0, 1) := by decide +kernel
theorem dX3_init_34 : decode cX3_init 34 = .ok (.iconst 0, 1) := by decide +kernel
theorem dX3_init_35 : decode cX3_init 35 = .ok (.putfield 25, 3) := by decide +kernel
theorem dX3_init_38 : decode cX3_init 38 = .ok (.aload_n 0, 1) := by decide +kernel
theorem dX3_init_39 : decode cX3_init 39 = .ok (.bipush (-4), 2) := by decide +kernel
theorem dX3_init_41 : decode cX3_init 41 = .ok (.putfield 28, 3) := by decide +kernel
theorem dX3_init_44 : decode cX3_init 44 = .ok (.aload_n 0, 1) := by decide +kernel
theorem dX3_init_45 : decode cX3_init 45 = .ok (.bipush (-4), 2) := by decide +kernel
theorem dX3_init_47 : decode cX3_init 47 = .ok (.putfield 31, 3) := by decide +kernel
theorem dX3_init_50 : decode cX3_init 50 = .ok (.aload_n 0, 1) := by decide +kernel
theorem dX3_init_51 : decode cX3_init 51 = .ok (.new 34, 3) := by decide +kernel
theorem dX3_init_54 : decode cX3_init 54 = .ok (.dup, 1) := by decide +kernel
theorem dX3_init_55 : decode cX3_init 55 = .ok (.invokespecial 36, 3) := by decide +kernel
theorem dX3_init_58 : decode cX3_init 58 = .ok (.putfield 37, 3) := by decide +kernel
theorem dX3_init_61 : decode cX3_init 61 = .ok (.aload_n 0, 1) := by decide +kernel
theorem dX3_init_62 : decode cX3_init 62 = .ok (.new 34, 3) := by decide +kernel
theorem dX3_init_65 : decode cX3_init 65 = .ok (.dup, 1) := by decide +kernel
theorem dX3_init_66 : decode cX3_init 66 = .ok (.invokespecial 36, 3) := by decide +kernel
theorem dX3_init_69 : decode cX3_init 69 = .ok (.putfield 41, 3) := by decide +kernel
theorem dX3_init_72 : decode cX3_init 72 = .ok (.return_, 1) := by decide +kernel
theorem dX3_add_0 : decode cX3_add 0 = .ok (.aload_n 0, 1) := by decide +kernel
theorem dX3_add_1 : decode cX3_add 1 = .ok (.getfield 21, 3) := by decide +kernel
theorem dX3_add_4 : decode cX3_add 4 = .ok (.bipush 24, 2) := by decide +kernel
theorem dX3_add_6 : decode cX3_add 6 = .ok (.if_icmp .lt 6, 3) := by decide +kernel
theorem dX3_add_9 : decode cX3_add 9 = .ok (.bipush (-3), 2) := by decide +kernel
theorem dX3_add_11 : decode cX3_add 11 = .ok (.ireturn, 1) := by decide +kernel
theorem dX3_add_12 : decode cX3_add 12 = .ok (.aload_n 0, 1) := by decide +kernel
theorem dX3_add_13 : decode cX3_add 13 = .ok (.getfield 9, 3) := by decide +kernel
theorem dX3_add_16 : decode cX3_add 16 = .ok (.aload_n 0, 1) := by decide +kernel
theorem dX3_add_17 : decode cX3_add 17 = .ok (.getfield 21, 3) := by decide +kernel
theorem dX3_add_20 : decode cX3_add 20 = .ok (.iload_n 1, 1) := by decide +kernel
theorem dX3_add_21 : decode cX3_add 21 = .ok (.iastore, 1) := by decide +kernel
theorem dX3_add_22 : decode cX3_add 22 = .ok (.aload_n 0, 1) := by decide +kernel
theorem dX3_add_23 : decode cX3_add 23 = .ok (.getfield 15, 3) := by decide +kernel
theorem dX3_add_26 : decode cX3_add 26 = .ok (.aload_n 0, 1) := by decide +kernel
theorem dX3_add_27 : decode cX3_add 27 = .ok (.getfield 21, 3) := by decide +kernel
theorem dX3_add_30 : decode cX3_add 30 = .ok (.iload_n 2, 1) := by decide +kernel
theorem dX3_add_31 : decode cX3_add 31 = .ok (.iastore, 1) := by decide +kernel
theorem dX3_add_32 : decode cX3_add 32 = .ok (.aload_n 0, 1) := by decide +kernel
theorem dX3_add_33 : decode cX3_add 33 = .ok (.getfield 18, 3) := by decide +kernel
theorem dX3_add_36 : decode cX3_add 36 = .ok (.aload_n 0, 1) := by decide +kernel
theorem dX3_add_37 : decode cX3_add 37 = .ok (.getfield 21, 3) := by decide +kernel
theorem dX3_add_40 : decode cX3_add 40 = .ok (.iload_n 3, 1) := by decide +kernel
theorem dX3_add_41 : decode cX3_add 41 = .ok (.iastore, 1) := by decide +kernel
theorem dX3_add_42 : decode cX3_add 42 = .ok (.aload_n 0, 1) := by decide +kernel
theorem dX3_add_43 : decode cX3_add 43 = .ok (.dup, 1) := by decide +kernel
theorem dX3_add_44 : decode cX3_add 44 = .ok (.getfield 21, 3) := by decide +kernel
theorem dX3_add_47 : decode cX3_add 47 = .ok (.iconst 1, 1) := by decide +kernel
theorem dX3_add_48 : decode cX3_add 48 = .ok (.iadd, 1) := by decide +kernel
theorem dX3_add_49 : decode cX3_add 49 = .ok (.putfield 21, 3) := by decide +kernel
theorem dX3_add_52 : decode cX3_add 52 = .ok (.aload_n 0, 1) := by decide +kernel
theorem dX3_add_53 : decode cX3_add 53 = .ok (.bipush (-4), 2) := by decide +kernel
theorem dX3_add_55 : decode cX3_add 55 = .ok (.putfield 31, 3) := by decide +kernel
theorem dX3_add_58 : decode cX3_add 58 = .ok (.aload_n 0, 1) := by decide +kernel
theorem dX3_add_59 : decode cX3_add 59 = .ok (.getfield 21, 3) := by decide +kernel
theorem dX3_add_62 : decode cX3_add 62 = .ok (.ireturn, 1) := by decide +kernel
theorem dX3_clear_0 : decode cX3_clear 0 = .ok (.aload_n 0, 1) := by decide +kernel
theorem dX3_clear_1 : decode cX3_clear 1 = .ok (.getfield 21, 3) := by decide +kernel
theorem dX3_clear_4 : decode cX3_clear 4 = .ok (.istore_n 1, 1) := by decide +kernel
theorem dX3_clear_5 : decode cX3_clear 5 = .ok (.aload_n 0, 1) := by decide +kernel
theorem dX3_clear_6 : decode cX3_clear 6 = .ok (.iconst 0, 1) := by decide +kernel
theorem dX3_clear_7 : decode cX3_clear 7 = .ok (.putfield 21, 3) := by decide +kernel
theorem dX3_clear_10 : decode cX3_clear 10 = .ok (.aload_n 0, 1) := by decide +kernel
theorem dX3_clear_11 : decode cX3_clear 11 = .ok (.bipush (-4), 2) := by decide +kernel
theorem dX3_clear_13 : decode cX3_clear 13 = .ok (.putfield 31, 3) := by decide +kernel
theorem dX3_clear_16 : decode cX3_clear 16 = .ok (.iload_n 1, 1) := by decide +kernel
theorem dX3_clear_17 : decode cX3_clear 17 = .ok (.ireturn, 1) := by decide +kernel
theorem dX3_firstWrong_0 : decode cX3_firstWrong 0 = .ok (.aload_n 0, 1) := by decide +kernel
theorem dX3_firstWrong_1 : decode cX3_firstWrong 1 = .ok (.getfield 41, 3) := by decide +kernel
theorem dX3_firstWrong_4 : decode cX3_firstWrong 4 = .ok (.iload_n 1, 1) := by decide +kernel
theorem dX3_firstWrong_5 : decode cX3_firstWrong 5 = .ok (.invokestatic 44, 3) := by decide +kernel
theorem dX3_firstWrong_8 : decode cX3_firstWrong 8 = .ok (.aload_n 0, 1) := by decide +kernel
theorem dX3_firstWrong_9 : decode cX3_firstWrong 9 = .ok (.aload_n 0, 1) := by decide +kernel
theorem dX3_firstWrong_10 : decode cX3_firstWrong 10 = .ok (.getfield 41, 3) := by decide +kernel
theorem dX3_firstWrong_13 : decode cX3_firstWrong 13 = .ok (.iconst 0, 1) := by decide +kernel
theorem dX3_firstWrong_14 : decode cX3_firstWrong 14 = .ok (.aload_n 0, 1) := by decide +kernel
theorem dX3_firstWrong_15 : decode cX3_firstWrong 15 = .ok (.getfield 21, 3) := by decide +kernel
theorem dX3_firstWrong_18 : decode cX3_firstWrong 18 = .ok (.invokevirtual 48, 3) := by decide +kernel
theorem dX3_firstWrong_21 : decode cX3_firstWrong 21 = .ok (.ireturn, 1) := by decide +kernel
theorem dX3_onlyGap_0 : decode cX3_onlyGap 0 = .ok (.bipush (-4), 2) := by decide +kernel
theorem dX3_onlyGap_2 : decode cX3_onlyGap 2 = .ok (.istore_n 1, 1) := by decide +kernel
theorem dX3_onlyGap_3 : decode cX3_onlyGap 3 = .ok (.iconst 0, 1) := by decide +kernel
theorem dX3_onlyGap_4 : decode cX3_onlyGap 4 = .ok (.istore_n 2, 1) := by decide +kernel
theorem dX3_onlyGap_5 : decode cX3_onlyGap 5 = .ok (.iload_n 2, 1) := by decide +kernel
theorem dX3_onlyGap_6 : decode cX3_onlyGap 6 = .ok (.aload_n 0, 1) := by decide +kernel
theorem dX3_onlyGap_7 : decode cX3_onlyGap 7 = .ok (.getfield 21, 3) := by decide +kernel
theorem dX3_onlyGap_10 : decode cX3_onlyGap 10 = .ok (.if_icmp .ge 36, 3) := by decide +kernel
theorem dX3_onlyGap_13 : decode cX3_onlyGap 13 = .ok (.iload_n 2, 1) := by decide +kernel
theorem dX3_onlyGap_14 : decode cX3_onlyGap 14 = .ok (.bipush 24, 2) := by decide +kernel
theorem dX3_onlyGap_16 : decode cX3_onlyGap 16 = .ok (.if_icmp .ge 30, 3) := by decide +kernel
theorem dX3_onlyGap_19 : decode cX3_onlyGap 19 = .ok (.aload_n 0, 1) := by decide +kernel
theorem dX3_onlyGap_20 : decode cX3_onlyGap 20 = .ok (.getfield 15, 3) := by decide +kernel
theorem dX3_onlyGap_23 : decode cX3_onlyGap 23 = .ok (.iload_n 2, 1) := by decide +kernel
theorem dX3_onlyGap_24 : decode cX3_onlyGap 24 = .ok (.iaload, 1) := by decide +kernel
theorem dX3_onlyGap_25 : decode cX3_onlyGap 25 = .ok (.iconst (-1), 1) := by decide +kernel
theorem dX3_onlyGap_26 : decode cX3_onlyGap 26 = .ok (.if_icmp .ne 14, 3) := by decide +kernel
theorem dX3_onlyGap_29 : decode cX3_onlyGap 29 = .ok (.iload_n 1, 1) := by decide +kernel
theorem dX3_onlyGap_30 : decode cX3_onlyGap 30 = .ok (.bipush (-4), 2) := by decide +kernel
theorem dX3_onlyGap_32 : decode cX3_onlyGap 32 = .ok (.if_icmp .eq 6, 3) := by decide +kernel
theorem dX3_onlyGap_35 : decode cX3_onlyGap 35 = .ok (.bipush (-4), 2) := by decide +kernel
theorem dX3_onlyGap_37 : decode cX3_onlyGap 37 = .ok (.ireturn, 1) := by decide +kernel
theorem dX3_onlyGap_38 : decode cX3_onlyGap 38 = .ok (.iload_n 2, 1) := by decide +kernel
theorem dX3_onlyGap_39 : decode cX3_onlyGap 39 = .ok (.istore_n 1, 1) := by decide +kernel
theorem dX3_onlyGap_40 : decode cX3_onlyGap 40 = .ok (.iinc 2 1, 3) := by decide +kernel
theorem dX3_onlyGap_43 : decode cX3_onlyGap 43 = .ok (.goto (-38), 3) := by decide +kernel
theorem dX3_onlyGap_46 : decode cX3_onlyGap 46 = .ok (.iload_n 1, 1) := by decide +kernel
theorem dX3_onlyGap_47 : decode cX3_onlyGap 47 = .ok (.ireturn, 1) := by decide +kernel
theorem dX3_findPlaces_0 : decode cX3_findPlaces 0 = .ok (.aload_n 0, 1) := by decide +kernel
theorem dX3_findPlaces_1 : decode cX3_findPlaces 1 = .ok (.getfield 31, 3) := by decide +kernel
theorem dX3_findPlaces_4 : decode cX3_findPlaces 4 = .ok (.iload_n 2, 1) := by decide +kernel
theorem dX3_findPlaces_5 : decode cX3_findPlaces 5 = .ok (.if_icmp .ne 4, 3) := by decide +kernel
theorem dX3_findPlaces_8 : decode cX3_findPlaces 8 = .ok (.return_, 1) := by decide +kernel
theorem dX3_findPlaces_9 : decode cX3_findPlaces 9 = .ok (.aload_n 0, 1) := by decide +kernel
theorem dX3_findPlaces_10 : decode cX3_findPlaces 10 = .ok (.iload_n 2, 1) := by decide +kernel
theorem dX3_findPlaces_11 : decode cX3_findPlaces 11 = .ok (.putfield 31, 3) := by decide +kernel
theorem dX3_findPlaces_14 : decode cX3_findPlaces 14 = .ok (.aload_n 0, 1) := by decide +kernel
theorem dX3_findPlaces_15 : decode cX3_findPlaces 15 = .ok (.iconst 0, 1) := by decide +kernel
theorem dX3_findPlaces_16 : decode cX3_findPlaces 16 = .ok (.putfield 25, 3) := by decide +kernel
theorem dX3_findPlaces_19 : decode cX3_findPlaces 19 = .ok (.aload_n 0, 1) := by decide +kernel
theorem dX3_findPlaces_20 : decode cX3_findPlaces 20 = .ok (.bipush (-4), 2) := by decide +kernel
theorem dX3_findPlaces_22 : decode cX3_findPlaces 22 = .ok (.putfield 28, 3) := by decide +kernel
theorem dX3_findPlaces_25 : decode cX3_findPlaces 25 = .ok (.aload_n 0, 1) := by decide +kernel
theorem dX3_findPlaces_26 : decode cX3_findPlaces 26 = .ok (.getfield 37, 3) := by decide +kernel
theorem dX3_findPlaces_29 : decode cX3_findPlaces 29 = .ok (.iload_n 2, 1) := by decide +kernel
theorem dX3_findPlaces_30 : decode cX3_findPlaces 30 = .ok (.invokestatic 44, 3) := by decide +kernel
theorem dX3_findPlaces_33 : decode cX3_findPlaces 33 = .ok (.aload_n 0, 1) := by decide +kernel
theorem dX3_findPlaces_34 : decode cX3_findPlaces 34 = .ok (.aload_n 0, 1) := by decide +kernel
theorem dX3_findPlaces_35 : decode cX3_findPlaces 35 = .ok (.getfield 37, 3) := by decide +kernel
theorem dX3_findPlaces_38 : decode cX3_findPlaces 38 = .ok (.iconst 0, 1) := by decide +kernel
theorem dX3_findPlaces_39 : decode cX3_findPlaces 39 = .ok (.iload_n 1, 1) := by decide +kernel
theorem dX3_findPlaces_40 : decode cX3_findPlaces 40 = .ok (.invokevirtual 48, 3) := by decide +kernel
theorem dX3_findPlaces_43 : decode cX3_findPlaces 43 = .ok (.bipush (-4), 2) := by decide +kernel
theorem dX3_findPlaces_45 : decode cX3_findPlaces 45 = .ok (.if_icmp .eq 4, 3) := by decide +kernel
theorem dX3_findPlaces_48 : decode cX3_findPlaces 48 = .ok (.return_, 1) := by decide +kernel
theorem dX3_findPlaces_49 : decode cX3_findPlaces 49 = .ok (.aload_n 0, 1) := by decide +kernel
theorem dX3_findPlaces_50 : decode cX3_findPlaces 50 = .ok (.iload_n 1, 1) := by decide +kernel
theorem dX3_findPlaces_51 : decode cX3_findPlaces 51 = .ok (.iconst (-1), 1) := by decide +kernel
theorem dX3_findPlaces_52 : decode cX3_findPlaces 52 = .ok (.iconst (-1), 1) := by decide +kernel
theorem dX3_findPlaces_53 : decode cX3_findPlaces 53 = .ok (.invokevirtual 52, 3) := by decide +kernel
theorem dX3_findPlaces_56 : decode cX3_findPlaces 56 = .ok (.istore_n 3, 1) := by decide +kernel
theorem dX3_findPlaces_57 : decode cX3_findPlaces 57 = .ok (.iconst 0, 1) := by decide +kernel
theorem dX3_findPlaces_58 : decode cX3_findPlaces 58 = .ok (.istore 4, 2) := by decide +kernel
theorem dX3_findPlaces_60 : decode cX3_findPlaces 60 = .ok (.iload 4, 2) := by decide +kernel
theorem dX3_findPlaces_62 : decode cX3_findPlaces 62 = .ok (.bipush 40, 2) := by decide +kernel
theorem dX3_findPlaces_64 : decode cX3_findPlaces 64 = .ok (.if_icmp .gt 63, 3) := by decide +kernel
theorem dX3_findPlaces_67 : decode cX3_findPlaces 67 = .ok (.iconst 0, 1) := by decide +kernel
theorem dX3_findPlaces_68 : decode cX3_findPlaces 68 = .ok (.istore 5, 2) := by decide +kernel
theorem dX3_findPlaces_70 : decode cX3_findPlaces 70 = .ok (.iload 5, 2) := by decide +kernel
theorem dX3_findPlaces_72 : decode cX3_findPlaces 72 = .ok (.bipush 40, 2) := by decide +kernel
theorem dX3_findPlaces_74 : decode cX3_findPlaces 74 = .ok (.if_icmp .gt 47, 3) := by decide +kernel
theorem dX3_findPlaces_77 : decode cX3_findPlaces 77 = .ok (.aload_n 0, 1) := by decide +kernel
theorem dX3_findPlaces_78 : decode cX3_findPlaces 78 = .ok (.iload 4, 2) := by decide +kernel
theorem dX3_findPlaces_80 : decode cX3_findPlaces 80 = .ok (.iload 5, 2) := by decide +kernel
theorem dX3_findPlaces_82 : decode cX3_findPlaces 82 = .ok (.invokevirtual 56, 3) := by decide +kernel
theorem dX3_findPlaces_85 : decode cX3_findPlaces 85 = .ok (.ifCond .eq 18, 3) := by decide +kernel
theorem dX3_findPlaces_88 : decode cX3_findPlaces 88 = .ok (.aload_n 0, 1) := by decide +kernel
theorem dX3_findPlaces_89 : decode cX3_findPlaces 89 = .ok (.iload_n 1, 1) := by decide +kernel
theorem dX3_findPlaces_90 : decode cX3_findPlaces 90 = .ok (.iload 4, 2) := by decide +kernel
theorem dX3_findPlaces_92 : decode cX3_findPlaces 92 = .ok (.iload 5, 2) := by decide +kernel
theorem dX3_findPlaces_94 : decode cX3_findPlaces 94 = .ok (.invokevirtual 52, 3) := by decide +kernel
theorem dX3_findPlaces_97 : decode cX3_findPlaces 97 = .ok (.ifCond .eq 18, 3) := by decide +kernel
theorem dX3_findPlaces_100 : decode cX3_findPlaces 100 = .ok (.goto 7, 3) := by decide +kernel
theorem dX3_findPlaces_103 : decode cX3_findPlaces 103 = .ok (.iload_n 3, 1) := by decide +kernel
theorem dX3_findPlaces_104 : decode cX3_findPlaces 104 = .ok (.ifCond .eq 11, 3) := by decide +kernel
theorem dX3_findPlaces_107 : decode cX3_findPlaces 107 = .ok (.aload_n 0, 1) := by decide +kernel
theorem dX3_findPlaces_108 : decode cX3_findPlaces 108 = .ok (.iload 4, 2) := by decide +kernel
theorem dX3_findPlaces_110 : decode cX3_findPlaces 110 = .ok (.iload 5, 2) := by decide +kernel
theorem dX3_findPlaces_112 : decode cX3_findPlaces 112 = .ok (.invokevirtual 60, 3) := by decide +kernel
theorem dX3_findPlaces_115 : decode cX3_findPlaces 115 = .ok (.iinc 5 1, 3) := by decide +kernel
theorem dX3_findPlaces_118 : decode cX3_findPlaces 118 = .ok (.goto (-48), 3) := by decide +kernel
theorem dX3_findPlaces_121 : decode cX3_findPlaces 121 = .ok (.iinc 4 1, 3) := by decide +kernel
theorem dX3_findPlaces_124 : decode cX3_findPlaces 124 = .ok (.goto (-64), 3) := by decide +kernel
theorem dX3_findPlaces_127 : decode cX3_findPlaces 127 = .ok (.aload_n 0, 1) := by decide +kernel
theorem dX3_findPlaces_128 : decode cX3_findPlaces 128 = .ok (.iload_n 1, 1) := by decide +kernel
theorem dX3_findPlaces_129 : decode cX3_findPlaces 129 = .ok (.bipush 41, 2) := by decide +kernel
theorem dX3_findPlaces_131 : decode cX3_findPlaces 131 = .ok (.bipush 41, 2) := by decide +kernel
theorem dX3_findPlaces_133 : decode cX3_findPlaces 133 = .ok (.invokevirtual 52, 3) := by decide +kernel
theorem dX3_findPlaces_136 : decode cX3_findPlaces 136 = .ok (.ifCond .eq 11, 3) := by decide +kernel
theorem dX3_findPlaces_139 : decode cX3_findPlaces 139 = .ok (.aload_n 0, 1) := by decide +kernel
theorem dX3_findPlaces_140 : decode cX3_findPlaces 140 = .ok (.bipush 41, 2) := by decide +kernel
theorem dX3_findPlaces_142 : decode cX3_findPlaces 142 = .ok (.bipush 41, 2) := by decide +kernel
theorem dX3_findPlaces_144 : decode cX3_findPlaces 144 = .ok (.invokevirtual 60, 3) := by decide +kernel
theorem dX3_findPlaces_147 : decode cX3_findPlaces 147 = .ok (.return_, 1) := by decide +kernel
theorem dX3_isNearWritten_0 : decode cX3_isNearWritten 0 = .ok (.iconst 0, 1) := by decide +kernel
theorem dX3_isNearWritten_1 : decode cX3_isNearWritten 1 = .ok (.istore_n 3, 1) := by decide +kernel
theorem dX3_isNearWritten_2 : decode cX3_isNearWritten 2 = .ok (.iload_n 3, 1) := by decide +kernel
theorem dX3_isNearWritten_3 : decode cX3_isNearWritten 3 = .ok (.aload_n 0, 1) := by decide +kernel
theorem dX3_isNearWritten_4 : decode cX3_isNearWritten 4 = .ok (.getfield 21, 3) := by decide +kernel
theorem dX3_isNearWritten_7 : decode cX3_isNearWritten 7 = .ok (.if_icmp .ge 38, 3) := by decide +kernel
theorem dX3_isNearWritten_10 : decode cX3_isNearWritten 10 = .ok (.iload_n 3, 1) := by decide +kernel
theorem dX3_isNearWritten_11 : decode cX3_isNearWritten 11 = .ok (.bipush 24, 2) := by decide +kernel
theorem dX3_isNearWritten_13 : decode cX3_isNearWritten 13 = .ok (.if_icmp .ge 32, 3) := by decide +kernel
theorem dX3_isNearWritten_16 : decode cX3_isNearWritten 16 = .ok (.iload_n 1, 1) := by decide +kernel
theorem dX3_isNearWritten_17 : decode cX3_isNearWritten 17 = .ok (.iload_n 2, 1) := by decide +kernel
theorem dX3_isNearWritten_18 : decode cX3_isNearWritten 18 = .ok (.aload_n 0, 1) := by decide +kernel
theorem dX3_isNearWritten_19 : decode cX3_isNearWritten 19 = .ok (.getfield 15, 3) := by decide +kernel
theorem dX3_isNearWritten_22 : decode cX3_isNearWritten 22 = .ok (.iload_n 3, 1) := by decide +kernel
theorem dX3_isNearWritten_23 : decode cX3_isNearWritten 23 = .ok (.iaload, 1) := by decide +kernel
theorem dX3_isNearWritten_24 : decode cX3_isNearWritten 24 = .ok (.aload_n 0, 1) := by decide +kernel
theorem dX3_isNearWritten_25 : decode cX3_isNearWritten 25 = .ok (.getfield 18, 3) := by decide +kernel
theorem dX3_isNearWritten_28 : decode cX3_isNearWritten 28 = .ok (.iload_n 3, 1) := by decide +kernel
theorem dX3_isNearWritten_29 : decode cX3_isNearWritten 29 = .ok (.iaload, 1) := by decide +kernel
theorem dX3_isNearWritten_30 : decode cX3_isNearWritten 30 = .ok (.invokestatic 64, 3) := by decide +kernel
theorem dX3_isNearWritten_33 : decode cX3_isNearWritten 33 = .ok (.iconst 4, 1) := by decide +kernel
theorem dX3_isNearWritten_34 : decode cX3_isNearWritten 34 = .ok (.if_icmp .ge 5, 3) := by decide +kernel
theorem dX3_isNearWritten_37 : decode cX3_isNearWritten 37 = .ok (.iconst 1, 1) := by decide +kernel
theorem dX3_isNearWritten_38 : decode cX3_isNearWritten 38 = .ok (.ireturn, 1) := by decide +kernel
theorem dX3_isNearWritten_39 : decode cX3_isNearWritten 39 = .ok (.iinc 3 1, 3) := by decide +kernel
theorem dX3_isNearWritten_42 : decode cX3_isNearWritten 42 = .ok (.goto (-40), 3) := by decide +kernel
theorem dX3_isNearWritten_45 : decode cX3_isNearWritten 45 = .ok (.iconst 0, 1) := by decide +kernel
theorem dX3_isNearWritten_46 : decode cX3_isNearWritten 46 = .ok (.ireturn, 1) := by decide +kernel
theorem dX3_canComeTo_0 : decode cX3_canComeTo 0 = .ok (.aload_n 0, 1) := by decide +kernel
theorem dX3_canComeTo_1 : decode cX3_canComeTo 1 = .ok (.getfield 41, 3) := by decide +kernel
theorem dX3_canComeTo_4 : decode cX3_canComeTo 4 = .ok (.aload_n 0, 1) := by decide +kernel
theorem dX3_canComeTo_5 : decode cX3_canComeTo 5 = .ok (.getfield 37, 3) := by decide +kernel
theorem dX3_canComeTo_8 : decode cX3_canComeTo 8 = .ok (.invokevirtual 68, 3) := by decide +kernel
theorem dX3_canComeTo_11 : decode cX3_canComeTo 11 = .ok (.aload_n 0, 1) := by decide +kernel
theorem dX3_canComeTo_12 : decode cX3_canComeTo 12 = .ok (.getfield 41, 3) := by decide +kernel
theorem dX3_canComeTo_15 : decode cX3_canComeTo 15 = .ok (.aload_n 0, 1) := by decide +kernel
theorem dX3_canComeTo_16 : decode cX3_canComeTo 16 = .ok (.getfield 9, 3) := by decide +kernel
theorem dX3_canComeTo_19 : decode cX3_canComeTo 19 = .ok (.iload_n 1, 1) := by decide +kernel
theorem dX3_canComeTo_20 : decode cX3_canComeTo 20 = .ok (.iaload, 1) := by decide +kernel
theorem dX3_canComeTo_21 : decode cX3_canComeTo 21 = .ok (.iload_n 2, 1) := by decide +kernel
theorem dX3_canComeTo_22 : decode cX3_canComeTo 22 = .ok (.iload_n 3, 1) := by decide +kernel
theorem dX3_canComeTo_23 : decode cX3_canComeTo 23 = .ok (.invokevirtual 72, 3) := by decide +kernel
theorem dX3_canComeTo_26 : decode cX3_canComeTo 26 = .ok (.ifCond .eq 27, 3) := by decide +kernel
theorem dX3_canComeTo_29 : decode cX3_canComeTo 29 = .ok (.aload_n 0, 1) := by decide +kernel
theorem dX3_canComeTo_30 : decode cX3_canComeTo 30 = .ok (.aload_n 0, 1) := by decide +kernel
theorem dX3_canComeTo_31 : decode cX3_canComeTo 31 = .ok (.getfield 41, 3) := by decide +kernel
theorem dX3_canComeTo_34 : decode cX3_canComeTo 34 = .ok (.iload_n 1, 1) := by decide +kernel
theorem dX3_canComeTo_35 : decode cX3_canComeTo 35 = .ok (.iconst 1, 1) := by decide +kernel
theorem dX3_canComeTo_36 : decode cX3_canComeTo 36 = .ok (.iadd, 1) := by decide +kernel
theorem dX3_canComeTo_37 : decode cX3_canComeTo 37 = .ok (.aload_n 0, 1) := by decide +kernel
theorem dX3_canComeTo_38 : decode cX3_canComeTo 38 = .ok (.getfield 21, 3) := by decide +kernel
theorem dX3_canComeTo_41 : decode cX3_canComeTo 41 = .ok (.invokevirtual 48, 3) := by decide +kernel
theorem dX3_canComeTo_44 : decode cX3_canComeTo 44 = .ok (.bipush (-4), 2) := by decide +kernel
theorem dX3_canComeTo_46 : decode cX3_canComeTo 46 = .ok (.if_icmp .ne 7, 3) := by decide +kernel
theorem dX3_canComeTo_49 : decode cX3_canComeTo 49 = .ok (.iconst 1, 1) := by decide +kernel
theorem dX3_canComeTo_50 : decode cX3_canComeTo 50 = .ok (.goto 4, 3) := by decide +kernel
theorem dX3_canComeTo_53 : decode cX3_canComeTo 53 = .ok (.iconst 0, 1) := by decide +kernel
theorem dX3_canComeTo_54 : decode cX3_canComeTo 54 = .ok (.ireturn, 1) := by decide +kernel
theorem dX3_countPlace_0 : decode cX3_countPlace 0 = .ok (.aload_n 0, 1) := by decide +kernel
theorem dX3_countPlace_1 : decode cX3_countPlace 1 = .ok (.getfield 25, 3) := by decide +kernel
theorem dX3_countPlace_4 : decode cX3_countPlace 4 = .ok (.ifCond .ne 13, 3) := by decide +kernel
theorem dX3_countPlace_7 : decode cX3_countPlace 7 = .ok (.aload_n 0, 1) := by decide +kernel
theorem dX3_countPlace_8 : decode cX3_countPlace 8 = .ok (.bipush 100, 2) := by decide +kernel
theorem dX3_countPlace_10 : decode cX3_countPlace 10 = .ok (.iload_n 1, 1) := by decide +kernel
theorem dX3_countPlace_11 : decode cX3_countPlace 11 = .ok (.imul, 1) := by decide +kernel
theorem dX3_countPlace_12 : decode cX3_countPlace 12 = .ok (.iload_n 2, 1) := by decide +kernel
theorem dX3_countPlace_13 : decode cX3_countPlace 13 = .ok (.iadd, 1) := by decide +kernel
theorem dX3_countPlace_14 : decode cX3_countPlace 14 = .ok (.putfield 28, 3) := by decide +kernel
theorem dX3_countPlace_17 : decode cX3_countPlace 17 = .ok (.aload_n 0, 1) := by decide +kernel
theorem dX3_countPlace_18 : decode cX3_countPlace 18 = .ok (.dup, 1) := by decide +kernel
theorem dX3_countPlace_19 : decode cX3_countPlace 19 = .ok (.getfield 25, 3) := by decide +kernel
theorem dX3_countPlace_22 : decode cX3_countPlace 22 = .ok (.iconst 1, 1) := by decide +kernel
theorem dX3_countPlace_23 : decode cX3_countPlace 23 = .ok (.iadd, 1) := by decide +kernel
theorem dX3_countPlace_24 : decode cX3_countPlace 24 = .ok (.putfield 25, 3) := by decide +kernel
theorem dX3_countPlace_27 : decode cX3_countPlace 27 = .ok (.return_, 1) := by decide +kernel
theorem dX3_startOver_0 : decode cX3_startOver 0 = .ok (.aload_n 0, 1) := by decide +kernel
theorem dX3_startOver_1 : decode cX3_startOver 1 = .ok (.invokevirtual 75, 3) := by decide +kernel
theorem dX3_startOver_4 : decode cX3_startOver 4 = .ok (.aload_n 0, 1) := by decide +kernel
theorem dX3_startOver_5 : decode cX3_startOver 5 = .ok (.iload_n 1, 1) := by decide +kernel
theorem dX3_startOver_6 : decode cX3_startOver 6 = .ok (.putfield 78, 3) := by decide +kernel
theorem dX3_startOver_9 : decode cX3_startOver 9 = .ok (.return_, 1) := by decide +kernel
theorem dX3_firstWrongIn_0 : decode cX3_firstWrongIn 0 = .ok (.iload_n 2, 1) := by decide +kernel
theorem dX3_firstWrongIn_1 : decode cX3_firstWrongIn 1 = .ok (.istore 4, 2) := by decide +kernel
theorem dX3_firstWrongIn_3 : decode cX3_firstWrongIn 3 = .ok (.iload 4, 2) := by decide +kernel
theorem dX3_firstWrongIn_5 : decode cX3_firstWrongIn 5 = .ok (.iload_n 3, 1) := by decide +kernel
theorem dX3_firstWrongIn_6 : decode cX3_firstWrongIn 6 = .ok (.if_icmp .ge 47, 3) := by decide +kernel
theorem dX3_firstWrongIn_9 : decode cX3_firstWrongIn 9 = .ok (.iload 4, 2) := by decide +kernel
theorem dX3_firstWrongIn_11 : decode cX3_firstWrongIn 11 = .ok (.bipush 24, 2) := by decide +kernel
theorem dX3_firstWrongIn_13 : decode cX3_firstWrongIn 13 = .ok (.if_icmp .ge 40, 3) := by decide +kernel
theorem dX3_firstWrongIn_16 : decode cX3_firstWrongIn 16 = .ok (.aload_n 1, 1) := by decide +kernel
theorem dX3_firstWrongIn_17 : decode cX3_firstWrongIn 17 = .ok (.aload_n 0, 1) := by decide +kernel
theorem dX3_firstWrongIn_18 : decode cX3_firstWrongIn 18 = .ok (.getfield 9, 3) := by decide +kernel
theorem dX3_firstWrongIn_21 : decode cX3_firstWrongIn 21 = .ok (.iload 4, 2) := by decide +kernel
theorem dX3_firstWrongIn_23 : decode cX3_firstWrongIn 23 = .ok (.iaload, 1) := by decide +kernel
theorem dX3_firstWrongIn_24 : decode cX3_firstWrongIn 24 = .ok (.aload_n 0, 1) := by decide +kernel
theorem dX3_firstWrongIn_25 : decode cX3_firstWrongIn 25 = .ok (.getfield 15, 3) := by decide +kernel
theorem dX3_firstWrongIn_28 : decode cX3_firstWrongIn 28 = .ok (.iload 4, 2) := by decide +kernel
theorem dX3_firstWrongIn_30 : decode cX3_firstWrongIn 30 = .ok (.iaload, 1) := by decide +kernel
theorem dX3_firstWrongIn_31 : decode cX3_firstWrongIn 31 = .ok (.aload_n 0, 1) := by decide +kernel
theorem dX3_firstWrongIn_32 : decode cX3_firstWrongIn 32 = .ok (.getfield 18, 3) := by decide +kernel
theorem dX3_firstWrongIn_35 : decode cX3_firstWrongIn 35 = .ok (.iload 4, 2) := by decide +kernel
theorem dX3_firstWrongIn_37 : decode cX3_firstWrongIn 37 = .ok (.iaload, 1) := by decide +kernel
theorem dX3_firstWrongIn_38 : decode cX3_firstWrongIn 38 = .ok (.invokevirtual 72, 3) := by decide +kernel
theorem dX3_firstWrongIn_41 : decode cX3_firstWrongIn 41 = .ok (.ifCond .ne 6, 3) := by decide +kernel
theorem dX3_firstWrongIn_44 : decode cX3_firstWrongIn 44 = .ok (.iload 4, 2) := by decide +kernel
theorem dX3_firstWrongIn_46 : decode cX3_firstWrongIn 46 = .ok (.ireturn, 1) := by decide +kernel
theorem dX3_firstWrongIn_47 : decode cX3_firstWrongIn 47 = .ok (.iinc 4 1, 3) := by decide +kernel
theorem dX3_firstWrongIn_50 : decode cX3_firstWrongIn 50 = .ok (.goto (-47), 3) := by decide +kernel
theorem dX3_firstWrongIn_53 : decode cX3_firstWrongIn 53 = .ok (.bipush (-4), 2) := by decide +kernel
theorem dX3_firstWrongIn_55 : decode cX3_firstWrongIn 55 = .ok (.ireturn, 1) := by decide +kernel
theorem dX4_init_0 : decode cX4_init 0 = .ok (.aload_n 0, 1) := by decide +kernel
theorem dX4_init_1 : decode cX4_init 1 = .ok (.invokespecial 3, 3) := by decide +kernel
theorem dX4_init_4 : decode cX4_init 4 = .ok (.aload_n 0, 1) := by decide +kernel
theorem dX4_init_5 : decode cX4_init 5 = .ok (.bipush 20, 2) := by decide +kernel
theorem dX4_init_7 : decode cX4_init 7 = .ok (.newarray .int, 2) := by decide +kernel
theorem dX4_init_9 : decode cX4_init 9 = .ok (.putfield 9, 3) := by decide +kernel
theorem dX4_init_12 : decode cX4_init 12 = .ok (.aload_n 0, 1) := by decide +kernel
theorem dX4_init_13 : decode cX4_init 13 = .ok (.bipush 20, 2) := by decide +kernel
theorem dX4_init_15 : decode cX4_init 15 = .ok (.newarray .int, 2) := by decide +kernel
theorem dX4_init_17 : decode cX4_init 17 = .ok (.putfield 15, 3) := by decide +kernel
theorem dX4_init_20 : decode cX4_init 20 = .ok (.aload_n 0, 1) := by decide +kernel
theorem dX4_init_21 : decode cX4_init 21 = .ok (.iconst 4, 1) := by decide +kernel
theorem dX4_init_22 : decode cX4_init 22 = .ok (.newarray .int, 2) := by decide +kernel
theorem dX4_init_24 : decode cX4_init 24 = .ok (.putfield 18, 3) := by decide +kernel
theorem dX4_init_27 : decode cX4_init 27 = .ok (.return_, 1) := by decide +kernel
theorem dX4_add_0 : decode cX4_add 0 = .ok (.aload_n 0, 1) := by decide +kernel
theorem dX4_add_1 : decode cX4_add 1 = .ok (.getfield 18, 3) := by decide +kernel
theorem dX4_add_4 : decode cX4_add 4 = .ok (.iload_n 1, 1) := by decide +kernel
theorem dX4_add_5 : decode cX4_add 5 = .ok (.iaload, 1) := by decide +kernel
theorem dX4_add_6 : decode cX4_add 6 = .ok (.sipush 1000, 3) := by decide +kernel
theorem dX4_add_9 : decode cX4_add 9 = .ok (.if_icmp .lt 6, 3) := by decide +kernel
theorem dX4_add_12 : decode cX4_add 12 = .ok (.bipush (-3), 2) := by decide +kernel
theorem dX4_add_14 : decode cX4_add 14 = .ok (.ireturn, 1) := by decide +kernel
theorem dX4_add_15 : decode cX4_add 15 = .ok (.iconst 4, 1) := by decide +kernel
theorem dX4_add_16 : decode cX4_add 16 = .ok (.iload_n 2, 1) := by decide +kernel
theorem dX4_add_17 : decode cX4_add 17 = .ok (.bipush 8, 2) := by decide +kernel
theorem dX4_add_19 : decode cX4_add 19 = .ok (.idiv, 1) := by decide +kernel
theorem dX4_add_20 : decode cX4_add 20 = .ok (.invokestatic 21, 3) := by decide +kernel
theorem dX4_add_23 : decode cX4_add 23 = .ok (.istore 4, 2) := by decide +kernel
theorem dX4_add_25 : decode cX4_add 25 = .ok (.aload_n 0, 1) := by decide +kernel
theorem dX4_add_26 : decode cX4_add 26 = .ok (.getfield 9, 3) := by decide +kernel
theorem dX4_add_29 : decode cX4_add 29 = .ok (.iload_n 1, 1) := by decide +kernel
theorem dX4_add_30 : decode cX4_add 30 = .ok (.iconst 5, 1) := by decide +kernel
theorem dX4_add_31 : decode cX4_add 31 = .ok (.imul, 1) := by decide +kernel
theorem dX4_add_32 : decode cX4_add 32 = .ok (.iload 4, 2) := by decide +kernel
theorem dX4_add_34 : decode cX4_add 34 = .ok (.iadd, 1) := by decide +kernel
theorem dX4_add_35 : decode cX4_add 35 = .ok (.dup2, 1) := by decide +kernel
theorem dX4_add_36 : decode cX4_add 36 = .ok (.iaload, 1) := by decide +kernel
theorem dX4_add_37 : decode cX4_add 37 = .ok (.iconst 1, 1) := by decide +kernel
theorem dX4_add_38 : decode cX4_add 38 = .ok (.iadd, 1) := by decide +kernel
theorem dX4_add_39 : decode cX4_add 39 = .ok (.iastore, 1) := by decide +kernel
theorem dX4_add_40 : decode cX4_add 40 = .ok (.aload_n 0, 1) := by decide +kernel
theorem dX4_add_41 : decode cX4_add 41 = .ok (.getfield 15, 3) := by decide +kernel
theorem dX4_add_44 : decode cX4_add 44 = .ok (.iload_n 1, 1) := by decide +kernel
theorem dX4_add_45 : decode cX4_add 45 = .ok (.iconst 5, 1) := by decide +kernel
theorem dX4_add_46 : decode cX4_add 46 = .ok (.imul, 1) := by decide +kernel
theorem dX4_add_47 : decode cX4_add 47 = .ok (.iload 4, 2) := by decide +kernel
theorem dX4_add_49 : decode cX4_add 49 = .ok (.iadd, 1) := by decide +kernel
theorem dX4_add_50 : decode cX4_add 50 = .ok (.dup2, 1) := by decide +kernel
theorem dX4_add_51 : decode cX4_add 51 = .ok (.iaload, 1) := by decide +kernel
theorem dX4_add_52 : decode cX4_add 52 = .ok (.iload_n 3, 1) := by decide +kernel
theorem dX4_add_53 : decode cX4_add 53 = .ok (.iadd, 1) := by decide +kernel
theorem dX4_add_54 : decode cX4_add 54 = .ok (.iastore, 1) := by decide +kernel
theorem dX4_add_55 : decode cX4_add 55 = .ok (.aload_n 0, 1) := by decide +kernel
theorem dX4_add_56 : decode cX4_add 56 = .ok (.getfield 18, 3) := by decide +kernel
theorem dX4_add_59 : decode cX4_add 59 = .ok (.iload_n 1, 1) := by decide +kernel
theorem dX4_add_60 : decode cX4_add 60 = .ok (.dup2, 1) := by decide +kernel
theorem dX4_add_61 : decode cX4_add 61 = .ok (.iaload, 1) := by decide +kernel
theorem dX4_add_62 : decode cX4_add 62 = .ok (.iconst 1, 1) := by decide +kernel
theorem dX4_add_63 : decode cX4_add 63 = .ok (.iadd, 1) := by decide +kernel
theorem dX4_add_64 : decode cX4_add 64 = .ok (.iastore, 1) := by decide +kernel
theorem dX4_add_65 : decode cX4_add 65 = .ok (.aload_n 0, 1) := by decide +kernel
theorem dX4_add_66 : decode cX4_add 66 = .ok (.getfield 18, 3) := by decide +kernel
theorem dX4_add_69 : decode cX4_add 69 = .ok (.iload_n 1, 1) := by decide +kernel
theorem dX4_add_70 : decode cX4_add 70 = .ok (.iaload, 1) := by decide +kernel
theorem dX4_add_71 : decode cX4_add 71 = .ok (.ireturn, 1) := by decide +kernel
theorem dX4_tell_0 : decode cX4_tell 0 = .ok (.aload_n 0, 1) := by decide +kernel
theorem dX4_tell_1 : decode cX4_tell 1 = .ok (.getfield 9, 3) := by decide +kernel
theorem dX4_tell_4 : decode cX4_tell 4 = .ok (.iload_n 1, 1) := by decide +kernel
theorem dX4_tell_5 : decode cX4_tell 5 = .ok (.iconst 5, 1) := by decide +kernel
theorem dX4_tell_6 : decode cX4_tell 6 = .ok (.imul, 1) := by decide +kernel
theorem dX4_tell_7 : decode cX4_tell 7 = .ok (.iload_n 2, 1) := by decide +kernel
theorem dX4_tell_8 : decode cX4_tell 8 = .ok (.iadd, 1) := by decide +kernel
theorem dX4_tell_9 : decode cX4_tell 9 = .ok (.iaload, 1) := by decide +kernel
theorem dX4_tell_10 : decode cX4_tell 10 = .ok (.istore 4, 2) := by decide +kernel
theorem dX4_tell_12 : decode cX4_tell 12 = .ok (.aload_n 0, 1) := by decide +kernel
theorem dX4_tell_13 : decode cX4_tell 13 = .ok (.getfield 15, 3) := by decide +kernel
theorem dX4_tell_16 : decode cX4_tell 16 = .ok (.iload_n 1, 1) := by decide +kernel
theorem dX4_tell_17 : decode cX4_tell 17 = .ok (.iconst 5, 1) := by decide +kernel
theorem dX4_tell_18 : decode cX4_tell 18 = .ok (.imul, 1) := by decide +kernel
theorem dX4_tell_19 : decode cX4_tell 19 = .ok (.iload_n 2, 1) := by decide +kernel
theorem dX4_tell_20 : decode cX4_tell 20 = .ok (.iadd, 1) := by decide +kernel
theorem dX4_tell_21 : decode cX4_tell 21 = .ok (.iaload, 1) := by decide +kernel
theorem dX4_tell_22 : decode cX4_tell 22 = .ok (.istore 5, 2) := by decide +kernel
theorem dX4_tell_24 : decode cX4_tell 24 = .ok (.iload_n 3, 1) := by decide +kernel
theorem dX4_tell_25 : decode cX4_tell 25 = .ok (.iconst 2, 1) := by decide +kernel
theorem dX4_tell_26 : decode cX4_tell 26 = .ok (.if_icmp .ne 6, 3) := by decide +kernel
theorem dX4_tell_29 : decode cX4_tell 29 = .ok (.iload 4, 2) := by decide +kernel
theorem dX4_tell_31 : decode cX4_tell 31 = .ok (.ireturn, 1) := by decide +kernel
theorem dX4_tell_32 : decode cX4_tell 32 = .ok (.iload 5, 2) := by decide +kernel
theorem dX4_tell_34 : decode cX4_tell 34 = .ok (.iload 4, 2) := by decide +kernel
theorem dX4_tell_36 : decode cX4_tell 36 = .ok (.invokestatic 27, 3) := by decide +kernel
theorem dX4_tell_39 : decode cX4_tell 39 = .ok (.istore 6, 2) := by decide +kernel
theorem dX4_tell_41 : decode cX4_tell 41 = .ok (.iload 4, 2) := by decide +kernel
theorem dX4_tell_43 : decode cX4_tell 43 = .ok (.ifCond .eq 8, 3) := by decide +kernel
theorem dX4_tell_46 : decode cX4_tell 46 = .ok (.iload 6, 2) := by decide +kernel
theorem dX4_tell_48 : decode cX4_tell 48 = .ok (.ifCond .ne 6, 3) := by decide +kernel
theorem dX4_tell_51 : decode cX4_tell 51 = .ok (.bipush (-2), 2) := by decide +kernel
theorem dX4_tell_53 : decode cX4_tell 53 = .ok (.ireturn, 1) := by decide +kernel
theorem dX4_tell_54 : decode cX4_tell 54 = .ok (.iload_n 3, 1) := by decide +kernel
theorem dX4_tell_55 : decode cX4_tell 55 = .ok (.ifCond .ne 8, 3) := by decide +kernel
theorem dX4_tell_58 : decode cX4_tell 58 = .ok (.iload 5, 2) := by decide +kernel
theorem dX4_tell_60 : decode cX4_tell 60 = .ok (.goto 5, 3) := by decide +kernel
theorem dX4_tell_63 : decode cX4_tell 63 = .ok (.iload 4, 2) := by decide +kernel
theorem dX4_tell_65 : decode cX4_tell 65 = .ok (.iload 6, 2) := by decide +kernel
theorem dX4_tell_67 : decode cX4_tell 67 = .ok (.idiv, 1) := by decide +kernel
theorem dX4_tell_68 : decode cX4_tell 68 = .ok (.ireturn, 1) := by decide +kernel
theorem dX4_commonDivisor_0 : decode cX4_commonDivisor 0 = .ok (.iload_n 0, 1) := by decide +kernel
theorem dX4_commonDivisor_1 : decode cX4_commonDivisor 1 = .ok (.istore_n 2, 1) := by decide +kernel
theorem dX4_commonDivisor_2 : decode cX4_commonDivisor 2 = .ok (.iload_n 1, 1) := by decide +kernel
theorem dX4_commonDivisor_3 : decode cX4_commonDivisor 3 = .ok (.istore_n 3, 1) := by decide +kernel
theorem dX4_commonDivisor_4 : decode cX4_commonDivisor 4 = .ok (.iconst 0, 1) := by decide +kernel
theorem dX4_commonDivisor_5 : decode cX4_commonDivisor 5 = .ok (.istore 4, 2) := by decide +kernel
theorem dX4_commonDivisor_7 : decode cX4_commonDivisor 7 = .ok (.iload 4, 2) := by decide +kernel
theorem dX4_commonDivisor_9 : decode cX4_commonDivisor 9 = .ok (.bipush 100, 2) := by decide +kernel
theorem dX4_commonDivisor_11 : decode cX4_commonDivisor 11 = .ok (.if_icmp .ge 23, 3) := by decide +kernel
theorem dX4_commonDivisor_14 : decode cX4_commonDivisor 14 = .ok (.iload_n 3, 1) := by decide +kernel
theorem dX4_commonDivisor_15 : decode cX4_commonDivisor 15 = .ok (.ifCond .eq 19, 3) := by decide +kernel
theorem dX4_commonDivisor_18 : decode cX4_commonDivisor 18 = .ok (.iload_n 2, 1) := by decide +kernel
theorem dX4_commonDivisor_19 : decode cX4_commonDivisor 19 = .ok (.iload_n 3, 1) := by decide +kernel
theorem dX4_commonDivisor_20 : decode cX4_commonDivisor 20 = .ok (.irem, 1) := by decide +kernel
theorem dX4_commonDivisor_21 : decode cX4_commonDivisor 21 = .ok (.istore 5, 2) := by decide +kernel
theorem dX4_commonDivisor_23 : decode cX4_commonDivisor 23 = .ok (.iload_n 3, 1) := by decide +kernel
theorem dX4_commonDivisor_24 : decode cX4_commonDivisor 24 = .ok (.istore_n 2, 1) := by decide +kernel
theorem dX4_commonDivisor_25 : decode cX4_commonDivisor 25 = .ok (.iload 5, 2) := by decide +kernel
theorem dX4_commonDivisor_27 : decode cX4_commonDivisor 27 = .ok (.istore_n 3, 1) := by decide +kernel
theorem dX4_commonDivisor_28 : decode cX4_commonDivisor 28 = .ok (.iinc 4 1, 3) := by decide +kernel
theorem dX4_commonDivisor_31 : decode cX4_commonDivisor 31 = .ok (.goto (-24), 3) := by decide +kernel
theorem dX4_commonDivisor_34 : decode cX4_commonDivisor 34 = .ok (.iload_n 2, 1) := by decide +kernel
theorem dX4_commonDivisor_35 : decode cX4_commonDivisor 35 = .ok (.ireturn, 1) := by decide +kernel
theorem dX5_init_0 : decode cX5_init 0 = .ok (.aload_n 0, 1) := by decide +kernel
theorem dX5_init_1 : decode cX5_init 1 = .ok (.invokespecial 1, 3) := by decide +kernel
theorem dX5_init_4 : decode cX5_init 4 = .ok (.aload_n 0, 1) := by decide +kernel
theorem dX5_init_5 : decode cX5_init 5 = .ok (.new 7, 3) := by decide +kernel
theorem dX5_init_8 : decode cX5_init 8 = .ok (.dup, 1) := by decide +kernel
theorem dX5_init_9 : decode cX5_init 9 = .ok (.invokespecial 9, 3) := by decide +kernel
theorem dX5_init_12 : decode cX5_init 12 = .ok (.putfield 10, 3) := by decide +kernel
theorem dX5_init_15 : decode cX5_init 15 = .ok (.aload_n 0, 1) := by decide +kernel
theorem dX5_init_16 : decode cX5_init 16 = .ok (.new 16, 3) := by decide +kernel
theorem dX5_init_19 : decode cX5_init 19 = .ok (.dup, 1) := by decide +kernel
theorem dX5_init_20 : decode cX5_init 20 = .ok (.invokespecial 18, 3) := by decide +kernel
theorem dX5_init_23 : decode cX5_init 23 = .ok (.putfield 19, 3) := by decide +kernel
theorem dX5_init_26 : decode cX5_init 26 = .ok (.aload_n 0, 1) := by decide +kernel
theorem dX5_init_27 : decode cX5_init 27 = .ok (.new 23, 3) := by decide +kernel
theorem dX5_init_30 : decode cX5_init 30 = .ok (.dup, 1) := by decide +kernel
theorem dX5_init_31 : decode cX5_init 31 = .ok (.invokespecial 25, 3) := by decide +kernel
theorem dX5_init_34 : decode cX5_init 34 = .ok (.putfield 26, 3) := by decide +kernel
theorem dX5_init_37 : decode cX5_init 37 = .ok (.aload_n 0, 1) := by decide +kernel
theorem dX5_init_38 : decode cX5_init 38 = .ok (.new 30, 3) := by decide +kernel
theorem dX5_init_41 : decode cX5_init 41 = .ok (.dup, 1) := by decide +kernel
theorem dX5_init_42 : decode cX5_init 42 = .ok (.invokespecial 32, 3) := by decide +kernel
theorem dX5_init_45 : decode cX5_init 45 = .ok (.putfield 33, 3) := by decide +kernel
theorem dX5_init_48 : decode cX5_init 48 = .ok (.aload_n 0, 1) := by decide +kernel
theorem dX5_init_49 : decode cX5_init 49 = .ok (.iconst 3, 1) := by decide +kernel
theorem dX5_init_50 : decode cX5_init 50 = .ok (.anewarray 7, 3) := by decide +kernel
theorem dX5_init_53 : decode cX5_init 53 = .ok (.putfield 37, 3) := by decide +kernel
theorem dX5_init_56 : decode cX5_init 56 = .ok (.aload_n 0, 1) := by decide +kernel
theorem dX5_init_57 : decode cX5_init 57 = .ok (.iconst 0, 1) := by decide +kernel
theorem dX5_init_58 : decode cX5_init 58 = .ok (.putfield 41, 3) := by decide +kernel
theorem dX5_init_61 : decode cX5_init 61 = .ok (.iconst 0, 1) := by decide +kernel
theorem dX5_init_62 : decode cX5_init 62 = .ok (.istore_n 1, 1) := by decide +kernel
theorem dX5_init_63 : decode cX5_init 63 = .ok (.iload_n 1, 1) := by decide +kernel
theorem dX5_init_64 : decode cX5_init 64 = .ok (.iconst 3, 1) := by decide +kernel
theorem dX5_init_65 : decode cX5_init 65 = .ok (.if_icmp .ge 22, 3) := by decide +kernel
theorem dX5_init_68 : decode cX5_init 68 = .ok (.aload_n 0, 1) := by decide +kernel
theorem dX5_init_69 : decode cX5_init 69 = .ok (.getfield 37, 3) := by decide +kernel
theorem dX5_init_72 : decode cX5_init 72 = .ok (.iload_n 1, 1) := by decide +kernel
theorem dX5_init_73 : decode cX5_init 73 = .ok (.new 7, 3) := by decide +kernel
theorem dX5_init_76 : decode cX5_init 76 = .ok (.dup, 1) := by decide +kernel
theorem dX5_init_77 : decode cX5_init 77 = .ok (.invokespecial 9, 3) := by decide +kernel
theorem dX5_init_80 : decode cX5_init 80 = .ok (.aastore, 1) := by decide +kernel
theorem dX5_init_81 : decode cX5_init 81 = .ok (.iinc 1 1, 3) := by decide +kernel
theorem dX5_init_84 : decode cX5_init 84 = .ok (.goto (-21), 3) := by decide +kernel
theorem dX5_init_87 : decode cX5_init 87 = .ok (.return_, 1) := by decide +kernel
theorem dX5_anew_0 : decode cX5_anew 0 = .ok (.aload_n 0, 1) := by decide +kernel
theorem dX5_anew_1 : decode cX5_anew 1 = .ok (.getfield 10, 3) := by decide +kernel
theorem dX5_anew_4 : decode cX5_anew 4 = .ok (.getfield 45, 3) := by decide +kernel
theorem dX5_anew_7 : decode cX5_anew 7 = .ok (.istore_n 1, 1) := by decide +kernel
theorem dX5_anew_8 : decode cX5_anew 8 = .ok (.aload_n 0, 1) := by decide +kernel
theorem dX5_anew_9 : decode cX5_anew 9 = .ok (.getfield 10, 3) := by decide +kernel
theorem dX5_anew_12 : decode cX5_anew 12 = .ok (.invokevirtual 48, 3) := by decide +kernel
theorem dX5_anew_15 : decode cX5_anew 15 = .ok (.iload_n 1, 1) := by decide +kernel
theorem dX5_anew_16 : decode cX5_anew 16 = .ok (.ireturn, 1) := by decide +kernel
theorem dX5_rule_0 : decode cX5_rule 0 = .ok (.iload_n 1, 1) := by decide +kernel
theorem dX5_rule_1 : decode cX5_rule 1 = .ok (.tableswitch 96 0 2 #[27, 49, 71], 27) := by decide +kernel
theorem dX5_rule_28 : decode cX5_rule 28 = .ok (.iload_n 2, 1) := by decide +kernel
theorem dX5_rule_29 : decode cX5_rule 29 = .ok (.iconst 0, 1) := by decide +kernel
theorem dX5_rule_30 : decode cX5_rule 30 = .ok (.iconst 5, 1) := by decide +kernel
theorem dX5_rule_31 : decode cX5_rule 31 = .ok (.invokestatic 51, 3) := by decide +kernel
theorem dX5_rule_34 : decode cX5_rule 34 = .ok (.ifCond .eq 14, 3) := by decide +kernel
theorem dX5_rule_37 : decode cX5_rule 37 = .ok (.aload_n 0, 1) := by decide +kernel
theorem dX5_rule_38 : decode cX5_rule 38 = .ok (.getfield 10, 3) := by decide +kernel
theorem dX5_rule_41 : decode cX5_rule 41 = .ok (.iload_n 2, 1) := by decide +kernel
theorem dX5_rule_42 : decode cX5_rule 42 = .ok (.invokevirtual 55, 3) := by decide +kernel
theorem dX5_rule_45 : decode cX5_rule 45 = .ok (.goto 4, 3) := by decide +kernel
theorem dX5_rule_48 : decode cX5_rule 48 = .ok (.iconst (-1), 1) := by decide +kernel
theorem dX5_rule_49 : decode cX5_rule 49 = .ok (.ireturn, 1) := by decide +kernel
theorem dX5_rule_50 : decode cX5_rule 50 = .ok (.iload_n 2, 1) := by decide +kernel
theorem dX5_rule_51 : decode cX5_rule 51 = .ok (.iconst 0, 1) := by decide +kernel
theorem dX5_rule_52 : decode cX5_rule 52 = .ok (.iconst 5, 1) := by decide +kernel
theorem dX5_rule_53 : decode cX5_rule 53 = .ok (.invokestatic 51, 3) := by decide +kernel
theorem dX5_rule_56 : decode cX5_rule 56 = .ok (.ifCond .eq 14, 3) := by decide +kernel
theorem dX5_rule_59 : decode cX5_rule 59 = .ok (.aload_n 0, 1) := by decide +kernel
theorem dX5_rule_60 : decode cX5_rule 60 = .ok (.getfield 10, 3) := by decide +kernel
theorem dX5_rule_63 : decode cX5_rule 63 = .ok (.iload_n 2, 1) := by decide +kernel
theorem dX5_rule_64 : decode cX5_rule 64 = .ok (.invokevirtual 59, 3) := by decide +kernel
theorem dX5_rule_67 : decode cX5_rule 67 = .ok (.goto 4, 3) := by decide +kernel
theorem dX5_rule_70 : decode cX5_rule 70 = .ok (.iconst (-1), 1) := by decide +kernel
theorem dX5_rule_71 : decode cX5_rule 71 = .ok (.ireturn, 1) := by decide +kernel
theorem dX5_rule_72 : decode cX5_rule 72 = .ok (.iload_n 2, 1) := by decide +kernel
theorem dX5_rule_73 : decode cX5_rule 73 = .ok (.bipush 10, 2) := by decide +kernel
theorem dX5_rule_75 : decode cX5_rule 75 = .ok (.sipush 400, 3) := by decide +kernel
theorem dX5_rule_78 : decode cX5_rule 78 = .ok (.invokestatic 51, 3) := by decide +kernel
theorem dX5_rule_81 : decode cX5_rule 81 = .ok (.ifCond .eq 14, 3) := by decide +kernel
theorem dX5_rule_84 : decode cX5_rule 84 = .ok (.aload_n 0, 1) := by decide +kernel
theorem dX5_rule_85 : decode cX5_rule 85 = .ok (.getfield 10, 3) := by decide +kernel
theorem dX5_rule_88 : decode cX5_rule 88 = .ok (.iload_n 2, 1) := by decide +kernel
theorem dX5_rule_89 : decode cX5_rule 89 = .ok (.invokevirtual 62, 3) := by decide +kernel
theorem dX5_rule_92 : decode cX5_rule 92 = .ok (.goto 4, 3) := by decide +kernel
theorem dX5_rule_95 : decode cX5_rule 95 = .ok (.iconst (-1), 1) := by decide +kernel
theorem dX5_rule_96 : decode cX5_rule 96 = .ok (.ireturn, 1) := by decide +kernel
theorem dX5_rule_97 : decode cX5_rule 97 = .ok (.iconst (-1), 1) := by decide +kernel
theorem dX5_rule_98 : decode cX5_rule 98 = .ok (.ireturn, 1) := by decide +kernel
theorem dX5_seed_0 : decode cX5_seed 0 = .ok (.iload_n 1, 1) := by decide +kernel
theorem dX5_seed_1 : decode cX5_seed 1 = .ok (.iconst 1, 1) := by decide +kernel
theorem dX5_seed_2 : decode cX5_seed 2 = .ok (.if_icmp .lt 12, 3) := by decide +kernel
theorem dX5_seed_5 : decode cX5_seed 5 = .ok (.iload_n 1, 1) := by decide +kernel
theorem dX5_seed_6 : decode cX5_seed 6 = .ok (.i2l, 1) := by decide +kernel
theorem dX5_seed_7 : decode cX5_seed 7 = .ok (.ldc2_w 65, 3) := by decide +kernel
theorem dX5_seed_10 : decode cX5_seed 10 = .ok (.lcmp, 1) := by decide +kernel
theorem dX5_seed_11 : decode cX5_seed 11 = .ok (.ifCond .lt 5, 3) := by decide +kernel
theorem dX5_seed_14 : decode cX5_seed 14 = .ok (.iconst (-1), 1) := by decide +kernel
theorem dX5_seed_15 : decode cX5_seed 15 = .ok (.ireturn, 1) := by decide +kernel
theorem dX5_seed_16 : decode cX5_seed 16 = .ok (.aload_n 0, 1) := by decide +kernel
theorem dX5_seed_17 : decode cX5_seed 17 = .ok (.getfield 10, 3) := by decide +kernel
theorem dX5_seed_20 : decode cX5_seed 20 = .ok (.iload_n 1, 1) := by decide +kernel
theorem dX5_seed_21 : decode cX5_seed 21 = .ok (.i2l, 1) := by decide +kernel
theorem dX5_seed_22 : decode cX5_seed 22 = .ok (.putfield 67, 3) := by decide +kernel
theorem dX5_seed_25 : decode cX5_seed 25 = .ok (.iconst 0, 1) := by decide +kernel
theorem dX5_seed_26 : decode cX5_seed 26 = .ok (.ireturn, 1) := by decide +kernel
theorem dX5_put_0 : decode cX5_put 0 = .ok (.iload_n 1, 1) := by decide +kernel
theorem dX5_put_1 : decode cX5_put 1 = .ok (.invokestatic 71, 3) := by decide +kernel
theorem dX5_put_4 : decode cX5_put 4 = .ok (.ifCond .eq 11, 3) := by decide +kernel
theorem dX5_put_7 : decode cX5_put 7 = .ok (.iload_n 2, 1) := by decide +kernel
theorem dX5_put_8 : decode cX5_put 8 = .ok (.iload_n 3, 1) := by decide +kernel
theorem dX5_put_9 : decode cX5_put 9 = .ok (.invokestatic 75, 3) := by decide +kernel
theorem dX5_put_12 : decode cX5_put 12 = .ok (.ifCond .ne 5, 3) := by decide +kernel
theorem dX5_put_15 : decode cX5_put 15 = .ok (.iconst (-1), 1) := by decide +kernel
theorem dX5_put_16 : decode cX5_put 16 = .ok (.ireturn, 1) := by decide +kernel
theorem dX5_put_17 : decode cX5_put 17 = .ok (.aload_n 0, 1) := by decide +kernel
theorem dX5_put_18 : decode cX5_put 18 = .ok (.getfield 10, 3) := by decide +kernel
theorem dX5_put_21 : decode cX5_put 21 = .ok (.getfield 79, 3) := by decide +kernel
theorem dX5_put_24 : decode cX5_put 24 = .ok (.iload_n 1, 1) := by decide +kernel
theorem dX5_put_25 : decode cX5_put 25 = .ok (.iload_n 2, 1) := by decide +kernel
theorem dX5_put_26 : decode cX5_put 26 = .ok (.iload_n 3, 1) := by decide +kernel
theorem dX5_put_27 : decode cX5_put 27 = .ok (.invokevirtual 83, 3) := by decide +kernel
theorem dX5_put_30 : decode cX5_put 30 = .ok (.aload_n 0, 1) := by decide +kernel
theorem dX5_put_31 : decode cX5_put 31 = .ok (.getfield 10, 3) := by decide +kernel
theorem dX5_put_34 : decode cX5_put 34 = .ok (.invokevirtual 89, 3) := by decide +kernel
theorem dX5_put_37 : decode cX5_put 37 = .ok (.iconst 0, 1) := by decide +kernel
theorem dX5_put_38 : decode cX5_put 38 = .ok (.ireturn, 1) := by decide +kernel
theorem dX5_about_0 : decode cX5_about 0 = .ok (.iload_n 1, 1) := by decide +kernel
theorem dX5_about_1 : decode cX5_about 1 = .ok (.invokestatic 71, 3) := by decide +kernel
theorem dX5_about_4 : decode cX5_about 4 = .ok (.ifCond .ne 5, 3) := by decide +kernel
theorem dX5_about_7 : decode cX5_about 7 = .ok (.iconst (-1), 1) := by decide +kernel
theorem dX5_about_8 : decode cX5_about 8 = .ok (.ireturn, 1) := by decide +kernel
theorem dX5_about_9 : decode cX5_about 9 = .ok (.aload_n 0, 1) := by decide +kernel
theorem dX5_about_10 : decode cX5_about 10 = .ok (.getfield 10, 3) := by decide +kernel
theorem dX5_about_13 : decode cX5_about 13 = .ok (.getfield 79, 3) := by decide +kernel
theorem dX5_about_16 : decode cX5_about 16 = .ok (.astore_n 3, 1) := by decide +kernel
theorem dX5_about_17 : decode cX5_about 17 = .ok (.iload_n 2, 1) := by decide +kernel
theorem dX5_about_18 : decode cX5_about 18 = .ok (.tableswitch 115 0 6 #[42, 68, 75, 82, 96, 102, 109], 42) := by decide +kernel
theorem dX5_about_60 : decode cX5_about 60 = .ok (.aload_n 3, 1) := by decide +kernel
theorem dX5_about_61 : decode cX5_about 61 = .ok (.iload_n 1, 1) := by decide +kernel
theorem dX5_about_62 : decode cX5_about 62 = .ok (.invokevirtual 92, 3) := by decide +kernel
theorem dX5_about_65 : decode cX5_about 65 = .ok (.ifCond .eq 7, 3) := by decide +kernel
theorem dX5_about_68 : decode cX5_about 68 = .ok (.iconst 2, 1) := by decide +kernel
theorem dX5_about_69 : decode cX5_about 69 = .ok (.goto 16, 3) := by decide +kernel
theorem dX5_about_72 : decode cX5_about 72 = .ok (.aload_n 3, 1) := by decide +kernel
theorem dX5_about_73 : decode cX5_about 73 = .ok (.iload_n 1, 1) := by decide +kernel
theorem dX5_about_74 : decode cX5_about 74 = .ok (.invokevirtual 95, 3) := by decide +kernel
theorem dX5_about_77 : decode cX5_about 77 = .ok (.ifCond .eq 7, 3) := by decide +kernel
theorem dX5_about_80 : decode cX5_about 80 = .ok (.iconst 1, 1) := by decide +kernel
theorem dX5_about_81 : decode cX5_about 81 = .ok (.goto 4, 3) := by decide +kernel
theorem dX5_about_84 : decode cX5_about 84 = .ok (.iconst 0, 1) := by decide +kernel
theorem dX5_about_85 : decode cX5_about 85 = .ok (.ireturn, 1) := by decide +kernel
theorem dX5_about_86 : decode cX5_about 86 = .ok (.aload_n 3, 1) := by decide +kernel
theorem dX5_about_87 : decode cX5_about 87 = .ok (.getfield 98, 3) := by decide +kernel
theorem dX5_about_90 : decode cX5_about 90 = .ok (.iload_n 1, 1) := by decide +kernel
theorem dX5_about_91 : decode cX5_about 91 = .ok (.iaload, 1) := by decide +kernel
theorem dX5_about_92 : decode cX5_about 92 = .ok (.ireturn, 1) := by decide +kernel
theorem dX5_about_93 : decode cX5_about 93 = .ok (.aload_n 3, 1) := by decide +kernel
theorem dX5_about_94 : decode cX5_about 94 = .ok (.getfield 102, 3) := by decide +kernel
theorem dX5_about_97 : decode cX5_about 97 = .ok (.iload_n 1, 1) := by decide +kernel
theorem dX5_about_98 : decode cX5_about 98 = .ok (.iaload, 1) := by decide +kernel
theorem dX5_about_99 : decode cX5_about 99 = .ok (.ireturn, 1) := by decide +kernel
theorem dX5_about_100 : decode cX5_about 100 = .ok (.aload_n 3, 1) := by decide +kernel
theorem dX5_about_101 : decode cX5_about 101 = .ok (.iload_n 1, 1) := by decide +kernel
theorem dX5_about_102 : decode cX5_about 102 = .ok (.invokevirtual 105, 3) := by decide +kernel
theorem dX5_about_105 : decode cX5_about 105 = .ok (.ifCond .eq 7, 3) := by decide +kernel
theorem dX5_about_108 : decode cX5_about 108 = .ok (.iconst 1, 1) := by decide +kernel
theorem dX5_about_109 : decode cX5_about 109 = .ok (.goto 4, 3) := by decide +kernel
theorem dX5_about_112 : decode cX5_about 112 = .ok (.iconst 0, 1) := by decide +kernel
theorem dX5_about_113 : decode cX5_about 113 = .ok (.ireturn, 1) := by decide +kernel
theorem dX5_about_114 : decode cX5_about 114 = .ok (.aload_n 3, 1) := by decide +kernel
theorem dX5_about_115 : decode cX5_about 115 = .ok (.iload_n 1, 1) := by decide +kernel
theorem dX5_about_116 : decode cX5_about 116 = .ok (.invokevirtual 108, 3) := by decide +kernel
theorem dX5_about_119 : decode cX5_about 119 = .ok (.ireturn, 1) := by decide +kernel
theorem dX5_about_120 : decode cX5_about 120 = .ok (.aload_n 3, 1) := by decide +kernel
theorem dX5_about_121 : decode cX5_about 121 = .ok (.getfield 111, 3) := by decide +kernel
theorem dX5_about_124 : decode cX5_about 124 = .ok (.iload_n 1, 1) := by decide +kernel
theorem dX5_about_125 : decode cX5_about 125 = .ok (.iaload, 1) := by decide +kernel
theorem dX5_about_126 : decode cX5_about 126 = .ok (.ireturn, 1) := by decide +kernel
theorem dX5_about_127 : decode cX5_about 127 = .ok (.aload_n 3, 1) := by decide +kernel
theorem dX5_about_128 : decode cX5_about 128 = .ok (.iload_n 1, 1) := by decide +kernel
theorem dX5_about_129 : decode cX5_about 129 = .ok (.invokevirtual 114, 3) := by decide +kernel
theorem dX5_about_132 : decode cX5_about 132 = .ok (.ireturn, 1) := by decide +kernel
theorem dX5_about_133 : decode cX5_about 133 = .ok (.iconst (-1), 1) := by decide +kernel
theorem dX5_about_134 : decode cX5_about 134 = .ok (.ireturn, 1) := by decide +kernel
theorem dX5_shoot_0 : decode cX5_shoot 0 = .ok (.iload_n 1, 1) := by decide +kernel
theorem dX5_shoot_1 : decode cX5_shoot 1 = .ok (.invokestatic 71, 3) := by decide +kernel
theorem dX5_shoot_4 : decode cX5_shoot 4 = .ok (.ifCond .eq 11, 3) := by decide +kernel
theorem dX5_shoot_7 : decode cX5_shoot 7 = .ok (.iload_n 2, 1) := by decide +kernel
theorem dX5_shoot_8 : decode cX5_shoot 8 = .ok (.iload_n 3, 1) := by decide +kernel
theorem dX5_shoot_9 : decode cX5_shoot 9 = .ok (.invokestatic 117, 3) := by decide +kernel
theorem dX5_shoot_12 : decode cX5_shoot 12 = .ok (.ifCond .ne 5, 3) := by decide +kernel
theorem dX5_shoot_15 : decode cX5_shoot 15 = .ok (.iconst (-1), 1) := by decide +kernel
theorem dX5_shoot_16 : decode cX5_shoot 16 = .ok (.ireturn, 1) := by decide +kernel
theorem dX5_shoot_17 : decode cX5_shoot 17 = .ok (.aload_n 0, 1) := by decide +kernel
theorem dX5_shoot_18 : decode cX5_shoot 18 = .ok (.getfield 10, 3) := by decide +kernel
theorem dX5_shoot_21 : decode cX5_shoot 21 = .ok (.iload_n 1, 1) := by decide +kernel
theorem dX5_shoot_22 : decode cX5_shoot 22 = .ok (.invokevirtual 120, 3) := by decide +kernel
theorem dX5_shoot_25 : decode cX5_shoot 25 = .ok (.ifCond .ne 6, 3) := by decide +kernel
theorem dX5_shoot_28 : decode cX5_shoot 28 = .ok (.bipush (-2), 2) := by decide +kernel
theorem dX5_shoot_30 : decode cX5_shoot 30 = .ok (.ireturn, 1) := by decide +kernel
theorem dX5_shoot_31 : decode cX5_shoot 31 = .ok (.aload_n 0, 1) := by decide +kernel
theorem dX5_shoot_32 : decode cX5_shoot 32 = .ok (.getfield 10, 3) := by decide +kernel
theorem dX5_shoot_35 : decode cX5_shoot 35 = .ok (.iload_n 1, 1) := by decide +kernel
theorem dX5_shoot_36 : decode cX5_shoot 36 = .ok (.iload_n 2, 1) := by decide +kernel
theorem dX5_shoot_37 : decode cX5_shoot 37 = .ok (.iload_n 3, 1) := by decide +kernel
theorem dX5_shoot_38 : decode cX5_shoot 38 = .ok (.invokevirtual 123, 3) := by decide +kernel
theorem dX5_shoot_41 : decode cX5_shoot 41 = .ok (.ifCond .eq 7, 3) := by decide +kernel
theorem dX5_shoot_44 : decode cX5_shoot 44 = .ok (.iconst 1, 1) := by decide +kernel
theorem dX5_shoot_45 : decode cX5_shoot 45 = .ok (.goto 4, 3) := by decide +kernel
theorem dX5_shoot_48 : decode cX5_shoot 48 = .ok (.iconst 0, 1) := by decide +kernel
theorem dX5_shoot_49 : decode cX5_shoot 49 = .ok (.ireturn, 1) := by decide +kernel
theorem dX5_blow_0 : decode cX5_blow 0 = .ok (.iload_n 1, 1) := by decide +kernel
theorem dX5_blow_1 : decode cX5_blow 1 = .ok (.invokestatic 71, 3) := by decide +kernel
theorem dX5_blow_4 : decode cX5_blow 4 = .ok (.ifCond .ne 5, 3) := by decide +kernel
theorem dX5_blow_7 : decode cX5_blow 7 = .ok (.iconst (-1), 1) := by decide +kernel
theorem dX5_blow_8 : decode cX5_blow 8 = .ok (.ireturn, 1) := by decide +kernel
theorem dX5_blow_9 : decode cX5_blow 9 = .ok (.aload_n 0, 1) := by decide +kernel
theorem dX5_blow_10 : decode cX5_blow 10 = .ok (.getfield 10, 3) := by decide +kernel
theorem dX5_blow_13 : decode cX5_blow 13 = .ok (.getfield 79, 3) := by decide +kernel
theorem dX5_blow_16 : decode cX5_blow 16 = .ok (.iload_n 1, 1) := by decide +kernel
theorem dX5_blow_17 : decode cX5_blow 17 = .ok (.invokevirtual 114, 3) := by decide +kernel
theorem dX5_blow_20 : decode cX5_blow 20 = .ok (.istore_n 2, 1) := by decide +kernel
theorem dX5_blow_21 : decode cX5_blow 21 = .ok (.aload_n 0, 1) := by decide +kernel
theorem dX5_blow_22 : decode cX5_blow 22 = .ok (.getfield 10, 3) := by decide +kernel
theorem dX5_blow_25 : decode cX5_blow 25 = .ok (.iload_n 1, 1) := by decide +kernel
theorem dX5_blow_26 : decode cX5_blow 26 = .ok (.invokevirtual 120, 3) := by decide +kernel
theorem dX5_blow_29 : decode cX5_blow 29 = .ok (.ifCond .eq 11, 3) := by decide +kernel
theorem dX5_blow_32 : decode cX5_blow 32 = .ok (.iload_n 2, 1) := by decide +kernel
theorem dX5_blow_33 : decode cX5_blow 33 = .ok (.invokestatic 126, 3) := by decide +kernel
theorem dX5_blow_36 : decode cX5_blow 36 = .ok (.iconst 2, 1) := by decide +kernel
theorem dX5_blow_37 : decode cX5_blow 37 = .ok (.if_icmp .ge 6, 3) := by decide +kernel
theorem dX5_blow_40 : decode cX5_blow 40 = .ok (.bipush (-2), 2) := by decide +kernel
theorem dX5_blow_42 : decode cX5_blow 42 = .ok (.ireturn, 1) := by decide +kernel
theorem dX5_blow_43 : decode cX5_blow 43 = .ok (.aload_n 0, 1) := by decide +kernel
theorem dX5_blow_44 : decode cX5_blow 44 = .ok (.getfield 10, 3) := by decide +kernel
theorem dX5_blow_47 : decode cX5_blow 47 = .ok (.iload_n 2, 1) := by decide +kernel
theorem dX5_blow_48 : decode cX5_blow 48 = .ok (.invokevirtual 131, 3) := by decide +kernel
theorem dX5_blow_51 : decode cX5_blow 51 = .ok (.iload_n 2, 1) := by decide +kernel
theorem dX5_blow_52 : decode cX5_blow 52 = .ok (.ireturn, 1) := by decide +kernel
theorem dX5_game_0 : decode cX5_game 0 = .ok (.aload_n 0, 1) := by decide +kernel
theorem dX5_game_1 : decode cX5_game 1 = .ok (.getfield 10, 3) := by decide +kernel
theorem dX5_game_4 : decode cX5_game 4 = .ok (.invokevirtual 135, 3) := by decide +kernel
theorem dX5_game_7 : decode cX5_game 7 = .ok (.istore_n 2, 1) := by decide +kernel
theorem dX5_game_8 : decode cX5_game 8 = .ok (.iload_n 1, 1) := by decide +kernel
theorem dX5_game_9 : decode cX5_game 9 = .ok (.tableswitch 104 0 4 #[35, 52, 60, 68, 78], 35) := by decide +kernel
theorem dX5_game_44 : decode cX5_game 44 = .ok (.iload_n 2, 1) := by decide +kernel
theorem dX5_game_45 : decode cX5_game 45 = .ok (.ifCond .eq 8, 3) := by decide +kernel
theorem dX5_game_48 : decode cX5_game 48 = .ok (.bipush (-4), 2) := by decide +kernel
theorem dX5_game_50 : decode cX5_game 50 = .ok (.goto 10, 3) := by decide +kernel
theorem dX5_game_53 : decode cX5_game 53 = .ok (.aload_n 0, 1) := by decide +kernel
theorem dX5_game_54 : decode cX5_game 54 = .ok (.getfield 10, 3) := by decide +kernel
theorem dX5_game_57 : decode cX5_game 57 = .ok (.getfield 139, 3) := by decide +kernel
theorem dX5_game_60 : decode cX5_game 60 = .ok (.ireturn, 1) := by decide +kernel
theorem dX5_game_61 : decode cX5_game 61 = .ok (.aload_n 0, 1) := by decide +kernel
theorem dX5_game_62 : decode cX5_game 62 = .ok (.getfield 10, 3) := by decide +kernel
theorem dX5_game_65 : decode cX5_game 65 = .ok (.getfield 45, 3) := by decide +kernel
theorem dX5_game_68 : decode cX5_game 68 = .ok (.ireturn, 1) := by decide +kernel
theorem dX5_game_69 : decode cX5_game 69 = .ok (.aload_n 0, 1) := by decide +kernel
theorem dX5_game_70 : decode cX5_game 70 = .ok (.getfield 10, 3) := by decide +kernel
theorem dX5_game_73 : decode cX5_game 73 = .ok (.invokevirtual 142, 3) := by decide +kernel
theorem dX5_game_76 : decode cX5_game 76 = .ok (.ireturn, 1) := by decide +kernel
theorem dX5_game_77 : decode cX5_game 77 = .ok (.iload_n 2, 1) := by decide +kernel
theorem dX5_game_78 : decode cX5_game 78 = .ok (.ifCond .eq 7, 3) := by decide +kernel
theorem dX5_game_81 : decode cX5_game 81 = .ok (.iconst 1, 1) := by decide +kernel
theorem dX5_game_82 : decode cX5_game 82 = .ok (.goto 4, 3) := by decide +kernel
theorem dX5_game_85 : decode cX5_game 85 = .ok (.iconst 0, 1) := by decide +kernel
theorem dX5_game_86 : decode cX5_game 86 = .ok (.ireturn, 1) := by decide +kernel
theorem dX5_game_87 : decode cX5_game 87 = .ok (.iload_n 2, 1) := by decide +kernel
theorem dX5_game_88 : decode cX5_game 88 = .ok (.ifCond .eq 7, 3) := by decide +kernel
theorem dX5_game_91 : decode cX5_game 91 = .ok (.iconst 0, 1) := by decide +kernel
theorem dX5_game_92 : decode cX5_game 92 = .ok (.goto 20, 3) := by decide +kernel
theorem dX5_game_95 : decode cX5_game 95 = .ok (.aload_n 0, 1) := by decide +kernel
theorem dX5_game_96 : decode cX5_game 96 = .ok (.getfield 10, 3) := by decide +kernel
theorem dX5_game_99 : decode cX5_game 99 = .ok (.getfield 79, 3) := by decide +kernel
theorem dX5_game_102 : decode cX5_game 102 = .ok (.aload_n 0, 1) := by decide +kernel
theorem dX5_game_103 : decode cX5_game 103 = .ok (.getfield 10, 3) := by decide +kernel
theorem dX5_game_106 : decode cX5_game 106 = .ok (.getfield 139, 3) := by decide +kernel
theorem dX5_game_109 : decode cX5_game 109 = .ok (.invokevirtual 146, 3) := by decide +kernel
theorem dX5_game_112 : decode cX5_game 112 = .ok (.ireturn, 1) := by decide +kernel
theorem dX5_game_113 : decode cX5_game 113 = .ok (.iconst (-1), 1) := by decide +kernel
theorem dX5_game_114 : decode cX5_game 114 = .ok (.ireturn, 1) := by decide +kernel
theorem dX5_score_0 : decode cX5_score 0 = .ok (.iload_n 1, 1) := by decide +kernel
theorem dX5_score_1 : decode cX5_score 1 = .ok (.invokestatic 149, 3) := by decide +kernel
theorem dX5_score_4 : decode cX5_score 4 = .ok (.ifCond .eq 17, 3) := by decide +kernel
theorem dX5_score_7 : decode cX5_score 7 = .ok (.aload_n 0, 1) := by decide +kernel
theorem dX5_score_8 : decode cX5_score 8 = .ok (.getfield 10, 3) := by decide +kernel
theorem dX5_score_11 : decode cX5_score 11 = .ok (.getfield 79, 3) := by decide +kernel
theorem dX5_score_14 : decode cX5_score 14 = .ok (.iload_n 1, 1) := by decide +kernel
theorem dX5_score_15 : decode cX5_score 15 = .ok (.invokevirtual 152, 3) := by decide +kernel
theorem dX5_score_18 : decode cX5_score 18 = .ok (.goto 4, 3) := by decide +kernel
theorem dX5_score_21 : decode cX5_score 21 = .ok (.iconst (-1), 1) := by decide +kernel
theorem dX5_score_22 : decode cX5_score 22 = .ok (.ireturn, 1) := by decide +kernel
theorem dX5_twelfths_0 : decode cX5_twelfths 0 = .ok (.iload_n 1, 1) := by decide +kernel
theorem dX5_twelfths_1 : decode cX5_twelfths 1 = .ok (.invokestatic 149, 3) := by decide +kernel
theorem dX5_twelfths_4 : decode cX5_twelfths 4 = .ok (.ifCond .eq 11, 3) := by decide +kernel
theorem dX5_twelfths_7 : decode cX5_twelfths 7 = .ok (.aload_n 0, 1) := by decide +kernel
theorem dX5_twelfths_8 : decode cX5_twelfths 8 = .ok (.iload_n 1, 1) := by decide +kernel
theorem dX5_twelfths_9 : decode cX5_twelfths 9 = .ok (.invokevirtual 155, 3) := by decide +kernel
theorem dX5_twelfths_12 : decode cX5_twelfths 12 = .ok (.goto 4, 3) := by decide +kernel
theorem dX5_twelfths_15 : decode cX5_twelfths 15 = .ok (.iconst (-1), 1) := by decide +kernel
theorem dX5_twelfths_16 : decode cX5_twelfths 16 = .ok (.ireturn, 1) := by decide +kernel
theorem dX5_points_0 : decode cX5_points 0 = .ok (.iload_n 1, 1) := by decide +kernel
theorem dX5_points_1 : decode cX5_points 1 = .ok (.ifCond .eq 10, 3) := by decide +kernel
theorem dX5_points_4 : decode cX5_points 4 = .ok (.iload_n 1, 1) := by decide +kernel
theorem dX5_points_5 : decode cX5_points 5 = .ok (.iconst 1, 1) := by decide +kernel
theorem dX5_points_6 : decode cX5_points 6 = .ok (.if_icmp .eq 5, 3) := by decide +kernel
theorem dX5_points_9 : decode cX5_points 9 = .ok (.iconst (-1), 1) := by decide +kernel
theorem dX5_points_10 : decode cX5_points 10 = .ok (.ireturn, 1) := by decide +kernel
theorem dX5_points_11 : decode cX5_points 11 = .ok (.iconst 0, 1) := by decide +kernel
theorem dX5_points_12 : decode cX5_points 12 = .ok (.istore_n 2, 1) := by decide +kernel
theorem dX5_points_13 : decode cX5_points 13 = .ok (.iconst 0, 1) := by decide +kernel
theorem dX5_points_14 : decode cX5_points 14 = .ok (.istore_n 3, 1) := by decide +kernel
theorem dX5_points_15 : decode cX5_points 15 = .ok (.iload_n 3, 1) := by decide +kernel
theorem dX5_points_16 : decode cX5_points 16 = .ok (.iconst 4, 1) := by decide +kernel
theorem dX5_points_17 : decode cX5_points 17 = .ok (.if_icmp .ge 65, 3) := by decide +kernel
theorem dX5_points_20 : decode cX5_points 20 = .ok (.iload_n 3, 1) := by decide +kernel
theorem dX5_points_21 : decode cX5_points 21 = .ok (.iconst 2, 1) := by decide +kernel
theorem dX5_points_22 : decode cX5_points 22 = .ok (.irem, 1) := by decide +kernel
theorem dX5_points_23 : decode cX5_points 23 = .ok (.iload_n 1, 1) := by decide +kernel
theorem dX5_points_24 : decode cX5_points 24 = .ok (.if_icmp .ne 7, 3) := by decide +kernel
theorem dX5_points_27 : decode cX5_points 27 = .ok (.iconst 1, 1) := by decide +kernel
theorem dX5_points_28 : decode cX5_points 28 = .ok (.goto 4, 3) := by decide +kernel
theorem dX5_points_31 : decode cX5_points 31 = .ok (.iconst 0, 1) := by decide +kernel
theorem dX5_points_32 : decode cX5_points 32 = .ok (.istore 4, 2) := by decide +kernel
theorem dX5_points_34 : decode cX5_points 34 = .ok (.iload 4, 2) := by decide +kernel
theorem dX5_points_36 : decode cX5_points 36 = .ok (.ifCond .eq 11, 3) := by decide +kernel
theorem dX5_points_39 : decode cX5_points 39 = .ok (.iload_n 2, 1) := by decide +kernel
theorem dX5_points_40 : decode cX5_points 40 = .ok (.aload_n 0, 1) := by decide +kernel
theorem dX5_points_41 : decode cX5_points 41 = .ok (.iload_n 3, 1) := by decide +kernel
theorem dX5_points_42 : decode cX5_points 42 = .ok (.invokevirtual 155, 3) := by decide +kernel
theorem dX5_points_45 : decode cX5_points 45 = .ok (.iadd, 1) := by decide +kernel
theorem dX5_points_46 : decode cX5_points 46 = .ok (.istore_n 2, 1) := by decide +kernel
theorem dX5_points_47 : decode cX5_points 47 = .ok (.aload_n 0, 1) := by decide +kernel
theorem dX5_points_48 : decode cX5_points 48 = .ok (.getfield 10, 3) := by decide +kernel
theorem dX5_points_51 : decode cX5_points 51 = .ok (.getfield 79, 3) := by decide +kernel
theorem dX5_points_54 : decode cX5_points 54 = .ok (.iload_n 3, 1) := by decide +kernel
theorem dX5_points_55 : decode cX5_points 55 = .ok (.invokevirtual 158, 3) := by decide +kernel
theorem dX5_points_58 : decode cX5_points 58 = .ok (.ifCond .eq 18, 3) := by decide +kernel
theorem dX5_points_61 : decode cX5_points 61 = .ok (.iload_n 2, 1) := by decide +kernel
theorem dX5_points_62 : decode cX5_points 62 = .ok (.iload 4, 2) := by decide +kernel
theorem dX5_points_64 : decode cX5_points 64 = .ok (.ifCond .eq 8, 3) := by decide +kernel
theorem dX5_points_67 : decode cX5_points 67 = .ok (.bipush 12, 2) := by decide +kernel
theorem dX5_points_69 : decode cX5_points 69 = .ok (.goto 5, 3) := by decide +kernel
theorem dX5_points_72 : decode cX5_points 72 = .ok (.bipush (-12), 2) := by decide +kernel
theorem dX5_points_74 : decode cX5_points 74 = .ok (.iadd, 1) := by decide +kernel
theorem dX5_points_75 : decode cX5_points 75 = .ok (.istore_n 2, 1) := by decide +kernel
theorem dX5_points_76 : decode cX5_points 76 = .ok (.iinc 3 1, 3) := by decide +kernel
theorem dX5_points_79 : decode cX5_points 79 = .ok (.goto (-64), 3) := by decide +kernel
theorem dX5_points_82 : decode cX5_points 82 = .ok (.iload_n 2, 1) := by decide +kernel
theorem dX5_points_83 : decode cX5_points 83 = .ok (.ireturn, 1) := by decide +kernel
theorem dX5_chance_0 : decode cX5_chance 0 = .ok (.iload_n 1, 1) := by decide +kernel
theorem dX5_chance_1 : decode cX5_chance 1 = .ok (.invokestatic 71, 3) := by decide +kernel
theorem dX5_chance_4 : decode cX5_chance 4 = .ok (.ifCond .eq 15, 3) := by decide +kernel
theorem dX5_chance_7 : decode cX5_chance 7 = .ok (.iload_n 2, 1) := by decide +kernel
theorem dX5_chance_8 : decode cX5_chance 8 = .ok (.iconst (-1), 1) := by decide +kernel
theorem dX5_chance_9 : decode cX5_chance 9 = .ok (.if_icmp .eq 12, 3) := by decide +kernel
theorem dX5_chance_12 : decode cX5_chance 12 = .ok (.iload_n 2, 1) := by decide +kernel
theorem dX5_chance_13 : decode cX5_chance 13 = .ok (.invokestatic 71, 3) := by decide +kernel
theorem dX5_chance_16 : decode cX5_chance 16 = .ok (.ifCond .ne 5, 3) := by decide +kernel
theorem dX5_chance_19 : decode cX5_chance 19 = .ok (.iconst (-1), 1) := by decide +kernel
theorem dX5_chance_20 : decode cX5_chance 20 = .ok (.ireturn, 1) := by decide +kernel
theorem dX5_chance_21 : decode cX5_chance 21 = .ok (.aload_n 0, 1) := by decide +kernel
theorem dX5_chance_22 : decode cX5_chance 22 = .ok (.getfield 10, 3) := by decide +kernel
theorem dX5_chance_25 : decode cX5_chance 25 = .ok (.getfield 79, 3) := by decide +kernel
theorem dX5_chance_28 : decode cX5_chance 28 = .ok (.astore_n 3, 1) := by decide +kernel
theorem dX5_chance_29 : decode cX5_chance 29 = .ok (.aload_n 3, 1) := by decide +kernel
theorem dX5_chance_30 : decode cX5_chance 30 = .ok (.iload_n 1, 1) := by decide +kernel
theorem dX5_chance_31 : decode cX5_chance 31 = .ok (.invokevirtual 92, 3) := by decide +kernel
theorem dX5_chance_34 : decode cX5_chance 34 = .ok (.ifCond .ne 21, 3) := by decide +kernel
theorem dX5_chance_37 : decode cX5_chance 37 = .ok (.iload_n 2, 1) := by decide +kernel
theorem dX5_chance_38 : decode cX5_chance 38 = .ok (.iload_n 1, 1) := by decide +kernel
theorem dX5_chance_39 : decode cX5_chance 39 = .ok (.if_icmp .eq 16, 3) := by decide +kernel
theorem dX5_chance_42 : decode cX5_chance 42 = .ok (.iload_n 2, 1) := by decide +kernel
theorem dX5_chance_43 : decode cX5_chance 43 = .ok (.iconst (-1), 1) := by decide +kernel
theorem dX5_chance_44 : decode cX5_chance 44 = .ok (.if_icmp .eq 14, 3) := by decide +kernel
theorem dX5_chance_47 : decode cX5_chance 47 = .ok (.aload_n 3, 1) := by decide +kernel
theorem dX5_chance_48 : decode cX5_chance 48 = .ok (.iload_n 2, 1) := by decide +kernel
theorem dX5_chance_49 : decode cX5_chance 49 = .ok (.invokevirtual 95, 3) := by decide +kernel
theorem dX5_chance_52 : decode cX5_chance 52 = .ok (.ifCond .ne 6, 3) := by decide +kernel
theorem dX5_chance_55 : decode cX5_chance 55 = .ok (.bipush (-2), 2) := by decide +kernel
theorem dX5_chance_57 : decode cX5_chance 57 = .ok (.ireturn, 1) := by decide +kernel
theorem dX5_chance_58 : decode cX5_chance 58 = .ok (.aload_n 3, 1) := by decide +kernel
theorem dX5_chance_59 : decode cX5_chance 59 = .ok (.iload_n 1, 1) := by decide +kernel
theorem dX5_chance_60 : decode cX5_chance 60 = .ok (.iload_n 2, 1) := by decide +kernel
theorem dX5_chance_61 : decode cX5_chance 61 = .ok (.invokestatic 161, 3) := by decide +kernel
theorem dX5_chance_64 : decode cX5_chance 64 = .ok (.ireturn, 1) := by decide +kernel
theorem dX5_best_0 : decode cX5_best 0 = .ok (.iload_n 1, 1) := by decide +kernel
theorem dX5_best_1 : decode cX5_best 1 = .ok (.invokestatic 149, 3) := by decide +kernel
theorem dX5_best_4 : decode cX5_best 4 = .ok (.ifCond .eq 12, 3) := by decide +kernel
theorem dX5_best_7 : decode cX5_best 7 = .ok (.iload_n 2, 1) := by decide +kernel
theorem dX5_best_8 : decode cX5_best 8 = .ok (.iconst 0, 1) := by decide +kernel
theorem dX5_best_9 : decode cX5_best 9 = .ok (.iconst 2, 1) := by decide +kernel
theorem dX5_best_10 : decode cX5_best 10 = .ok (.invokestatic 51, 3) := by decide +kernel
theorem dX5_best_13 : decode cX5_best 13 = .ok (.ifCond .ne 6, 3) := by decide +kernel
theorem dX5_best_16 : decode cX5_best 16 = .ok (.bipush (-100), 2) := by decide +kernel
theorem dX5_best_18 : decode cX5_best 18 = .ok (.ireturn, 1) := by decide +kernel
theorem dX5_best_19 : decode cX5_best 19 = .ok (.aload_n 0, 1) := by decide +kernel
theorem dX5_best_20 : decode cX5_best 20 = .ok (.getfield 19, 3) := by decide +kernel
theorem dX5_best_23 : decode cX5_best 23 = .ok (.aload_n 0, 1) := by decide +kernel
theorem dX5_best_24 : decode cX5_best 24 = .ok (.getfield 10, 3) := by decide +kernel
theorem dX5_best_27 : decode cX5_best 27 = .ok (.getfield 79, 3) := by decide +kernel
theorem dX5_best_30 : decode cX5_best 30 = .ok (.iload_n 1, 1) := by decide +kernel
theorem dX5_best_31 : decode cX5_best 31 = .ok (.invokevirtual 165, 3) := by decide +kernel
theorem dX5_best_34 : decode cX5_best 34 = .ok (.istore_n 3, 1) := by decide +kernel
theorem dX5_best_35 : decode cX5_best 35 = .ok (.iload_n 3, 1) := by decide +kernel
theorem dX5_best_36 : decode cX5_best 36 = .ok (.ifCond .ne 6, 3) := by decide +kernel
theorem dX5_best_39 : decode cX5_best 39 = .ok (.bipush (-102), 2) := by decide +kernel
theorem dX5_best_41 : decode cX5_best 41 = .ok (.ireturn, 1) := by decide +kernel
theorem dX5_best_42 : decode cX5_best 42 = .ok (.iload_n 2, 1) := by decide +kernel
theorem dX5_best_43 : decode cX5_best 43 = .ok (.ifCond .ne 13, 3) := by decide +kernel
theorem dX5_best_46 : decode cX5_best 46 = .ok (.aload_n 0, 1) := by decide +kernel
theorem dX5_best_47 : decode cX5_best 47 = .ok (.getfield 19, 3) := by decide +kernel
theorem dX5_best_50 : decode cX5_best 50 = .ok (.getfield 169, 3) := by decide +kernel
theorem dX5_best_53 : decode cX5_best 53 = .ok (.goto 19, 3) := by decide +kernel
theorem dX5_best_56 : decode cX5_best 56 = .ok (.iload_n 2, 1) := by decide +kernel
theorem dX5_best_57 : decode cX5_best 57 = .ok (.iconst 1, 1) := by decide +kernel
theorem dX5_best_58 : decode cX5_best 58 = .ok (.if_icmp .ne 13, 3) := by decide +kernel
theorem dX5_best_61 : decode cX5_best 61 = .ok (.aload_n 0, 1) := by decide +kernel
theorem dX5_best_62 : decode cX5_best 62 = .ok (.getfield 19, 3) := by decide +kernel
theorem dX5_best_65 : decode cX5_best 65 = .ok (.getfield 172, 3) := by decide +kernel
theorem dX5_best_68 : decode cX5_best 68 = .ok (.goto 4, 3) := by decide +kernel
theorem dX5_best_71 : decode cX5_best 71 = .ok (.iload_n 3, 1) := by decide +kernel
theorem dX5_best_72 : decode cX5_best 72 = .ok (.ireturn, 1) := by decide +kernel
theorem dX5_ahead_0 : decode cX5_ahead 0 = .ok (.aload_n 0, 1) := by decide +kernel
theorem dX5_ahead_1 : decode cX5_ahead 1 = .ok (.getfield 10, 3) := by decide +kernel
theorem dX5_ahead_4 : decode cX5_ahead 4 = .ok (.invokevirtual 135, 3) := by decide +kernel
theorem dX5_ahead_7 : decode cX5_ahead 7 = .ok (.ifCond .eq 7, 3) := by decide +kernel
theorem dX5_ahead_10 : decode cX5_ahead 10 = .ok (.sipush (-10002), 3) := by decide +kernel
theorem dX5_ahead_13 : decode cX5_ahead 13 = .ok (.ireturn, 1) := by decide +kernel
theorem dX5_ahead_14 : decode cX5_ahead 14 = .ok (.aload_n 0, 1) := by decide +kernel
theorem dX5_ahead_15 : decode cX5_ahead 15 = .ok (.getfield 19, 3) := by decide +kernel
theorem dX5_ahead_18 : decode cX5_ahead 18 = .ok (.aload_n 0, 1) := by decide +kernel
theorem dX5_ahead_19 : decode cX5_ahead 19 = .ok (.getfield 10, 3) := by decide +kernel
theorem dX5_ahead_22 : decode cX5_ahead 22 = .ok (.getfield 79, 3) := by decide +kernel
theorem dX5_ahead_25 : decode cX5_ahead 25 = .ok (.aload_n 0, 1) := by decide +kernel
theorem dX5_ahead_26 : decode cX5_ahead 26 = .ok (.getfield 10, 3) := by decide +kernel
theorem dX5_ahead_29 : decode cX5_ahead 29 = .ok (.getfield 139, 3) := by decide +kernel
theorem dX5_ahead_32 : decode cX5_ahead 32 = .ok (.invokevirtual 165, 3) := by decide +kernel
theorem dX5_ahead_35 : decode cX5_ahead 35 = .ok (.istore_n 1, 1) := by decide +kernel
theorem dX5_ahead_36 : decode cX5_ahead 36 = .ok (.iload_n 1, 1) := by decide +kernel
theorem dX5_ahead_37 : decode cX5_ahead 37 = .ok (.aload_n 0, 1) := by decide +kernel
theorem dX5_ahead_38 : decode cX5_ahead 38 = .ok (.getfield 19, 3) := by decide +kernel
theorem dX5_ahead_41 : decode cX5_ahead 41 = .ok (.aload_n 0, 1) := by decide +kernel
theorem dX5_ahead_42 : decode cX5_ahead 42 = .ok (.getfield 10, 3) := by decide +kernel
theorem dX5_ahead_45 : decode cX5_ahead 45 = .ok (.getfield 79, 3) := by decide +kernel
theorem dX5_ahead_48 : decode cX5_ahead 48 = .ok (.aload_n 0, 1) := by decide +kernel
theorem dX5_ahead_49 : decode cX5_ahead 49 = .ok (.getfield 10, 3) := by decide +kernel
theorem dX5_ahead_52 : decode cX5_ahead 52 = .ok (.invokevirtual 175, 3) := by decide +kernel
theorem dX5_ahead_55 : decode cX5_ahead 55 = .ok (.invokevirtual 165, 3) := by decide +kernel
theorem dX5_ahead_58 : decode cX5_ahead 58 = .ok (.isub, 1) := by decide +kernel
theorem dX5_ahead_59 : decode cX5_ahead 59 = .ok (.ireturn, 1) := by decide +kernel
theorem dX5_write_0 : decode cX5_write 0 = .ok (.iload_n 1, 1) := by decide +kernel
theorem dX5_write_1 : decode cX5_write 1 = .ok (.invokestatic 71, 3) := by decide +kernel
theorem dX5_write_4 : decode cX5_write 4 = .ok (.ifCond .eq 11, 3) := by decide +kernel
theorem dX5_write_7 : decode cX5_write 7 = .ok (.iload_n 2, 1) := by decide +kernel
theorem dX5_write_8 : decode cX5_write 8 = .ok (.iload_n 3, 1) := by decide +kernel
theorem dX5_write_9 : decode cX5_write 9 = .ok (.invokestatic 75, 3) := by decide +kernel
theorem dX5_write_12 : decode cX5_write 12 = .ok (.ifCond .ne 5, 3) := by decide +kernel
theorem dX5_write_15 : decode cX5_write 15 = .ok (.iconst (-1), 1) := by decide +kernel
theorem dX5_write_16 : decode cX5_write 16 = .ok (.ireturn, 1) := by decide +kernel
theorem dX5_write_17 : decode cX5_write 17 = .ok (.aload_n 0, 1) := by decide +kernel
theorem dX5_write_18 : decode cX5_write 18 = .ok (.getfield 26, 3) := by decide +kernel
theorem dX5_write_21 : decode cX5_write 21 = .ok (.iload_n 1, 1) := by decide +kernel
theorem dX5_write_22 : decode cX5_write 22 = .ok (.iload_n 2, 1) := by decide +kernel
theorem dX5_write_23 : decode cX5_write 23 = .ok (.iload_n 3, 1) := by decide +kernel
theorem dX5_write_24 : decode cX5_write 24 = .ok (.invokevirtual 178, 3) := by decide +kernel
theorem dX5_write_27 : decode cX5_write 27 = .ok (.ireturn, 1) := by decide +kernel
theorem dX5_wipe_0 : decode cX5_wipe 0 = .ok (.aload_n 0, 1) := by decide +kernel
theorem dX5_wipe_1 : decode cX5_wipe 1 = .ok (.getfield 26, 3) := by decide +kernel
theorem dX5_wipe_4 : decode cX5_wipe 4 = .ok (.invokevirtual 182, 3) := by decide +kernel
theorem dX5_wipe_7 : decode cX5_wipe 7 = .ok (.ireturn, 1) := by decide +kernel
theorem dX5_wrong_0 : decode cX5_wrong 0 = .ok (.aload_n 0, 1) := by decide +kernel
theorem dX5_wrong_1 : decode cX5_wrong 1 = .ok (.getfield 26, 3) := by decide +kernel
theorem dX5_wrong_4 : decode cX5_wrong 4 = .ok (.aload_n 0, 1) := by decide +kernel
theorem dX5_wrong_5 : decode cX5_wrong 5 = .ok (.getfield 10, 3) := by decide +kernel
theorem dX5_wrong_8 : decode cX5_wrong 8 = .ok (.getfield 185, 3) := by decide +kernel
theorem dX5_wrong_11 : decode cX5_wrong 11 = .ok (.invokevirtual 188, 3) := by decide +kernel
theorem dX5_wrong_14 : decode cX5_wrong 14 = .ok (.ireturn, 1) := by decide +kernel
theorem dX5_canBe_0 : decode cX5_canBe 0 = .ok (.iload_n 1, 1) := by decide +kernel
theorem dX5_canBe_1 : decode cX5_canBe 1 = .ok (.ifCond .eq 10, 3) := by decide +kernel
theorem dX5_canBe_4 : decode cX5_canBe 4 = .ok (.iload_n 1, 1) := by decide +kernel
theorem dX5_canBe_5 : decode cX5_canBe 5 = .ok (.iconst 1, 1) := by decide +kernel
theorem dX5_canBe_6 : decode cX5_canBe 6 = .ok (.if_icmp .eq 5, 3) := by decide +kernel
theorem dX5_canBe_9 : decode cX5_canBe 9 = .ok (.iconst (-1), 1) := by decide +kernel
theorem dX5_canBe_10 : decode cX5_canBe 10 = .ok (.ireturn, 1) := by decide +kernel
theorem dX5_canBe_11 : decode cX5_canBe 11 = .ok (.aload_n 0, 1) := by decide +kernel
theorem dX5_canBe_12 : decode cX5_canBe 12 = .ok (.getfield 26, 3) := by decide +kernel
theorem dX5_canBe_15 : decode cX5_canBe 15 = .ok (.invokevirtual 191, 3) := by decide +kernel
theorem dX5_canBe_18 : decode cX5_canBe 18 = .ok (.istore_n 2, 1) := by decide +kernel
theorem dX5_canBe_19 : decode cX5_canBe 19 = .ok (.iload_n 2, 1) := by decide +kernel
theorem dX5_canBe_20 : decode cX5_canBe 20 = .ok (.bipush (-4), 2) := by decide +kernel
theorem dX5_canBe_22 : decode cX5_canBe 22 = .ok (.if_icmp .ne 6, 3) := by decide +kernel
theorem dX5_canBe_25 : decode cX5_canBe 25 = .ok (.bipush (-2), 2) := by decide +kernel
theorem dX5_canBe_27 : decode cX5_canBe 27 = .ok (.ireturn, 1) := by decide +kernel
theorem dX5_canBe_28 : decode cX5_canBe 28 = .ok (.aload_n 0, 1) := by decide +kernel
theorem dX5_canBe_29 : decode cX5_canBe 29 = .ok (.getfield 26, 3) := by decide +kernel
theorem dX5_canBe_32 : decode cX5_canBe 32 = .ok (.iload_n 2, 1) := by decide +kernel
theorem dX5_canBe_33 : decode cX5_canBe 33 = .ok (.aload_n 0, 1) := by decide +kernel
theorem dX5_canBe_34 : decode cX5_canBe 34 = .ok (.getfield 10, 3) := by decide +kernel
theorem dX5_canBe_37 : decode cX5_canBe 37 = .ok (.getfield 185, 3) := by decide +kernel
theorem dX5_canBe_40 : decode cX5_canBe 40 = .ok (.invokevirtual 194, 3) := by decide +kernel
theorem dX5_canBe_43 : decode cX5_canBe 43 = .ok (.iload_n 1, 1) := by decide +kernel
theorem dX5_canBe_44 : decode cX5_canBe 44 = .ok (.ifCond .ne 13, 3) := by decide +kernel
theorem dX5_canBe_47 : decode cX5_canBe 47 = .ok (.aload_n 0, 1) := by decide +kernel
theorem dX5_canBe_48 : decode cX5_canBe 48 = .ok (.getfield 26, 3) := by decide +kernel
theorem dX5_canBe_51 : decode cX5_canBe 51 = .ok (.getfield 198, 3) := by decide +kernel
theorem dX5_canBe_54 : decode cX5_canBe 54 = .ok (.goto 10, 3) := by decide +kernel
theorem dX5_canBe_57 : decode cX5_canBe 57 = .ok (.aload_n 0, 1) := by decide +kernel
theorem dX5_canBe_58 : decode cX5_canBe 58 = .ok (.getfield 26, 3) := by decide +kernel
theorem dX5_canBe_61 : decode cX5_canBe 61 = .ok (.getfield 201, 3) := by decide +kernel
theorem dX5_canBe_64 : decode cX5_canBe 64 = .ok (.ireturn, 1) := by decide +kernel
theorem dX5_seen_0 : decode cX5_seen 0 = .ok (.iload_n 1, 1) := by decide +kernel
theorem dX5_seen_1 : decode cX5_seen 1 = .ok (.invokestatic 149, 3) := by decide +kernel
theorem dX5_seen_4 : decode cX5_seen 4 = .ok (.ifCond .eq 31, 3) := by decide +kernel
theorem dX5_seen_7 : decode cX5_seen 7 = .ok (.iload_n 2, 1) := by decide +kernel
theorem dX5_seen_8 : decode cX5_seen 8 = .ok (.iload_n 3, 1) := by decide +kernel
theorem dX5_seen_9 : decode cX5_seen 9 = .ok (.invokestatic 117, 3) := by decide +kernel
theorem dX5_seen_12 : decode cX5_seen 12 = .ok (.ifCond .eq 23, 3) := by decide +kernel
theorem dX5_seen_15 : decode cX5_seen 15 = .ok (.iload 4, 2) := by decide +kernel
theorem dX5_seen_17 : decode cX5_seen 17 = .ok (.iload 5, 2) := by decide +kernel
theorem dX5_seen_19 : decode cX5_seen 19 = .ok (.invokestatic 117, 3) := by decide +kernel
theorem dX5_seen_22 : decode cX5_seen 22 = .ok (.ifCond .eq 13, 3) := by decide +kernel
theorem dX5_seen_25 : decode cX5_seen 25 = .ok (.iload 6, 2) := by decide +kernel
theorem dX5_seen_27 : decode cX5_seen 27 = .ok (.iload 7, 2) := by decide +kernel
theorem dX5_seen_29 : decode cX5_seen 29 = .ok (.invokestatic 117, 3) := by decide +kernel
theorem dX5_seen_32 : decode cX5_seen 32 = .ok (.ifCond .ne 5, 3) := by decide +kernel
theorem dX5_seen_35 : decode cX5_seen 35 = .ok (.iconst (-1), 1) := by decide +kernel
theorem dX5_seen_36 : decode cX5_seen 36 = .ok (.ireturn, 1) := by decide +kernel
theorem dX5_seen_37 : decode cX5_seen 37 = .ok (.iload 6, 2) := by decide +kernel
theorem dX5_seen_39 : decode cX5_seen 39 = .ok (.iload 4, 2) := by decide +kernel
theorem dX5_seen_41 : decode cX5_seen 41 = .ok (.isub, 1) := by decide +kernel
theorem dX5_seen_42 : decode cX5_seen 42 = .ok (.invokestatic 204, 3) := by decide +kernel
theorem dX5_seen_45 : decode cX5_seen 45 = .ok (.iload 7, 2) := by decide +kernel
theorem dX5_seen_47 : decode cX5_seen 47 = .ok (.iload 5, 2) := by decide +kernel
theorem dX5_seen_49 : decode cX5_seen 49 = .ok (.isub, 1) := by decide +kernel
theorem dX5_seen_50 : decode cX5_seen 50 = .ok (.invokestatic 204, 3) := by decide +kernel
theorem dX5_seen_53 : decode cX5_seen 53 = .ok (.iadd, 1) := by decide +kernel
theorem dX5_seen_54 : decode cX5_seen 54 = .ok (.istore 8, 2) := by decide +kernel
theorem dX5_seen_56 : decode cX5_seen 56 = .ok (.aload_n 0, 1) := by decide +kernel
theorem dX5_seen_57 : decode cX5_seen 57 = .ok (.getfield 33, 3) := by decide +kernel
theorem dX5_seen_60 : decode cX5_seen 60 = .ok (.iload_n 1, 1) := by decide +kernel
theorem dX5_seen_61 : decode cX5_seen 61 = .ok (.iload_n 2, 1) := by decide +kernel
theorem dX5_seen_62 : decode cX5_seen 62 = .ok (.iload_n 3, 1) := by decide +kernel
theorem dX5_seen_63 : decode cX5_seen 63 = .ok (.iload 4, 2) := by decide +kernel
theorem dX5_seen_65 : decode cX5_seen 65 = .ok (.iload 5, 2) := by decide +kernel
theorem dX5_seen_67 : decode cX5_seen 67 = .ok (.invokestatic 209, 3) := by decide +kernel
theorem dX5_seen_70 : decode cX5_seen 70 = .ok (.iload 8, 2) := by decide +kernel
theorem dX5_seen_72 : decode cX5_seen 72 = .ok (.invokevirtual 213, 3) := by decide +kernel
theorem dX5_seen_75 : decode cX5_seen 75 = .ok (.ireturn, 1) := by decide +kernel
theorem dX5_scatter_0 : decode cX5_scatter 0 = .ok (.iload_n 1, 1) := by decide +kernel
theorem dX5_scatter_1 : decode cX5_scatter 1 = .ok (.invokestatic 149, 3) := by decide +kernel
theorem dX5_scatter_4 : decode cX5_scatter 4 = .ok (.ifCond .eq 21, 3) := by decide +kernel
theorem dX5_scatter_7 : decode cX5_scatter 7 = .ok (.iload_n 2, 1) := by decide +kernel
theorem dX5_scatter_8 : decode cX5_scatter 8 = .ok (.iconst 0, 1) := by decide +kernel
theorem dX5_scatter_9 : decode cX5_scatter 9 = .ok (.iconst 4, 1) := by decide +kernel
theorem dX5_scatter_10 : decode cX5_scatter 10 = .ok (.invokestatic 51, 3) := by decide +kernel
theorem dX5_scatter_13 : decode cX5_scatter 13 = .ok (.ifCond .eq 12, 3) := by decide +kernel
theorem dX5_scatter_16 : decode cX5_scatter 16 = .ok (.iload_n 3, 1) := by decide +kernel
theorem dX5_scatter_17 : decode cX5_scatter 17 = .ok (.iconst 0, 1) := by decide +kernel
theorem dX5_scatter_18 : decode cX5_scatter 18 = .ok (.iconst 2, 1) := by decide +kernel
theorem dX5_scatter_19 : decode cX5_scatter 19 = .ok (.invokestatic 51, 3) := by decide +kernel
theorem dX5_scatter_22 : decode cX5_scatter 22 = .ok (.ifCond .ne 5, 3) := by decide +kernel
theorem dX5_scatter_25 : decode cX5_scatter 25 = .ok (.iconst (-1), 1) := by decide +kernel
theorem dX5_scatter_26 : decode cX5_scatter 26 = .ok (.ireturn, 1) := by decide +kernel
theorem dX5_scatter_27 : decode cX5_scatter 27 = .ok (.aload_n 0, 1) := by decide +kernel
theorem dX5_scatter_28 : decode cX5_scatter 28 = .ok (.getfield 33, 3) := by decide +kernel
theorem dX5_scatter_31 : decode cX5_scatter 31 = .ok (.iload_n 1, 1) := by decide +kernel
theorem dX5_scatter_32 : decode cX5_scatter 32 = .ok (.iload_n 2, 1) := by decide +kernel
theorem dX5_scatter_33 : decode cX5_scatter 33 = .ok (.iload_n 3, 1) := by decide +kernel
theorem dX5_scatter_34 : decode cX5_scatter 34 = .ok (.invokevirtual 214, 3) := by decide +kernel
theorem dX5_scatter_37 : decode cX5_scatter 37 = .ok (.ireturn, 1) := by decide +kernel
theorem dX5_keep_0 : decode cX5_keep 0 = .ok (.aload_n 0, 1) := by decide +kernel
theorem dX5_keep_1 : decode cX5_keep 1 = .ok (.getfield 41, 3) := by decide +kernel
theorem dX5_keep_4 : decode cX5_keep 4 = .ok (.iconst 3, 1) := by decide +kernel
theorem dX5_keep_5 : decode cX5_keep 5 = .ok (.if_icmp .lt 6, 3) := by decide +kernel
theorem dX5_keep_8 : decode cX5_keep 8 = .ok (.bipush (-3), 2) := by decide +kernel
theorem dX5_keep_10 : decode cX5_keep 10 = .ok (.ireturn, 1) := by decide +kernel
theorem dX5_keep_11 : decode cX5_keep 11 = .ok (.aload_n 0, 1) := by decide +kernel
theorem dX5_keep_12 : decode cX5_keep 12 = .ok (.getfield 37, 3) := by decide +kernel
theorem dX5_keep_15 : decode cX5_keep 15 = .ok (.aload_n 0, 1) := by decide +kernel
theorem dX5_keep_16 : decode cX5_keep 16 = .ok (.getfield 41, 3) := by decide +kernel
theorem dX5_keep_19 : decode cX5_keep 19 = .ok (.aaload, 1) := by decide +kernel
theorem dX5_keep_20 : decode cX5_keep 20 = .ok (.aload_n 0, 1) := by decide +kernel
theorem dX5_keep_21 : decode cX5_keep 21 = .ok (.getfield 10, 3) := by decide +kernel
theorem dX5_keep_24 : decode cX5_keep 24 = .ok (.invokevirtual 217, 3) := by decide +kernel
theorem dX5_keep_27 : decode cX5_keep 27 = .ok (.aload_n 0, 1) := by decide +kernel
theorem dX5_keep_28 : decode cX5_keep 28 = .ok (.dup, 1) := by decide +kernel
theorem dX5_keep_29 : decode cX5_keep 29 = .ok (.getfield 41, 3) := by decide +kernel
theorem dX5_keep_32 : decode cX5_keep 32 = .ok (.iconst 1, 1) := by decide +kernel
theorem dX5_keep_33 : decode cX5_keep 33 = .ok (.iadd, 1) := by decide +kernel
theorem dX5_keep_34 : decode cX5_keep 34 = .ok (.putfield 41, 3) := by decide +kernel
theorem dX5_keep_37 : decode cX5_keep 37 = .ok (.aload_n 0, 1) := by decide +kernel
theorem dX5_keep_38 : decode cX5_keep 38 = .ok (.getfield 41, 3) := by decide +kernel
theorem dX5_keep_41 : decode cX5_keep 41 = .ok (.ireturn, 1) := by decide +kernel
theorem dX5_back_0 : decode cX5_back 0 = .ok (.aload_n 0, 1) := by decide +kernel
theorem dX5_back_1 : decode cX5_back 1 = .ok (.getfield 41, 3) := by decide +kernel
theorem dX5_back_4 : decode cX5_back 4 = .ok (.ifCond .gt 6, 3) := by decide +kernel
theorem dX5_back_7 : decode cX5_back 7 = .ok (.bipush (-2), 2) := by decide +kernel
theorem dX5_back_9 : decode cX5_back 9 = .ok (.ireturn, 1) := by decide +kernel
theorem dX5_back_10 : decode cX5_back 10 = .ok (.aload_n 0, 1) := by decide +kernel
theorem dX5_back_11 : decode cX5_back 11 = .ok (.dup, 1) := by decide +kernel
theorem dX5_back_12 : decode cX5_back 12 = .ok (.getfield 41, 3) := by decide +kernel
theorem dX5_back_15 : decode cX5_back 15 = .ok (.iconst 1, 1) := by decide +kernel
theorem dX5_back_16 : decode cX5_back 16 = .ok (.isub, 1) := by decide +kernel
theorem dX5_back_17 : decode cX5_back 17 = .ok (.putfield 41, 3) := by decide +kernel
theorem dX5_back_20 : decode cX5_back 20 = .ok (.aload_n 0, 1) := by decide +kernel
theorem dX5_back_21 : decode cX5_back 21 = .ok (.getfield 10, 3) := by decide +kernel
theorem dX5_back_24 : decode cX5_back 24 = .ok (.aload_n 0, 1) := by decide +kernel
theorem dX5_back_25 : decode cX5_back 25 = .ok (.getfield 37, 3) := by decide +kernel
theorem dX5_back_28 : decode cX5_back 28 = .ok (.aload_n 0, 1) := by decide +kernel
theorem dX5_back_29 : decode cX5_back 29 = .ok (.getfield 41, 3) := by decide +kernel
theorem dX5_back_32 : decode cX5_back 32 = .ok (.aaload, 1) := by decide +kernel
theorem dX5_back_33 : decode cX5_back 33 = .ok (.invokevirtual 217, 3) := by decide +kernel
theorem dX5_back_36 : decode cX5_back 36 = .ok (.aload_n 0, 1) := by decide +kernel
theorem dX5_back_37 : decode cX5_back 37 = .ok (.getfield 41, 3) := by decide +kernel
theorem dX5_back_40 : decode cX5_back 40 = .ok (.ireturn, 1) := by decide +kernel
theorem dX5_count_0 : decode cX5_count 0 = .ok (.aload_n 0, 1) := by decide +kernel
theorem dX5_count_1 : decode cX5_count 1 = .ok (.getfield 10, 3) := by decide +kernel
theorem dX5_count_4 : decode cX5_count 4 = .ok (.getfield 79, 3) := by decide +kernel
theorem dX5_count_7 : decode cX5_count 7 = .ok (.astore_n 2, 1) := by decide +kernel
theorem dX5_count_8 : decode cX5_count 8 = .ok (.iload_n 1, 1) := by decide +kernel
theorem dX5_count_9 : decode cX5_count 9 = .ok (.tableswitch 95 0 5 #[39, 58, 66, 74, 82, 87], 39) := by decide +kernel
theorem dX5_count_48 : decode cX5_count 48 = .ok (.bipush 16, 2) := by decide +kernel
theorem dX5_count_50 : decode cX5_count 50 = .ok (.aload_n 2, 1) := by decide +kernel
theorem dX5_count_51 : decode cX5_count 51 = .ok (.getfield 221, 3) := by decide +kernel
theorem dX5_count_54 : decode cX5_count 54 = .ok (.invokestatic 126, 3) := by decide +kernel
theorem dX5_count_57 : decode cX5_count 57 = .ok (.isub, 1) := by decide +kernel
theorem dX5_count_58 : decode cX5_count 58 = .ok (.aload_n 2, 1) := by decide +kernel
theorem dX5_count_59 : decode cX5_count 59 = .ok (.getfield 224, 3) := by decide +kernel
theorem dX5_count_62 : decode cX5_count 62 = .ok (.invokestatic 126, 3) := by decide +kernel
theorem dX5_count_65 : decode cX5_count 65 = .ok (.isub, 1) := by decide +kernel
theorem dX5_count_66 : decode cX5_count 66 = .ok (.ireturn, 1) := by decide +kernel
theorem dX5_count_67 : decode cX5_count 67 = .ok (.aload_n 2, 1) := by decide +kernel
theorem dX5_count_68 : decode cX5_count 68 = .ok (.getfield 221, 3) := by decide +kernel
theorem dX5_count_71 : decode cX5_count 71 = .ok (.invokestatic 126, 3) := by decide +kernel
theorem dX5_count_74 : decode cX5_count 74 = .ok (.ireturn, 1) := by decide +kernel
theorem dX5_count_75 : decode cX5_count 75 = .ok (.aload_n 2, 1) := by decide +kernel
theorem dX5_count_76 : decode cX5_count 76 = .ok (.getfield 224, 3) := by decide +kernel
theorem dX5_count_79 : decode cX5_count 79 = .ok (.invokestatic 126, 3) := by decide +kernel
theorem dX5_count_82 : decode cX5_count 82 = .ok (.ireturn, 1) := by decide +kernel
theorem dX5_count_83 : decode cX5_count 83 = .ok (.aload_n 0, 1) := by decide +kernel
theorem dX5_count_84 : decode cX5_count 84 = .ok (.getfield 26, 3) := by decide +kernel
theorem dX5_count_87 : decode cX5_count 87 = .ok (.getfield 227, 3) := by decide +kernel
theorem dX5_count_90 : decode cX5_count 90 = .ok (.ireturn, 1) := by decide +kernel
theorem dX5_count_91 : decode cX5_count 91 = .ok (.aload_n 0, 1) := by decide +kernel
theorem dX5_count_92 : decode cX5_count 92 = .ok (.getfield 41, 3) := by decide +kernel
theorem dX5_count_95 : decode cX5_count 95 = .ok (.ireturn, 1) := by decide +kernel
theorem dX5_count_96 : decode cX5_count 96 = .ok (.aload_n 2, 1) := by decide +kernel
theorem dX5_count_97 : decode cX5_count 97 = .ok (.getfield 230, 3) := by decide +kernel
theorem dX5_count_100 : decode cX5_count 100 = .ok (.invokestatic 126, 3) := by decide +kernel
theorem dX5_count_103 : decode cX5_count 103 = .ok (.ireturn, 1) := by decide +kernel
theorem dX5_count_104 : decode cX5_count 104 = .ok (.iconst (-1), 1) := by decide +kernel
theorem dX5_count_105 : decode cX5_count 105 = .ok (.ireturn, 1) := by decide +kernel
theorem dX5_twelfthsOf_0 : decode cX5_twelfthsOf 0 = .ok (.aload_n 0, 1) := by decide +kernel
theorem dX5_twelfthsOf_1 : decode cX5_twelfthsOf 1 = .ok (.getfield 10, 3) := by decide +kernel
theorem dX5_twelfthsOf_4 : decode cX5_twelfthsOf 4 = .ok (.getfield 79, 3) := by decide +kernel
theorem dX5_twelfthsOf_7 : decode cX5_twelfthsOf 7 = .ok (.iload_n 1, 1) := by decide +kernel
theorem dX5_twelfthsOf_8 : decode cX5_twelfthsOf 8 = .ok (.invokevirtual 152, 3) := by decide +kernel
theorem dX5_twelfthsOf_11 : decode cX5_twelfthsOf 11 = .ok (.istore_n 2, 1) := by decide +kernel
theorem dX5_twelfthsOf_12 : decode cX5_twelfthsOf 12 = .ok (.iconst 0, 1) := by decide +kernel
theorem dX5_twelfthsOf_13 : decode cX5_twelfthsOf 13 = .ok (.istore_n 3, 1) := by decide +kernel
theorem dX5_twelfthsOf_14 : decode cX5_twelfthsOf 14 = .ok (.iconst 0, 1) := by decide +kernel
theorem dX5_twelfthsOf_15 : decode cX5_twelfthsOf 15 = .ok (.istore 4, 2) := by decide +kernel
theorem dX5_twelfthsOf_17 : decode cX5_twelfthsOf 17 = .ok (.iconst 0, 1) := by decide +kernel
theorem dX5_twelfthsOf_18 : decode cX5_twelfthsOf 18 = .ok (.istore 5, 2) := by decide +kernel
theorem dX5_twelfthsOf_20 : decode cX5_twelfthsOf 20 = .ok (.iload 5, 2) := by decide +kernel
theorem dX5_twelfthsOf_22 : decode cX5_twelfthsOf 22 = .ok (.iconst 4, 1) := by decide +kernel
theorem dX5_twelfthsOf_23 : decode cX5_twelfthsOf 23 = .ok (.if_icmp .ge 44, 3) := by decide +kernel
theorem dX5_twelfthsOf_26 : decode cX5_twelfthsOf 26 = .ok (.aload_n 0, 1) := by decide +kernel
theorem dX5_twelfthsOf_27 : decode cX5_twelfthsOf 27 = .ok (.getfield 10, 3) := by decide +kernel
theorem dX5_twelfthsOf_30 : decode cX5_twelfthsOf 30 = .ok (.getfield 79, 3) := by decide +kernel
theorem dX5_twelfthsOf_33 : decode cX5_twelfthsOf 33 = .ok (.iload 5, 2) := by decide +kernel
theorem dX5_twelfthsOf_35 : decode cX5_twelfthsOf 35 = .ok (.invokevirtual 152, 3) := by decide +kernel
theorem dX5_twelfthsOf_38 : decode cX5_twelfthsOf 38 = .ok (.istore 6, 2) := by decide +kernel
theorem dX5_twelfthsOf_40 : decode cX5_twelfthsOf 40 = .ok (.iload 6, 2) := by decide +kernel
theorem dX5_twelfthsOf_42 : decode cX5_twelfthsOf 42 = .ok (.iload_n 2, 1) := by decide +kernel
theorem dX5_twelfthsOf_43 : decode cX5_twelfthsOf 43 = .ok (.if_icmp .le 9, 3) := by decide +kernel
theorem dX5_twelfthsOf_46 : decode cX5_twelfthsOf 46 = .ok (.iinc 3 1, 3) := by decide +kernel
theorem dX5_twelfthsOf_49 : decode cX5_twelfthsOf 49 = .ok (.goto 12, 3) := by decide +kernel
theorem dX5_twelfthsOf_52 : decode cX5_twelfthsOf 52 = .ok (.iload 6, 2) := by decide +kernel
theorem dX5_twelfthsOf_54 : decode cX5_twelfthsOf 54 = .ok (.iload_n 2, 1) := by decide +kernel
theorem dX5_twelfthsOf_55 : decode cX5_twelfthsOf 55 = .ok (.if_icmp .ne 6, 3) := by decide +kernel
theorem dX5_twelfthsOf_58 : decode cX5_twelfthsOf 58 = .ok (.iinc 4 1, 3) := by decide +kernel
theorem dX5_twelfthsOf_61 : decode cX5_twelfthsOf 61 = .ok (.iinc 5 1, 3) := by decide +kernel
theorem dX5_twelfthsOf_64 : decode cX5_twelfthsOf 64 = .ok (.goto (-44), 3) := by decide +kernel
theorem dX5_twelfthsOf_67 : decode cX5_twelfthsOf 67 = .ok (.iconst 0, 1) := by decide +kernel
theorem dX5_twelfthsOf_68 : decode cX5_twelfthsOf 68 = .ok (.istore 5, 2) := by decide +kernel
theorem dX5_twelfthsOf_70 : decode cX5_twelfthsOf 70 = .ok (.iload_n 3, 1) := by decide +kernel
theorem dX5_twelfthsOf_71 : decode cX5_twelfthsOf 71 = .ok (.istore 6, 2) := by decide +kernel
theorem dX5_twelfthsOf_73 : decode cX5_twelfthsOf 73 = .ok (.iload 6, 2) := by decide +kernel
theorem dX5_twelfthsOf_75 : decode cX5_twelfthsOf 75 = .ok (.iload_n 3, 1) := by decide +kernel
theorem dX5_twelfthsOf_76 : decode cX5_twelfthsOf 76 = .ok (.iload 4, 2) := by decide +kernel
theorem dX5_twelfthsOf_78 : decode cX5_twelfthsOf 78 = .ok (.iadd, 1) := by decide +kernel
theorem dX5_twelfthsOf_79 : decode cX5_twelfthsOf 79 = .ok (.if_icmp .ge 26, 3) := by decide +kernel
theorem dX5_twelfthsOf_82 : decode cX5_twelfthsOf 82 = .ok (.iload 6, 2) := by decide +kernel
theorem dX5_twelfthsOf_84 : decode cX5_twelfthsOf 84 = .ok (.iconst 4, 1) := by decide +kernel
theorem dX5_twelfthsOf_85 : decode cX5_twelfthsOf 85 = .ok (.if_icmp .ge 20, 3) := by decide +kernel
theorem dX5_twelfthsOf_88 : decode cX5_twelfthsOf 88 = .ok (.iload 5, 2) := by decide +kernel
theorem dX5_twelfthsOf_90 : decode cX5_twelfthsOf 90 = .ok (.getstatic 233, 3) := by decide +kernel
theorem dX5_twelfthsOf_93 : decode cX5_twelfthsOf 93 = .ok (.iload 6, 2) := by decide +kernel
theorem dX5_twelfthsOf_95 : decode cX5_twelfthsOf 95 = .ok (.iaload, 1) := by decide +kernel
theorem dX5_twelfthsOf_96 : decode cX5_twelfthsOf 96 = .ok (.iadd, 1) := by decide +kernel
theorem dX5_twelfthsOf_97 : decode cX5_twelfthsOf 97 = .ok (.istore 5, 2) := by decide +kernel
theorem dX5_twelfthsOf_99 : decode cX5_twelfthsOf 99 = .ok (.iinc 6 1, 3) := by decide +kernel
theorem dX5_twelfthsOf_102 : decode cX5_twelfthsOf 102 = .ok (.goto (-29), 3) := by decide +kernel
theorem dX5_twelfthsOf_105 : decode cX5_twelfthsOf 105 = .ok (.iload 4, 2) := by decide +kernel
theorem dX5_twelfthsOf_107 : decode cX5_twelfthsOf 107 = .ok (.ifCond .ne 7, 3) := by decide +kernel
theorem dX5_twelfthsOf_110 : decode cX5_twelfthsOf 110 = .ok (.iconst 0, 1) := by decide +kernel
theorem dX5_twelfthsOf_111 : decode cX5_twelfthsOf 111 = .ok (.goto 8, 3) := by decide +kernel
theorem dX5_twelfthsOf_114 : decode cX5_twelfthsOf 114 = .ok (.iload 5, 2) := by decide +kernel
theorem dX5_twelfthsOf_116 : decode cX5_twelfthsOf 116 = .ok (.iload 4, 2) := by decide +kernel
theorem dX5_twelfthsOf_118 : decode cX5_twelfthsOf 118 = .ok (.idiv, 1) := by decide +kernel
theorem dX5_twelfthsOf_119 : decode cX5_twelfthsOf 119 = .ok (.ireturn, 1) := by decide +kernel
theorem dX5_within_0 : decode cX5_within 0 = .ok (.iload_n 0, 1) := by decide +kernel
theorem dX5_within_1 : decode cX5_within 1 = .ok (.iload_n 1, 1) := by decide +kernel
theorem dX5_within_2 : decode cX5_within 2 = .ok (.if_icmp .lt 12, 3) := by decide +kernel
theorem dX5_within_5 : decode cX5_within 5 = .ok (.iload_n 0, 1) := by decide +kernel
theorem dX5_within_6 : decode cX5_within 6 = .ok (.iload_n 2, 1) := by decide +kernel
theorem dX5_within_7 : decode cX5_within 7 = .ok (.if_icmp .gt 7, 3) := by decide +kernel
theorem dX5_within_10 : decode cX5_within 10 = .ok (.iconst 1, 1) := by decide +kernel
theorem dX5_within_11 : decode cX5_within 11 = .ok (.goto 4, 3) := by decide +kernel
theorem dX5_within_14 : decode cX5_within 14 = .ok (.iconst 0, 1) := by decide +kernel
theorem dX5_within_15 : decode cX5_within 15 = .ok (.ireturn, 1) := by decide +kernel
theorem dX5_isPlayer_0 : decode cX5_isPlayer 0 = .ok (.iload_n 0, 1) := by decide +kernel
theorem dX5_isPlayer_1 : decode cX5_isPlayer 1 = .ok (.iconst 0, 1) := by decide +kernel
theorem dX5_isPlayer_2 : decode cX5_isPlayer 2 = .ok (.iconst 3, 1) := by decide +kernel
theorem dX5_isPlayer_3 : decode cX5_isPlayer 3 = .ok (.invokestatic 51, 3) := by decide +kernel
theorem dX5_isPlayer_6 : decode cX5_isPlayer 6 = .ok (.ireturn, 1) := by decide +kernel
theorem dX5_isDisc_0 : decode cX5_isDisc 0 = .ok (.iload_n 0, 1) := by decide +kernel
theorem dX5_isDisc_1 : decode cX5_isDisc 1 = .ok (.iconst 0, 1) := by decide +kernel
theorem dX5_isDisc_2 : decode cX5_isDisc 2 = .ok (.bipush 15, 2) := by decide +kernel
theorem dX5_isDisc_4 : decode cX5_isDisc 4 = .ok (.invokestatic 51, 3) := by decide +kernel
theorem dX5_isDisc_7 : decode cX5_isDisc 7 = .ok (.ireturn, 1) := by decide +kernel
theorem dX5_isPlace_0 : decode cX5_isPlace 0 = .ok (.iload_n 0, 1) := by decide +kernel
theorem dX5_isPlace_1 : decode cX5_isPlace 1 = .ok (.iconst 0, 1) := by decide +kernel
theorem dX5_isPlace_2 : decode cX5_isPlace 2 = .ok (.bipush 40, 2) := by decide +kernel
theorem dX5_isPlace_4 : decode cX5_isPlace 4 = .ok (.invokestatic 51, 3) := by decide +kernel
theorem dX5_isPlace_7 : decode cX5_isPlace 7 = .ok (.ifCond .eq 17, 3) := by decide +kernel
theorem dX5_isPlace_10 : decode cX5_isPlace 10 = .ok (.iload_n 1, 1) := by decide +kernel
theorem dX5_isPlace_11 : decode cX5_isPlace 11 = .ok (.iconst 0, 1) := by decide +kernel
theorem dX5_isPlace_12 : decode cX5_isPlace 12 = .ok (.bipush 40, 2) := by decide +kernel
theorem dX5_isPlace_14 : decode cX5_isPlace 14 = .ok (.invokestatic 51, 3) := by decide +kernel
theorem dX5_isPlace_17 : decode cX5_isPlace 17 = .ok (.ifCond .eq 7, 3) := by decide +kernel
theorem dX5_isPlace_20 : decode cX5_isPlace 20 = .ok (.iconst 1, 1) := by decide +kernel
theorem dX5_isPlace_21 : decode cX5_isPlace 21 = .ok (.goto 4, 3) := by decide +kernel
theorem dX5_isPlace_24 : decode cX5_isPlace 24 = .ok (.iconst 0, 1) := by decide +kernel
theorem dX5_isPlace_25 : decode cX5_isPlace 25 = .ok (.ireturn, 1) := by decide +kernel
theorem dX5_isMarkOrPlace_0 : decode cX5_isMarkOrPlace 0 = .ok (.iload_n 0, 1) := by decide +kernel
theorem dX5_isMarkOrPlace_1 : decode cX5_isMarkOrPlace 1 = .ok (.iload_n 1, 1) := by decide +kernel
theorem dX5_isMarkOrPlace_2 : decode cX5_isMarkOrPlace 2 = .ok (.invokestatic 117, 3) := by decide +kernel
theorem dX5_isMarkOrPlace_5 : decode cX5_isMarkOrPlace 5 = .ok (.ifCond .ne 19, 3) := by decide +kernel
theorem dX5_isMarkOrPlace_8 : decode cX5_isMarkOrPlace 8 = .ok (.iload_n 0, 1) := by decide +kernel
theorem dX5_isMarkOrPlace_9 : decode cX5_isMarkOrPlace 9 = .ok (.iload_n 1, 1) := by decide +kernel
theorem dX5_isMarkOrPlace_10 : decode cX5_isMarkOrPlace 10 = .ok (.if_icmp .ne 18, 3) := by decide +kernel
theorem dX5_isMarkOrPlace_13 : decode cX5_isMarkOrPlace 13 = .ok (.iload_n 0, 1) := by decide +kernel
theorem dX5_isMarkOrPlace_14 : decode cX5_isMarkOrPlace 14 = .ok (.iconst (-1), 1) := by decide +kernel
theorem dX5_isMarkOrPlace_15 : decode cX5_isMarkOrPlace 15 = .ok (.if_icmp .eq 9, 3) := by decide +kernel
theorem dX5_isMarkOrPlace_18 : decode cX5_isMarkOrPlace 18 = .ok (.iload_n 0, 1) := by decide +kernel
theorem dX5_isMarkOrPlace_19 : decode cX5_isMarkOrPlace 19 = .ok (.bipush 41, 2) := by decide +kernel
theorem dX5_isMarkOrPlace_21 : decode cX5_isMarkOrPlace 21 = .ok (.if_icmp .ne 7, 3) := by decide +kernel
theorem dX5_isMarkOrPlace_24 : decode cX5_isMarkOrPlace 24 = .ok (.iconst 1, 1) := by decide +kernel
theorem dX5_isMarkOrPlace_25 : decode cX5_isMarkOrPlace 25 = .ok (.goto 4, 3) := by decide +kernel
theorem dX5_isMarkOrPlace_28 : decode cX5_isMarkOrPlace 28 = .ok (.iconst 0, 1) := by decide +kernel
theorem dX5_isMarkOrPlace_29 : decode cX5_isMarkOrPlace 29 = .ok (.ireturn, 1) := by decide +kernel
theorem dX5_playerOf_0 : decode cX5_playerOf 0 = .ok (.iload_n 0, 1) := by decide +kernel
theorem dX5_playerOf_1 : decode cX5_playerOf 1 = .ok (.iconst 4, 1) := by decide +kernel
theorem dX5_playerOf_2 : decode cX5_playerOf 2 = .ok (.irem, 1) := by decide +kernel
theorem dX5_playerOf_3 : decode cX5_playerOf 3 = .ok (.ireturn, 1) := by decide +kernel
theorem dX5_sizeOf_0 : decode cX5_sizeOf 0 = .ok (.iload_n 0, 1) := by decide +kernel
theorem dX5_sizeOf_1 : decode cX5_sizeOf 1 = .ok (.bipush 8, 2) := by decide +kernel
theorem dX5_sizeOf_3 : decode cX5_sizeOf 3 = .ok (.if_icmp .ge 7, 3) := by decide +kernel
theorem dX5_sizeOf_6 : decode cX5_sizeOf 6 = .ok (.iconst 1, 1) := by decide +kernel
theorem dX5_sizeOf_7 : decode cX5_sizeOf 7 = .ok (.goto 4, 3) := by decide +kernel
theorem dX5_sizeOf_10 : decode cX5_sizeOf 10 = .ok (.iconst 2, 1) := by decide +kernel
theorem dX5_sizeOf_11 : decode cX5_sizeOf 11 = .ok (.ireturn, 1) := by decide +kernel
theorem dX5_wayBetween_0 : decode cX5_wayBetween 0 = .ok (.iload_n 2, 1) := by decide +kernel
theorem dX5_wayBetween_1 : decode cX5_wayBetween 1 = .ok (.iload_n 0, 1) := by decide +kernel
theorem dX5_wayBetween_2 : decode cX5_wayBetween 2 = .ok (.isub, 1) := by decide +kernel
theorem dX5_wayBetween_3 : decode cX5_wayBetween 3 = .ok (.invokestatic 204, 3) := by decide +kernel
theorem dX5_wayBetween_6 : decode cX5_wayBetween 6 = .ok (.iload_n 3, 1) := by decide +kernel
theorem dX5_wayBetween_7 : decode cX5_wayBetween 7 = .ok (.iload_n 1, 1) := by decide +kernel
theorem dX5_wayBetween_8 : decode cX5_wayBetween 8 = .ok (.isub, 1) := by decide +kernel
theorem dX5_wayBetween_9 : decode cX5_wayBetween 9 = .ok (.invokestatic 204, 3) := by decide +kernel
theorem dX5_wayBetween_12 : decode cX5_wayBetween 12 = .ok (.invokestatic 236, 3) := by decide +kernel
theorem dX5_wayBetween_15 : decode cX5_wayBetween 15 = .ok (.ireturn, 1) := by decide +kernel
theorem dJ6_bitCount_0f7a4_0 : decode cJ6_bitCount_0f7a4 0 = .ok (.iload_n 0, 1) := by decide +kernel
theorem dJ6_bitCount_0f7a4_1 : decode cJ6_bitCount_0f7a4 1 = .ok (.iload_n 0, 1) := by decide +kernel
theorem dJ6_bitCount_0f7a4_2 : decode cJ6_bitCount_0f7a4 2 = .ok (.iconst 1, 1) := by decide +kernel
theorem dJ6_bitCount_0f7a4_3 : decode cJ6_bitCount_0f7a4 3 = .ok (.iushr, 1) := by decide +kernel
theorem dJ6_bitCount_0f7a4_4 : decode cJ6_bitCount_0f7a4 4 = .ok (.ldc_w 265, 3) := by decide +kernel
theorem dJ6_bitCount_0f7a4_7 : decode cJ6_bitCount_0f7a4 7 = .ok (.iand, 1) := by decide +kernel
theorem dJ6_bitCount_0f7a4_8 : decode cJ6_bitCount_0f7a4 8 = .ok (.isub, 1) := by decide +kernel
theorem dJ6_bitCount_0f7a4_9 : decode cJ6_bitCount_0f7a4 9 = .ok (.istore_n 0, 1) := by decide +kernel
theorem dJ6_bitCount_0f7a4_10 : decode cJ6_bitCount_0f7a4 10 = .ok (.iload_n 0, 1) := by decide +kernel
theorem dJ6_bitCount_0f7a4_11 : decode cJ6_bitCount_0f7a4 11 = .ok (.ldc_w 266, 3) := by decide +kernel
theorem dJ6_bitCount_0f7a4_14 : decode cJ6_bitCount_0f7a4 14 = .ok (.iand, 1) := by decide +kernel
theorem dJ6_bitCount_0f7a4_15 : decode cJ6_bitCount_0f7a4 15 = .ok (.iload_n 0, 1) := by decide +kernel
theorem dJ6_bitCount_0f7a4_16 : decode cJ6_bitCount_0f7a4 16 = .ok (.iconst 2, 1) := by decide +kernel
theorem dJ6_bitCount_0f7a4_17 : decode cJ6_bitCount_0f7a4 17 = .ok (.iushr, 1) := by decide +kernel
theorem dJ6_bitCount_0f7a4_18 : decode cJ6_bitCount_0f7a4 18 = .ok (.ldc_w 266, 3) := by decide +kernel
theorem dJ6_bitCount_0f7a4_21 : decode cJ6_bitCount_0f7a4 21 = .ok (.iand, 1) := by decide +kernel
theorem dJ6_bitCount_0f7a4_22 : decode cJ6_bitCount_0f7a4 22 = .ok (.iadd, 1) := by decide +kernel
theorem dJ6_bitCount_0f7a4_23 : decode cJ6_bitCount_0f7a4 23 = .ok (.istore_n 0, 1) := by decide +kernel
theorem dJ6_bitCount_0f7a4_24 : decode cJ6_bitCount_0f7a4 24 = .ok (.iload_n 0, 1) := by decide +kernel
theorem dJ6_bitCount_0f7a4_25 : decode cJ6_bitCount_0f7a4 25 = .ok (.iload_n 0, 1) := by decide +kernel
theorem dJ6_bitCount_0f7a4_26 : decode cJ6_bitCount_0f7a4 26 = .ok (.iconst 4, 1) := by decide +kernel
theorem dJ6_bitCount_0f7a4_27 : decode cJ6_bitCount_0f7a4 27 = .ok (.iushr, 1) := by decide +kernel
theorem dJ6_bitCount_0f7a4_28 : decode cJ6_bitCount_0f7a4 28 = .ok (.iadd, 1) := by decide +kernel
theorem dJ6_bitCount_0f7a4_29 : decode cJ6_bitCount_0f7a4 29 = .ok (.ldc_w 267, 3) := by decide +kernel
theorem dJ6_bitCount_0f7a4_32 : decode cJ6_bitCount_0f7a4 32 = .ok (.iand, 1) := by decide +kernel
theorem dJ6_bitCount_0f7a4_33 : decode cJ6_bitCount_0f7a4 33 = .ok (.istore_n 0, 1) := by decide +kernel
theorem dJ6_bitCount_0f7a4_34 : decode cJ6_bitCount_0f7a4 34 = .ok (.iload_n 0, 1) := by decide +kernel
theorem dJ6_bitCount_0f7a4_35 : decode cJ6_bitCount_0f7a4 35 = .ok (.iload_n 0, 1) := by decide +kernel
theorem dJ6_bitCount_0f7a4_36 : decode cJ6_bitCount_0f7a4 36 = .ok (.bipush 8, 2) := by decide +kernel
theorem dJ6_bitCount_0f7a4_38 : decode cJ6_bitCount_0f7a4 38 = .ok (.iushr, 1) := by decide +kernel
theorem dJ6_bitCount_0f7a4_39 : decode cJ6_bitCount_0f7a4 39 = .ok (.iadd, 1) := by decide +kernel
theorem dJ6_bitCount_0f7a4_40 : decode cJ6_bitCount_0f7a4 40 = .ok (.istore_n 0, 1) := by decide +kernel
theorem dJ6_bitCount_0f7a4_41 : decode cJ6_bitCount_0f7a4 41 = .ok (.iload_n 0, 1) := by decide +kernel
theorem dJ6_bitCount_0f7a4_42 : decode cJ6_bitCount_0f7a4 42 = .ok (.iload_n 0, 1) := by decide +kernel
theorem dJ6_bitCount_0f7a4_43 : decode cJ6_bitCount_0f7a4 43 = .ok (.bipush 16, 2) := by decide +kernel
theorem dJ6_bitCount_0f7a4_45 : decode cJ6_bitCount_0f7a4 45 = .ok (.iushr, 1) := by decide +kernel
theorem dJ6_bitCount_0f7a4_46 : decode cJ6_bitCount_0f7a4 46 = .ok (.iadd, 1) := by decide +kernel
theorem dJ6_bitCount_0f7a4_47 : decode cJ6_bitCount_0f7a4 47 = .ok (.istore_n 0, 1) := by decide +kernel
theorem dJ6_bitCount_0f7a4_48 : decode cJ6_bitCount_0f7a4 48 = .ok (.iload_n 0, 1) := by decide +kernel
theorem dJ6_bitCount_0f7a4_49 : decode cJ6_bitCount_0f7a4 49 = .ok (.bipush 63, 2) := by decide +kernel
theorem dJ6_bitCount_0f7a4_51 : decode cJ6_bitCount_0f7a4 51 = .ok (.iand, 1) := by decide +kernel
theorem dJ6_bitCount_0f7a4_52 : decode cJ6_bitCount_0f7a4 52 = .ok (.ireturn, 1) := by decide +kernel
