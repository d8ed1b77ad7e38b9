theorem dX0_init_0 : decode cX0_init 0 = .ok (.aload_n 0, 1) := by decide +kernel
theorem dX0_init_1 : decode cX0_init 1 = .ok (.invokespecial 3, 3) := by decide +kernel
theorem dX0_init_4 : decode cX0_init 4 = .ok (.aload_n 0, 1) := by decide +kernel
theorem dX0_init_5 : decode cX0_init 5 = .ok (.iconst 0, 1) := by decide +kernel
theorem dX0_init_6 : decode cX0_init 6 = .ok (.putfield 9, 3) := by decide +kernel
theorem dX0_init_9 : decode cX0_init 9 = .ok (.aload_n 0, 1) := by decide +kernel
theorem dX0_init_10 : decode cX0_init 10 = .ok (.bipush 10, 2) := by decide +kernel
theorem dX0_init_12 : decode cX0_init 12 = .ok (.putfield 15, 3) := by decide +kernel
theorem dX0_init_15 : decode cX0_init 15 = .ok (.aload_n 0, 1) := by decide +kernel
theorem dX0_init_16 : decode cX0_init 16 = .ok (.sipush 10000, 3) := by decide +kernel
theorem dX0_init_19 : decode cX0_init 19 = .ok (.putfield 18, 3) := by decide +kernel
theorem dX0_init_22 : decode cX0_init 22 = .ok (.aload_n 0, 1) := by decide +kernel
theorem dX0_init_23 : decode cX0_init 23 = .ok (.sipush 10000, 3) := by decide +kernel
theorem dX0_init_26 : decode cX0_init 26 = .ok (.putfield 21, 3) := by decide +kernel
theorem dX0_init_29 : decode cX0_init 29 = .ok (.return_, 1) := by decide +kernel
theorem dX0_set_0 : decode cX0_set 0 = .ok (.aload_n 0, 1) := by decide +kernel
theorem dX0_set_1 : decode cX0_set 1 = .ok (.iload_n 1, 1) := by decide +kernel
theorem dX0_set_2 : decode cX0_set 2 = .ok (.putfield 9, 3) := by decide +kernel
theorem dX0_set_5 : decode cX0_set 5 = .ok (.aload_n 0, 1) := by decide +kernel
theorem dX0_set_6 : decode cX0_set 6 = .ok (.iload_n 2, 1) := by decide +kernel
theorem dX0_set_7 : decode cX0_set 7 = .ok (.putfield 15, 3) := by decide +kernel
theorem dX0_set_10 : decode cX0_set 10 = .ok (.aload_n 0, 1) := by decide +kernel
theorem dX0_set_11 : decode cX0_set 11 = .ok (.iload_n 3, 1) := by decide +kernel
theorem dX0_set_12 : decode cX0_set 12 = .ok (.putfield 18, 3) := by decide +kernel
theorem dX0_set_15 : decode cX0_set 15 = .ok (.aload_n 0, 1) := by decide +kernel
theorem dX0_set_16 : decode cX0_set 16 = .ok (.iload 4, 2) := by decide +kernel
theorem dX0_set_18 : decode cX0_set 18 = .ok (.putfield 21, 3) := by decide +kernel
theorem dX0_set_21 : decode cX0_set 21 = .ok (.return_, 1) := by decide +kernel
theorem dX0_span_0 : decode cX0_span 0 = .ok (.aload_n 0, 1) := by decide +kernel
theorem dX0_span_1 : decode cX0_span 1 = .ok (.getfield 15, 3) := by decide +kernel
theorem dX0_span_4 : decode cX0_span 4 = .ok (.aload_n 0, 1) := by decide +kernel
theorem dX0_span_5 : decode cX0_span 5 = .ok (.getfield 9, 3) := by decide +kernel
theorem dX0_span_8 : decode cX0_span 8 = .ok (.isub, 1) := by decide +kernel
theorem dX0_span_9 : decode cX0_span 9 = .ok (.ireturn, 1) := by decide +kernel
theorem dX0_share_0 : decode cX0_share 0 = .ok (.iload_n 1, 1) := by decide +kernel
theorem dX0_share_1 : decode cX0_share 1 = .ok (.ifCond .ne 14, 3) := by decide +kernel
theorem dX0_share_4 : decode cX0_share 4 = .ok (.iload_n 2, 1) := by decide +kernel
theorem dX0_share_5 : decode cX0_share 5 = .ok (.aload_n 0, 1) := by decide +kernel
theorem dX0_share_6 : decode cX0_share 6 = .ok (.getfield 15, 3) := by decide +kernel
theorem dX0_share_9 : decode cX0_share 9 = .ok (.iload_n 3, 1) := by decide +kernel
theorem dX0_share_10 : decode cX0_share 10 = .ok (.isub, 1) := by decide +kernel
theorem dX0_share_11 : decode cX0_share 11 = .ok (.imul, 1) := by decide +kernel
theorem dX0_share_12 : decode cX0_share 12 = .ok (.goto 11, 3) := by decide +kernel
theorem dX0_share_15 : decode cX0_share 15 = .ok (.iload_n 2, 1) := by decide +kernel
theorem dX0_share_16 : decode cX0_share 16 = .ok (.iload_n 3, 1) := by decide +kernel
theorem dX0_share_17 : decode cX0_share 17 = .ok (.aload_n 0, 1) := by decide +kernel
theorem dX0_share_18 : decode cX0_share 18 = .ok (.getfield 9, 3) := by decide +kernel
theorem dX0_share_21 : decode cX0_share 21 = .ok (.isub, 1) := by decide +kernel
theorem dX0_share_22 : decode cX0_share 22 = .ok (.imul, 1) := by decide +kernel
theorem dX0_share_23 : decode cX0_share 23 = .ok (.ireturn, 1) := by decide +kernel
theorem dX0_bear_0 : decode cX0_bear 0 = .ok (.iload_n 1, 1) := by decide +kernel
theorem dX0_bear_1 : decode cX0_bear 1 = .ok (.aload_n 0, 1) := by decide +kernel
theorem dX0_bear_2 : decode cX0_bear 2 = .ok (.getfield 18, 3) := by decide +kernel
theorem dX0_bear_5 : decode cX0_bear 5 = .ok (.aload_n 0, 1) := by decide +kernel
theorem dX0_bear_6 : decode cX0_bear 6 = .ok (.invokevirtual 24, 3) := by decide +kernel
theorem dX0_bear_9 : decode cX0_bear 9 = .ok (.imul, 1) := by decide +kernel
theorem dX0_bear_10 : decode cX0_bear 10 = .ok (.if_icmp .gt 20, 3) := by decide +kernel
theorem dX0_bear_13 : decode cX0_bear 13 = .ok (.iload_n 2, 1) := by decide +kernel
theorem dX0_bear_14 : decode cX0_bear 14 = .ok (.aload_n 0, 1) := by decide +kernel
theorem dX0_bear_15 : decode cX0_bear 15 = .ok (.getfield 21, 3) := by decide +kernel
theorem dX0_bear_18 : decode cX0_bear 18 = .ok (.aload_n 0, 1) := by decide +kernel
theorem dX0_bear_19 : decode cX0_bear 19 = .ok (.invokevirtual 24, 3) := by decide +kernel
theorem dX0_bear_22 : decode cX0_bear 22 = .ok (.imul, 1) := by decide +kernel
theorem dX0_bear_23 : decode cX0_bear 23 = .ok (.if_icmp .gt 7, 3) := by decide +kernel
theorem dX0_bear_26 : decode cX0_bear 26 = .ok (.iconst 1, 1) := by decide +kernel
theorem dX0_bear_27 : decode cX0_bear 27 = .ok (.goto 4, 3) := by decide +kernel
theorem dX0_bear_30 : decode cX0_bear 30 = .ok (.iconst 0, 1) := by decide +kernel
theorem dX0_bear_31 : decode cX0_bear 31 = .ok (.ireturn, 1) := by decide +kernel
theorem dX1_init_0 : decode cX1_init 0 = .ok (.aload_n 0, 1) := by decide +kernel
theorem dX1_init_1 : decode cX1_init 1 = .ok (.invokespecial 3, 3) := by decide +kernel
theorem dX1_init_4 : decode cX1_init 4 = .ok (.aload_n 0, 1) := by decide +kernel
theorem dX1_init_5 : decode cX1_init 5 = .ok (.iconst 0, 1) := by decide +kernel
theorem dX1_init_6 : decode cX1_init 6 = .ok (.bipush 12, 2) := by decide +kernel
theorem dX1_init_8 : decode cX1_init 8 = .ok (.iload_n 1, 1) := by decide +kernel
theorem dX1_init_9 : decode cX1_init 9 = .ok (.invokestatic 9, 3) := by decide +kernel
theorem dX1_init_12 : decode cX1_init 12 = .ok (.invokestatic 15, 3) := by decide +kernel
theorem dX1_init_15 : decode cX1_init 15 = .ok (.putfield 18, 3) := by decide +kernel
theorem dX1_init_18 : decode cX1_init 18 = .ok (.aload_n 0, 1) := by decide +kernel
theorem dX1_init_19 : decode cX1_init 19 = .ok (.bipush 12, 2) := by decide +kernel
theorem dX1_init_21 : decode cX1_init 21 = .ok (.newarray .int, 2) := by decide +kernel
theorem dX1_init_23 : decode cX1_init 23 = .ok (.putfield 24, 3) := by decide +kernel
theorem dX1_init_26 : decode cX1_init 26 = .ok (.aload_n 0, 1) := by decide +kernel
theorem dX1_init_27 : decode cX1_init 27 = .ok (.bipush 12, 2) := by decide +kernel
theorem dX1_init_29 : decode cX1_init 29 = .ok (.newarray .boolean, 2) := by decide +kernel
theorem dX1_init_31 : decode cX1_init 31 = .ok (.putfield 28, 3) := by decide +kernel
theorem dX1_init_34 : decode cX1_init 34 = .ok (.aload_n 0, 1) := by decide +kernel
theorem dX1_init_35 : decode cX1_init 35 = .ok (.bipush 8, 2) := by decide +kernel
theorem dX1_init_37 : decode cX1_init 37 = .ok (.anewarray 32, 3) := by decide +kernel
theorem dX1_init_40 : decode cX1_init 40 = .ok (.putfield 34, 3) := by decide +kernel
theorem dX1_init_43 : decode cX1_init 43 = .ok (.aload_n 0, 1) := by decide +kernel
theorem dX1_init_44 : decode cX1_init 44 = .ok (.new 38, 3) := by decide +kernel
theorem dX1_init_47 : decode cX1_init 47 = .ok (.dup, 1) := by decide +kernel
theorem dX1_init_48 : decode cX1_init 48 = .ok (.invokespecial 40, 3) := by decide +kernel
theorem dX1_init_51 : decode cX1_init 51 = .ok (.putfield 41, 3) := by decide +kernel
theorem dX1_init_54 : decode cX1_init 54 = .ok (.aload_n 0, 1) := by decide +kernel
theorem dX1_init_55 : decode cX1_init 55 = .ok (.iconst 0, 1) := by decide +kernel
theorem dX1_init_56 : decode cX1_init 56 = .ok (.putfield 45, 3) := by decide +kernel
theorem dX1_init_59 : decode cX1_init 59 = .ok (.iconst 0, 1) := by decide +kernel
theorem dX1_init_60 : decode cX1_init 60 = .ok (.istore_n 2, 1) := by decide +kernel
theorem dX1_init_61 : decode cX1_init 61 = .ok (.iload_n 2, 1) := by decide +kernel
theorem dX1_init_62 : decode cX1_init 62 = .ok (.bipush 12, 2) := by decide +kernel
theorem dX1_init_64 : decode cX1_init 64 = .ok (.if_icmp .ge 17, 3) := by decide +kernel
theorem dX1_init_67 : decode cX1_init 67 = .ok (.aload_n 0, 1) := by decide +kernel
theorem dX1_init_68 : decode cX1_init 68 = .ok (.getfield 24, 3) := by decide +kernel
theorem dX1_init_71 : decode cX1_init 71 = .ok (.iload_n 2, 1) := by decide +kernel
theorem dX1_init_72 : decode cX1_init 72 = .ok (.bipush 10, 2) := by decide +kernel
theorem dX1_init_74 : decode cX1_init 74 = .ok (.iastore, 1) := by decide +kernel
theorem dX1_init_75 : decode cX1_init 75 = .ok (.iinc 2 1, 3) := by decide +kernel
theorem dX1_init_78 : decode cX1_init 78 = .ok (.goto (-17), 3) := by decide +kernel
theorem dX1_init_81 : decode cX1_init 81 = .ok (.iconst 0, 1) := by decide +kernel
theorem dX1_init_82 : decode cX1_init 82 = .ok (.istore_n 2, 1) := by decide +kernel
theorem dX1_init_83 : decode cX1_init 83 = .ok (.iload_n 2, 1) := by decide +kernel
theorem dX1_init_84 : decode cX1_init 84 = .ok (.bipush 8, 2) := by decide +kernel
theorem dX1_init_86 : decode cX1_init 86 = .ok (.if_icmp .ge 22, 3) := by decide +kernel
theorem dX1_init_89 : decode cX1_init 89 = .ok (.aload_n 0, 1) := by decide +kernel
theorem dX1_init_90 : decode cX1_init 90 = .ok (.getfield 34, 3) := by decide +kernel
theorem dX1_init_93 : decode cX1_init 93 = .ok (.iload_n 2, 1) := by decide +kernel
theorem dX1_init_94 : decode cX1_init 94 = .ok (.new 32, 3) := by decide +kernel
theorem dX1_init_97 : decode cX1_init 97 = .ok (.dup, 1) := by decide +kernel
theorem dX1_init_98 : decode cX1_init 98 = .ok (.invokespecial 48, 3) := by decide +kernel
theorem dX1_init_101 : decode cX1_init 101 = .ok (.aastore, 1) := by decide +kernel
theorem dX1_init_102 : decode cX1_init 102 = .ok (.iinc 2 1, 3) := by decide +kernel
theorem dX1_init_105 : decode cX1_init 105 = .ok (.goto (-22), 3) := by decide +kernel
theorem dX1_init_108 : decode cX1_init 108 = .ok (.return_, 1) := by decide +kernel
theorem dX1_hasCell_0 : decode cX1_hasCell 0 = .ok (.iload_n 1, 1) := by decide +kernel
theorem dX1_hasCell_1 : decode cX1_hasCell 1 = .ok (.ifCond .lt 15, 3) := by decide +kernel
theorem dX1_hasCell_4 : decode cX1_hasCell 4 = .ok (.iload_n 1, 1) := by decide +kernel
theorem dX1_hasCell_5 : decode cX1_hasCell 5 = .ok (.aload_n 0, 1) := by decide +kernel
theorem dX1_hasCell_6 : decode cX1_hasCell 6 = .ok (.getfield 18, 3) := by decide +kernel
theorem dX1_hasCell_9 : decode cX1_hasCell 9 = .ok (.if_icmp .ge 7, 3) := by decide +kernel
theorem dX1_hasCell_12 : decode cX1_hasCell 12 = .ok (.iconst 1, 1) := by decide +kernel
theorem dX1_hasCell_13 : decode cX1_hasCell 13 = .ok (.goto 4, 3) := by decide +kernel
theorem dX1_hasCell_16 : decode cX1_hasCell 16 = .ok (.iconst 0, 1) := by decide +kernel
theorem dX1_hasCell_17 : decode cX1_hasCell 17 = .ok (.ireturn, 1) := by decide +kernel
theorem dX1_isTaken_0 : decode cX1_isTaken 0 = .ok (.iconst 0, 1) := by decide +kernel
theorem dX1_isTaken_1 : decode cX1_isTaken 1 = .ok (.istore_n 2, 1) := by decide +kernel
theorem dX1_isTaken_2 : decode cX1_isTaken 2 = .ok (.iload_n 2, 1) := by decide +kernel
theorem dX1_isTaken_3 : decode cX1_isTaken 3 = .ok (.aload_n 0, 1) := by decide +kernel
theorem dX1_isTaken_4 : decode cX1_isTaken 4 = .ok (.getfield 45, 3) := by decide +kernel
theorem dX1_isTaken_7 : decode cX1_isTaken 7 = .ok (.if_icmp .ge 24, 3) := by decide +kernel
theorem dX1_isTaken_10 : decode cX1_isTaken 10 = .ok (.aload_n 0, 1) := by decide +kernel
theorem dX1_isTaken_11 : decode cX1_isTaken 11 = .ok (.getfield 34, 3) := by decide +kernel
theorem dX1_isTaken_14 : decode cX1_isTaken 14 = .ok (.iload_n 2, 1) := by decide +kernel
theorem dX1_isTaken_15 : decode cX1_isTaken 15 = .ok (.aaload, 1) := by decide +kernel
theorem dX1_isTaken_16 : decode cX1_isTaken 16 = .ok (.getfield 49, 3) := by decide +kernel
theorem dX1_isTaken_19 : decode cX1_isTaken 19 = .ok (.iload_n 1, 1) := by decide +kernel
theorem dX1_isTaken_20 : decode cX1_isTaken 20 = .ok (.if_icmp .ne 5, 3) := by decide +kernel
theorem dX1_isTaken_23 : decode cX1_isTaken 23 = .ok (.iconst 1, 1) := by decide +kernel
theorem dX1_isTaken_24 : decode cX1_isTaken 24 = .ok (.ireturn, 1) := by decide +kernel
theorem dX1_isTaken_25 : decode cX1_isTaken 25 = .ok (.iinc 2 1, 3) := by decide +kernel
theorem dX1_isTaken_28 : decode cX1_isTaken 28 = .ok (.goto (-26), 3) := by decide +kernel
theorem dX1_isTaken_31 : decode cX1_isTaken 31 = .ok (.iconst 0, 1) := by decide +kernel
theorem dX1_isTaken_32 : decode cX1_isTaken 32 = .ok (.ireturn, 1) := by decide +kernel
theorem dX1_standing_0 : decode cX1_standing 0 = .ok (.iconst 0, 1) := by decide +kernel
theorem dX1_standing_1 : decode cX1_standing 1 = .ok (.istore_n 1, 1) := by decide +kernel
theorem dX1_standing_2 : decode cX1_standing 2 = .ok (.iconst 0, 1) := by decide +kernel
theorem dX1_standing_3 : decode cX1_standing 3 = .ok (.istore_n 2, 1) := by decide +kernel
theorem dX1_standing_4 : decode cX1_standing 4 = .ok (.iload_n 2, 1) := by decide +kernel
theorem dX1_standing_5 : decode cX1_standing 5 = .ok (.aload_n 0, 1) := by decide +kernel
theorem dX1_standing_6 : decode cX1_standing 6 = .ok (.getfield 45, 3) := by decide +kernel
theorem dX1_standing_9 : decode cX1_standing 9 = .ok (.if_icmp .ge 24, 3) := by decide +kernel
theorem dX1_standing_12 : decode cX1_standing 12 = .ok (.aload_n 0, 1) := by decide +kernel
theorem dX1_standing_13 : decode cX1_standing 13 = .ok (.getfield 34, 3) := by decide +kernel
theorem dX1_standing_16 : decode cX1_standing 16 = .ok (.iload_n 2, 1) := by decide +kernel
theorem dX1_standing_17 : decode cX1_standing 17 = .ok (.aaload, 1) := by decide +kernel
theorem dX1_standing_18 : decode cX1_standing 18 = .ok (.invokevirtual 52, 3) := by decide +kernel
theorem dX1_standing_21 : decode cX1_standing 21 = .ok (.ifCond .eq 6, 3) := by decide +kernel
theorem dX1_standing_24 : decode cX1_standing 24 = .ok (.iinc 1 1, 3) := by decide +kernel
theorem dX1_standing_27 : decode cX1_standing 27 = .ok (.iinc 2 1, 3) := by decide +kernel
theorem dX1_standing_30 : decode cX1_standing 30 = .ok (.goto (-26), 3) := by decide +kernel
theorem dX1_standing_33 : decode cX1_standing 33 = .ok (.iload_n 1, 1) := by decide +kernel
theorem dX1_standing_34 : decode cX1_standing 34 = .ok (.ireturn, 1) := by decide +kernel
theorem dX1_weight_0 : decode cX1_weight 0 = .ok (.iconst 0, 1) := by decide +kernel
theorem dX1_weight_1 : decode cX1_weight 1 = .ok (.istore_n 1, 1) := by decide +kernel
theorem dX1_weight_2 : decode cX1_weight 2 = .ok (.iconst 0, 1) := by decide +kernel
theorem dX1_weight_3 : decode cX1_weight 3 = .ok (.istore_n 2, 1) := by decide +kernel
theorem dX1_weight_4 : decode cX1_weight 4 = .ok (.iload_n 2, 1) := by decide +kernel
theorem dX1_weight_5 : decode cX1_weight 5 = .ok (.aload_n 0, 1) := by decide +kernel
theorem dX1_weight_6 : decode cX1_weight 6 = .ok (.getfield 45, 3) := by decide +kernel
theorem dX1_weight_9 : decode cX1_weight 9 = .ok (.if_icmp .ge 33, 3) := by decide +kernel
theorem dX1_weight_12 : decode cX1_weight 12 = .ok (.aload_n 0, 1) := by decide +kernel
theorem dX1_weight_13 : decode cX1_weight 13 = .ok (.getfield 34, 3) := by decide +kernel
theorem dX1_weight_16 : decode cX1_weight 16 = .ok (.iload_n 2, 1) := by decide +kernel
theorem dX1_weight_17 : decode cX1_weight 17 = .ok (.aaload, 1) := by decide +kernel
theorem dX1_weight_18 : decode cX1_weight 18 = .ok (.invokevirtual 52, 3) := by decide +kernel
theorem dX1_weight_21 : decode cX1_weight 21 = .ok (.ifCond .eq 15, 3) := by decide +kernel
theorem dX1_weight_24 : decode cX1_weight 24 = .ok (.iload_n 1, 1) := by decide +kernel
theorem dX1_weight_25 : decode cX1_weight 25 = .ok (.aload_n 0, 1) := by decide +kernel
theorem dX1_weight_26 : decode cX1_weight 26 = .ok (.getfield 34, 3) := by decide +kernel
theorem dX1_weight_29 : decode cX1_weight 29 = .ok (.iload_n 2, 1) := by decide +kernel
theorem dX1_weight_30 : decode cX1_weight 30 = .ok (.aaload, 1) := by decide +kernel
theorem dX1_weight_31 : decode cX1_weight 31 = .ok (.getfield 56, 3) := by decide +kernel
theorem dX1_weight_34 : decode cX1_weight 34 = .ok (.iadd, 1) := by decide +kernel
theorem dX1_weight_35 : decode cX1_weight 35 = .ok (.istore_n 1, 1) := by decide +kernel
theorem dX1_weight_36 : decode cX1_weight 36 = .ok (.iinc 2 1, 3) := by decide +kernel
theorem dX1_weight_39 : decode cX1_weight 39 = .ok (.goto (-35), 3) := by decide +kernel
theorem dX1_weight_42 : decode cX1_weight 42 = .ok (.iload_n 1, 1) := by decide +kernel
theorem dX1_weight_43 : decode cX1_weight 43 = .ok (.ireturn, 1) := by decide +kernel
theorem dX1_onAxle_0 : decode cX1_onAxle 0 = .ok (.iconst 0, 1) := by decide +kernel
theorem dX1_onAxle_1 : decode cX1_onAxle 1 = .ok (.istore_n 2, 1) := by decide +kernel
theorem dX1_onAxle_2 : decode cX1_onAxle 2 = .ok (.iconst 0, 1) := by decide +kernel
theorem dX1_onAxle_3 : decode cX1_onAxle 3 = .ok (.istore_n 3, 1) := by decide +kernel
theorem dX1_onAxle_4 : decode cX1_onAxle 4 = .ok (.iload_n 3, 1) := by decide +kernel
theorem dX1_onAxle_5 : decode cX1_onAxle 5 = .ok (.aload_n 0, 1) := by decide +kernel
theorem dX1_onAxle_6 : decode cX1_onAxle 6 = .ok (.getfield 45, 3) := by decide +kernel
theorem dX1_onAxle_9 : decode cX1_onAxle 9 = .ok (.if_icmp .ge 50, 3) := by decide +kernel
theorem dX1_onAxle_12 : decode cX1_onAxle 12 = .ok (.aload_n 0, 1) := by decide +kernel
theorem dX1_onAxle_13 : decode cX1_onAxle 13 = .ok (.getfield 34, 3) := by decide +kernel
theorem dX1_onAxle_16 : decode cX1_onAxle 16 = .ok (.iload_n 3, 1) := by decide +kernel
theorem dX1_onAxle_17 : decode cX1_onAxle 17 = .ok (.aaload, 1) := by decide +kernel
theorem dX1_onAxle_18 : decode cX1_onAxle 18 = .ok (.invokevirtual 52, 3) := by decide +kernel
theorem dX1_onAxle_21 : decode cX1_onAxle 21 = .ok (.ifCond .eq 32, 3) := by decide +kernel
theorem dX1_onAxle_24 : decode cX1_onAxle 24 = .ok (.iload_n 2, 1) := by decide +kernel
theorem dX1_onAxle_25 : decode cX1_onAxle 25 = .ok (.aload_n 0, 1) := by decide +kernel
theorem dX1_onAxle_26 : decode cX1_onAxle 26 = .ok (.getfield 41, 3) := by decide +kernel
theorem dX1_onAxle_29 : decode cX1_onAxle 29 = .ok (.iload_n 1, 1) := by decide +kernel
theorem dX1_onAxle_30 : decode cX1_onAxle 30 = .ok (.aload_n 0, 1) := by decide +kernel
theorem dX1_onAxle_31 : decode cX1_onAxle 31 = .ok (.getfield 34, 3) := by decide +kernel
theorem dX1_onAxle_34 : decode cX1_onAxle 34 = .ok (.iload_n 3, 1) := by decide +kernel
theorem dX1_onAxle_35 : decode cX1_onAxle 35 = .ok (.aaload, 1) := by decide +kernel
theorem dX1_onAxle_36 : decode cX1_onAxle 36 = .ok (.getfield 56, 3) := by decide +kernel
theorem dX1_onAxle_39 : decode cX1_onAxle 39 = .ok (.aload_n 0, 1) := by decide +kernel
theorem dX1_onAxle_40 : decode cX1_onAxle 40 = .ok (.getfield 34, 3) := by decide +kernel
theorem dX1_onAxle_43 : decode cX1_onAxle 43 = .ok (.iload_n 3, 1) := by decide +kernel
theorem dX1_onAxle_44 : decode cX1_onAxle 44 = .ok (.aaload, 1) := by decide +kernel
theorem dX1_onAxle_45 : decode cX1_onAxle 45 = .ok (.getfield 49, 3) := by decide +kernel
theorem dX1_onAxle_48 : decode cX1_onAxle 48 = .ok (.invokevirtual 59, 3) := by decide +kernel
theorem dX1_onAxle_51 : decode cX1_onAxle 51 = .ok (.iadd, 1) := by decide +kernel
theorem dX1_onAxle_52 : decode cX1_onAxle 52 = .ok (.istore_n 2, 1) := by decide +kernel
theorem dX1_onAxle_53 : decode cX1_onAxle 53 = .ok (.iinc 3 1, 3) := by decide +kernel
theorem dX1_onAxle_56 : decode cX1_onAxle 56 = .ok (.goto (-52), 3) := by decide +kernel
theorem dX1_onAxle_59 : decode cX1_onAxle 59 = .ok (.iload_n 2, 1) := by decide +kernel
theorem dX1_onAxle_60 : decode cX1_onAxle 60 = .ok (.ireturn, 1) := by decide +kernel
theorem dX1_palletsWithSomeCell_0 : decode cX1_palletsWithSomeCell 0 = .ok (.iconst 0, 1) := by decide +kernel
theorem dX1_palletsWithSomeCell_1 : decode cX1_palletsWithSomeCell 1 = .ok (.istore_n 1, 1) := by decide +kernel
theorem dX1_palletsWithSomeCell_2 : decode cX1_palletsWithSomeCell 2 = .ok (.iconst 0, 1) := by decide +kernel
theorem dX1_palletsWithSomeCell_3 : decode cX1_palletsWithSomeCell 3 = .ok (.istore_n 2, 1) := by decide +kernel
theorem dX1_palletsWithSomeCell_4 : decode cX1_palletsWithSomeCell 4 = .ok (.iload_n 2, 1) := by decide +kernel
theorem dX1_palletsWithSomeCell_5 : decode cX1_palletsWithSomeCell 5 = .ok (.aload_n 0, 1) := by decide +kernel
theorem dX1_palletsWithSomeCell_6 : decode cX1_palletsWithSomeCell 6 = .ok (.getfield 45, 3) := by decide +kernel
theorem dX1_palletsWithSomeCell_9 : decode cX1_palletsWithSomeCell 9 = .ok (.if_icmp .ge 25, 3) := by decide +kernel
theorem dX1_palletsWithSomeCell_12 : decode cX1_palletsWithSomeCell 12 = .ok (.aload_n 0, 1) := by decide +kernel
theorem dX1_palletsWithSomeCell_13 : decode cX1_palletsWithSomeCell 13 = .ok (.aload_n 0, 1) := by decide +kernel
theorem dX1_palletsWithSomeCell_14 : decode cX1_palletsWithSomeCell 14 = .ok (.getfield 34, 3) := by decide +kernel
theorem dX1_palletsWithSomeCell_17 : decode cX1_palletsWithSomeCell 17 = .ok (.iload_n 2, 1) := by decide +kernel
theorem dX1_palletsWithSomeCell_18 : decode cX1_palletsWithSomeCell 18 = .ok (.aaload, 1) := by decide +kernel
theorem dX1_palletsWithSomeCell_19 : decode cX1_palletsWithSomeCell 19 = .ok (.invokevirtual 63, 3) := by decide +kernel
theorem dX1_palletsWithSomeCell_22 : decode cX1_palletsWithSomeCell 22 = .ok (.ifCond .eq 6, 3) := by decide +kernel
theorem dX1_palletsWithSomeCell_25 : decode cX1_palletsWithSomeCell 25 = .ok (.iinc 1 1, 3) := by decide +kernel
theorem dX1_palletsWithSomeCell_28 : decode cX1_palletsWithSomeCell 28 = .ok (.iinc 2 1, 3) := by decide +kernel
theorem dX1_palletsWithSomeCell_31 : decode cX1_palletsWithSomeCell 31 = .ok (.goto (-27), 3) := by decide +kernel
theorem dX1_palletsWithSomeCell_34 : decode cX1_palletsWithSomeCell 34 = .ok (.iload_n 1, 1) := by decide +kernel
theorem dX1_palletsWithSomeCell_35 : decode cX1_palletsWithSomeCell 35 = .ok (.ireturn, 1) := by decide +kernel
theorem dX1_fitsSomeCell_0 : decode cX1_fitsSomeCell 0 = .ok (.iconst 0, 1) := by decide +kernel
theorem dX1_fitsSomeCell_1 : decode cX1_fitsSomeCell 1 = .ok (.istore_n 2, 1) := by decide +kernel
theorem dX1_fitsSomeCell_2 : decode cX1_fitsSomeCell 2 = .ok (.iload_n 2, 1) := by decide +kernel
theorem dX1_fitsSomeCell_3 : decode cX1_fitsSomeCell 3 = .ok (.aload_n 0, 1) := by decide +kernel
theorem dX1_fitsSomeCell_4 : decode cX1_fitsSomeCell 4 = .ok (.getfield 18, 3) := by decide +kernel
theorem dX1_fitsSomeCell_7 : decode cX1_fitsSomeCell 7 = .ok (.if_icmp .ge 29, 3) := by decide +kernel
theorem dX1_fitsSomeCell_10 : decode cX1_fitsSomeCell 10 = .ok (.aload_n 0, 1) := by decide +kernel
theorem dX1_fitsSomeCell_11 : decode cX1_fitsSomeCell 11 = .ok (.aload_n 1, 1) := by decide +kernel
theorem dX1_fitsSomeCell_12 : decode cX1_fitsSomeCell 12 = .ok (.iload_n 2, 1) := by decide +kernel
theorem dX1_fitsSomeCell_13 : decode cX1_fitsSomeCell 13 = .ok (.invokevirtual 67, 3) := by decide +kernel
theorem dX1_fitsSomeCell_16 : decode cX1_fitsSomeCell 16 = .ok (.ifCond .ne 14, 3) := by decide +kernel
theorem dX1_fitsSomeCell_19 : decode cX1_fitsSomeCell 19 = .ok (.aload_n 0, 1) := by decide +kernel
theorem dX1_fitsSomeCell_20 : decode cX1_fitsSomeCell 20 = .ok (.aload_n 1, 1) := by decide +kernel
theorem dX1_fitsSomeCell_21 : decode cX1_fitsSomeCell 21 = .ok (.iload_n 2, 1) := by decide +kernel
theorem dX1_fitsSomeCell_22 : decode cX1_fitsSomeCell 22 = .ok (.invokevirtual 71, 3) := by decide +kernel
theorem dX1_fitsSomeCell_25 : decode cX1_fitsSomeCell 25 = .ok (.ifCond .ne 5, 3) := by decide +kernel
theorem dX1_fitsSomeCell_28 : decode cX1_fitsSomeCell 28 = .ok (.iconst 1, 1) := by decide +kernel
theorem dX1_fitsSomeCell_29 : decode cX1_fitsSomeCell 29 = .ok (.ireturn, 1) := by decide +kernel
theorem dX1_fitsSomeCell_30 : decode cX1_fitsSomeCell 30 = .ok (.iinc 2 1, 3) := by decide +kernel
theorem dX1_fitsSomeCell_33 : decode cX1_fitsSomeCell 33 = .ok (.goto (-31), 3) := by decide +kernel
theorem dX1_fitsSomeCell_36 : decode cX1_fitsSomeCell 36 = .ok (.iconst 0, 1) := by decide +kernel
theorem dX1_fitsSomeCell_37 : decode cX1_fitsSomeCell 37 = .ok (.ireturn, 1) := by decide +kernel
theorem dX1_firstBar_0 : decode cX1_firstBar 0 = .ok (.aload_n 0, 1) := by decide +kernel
theorem dX1_firstBar_1 : decode cX1_firstBar 1 = .ok (.aload_n 1, 1) := by decide +kernel
theorem dX1_firstBar_2 : decode cX1_firstBar 2 = .ok (.iload_n 2, 1) := by decide +kernel
theorem dX1_firstBar_3 : decode cX1_firstBar 3 = .ok (.invokevirtual 74, 3) := by decide +kernel
theorem dX1_firstBar_6 : decode cX1_firstBar 6 = .ok (.istore_n 3, 1) := by decide +kernel
theorem dX1_firstBar_7 : decode cX1_firstBar 7 = .ok (.iload_n 3, 1) := by decide +kernel
theorem dX1_firstBar_8 : decode cX1_firstBar 8 = .ok (.ifCond .eq 5, 3) := by decide +kernel
theorem dX1_firstBar_11 : decode cX1_firstBar 11 = .ok (.iload_n 3, 1) := by decide +kernel
theorem dX1_firstBar_12 : decode cX1_firstBar 12 = .ok (.ireturn, 1) := by decide +kernel
theorem dX1_firstBar_13 : decode cX1_firstBar 13 = .ok (.aload_n 0, 1) := by decide +kernel
theorem dX1_firstBar_14 : decode cX1_firstBar 14 = .ok (.aload_n 1, 1) := by decide +kernel
theorem dX1_firstBar_15 : decode cX1_firstBar 15 = .ok (.iload_n 2, 1) := by decide +kernel
theorem dX1_firstBar_16 : decode cX1_firstBar 16 = .ok (.invokevirtual 78, 3) := by decide +kernel
theorem dX1_firstBar_19 : decode cX1_firstBar 19 = .ok (.ifCond .eq 8, 3) := by decide +kernel
theorem dX1_firstBar_22 : decode cX1_firstBar 22 = .ok (.bipush 6, 2) := by decide +kernel
theorem dX1_firstBar_24 : decode cX1_firstBar 24 = .ok (.goto 4, 3) := by decide +kernel
theorem dX1_firstBar_27 : decode cX1_firstBar 27 = .ok (.iconst 0, 1) := by decide +kernel
theorem dX1_firstBar_28 : decode cX1_firstBar 28 = .ok (.ireturn, 1) := by decide +kernel
theorem dX1_firstBarButAxles_0 : decode cX1_firstBarButAxles 0 = .ok (.aload_n 0, 1) := by decide +kernel
theorem dX1_firstBarButAxles_1 : decode cX1_firstBarButAxles 1 = .ok (.aload_n 1, 1) := by decide +kernel
theorem dX1_firstBarButAxles_2 : decode cX1_firstBarButAxles 2 = .ok (.iload_n 2, 1) := by decide +kernel
theorem dX1_firstBarButAxles_3 : decode cX1_firstBarButAxles 3 = .ok (.invokevirtual 81, 3) := by decide +kernel
theorem dX1_firstBarButAxles_6 : decode cX1_firstBarButAxles 6 = .ok (.ifCond .eq 5, 3) := by decide +kernel
theorem dX1_firstBarButAxles_9 : decode cX1_firstBarButAxles 9 = .ok (.iconst 1, 1) := by decide +kernel
theorem dX1_firstBarButAxles_10 : decode cX1_firstBarButAxles 10 = .ok (.ireturn, 1) := by decide +kernel
theorem dX1_firstBarButAxles_11 : decode cX1_firstBarButAxles 11 = .ok (.aload_n 0, 1) := by decide +kernel
theorem dX1_firstBarButAxles_12 : decode cX1_firstBarButAxles 12 = .ok (.aload_n 1, 1) := by decide +kernel
theorem dX1_firstBarButAxles_13 : decode cX1_firstBarButAxles 13 = .ok (.iload_n 2, 1) := by decide +kernel
theorem dX1_firstBarButAxles_14 : decode cX1_firstBarButAxles 14 = .ok (.invokevirtual 67, 3) := by decide +kernel
theorem dX1_firstBarButAxles_17 : decode cX1_firstBarButAxles 17 = .ok (.ifCond .eq 5, 3) := by decide +kernel
theorem dX1_firstBarButAxles_20 : decode cX1_firstBarButAxles 20 = .ok (.iconst 2, 1) := by decide +kernel
theorem dX1_firstBarButAxles_21 : decode cX1_firstBarButAxles 21 = .ok (.ireturn, 1) := by decide +kernel
theorem dX1_firstBarButAxles_22 : decode cX1_firstBarButAxles 22 = .ok (.aload_n 0, 1) := by decide +kernel
theorem dX1_firstBarButAxles_23 : decode cX1_firstBarButAxles 23 = .ok (.aload_n 1, 1) := by decide +kernel
theorem dX1_firstBarButAxles_24 : decode cX1_firstBarButAxles 24 = .ok (.iload_n 2, 1) := by decide +kernel
theorem dX1_firstBarButAxles_25 : decode cX1_firstBarButAxles 25 = .ok (.invokevirtual 71, 3) := by decide +kernel
theorem dX1_firstBarButAxles_28 : decode cX1_firstBarButAxles 28 = .ok (.ifCond .eq 5, 3) := by decide +kernel
theorem dX1_firstBarButAxles_31 : decode cX1_firstBarButAxles 31 = .ok (.iconst 3, 1) := by decide +kernel
theorem dX1_firstBarButAxles_32 : decode cX1_firstBarButAxles 32 = .ok (.ireturn, 1) := by decide +kernel
theorem dX1_firstBarButAxles_33 : decode cX1_firstBarButAxles 33 = .ok (.aload_n 0, 1) := by decide +kernel
theorem dX1_firstBarButAxles_34 : decode cX1_firstBarButAxles 34 = .ok (.aload_n 1, 1) := by decide +kernel
theorem dX1_firstBarButAxles_35 : decode cX1_firstBarButAxles 35 = .ok (.iload_n 2, 1) := by decide +kernel
theorem dX1_firstBarButAxles_36 : decode cX1_firstBarButAxles 36 = .ok (.invokevirtual 84, 3) := by decide +kernel
theorem dX1_firstBarButAxles_39 : decode cX1_firstBarButAxles 39 = .ok (.ifCond .eq 5, 3) := by decide +kernel
theorem dX1_firstBarButAxles_42 : decode cX1_firstBarButAxles 42 = .ok (.iconst 4, 1) := by decide +kernel
theorem dX1_firstBarButAxles_43 : decode cX1_firstBarButAxles 43 = .ok (.ireturn, 1) := by decide +kernel
theorem dX1_firstBarButAxles_44 : decode cX1_firstBarButAxles 44 = .ok (.aload_n 0, 1) := by decide +kernel
theorem dX1_firstBarButAxles_45 : decode cX1_firstBarButAxles 45 = .ok (.aload_n 1, 1) := by decide +kernel
theorem dX1_firstBarButAxles_46 : decode cX1_firstBarButAxles 46 = .ok (.aload_n 1, 1) := by decide +kernel
theorem dX1_firstBarButAxles_47 : decode cX1_firstBarButAxles 47 = .ok (.getfield 87, 3) := by decide +kernel
theorem dX1_firstBarButAxles_50 : decode cX1_firstBarButAxles 50 = .ok (.iload_n 2, 1) := by decide +kernel
theorem dX1_firstBarButAxles_51 : decode cX1_firstBarButAxles 51 = .ok (.invokevirtual 90, 3) := by decide +kernel
theorem dX1_firstBarButAxles_54 : decode cX1_firstBarButAxles 54 = .ok (.ifCond .eq 7, 3) := by decide +kernel
theorem dX1_firstBarButAxles_57 : decode cX1_firstBarButAxles 57 = .ok (.iconst 5, 1) := by decide +kernel
theorem dX1_firstBarButAxles_58 : decode cX1_firstBarButAxles 58 = .ok (.goto 4, 3) := by decide +kernel
theorem dX1_firstBarButAxles_61 : decode cX1_firstBarButAxles 61 = .ok (.iconst 0, 1) := by decide +kernel
theorem dX1_firstBarButAxles_62 : decode cX1_firstBarButAxles 62 = .ok (.ireturn, 1) := by decide +kernel
theorem dX1_barFromAllCells_0 : decode cX1_barFromAllCells 0 = .ok (.iconst 1, 1) := by decide +kernel
theorem dX1_barFromAllCells_1 : decode cX1_barFromAllCells 1 = .ok (.istore_n 2, 1) := by decide +kernel
theorem dX1_barFromAllCells_2 : decode cX1_barFromAllCells 2 = .ok (.iconst 0, 1) := by decide +kernel
theorem dX1_barFromAllCells_3 : decode cX1_barFromAllCells 3 = .ok (.istore_n 3, 1) := by decide +kernel
theorem dX1_barFromAllCells_4 : decode cX1_barFromAllCells 4 = .ok (.iload_n 3, 1) := by decide +kernel
theorem dX1_barFromAllCells_5 : decode cX1_barFromAllCells 5 = .ok (.aload_n 0, 1) := by decide +kernel
theorem dX1_barFromAllCells_6 : decode cX1_barFromAllCells 6 = .ok (.getfield 18, 3) := by decide +kernel
theorem dX1_barFromAllCells_9 : decode cX1_barFromAllCells 9 = .ok (.if_icmp .ge 31, 3) := by decide +kernel
theorem dX1_barFromAllCells_12 : decode cX1_barFromAllCells 12 = .ok (.aload_n 0, 1) := by decide +kernel
theorem dX1_barFromAllCells_13 : decode cX1_barFromAllCells 13 = .ok (.aload_n 1, 1) := by decide +kernel
theorem dX1_barFromAllCells_14 : decode cX1_barFromAllCells 14 = .ok (.iload_n 3, 1) := by decide +kernel
theorem dX1_barFromAllCells_15 : decode cX1_barFromAllCells 15 = .ok (.invokevirtual 94, 3) := by decide +kernel
theorem dX1_barFromAllCells_18 : decode cX1_barFromAllCells 18 = .ok (.istore 4, 2) := by decide +kernel
theorem dX1_barFromAllCells_20 : decode cX1_barFromAllCells 20 = .ok (.iload 4, 2) := by decide +kernel
theorem dX1_barFromAllCells_22 : decode cX1_barFromAllCells 22 = .ok (.ifCond .ne 5, 3) := by decide +kernel
theorem dX1_barFromAllCells_25 : decode cX1_barFromAllCells 25 = .ok (.iconst 0, 1) := by decide +kernel
theorem dX1_barFromAllCells_26 : decode cX1_barFromAllCells 26 = .ok (.ireturn, 1) := by decide +kernel
theorem dX1_barFromAllCells_27 : decode cX1_barFromAllCells 27 = .ok (.iload_n 2, 1) := by decide +kernel
theorem dX1_barFromAllCells_28 : decode cX1_barFromAllCells 28 = .ok (.iload 4, 2) := by decide +kernel
theorem dX1_barFromAllCells_30 : decode cX1_barFromAllCells 30 = .ok (.invokestatic 15, 3) := by decide +kernel
theorem dX1_barFromAllCells_33 : decode cX1_barFromAllCells 33 = .ok (.istore_n 2, 1) := by decide +kernel
theorem dX1_barFromAllCells_34 : decode cX1_barFromAllCells 34 = .ok (.iinc 3 1, 3) := by decide +kernel
theorem dX1_barFromAllCells_37 : decode cX1_barFromAllCells 37 = .ok (.goto (-33), 3) := by decide +kernel
theorem dX1_barFromAllCells_40 : decode cX1_barFromAllCells 40 = .ok (.iload_n 2, 1) := by decide +kernel
theorem dX1_barFromAllCells_41 : decode cX1_barFromAllCells 41 = .ok (.ireturn, 1) := by decide +kernel
theorem dX1_othersBar_0 : decode cX1_othersBar 0 = .ok (.aload_n 1, 1) := by decide +kernel
theorem dX1_othersBar_1 : decode cX1_othersBar 1 = .ok (.getfield 49, 3) := by decide +kernel
theorem dX1_othersBar_4 : decode cX1_othersBar 4 = .ok (.iload_n 2, 1) := by decide +kernel
theorem dX1_othersBar_5 : decode cX1_othersBar 5 = .ok (.if_icmp .eq 15, 3) := by decide +kernel
theorem dX1_othersBar_8 : decode cX1_othersBar 8 = .ok (.aload_n 0, 1) := by decide +kernel
theorem dX1_othersBar_9 : decode cX1_othersBar 9 = .ok (.iload_n 2, 1) := by decide +kernel
theorem dX1_othersBar_10 : decode cX1_othersBar 10 = .ok (.invokevirtual 97, 3) := by decide +kernel
theorem dX1_othersBar_13 : decode cX1_othersBar 13 = .ok (.ifCond .eq 7, 3) := by decide +kernel
theorem dX1_othersBar_16 : decode cX1_othersBar 16 = .ok (.iconst 1, 1) := by decide +kernel
theorem dX1_othersBar_17 : decode cX1_othersBar 17 = .ok (.goto 4, 3) := by decide +kernel
theorem dX1_othersBar_20 : decode cX1_othersBar 20 = .ok (.iconst 0, 1) := by decide +kernel
theorem dX1_othersBar_21 : decode cX1_othersBar 21 = .ok (.ireturn, 1) := by decide +kernel
theorem dX1_heightBars_0 : decode cX1_heightBars 0 = .ok (.aload_n 0, 1) := by decide +kernel
theorem dX1_heightBars_1 : decode cX1_heightBars 1 = .ok (.iload_n 2, 1) := by decide +kernel
theorem dX1_heightBars_2 : decode cX1_heightBars 2 = .ok (.invokevirtual 101, 3) := by decide +kernel
theorem dX1_heightBars_5 : decode cX1_heightBars 5 = .ok (.ifCond .eq 20, 3) := by decide +kernel
theorem dX1_heightBars_8 : decode cX1_heightBars 8 = .ok (.aload_n 0, 1) := by decide +kernel
theorem dX1_heightBars_9 : decode cX1_heightBars 9 = .ok (.getfield 24, 3) := by decide +kernel
theorem dX1_heightBars_12 : decode cX1_heightBars 12 = .ok (.iload_n 2, 1) := by decide +kernel
theorem dX1_heightBars_13 : decode cX1_heightBars 13 = .ok (.iaload, 1) := by decide +kernel
theorem dX1_heightBars_14 : decode cX1_heightBars 14 = .ok (.aload_n 1, 1) := by decide +kernel
theorem dX1_heightBars_15 : decode cX1_heightBars 15 = .ok (.getfield 104, 3) := by decide +kernel
theorem dX1_heightBars_18 : decode cX1_heightBars 18 = .ok (.if_icmp .ge 7, 3) := by decide +kernel
theorem dX1_heightBars_21 : decode cX1_heightBars 21 = .ok (.iconst 1, 1) := by decide +kernel
theorem dX1_heightBars_22 : decode cX1_heightBars 22 = .ok (.goto 4, 3) := by decide +kernel
theorem dX1_heightBars_25 : decode cX1_heightBars 25 = .ok (.iconst 0, 1) := by decide +kernel
theorem dX1_heightBars_26 : decode cX1_heightBars 26 = .ok (.ireturn, 1) := by decide +kernel
theorem dX1_coldBars_0 : decode cX1_coldBars 0 = .ok (.aload_n 0, 1) := by decide +kernel
theorem dX1_coldBars_1 : decode cX1_coldBars 1 = .ok (.iload_n 2, 1) := by decide +kernel
theorem dX1_coldBars_2 : decode cX1_coldBars 2 = .ok (.invokevirtual 101, 3) := by decide +kernel
theorem dX1_coldBars_5 : decode cX1_coldBars 5 = .ok (.ifCond .eq 23, 3) := by decide +kernel
theorem dX1_coldBars_8 : decode cX1_coldBars 8 = .ok (.aload_n 1, 1) := by decide +kernel
theorem dX1_coldBars_9 : decode cX1_coldBars 9 = .ok (.getfield 107, 3) := by decide +kernel
theorem dX1_coldBars_12 : decode cX1_coldBars 12 = .ok (.ifCond .eq 16, 3) := by decide +kernel
theorem dX1_coldBars_15 : decode cX1_coldBars 15 = .ok (.aload_n 0, 1) := by decide +kernel
theorem dX1_coldBars_16 : decode cX1_coldBars 16 = .ok (.getfield 28, 3) := by decide +kernel
theorem dX1_coldBars_19 : decode cX1_coldBars 19 = .ok (.iload_n 2, 1) := by decide +kernel
theorem dX1_coldBars_20 : decode cX1_coldBars 20 = .ok (.baload, 1) := by decide +kernel
theorem dX1_coldBars_21 : decode cX1_coldBars 21 = .ok (.ifCond .ne 7, 3) := by decide +kernel
theorem dX1_coldBars_24 : decode cX1_coldBars 24 = .ok (.iconst 1, 1) := by decide +kernel
theorem dX1_coldBars_25 : decode cX1_coldBars 25 = .ok (.goto 4, 3) := by decide +kernel
theorem dX1_coldBars_28 : decode cX1_coldBars 28 = .ok (.iconst 0, 1) := by decide +kernel
theorem dX1_coldBars_29 : decode cX1_coldBars 29 = .ok (.ireturn, 1) := by decide +kernel
theorem dX1_dangerBars_0 : decode cX1_dangerBars 0 = .ok (.iconst 0, 1) := by decide +kernel
theorem dX1_dangerBars_1 : decode cX1_dangerBars 1 = .ok (.istore_n 3, 1) := by decide +kernel
theorem dX1_dangerBars_2 : decode cX1_dangerBars 2 = .ok (.iload_n 3, 1) := by decide +kernel
theorem dX1_dangerBars_3 : decode cX1_dangerBars 3 = .ok (.aload_n 0, 1) := by decide +kernel
theorem dX1_dangerBars_4 : decode cX1_dangerBars 4 = .ok (.getfield 45, 3) := by decide +kernel
theorem dX1_dangerBars_7 : decode cX1_dangerBars 7 = .ok (.if_icmp .ge 62, 3) := by decide +kernel
theorem dX1_dangerBars_10 : decode cX1_dangerBars 10 = .ok (.aload_n 0, 1) := by decide +kernel
theorem dX1_dangerBars_11 : decode cX1_dangerBars 11 = .ok (.getfield 34, 3) := by decide +kernel
theorem dX1_dangerBars_14 : decode cX1_dangerBars 14 = .ok (.iload_n 3, 1) := by decide +kernel
theorem dX1_dangerBars_15 : decode cX1_dangerBars 15 = .ok (.aaload, 1) := by decide +kernel
theorem dX1_dangerBars_16 : decode cX1_dangerBars 16 = .ok (.astore 4, 2) := by decide +kernel
theorem dX1_dangerBars_18 : decode cX1_dangerBars 18 = .ok (.aload 4, 2) := by decide +kernel
theorem dX1_dangerBars_20 : decode cX1_dangerBars 20 = .ok (.aload_n 1, 1) := by decide +kernel
theorem dX1_dangerBars_21 : decode cX1_dangerBars 21 = .ok (.if_acmp .eq 42, 3) := by decide +kernel
theorem dX1_dangerBars_24 : decode cX1_dangerBars 24 = .ok (.aload 4, 2) := by decide +kernel
theorem dX1_dangerBars_26 : decode cX1_dangerBars 26 = .ok (.invokevirtual 52, 3) := by decide +kernel
theorem dX1_dangerBars_29 : decode cX1_dangerBars 29 = .ok (.ifCond .eq 34, 3) := by decide +kernel
theorem dX1_dangerBars_32 : decode cX1_dangerBars 32 = .ok (.aload_n 1, 1) := by decide +kernel
theorem dX1_dangerBars_33 : decode cX1_dangerBars 33 = .ok (.getfield 111, 3) := by decide +kernel
theorem dX1_dangerBars_36 : decode cX1_dangerBars 36 = .ok (.ifCond .eq 27, 3) := by decide +kernel
theorem dX1_dangerBars_39 : decode cX1_dangerBars 39 = .ok (.aload 4, 2) := by decide +kernel
theorem dX1_dangerBars_41 : decode cX1_dangerBars 41 = .ok (.getfield 111, 3) := by decide +kernel
theorem dX1_dangerBars_44 : decode cX1_dangerBars 44 = .ok (.ifCond .eq 19, 3) := by decide +kernel
theorem dX1_dangerBars_47 : decode cX1_dangerBars 47 = .ok (.aload 4, 2) := by decide +kernel
theorem dX1_dangerBars_49 : decode cX1_dangerBars 49 = .ok (.getfield 49, 3) := by decide +kernel
theorem dX1_dangerBars_52 : decode cX1_dangerBars 52 = .ok (.iload_n 2, 1) := by decide +kernel
theorem dX1_dangerBars_53 : decode cX1_dangerBars 53 = .ok (.isub, 1) := by decide +kernel
theorem dX1_dangerBars_54 : decode cX1_dangerBars 54 = .ok (.invokestatic 114, 3) := by decide +kernel
theorem dX1_dangerBars_57 : decode cX1_dangerBars 57 = .ok (.iconst 1, 1) := by decide +kernel
theorem dX1_dangerBars_58 : decode cX1_dangerBars 58 = .ok (.if_icmp .ne 5, 3) := by decide +kernel
theorem dX1_dangerBars_61 : decode cX1_dangerBars 61 = .ok (.iconst 1, 1) := by decide +kernel
theorem dX1_dangerBars_62 : decode cX1_dangerBars 62 = .ok (.ireturn, 1) := by decide +kernel
theorem dX1_dangerBars_63 : decode cX1_dangerBars 63 = .ok (.iinc 3 1, 3) := by decide +kernel
theorem dX1_dangerBars_66 : decode cX1_dangerBars 66 = .ok (.goto (-64), 3) := by decide +kernel
theorem dX1_dangerBars_69 : decode cX1_dangerBars 69 = .ok (.iconst 0, 1) := by decide +kernel
theorem dX1_dangerBars_70 : decode cX1_dangerBars 70 = .ok (.ireturn, 1) := by decide +kernel
theorem dX1_stopsBar_0 : decode cX1_stopsBar 0 = .ok (.iconst 0, 1) := by decide +kernel
theorem dX1_stopsBar_1 : decode cX1_stopsBar 1 = .ok (.istore 4, 2) := by decide +kernel
theorem dX1_stopsBar_3 : decode cX1_stopsBar 3 = .ok (.iload 4, 2) := by decide +kernel
theorem dX1_stopsBar_5 : decode cX1_stopsBar 5 = .ok (.aload_n 0, 1) := by decide +kernel
theorem dX1_stopsBar_6 : decode cX1_stopsBar 6 = .ok (.getfield 45, 3) := by decide +kernel
theorem dX1_stopsBar_9 : decode cX1_stopsBar 9 = .ok (.if_icmp .ge 70, 3) := by decide +kernel
theorem dX1_stopsBar_12 : decode cX1_stopsBar 12 = .ok (.aload_n 0, 1) := by decide +kernel
theorem dX1_stopsBar_13 : decode cX1_stopsBar 13 = .ok (.getfield 34, 3) := by decide +kernel
theorem dX1_stopsBar_16 : decode cX1_stopsBar 16 = .ok (.iload 4, 2) := by decide +kernel
theorem dX1_stopsBar_18 : decode cX1_stopsBar 18 = .ok (.aaload, 1) := by decide +kernel
theorem dX1_stopsBar_19 : decode cX1_stopsBar 19 = .ok (.astore 5, 2) := by decide +kernel
theorem dX1_stopsBar_21 : decode cX1_stopsBar 21 = .ok (.aload 5, 2) := by decide +kernel
theorem dX1_stopsBar_23 : decode cX1_stopsBar 23 = .ok (.aload_n 1, 1) := by decide +kernel
theorem dX1_stopsBar_24 : decode cX1_stopsBar 24 = .ok (.if_acmp .eq 49, 3) := by decide +kernel
theorem dX1_stopsBar_27 : decode cX1_stopsBar 27 = .ok (.aload 5, 2) := by decide +kernel
theorem dX1_stopsBar_29 : decode cX1_stopsBar 29 = .ok (.invokevirtual 52, 3) := by decide +kernel
theorem dX1_stopsBar_32 : decode cX1_stopsBar 32 = .ok (.ifCond .eq 41, 3) := by decide +kernel
theorem dX1_stopsBar_35 : decode cX1_stopsBar 35 = .ok (.aload 5, 2) := by decide +kernel
theorem dX1_stopsBar_37 : decode cX1_stopsBar 37 = .ok (.getfield 87, 3) := by decide +kernel
theorem dX1_stopsBar_40 : decode cX1_stopsBar 40 = .ok (.iload_n 2, 1) := by decide +kernel
theorem dX1_stopsBar_41 : decode cX1_stopsBar 41 = .ok (.if_icmp .ge 12, 3) := by decide +kernel
theorem dX1_stopsBar_44 : decode cX1_stopsBar 44 = .ok (.aload 5, 2) := by decide +kernel
theorem dX1_stopsBar_46 : decode cX1_stopsBar 46 = .ok (.getfield 49, 3) := by decide +kernel
theorem dX1_stopsBar_49 : decode cX1_stopsBar 49 = .ok (.iload_n 3, 1) := by decide +kernel
theorem dX1_stopsBar_50 : decode cX1_stopsBar 50 = .ok (.if_icmp .lt 21, 3) := by decide +kernel
theorem dX1_stopsBar_53 : decode cX1_stopsBar 53 = .ok (.aload 5, 2) := by decide +kernel
theorem dX1_stopsBar_55 : decode cX1_stopsBar 55 = .ok (.getfield 87, 3) := by decide +kernel
theorem dX1_stopsBar_58 : decode cX1_stopsBar 58 = .ok (.iload_n 2, 1) := by decide +kernel
theorem dX1_stopsBar_59 : decode cX1_stopsBar 59 = .ok (.if_icmp .le 14, 3) := by decide +kernel
theorem dX1_stopsBar_62 : decode cX1_stopsBar 62 = .ok (.aload 5, 2) := by decide +kernel
theorem dX1_stopsBar_64 : decode cX1_stopsBar 64 = .ok (.getfield 49, 3) := by decide +kernel
theorem dX1_stopsBar_67 : decode cX1_stopsBar 67 = .ok (.iload_n 3, 1) := by decide +kernel
theorem dX1_stopsBar_68 : decode cX1_stopsBar 68 = .ok (.if_icmp .le 5, 3) := by decide +kernel
theorem dX1_stopsBar_71 : decode cX1_stopsBar 71 = .ok (.iconst 1, 1) := by decide +kernel
theorem dX1_stopsBar_72 : decode cX1_stopsBar 72 = .ok (.ireturn, 1) := by decide +kernel
theorem dX1_stopsBar_73 : decode cX1_stopsBar 73 = .ok (.iinc 4 1, 3) := by decide +kernel
theorem dX1_stopsBar_76 : decode cX1_stopsBar 76 = .ok (.goto (-73), 3) := by decide +kernel
theorem dX1_stopsBar_79 : decode cX1_stopsBar 79 = .ok (.iconst 0, 1) := by decide +kernel
theorem dX1_stopsBar_80 : decode cX1_stopsBar 80 = .ok (.ireturn, 1) := by decide +kernel
theorem dX1_axlesBar_0 : decode cX1_axlesBar 0 = .ok (.aload_n 1, 1) := by decide +kernel
theorem dX1_axlesBar_1 : decode cX1_axlesBar 1 = .ok (.getfield 49, 3) := by decide +kernel
theorem dX1_axlesBar_4 : decode cX1_axlesBar 4 = .ok (.istore_n 3, 1) := by decide +kernel
theorem dX1_axlesBar_5 : decode cX1_axlesBar 5 = .ok (.aload_n 1, 1) := by decide +kernel
theorem dX1_axlesBar_6 : decode cX1_axlesBar 6 = .ok (.iload_n 2, 1) := by decide +kernel
theorem dX1_axlesBar_7 : decode cX1_axlesBar 7 = .ok (.putfield 49, 3) := by decide +kernel
theorem dX1_axlesBar_10 : decode cX1_axlesBar 10 = .ok (.aload_n 0, 1) := by decide +kernel
theorem dX1_axlesBar_11 : decode cX1_axlesBar 11 = .ok (.getfield 41, 3) := by decide +kernel
theorem dX1_axlesBar_14 : decode cX1_axlesBar 14 = .ok (.aload_n 0, 1) := by decide +kernel
theorem dX1_axlesBar_15 : decode cX1_axlesBar 15 = .ok (.iconst 0, 1) := by decide +kernel
theorem dX1_axlesBar_16 : decode cX1_axlesBar 16 = .ok (.invokevirtual 118, 3) := by decide +kernel
theorem dX1_axlesBar_19 : decode cX1_axlesBar 19 = .ok (.aload_n 0, 1) := by decide +kernel
theorem dX1_axlesBar_20 : decode cX1_axlesBar 20 = .ok (.iconst 1, 1) := by decide +kernel
theorem dX1_axlesBar_21 : decode cX1_axlesBar 21 = .ok (.invokevirtual 118, 3) := by decide +kernel
theorem dX1_axlesBar_24 : decode cX1_axlesBar 24 = .ok (.invokevirtual 121, 3) := by decide +kernel
theorem dX1_axlesBar_27 : decode cX1_axlesBar 27 = .ok (.istore 4, 2) := by decide +kernel
theorem dX1_axlesBar_29 : decode cX1_axlesBar 29 = .ok (.aload_n 1, 1) := by decide +kernel
theorem dX1_axlesBar_30 : decode cX1_axlesBar 30 = .ok (.iload_n 3, 1) := by decide +kernel
theorem dX1_axlesBar_31 : decode cX1_axlesBar 31 = .ok (.putfield 49, 3) := by decide +kernel
theorem dX1_axlesBar_34 : decode cX1_axlesBar 34 = .ok (.iload 4, 2) := by decide +kernel
theorem dX1_axlesBar_36 : decode cX1_axlesBar 36 = .ok (.ifCond .ne 7, 3) := by decide +kernel
theorem dX1_axlesBar_39 : decode cX1_axlesBar 39 = .ok (.iconst 1, 1) := by decide +kernel
theorem dX1_axlesBar_40 : decode cX1_axlesBar 40 = .ok (.goto 4, 3) := by decide +kernel
theorem dX1_axlesBar_43 : decode cX1_axlesBar 43 = .ok (.iconst 0, 1) := by decide +kernel
theorem dX1_axlesBar_44 : decode cX1_axlesBar 44 = .ok (.ireturn, 1) := by decide +kernel
theorem dX1_takeAllOut_0 : decode cX1_takeAllOut 0 = .ok (.iconst 0, 1) := by decide +kernel
theorem dX1_takeAllOut_1 : decode cX1_takeAllOut 1 = .ok (.istore_n 1, 1) := by decide +kernel
theorem dX1_takeAllOut_2 : decode cX1_takeAllOut 2 = .ok (.iload_n 1, 1) := by decide +kernel
theorem dX1_takeAllOut_3 : decode cX1_takeAllOut 3 = .ok (.aload_n 0, 1) := by decide +kernel
theorem dX1_takeAllOut_4 : decode cX1_takeAllOut 4 = .ok (.getfield 45, 3) := by decide +kernel
theorem dX1_takeAllOut_7 : decode cX1_takeAllOut 7 = .ok (.if_icmp .ge 19, 3) := by decide +kernel
theorem dX1_takeAllOut_10 : decode cX1_takeAllOut 10 = .ok (.aload_n 0, 1) := by decide +kernel
theorem dX1_takeAllOut_11 : decode cX1_takeAllOut 11 = .ok (.getfield 34, 3) := by decide +kernel
theorem dX1_takeAllOut_14 : decode cX1_takeAllOut 14 = .ok (.iload_n 1, 1) := by decide +kernel
theorem dX1_takeAllOut_15 : decode cX1_takeAllOut 15 = .ok (.aaload, 1) := by decide +kernel
theorem dX1_takeAllOut_16 : decode cX1_takeAllOut 16 = .ok (.iconst (-1), 1) := by decide +kernel
theorem dX1_takeAllOut_17 : decode cX1_takeAllOut 17 = .ok (.putfield 49, 3) := by decide +kernel
theorem dX1_takeAllOut_20 : decode cX1_takeAllOut 20 = .ok (.iinc 1 1, 3) := by decide +kernel
theorem dX1_takeAllOut_23 : decode cX1_takeAllOut 23 = .ok (.goto (-21), 3) := by decide +kernel
theorem dX1_takeAllOut_26 : decode cX1_takeAllOut 26 = .ok (.return_, 1) := by decide +kernel
theorem dX1_placeByRule_0 : decode cX1_placeByRule 0 = .ok (.aload_n 0, 1) := by decide +kernel
theorem dX1_placeByRule_1 : decode cX1_placeByRule 1 = .ok (.invokevirtual 125, 3) := by decide +kernel
theorem dX1_placeByRule_4 : decode cX1_placeByRule 4 = .ok (.iconst 0, 1) := by decide +kernel
theorem dX1_placeByRule_5 : decode cX1_placeByRule 5 = .ok (.istore_n 1, 1) := by decide +kernel
theorem dX1_placeByRule_6 : decode cX1_placeByRule 6 = .ok (.bipush 9, 2) := by decide +kernel
theorem dX1_placeByRule_8 : decode cX1_placeByRule 8 = .ok (.istore_n 2, 1) := by decide +kernel
theorem dX1_placeByRule_9 : decode cX1_placeByRule 9 = .ok (.iload_n 2, 1) := by decide +kernel
theorem dX1_placeByRule_10 : decode cX1_placeByRule 10 = .ok (.iconst 1, 1) := by decide +kernel
theorem dX1_placeByRule_11 : decode cX1_placeByRule 11 = .ok (.if_icmp .lt 50, 3) := by decide +kernel
theorem dX1_placeByRule_14 : decode cX1_placeByRule 14 = .ok (.iconst 0, 1) := by decide +kernel
theorem dX1_placeByRule_15 : decode cX1_placeByRule 15 = .ok (.istore_n 3, 1) := by decide +kernel
theorem dX1_placeByRule_16 : decode cX1_placeByRule 16 = .ok (.iload_n 3, 1) := by decide +kernel
theorem dX1_placeByRule_17 : decode cX1_placeByRule 17 = .ok (.aload_n 0, 1) := by decide +kernel
theorem dX1_placeByRule_18 : decode cX1_placeByRule 18 = .ok (.getfield 45, 3) := by decide +kernel
theorem dX1_placeByRule_21 : decode cX1_placeByRule 21 = .ok (.if_icmp .ge 34, 3) := by decide +kernel
theorem dX1_placeByRule_24 : decode cX1_placeByRule 24 = .ok (.aload_n 0, 1) := by decide +kernel
theorem dX1_placeByRule_25 : decode cX1_placeByRule 25 = .ok (.getfield 34, 3) := by decide +kernel
theorem dX1_placeByRule_28 : decode cX1_placeByRule 28 = .ok (.iload_n 3, 1) := by decide +kernel
theorem dX1_placeByRule_29 : decode cX1_placeByRule 29 = .ok (.aaload, 1) := by decide +kernel
theorem dX1_placeByRule_30 : decode cX1_placeByRule 30 = .ok (.getfield 87, 3) := by decide +kernel
theorem dX1_placeByRule_33 : decode cX1_placeByRule 33 = .ok (.iload_n 2, 1) := by decide +kernel
theorem dX1_placeByRule_34 : decode cX1_placeByRule 34 = .ok (.if_icmp .ne 15, 3) := by decide +kernel
theorem dX1_placeByRule_37 : decode cX1_placeByRule 37 = .ok (.aload_n 0, 1) := by decide +kernel
theorem dX1_placeByRule_38 : decode cX1_placeByRule 38 = .ok (.iload_n 1, 1) := by decide +kernel
theorem dX1_placeByRule_39 : decode cX1_placeByRule 39 = .ok (.aload_n 0, 1) := by decide +kernel
theorem dX1_placeByRule_40 : decode cX1_placeByRule 40 = .ok (.getfield 34, 3) := by decide +kernel
theorem dX1_placeByRule_43 : decode cX1_placeByRule 43 = .ok (.iload_n 3, 1) := by decide +kernel
theorem dX1_placeByRule_44 : decode cX1_placeByRule 44 = .ok (.aaload, 1) := by decide +kernel
theorem dX1_placeByRule_45 : decode cX1_placeByRule 45 = .ok (.invokevirtual 128, 3) := by decide +kernel
theorem dX1_placeByRule_48 : decode cX1_placeByRule 48 = .ok (.istore_n 1, 1) := by decide +kernel
theorem dX1_placeByRule_49 : decode cX1_placeByRule 49 = .ok (.iinc 3 1, 3) := by decide +kernel
theorem dX1_placeByRule_52 : decode cX1_placeByRule 52 = .ok (.goto (-36), 3) := by decide +kernel
theorem dX1_placeByRule_55 : decode cX1_placeByRule 55 = .ok (.iinc 2 (-1), 3) := by decide +kernel
theorem dX1_placeByRule_58 : decode cX1_placeByRule 58 = .ok (.goto (-49), 3) := by decide +kernel
theorem dX1_placeByRule_61 : decode cX1_placeByRule 61 = .ok (.return_, 1) := by decide +kernel
theorem dX1_placeFrom_0 : decode cX1_placeFrom 0 = .ok (.iload_n 1, 1) := by decide +kernel
theorem dX1_placeFrom_1 : decode cX1_placeFrom 1 = .ok (.istore_n 3, 1) := by decide +kernel
theorem dX1_placeFrom_2 : decode cX1_placeFrom 2 = .ok (.iload_n 3, 1) := by decide +kernel
theorem dX1_placeFrom_3 : decode cX1_placeFrom 3 = .ok (.aload_n 0, 1) := by decide +kernel
theorem dX1_placeFrom_4 : decode cX1_placeFrom 4 = .ok (.getfield 18, 3) := by decide +kernel
theorem dX1_placeFrom_7 : decode cX1_placeFrom 7 = .ok (.if_icmp .ge 27, 3) := by decide +kernel
theorem dX1_placeFrom_10 : decode cX1_placeFrom 10 = .ok (.aload_n 0, 1) := by decide +kernel
theorem dX1_placeFrom_11 : decode cX1_placeFrom 11 = .ok (.aload_n 2, 1) := by decide +kernel
theorem dX1_placeFrom_12 : decode cX1_placeFrom 12 = .ok (.iload_n 3, 1) := by decide +kernel
theorem dX1_placeFrom_13 : decode cX1_placeFrom 13 = .ok (.invokevirtual 74, 3) := by decide +kernel
theorem dX1_placeFrom_16 : decode cX1_placeFrom 16 = .ok (.ifCond .ne 12, 3) := by decide +kernel
theorem dX1_placeFrom_19 : decode cX1_placeFrom 19 = .ok (.aload_n 2, 1) := by decide +kernel
theorem dX1_placeFrom_20 : decode cX1_placeFrom 20 = .ok (.iload_n 3, 1) := by decide +kernel
theorem dX1_placeFrom_21 : decode cX1_placeFrom 21 = .ok (.putfield 49, 3) := by decide +kernel
theorem dX1_placeFrom_24 : decode cX1_placeFrom 24 = .ok (.iload_n 3, 1) := by decide +kernel
theorem dX1_placeFrom_25 : decode cX1_placeFrom 25 = .ok (.iconst 1, 1) := by decide +kernel
theorem dX1_placeFrom_26 : decode cX1_placeFrom 26 = .ok (.iadd, 1) := by decide +kernel
theorem dX1_placeFrom_27 : decode cX1_placeFrom 27 = .ok (.ireturn, 1) := by decide +kernel
theorem dX1_placeFrom_28 : decode cX1_placeFrom 28 = .ok (.iinc 3 1, 3) := by decide +kernel
theorem dX1_placeFrom_31 : decode cX1_placeFrom 31 = .ok (.goto (-29), 3) := by decide +kernel
theorem dX1_placeFrom_34 : decode cX1_placeFrom 34 = .ok (.iload_n 1, 1) := by decide +kernel
theorem dX1_placeFrom_35 : decode cX1_placeFrom 35 = .ok (.ireturn, 1) := by decide +kernel
theorem dX1_fromDoors_0 : decode cX1_fromDoors 0 = .ok (.iconst 0, 1) := by decide +kernel
theorem dX1_fromDoors_1 : decode cX1_fromDoors 1 = .ok (.istore_n 3, 1) := by decide +kernel
theorem dX1_fromDoors_2 : decode cX1_fromDoors 2 = .ok (.aload_n 0, 1) := by decide +kernel
theorem dX1_fromDoors_3 : decode cX1_fromDoors 3 = .ok (.getfield 18, 3) := by decide +kernel
theorem dX1_fromDoors_6 : decode cX1_fromDoors 6 = .ok (.iconst 1, 1) := by decide +kernel
theorem dX1_fromDoors_7 : decode cX1_fromDoors 7 = .ok (.isub, 1) := by decide +kernel
theorem dX1_fromDoors_8 : decode cX1_fromDoors 8 = .ok (.istore 4, 2) := by decide +kernel
theorem dX1_fromDoors_10 : decode cX1_fromDoors 10 = .ok (.iload 4, 2) := by decide +kernel
theorem dX1_fromDoors_12 : decode cX1_fromDoors 12 = .ok (.ifCond .lt 34, 3) := by decide +kernel
theorem dX1_fromDoors_15 : decode cX1_fromDoors 15 = .ok (.aload_n 0, 1) := by decide +kernel
theorem dX1_fromDoors_16 : decode cX1_fromDoors 16 = .ok (.iload_n 1, 1) := by decide +kernel
theorem dX1_fromDoors_17 : decode cX1_fromDoors 17 = .ok (.iload 4, 2) := by decide +kernel
theorem dX1_fromDoors_19 : decode cX1_fromDoors 19 = .ok (.invokevirtual 132, 3) := by decide +kernel
theorem dX1_fromDoors_22 : decode cX1_fromDoors 22 = .ok (.istore 5, 2) := by decide +kernel
theorem dX1_fromDoors_24 : decode cX1_fromDoors 24 = .ok (.iload 5, 2) := by decide +kernel
theorem dX1_fromDoors_26 : decode cX1_fromDoors 26 = .ok (.ifCond .lt 14, 3) := by decide +kernel
theorem dX1_fromDoors_29 : decode cX1_fromDoors 29 = .ok (.iload_n 3, 1) := by decide +kernel
theorem dX1_fromDoors_30 : decode cX1_fromDoors 30 = .ok (.iload_n 2, 1) := by decide +kernel
theorem dX1_fromDoors_31 : decode cX1_fromDoors 31 = .ok (.if_icmp .ne 6, 3) := by decide +kernel
theorem dX1_fromDoors_34 : decode cX1_fromDoors 34 = .ok (.iload 5, 2) := by decide +kernel
theorem dX1_fromDoors_36 : decode cX1_fromDoors 36 = .ok (.ireturn, 1) := by decide +kernel
theorem dX1_fromDoors_37 : decode cX1_fromDoors 37 = .ok (.iinc 3 1, 3) := by decide +kernel
theorem dX1_fromDoors_40 : decode cX1_fromDoors 40 = .ok (.iinc 4 (-1), 3) := by decide +kernel
theorem dX1_fromDoors_43 : decode cX1_fromDoors 43 = .ok (.goto (-33), 3) := by decide +kernel
theorem dX1_fromDoors_46 : decode cX1_fromDoors 46 = .ok (.iconst (-1), 1) := by decide +kernel
theorem dX1_fromDoors_47 : decode cX1_fromDoors 47 = .ok (.ireturn, 1) := by decide +kernel
theorem dX1_standingFor_0 : decode cX1_standingFor 0 = .ok (.iconst 0, 1) := by decide +kernel
theorem dX1_standingFor_1 : decode cX1_standingFor 1 = .ok (.istore_n 3, 1) := by decide +kernel
theorem dX1_standingFor_2 : decode cX1_standingFor 2 = .ok (.iload_n 3, 1) := by decide +kernel
theorem dX1_standingFor_3 : decode cX1_standingFor 3 = .ok (.aload_n 0, 1) := by decide +kernel
theorem dX1_standingFor_4 : decode cX1_standingFor 4 = .ok (.getfield 45, 3) := by decide +kernel
theorem dX1_standingFor_7 : decode cX1_standingFor 7 = .ok (.if_icmp .ge 37, 3) := by decide +kernel
theorem dX1_standingFor_10 : decode cX1_standingFor 10 = .ok (.aload_n 0, 1) := by decide +kernel
theorem dX1_standingFor_11 : decode cX1_standingFor 11 = .ok (.getfield 34, 3) := by decide +kernel
theorem dX1_standingFor_14 : decode cX1_standingFor 14 = .ok (.iload_n 3, 1) := by decide +kernel
theorem dX1_standingFor_15 : decode cX1_standingFor 15 = .ok (.aaload, 1) := by decide +kernel
theorem dX1_standingFor_16 : decode cX1_standingFor 16 = .ok (.getfield 49, 3) := by decide +kernel
theorem dX1_standingFor_19 : decode cX1_standingFor 19 = .ok (.iload_n 2, 1) := by decide +kernel
theorem dX1_standingFor_20 : decode cX1_standingFor 20 = .ok (.if_icmp .ne 18, 3) := by decide +kernel
theorem dX1_standingFor_23 : decode cX1_standingFor 23 = .ok (.aload_n 0, 1) := by decide +kernel
theorem dX1_standingFor_24 : decode cX1_standingFor 24 = .ok (.getfield 34, 3) := by decide +kernel
theorem dX1_standingFor_27 : decode cX1_standingFor 27 = .ok (.iload_n 3, 1) := by decide +kernel
theorem dX1_standingFor_28 : decode cX1_standingFor 28 = .ok (.aaload, 1) := by decide +kernel
theorem dX1_standingFor_29 : decode cX1_standingFor 29 = .ok (.getfield 87, 3) := by decide +kernel
theorem dX1_standingFor_32 : decode cX1_standingFor 32 = .ok (.iload_n 1, 1) := by decide +kernel
theorem dX1_standingFor_33 : decode cX1_standingFor 33 = .ok (.if_icmp .ne 5, 3) := by decide +kernel
theorem dX1_standingFor_36 : decode cX1_standingFor 36 = .ok (.iload_n 3, 1) := by decide +kernel
theorem dX1_standingFor_37 : decode cX1_standingFor 37 = .ok (.ireturn, 1) := by decide +kernel
theorem dX1_standingFor_38 : decode cX1_standingFor 38 = .ok (.iinc 3 1, 3) := by decide +kernel
theorem dX1_standingFor_41 : decode cX1_standingFor 41 = .ok (.goto (-39), 3) := by decide +kernel
theorem dX1_standingFor_44 : decode cX1_standingFor 44 = .ok (.iconst (-1), 1) := by decide +kernel
theorem dX1_standingFor_45 : decode cX1_standingFor 45 = .ok (.ireturn, 1) := by decide +kernel
theorem dX2_init_0 : decode cX2_init 0 = .ok (.aload_n 0, 1) := by decide +kernel
theorem dX2_init_1 : decode cX2_init 1 = .ok (.invokespecial 3, 3) := by decide +kernel
theorem dX2_init_4 : decode cX2_init 4 = .ok (.aload_n 0, 1) := by decide +kernel
theorem dX2_init_5 : decode cX2_init 5 = .ok (.iconst 1, 1) := by decide +kernel
theorem dX2_init_6 : decode cX2_init 6 = .ok (.putfield 9, 3) := by decide +kernel
theorem dX2_init_9 : decode cX2_init 9 = .ok (.aload_n 0, 1) := by decide +kernel
theorem dX2_init_10 : decode cX2_init 10 = .ok (.iconst 0, 1) := by decide +kernel
theorem dX2_init_11 : decode cX2_init 11 = .ok (.putfield 15, 3) := by decide +kernel
theorem dX2_init_14 : decode cX2_init 14 = .ok (.aload_n 0, 1) := by decide +kernel
theorem dX2_init_15 : decode cX2_init 15 = .ok (.iconst 0, 1) := by decide +kernel
theorem dX2_init_16 : decode cX2_init 16 = .ok (.putfield 19, 3) := by decide +kernel
theorem dX2_init_19 : decode cX2_init 19 = .ok (.aload_n 0, 1) := by decide +kernel
theorem dX2_init_20 : decode cX2_init 20 = .ok (.iconst 1, 1) := by decide +kernel
theorem dX2_init_21 : decode cX2_init 21 = .ok (.putfield 22, 3) := by decide +kernel
theorem dX2_init_24 : decode cX2_init 24 = .ok (.aload_n 0, 1) := by decide +kernel
theorem dX2_init_25 : decode cX2_init 25 = .ok (.iconst 1, 1) := by decide +kernel
theorem dX2_init_26 : decode cX2_init 26 = .ok (.putfield 25, 3) := by decide +kernel
theorem dX2_init_29 : decode cX2_init 29 = .ok (.aload_n 0, 1) := by decide +kernel
theorem dX2_init_30 : decode cX2_init 30 = .ok (.iconst (-1), 1) := by decide +kernel
theorem dX2_init_31 : decode cX2_init 31 = .ok (.putfield 28, 3) := by decide +kernel
theorem dX2_init_34 : decode cX2_init 34 = .ok (.return_, 1) := by decide +kernel
theorem dX2_set_0 : decode cX2_set 0 = .ok (.aload_n 0, 1) := by decide +kernel
theorem dX2_set_1 : decode cX2_set 1 = .ok (.iload_n 1, 1) := by decide +kernel
theorem dX2_set_2 : decode cX2_set 2 = .ok (.putfield 9, 3) := by decide +kernel
theorem dX2_set_5 : decode cX2_set 5 = .ok (.aload_n 0, 1) := by decide +kernel
theorem dX2_set_6 : decode cX2_set 6 = .ok (.iload_n 2, 1) := by decide +kernel
theorem dX2_set_7 : decode cX2_set 7 = .ok (.putfield 15, 3) := by decide +kernel
theorem dX2_set_10 : decode cX2_set 10 = .ok (.aload_n 0, 1) := by decide +kernel
theorem dX2_set_11 : decode cX2_set 11 = .ok (.iload_n 3, 1) := by decide +kernel
theorem dX2_set_12 : decode cX2_set 12 = .ok (.putfield 19, 3) := by decide +kernel
theorem dX2_set_15 : decode cX2_set 15 = .ok (.aload_n 0, 1) := by decide +kernel
theorem dX2_set_16 : decode cX2_set 16 = .ok (.iload 4, 2) := by decide +kernel
theorem dX2_set_18 : decode cX2_set 18 = .ok (.putfield 22, 3) := by decide +kernel
theorem dX2_set_21 : decode cX2_set 21 = .ok (.aload_n 0, 1) := by decide +kernel
theorem dX2_set_22 : decode cX2_set 22 = .ok (.iload 5, 2) := by decide +kernel
theorem dX2_set_24 : decode cX2_set 24 = .ok (.putfield 25, 3) := by decide +kernel
theorem dX2_set_27 : decode cX2_set 27 = .ok (.return_, 1) := by decide +kernel
theorem dX2_stands_0 : decode cX2_stands 0 = .ok (.aload_n 0, 1) := by decide +kernel
theorem dX2_stands_1 : decode cX2_stands 1 = .ok (.getfield 28, 3) := by decide +kernel
theorem dX2_stands_4 : decode cX2_stands 4 = .ok (.iconst (-1), 1) := by decide +kernel
theorem dX2_stands_5 : decode cX2_stands 5 = .ok (.if_icmp .eq 7, 3) := by decide +kernel
theorem dX2_stands_8 : decode cX2_stands 8 = .ok (.iconst 1, 1) := by decide +kernel
theorem dX2_stands_9 : decode cX2_stands 9 = .ok (.goto 4, 3) := by decide +kernel
theorem dX2_stands_12 : decode cX2_stands 12 = .ok (.iconst 0, 1) := by decide +kernel
theorem dX2_stands_13 : decode cX2_stands 13 = .ok (.ireturn, 1) := by decide +kernel
theorem dX3_init_0 : decode cX3_init 0 = .ok (.aload_n 0, 1) := by decide +kernel
theorem dX3_init_1 : decode cX3_init 1 = .ok (.invokespecial 3, 3) := by decide +kernel
theorem dX3_init_4 : decode cX3_init 4 = .ok (.aload_n 0, 1) := by decide +kernel
theorem dX3_init_5 : decode cX3_init 5 = .ok (.bipush 10, 2) := by decide +kernel
theorem dX3_init_7 : decode cX3_init 7 = .ok (.newarray .int, 2) := by decide +kernel
theorem dX3_init_9 : decode cX3_init 9 = .ok (.putfield 9, 3) := by decide +kernel
theorem dX3_init_12 : decode cX3_init 12 = .ok (.aload_n 0, 1) := by decide +kernel
theorem dX3_init_13 : decode cX3_init 13 = .ok (.iconst 0, 1) := by decide +kernel
theorem dX3_init_14 : decode cX3_init 14 = .ok (.putfield 15, 3) := by decide +kernel
theorem dX3_init_17 : decode cX3_init 17 = .ok (.aload_n 0, 1) := by decide +kernel
theorem dX3_init_18 : decode cX3_init 18 = .ok (.iconst 0, 1) := by decide +kernel
theorem dX3_init_19 : decode cX3_init 19 = .ok (.putfield 19, 3) := by decide +kernel
theorem dX3_init_22 : decode cX3_init 22 = .ok (.return_, 1) := by decide +kernel
theorem dX3_isOn_0 : decode cX3_isOn 0 = .ok (.aload_n 0, 1) := by decide +kernel
theorem dX3_isOn_1 : decode cX3_isOn 1 = .ok (.getfield 19, 3) := by decide +kernel
theorem dX3_isOn_4 : decode cX3_isOn 4 = .ok (.ifCond .eq 7, 3) := by decide +kernel
theorem dX3_isOn_7 : decode cX3_isOn 7 = .ok (.iconst 1, 1) := by decide +kernel
theorem dX3_isOn_8 : decode cX3_isOn 8 = .ok (.goto 4, 3) := by decide +kernel
theorem dX3_isOn_11 : decode cX3_isOn 11 = .ok (.iconst 0, 1) := by decide +kernel
theorem dX3_isOn_12 : decode cX3_isOn 12 = .ok (.ireturn, 1) := by decide +kernel
theorem dX3_wasOn_0 : decode cX3_wasOn 0 = .ok (.iconst 0, 1) := by decide +kernel
theorem dX3_wasOn_1 : decode cX3_wasOn 1 = .ok (.istore_n 2, 1) := by decide +kernel
theorem dX3_wasOn_2 : decode cX3_wasOn 2 = .ok (.iload_n 2, 1) := by decide +kernel
theorem dX3_wasOn_3 : decode cX3_wasOn 3 = .ok (.aload_n 0, 1) := by decide +kernel
theorem dX3_wasOn_4 : decode cX3_wasOn 4 = .ok (.getfield 15, 3) := by decide +kernel
theorem dX3_wasOn_7 : decode cX3_wasOn 7 = .ok (.if_icmp .ge 21, 3) := by decide +kernel
theorem dX3_wasOn_10 : decode cX3_wasOn 10 = .ok (.aload_n 0, 1) := by decide +kernel
theorem dX3_wasOn_11 : decode cX3_wasOn 11 = .ok (.getfield 9, 3) := by decide +kernel
theorem dX3_wasOn_14 : decode cX3_wasOn 14 = .ok (.iload_n 2, 1) := by decide +kernel
theorem dX3_wasOn_15 : decode cX3_wasOn 15 = .ok (.iaload, 1) := by decide +kernel
theorem dX3_wasOn_16 : decode cX3_wasOn 16 = .ok (.iload_n 1, 1) := by decide +kernel
theorem dX3_wasOn_17 : decode cX3_wasOn 17 = .ok (.if_icmp .ne 5, 3) := by decide +kernel
theorem dX3_wasOn_20 : decode cX3_wasOn 20 = .ok (.iconst 1, 1) := by decide +kernel
theorem dX3_wasOn_21 : decode cX3_wasOn 21 = .ok (.ireturn, 1) := by decide +kernel
theorem dX3_wasOn_22 : decode cX3_wasOn 22 = .ok (.iinc 2 1, 3) := by decide +kernel
theorem dX3_wasOn_25 : decode cX3_wasOn 25 = .ok (.goto (-23), 3) := by decide +kernel
theorem dX3_wasOn_28 : decode cX3_wasOn 28 = .ok (.iconst 0, 1) := by decide +kernel
theorem dX3_wasOn_29 : decode cX3_wasOn 29 = .ok (.ireturn, 1) := by decide +kernel
theorem dX3_putOn_0 : decode cX3_putOn 0 = .ok (.aload_n 0, 1) := by decide +kernel
theorem dX3_putOn_1 : decode cX3_putOn 1 = .ok (.getfield 15, 3) := by decide +kernel
theorem dX3_putOn_4 : decode cX3_putOn 4 = .ok (.bipush 10, 2) := by decide +kernel
theorem dX3_putOn_6 : decode cX3_putOn 6 = .ok (.if_icmp .ge 28, 3) := by decide +kernel
theorem dX3_putOn_9 : decode cX3_putOn 9 = .ok (.aload_n 0, 1) := by decide +kernel
theorem dX3_putOn_10 : decode cX3_putOn 10 = .ok (.getfield 9, 3) := by decide +kernel
theorem dX3_putOn_13 : decode cX3_putOn 13 = .ok (.aload_n 0, 1) := by decide +kernel
theorem dX3_putOn_14 : decode cX3_putOn 14 = .ok (.getfield 15, 3) := by decide +kernel
theorem dX3_putOn_17 : decode cX3_putOn 17 = .ok (.iload_n 1, 1) := by decide +kernel
theorem dX3_putOn_18 : decode cX3_putOn 18 = .ok (.iastore, 1) := by decide +kernel
theorem dX3_putOn_19 : decode cX3_putOn 19 = .ok (.aload_n 0, 1) := by decide +kernel
theorem dX3_putOn_20 : decode cX3_putOn 20 = .ok (.dup, 1) := by decide +kernel
theorem dX3_putOn_21 : decode cX3_putOn 21 = .ok (.getfield 15, 3) := by decide +kernel
theorem dX3_putOn_24 : decode cX3_putOn 24 = .ok (.iconst 1, 1) := by decide +kernel
theorem dX3_putOn_25 : decode cX3_putOn 25 = .ok (.iadd, 1) := by decide +kernel
theorem dX3_putOn_26 : decode cX3_putOn 26 = .ok (.putfield 15, 3) := by decide +kernel
theorem dX3_putOn_29 : decode cX3_putOn 29 = .ok (.aload_n 0, 1) := by decide +kernel
theorem dX3_putOn_30 : decode cX3_putOn 30 = .ok (.iload_n 1, 1) := by decide +kernel
theorem dX3_putOn_31 : decode cX3_putOn 31 = .ok (.putfield 19, 3) := by decide +kernel
theorem dX3_putOn_34 : decode cX3_putOn 34 = .ok (.return_, 1) := by decide +kernel
theorem dX3_takeOff_0 : decode cX3_takeOff 0 = .ok (.aload_n 0, 1) := by decide +kernel
theorem dX3_takeOff_1 : decode cX3_takeOff 1 = .ok (.getfield 19, 3) := by decide +kernel
theorem dX3_takeOff_4 : decode cX3_takeOff 4 = .ok (.istore_n 1, 1) := by decide +kernel
theorem dX3_takeOff_5 : decode cX3_takeOff 5 = .ok (.aload_n 0, 1) := by decide +kernel
theorem dX3_takeOff_6 : decode cX3_takeOff 6 = .ok (.iconst 0, 1) := by decide +kernel
theorem dX3_takeOff_7 : decode cX3_takeOff 7 = .ok (.putfield 19, 3) := by decide +kernel
theorem dX3_takeOff_10 : decode cX3_takeOff 10 = .ok (.iload_n 1, 1) := by decide +kernel
theorem dX3_takeOff_11 : decode cX3_takeOff 11 = .ok (.ireturn, 1) := by decide +kernel
theorem dX4_init_0 : decode cX4_init 0 = .ok (.aload_n 0, 1) := by decide +kernel
theorem dX4_init_1 : decode cX4_init 1 = .ok (.invokespecial 3, 3) := by decide +kernel
theorem dX4_init_4 : decode cX4_init 4 = .ok (.aload_n 0, 1) := by decide +kernel
theorem dX4_init_5 : decode cX4_init 5 = .ok (.iconst 5, 1) := by decide +kernel
theorem dX4_init_6 : decode cX4_init 6 = .ok (.newarray .int, 2) := by decide +kernel
theorem dX4_init_8 : decode cX4_init 8 = .ok (.putfield 9, 3) := by decide +kernel
theorem dX4_init_11 : decode cX4_init 11 = .ok (.aload_n 0, 1) := by decide +kernel
theorem dX4_init_12 : decode cX4_init 12 = .ok (.iconst (-1), 1) := by decide +kernel
theorem dX4_init_13 : decode cX4_init 13 = .ok (.putfield 15, 3) := by decide +kernel
theorem dX4_init_16 : decode cX4_init 16 = .ok (.aload_n 0, 1) := by decide +kernel
theorem dX4_init_17 : decode cX4_init 17 = .ok (.iconst (-1), 1) := by decide +kernel
theorem dX4_init_18 : decode cX4_init 18 = .ok (.putfield 19, 3) := by decide +kernel
theorem dX4_init_21 : decode cX4_init 21 = .ok (.return_, 1) := by decide +kernel
theorem dX4_run_0 : decode cX4_run 0 = .ok (.aload_n 1, 1) := by decide +kernel
theorem dX4_run_1 : decode cX4_run 1 = .ok (.invokevirtual 22, 3) := by decide +kernel
theorem dX4_run_4 : decode cX4_run 4 = .ok (.aload_n 0, 1) := by decide +kernel
theorem dX4_run_5 : decode cX4_run 5 = .ok (.iconst (-1), 1) := by decide +kernel
theorem dX4_run_6 : decode cX4_run 6 = .ok (.putfield 15, 3) := by decide +kernel
theorem dX4_run_9 : decode cX4_run 9 = .ok (.aload_n 0, 1) := by decide +kernel
theorem dX4_run_10 : decode cX4_run 10 = .ok (.iconst (-1), 1) := by decide +kernel
theorem dX4_run_11 : decode cX4_run 11 = .ok (.putfield 19, 3) := by decide +kernel
theorem dX4_run_14 : decode cX4_run 14 = .ok (.aload_n 0, 1) := by decide +kernel
theorem dX4_run_15 : decode cX4_run 15 = .ok (.aload_n 1, 1) := by decide +kernel
theorem dX4_run_16 : decode cX4_run 16 = .ok (.iconst 0, 1) := by decide +kernel
theorem dX4_run_17 : decode cX4_run 17 = .ok (.invokevirtual 27, 3) := by decide +kernel
theorem dX4_run_20 : decode cX4_run 20 = .ok (.iconst 0, 1) := by decide +kernel
theorem dX4_run_21 : decode cX4_run 21 = .ok (.istore_n 2, 1) := by decide +kernel
theorem dX4_run_22 : decode cX4_run 22 = .ok (.iload_n 2, 1) := by decide +kernel
theorem dX4_run_23 : decode cX4_run 23 = .ok (.aload_n 1, 1) := by decide +kernel
theorem dX4_run_24 : decode cX4_run 24 = .ok (.getfield 31, 3) := by decide +kernel
theorem dX4_run_27 : decode cX4_run 27 = .ok (.if_icmp .ge 29, 3) := by decide +kernel
theorem dX4_run_30 : decode cX4_run 30 = .ok (.iload_n 2, 1) := by decide +kernel
theorem dX4_run_31 : decode cX4_run 31 = .ok (.iconst 5, 1) := by decide +kernel
theorem dX4_run_32 : decode cX4_run 32 = .ok (.if_icmp .ge 24, 3) := by decide +kernel
theorem dX4_run_35 : decode cX4_run 35 = .ok (.aload_n 1, 1) := by decide +kernel
theorem dX4_run_36 : decode cX4_run 36 = .ok (.getfield 34, 3) := by decide +kernel
theorem dX4_run_39 : decode cX4_run 39 = .ok (.iload_n 2, 1) := by decide +kernel
theorem dX4_run_40 : decode cX4_run 40 = .ok (.aaload, 1) := by decide +kernel
theorem dX4_run_41 : decode cX4_run 41 = .ok (.aload_n 0, 1) := by decide +kernel
theorem dX4_run_42 : decode cX4_run 42 = .ok (.getfield 9, 3) := by decide +kernel
theorem dX4_run_45 : decode cX4_run 45 = .ok (.iload_n 2, 1) := by decide +kernel
theorem dX4_run_46 : decode cX4_run 46 = .ok (.iaload, 1) := by decide +kernel
theorem dX4_run_47 : decode cX4_run 47 = .ok (.putfield 38, 3) := by decide +kernel
theorem dX4_run_50 : decode cX4_run 50 = .ok (.iinc 2 1, 3) := by decide +kernel
theorem dX4_run_53 : decode cX4_run 53 = .ok (.goto (-31), 3) := by decide +kernel
theorem dX4_run_56 : decode cX4_run 56 = .ok (.return_, 1) := by decide +kernel
theorem dX4_tryFrom_0 : decode cX4_tryFrom 0 = .ok (.iload_n 2, 1) := by decide +kernel
theorem dX4_tryFrom_1 : decode cX4_tryFrom 1 = .ok (.iconst 5, 1) := by decide +kernel
theorem dX4_tryFrom_2 : decode cX4_tryFrom 2 = .ok (.if_icmp .gt 12, 3) := by decide +kernel
theorem dX4_tryFrom_5 : decode cX4_tryFrom 5 = .ok (.aload_n 0, 1) := by decide +kernel
theorem dX4_tryFrom_6 : decode cX4_tryFrom 6 = .ok (.aload_n 1, 1) := by decide +kernel
theorem dX4_tryFrom_7 : decode cX4_tryFrom 7 = .ok (.iload_n 2, 1) := by decide +kernel
theorem dX4_tryFrom_8 : decode cX4_tryFrom 8 = .ok (.invokevirtual 43, 3) := by decide +kernel
theorem dX4_tryFrom_11 : decode cX4_tryFrom 11 = .ok (.ifCond .eq 4, 3) := by decide +kernel
theorem dX4_tryFrom_14 : decode cX4_tryFrom 14 = .ok (.return_, 1) := by decide +kernel
theorem dX4_tryFrom_15 : decode cX4_tryFrom 15 = .ok (.iload_n 2, 1) := by decide +kernel
theorem dX4_tryFrom_16 : decode cX4_tryFrom 16 = .ok (.aload_n 1, 1) := by decide +kernel
theorem dX4_tryFrom_17 : decode cX4_tryFrom 17 = .ok (.getfield 31, 3) := by decide +kernel
theorem dX4_tryFrom_20 : decode cX4_tryFrom 20 = .ok (.if_icmp .lt 9, 3) := by decide +kernel
theorem dX4_tryFrom_23 : decode cX4_tryFrom 23 = .ok (.aload_n 0, 1) := by decide +kernel
theorem dX4_tryFrom_24 : decode cX4_tryFrom 24 = .ok (.aload_n 1, 1) := by decide +kernel
theorem dX4_tryFrom_25 : decode cX4_tryFrom 25 = .ok (.invokevirtual 47, 3) := by decide +kernel
theorem dX4_tryFrom_28 : decode cX4_tryFrom 28 = .ok (.return_, 1) := by decide +kernel
theorem dX4_tryFrom_29 : decode cX4_tryFrom 29 = .ok (.iconst 0, 1) := by decide +kernel
theorem dX4_tryFrom_30 : decode cX4_tryFrom 30 = .ok (.istore_n 3, 1) := by decide +kernel
theorem dX4_tryFrom_31 : decode cX4_tryFrom 31 = .ok (.iload_n 3, 1) := by decide +kernel
theorem dX4_tryFrom_32 : decode cX4_tryFrom 32 = .ok (.aload_n 1, 1) := by decide +kernel
theorem dX4_tryFrom_33 : decode cX4_tryFrom 33 = .ok (.getfield 51, 3) := by decide +kernel
theorem dX4_tryFrom_36 : decode cX4_tryFrom 36 = .ok (.if_icmp .ge 16, 3) := by decide +kernel
theorem dX4_tryFrom_39 : decode cX4_tryFrom 39 = .ok (.aload_n 0, 1) := by decide +kernel
theorem dX4_tryFrom_40 : decode cX4_tryFrom 40 = .ok (.aload_n 1, 1) := by decide +kernel
theorem dX4_tryFrom_41 : decode cX4_tryFrom 41 = .ok (.iload_n 2, 1) := by decide +kernel
theorem dX4_tryFrom_42 : decode cX4_tryFrom 42 = .ok (.iload_n 3, 1) := by decide +kernel
theorem dX4_tryFrom_43 : decode cX4_tryFrom 43 = .ok (.invokevirtual 54, 3) := by decide +kernel
theorem dX4_tryFrom_46 : decode cX4_tryFrom 46 = .ok (.iinc 3 1, 3) := by decide +kernel
theorem dX4_tryFrom_49 : decode cX4_tryFrom 49 = .ok (.goto (-18), 3) := by decide +kernel
theorem dX4_tryFrom_52 : decode cX4_tryFrom 52 = .ok (.aload_n 0, 1) := by decide +kernel
theorem dX4_tryFrom_53 : decode cX4_tryFrom 53 = .ok (.aload_n 1, 1) := by decide +kernel
theorem dX4_tryFrom_54 : decode cX4_tryFrom 54 = .ok (.iload_n 2, 1) := by decide +kernel
theorem dX4_tryFrom_55 : decode cX4_tryFrom 55 = .ok (.iconst 1, 1) := by decide +kernel
theorem dX4_tryFrom_56 : decode cX4_tryFrom 56 = .ok (.iadd, 1) := by decide +kernel
theorem dX4_tryFrom_57 : decode cX4_tryFrom 57 = .ok (.invokevirtual 27, 3) := by decide +kernel
theorem dX4_tryFrom_60 : decode cX4_tryFrom 60 = .ok (.return_, 1) := by decide +kernel
theorem dX4_tryIn_0 : decode cX4_tryIn 0 = .ok (.iload_n 2, 1) := by decide +kernel
theorem dX4_tryIn_1 : decode cX4_tryIn 1 = .ok (.aload_n 1, 1) := by decide +kernel
theorem dX4_tryIn_2 : decode cX4_tryIn 2 = .ok (.getfield 31, 3) := by decide +kernel
theorem dX4_tryIn_5 : decode cX4_tryIn 5 = .ok (.if_icmp .lt 4, 3) := by decide +kernel
theorem dX4_tryIn_8 : decode cX4_tryIn 8 = .ok (.return_, 1) := by decide +kernel
theorem dX4_tryIn_9 : decode cX4_tryIn 9 = .ok (.aload_n 1, 1) := by decide +kernel
theorem dX4_tryIn_10 : decode cX4_tryIn 10 = .ok (.getfield 34, 3) := by decide +kernel
theorem dX4_tryIn_13 : decode cX4_tryIn 13 = .ok (.iload_n 2, 1) := by decide +kernel
theorem dX4_tryIn_14 : decode cX4_tryIn 14 = .ok (.aaload, 1) := by decide +kernel
theorem dX4_tryIn_15 : decode cX4_tryIn 15 = .ok (.astore 4, 2) := by decide +kernel
theorem dX4_tryIn_17 : decode cX4_tryIn 17 = .ok (.aload_n 1, 1) := by decide +kernel
theorem dX4_tryIn_18 : decode cX4_tryIn 18 = .ok (.aload 4, 2) := by decide +kernel
theorem dX4_tryIn_20 : decode cX4_tryIn 20 = .ok (.iload_n 3, 1) := by decide +kernel
theorem dX4_tryIn_21 : decode cX4_tryIn 21 = .ok (.invokevirtual 58, 3) := by decide +kernel
theorem dX4_tryIn_24 : decode cX4_tryIn 24 = .ok (.ifCond .ne 23, 3) := by decide +kernel
theorem dX4_tryIn_27 : decode cX4_tryIn 27 = .ok (.aload 4, 2) := by decide +kernel
theorem dX4_tryIn_29 : decode cX4_tryIn 29 = .ok (.iload_n 3, 1) := by decide +kernel
theorem dX4_tryIn_30 : decode cX4_tryIn 30 = .ok (.putfield 38, 3) := by decide +kernel
theorem dX4_tryIn_33 : decode cX4_tryIn 33 = .ok (.aload_n 0, 1) := by decide +kernel
theorem dX4_tryIn_34 : decode cX4_tryIn 34 = .ok (.aload_n 1, 1) := by decide +kernel
theorem dX4_tryIn_35 : decode cX4_tryIn 35 = .ok (.iload_n 2, 1) := by decide +kernel
theorem dX4_tryIn_36 : decode cX4_tryIn 36 = .ok (.iconst 1, 1) := by decide +kernel
theorem dX4_tryIn_37 : decode cX4_tryIn 37 = .ok (.iadd, 1) := by decide +kernel
theorem dX4_tryIn_38 : decode cX4_tryIn 38 = .ok (.invokevirtual 27, 3) := by decide +kernel
theorem dX4_tryIn_41 : decode cX4_tryIn 41 = .ok (.aload 4, 2) := by decide +kernel
theorem dX4_tryIn_43 : decode cX4_tryIn 43 = .ok (.iconst (-1), 1) := by decide +kernel
theorem dX4_tryIn_44 : decode cX4_tryIn 44 = .ok (.putfield 38, 3) := by decide +kernel
theorem dX4_tryIn_47 : decode cX4_tryIn 47 = .ok (.return_, 1) := by decide +kernel
theorem dX4_isHopeless_0 : decode cX4_isHopeless 0 = .ok (.iconst 0, 1) := by decide +kernel
theorem dX4_isHopeless_1 : decode cX4_isHopeless 1 = .ok (.istore_n 3, 1) := by decide +kernel
theorem dX4_isHopeless_2 : decode cX4_isHopeless 2 = .ok (.iload_n 2, 1) := by decide +kernel
theorem dX4_isHopeless_3 : decode cX4_isHopeless 3 = .ok (.istore 4, 2) := by decide +kernel
theorem dX4_isHopeless_5 : decode cX4_isHopeless 5 = .ok (.iload 4, 2) := by decide +kernel
theorem dX4_isHopeless_7 : decode cX4_isHopeless 7 = .ok (.aload_n 1, 1) := by decide +kernel
theorem dX4_isHopeless_8 : decode cX4_isHopeless 8 = .ok (.getfield 31, 3) := by decide +kernel
theorem dX4_isHopeless_11 : decode cX4_isHopeless 11 = .ok (.if_icmp .ge 22, 3) := by decide +kernel
theorem dX4_isHopeless_14 : decode cX4_isHopeless 14 = .ok (.iload_n 3, 1) := by decide +kernel
theorem dX4_isHopeless_15 : decode cX4_isHopeless 15 = .ok (.aload_n 1, 1) := by decide +kernel
theorem dX4_isHopeless_16 : decode cX4_isHopeless 16 = .ok (.getfield 34, 3) := by decide +kernel
theorem dX4_isHopeless_19 : decode cX4_isHopeless 19 = .ok (.iload 4, 2) := by decide +kernel
theorem dX4_isHopeless_21 : decode cX4_isHopeless 21 = .ok (.aaload, 1) := by decide +kernel
theorem dX4_isHopeless_22 : decode cX4_isHopeless 22 = .ok (.getfield 62, 3) := by decide +kernel
theorem dX4_isHopeless_25 : decode cX4_isHopeless 25 = .ok (.iadd, 1) := by decide +kernel
theorem dX4_isHopeless_26 : decode cX4_isHopeless 26 = .ok (.istore_n 3, 1) := by decide +kernel
theorem dX4_isHopeless_27 : decode cX4_isHopeless 27 = .ok (.iinc 4 1, 3) := by decide +kernel
theorem dX4_isHopeless_30 : decode cX4_isHopeless 30 = .ok (.goto (-25), 3) := by decide +kernel
theorem dX4_isHopeless_33 : decode cX4_isHopeless 33 = .ok (.aload_n 1, 1) := by decide +kernel
theorem dX4_isHopeless_34 : decode cX4_isHopeless 34 = .ok (.invokevirtual 65, 3) := by decide +kernel
theorem dX4_isHopeless_37 : decode cX4_isHopeless 37 = .ok (.aload_n 1, 1) := by decide +kernel
theorem dX4_isHopeless_38 : decode cX4_isHopeless 38 = .ok (.getfield 31, 3) := by decide +kernel
theorem dX4_isHopeless_41 : decode cX4_isHopeless 41 = .ok (.iadd, 1) := by decide +kernel
theorem dX4_isHopeless_42 : decode cX4_isHopeless 42 = .ok (.iload_n 2, 1) := by decide +kernel
theorem dX4_isHopeless_43 : decode cX4_isHopeless 43 = .ok (.isub, 1) := by decide +kernel
theorem dX4_isHopeless_44 : decode cX4_isHopeless 44 = .ok (.istore 4, 2) := by decide +kernel
theorem dX4_isHopeless_46 : decode cX4_isHopeless 46 = .ok (.iload 4, 2) := by decide +kernel
theorem dX4_isHopeless_48 : decode cX4_isHopeless 48 = .ok (.aload_n 0, 1) := by decide +kernel
theorem dX4_isHopeless_49 : decode cX4_isHopeless 49 = .ok (.getfield 15, 3) := by decide +kernel
theorem dX4_isHopeless_52 : decode cX4_isHopeless 52 = .ok (.if_icmp .lt 25, 3) := by decide +kernel
theorem dX4_isHopeless_55 : decode cX4_isHopeless 55 = .ok (.iload 4, 2) := by decide +kernel
theorem dX4_isHopeless_57 : decode cX4_isHopeless 57 = .ok (.aload_n 0, 1) := by decide +kernel
theorem dX4_isHopeless_58 : decode cX4_isHopeless 58 = .ok (.getfield 15, 3) := by decide +kernel
theorem dX4_isHopeless_61 : decode cX4_isHopeless 61 = .ok (.if_icmp .ne 18, 3) := by decide +kernel
theorem dX4_isHopeless_64 : decode cX4_isHopeless 64 = .ok (.aload_n 1, 1) := by decide +kernel
theorem dX4_isHopeless_65 : decode cX4_isHopeless 65 = .ok (.invokevirtual 69, 3) := by decide +kernel
theorem dX4_isHopeless_68 : decode cX4_isHopeless 68 = .ok (.iload_n 3, 1) := by decide +kernel
theorem dX4_isHopeless_69 : decode cX4_isHopeless 69 = .ok (.iadd, 1) := by decide +kernel
theorem dX4_isHopeless_70 : decode cX4_isHopeless 70 = .ok (.aload_n 0, 1) := by decide +kernel
theorem dX4_isHopeless_71 : decode cX4_isHopeless 71 = .ok (.getfield 19, 3) := by decide +kernel
theorem dX4_isHopeless_74 : decode cX4_isHopeless 74 = .ok (.if_icmp .gt 5, 3) := by decide +kernel
theorem dX4_isHopeless_77 : decode cX4_isHopeless 77 = .ok (.iconst 1, 1) := by decide +kernel
theorem dX4_isHopeless_78 : decode cX4_isHopeless 78 = .ok (.ireturn, 1) := by decide +kernel
theorem dX4_isHopeless_79 : decode cX4_isHopeless 79 = .ok (.iconst 0, 1) := by decide +kernel
theorem dX4_isHopeless_80 : decode cX4_isHopeless 80 = .ok (.aload_n 1, 1) := by decide +kernel
theorem dX4_isHopeless_81 : decode cX4_isHopeless 81 = .ok (.getfield 71, 3) := by decide +kernel
theorem dX4_isHopeless_84 : decode cX4_isHopeless 84 = .ok (.iconst 0, 1) := by decide +kernel
theorem dX4_isHopeless_85 : decode cX4_isHopeless 85 = .ok (.iload_n 3, 1) := by decide +kernel
theorem dX4_isHopeless_86 : decode cX4_isHopeless 86 = .ok (.aload_n 1, 1) := by decide +kernel
theorem dX4_isHopeless_87 : decode cX4_isHopeless 87 = .ok (.getfield 51, 3) := by decide +kernel
theorem dX4_isHopeless_90 : decode cX4_isHopeless 90 = .ok (.iconst 1, 1) := by decide +kernel
theorem dX4_isHopeless_91 : decode cX4_isHopeless 91 = .ok (.isub, 1) := by decide +kernel
theorem dX4_isHopeless_92 : decode cX4_isHopeless 92 = .ok (.invokevirtual 75, 3) := by decide +kernel
theorem dX4_isHopeless_95 : decode cX4_isHopeless 95 = .ok (.invokestatic 81, 3) := by decide +kernel
theorem dX4_isHopeless_98 : decode cX4_isHopeless 98 = .ok (.istore 5, 2) := by decide +kernel
theorem dX4_isHopeless_100 : decode cX4_isHopeless 100 = .ok (.iconst 0, 1) := by decide +kernel
theorem dX4_isHopeless_101 : decode cX4_isHopeless 101 = .ok (.aload_n 1, 1) := by decide +kernel
theorem dX4_isHopeless_102 : decode cX4_isHopeless 102 = .ok (.getfield 71, 3) := by decide +kernel
theorem dX4_isHopeless_105 : decode cX4_isHopeless 105 = .ok (.iconst 1, 1) := by decide +kernel
theorem dX4_isHopeless_106 : decode cX4_isHopeless 106 = .ok (.iload_n 3, 1) := by decide +kernel
theorem dX4_isHopeless_107 : decode cX4_isHopeless 107 = .ok (.iconst 0, 1) := by decide +kernel
theorem dX4_isHopeless_108 : decode cX4_isHopeless 108 = .ok (.invokevirtual 75, 3) := by decide +kernel
theorem dX4_isHopeless_111 : decode cX4_isHopeless 111 = .ok (.invokestatic 81, 3) := by decide +kernel
theorem dX4_isHopeless_114 : decode cX4_isHopeless 114 = .ok (.istore 6, 2) := by decide +kernel
theorem dX4_isHopeless_116 : decode cX4_isHopeless 116 = .ok (.aload_n 1, 1) := by decide +kernel
theorem dX4_isHopeless_117 : decode cX4_isHopeless 117 = .ok (.getfield 71, 3) := by decide +kernel
theorem dX4_isHopeless_120 : decode cX4_isHopeless 120 = .ok (.aload_n 1, 1) := by decide +kernel
theorem dX4_isHopeless_121 : decode cX4_isHopeless 121 = .ok (.iconst 0, 1) := by decide +kernel
theorem dX4_isHopeless_122 : decode cX4_isHopeless 122 = .ok (.invokevirtual 87, 3) := by decide +kernel
theorem dX4_isHopeless_125 : decode cX4_isHopeless 125 = .ok (.iload 5, 2) := by decide +kernel
theorem dX4_isHopeless_127 : decode cX4_isHopeless 127 = .ok (.iadd, 1) := by decide +kernel
theorem dX4_isHopeless_128 : decode cX4_isHopeless 128 = .ok (.aload_n 1, 1) := by decide +kernel
theorem dX4_isHopeless_129 : decode cX4_isHopeless 129 = .ok (.iconst 1, 1) := by decide +kernel
theorem dX4_isHopeless_130 : decode cX4_isHopeless 130 = .ok (.invokevirtual 87, 3) := by decide +kernel
theorem dX4_isHopeless_133 : decode cX4_isHopeless 133 = .ok (.iload 6, 2) := by decide +kernel
theorem dX4_isHopeless_135 : decode cX4_isHopeless 135 = .ok (.iadd, 1) := by decide +kernel
theorem dX4_isHopeless_136 : decode cX4_isHopeless 136 = .ok (.invokevirtual 91, 3) := by decide +kernel
theorem dX4_isHopeless_139 : decode cX4_isHopeless 139 = .ok (.ifCond .ne 7, 3) := by decide +kernel
theorem dX4_isHopeless_142 : decode cX4_isHopeless 142 = .ok (.iconst 1, 1) := by decide +kernel
theorem dX4_isHopeless_143 : decode cX4_isHopeless 143 = .ok (.goto 4, 3) := by decide +kernel
theorem dX4_isHopeless_146 : decode cX4_isHopeless 146 = .ok (.iconst 0, 1) := by decide +kernel
theorem dX4_isHopeless_147 : decode cX4_isHopeless 147 = .ok (.ireturn, 1) := by decide +kernel
theorem dX4_keep_0 : decode cX4_keep 0 = .ok (.aload_n 0, 1) := by decide +kernel
theorem dX4_keep_1 : decode cX4_keep 1 = .ok (.aload_n 1, 1) := by decide +kernel
theorem dX4_keep_2 : decode cX4_keep 2 = .ok (.invokevirtual 65, 3) := by decide +kernel
theorem dX4_keep_5 : decode cX4_keep 5 = .ok (.putfield 15, 3) := by decide +kernel
theorem dX4_keep_8 : decode cX4_keep 8 = .ok (.aload_n 0, 1) := by decide +kernel
theorem dX4_keep_9 : decode cX4_keep 9 = .ok (.aload_n 1, 1) := by decide +kernel
theorem dX4_keep_10 : decode cX4_keep 10 = .ok (.invokevirtual 69, 3) := by decide +kernel
theorem dX4_keep_13 : decode cX4_keep 13 = .ok (.putfield 19, 3) := by decide +kernel
theorem dX4_keep_16 : decode cX4_keep 16 = .ok (.iconst 0, 1) := by decide +kernel
theorem dX4_keep_17 : decode cX4_keep 17 = .ok (.istore_n 2, 1) := by decide +kernel
theorem dX4_keep_18 : decode cX4_keep 18 = .ok (.iload_n 2, 1) := by decide +kernel
theorem dX4_keep_19 : decode cX4_keep 19 = .ok (.aload_n 1, 1) := by decide +kernel
theorem dX4_keep_20 : decode cX4_keep 20 = .ok (.getfield 31, 3) := by decide +kernel
theorem dX4_keep_23 : decode cX4_keep 23 = .ok (.if_icmp .ge 29, 3) := by decide +kernel
theorem dX4_keep_26 : decode cX4_keep 26 = .ok (.iload_n 2, 1) := by decide +kernel
theorem dX4_keep_27 : decode cX4_keep 27 = .ok (.iconst 5, 1) := by decide +kernel
theorem dX4_keep_28 : decode cX4_keep 28 = .ok (.if_icmp .ge 24, 3) := by decide +kernel
theorem dX4_keep_31 : decode cX4_keep 31 = .ok (.aload_n 0, 1) := by decide +kernel
theorem dX4_keep_32 : decode cX4_keep 32 = .ok (.getfield 9, 3) := by decide +kernel
theorem dX4_keep_35 : decode cX4_keep 35 = .ok (.iload_n 2, 1) := by decide +kernel
theorem dX4_keep_36 : decode cX4_keep 36 = .ok (.aload_n 1, 1) := by decide +kernel
theorem dX4_keep_37 : decode cX4_keep 37 = .ok (.getfield 34, 3) := by decide +kernel
theorem dX4_keep_40 : decode cX4_keep 40 = .ok (.iload_n 2, 1) := by decide +kernel
theorem dX4_keep_41 : decode cX4_keep 41 = .ok (.aaload, 1) := by decide +kernel
theorem dX4_keep_42 : decode cX4_keep 42 = .ok (.getfield 38, 3) := by decide +kernel
theorem dX4_keep_45 : decode cX4_keep 45 = .ok (.iastore, 1) := by decide +kernel
theorem dX4_keep_46 : decode cX4_keep 46 = .ok (.iinc 2 1, 3) := by decide +kernel
theorem dX4_keep_49 : decode cX4_keep 49 = .ok (.goto (-31), 3) := by decide +kernel
theorem dX4_keep_52 : decode cX4_keep 52 = .ok (.return_, 1) := by decide +kernel
