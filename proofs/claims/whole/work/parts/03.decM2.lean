theorem dX12_days_37 : decode cX12_days 37 = .ok (.iconst 0, 1) := by decide +kernel
theorem dX12_days_38 : decode cX12_days 38 = .ok (.invokevirtual 439, 3) := by decide +kernel
theorem dX12_days_41 : decode cX12_days 41 = .ok (.iconst 0, 1) := by decide +kernel
theorem dX12_days_42 : decode cX12_days 42 = .ok (.ireturn, 1) := by decide +kernel
theorem dX12_isThing_0 : decode cX12_isThing 0 = .ok (.iload_n 1, 1) := by decide +kernel
theorem dX12_isThing_1 : decode cX12_isThing 1 = .ok (.ifCond .lt 17, 3) := by decide +kernel
theorem dX12_isThing_4 : decode cX12_isThing 4 = .ok (.iload_n 1, 1) := by decide +kernel
theorem dX12_isThing_5 : decode cX12_isThing 5 = .ok (.aload_n 0, 1) := by decide +kernel
theorem dX12_isThing_6 : decode cX12_isThing 6 = .ok (.getfield 13, 3) := by decide +kernel
theorem dX12_isThing_9 : decode cX12_isThing 9 = .ok (.iconst 1, 1) := by decide +kernel
theorem dX12_isThing_10 : decode cX12_isThing 10 = .ok (.iaload, 1) := by decide +kernel
theorem dX12_isThing_11 : decode cX12_isThing 11 = .ok (.if_icmp .ge 7, 3) := by decide +kernel
theorem dX12_isThing_14 : decode cX12_isThing 14 = .ok (.iconst 1, 1) := by decide +kernel
theorem dX12_isThing_15 : decode cX12_isThing 15 = .ok (.goto 4, 3) := by decide +kernel
theorem dX12_isThing_18 : decode cX12_isThing 18 = .ok (.iconst 0, 1) := by decide +kernel
theorem dX12_isThing_19 : decode cX12_isThing 19 = .ok (.ireturn, 1) := by decide +kernel
theorem dX12_isBuyer_0 : decode cX12_isBuyer 0 = .ok (.iload_n 1, 1) := by decide +kernel
theorem dX12_isBuyer_1 : decode cX12_isBuyer 1 = .ok (.ifCond .lt 17, 3) := by decide +kernel
theorem dX12_isBuyer_4 : decode cX12_isBuyer 4 = .ok (.iload_n 1, 1) := by decide +kernel
theorem dX12_isBuyer_5 : decode cX12_isBuyer 5 = .ok (.aload_n 0, 1) := by decide +kernel
theorem dX12_isBuyer_6 : decode cX12_isBuyer 6 = .ok (.getfield 13, 3) := by decide +kernel
theorem dX12_isBuyer_9 : decode cX12_isBuyer 9 = .ok (.iconst 2, 1) := by decide +kernel
theorem dX12_isBuyer_10 : decode cX12_isBuyer 10 = .ok (.iaload, 1) := by decide +kernel
theorem dX12_isBuyer_11 : decode cX12_isBuyer 11 = .ok (.if_icmp .ge 7, 3) := by decide +kernel
theorem dX12_isBuyer_14 : decode cX12_isBuyer 14 = .ok (.iconst 1, 1) := by decide +kernel
theorem dX12_isBuyer_15 : decode cX12_isBuyer 15 = .ok (.goto 4, 3) := by decide +kernel
theorem dX12_isBuyer_18 : decode cX12_isBuyer 18 = .ok (.iconst 0, 1) := by decide +kernel
theorem dX12_isBuyer_19 : decode cX12_isBuyer 19 = .ok (.ireturn, 1) := by decide +kernel
theorem dX12_allBuyers_0 : decode cX12_allBuyers 0 = .ok (.iconst 1, 1) := by decide +kernel
theorem dX12_allBuyers_1 : decode cX12_allBuyers 1 = .ok (.aload_n 0, 1) := by decide +kernel
theorem dX12_allBuyers_2 : decode cX12_allBuyers 2 = .ok (.getfield 13, 3) := by decide +kernel
theorem dX12_allBuyers_5 : decode cX12_allBuyers 5 = .ok (.iconst 2, 1) := by decide +kernel
theorem dX12_allBuyers_6 : decode cX12_allBuyers 6 = .ok (.iaload, 1) := by decide +kernel
theorem dX12_allBuyers_7 : decode cX12_allBuyers 7 = .ok (.ishl, 1) := by decide +kernel
theorem dX12_allBuyers_8 : decode cX12_allBuyers 8 = .ok (.iconst 1, 1) := by decide +kernel
theorem dX12_allBuyers_9 : decode cX12_allBuyers 9 = .ok (.isub, 1) := by decide +kernel
theorem dX12_allBuyers_10 : decode cX12_allBuyers 10 = .ok (.ireturn, 1) := by decide +kernel
theorem dX12_wayOf_0 : decode cX12_wayOf 0 = .ok (.aload_n 0, 1) := by decide +kernel
theorem dX12_wayOf_1 : decode cX12_wayOf 1 = .ok (.getfield 26, 3) := by decide +kernel
theorem dX12_wayOf_4 : decode cX12_wayOf 4 = .ok (.aload_n 0, 1) := by decide +kernel
theorem dX12_wayOf_5 : decode cX12_wayOf 5 = .ok (.getfield 47, 3) := by decide +kernel
theorem dX12_wayOf_8 : decode cX12_wayOf 8 = .ok (.iload_n 1, 1) := by decide +kernel
theorem dX12_wayOf_9 : decode cX12_wayOf 9 = .ok (.iaload, 1) := by decide +kernel
theorem dX12_wayOf_10 : decode cX12_wayOf 10 = .ok (.iaload, 1) := by decide +kernel
theorem dX12_wayOf_11 : decode cX12_wayOf 11 = .ok (.aload_n 0, 1) := by decide +kernel
theorem dX12_wayOf_12 : decode cX12_wayOf 12 = .ok (.getfield 141, 3) := by decide +kernel
theorem dX12_wayOf_15 : decode cX12_wayOf 15 = .ok (.iconst 2, 1) := by decide +kernel
theorem dX12_wayOf_16 : decode cX12_wayOf 16 = .ok (.iaload, 1) := by decide +kernel
theorem dX12_wayOf_17 : decode cX12_wayOf 17 = .ok (.invokestatic 443, 3) := by decide +kernel
theorem dX12_wayOf_20 : decode cX12_wayOf 20 = .ok (.aload_n 0, 1) := by decide +kernel
theorem dX12_wayOf_21 : decode cX12_wayOf 21 = .ok (.getfield 13, 3) := by decide +kernel
theorem dX12_wayOf_24 : decode cX12_wayOf 24 = .ok (.bipush 9, 2) := by decide +kernel
theorem dX12_wayOf_26 : decode cX12_wayOf 26 = .ok (.iaload, 1) := by decide +kernel
theorem dX12_wayOf_27 : decode cX12_wayOf 27 = .ok (.imul, 1) := by decide +kernel
theorem dX12_wayOf_28 : decode cX12_wayOf 28 = .ok (.bipush 10, 2) := by decide +kernel
theorem dX12_wayOf_30 : decode cX12_wayOf 30 = .ok (.idiv, 1) := by decide +kernel
theorem dX12_wayOf_31 : decode cX12_wayOf 31 = .ok (.ireturn, 1) := by decide +kernel
theorem dX12_goesAt_0 : decode cX12_goesAt 0 = .ok (.iconst 0, 1) := by decide +kernel
theorem dX12_goesAt_1 : decode cX12_goesAt 1 = .ok (.aload_n 0, 1) := by decide +kernel
theorem dX12_goesAt_2 : decode cX12_goesAt 2 = .ok (.getfield 141, 3) := by decide +kernel
theorem dX12_goesAt_5 : decode cX12_goesAt 5 = .ok (.iconst 1, 1) := by decide +kernel
theorem dX12_goesAt_6 : decode cX12_goesAt 6 = .ok (.iaload, 1) := by decide +kernel
theorem dX12_goesAt_7 : decode cX12_goesAt 7 = .ok (.aload_n 0, 1) := by decide +kernel
theorem dX12_goesAt_8 : decode cX12_goesAt 8 = .ok (.getfield 13, 3) := by decide +kernel
theorem dX12_goesAt_11 : decode cX12_goesAt 11 = .ok (.iconst 3, 1) := by decide +kernel
theorem dX12_goesAt_12 : decode cX12_goesAt 12 = .ok (.iaload, 1) := by decide +kernel
theorem dX12_goesAt_13 : decode cX12_goesAt 13 = .ok (.aload_n 0, 1) := by decide +kernel
theorem dX12_goesAt_14 : decode cX12_goesAt 14 = .ok (.iload_n 1, 1) := by decide +kernel
theorem dX12_goesAt_15 : decode cX12_goesAt 15 = .ok (.invokevirtual 447, 3) := by decide +kernel
theorem dX12_goesAt_18 : decode cX12_goesAt 18 = .ok (.isub, 1) := by decide +kernel
theorem dX12_goesAt_19 : decode cX12_goesAt 19 = .ok (.invokestatic 450, 3) := by decide +kernel
theorem dX12_goesAt_22 : decode cX12_goesAt 22 = .ok (.invokestatic 455, 3) := by decide +kernel
theorem dX12_goesAt_25 : decode cX12_goesAt 25 = .ok (.ireturn, 1) := by decide +kernel
theorem dX12_comesAt_0 : decode cX12_comesAt 0 = .ok (.aload_n 0, 1) := by decide +kernel
theorem dX12_comesAt_1 : decode cX12_comesAt 1 = .ok (.getfield 44, 3) := by decide +kernel
theorem dX12_comesAt_4 : decode cX12_comesAt 4 = .ok (.iload_n 1, 1) := by decide +kernel
theorem dX12_comesAt_5 : decode cX12_comesAt 5 = .ok (.iaload, 1) := by decide +kernel
theorem dX12_comesAt_6 : decode cX12_comesAt 6 = .ok (.iconst 2, 1) := by decide +kernel
theorem dX12_comesAt_7 : decode cX12_comesAt 7 = .ok (.if_icmp .ne 7, 3) := by decide +kernel
theorem dX12_comesAt_10 : decode cX12_comesAt 10 = .ok (.iconst 0, 1) := by decide +kernel
theorem dX12_comesAt_11 : decode cX12_comesAt 11 = .ok (.goto 8, 3) := by decide +kernel
theorem dX12_comesAt_14 : decode cX12_comesAt 14 = .ok (.aload_n 0, 1) := by decide +kernel
theorem dX12_comesAt_15 : decode cX12_comesAt 15 = .ok (.iload_n 1, 1) := by decide +kernel
theorem dX12_comesAt_16 : decode cX12_comesAt 16 = .ok (.invokevirtual 447, 3) := by decide +kernel
theorem dX12_comesAt_19 : decode cX12_comesAt 19 = .ok (.ireturn, 1) := by decide +kernel
theorem dX12_manyOf_0 : decode cX12_manyOf 0 = .ok (.iload_n 1, 1) := by decide +kernel
theorem dX12_manyOf_1 : decode cX12_manyOf 1 = .ok (.aload_n 0, 1) := by decide +kernel
theorem dX12_manyOf_2 : decode cX12_manyOf 2 = .ok (.getfield 156, 3) := by decide +kernel
theorem dX12_manyOf_5 : decode cX12_manyOf 5 = .ok (.if_icmp .eq 10, 3) := by decide +kernel
theorem dX12_manyOf_8 : decode cX12_manyOf 8 = .ok (.aload_n 0, 1) := by decide +kernel
theorem dX12_manyOf_9 : decode cX12_manyOf 9 = .ok (.getfield 59, 3) := by decide +kernel
theorem dX12_manyOf_12 : decode cX12_manyOf 12 = .ok (.iload_n 1, 1) := by decide +kernel
theorem dX12_manyOf_13 : decode cX12_manyOf 13 = .ok (.iaload, 1) := by decide +kernel
theorem dX12_manyOf_14 : decode cX12_manyOf 14 = .ok (.ireturn, 1) := by decide +kernel
theorem dX12_manyOf_15 : decode cX12_manyOf 15 = .ok (.iconst 0, 1) := by decide +kernel
theorem dX12_manyOf_16 : decode cX12_manyOf 16 = .ok (.istore_n 2, 1) := by decide +kernel
theorem dX12_manyOf_17 : decode cX12_manyOf 17 = .ok (.iconst 0, 1) := by decide +kernel
theorem dX12_manyOf_18 : decode cX12_manyOf 18 = .ok (.istore_n 3, 1) := by decide +kernel
theorem dX12_manyOf_19 : decode cX12_manyOf 19 = .ok (.iload_n 3, 1) := by decide +kernel
theorem dX12_manyOf_20 : decode cX12_manyOf 20 = .ok (.aload_n 0, 1) := by decide +kernel
theorem dX12_manyOf_21 : decode cX12_manyOf 21 = .ok (.getfield 13, 3) := by decide +kernel
theorem dX12_manyOf_24 : decode cX12_manyOf 24 = .ok (.iconst 2, 1) := by decide +kernel
theorem dX12_manyOf_25 : decode cX12_manyOf 25 = .ok (.iaload, 1) := by decide +kernel
theorem dX12_manyOf_26 : decode cX12_manyOf 26 = .ok (.if_icmp .ge 34, 3) := by decide +kernel
theorem dX12_manyOf_29 : decode cX12_manyOf 29 = .ok (.iload_n 2, 1) := by decide +kernel
theorem dX12_manyOf_30 : decode cX12_manyOf 30 = .ok (.aload_n 0, 1) := by decide +kernel
theorem dX12_manyOf_31 : decode cX12_manyOf 31 = .ok (.getfield 458, 3) := by decide +kernel
theorem dX12_manyOf_34 : decode cX12_manyOf 34 = .ok (.iload_n 3, 1) := by decide +kernel
theorem dX12_manyOf_35 : decode cX12_manyOf 35 = .ok (.ishr, 1) := by decide +kernel
theorem dX12_manyOf_36 : decode cX12_manyOf 36 = .ok (.iconst 1, 1) := by decide +kernel
theorem dX12_manyOf_37 : decode cX12_manyOf 37 = .ok (.iand, 1) := by decide +kernel
theorem dX12_manyOf_38 : decode cX12_manyOf 38 = .ok (.iconst 1, 1) := by decide +kernel
theorem dX12_manyOf_39 : decode cX12_manyOf 39 = .ok (.if_icmp .ne 12, 3) := by decide +kernel
theorem dX12_manyOf_42 : decode cX12_manyOf 42 = .ok (.aload_n 0, 1) := by decide +kernel
theorem dX12_manyOf_43 : decode cX12_manyOf 43 = .ok (.getfield 59, 3) := by decide +kernel
theorem dX12_manyOf_46 : decode cX12_manyOf 46 = .ok (.iload_n 3, 1) := by decide +kernel
theorem dX12_manyOf_47 : decode cX12_manyOf 47 = .ok (.iaload, 1) := by decide +kernel
theorem dX12_manyOf_48 : decode cX12_manyOf 48 = .ok (.goto 4, 3) := by decide +kernel
theorem dX12_manyOf_51 : decode cX12_manyOf 51 = .ok (.iconst 0, 1) := by decide +kernel
theorem dX12_manyOf_52 : decode cX12_manyOf 52 = .ok (.iadd, 1) := by decide +kernel
theorem dX12_manyOf_53 : decode cX12_manyOf 53 = .ok (.istore_n 2, 1) := by decide +kernel
theorem dX12_manyOf_54 : decode cX12_manyOf 54 = .ok (.iinc 3 1, 3) := by decide +kernel
theorem dX12_manyOf_57 : decode cX12_manyOf 57 = .ok (.goto (-38), 3) := by decide +kernel
theorem dX12_manyOf_60 : decode cX12_manyOf 60 = .ok (.iload_n 2, 1) := by decide +kernel
theorem dX12_manyOf_61 : decode cX12_manyOf 61 = .ok (.ireturn, 1) := by decide +kernel
theorem dX12_secsOf_0 : decode cX12_secsOf 0 = .ok (.iconst 0, 1) := by decide +kernel
theorem dX12_secsOf_1 : decode cX12_secsOf 1 = .ok (.istore_n 2, 1) := by decide +kernel
theorem dX12_secsOf_2 : decode cX12_secsOf 2 = .ok (.iconst 0, 1) := by decide +kernel
theorem dX12_secsOf_3 : decode cX12_secsOf 3 = .ok (.istore_n 3, 1) := by decide +kernel
theorem dX12_secsOf_4 : decode cX12_secsOf 4 = .ok (.iload_n 3, 1) := by decide +kernel
theorem dX12_secsOf_5 : decode cX12_secsOf 5 = .ok (.aload_n 0, 1) := by decide +kernel
theorem dX12_secsOf_6 : decode cX12_secsOf 6 = .ok (.getfield 59, 3) := by decide +kernel
theorem dX12_secsOf_9 : decode cX12_secsOf 9 = .ok (.iload_n 1, 1) := by decide +kernel
theorem dX12_secsOf_10 : decode cX12_secsOf 10 = .ok (.iaload, 1) := by decide +kernel
theorem dX12_secsOf_11 : decode cX12_secsOf 11 = .ok (.if_icmp .ge 27, 3) := by decide +kernel
theorem dX12_secsOf_14 : decode cX12_secsOf 14 = .ok (.iload_n 2, 1) := by decide +kernel
theorem dX12_secsOf_15 : decode cX12_secsOf 15 = .ok (.aload_n 0, 1) := by decide +kernel
theorem dX12_secsOf_16 : decode cX12_secsOf 16 = .ok (.getfield 32, 3) := by decide +kernel
theorem dX12_secsOf_19 : decode cX12_secsOf 19 = .ok (.aload_n 0, 1) := by decide +kernel
theorem dX12_secsOf_20 : decode cX12_secsOf 20 = .ok (.getfield 56, 3) := by decide +kernel
theorem dX12_secsOf_23 : decode cX12_secsOf 23 = .ok (.iconst 3, 1) := by decide +kernel
theorem dX12_secsOf_24 : decode cX12_secsOf 24 = .ok (.iload_n 1, 1) := by decide +kernel
theorem dX12_secsOf_25 : decode cX12_secsOf 25 = .ok (.imul, 1) := by decide +kernel
theorem dX12_secsOf_26 : decode cX12_secsOf 26 = .ok (.iload_n 3, 1) := by decide +kernel
theorem dX12_secsOf_27 : decode cX12_secsOf 27 = .ok (.iadd, 1) := by decide +kernel
theorem dX12_secsOf_28 : decode cX12_secsOf 28 = .ok (.iaload, 1) := by decide +kernel
theorem dX12_secsOf_29 : decode cX12_secsOf 29 = .ok (.iaload, 1) := by decide +kernel
theorem dX12_secsOf_30 : decode cX12_secsOf 30 = .ok (.iadd, 1) := by decide +kernel
theorem dX12_secsOf_31 : decode cX12_secsOf 31 = .ok (.istore_n 2, 1) := by decide +kernel
theorem dX12_secsOf_32 : decode cX12_secsOf 32 = .ok (.iinc 3 1, 3) := by decide +kernel
theorem dX12_secsOf_35 : decode cX12_secsOf 35 = .ok (.goto (-31), 3) := by decide +kernel
theorem dX12_secsOf_38 : decode cX12_secsOf 38 = .ok (.iload_n 2, 1) := by decide +kernel
theorem dX12_secsOf_39 : decode cX12_secsOf 39 = .ok (.ireturn, 1) := by decide +kernel
theorem dX12_wants_0 : decode cX12_wants 0 = .ok (.iconst 0, 1) := by decide +kernel
theorem dX12_wants_1 : decode cX12_wants 1 = .ok (.istore_n 3, 1) := by decide +kernel
theorem dX12_wants_2 : decode cX12_wants 2 = .ok (.iload_n 3, 1) := by decide +kernel
theorem dX12_wants_3 : decode cX12_wants 3 = .ok (.aload_n 0, 1) := by decide +kernel
theorem dX12_wants_4 : decode cX12_wants 4 = .ok (.getfield 59, 3) := by decide +kernel
theorem dX12_wants_7 : decode cX12_wants 7 = .ok (.iload_n 1, 1) := by decide +kernel
theorem dX12_wants_8 : decode cX12_wants 8 = .ok (.iaload, 1) := by decide +kernel
theorem dX12_wants_9 : decode cX12_wants 9 = .ok (.if_icmp .ge 25, 3) := by decide +kernel
theorem dX12_wants_12 : decode cX12_wants 12 = .ok (.aload_n 0, 1) := by decide +kernel
theorem dX12_wants_13 : decode cX12_wants 13 = .ok (.getfield 56, 3) := by decide +kernel
theorem dX12_wants_16 : decode cX12_wants 16 = .ok (.iconst 3, 1) := by decide +kernel
theorem dX12_wants_17 : decode cX12_wants 17 = .ok (.iload_n 1, 1) := by decide +kernel
theorem dX12_wants_18 : decode cX12_wants 18 = .ok (.imul, 1) := by decide +kernel
theorem dX12_wants_19 : decode cX12_wants 19 = .ok (.iload_n 3, 1) := by decide +kernel
theorem dX12_wants_20 : decode cX12_wants 20 = .ok (.iadd, 1) := by decide +kernel
theorem dX12_wants_21 : decode cX12_wants 21 = .ok (.iaload, 1) := by decide +kernel
theorem dX12_wants_22 : decode cX12_wants 22 = .ok (.iload_n 2, 1) := by decide +kernel
theorem dX12_wants_23 : decode cX12_wants 23 = .ok (.if_icmp .ne 5, 3) := by decide +kernel
theorem dX12_wants_26 : decode cX12_wants 26 = .ok (.iconst 1, 1) := by decide +kernel
theorem dX12_wants_27 : decode cX12_wants 27 = .ok (.ireturn, 1) := by decide +kernel
theorem dX12_wants_28 : decode cX12_wants 28 = .ok (.iinc 3 1, 3) := by decide +kernel
theorem dX12_wants_31 : decode cX12_wants 31 = .ok (.goto (-29), 3) := by decide +kernel
theorem dX12_wants_34 : decode cX12_wants 34 = .ok (.iconst 0, 1) := by decide +kernel
theorem dX12_wants_35 : decode cX12_wants 35 = .ok (.ireturn, 1) := by decide +kernel
theorem dX12_lastsFor_0 : decode cX12_lastsFor 0 = .ok (.aload_n 0, 1) := by decide +kernel
theorem dX12_lastsFor_1 : decode cX12_lastsFor 1 = .ok (.getfield 44, 3) := by decide +kernel
theorem dX12_lastsFor_4 : decode cX12_lastsFor 4 = .ok (.iload_n 1, 1) := by decide +kernel
theorem dX12_lastsFor_5 : decode cX12_lastsFor 5 = .ok (.iaload, 1) := by decide +kernel
theorem dX12_lastsFor_6 : decode cX12_lastsFor 6 = .ok (.iconst 1, 1) := by decide +kernel
theorem dX12_lastsFor_7 : decode cX12_lastsFor 7 = .ok (.if_icmp .ne 13, 3) := by decide +kernel
theorem dX12_lastsFor_10 : decode cX12_lastsFor 10 = .ok (.aload_n 0, 1) := by decide +kernel
theorem dX12_lastsFor_11 : decode cX12_lastsFor 11 = .ok (.getfield 13, 3) := by decide +kernel
theorem dX12_lastsFor_14 : decode cX12_lastsFor 14 = .ok (.bipush 6, 2) := by decide +kernel
theorem dX12_lastsFor_16 : decode cX12_lastsFor 16 = .ok (.iaload, 1) := by decide +kernel
theorem dX12_lastsFor_17 : decode cX12_lastsFor 17 = .ok (.goto 4, 3) := by decide +kernel
theorem dX12_lastsFor_20 : decode cX12_lastsFor 20 = .ok (.iconst 0, 1) := by decide +kernel
theorem dX12_lastsFor_21 : decode cX12_lastsFor 21 = .ok (.istore_n 2, 1) := by decide +kernel
theorem dX12_lastsFor_22 : decode cX12_lastsFor 22 = .ok (.iload_n 1, 1) := by decide +kernel
theorem dX12_lastsFor_23 : decode cX12_lastsFor 23 = .ok (.aload_n 0, 1) := by decide +kernel
theorem dX12_lastsFor_24 : decode cX12_lastsFor 24 = .ok (.getfield 156, 3) := by decide +kernel
theorem dX12_lastsFor_27 : decode cX12_lastsFor 27 = .ok (.if_icmp .ne 47, 3) := by decide +kernel
theorem dX12_lastsFor_30 : decode cX12_lastsFor 30 = .ok (.iconst 0, 1) := by decide +kernel
theorem dX12_lastsFor_31 : decode cX12_lastsFor 31 = .ok (.istore_n 3, 1) := by decide +kernel
theorem dX12_lastsFor_32 : decode cX12_lastsFor 32 = .ok (.iload_n 3, 1) := by decide +kernel
theorem dX12_lastsFor_33 : decode cX12_lastsFor 33 = .ok (.aload_n 0, 1) := by decide +kernel
theorem dX12_lastsFor_34 : decode cX12_lastsFor 34 = .ok (.getfield 13, 3) := by decide +kernel
theorem dX12_lastsFor_37 : decode cX12_lastsFor 37 = .ok (.iconst 2, 1) := by decide +kernel
theorem dX12_lastsFor_38 : decode cX12_lastsFor 38 = .ok (.iaload, 1) := by decide +kernel
theorem dX12_lastsFor_39 : decode cX12_lastsFor 39 = .ok (.if_icmp .ge 33, 3) := by decide +kernel
theorem dX12_lastsFor_42 : decode cX12_lastsFor 42 = .ok (.iload_n 2, 1) := by decide +kernel
theorem dX12_lastsFor_43 : decode cX12_lastsFor 43 = .ok (.aload_n 0, 1) := by decide +kernel
theorem dX12_lastsFor_44 : decode cX12_lastsFor 44 = .ok (.getfield 458, 3) := by decide +kernel
theorem dX12_lastsFor_47 : decode cX12_lastsFor 47 = .ok (.iload_n 3, 1) := by decide +kernel
theorem dX12_lastsFor_48 : decode cX12_lastsFor 48 = .ok (.ishr, 1) := by decide +kernel
theorem dX12_lastsFor_49 : decode cX12_lastsFor 49 = .ok (.iconst 1, 1) := by decide +kernel
theorem dX12_lastsFor_50 : decode cX12_lastsFor 50 = .ok (.iand, 1) := by decide +kernel
theorem dX12_lastsFor_51 : decode cX12_lastsFor 51 = .ok (.iconst 1, 1) := by decide +kernel
theorem dX12_lastsFor_52 : decode cX12_lastsFor 52 = .ok (.if_icmp .ne 11, 3) := by decide +kernel
theorem dX12_lastsFor_55 : decode cX12_lastsFor 55 = .ok (.aload_n 0, 1) := by decide +kernel
theorem dX12_lastsFor_56 : decode cX12_lastsFor 56 = .ok (.iload_n 3, 1) := by decide +kernel
theorem dX12_lastsFor_57 : decode cX12_lastsFor 57 = .ok (.invokevirtual 461, 3) := by decide +kernel
theorem dX12_lastsFor_60 : decode cX12_lastsFor 60 = .ok (.goto 4, 3) := by decide +kernel
theorem dX12_lastsFor_63 : decode cX12_lastsFor 63 = .ok (.iconst 0, 1) := by decide +kernel
theorem dX12_lastsFor_64 : decode cX12_lastsFor 64 = .ok (.iadd, 1) := by decide +kernel
theorem dX12_lastsFor_65 : decode cX12_lastsFor 65 = .ok (.istore_n 2, 1) := by decide +kernel
theorem dX12_lastsFor_66 : decode cX12_lastsFor 66 = .ok (.iinc 3 1, 3) := by decide +kernel
theorem dX12_lastsFor_69 : decode cX12_lastsFor 69 = .ok (.goto (-37), 3) := by decide +kernel
theorem dX12_lastsFor_72 : decode cX12_lastsFor 72 = .ok (.iload_n 2, 1) := by decide +kernel
theorem dX12_lastsFor_73 : decode cX12_lastsFor 73 = .ok (.ireturn, 1) := by decide +kernel
theorem dX12_lastsFor_74 : decode cX12_lastsFor 74 = .ok (.iload_n 2, 1) := by decide +kernel
theorem dX12_lastsFor_75 : decode cX12_lastsFor 75 = .ok (.aload_n 0, 1) := by decide +kernel
theorem dX12_lastsFor_76 : decode cX12_lastsFor 76 = .ok (.iload_n 1, 1) := by decide +kernel
theorem dX12_lastsFor_77 : decode cX12_lastsFor 77 = .ok (.invokevirtual 461, 3) := by decide +kernel
theorem dX12_lastsFor_80 : decode cX12_lastsFor 80 = .ok (.iadd, 1) := by decide +kernel
theorem dX12_lastsFor_81 : decode cX12_lastsFor 81 = .ok (.istore_n 2, 1) := by decide +kernel
theorem dX12_lastsFor_82 : decode cX12_lastsFor 82 = .ok (.aload_n 0, 1) := by decide +kernel
theorem dX12_lastsFor_83 : decode cX12_lastsFor 83 = .ok (.getfield 178, 3) := by decide +kernel
theorem dX12_lastsFor_86 : decode cX12_lastsFor 86 = .ok (.iload_n 1, 1) := by decide +kernel
theorem dX12_lastsFor_87 : decode cX12_lastsFor 87 = .ok (.aload_n 0, 1) := by decide +kernel
theorem dX12_lastsFor_88 : decode cX12_lastsFor 88 = .ok (.getfield 160, 3) := by decide +kernel
theorem dX12_lastsFor_91 : decode cX12_lastsFor 91 = .ok (.ifCond .lt 26, 3) := by decide +kernel
theorem dX12_lastsFor_94 : decode cX12_lastsFor 94 = .ok (.aload_n 0, 1) := by decide +kernel
theorem dX12_lastsFor_95 : decode cX12_lastsFor 95 = .ok (.getfield 464, 3) := by decide +kernel
theorem dX12_lastsFor_98 : decode cX12_lastsFor 98 = .ok (.ifCond .le 19, 3) := by decide +kernel
theorem dX12_lastsFor_101 : decode cX12_lastsFor 101 = .ok (.aload_n 0, 1) := by decide +kernel
theorem dX12_lastsFor_102 : decode cX12_lastsFor 102 = .ok (.iload_n 1, 1) := by decide +kernel
theorem dX12_lastsFor_103 : decode cX12_lastsFor 103 = .ok (.aload_n 0, 1) := by decide +kernel
theorem dX12_lastsFor_104 : decode cX12_lastsFor 104 = .ok (.getfield 160, 3) := by decide +kernel
theorem dX12_lastsFor_107 : decode cX12_lastsFor 107 = .ok (.invokevirtual 467, 3) := by decide +kernel
theorem dX12_lastsFor_110 : decode cX12_lastsFor 110 = .ok (.ifCond .eq 7, 3) := by decide +kernel
theorem dX12_lastsFor_113 : decode cX12_lastsFor 113 = .ok (.iconst 1, 1) := by decide +kernel
theorem dX12_lastsFor_114 : decode cX12_lastsFor 114 = .ok (.goto 4, 3) := by decide +kernel
theorem dX12_lastsFor_117 : decode cX12_lastsFor 117 = .ok (.iconst 0, 1) := by decide +kernel
theorem dX12_lastsFor_118 : decode cX12_lastsFor 118 = .ok (.bastore, 1) := by decide +kernel
theorem dX12_lastsFor_119 : decode cX12_lastsFor 119 = .ok (.aload_n 0, 1) := by decide +kernel
theorem dX12_lastsFor_120 : decode cX12_lastsFor 120 = .ok (.getfield 178, 3) := by decide +kernel
theorem dX12_lastsFor_123 : decode cX12_lastsFor 123 = .ok (.iload_n 1, 1) := by decide +kernel
theorem dX12_lastsFor_124 : decode cX12_lastsFor 124 = .ok (.baload, 1) := by decide +kernel
theorem dX12_lastsFor_125 : decode cX12_lastsFor 125 = .ok (.ifCond .eq 27, 3) := by decide +kernel
theorem dX12_lastsFor_128 : decode cX12_lastsFor 128 = .ok (.aload_n 0, 1) := by decide +kernel
theorem dX12_lastsFor_129 : decode cX12_lastsFor 129 = .ok (.dup, 1) := by decide +kernel
theorem dX12_lastsFor_130 : decode cX12_lastsFor 130 = .ok (.getfield 464, 3) := by decide +kernel
theorem dX12_lastsFor_133 : decode cX12_lastsFor 133 = .ok (.iconst 1, 1) := by decide +kernel
theorem dX12_lastsFor_134 : decode cX12_lastsFor 134 = .ok (.isub, 1) := by decide +kernel
theorem dX12_lastsFor_135 : decode cX12_lastsFor 135 = .ok (.putfield 464, 3) := by decide +kernel
theorem dX12_lastsFor_138 : decode cX12_lastsFor 138 = .ok (.iload_n 2, 1) := by decide +kernel
theorem dX12_lastsFor_139 : decode cX12_lastsFor 139 = .ok (.iconst 1, 1) := by decide +kernel
theorem dX12_lastsFor_140 : decode cX12_lastsFor 140 = .ok (.aload_n 0, 1) := by decide +kernel
theorem dX12_lastsFor_141 : decode cX12_lastsFor 141 = .ok (.getfield 32, 3) := by decide +kernel
theorem dX12_lastsFor_144 : decode cX12_lastsFor 144 = .ok (.aload_n 0, 1) := by decide +kernel
theorem dX12_lastsFor_145 : decode cX12_lastsFor 145 = .ok (.getfield 160, 3) := by decide +kernel
theorem dX12_lastsFor_148 : decode cX12_lastsFor 148 = .ok (.iaload, 1) := by decide +kernel
theorem dX12_lastsFor_149 : decode cX12_lastsFor 149 = .ok (.isub, 1) := by decide +kernel
theorem dX12_lastsFor_150 : decode cX12_lastsFor 150 = .ok (.iadd, 1) := by decide +kernel
theorem dX12_lastsFor_151 : decode cX12_lastsFor 151 = .ok (.istore_n 2, 1) := by decide +kernel
theorem dX12_lastsFor_152 : decode cX12_lastsFor 152 = .ok (.iload_n 2, 1) := by decide +kernel
theorem dX12_lastsFor_153 : decode cX12_lastsFor 153 = .ok (.ireturn, 1) := by decide +kernel
theorem dX12_orderOf_0 : decode cX12_orderOf 0 = .ok (.aload_n 0, 1) := by decide +kernel
theorem dX12_orderOf_1 : decode cX12_orderOf 1 = .ok (.getfield 470, 3) := by decide +kernel
theorem dX12_orderOf_4 : decode cX12_orderOf 4 = .ok (.ifCond .le 27, 3) := by decide +kernel
theorem dX12_orderOf_7 : decode cX12_orderOf 7 = .ok (.aload_n 0, 1) := by decide +kernel
theorem dX12_orderOf_8 : decode cX12_orderOf 8 = .ok (.getfield 470, 3) := by decide +kernel
theorem dX12_orderOf_11 : decode cX12_orderOf 11 = .ok (.iconst 2, 1) := by decide +kernel
theorem dX12_orderOf_12 : decode cX12_orderOf 12 = .ok (.if_icmp .ne 17, 3) := by decide +kernel
theorem dX12_orderOf_15 : decode cX12_orderOf 15 = .ok (.aload_n 0, 1) := by decide +kernel
theorem dX12_orderOf_16 : decode cX12_orderOf 16 = .ok (.getfield 44, 3) := by decide +kernel
theorem dX12_orderOf_19 : decode cX12_orderOf 19 = .ok (.iload_n 1, 1) := by decide +kernel
theorem dX12_orderOf_20 : decode cX12_orderOf 20 = .ok (.iaload, 1) := by decide +kernel
theorem dX12_orderOf_21 : decode cX12_orderOf 21 = .ok (.iconst 1, 1) := by decide +kernel
theorem dX12_orderOf_22 : decode cX12_orderOf 22 = .ok (.if_icmp .ne 7, 3) := by decide +kernel
theorem dX12_orderOf_25 : decode cX12_orderOf 25 = .ok (.iconst 1, 1) := by decide +kernel
theorem dX12_orderOf_26 : decode cX12_orderOf 26 = .ok (.goto 4, 3) := by decide +kernel
theorem dX12_orderOf_29 : decode cX12_orderOf 29 = .ok (.iconst 0, 1) := by decide +kernel
theorem dX12_orderOf_30 : decode cX12_orderOf 30 = .ok (.ireturn, 1) := by decide +kernel
theorem dX12_orderOf_31 : decode cX12_orderOf 31 = .ok (.aload_n 0, 1) := by decide +kernel
theorem dX12_orderOf_32 : decode cX12_orderOf 32 = .ok (.getfield 68, 3) := by decide +kernel
theorem dX12_orderOf_35 : decode cX12_orderOf 35 = .ok (.iconst 0, 1) := by decide +kernel
theorem dX12_orderOf_36 : decode cX12_orderOf 36 = .ok (.iaload, 1) := by decide +kernel
theorem dX12_orderOf_37 : decode cX12_orderOf 37 = .ok (.aload_n 0, 1) := by decide +kernel
theorem dX12_orderOf_38 : decode cX12_orderOf 38 = .ok (.getfield 65, 3) := by decide +kernel
theorem dX12_orderOf_41 : decode cX12_orderOf 41 = .ok (.iconst 0, 1) := by decide +kernel
theorem dX12_orderOf_42 : decode cX12_orderOf 42 = .ok (.iaload, 1) := by decide +kernel
theorem dX12_orderOf_43 : decode cX12_orderOf 43 = .ok (.if_icmp .ne 5, 3) := by decide +kernel
theorem dX12_orderOf_46 : decode cX12_orderOf 46 = .ok (.iconst 0, 1) := by decide +kernel
theorem dX12_orderOf_47 : decode cX12_orderOf 47 = .ok (.ireturn, 1) := by decide +kernel
theorem dX12_orderOf_48 : decode cX12_orderOf 48 = .ok (.aload_n 0, 1) := by decide +kernel
theorem dX12_orderOf_49 : decode cX12_orderOf 49 = .ok (.getfield 108, 3) := by decide +kernel
theorem dX12_orderOf_52 : decode cX12_orderOf 52 = .ok (.iconst 1, 1) := by decide +kernel
theorem dX12_orderOf_53 : decode cX12_orderOf 53 = .ok (.aload_n 0, 1) := by decide +kernel
theorem dX12_orderOf_54 : decode cX12_orderOf 54 = .ok (.getfield 26, 3) := by decide +kernel
theorem dX12_orderOf_57 : decode cX12_orderOf 57 = .ok (.aload_n 0, 1) := by decide +kernel
theorem dX12_orderOf_58 : decode cX12_orderOf 58 = .ok (.getfield 47, 3) := by decide +kernel
theorem dX12_orderOf_61 : decode cX12_orderOf 61 = .ok (.iload_n 1, 1) := by decide +kernel
theorem dX12_orderOf_62 : decode cX12_orderOf 62 = .ok (.iaload, 1) := by decide +kernel
theorem dX12_orderOf_63 : decode cX12_orderOf 63 = .ok (.iaload, 1) := by decide +kernel
theorem dX12_orderOf_64 : decode cX12_orderOf 64 = .ok (.aload_n 0, 1) := by decide +kernel
theorem dX12_orderOf_65 : decode cX12_orderOf 65 = .ok (.getfield 141, 3) := by decide +kernel
theorem dX12_orderOf_68 : decode cX12_orderOf 68 = .ok (.iconst 2, 1) := by decide +kernel
theorem dX12_orderOf_69 : decode cX12_orderOf 69 = .ok (.iaload, 1) := by decide +kernel
theorem dX12_orderOf_70 : decode cX12_orderOf 70 = .ok (.invokestatic 443, 3) := by decide +kernel
theorem dX12_orderOf_73 : decode cX12_orderOf 73 = .ok (.iastore, 1) := by decide +kernel
theorem dX12_orderOf_74 : decode cX12_orderOf 74 = .ok (.aload_n 0, 1) := by decide +kernel
theorem dX12_orderOf_75 : decode cX12_orderOf 75 = .ok (.getfield 108, 3) := by decide +kernel
theorem dX12_orderOf_78 : decode cX12_orderOf 78 = .ok (.iconst 2, 1) := by decide +kernel
theorem dX12_orderOf_79 : decode cX12_orderOf 79 = .ok (.iload_n 2, 1) := by decide +kernel
theorem dX12_orderOf_80 : decode cX12_orderOf 80 = .ok (.aload_n 0, 1) := by decide +kernel
theorem dX12_orderOf_81 : decode cX12_orderOf 81 = .ok (.iload_n 1, 1) := by decide +kernel
theorem dX12_orderOf_82 : decode cX12_orderOf 82 = .ok (.invokevirtual 473, 3) := by decide +kernel
theorem dX12_orderOf_85 : decode cX12_orderOf 85 = .ok (.isub, 1) := by decide +kernel
theorem dX12_orderOf_86 : decode cX12_orderOf 86 = .ok (.iastore, 1) := by decide +kernel
theorem dX12_orderOf_87 : decode cX12_orderOf 87 = .ok (.aload_n 0, 1) := by decide +kernel
theorem dX12_orderOf_88 : decode cX12_orderOf 88 = .ok (.getfield 108, 3) := by decide +kernel
theorem dX12_orderOf_91 : decode cX12_orderOf 91 = .ok (.iconst 3, 1) := by decide +kernel
theorem dX12_orderOf_92 : decode cX12_orderOf 92 = .ok (.aload_n 0, 1) := by decide +kernel
theorem dX12_orderOf_93 : decode cX12_orderOf 93 = .ok (.getfield 44, 3) := by decide +kernel
theorem dX12_orderOf_96 : decode cX12_orderOf 96 = .ok (.iload_n 1, 1) := by decide +kernel
theorem dX12_orderOf_97 : decode cX12_orderOf 97 = .ok (.iaload, 1) := by decide +kernel
theorem dX12_orderOf_98 : decode cX12_orderOf 98 = .ok (.iconst 1, 1) := by decide +kernel
theorem dX12_orderOf_99 : decode cX12_orderOf 99 = .ok (.if_icmp .ne 7, 3) := by decide +kernel
theorem dX12_orderOf_102 : decode cX12_orderOf 102 = .ok (.iconst 0, 1) := by decide +kernel
theorem dX12_orderOf_103 : decode cX12_orderOf 103 = .ok (.goto 4, 3) := by decide +kernel
theorem dX12_orderOf_106 : decode cX12_orderOf 106 = .ok (.iconst 1, 1) := by decide +kernel
theorem dX12_orderOf_107 : decode cX12_orderOf 107 = .ok (.iastore, 1) := by decide +kernel
theorem dX12_orderOf_108 : decode cX12_orderOf 108 = .ok (.aload_n 0, 1) := by decide +kernel
theorem dX12_orderOf_109 : decode cX12_orderOf 109 = .ok (.getfield 108, 3) := by decide +kernel
theorem dX12_orderOf_112 : decode cX12_orderOf 112 = .ok (.iconst 4, 1) := by decide +kernel
theorem dX12_orderOf_113 : decode cX12_orderOf 113 = .ok (.aload_n 0, 1) := by decide +kernel
theorem dX12_orderOf_114 : decode cX12_orderOf 114 = .ok (.iload_n 1, 1) := by decide +kernel
theorem dX12_orderOf_115 : decode cX12_orderOf 115 = .ok (.invokevirtual 476, 3) := by decide +kernel
theorem dX12_orderOf_118 : decode cX12_orderOf 118 = .ok (.iastore, 1) := by decide +kernel
theorem dX12_orderOf_119 : decode cX12_orderOf 119 = .ok (.aload_n 0, 1) := by decide +kernel
theorem dX12_orderOf_120 : decode cX12_orderOf 120 = .ok (.iconst 0, 1) := by decide +kernel
theorem dX12_orderOf_121 : decode cX12_orderOf 121 = .ok (.invokevirtual 479, 3) := by decide +kernel
theorem dX12_orderOf_124 : decode cX12_orderOf 124 = .ok (.ireturn, 1) := by decide +kernel
theorem dX12_nextAt_0 : decode cX12_nextAt 0 = .ok (.iconst (-1), 1) := by decide +kernel
theorem dX12_nextAt_1 : decode cX12_nextAt 1 = .ok (.istore_n 2, 1) := by decide +kernel
theorem dX12_nextAt_2 : decode cX12_nextAt 2 = .ok (.iconst 0, 1) := by decide +kernel
theorem dX12_nextAt_3 : decode cX12_nextAt 3 = .ok (.istore_n 3, 1) := by decide +kernel
theorem dX12_nextAt_4 : decode cX12_nextAt 4 = .ok (.iconst 0, 1) := by decide +kernel
theorem dX12_nextAt_5 : decode cX12_nextAt 5 = .ok (.istore 4, 2) := by decide +kernel
theorem dX12_nextAt_7 : decode cX12_nextAt 7 = .ok (.iload 4, 2) := by decide +kernel
theorem dX12_nextAt_9 : decode cX12_nextAt 9 = .ok (.aload_n 0, 1) := by decide +kernel
theorem dX12_nextAt_10 : decode cX12_nextAt 10 = .ok (.getfield 13, 3) := by decide +kernel
theorem dX12_nextAt_13 : decode cX12_nextAt 13 = .ok (.iconst 2, 1) := by decide +kernel
theorem dX12_nextAt_14 : decode cX12_nextAt 14 = .ok (.iaload, 1) := by decide +kernel
theorem dX12_nextAt_15 : decode cX12_nextAt 15 = .ok (.if_icmp .ge 104, 3) := by decide +kernel
theorem dX12_nextAt_18 : decode cX12_nextAt 18 = .ok (.aload_n 0, 1) := by decide +kernel
theorem dX12_nextAt_19 : decode cX12_nextAt 19 = .ok (.getfield 141, 3) := by decide +kernel
theorem dX12_nextAt_22 : decode cX12_nextAt 22 = .ok (.iconst 0, 1) := by decide +kernel
theorem dX12_nextAt_23 : decode cX12_nextAt 23 = .ok (.iaload, 1) := by decide +kernel
theorem dX12_nextAt_24 : decode cX12_nextAt 24 = .ok (.iload 4, 2) := by decide +kernel
theorem dX12_nextAt_26 : decode cX12_nextAt 26 = .ok (.ishr, 1) := by decide +kernel
theorem dX12_nextAt_27 : decode cX12_nextAt 27 = .ok (.iconst 1, 1) := by decide +kernel
theorem dX12_nextAt_28 : decode cX12_nextAt 28 = .ok (.iand, 1) := by decide +kernel
theorem dX12_nextAt_29 : decode cX12_nextAt 29 = .ok (.ifCond .eq 84, 3) := by decide +kernel
theorem dX12_nextAt_32 : decode cX12_nextAt 32 = .ok (.aload_n 0, 1) := by decide +kernel
theorem dX12_nextAt_33 : decode cX12_nextAt 33 = .ok (.getfield 163, 3) := by decide +kernel
theorem dX12_nextAt_36 : decode cX12_nextAt 36 = .ok (.iload 4, 2) := by decide +kernel
theorem dX12_nextAt_38 : decode cX12_nextAt 38 = .ok (.iaload, 1) := by decide +kernel
theorem dX12_nextAt_39 : decode cX12_nextAt 39 = .ok (.ifCond .ge 74, 3) := by decide +kernel
theorem dX12_nextAt_42 : decode cX12_nextAt 42 = .ok (.aload_n 0, 1) := by decide +kernel
theorem dX12_nextAt_43 : decode cX12_nextAt 43 = .ok (.iload 4, 2) := by decide +kernel
theorem dX12_nextAt_45 : decode cX12_nextAt 45 = .ok (.invokevirtual 473, 3) := by decide +kernel
theorem dX12_nextAt_48 : decode cX12_nextAt 48 = .ok (.iload_n 1, 1) := by decide +kernel
theorem dX12_nextAt_49 : decode cX12_nextAt 49 = .ok (.if_icmp .gt 64, 3) := by decide +kernel
theorem dX12_nextAt_52 : decode cX12_nextAt 52 = .ok (.iload_n 1, 1) := by decide +kernel
theorem dX12_nextAt_53 : decode cX12_nextAt 53 = .ok (.aload_n 0, 1) := by decide +kernel
theorem dX12_nextAt_54 : decode cX12_nextAt 54 = .ok (.iload 4, 2) := by decide +kernel
theorem dX12_nextAt_56 : decode cX12_nextAt 56 = .ok (.invokevirtual 482, 3) := by decide +kernel
theorem dX12_nextAt_59 : decode cX12_nextAt 59 = .ok (.if_icmp .lt 6, 3) := by decide +kernel
theorem dX12_nextAt_62 : decode cX12_nextAt 62 = .ok (.goto 51, 3) := by decide +kernel
theorem dX12_nextAt_65 : decode cX12_nextAt 65 = .ok (.aload_n 0, 1) := by decide +kernel
theorem dX12_nextAt_66 : decode cX12_nextAt 66 = .ok (.iload 4, 2) := by decide +kernel
theorem dX12_nextAt_68 : decode cX12_nextAt 68 = .ok (.iload_n 1, 1) := by decide +kernel
theorem dX12_nextAt_69 : decode cX12_nextAt 69 = .ok (.invokevirtual 485, 3) := by decide +kernel
theorem dX12_nextAt_72 : decode cX12_nextAt 72 = .ok (.istore 5, 2) := by decide +kernel
theorem dX12_nextAt_74 : decode cX12_nextAt 74 = .ok (.iload_n 2, 1) := by decide +kernel
theorem dX12_nextAt_75 : decode cX12_nextAt 75 = .ok (.ifCond .lt 32, 3) := by decide +kernel
theorem dX12_nextAt_78 : decode cX12_nextAt 78 = .ok (.iload 5, 2) := by decide +kernel
theorem dX12_nextAt_80 : decode cX12_nextAt 80 = .ok (.iload_n 3, 1) := by decide +kernel
theorem dX12_nextAt_81 : decode cX12_nextAt 81 = .ok (.if_icmp .gt 32, 3) := by decide +kernel
theorem dX12_nextAt_84 : decode cX12_nextAt 84 = .ok (.iload 5, 2) := by decide +kernel
theorem dX12_nextAt_86 : decode cX12_nextAt 86 = .ok (.iload_n 3, 1) := by decide +kernel
theorem dX12_nextAt_87 : decode cX12_nextAt 87 = .ok (.if_icmp .ne 20, 3) := by decide +kernel
theorem dX12_nextAt_90 : decode cX12_nextAt 90 = .ok (.aload_n 0, 1) := by decide +kernel
theorem dX12_nextAt_91 : decode cX12_nextAt 91 = .ok (.iload 4, 2) := by decide +kernel
theorem dX12_nextAt_93 : decode cX12_nextAt 93 = .ok (.invokevirtual 473, 3) := by decide +kernel
theorem dX12_nextAt_96 : decode cX12_nextAt 96 = .ok (.aload_n 0, 1) := by decide +kernel
theorem dX12_nextAt_97 : decode cX12_nextAt 97 = .ok (.iload_n 2, 1) := by decide +kernel
theorem dX12_nextAt_98 : decode cX12_nextAt 98 = .ok (.invokevirtual 473, 3) := by decide +kernel
theorem dX12_nextAt_101 : decode cX12_nextAt 101 = .ok (.if_icmp .lt 6, 3) := by decide +kernel
theorem dX12_nextAt_104 : decode cX12_nextAt 104 = .ok (.goto 9, 3) := by decide +kernel
theorem dX12_nextAt_107 : decode cX12_nextAt 107 = .ok (.iload 4, 2) := by decide +kernel
theorem dX12_nextAt_109 : decode cX12_nextAt 109 = .ok (.istore_n 2, 1) := by decide +kernel
theorem dX12_nextAt_110 : decode cX12_nextAt 110 = .ok (.iload 5, 2) := by decide +kernel
theorem dX12_nextAt_112 : decode cX12_nextAt 112 = .ok (.istore_n 3, 1) := by decide +kernel
theorem dX12_nextAt_113 : decode cX12_nextAt 113 = .ok (.iinc 4 1, 3) := by decide +kernel
theorem dX12_nextAt_116 : decode cX12_nextAt 116 = .ok (.goto (-109), 3) := by decide +kernel
theorem dX12_nextAt_119 : decode cX12_nextAt 119 = .ok (.iload_n 2, 1) := by decide +kernel
theorem dX12_nextAt_120 : decode cX12_nextAt 120 = .ok (.ireturn, 1) := by decide +kernel
theorem dX12_runs_0 : decode cX12_runs 0 = .ok (.iconst 0, 1) := by decide +kernel
theorem dX12_runs_1 : decode cX12_runs 1 = .ok (.istore_n 1, 1) := by decide +kernel
theorem dX12_runs_2 : decode cX12_runs 2 = .ok (.iload_n 1, 1) := by decide +kernel
theorem dX12_runs_3 : decode cX12_runs 3 = .ok (.bipush 6, 2) := by decide +kernel
theorem dX12_runs_5 : decode cX12_runs 5 = .ok (.if_icmp .ge 30, 3) := by decide +kernel
theorem dX12_runs_8 : decode cX12_runs 8 = .ok (.aload_n 0, 1) := by decide +kernel
theorem dX12_runs_9 : decode cX12_runs 9 = .ok (.getfield 163, 3) := by decide +kernel
theorem dX12_runs_12 : decode cX12_runs 12 = .ok (.iload_n 1, 1) := by decide +kernel
theorem dX12_runs_13 : decode cX12_runs 13 = .ok (.iconst (-1), 1) := by decide +kernel
theorem dX12_runs_14 : decode cX12_runs 14 = .ok (.iastore, 1) := by decide +kernel
theorem dX12_runs_15 : decode cX12_runs 15 = .ok (.aload_n 0, 1) := by decide +kernel
theorem dX12_runs_16 : decode cX12_runs 16 = .ok (.getfield 166, 3) := by decide +kernel
theorem dX12_runs_19 : decode cX12_runs 19 = .ok (.iload_n 1, 1) := by decide +kernel
theorem dX12_runs_20 : decode cX12_runs 20 = .ok (.iconst (-1), 1) := by decide +kernel
theorem dX12_runs_21 : decode cX12_runs 21 = .ok (.iastore, 1) := by decide +kernel
theorem dX12_runs_22 : decode cX12_runs 22 = .ok (.aload_n 0, 1) := by decide +kernel
theorem dX12_runs_23 : decode cX12_runs 23 = .ok (.getfield 178, 3) := by decide +kernel
theorem dX12_runs_26 : decode cX12_runs 26 = .ok (.iload_n 1, 1) := by decide +kernel
theorem dX12_runs_27 : decode cX12_runs 27 = .ok (.iconst 0, 1) := by decide +kernel
theorem dX12_runs_28 : decode cX12_runs 28 = .ok (.bastore, 1) := by decide +kernel
theorem dX12_runs_29 : decode cX12_runs 29 = .ok (.iinc 1 1, 3) := by decide +kernel
theorem dX12_runs_32 : decode cX12_runs 32 = .ok (.goto (-30), 3) := by decide +kernel
theorem dX12_runs_35 : decode cX12_runs 35 = .ok (.aload_n 0, 1) := by decide +kernel
theorem dX12_runs_36 : decode cX12_runs 36 = .ok (.getfield 181, 3) := by decide +kernel
theorem dX12_runs_39 : decode cX12_runs 39 = .ok (.iconst 0, 1) := by decide +kernel
theorem dX12_runs_40 : decode cX12_runs 40 = .ok (.iconst 0, 1) := by decide +kernel
theorem dX12_runs_41 : decode cX12_runs 41 = .ok (.iastore, 1) := by decide +kernel
theorem dX12_runs_42 : decode cX12_runs 42 = .ok (.aload_n 0, 1) := by decide +kernel
theorem dX12_runs_43 : decode cX12_runs 43 = .ok (.getfield 181, 3) := by decide +kernel
theorem dX12_runs_46 : decode cX12_runs 46 = .ok (.iconst 1, 1) := by decide +kernel
theorem dX12_runs_47 : decode cX12_runs 47 = .ok (.iconst 0, 1) := by decide +kernel
theorem dX12_runs_48 : decode cX12_runs 48 = .ok (.iastore, 1) := by decide +kernel
theorem dX12_runs_49 : decode cX12_runs 49 = .ok (.iconst 0, 1) := by decide +kernel
theorem dX12_runs_50 : decode cX12_runs 50 = .ok (.istore_n 1, 1) := by decide +kernel
theorem dX12_runs_51 : decode cX12_runs 51 = .ok (.iload_n 1, 1) := by decide +kernel
theorem dX12_runs_52 : decode cX12_runs 52 = .ok (.aload_n 0, 1) := by decide +kernel
theorem dX12_runs_53 : decode cX12_runs 53 = .ok (.getfield 13, 3) := by decide +kernel
theorem dX12_runs_56 : decode cX12_runs 56 = .ok (.iconst 3, 1) := by decide +kernel
theorem dX12_runs_57 : decode cX12_runs 57 = .ok (.iaload, 1) := by decide +kernel
theorem dX12_runs_58 : decode cX12_runs 58 = .ok (.if_icmp .gt 85, 3) := by decide +kernel
theorem dX12_runs_61 : decode cX12_runs 61 = .ok (.iconst 0, 1) := by decide +kernel
theorem dX12_runs_62 : decode cX12_runs 62 = .ok (.istore_n 2, 1) := by decide +kernel
theorem dX12_runs_63 : decode cX12_runs 63 = .ok (.iload_n 2, 1) := by decide +kernel
theorem dX12_runs_64 : decode cX12_runs 64 = .ok (.aload_n 0, 1) := by decide +kernel
theorem dX12_runs_65 : decode cX12_runs 65 = .ok (.getfield 141, 3) := by decide +kernel
theorem dX12_runs_68 : decode cX12_runs 68 = .ok (.iconst 3, 1) := by decide +kernel
theorem dX12_runs_69 : decode cX12_runs 69 = .ok (.iaload, 1) := by decide +kernel
theorem dX12_runs_70 : decode cX12_runs 70 = .ok (.if_icmp .ge 67, 3) := by decide +kernel
theorem dX12_runs_73 : decode cX12_runs 73 = .ok (.aload_n 0, 1) := by decide +kernel
theorem dX12_runs_74 : decode cX12_runs 74 = .ok (.getfield 181, 3) := by decide +kernel
theorem dX12_runs_77 : decode cX12_runs 77 = .ok (.iload_n 2, 1) := by decide +kernel
theorem dX12_runs_78 : decode cX12_runs 78 = .ok (.iaload, 1) := by decide +kernel
theorem dX12_runs_79 : decode cX12_runs 79 = .ok (.iload_n 1, 1) := by decide +kernel
theorem dX12_runs_80 : decode cX12_runs 80 = .ok (.if_icmp .le 6, 3) := by decide +kernel
theorem dX12_runs_83 : decode cX12_runs 83 = .ok (.goto 48, 3) := by decide +kernel
theorem dX12_runs_86 : decode cX12_runs 86 = .ok (.aload_n 0, 1) := by decide +kernel
theorem dX12_runs_87 : decode cX12_runs 87 = .ok (.iload_n 1, 1) := by decide +kernel
theorem dX12_runs_88 : decode cX12_runs 88 = .ok (.invokevirtual 488, 3) := by decide +kernel
theorem dX12_runs_91 : decode cX12_runs 91 = .ok (.istore_n 3, 1) := by decide +kernel
theorem dX12_runs_92 : decode cX12_runs 92 = .ok (.iload_n 3, 1) := by decide +kernel
theorem dX12_runs_93 : decode cX12_runs 93 = .ok (.ifCond .ge 6, 3) := by decide +kernel
theorem dX12_runs_96 : decode cX12_runs 96 = .ok (.goto 35, 3) := by decide +kernel
theorem dX12_runs_99 : decode cX12_runs 99 = .ok (.aload_n 0, 1) := by decide +kernel
theorem dX12_runs_100 : decode cX12_runs 100 = .ok (.getfield 163, 3) := by decide +kernel
theorem dX12_runs_103 : decode cX12_runs 103 = .ok (.iload_n 3, 1) := by decide +kernel
theorem dX12_runs_104 : decode cX12_runs 104 = .ok (.iload_n 1, 1) := by decide +kernel
theorem dX12_runs_105 : decode cX12_runs 105 = .ok (.iastore, 1) := by decide +kernel
theorem dX12_runs_106 : decode cX12_runs 106 = .ok (.aload_n 0, 1) := by decide +kernel
theorem dX12_runs_107 : decode cX12_runs 107 = .ok (.getfield 166, 3) := by decide +kernel
theorem dX12_runs_110 : decode cX12_runs 110 = .ok (.iload_n 3, 1) := by decide +kernel
theorem dX12_runs_111 : decode cX12_runs 111 = .ok (.iload_n 1, 1) := by decide +kernel
theorem dX12_runs_112 : decode cX12_runs 112 = .ok (.aload_n 0, 1) := by decide +kernel
theorem dX12_runs_113 : decode cX12_runs 113 = .ok (.iload_n 3, 1) := by decide +kernel
theorem dX12_runs_114 : decode cX12_runs 114 = .ok (.invokevirtual 491, 3) := by decide +kernel
theorem dX12_runs_117 : decode cX12_runs 117 = .ok (.iadd, 1) := by decide +kernel
theorem dX12_runs_118 : decode cX12_runs 118 = .ok (.iastore, 1) := by decide +kernel
theorem dX12_runs_119 : decode cX12_runs 119 = .ok (.aload_n 0, 1) := by decide +kernel
theorem dX12_runs_120 : decode cX12_runs 120 = .ok (.getfield 181, 3) := by decide +kernel
theorem dX12_runs_123 : decode cX12_runs 123 = .ok (.iload_n 2, 1) := by decide +kernel
theorem dX12_runs_124 : decode cX12_runs 124 = .ok (.aload_n 0, 1) := by decide +kernel
theorem dX12_runs_125 : decode cX12_runs 125 = .ok (.getfield 166, 3) := by decide +kernel
theorem dX12_runs_128 : decode cX12_runs 128 = .ok (.iload_n 3, 1) := by decide +kernel
theorem dX12_runs_129 : decode cX12_runs 129 = .ok (.iaload, 1) := by decide +kernel
theorem dX12_runs_130 : decode cX12_runs 130 = .ok (.iastore, 1) := by decide +kernel
theorem dX12_runs_131 : decode cX12_runs 131 = .ok (.iinc 2 1, 3) := by decide +kernel
theorem dX12_runs_134 : decode cX12_runs 134 = .ok (.goto (-71), 3) := by decide +kernel
theorem dX12_runs_137 : decode cX12_runs 137 = .ok (.iinc 1 1, 3) := by decide +kernel
theorem dX12_runs_140 : decode cX12_runs 140 = .ok (.goto (-89), 3) := by decide +kernel
theorem dX12_runs_143 : decode cX12_runs 143 = .ok (.iconst 0, 1) := by decide +kernel
theorem dX12_runs_144 : decode cX12_runs 144 = .ok (.istore_n 1, 1) := by decide +kernel
theorem dX12_runs_145 : decode cX12_runs 145 = .ok (.iload_n 1, 1) := by decide +kernel
theorem dX12_runs_146 : decode cX12_runs 146 = .ok (.aload_n 0, 1) := by decide +kernel
theorem dX12_runs_147 : decode cX12_runs 147 = .ok (.getfield 13, 3) := by decide +kernel
theorem dX12_runs_150 : decode cX12_runs 150 = .ok (.iconst 2, 1) := by decide +kernel
theorem dX12_runs_151 : decode cX12_runs 151 = .ok (.iaload, 1) := by decide +kernel
theorem dX12_runs_152 : decode cX12_runs 152 = .ok (.if_icmp .ge 14, 3) := by decide +kernel
theorem dX12_runs_155 : decode cX12_runs 155 = .ok (.aload_n 0, 1) := by decide +kernel
theorem dX12_runs_156 : decode cX12_runs 156 = .ok (.iload_n 1, 1) := by decide +kernel
theorem dX12_runs_157 : decode cX12_runs 157 = .ok (.invokevirtual 494, 3) := by decide +kernel
theorem dX12_runs_160 : decode cX12_runs 160 = .ok (.iinc 1 1, 3) := by decide +kernel
theorem dX12_runs_163 : decode cX12_runs 163 = .ok (.goto (-18), 3) := by decide +kernel
theorem dX12_runs_166 : decode cX12_runs 166 = .ok (.return_, 1) := by decide +kernel
theorem dX12_heatAt_0 : decode cX12_heatAt 0 = .ok (.aload_n 0, 1) := by decide +kernel
theorem dX12_heatAt_1 : decode cX12_heatAt 1 = .ok (.getfield 178, 3) := by decide +kernel
theorem dX12_heatAt_4 : decode cX12_heatAt 4 = .ok (.iload_n 1, 1) := by decide +kernel
theorem dX12_heatAt_5 : decode cX12_heatAt 5 = .ok (.baload, 1) := by decide +kernel
theorem dX12_heatAt_6 : decode cX12_heatAt 6 = .ok (.ifCond .eq 23, 3) := by decide +kernel
theorem dX12_heatAt_9 : decode cX12_heatAt 9 = .ok (.iload_n 2, 1) := by decide +kernel
theorem dX12_heatAt_10 : decode cX12_heatAt 10 = .ok (.aload_n 0, 1) := by decide +kernel
theorem dX12_heatAt_11 : decode cX12_heatAt 11 = .ok (.getfield 160, 3) := by decide +kernel
theorem dX12_heatAt_14 : decode cX12_heatAt 14 = .ok (.if_icmp .ne 15, 3) := by decide +kernel
theorem dX12_heatAt_17 : decode cX12_heatAt 17 = .ok (.bipush 60, 2) := by decide +kernel
theorem dX12_heatAt_19 : decode cX12_heatAt 19 = .ok (.aload_n 0, 1) := by decide +kernel
theorem dX12_heatAt_20 : decode cX12_heatAt 20 = .ok (.getfield 497, 3) := by decide +kernel
theorem dX12_heatAt_23 : decode cX12_heatAt 23 = .ok (.imul, 1) := by decide +kernel
theorem dX12_heatAt_24 : decode cX12_heatAt 24 = .ok (.iload_n 3, 1) := by decide +kernel
theorem dX12_heatAt_25 : decode cX12_heatAt 25 = .ok (.iadd, 1) := by decide +kernel
theorem dX12_heatAt_26 : decode cX12_heatAt 26 = .ok (.goto 11, 3) := by decide +kernel
theorem dX12_heatAt_29 : decode cX12_heatAt 29 = .ok (.iload_n 3, 1) := by decide +kernel
theorem dX12_heatAt_30 : decode cX12_heatAt 30 = .ok (.aload_n 0, 1) := by decide +kernel
theorem dX12_heatAt_31 : decode cX12_heatAt 31 = .ok (.getfield 166, 3) := by decide +kernel
theorem dX12_heatAt_34 : decode cX12_heatAt 34 = .ok (.iload_n 1, 1) := by decide +kernel
theorem dX12_heatAt_35 : decode cX12_heatAt 35 = .ok (.iaload, 1) := by decide +kernel
theorem dX12_heatAt_36 : decode cX12_heatAt 36 = .ok (.isub, 1) := by decide +kernel
theorem dX12_heatAt_37 : decode cX12_heatAt 37 = .ok (.istore 4, 2) := by decide +kernel
theorem dX12_heatAt_39 : decode cX12_heatAt 39 = .ok (.iconst 0, 1) := by decide +kernel
theorem dX12_heatAt_40 : decode cX12_heatAt 40 = .ok (.aload_n 0, 1) := by decide +kernel
theorem dX12_heatAt_41 : decode cX12_heatAt 41 = .ok (.getfield 141, 3) := by decide +kernel
theorem dX12_heatAt_44 : decode cX12_heatAt 44 = .ok (.iconst 4, 1) := by decide +kernel
theorem dX12_heatAt_45 : decode cX12_heatAt 45 = .ok (.iload_n 2, 1) := by decide +kernel
theorem dX12_heatAt_46 : decode cX12_heatAt 46 = .ok (.iadd, 1) := by decide +kernel
theorem dX12_heatAt_47 : decode cX12_heatAt 47 = .ok (.iaload, 1) := by decide +kernel
theorem dX12_heatAt_48 : decode cX12_heatAt 48 = .ok (.aload_n 0, 1) := by decide +kernel
theorem dX12_heatAt_49 : decode cX12_heatAt 49 = .ok (.getfield 41, 3) := by decide +kernel
theorem dX12_heatAt_52 : decode cX12_heatAt 52 = .ok (.iload_n 2, 1) := by decide +kernel
theorem dX12_heatAt_53 : decode cX12_heatAt 53 = .ok (.iaload, 1) := by decide +kernel
theorem dX12_heatAt_54 : decode cX12_heatAt 54 = .ok (.iload 4, 2) := by decide +kernel
theorem dX12_heatAt_56 : decode cX12_heatAt 56 = .ok (.imul, 1) := by decide +kernel
theorem dX12_heatAt_57 : decode cX12_heatAt 57 = .ok (.bipush 60, 2) := by decide +kernel
theorem dX12_heatAt_59 : decode cX12_heatAt 59 = .ok (.idiv, 1) := by decide +kernel
theorem dX12_heatAt_60 : decode cX12_heatAt 60 = .ok (.isub, 1) := by decide +kernel
theorem dX12_heatAt_61 : decode cX12_heatAt 61 = .ok (.invokestatic 455, 3) := by decide +kernel
theorem dX12_heatAt_64 : decode cX12_heatAt 64 = .ok (.ireturn, 1) := by decide +kernel
theorem dX12_drinks_0 : decode cX12_drinks 0 = .ok (.aload_n 0, 1) := by decide +kernel
theorem dX12_drinks_1 : decode cX12_drinks 1 = .ok (.getfield 169, 3) := by decide +kernel
theorem dX12_drinks_4 : decode cX12_drinks 4 = .ok (.iload_n 1, 1) := by decide +kernel
theorem dX12_drinks_5 : decode cX12_drinks 5 = .ok (.iconst 0, 1) := by decide +kernel
theorem dX12_drinks_6 : decode cX12_drinks 6 = .ok (.iastore, 1) := by decide +kernel
theorem dX12_drinks_7 : decode cX12_drinks 7 = .ok (.aload_n 0, 1) := by decide +kernel
theorem dX12_drinks_8 : decode cX12_drinks 8 = .ok (.getfield 172, 3) := by decide +kernel
theorem dX12_drinks_11 : decode cX12_drinks 11 = .ok (.iload_n 1, 1) := by decide +kernel
theorem dX12_drinks_12 : decode cX12_drinks 12 = .ok (.iconst 0, 1) := by decide +kernel
theorem dX12_drinks_13 : decode cX12_drinks 13 = .ok (.iastore, 1) := by decide +kernel
theorem dX12_drinks_14 : decode cX12_drinks 14 = .ok (.aload_n 0, 1) := by decide +kernel
theorem dX12_drinks_15 : decode cX12_drinks 15 = .ok (.getfield 175, 3) := by decide +kernel
theorem dX12_drinks_18 : decode cX12_drinks 18 = .ok (.iload_n 1, 1) := by decide +kernel
theorem dX12_drinks_19 : decode cX12_drinks 19 = .ok (.iconst 0, 1) := by decide +kernel
theorem dX12_drinks_20 : decode cX12_drinks 20 = .ok (.iastore, 1) := by decide +kernel
theorem dX12_drinks_21 : decode cX12_drinks 21 = .ok (.aload_n 0, 1) := by decide +kernel
theorem dX12_drinks_22 : decode cX12_drinks 22 = .ok (.getfield 141, 3) := by decide +kernel
theorem dX12_drinks_25 : decode cX12_drinks 25 = .ok (.iconst 0, 1) := by decide +kernel
theorem dX12_drinks_26 : decode cX12_drinks 26 = .ok (.iaload, 1) := by decide +kernel
theorem dX12_drinks_27 : decode cX12_drinks 27 = .ok (.iload_n 1, 1) := by decide +kernel
theorem dX12_drinks_28 : decode cX12_drinks 28 = .ok (.ishr, 1) := by decide +kernel
theorem dX12_drinks_29 : decode cX12_drinks 29 = .ok (.iconst 1, 1) := by decide +kernel
theorem dX12_drinks_30 : decode cX12_drinks 30 = .ok (.iand, 1) := by decide +kernel
theorem dX12_drinks_31 : decode cX12_drinks 31 = .ok (.ifCond .ne 4, 3) := by decide +kernel
theorem dX12_drinks_34 : decode cX12_drinks 34 = .ok (.return_, 1) := by decide +kernel
theorem dX12_drinks_35 : decode cX12_drinks 35 = .ok (.aload_n 0, 1) := by decide +kernel
theorem dX12_drinks_36 : decode cX12_drinks 36 = .ok (.getfield 166, 3) := by decide +kernel
theorem dX12_drinks_39 : decode cX12_drinks 39 = .ok (.iload_n 1, 1) := by decide +kernel
theorem dX12_drinks_40 : decode cX12_drinks 40 = .ok (.iaload, 1) := by decide +kernel
theorem dX12_drinks_41 : decode cX12_drinks 41 = .ok (.aload_n 0, 1) := by decide +kernel
theorem dX12_drinks_42 : decode cX12_drinks 42 = .ok (.iload_n 1, 1) := by decide +kernel
theorem dX12_drinks_43 : decode cX12_drinks 43 = .ok (.invokevirtual 482, 3) := by decide +kernel
theorem dX12_drinks_46 : decode cX12_drinks 46 = .ok (.if_icmp .le 12, 3) := by decide +kernel
theorem dX12_drinks_49 : decode cX12_drinks 49 = .ok (.aload_n 0, 1) := by decide +kernel
theorem dX12_drinks_50 : decode cX12_drinks 50 = .ok (.getfield 166, 3) := by decide +kernel
theorem dX12_drinks_53 : decode cX12_drinks 53 = .ok (.iload_n 1, 1) := by decide +kernel
theorem dX12_drinks_54 : decode cX12_drinks 54 = .ok (.iaload, 1) := by decide +kernel
theorem dX12_drinks_55 : decode cX12_drinks 55 = .ok (.goto 8, 3) := by decide +kernel
theorem dX12_drinks_58 : decode cX12_drinks 58 = .ok (.aload_n 0, 1) := by decide +kernel
theorem dX12_drinks_59 : decode cX12_drinks 59 = .ok (.iload_n 1, 1) := by decide +kernel
theorem dX12_drinks_60 : decode cX12_drinks 60 = .ok (.invokevirtual 482, 3) := by decide +kernel
theorem dX12_drinks_63 : decode cX12_drinks 63 = .ok (.istore_n 2, 1) := by decide +kernel
theorem dX12_drinks_64 : decode cX12_drinks 64 = .ok (.aload_n 0, 1) := by decide +kernel
theorem dX12_drinks_65 : decode cX12_drinks 65 = .ok (.getfield 175, 3) := by decide +kernel
theorem dX12_drinks_68 : decode cX12_drinks 68 = .ok (.iload_n 1, 1) := by decide +kernel
theorem dX12_drinks_69 : decode cX12_drinks 69 = .ok (.iload_n 2, 1) := by decide +kernel
theorem dX12_drinks_70 : decode cX12_drinks 70 = .ok (.aload_n 0, 1) := by decide +kernel
theorem dX12_drinks_71 : decode cX12_drinks 71 = .ok (.iload_n 1, 1) := by decide +kernel
theorem dX12_drinks_72 : decode cX12_drinks 72 = .ok (.invokevirtual 447, 3) := by decide +kernel
theorem dX12_drinks_75 : decode cX12_drinks 75 = .ok (.iadd, 1) := by decide +kernel
theorem dX12_drinks_76 : decode cX12_drinks 76 = .ok (.aload_n 0, 1) := by decide +kernel
theorem dX12_drinks_77 : decode cX12_drinks 77 = .ok (.getfield 13, 3) := by decide +kernel
theorem dX12_drinks_80 : decode cX12_drinks 80 = .ok (.iconst 3, 1) := by decide +kernel
theorem dX12_drinks_81 : decode cX12_drinks 81 = .ok (.iaload, 1) := by decide +kernel
theorem dX12_drinks_82 : decode cX12_drinks 82 = .ok (.if_icmp .le 7, 3) := by decide +kernel
theorem dX12_drinks_85 : decode cX12_drinks 85 = .ok (.iconst 1, 1) := by decide +kernel
theorem dX12_drinks_86 : decode cX12_drinks 86 = .ok (.goto 4, 3) := by decide +kernel
theorem dX12_drinks_89 : decode cX12_drinks 89 = .ok (.iconst 0, 1) := by decide +kernel
theorem dX12_drinks_90 : decode cX12_drinks 90 = .ok (.iastore, 1) := by decide +kernel
theorem dX12_drinks_91 : decode cX12_drinks 91 = .ok (.aload_n 0, 1) := by decide +kernel
theorem dX12_drinks_92 : decode cX12_drinks 92 = .ok (.getfield 166, 3) := by decide +kernel
theorem dX12_drinks_95 : decode cX12_drinks 95 = .ok (.iload_n 1, 1) := by decide +kernel
theorem dX12_drinks_96 : decode cX12_drinks 96 = .ok (.iaload, 1) := by decide +kernel
theorem dX12_drinks_97 : decode cX12_drinks 97 = .ok (.ifCond .ge 4, 3) := by decide +kernel
theorem dX12_drinks_100 : decode cX12_drinks 100 = .ok (.return_, 1) := by decide +kernel
theorem dX12_drinks_101 : decode cX12_drinks 101 = .ok (.aload_n 0, 1) := by decide +kernel
theorem dX12_drinks_102 : decode cX12_drinks 102 = .ok (.getfield 166, 3) := by decide +kernel
theorem dX12_drinks_105 : decode cX12_drinks 105 = .ok (.iload_n 1, 1) := by decide +kernel
theorem dX12_drinks_106 : decode cX12_drinks 106 = .ok (.iaload, 1) := by decide +kernel
theorem dX12_drinks_107 : decode cX12_drinks 107 = .ok (.istore_n 3, 1) := by decide +kernel
theorem dX12_drinks_108 : decode cX12_drinks 108 = .ok (.iload_n 3, 1) := by decide +kernel
theorem dX12_drinks_109 : decode cX12_drinks 109 = .ok (.aload_n 0, 1) := by decide +kernel
theorem dX12_drinks_110 : decode cX12_drinks 110 = .ok (.iload_n 1, 1) := by decide +kernel
theorem dX12_drinks_111 : decode cX12_drinks 111 = .ok (.invokevirtual 482, 3) := by decide +kernel
theorem dX12_drinks_114 : decode cX12_drinks 114 = .ok (.if_icmp .gt 7, 3) := by decide +kernel
theorem dX12_drinks_117 : decode cX12_drinks 117 = .ok (.iconst 1, 1) := by decide +kernel
theorem dX12_drinks_118 : decode cX12_drinks 118 = .ok (.goto 4, 3) := by decide +kernel
theorem dX12_drinks_121 : decode cX12_drinks 121 = .ok (.iconst 0, 1) := by decide +kernel
theorem dX12_drinks_122 : decode cX12_drinks 122 = .ok (.istore 4, 2) := by decide +kernel
theorem dX12_drinks_124 : decode cX12_drinks 124 = .ok (.iconst 0, 1) := by decide +kernel
theorem dX12_drinks_125 : decode cX12_drinks 125 = .ok (.istore 5, 2) := by decide +kernel
theorem dX12_drinks_127 : decode cX12_drinks 127 = .ok (.iload 5, 2) := by decide +kernel
theorem dX12_drinks_129 : decode cX12_drinks 129 = .ok (.aload_n 0, 1) := by decide +kernel
theorem dX12_drinks_130 : decode cX12_drinks 130 = .ok (.getfield 59, 3) := by decide +kernel
theorem dX12_drinks_133 : decode cX12_drinks 133 = .ok (.iload_n 1, 1) := by decide +kernel
theorem dX12_drinks_134 : decode cX12_drinks 134 = .ok (.iaload, 1) := by decide +kernel
theorem dX12_drinks_135 : decode cX12_drinks 135 = .ok (.if_icmp .ge 204, 3) := by decide +kernel
theorem dX12_drinks_138 : decode cX12_drinks 138 = .ok (.aload_n 0, 1) := by decide +kernel
theorem dX12_drinks_139 : decode cX12_drinks 139 = .ok (.getfield 56, 3) := by decide +kernel
theorem dX12_drinks_142 : decode cX12_drinks 142 = .ok (.iconst 3, 1) := by decide +kernel
theorem dX12_drinks_143 : decode cX12_drinks 143 = .ok (.iload_n 1, 1) := by decide +kernel
theorem dX12_drinks_144 : decode cX12_drinks 144 = .ok (.imul, 1) := by decide +kernel
theorem dX12_drinks_145 : decode cX12_drinks 145 = .ok (.iload 5, 2) := by decide +kernel
theorem dX12_drinks_147 : decode cX12_drinks 147 = .ok (.iadd, 1) := by decide +kernel
theorem dX12_drinks_148 : decode cX12_drinks 148 = .ok (.iaload, 1) := by decide +kernel
theorem dX12_drinks_149 : decode cX12_drinks 149 = .ok (.istore 6, 2) := by decide +kernel
theorem dX12_drinks_151 : decode cX12_drinks 151 = .ok (.iload 4, 2) := by decide +kernel
theorem dX12_drinks_153 : decode cX12_drinks 153 = .ok (.ifCond .eq 54, 3) := by decide +kernel
theorem dX12_drinks_156 : decode cX12_drinks 156 = .ok (.aload_n 0, 1) := by decide +kernel
theorem dX12_drinks_157 : decode cX12_drinks 157 = .ok (.getfield 29, 3) := by decide +kernel
theorem dX12_drinks_160 : decode cX12_drinks 160 = .ok (.iload 6, 2) := by decide +kernel
theorem dX12_drinks_162 : decode cX12_drinks 162 = .ok (.iaload, 1) := by decide +kernel
theorem dX12_drinks_163 : decode cX12_drinks 163 = .ok (.iconst 2, 1) := by decide +kernel
theorem dX12_drinks_164 : decode cX12_drinks 164 = .ok (.if_icmp .eq 43, 3) := by decide +kernel
theorem dX12_drinks_167 : decode cX12_drinks 167 = .ok (.aload_n 0, 1) := by decide +kernel
theorem dX12_drinks_168 : decode cX12_drinks 168 = .ok (.iload_n 1, 1) := by decide +kernel
theorem dX12_drinks_169 : decode cX12_drinks 169 = .ok (.iload 6, 2) := by decide +kernel
theorem dX12_drinks_171 : decode cX12_drinks 171 = .ok (.iload_n 3, 1) := by decide +kernel
theorem dX12_drinks_172 : decode cX12_drinks 172 = .ok (.invokevirtual 500, 3) := by decide +kernel
theorem dX12_drinks_175 : decode cX12_drinks 175 = .ok (.aload_n 0, 1) := by decide +kernel
theorem dX12_drinks_176 : decode cX12_drinks 176 = .ok (.getfield 13, 3) := by decide +kernel
theorem dX12_drinks_179 : decode cX12_drinks 179 = .ok (.bipush 7, 2) := by decide +kernel
theorem dX12_drinks_181 : decode cX12_drinks 181 = .ok (.iaload, 1) := by decide +kernel
theorem dX12_drinks_182 : decode cX12_drinks 182 = .ok (.if_icmp .le 25, 3) := by decide +kernel
theorem dX12_drinks_185 : decode cX12_drinks 185 = .ok (.iinc 3 1, 3) := by decide +kernel
theorem dX12_drinks_188 : decode cX12_drinks 188 = .ok (.iload_n 3, 1) := by decide +kernel
theorem dX12_drinks_189 : decode cX12_drinks 189 = .ok (.aload_n 0, 1) := by decide +kernel
theorem dX12_drinks_190 : decode cX12_drinks 190 = .ok (.iload_n 1, 1) := by decide +kernel
theorem dX12_drinks_191 : decode cX12_drinks 191 = .ok (.invokevirtual 482, 3) := by decide +kernel
theorem dX12_drinks_194 : decode cX12_drinks 194 = .ok (.if_icmp .gt 7, 3) := by decide +kernel
theorem dX12_drinks_197 : decode cX12_drinks 197 = .ok (.iconst 1, 1) := by decide +kernel
theorem dX12_drinks_198 : decode cX12_drinks 198 = .ok (.goto 4, 3) := by decide +kernel
theorem dX12_drinks_201 : decode cX12_drinks 201 = .ok (.iconst 0, 1) := by decide +kernel
theorem dX12_drinks_202 : decode cX12_drinks 202 = .ok (.istore 4, 2) := by decide +kernel
theorem dX12_drinks_204 : decode cX12_drinks 204 = .ok (.goto (-53), 3) := by decide +kernel
theorem dX12_drinks_207 : decode cX12_drinks 207 = .ok (.iload 4, 2) := by decide +kernel
theorem dX12_drinks_209 : decode cX12_drinks 209 = .ok (.ifCond .eq 38, 3) := by decide +kernel
theorem dX12_drinks_212 : decode cX12_drinks 212 = .ok (.aload_n 0, 1) := by decide +kernel
theorem dX12_drinks_213 : decode cX12_drinks 213 = .ok (.getfield 178, 3) := by decide +kernel
theorem dX12_drinks_216 : decode cX12_drinks 216 = .ok (.iload_n 1, 1) := by decide +kernel
theorem dX12_drinks_217 : decode cX12_drinks 217 = .ok (.baload, 1) := by decide +kernel
theorem dX12_drinks_218 : decode cX12_drinks 218 = .ok (.ifCond .eq 29, 3) := by decide +kernel
theorem dX12_drinks_221 : decode cX12_drinks 221 = .ok (.iload 6, 2) := by decide +kernel
theorem dX12_drinks_223 : decode cX12_drinks 223 = .ok (.aload_n 0, 1) := by decide +kernel
theorem dX12_drinks_224 : decode cX12_drinks 224 = .ok (.getfield 160, 3) := by decide +kernel
theorem dX12_drinks_227 : decode cX12_drinks 227 = .ok (.if_icmp .ne 20, 3) := by decide +kernel
theorem dX12_drinks_230 : decode cX12_drinks 230 = .ok (.aload_n 0, 1) := by decide +kernel
theorem dX12_drinks_231 : decode cX12_drinks 231 = .ok (.iload_n 1, 1) := by decide +kernel
theorem dX12_drinks_232 : decode cX12_drinks 232 = .ok (.iload 6, 2) := by decide +kernel
theorem dX12_drinks_234 : decode cX12_drinks 234 = .ok (.iload_n 3, 1) := by decide +kernel
theorem dX12_drinks_235 : decode cX12_drinks 235 = .ok (.invokevirtual 500, 3) := by decide +kernel
theorem dX12_drinks_238 : decode cX12_drinks 238 = .ok (.bipush 20, 2) := by decide +kernel
theorem dX12_drinks_240 : decode cX12_drinks 240 = .ok (.if_icmp .ge 7, 3) := by decide +kernel
theorem dX12_drinks_243 : decode cX12_drinks 243 = .ok (.iconst 1, 1) := by decide +kernel
theorem dX12_drinks_244 : decode cX12_drinks 244 = .ok (.goto 4, 3) := by decide +kernel
theorem dX12_drinks_247 : decode cX12_drinks 247 = .ok (.iconst 0, 1) := by decide +kernel
theorem dX12_drinks_248 : decode cX12_drinks 248 = .ok (.istore 7, 2) := by decide +kernel
theorem dX12_drinks_250 : decode cX12_drinks 250 = .ok (.iload 4, 2) := by decide +kernel
theorem dX12_drinks_252 : decode cX12_drinks 252 = .ok (.ifCond .eq 29, 3) := by decide +kernel
theorem dX12_drinks_255 : decode cX12_drinks 255 = .ok (.iload 7, 2) := by decide +kernel
theorem dX12_drinks_257 : decode cX12_drinks 257 = .ok (.ifCond .ne 20, 3) := by decide +kernel
theorem dX12_drinks_260 : decode cX12_drinks 260 = .ok (.iload_n 3, 1) := by decide +kernel
theorem dX12_drinks_261 : decode cX12_drinks 261 = .ok (.aload_n 0, 1) := by decide +kernel
theorem dX12_drinks_262 : decode cX12_drinks 262 = .ok (.getfield 13, 3) := by decide +kernel
theorem dX12_drinks_265 : decode cX12_drinks 265 = .ok (.bipush 8, 2) := by decide +kernel
theorem dX12_drinks_267 : decode cX12_drinks 267 = .ok (.iaload, 1) := by decide +kernel
theorem dX12_drinks_268 : decode cX12_drinks 268 = .ok (.iadd, 1) := by decide +kernel
theorem dX12_drinks_269 : decode cX12_drinks 269 = .ok (.aload_n 0, 1) := by decide +kernel
theorem dX12_drinks_270 : decode cX12_drinks 270 = .ok (.iload_n 1, 1) := by decide +kernel
theorem dX12_drinks_271 : decode cX12_drinks 271 = .ok (.invokevirtual 482, 3) := by decide +kernel
theorem dX12_drinks_274 : decode cX12_drinks 274 = .ok (.if_icmp .gt 7, 3) := by decide +kernel
theorem dX12_drinks_277 : decode cX12_drinks 277 = .ok (.iconst 1, 1) := by decide +kernel
theorem dX12_drinks_278 : decode cX12_drinks 278 = .ok (.goto 4, 3) := by decide +kernel
theorem dX12_drinks_281 : decode cX12_drinks 281 = .ok (.iconst 0, 1) := by decide +kernel
theorem dX12_drinks_282 : decode cX12_drinks 282 = .ok (.istore 4, 2) := by decide +kernel
theorem dX12_drinks_284 : decode cX12_drinks 284 = .ok (.iload 4, 2) := by decide +kernel
theorem dX12_drinks_286 : decode cX12_drinks 286 = .ok (.ifCond .eq 34, 3) := by decide +kernel
theorem dX12_drinks_289 : decode cX12_drinks 289 = .ok (.iload 7, 2) := by decide +kernel
theorem dX12_drinks_291 : decode cX12_drinks 291 = .ok (.ifCond .ne 29, 3) := by decide +kernel
theorem dX12_drinks_294 : decode cX12_drinks 294 = .ok (.aload_n 0, 1) := by decide +kernel
theorem dX12_drinks_295 : decode cX12_drinks 295 = .ok (.getfield 169, 3) := by decide +kernel
theorem dX12_drinks_298 : decode cX12_drinks 298 = .ok (.iload_n 1, 1) := by decide +kernel
theorem dX12_drinks_299 : decode cX12_drinks 299 = .ok (.dup2, 1) := by decide +kernel
theorem dX12_drinks_300 : decode cX12_drinks 300 = .ok (.iaload, 1) := by decide +kernel
theorem dX12_drinks_301 : decode cX12_drinks 301 = .ok (.iconst 1, 1) := by decide +kernel
theorem dX12_drinks_302 : decode cX12_drinks 302 = .ok (.iload 6, 2) := by decide +kernel
theorem dX12_drinks_304 : decode cX12_drinks 304 = .ok (.ishl, 1) := by decide +kernel
theorem dX12_drinks_305 : decode cX12_drinks 305 = .ok (.ior, 1) := by decide +kernel
theorem dX12_drinks_306 : decode cX12_drinks 306 = .ok (.iastore, 1) := by decide +kernel
theorem dX12_drinks_307 : decode cX12_drinks 307 = .ok (.iload_n 3, 1) := by decide +kernel
theorem dX12_drinks_308 : decode cX12_drinks 308 = .ok (.aload_n 0, 1) := by decide +kernel
theorem dX12_drinks_309 : decode cX12_drinks 309 = .ok (.getfield 13, 3) := by decide +kernel
theorem dX12_drinks_312 : decode cX12_drinks 312 = .ok (.bipush 8, 2) := by decide +kernel
theorem dX12_drinks_314 : decode cX12_drinks 314 = .ok (.iaload, 1) := by decide +kernel
theorem dX12_drinks_315 : decode cX12_drinks 315 = .ok (.iadd, 1) := by decide +kernel
theorem dX12_drinks_316 : decode cX12_drinks 316 = .ok (.istore_n 3, 1) := by decide +kernel
theorem dX12_drinks_317 : decode cX12_drinks 317 = .ok (.goto 16, 3) := by decide +kernel
theorem dX12_drinks_320 : decode cX12_drinks 320 = .ok (.aload_n 0, 1) := by decide +kernel
theorem dX12_drinks_321 : decode cX12_drinks 321 = .ok (.getfield 172, 3) := by decide +kernel
theorem dX12_drinks_324 : decode cX12_drinks 324 = .ok (.iload_n 1, 1) := by decide +kernel
theorem dX12_drinks_325 : decode cX12_drinks 325 = .ok (.dup2, 1) := by decide +kernel
theorem dX12_drinks_326 : decode cX12_drinks 326 = .ok (.iaload, 1) := by decide +kernel
theorem dX12_drinks_327 : decode cX12_drinks 327 = .ok (.iconst 1, 1) := by decide +kernel
theorem dX12_drinks_328 : decode cX12_drinks 328 = .ok (.iload 6, 2) := by decide +kernel
theorem dX12_drinks_330 : decode cX12_drinks 330 = .ok (.ishl, 1) := by decide +kernel
theorem dX12_drinks_331 : decode cX12_drinks 331 = .ok (.ior, 1) := by decide +kernel
theorem dX12_drinks_332 : decode cX12_drinks 332 = .ok (.iastore, 1) := by decide +kernel
theorem dX12_drinks_333 : decode cX12_drinks 333 = .ok (.iinc 5 1, 3) := by decide +kernel
theorem dX12_drinks_336 : decode cX12_drinks 336 = .ok (.goto (-209), 3) := by decide +kernel
theorem dX12_drinks_339 : decode cX12_drinks 339 = .ok (.return_, 1) := by decide +kernel
theorem dX12_drunkInAll_0 : decode cX12_drunkInAll 0 = .ok (.iconst 0, 1) := by decide +kernel
theorem dX12_drunkInAll_1 : decode cX12_drunkInAll 1 = .ok (.istore_n 1, 1) := by decide +kernel
theorem dX12_drunkInAll_2 : decode cX12_drunkInAll 2 = .ok (.iconst 0, 1) := by decide +kernel
theorem dX12_drunkInAll_3 : decode cX12_drunkInAll 3 = .ok (.istore_n 2, 1) := by decide +kernel
theorem dX12_drunkInAll_4 : decode cX12_drunkInAll 4 = .ok (.iload_n 2, 1) := by decide +kernel
theorem dX12_drunkInAll_5 : decode cX12_drunkInAll 5 = .ok (.aload_n 0, 1) := by decide +kernel
theorem dX12_drunkInAll_6 : decode cX12_drunkInAll 6 = .ok (.getfield 13, 3) := by decide +kernel
theorem dX12_drunkInAll_9 : decode cX12_drunkInAll 9 = .ok (.iconst 2, 1) := by decide +kernel
theorem dX12_drunkInAll_10 : decode cX12_drunkInAll 10 = .ok (.iaload, 1) := by decide +kernel
theorem dX12_drunkInAll_11 : decode cX12_drunkInAll 11 = .ok (.if_icmp .ge 21, 3) := by decide +kernel
theorem dX12_drunkInAll_14 : decode cX12_drunkInAll 14 = .ok (.iload_n 1, 1) := by decide +kernel
theorem dX12_drunkInAll_15 : decode cX12_drunkInAll 15 = .ok (.aload_n 0, 1) := by decide +kernel
theorem dX12_drunkInAll_16 : decode cX12_drunkInAll 16 = .ok (.getfield 169, 3) := by decide +kernel
theorem dX12_drunkInAll_19 : decode cX12_drunkInAll 19 = .ok (.iload_n 2, 1) := by decide +kernel
theorem dX12_drunkInAll_20 : decode cX12_drunkInAll 20 = .ok (.iaload, 1) := by decide +kernel
theorem dX12_drunkInAll_21 : decode cX12_drunkInAll 21 = .ok (.invokestatic 504, 3) := by decide +kernel
theorem dX12_drunkInAll_24 : decode cX12_drunkInAll 24 = .ok (.iadd, 1) := by decide +kernel
theorem dX12_drunkInAll_25 : decode cX12_drunkInAll 25 = .ok (.istore_n 1, 1) := by decide +kernel
theorem dX12_drunkInAll_26 : decode cX12_drunkInAll 26 = .ok (.iinc 2 1, 3) := by decide +kernel
theorem dX12_drunkInAll_29 : decode cX12_drunkInAll 29 = .ok (.goto (-25), 3) := by decide +kernel
theorem dX12_drunkInAll_32 : decode cX12_drunkInAll 32 = .ok (.iload_n 1, 1) := by decide +kernel
theorem dX12_drunkInAll_33 : decode cX12_drunkInAll 33 = .ok (.ireturn, 1) := by decide +kernel
theorem dX12_leftInAll_0 : decode cX12_leftInAll 0 = .ok (.iconst 0, 1) := by decide +kernel
theorem dX12_leftInAll_1 : decode cX12_leftInAll 1 = .ok (.istore_n 1, 1) := by decide +kernel
theorem dX12_leftInAll_2 : decode cX12_leftInAll 2 = .ok (.iconst 0, 1) := by decide +kernel
theorem dX12_leftInAll_3 : decode cX12_leftInAll 3 = .ok (.istore_n 2, 1) := by decide +kernel
theorem dX12_leftInAll_4 : decode cX12_leftInAll 4 = .ok (.iload_n 2, 1) := by decide +kernel
theorem dX12_leftInAll_5 : decode cX12_leftInAll 5 = .ok (.aload_n 0, 1) := by decide +kernel
theorem dX12_leftInAll_6 : decode cX12_leftInAll 6 = .ok (.getfield 13, 3) := by decide +kernel
theorem dX12_leftInAll_9 : decode cX12_leftInAll 9 = .ok (.iconst 2, 1) := by decide +kernel
theorem dX12_leftInAll_10 : decode cX12_leftInAll 10 = .ok (.iaload, 1) := by decide +kernel
theorem dX12_leftInAll_11 : decode cX12_leftInAll 11 = .ok (.if_icmp .ge 21, 3) := by decide +kernel
theorem dX12_leftInAll_14 : decode cX12_leftInAll 14 = .ok (.iload_n 1, 1) := by decide +kernel
theorem dX12_leftInAll_15 : decode cX12_leftInAll 15 = .ok (.aload_n 0, 1) := by decide +kernel
theorem dX12_leftInAll_16 : decode cX12_leftInAll 16 = .ok (.getfield 172, 3) := by decide +kernel
theorem dX12_leftInAll_19 : decode cX12_leftInAll 19 = .ok (.iload_n 2, 1) := by decide +kernel
theorem dX12_leftInAll_20 : decode cX12_leftInAll 20 = .ok (.iaload, 1) := by decide +kernel
theorem dX12_leftInAll_21 : decode cX12_leftInAll 21 = .ok (.invokestatic 504, 3) := by decide +kernel
theorem dX12_leftInAll_24 : decode cX12_leftInAll 24 = .ok (.iadd, 1) := by decide +kernel
theorem dX12_leftInAll_25 : decode cX12_leftInAll 25 = .ok (.istore_n 1, 1) := by decide +kernel
theorem dX12_leftInAll_26 : decode cX12_leftInAll 26 = .ok (.iinc 2 1, 3) := by decide +kernel
theorem dX12_leftInAll_29 : decode cX12_leftInAll 29 = .ok (.goto (-25), 3) := by decide +kernel
theorem dX12_leftInAll_32 : decode cX12_leftInAll 32 = .ok (.iload_n 1, 1) := by decide +kernel
theorem dX12_leftInAll_33 : decode cX12_leftInAll 33 = .ok (.ireturn, 1) := by decide +kernel
theorem dX12_behindInAll_0 : decode cX12_behindInAll 0 = .ok (.iconst 0, 1) := by decide +kernel
theorem dX12_behindInAll_1 : decode cX12_behindInAll 1 = .ok (.istore_n 1, 1) := by decide +kernel
theorem dX12_behindInAll_2 : decode cX12_behindInAll 2 = .ok (.iconst 0, 1) := by decide +kernel
theorem dX12_behindInAll_3 : decode cX12_behindInAll 3 = .ok (.istore_n 2, 1) := by decide +kernel
theorem dX12_behindInAll_4 : decode cX12_behindInAll 4 = .ok (.iload_n 2, 1) := by decide +kernel
theorem dX12_behindInAll_5 : decode cX12_behindInAll 5 = .ok (.aload_n 0, 1) := by decide +kernel
theorem dX12_behindInAll_6 : decode cX12_behindInAll 6 = .ok (.getfield 13, 3) := by decide +kernel
theorem dX12_behindInAll_9 : decode cX12_behindInAll 9 = .ok (.iconst 2, 1) := by decide +kernel
theorem dX12_behindInAll_10 : decode cX12_behindInAll 10 = .ok (.iaload, 1) := by decide +kernel
theorem dX12_behindInAll_11 : decode cX12_behindInAll 11 = .ok (.if_icmp .ge 18, 3) := by decide +kernel
theorem dX12_behindInAll_14 : decode cX12_behindInAll 14 = .ok (.iload_n 1, 1) := by decide +kernel
theorem dX12_behindInAll_15 : decode cX12_behindInAll 15 = .ok (.aload_n 0, 1) := by decide +kernel
theorem dX12_behindInAll_16 : decode cX12_behindInAll 16 = .ok (.getfield 175, 3) := by decide +kernel
theorem dX12_behindInAll_19 : decode cX12_behindInAll 19 = .ok (.iload_n 2, 1) := by decide +kernel
theorem dX12_behindInAll_20 : decode cX12_behindInAll 20 = .ok (.iaload, 1) := by decide +kernel
theorem dX12_behindInAll_21 : decode cX12_behindInAll 21 = .ok (.iadd, 1) := by decide +kernel
theorem dX12_behindInAll_22 : decode cX12_behindInAll 22 = .ok (.istore_n 1, 1) := by decide +kernel
theorem dX12_behindInAll_23 : decode cX12_behindInAll 23 = .ok (.iinc 2 1, 3) := by decide +kernel
theorem dX12_behindInAll_26 : decode cX12_behindInAll 26 = .ok (.goto (-22), 3) := by decide +kernel
theorem dX12_behindInAll_29 : decode cX12_behindInAll 29 = .ok (.iload_n 1, 1) := by decide +kernel
theorem dX12_behindInAll_30 : decode cX12_behindInAll 30 = .ok (.ireturn, 1) := by decide +kernel
theorem dX12_pence_0 : decode cX12_pence 0 = .ok (.iconst 0, 1) := by decide +kernel
theorem dX12_pence_1 : decode cX12_pence 1 = .ok (.istore_n 1, 1) := by decide +kernel
theorem dX12_pence_2 : decode cX12_pence 2 = .ok (.iconst 0, 1) := by decide +kernel
theorem dX12_pence_3 : decode cX12_pence 3 = .ok (.istore_n 2, 1) := by decide +kernel
theorem dX12_pence_4 : decode cX12_pence 4 = .ok (.iload_n 2, 1) := by decide +kernel
theorem dX12_pence_5 : decode cX12_pence 5 = .ok (.aload_n 0, 1) := by decide +kernel
theorem dX12_pence_6 : decode cX12_pence 6 = .ok (.getfield 13, 3) := by decide +kernel
theorem dX12_pence_9 : decode cX12_pence 9 = .ok (.iconst 2, 1) := by decide +kernel
theorem dX12_pence_10 : decode cX12_pence 10 = .ok (.iaload, 1) := by decide +kernel
theorem dX12_pence_11 : decode cX12_pence 11 = .ok (.if_icmp .ge 54, 3) := by decide +kernel
theorem dX12_pence_14 : decode cX12_pence 14 = .ok (.iconst 0, 1) := by decide +kernel
theorem dX12_pence_15 : decode cX12_pence 15 = .ok (.istore_n 3, 1) := by decide +kernel
theorem dX12_pence_16 : decode cX12_pence 16 = .ok (.iload_n 3, 1) := by decide +kernel
theorem dX12_pence_17 : decode cX12_pence 17 = .ok (.aload_n 0, 1) := by decide +kernel
theorem dX12_pence_18 : decode cX12_pence 18 = .ok (.getfield 59, 3) := by decide +kernel
theorem dX12_pence_21 : decode cX12_pence 21 = .ok (.iload_n 2, 1) := by decide +kernel
theorem dX12_pence_22 : decode cX12_pence 22 = .ok (.iaload, 1) := by decide +kernel
theorem dX12_pence_23 : decode cX12_pence 23 = .ok (.if_icmp .ge 36, 3) := by decide +kernel
theorem dX12_pence_26 : decode cX12_pence 26 = .ok (.aload_n 0, 1) := by decide +kernel
theorem dX12_pence_27 : decode cX12_pence 27 = .ok (.getfield 166, 3) := by decide +kernel
theorem dX12_pence_30 : decode cX12_pence 30 = .ok (.iload_n 2, 1) := by decide +kernel
theorem dX12_pence_31 : decode cX12_pence 31 = .ok (.iaload, 1) := by decide +kernel
theorem dX12_pence_32 : decode cX12_pence 32 = .ok (.ifCond .lt 27, 3) := by decide +kernel
theorem dX12_pence_35 : decode cX12_pence 35 = .ok (.iload_n 1, 1) := by decide +kernel
theorem dX12_pence_36 : decode cX12_pence 36 = .ok (.aload_n 0, 1) := by decide +kernel
theorem dX12_pence_37 : decode cX12_pence 37 = .ok (.getfield 35, 3) := by decide +kernel
theorem dX12_pence_40 : decode cX12_pence 40 = .ok (.aload_n 0, 1) := by decide +kernel
theorem dX12_pence_41 : decode cX12_pence 41 = .ok (.getfield 56, 3) := by decide +kernel
theorem dX12_pence_44 : decode cX12_pence 44 = .ok (.iconst 3, 1) := by decide +kernel
theorem dX12_pence_45 : decode cX12_pence 45 = .ok (.iload_n 2, 1) := by decide +kernel
theorem dX12_pence_46 : decode cX12_pence 46 = .ok (.imul, 1) := by decide +kernel
theorem dX12_pence_47 : decode cX12_pence 47 = .ok (.iload_n 3, 1) := by decide +kernel
theorem dX12_pence_48 : decode cX12_pence 48 = .ok (.iadd, 1) := by decide +kernel
theorem dX12_pence_49 : decode cX12_pence 49 = .ok (.iaload, 1) := by decide +kernel
theorem dX12_pence_50 : decode cX12_pence 50 = .ok (.iaload, 1) := by decide +kernel
theorem dX12_pence_51 : decode cX12_pence 51 = .ok (.iadd, 1) := by decide +kernel
theorem dX12_pence_52 : decode cX12_pence 52 = .ok (.istore_n 1, 1) := by decide +kernel
theorem dX12_pence_53 : decode cX12_pence 53 = .ok (.iinc 3 1, 3) := by decide +kernel
theorem dX12_pence_56 : decode cX12_pence 56 = .ok (.goto (-40), 3) := by decide +kernel
theorem dX12_pence_59 : decode cX12_pence 59 = .ok (.iinc 2 1, 3) := by decide +kernel
theorem dX12_pence_62 : decode cX12_pence 62 = .ok (.goto (-58), 3) := by decide +kernel
theorem dX12_pence_65 : decode cX12_pence 65 = .ok (.iload_n 1, 1) := by decide +kernel
theorem dX12_pence_66 : decode cX12_pence 66 = .ok (.ireturn, 1) := by decide +kernel
theorem dX12_servedBy_0 : decode cX12_servedBy 0 = .ok (.iconst 0, 1) := by decide +kernel
theorem dX12_servedBy_1 : decode cX12_servedBy 1 = .ok (.istore_n 2, 1) := by decide +kernel
theorem dX12_servedBy_2 : decode cX12_servedBy 2 = .ok (.iconst 0, 1) := by decide +kernel
theorem dX12_servedBy_3 : decode cX12_servedBy 3 = .ok (.istore_n 3, 1) := by decide +kernel
theorem dX12_servedBy_4 : decode cX12_servedBy 4 = .ok (.iload_n 3, 1) := by decide +kernel
theorem dX12_servedBy_5 : decode cX12_servedBy 5 = .ok (.aload_n 0, 1) := by decide +kernel
theorem dX12_servedBy_6 : decode cX12_servedBy 6 = .ok (.getfield 13, 3) := by decide +kernel
theorem dX12_servedBy_9 : decode cX12_servedBy 9 = .ok (.iconst 2, 1) := by decide +kernel
theorem dX12_servedBy_10 : decode cX12_servedBy 10 = .ok (.iaload, 1) := by decide +kernel
theorem dX12_servedBy_11 : decode cX12_servedBy 11 = .ok (.if_icmp .ge 36, 3) := by decide +kernel
theorem dX12_servedBy_14 : decode cX12_servedBy 14 = .ok (.iload_n 2, 1) := by decide +kernel
theorem dX12_servedBy_15 : decode cX12_servedBy 15 = .ok (.aload_n 0, 1) := by decide +kernel
theorem dX12_servedBy_16 : decode cX12_servedBy 16 = .ok (.getfield 166, 3) := by decide +kernel
theorem dX12_servedBy_19 : decode cX12_servedBy 19 = .ok (.iload_n 3, 1) := by decide +kernel
theorem dX12_servedBy_20 : decode cX12_servedBy 20 = .ok (.iaload, 1) := by decide +kernel
theorem dX12_servedBy_21 : decode cX12_servedBy 21 = .ok (.ifCond .lt 17, 3) := by decide +kernel
theorem dX12_servedBy_24 : decode cX12_servedBy 24 = .ok (.aload_n 0, 1) := by decide +kernel
theorem dX12_servedBy_25 : decode cX12_servedBy 25 = .ok (.getfield 166, 3) := by decide +kernel
theorem dX12_servedBy_28 : decode cX12_servedBy 28 = .ok (.iload_n 3, 1) := by decide +kernel
theorem dX12_servedBy_29 : decode cX12_servedBy 29 = .ok (.iaload, 1) := by decide +kernel
theorem dX12_servedBy_30 : decode cX12_servedBy 30 = .ok (.iload_n 1, 1) := by decide +kernel
theorem dX12_servedBy_31 : decode cX12_servedBy 31 = .ok (.if_icmp .gt 7, 3) := by decide +kernel
theorem dX12_servedBy_34 : decode cX12_servedBy 34 = .ok (.iconst 1, 1) := by decide +kernel
theorem dX12_servedBy_35 : decode cX12_servedBy 35 = .ok (.goto 4, 3) := by decide +kernel
theorem dX12_servedBy_38 : decode cX12_servedBy 38 = .ok (.iconst 0, 1) := by decide +kernel
theorem dX12_servedBy_39 : decode cX12_servedBy 39 = .ok (.iadd, 1) := by decide +kernel
theorem dX12_servedBy_40 : decode cX12_servedBy 40 = .ok (.istore_n 2, 1) := by decide +kernel
theorem dX12_servedBy_41 : decode cX12_servedBy 41 = .ok (.iinc 3 1, 3) := by decide +kernel
theorem dX12_servedBy_44 : decode cX12_servedBy 44 = .ok (.goto (-40), 3) := by decide +kernel
theorem dX12_servedBy_47 : decode cX12_servedBy 47 = .ok (.iload_n 2, 1) := by decide +kernel
theorem dX12_servedBy_48 : decode cX12_servedBy 48 = .ok (.ireturn, 1) := by decide +kernel
theorem dX12_thing_0 : decode cX12_thing 0 = .ok (.aload_n 0, 1) := by decide +kernel
theorem dX12_thing_1 : decode cX12_thing 1 = .ok (.iconst 0, 1) := by decide +kernel
theorem dX12_thing_2 : decode cX12_thing 2 = .ok (.putfield 194, 3) := by decide +kernel
theorem dX12_thing_5 : decode cX12_thing 5 = .ok (.aload_n 0, 1) := by decide +kernel
theorem dX12_thing_6 : decode cX12_thing 6 = .ok (.iload_n 1, 1) := by decide +kernel
theorem dX12_thing_7 : decode cX12_thing 7 = .ok (.invokevirtual 507, 3) := by decide +kernel
theorem dX12_thing_10 : decode cX12_thing 10 = .ok (.ifCond .eq 12, 3) := by decide +kernel
theorem dX12_thing_13 : decode cX12_thing 13 = .ok (.iload_n 2, 1) := by decide +kernel
theorem dX12_thing_14 : decode cX12_thing 14 = .ok (.iconst 0, 1) := by decide +kernel
theorem dX12_thing_15 : decode cX12_thing 15 = .ok (.iconst 4, 1) := by decide +kernel
theorem dX12_thing_16 : decode cX12_thing 16 = .ok (.invokestatic 343, 3) := by decide +kernel
theorem dX12_thing_19 : decode cX12_thing 19 = .ok (.ifCond .ne 5, 3) := by decide +kernel
theorem dX12_thing_22 : decode cX12_thing 22 = .ok (.iconst (-1), 1) := by decide +kernel
theorem dX12_thing_23 : decode cX12_thing 23 = .ok (.ireturn, 1) := by decide +kernel
theorem dX12_thing_24 : decode cX12_thing 24 = .ok (.iload_n 2, 1) := by decide +kernel
theorem dX12_thing_25 : decode cX12_thing 25 = .ok (.iconst 3, 1) := by decide +kernel
theorem dX12_thing_26 : decode cX12_thing 26 = .ok (.if_icmp .ge 37, 3) := by decide +kernel
theorem dX12_thing_29 : decode cX12_thing 29 = .ok (.iload_n 2, 1) := by decide +kernel
theorem dX12_thing_30 : decode cX12_thing 30 = .ok (.ifCond .ne 12, 3) := by decide +kernel
theorem dX12_thing_33 : decode cX12_thing 33 = .ok (.aload_n 0, 1) := by decide +kernel
theorem dX12_thing_34 : decode cX12_thing 34 = .ok (.getfield 29, 3) := by decide +kernel
theorem dX12_thing_37 : decode cX12_thing 37 = .ok (.iload_n 1, 1) := by decide +kernel
theorem dX12_thing_38 : decode cX12_thing 38 = .ok (.iaload, 1) := by decide +kernel
theorem dX12_thing_39 : decode cX12_thing 39 = .ok (.goto 23, 3) := by decide +kernel
theorem dX12_thing_42 : decode cX12_thing 42 = .ok (.iload_n 2, 1) := by decide +kernel
theorem dX12_thing_43 : decode cX12_thing 43 = .ok (.iconst 1, 1) := by decide +kernel
theorem dX12_thing_44 : decode cX12_thing 44 = .ok (.if_icmp .ne 12, 3) := by decide +kernel
theorem dX12_thing_47 : decode cX12_thing 47 = .ok (.aload_n 0, 1) := by decide +kernel
theorem dX12_thing_48 : decode cX12_thing 48 = .ok (.getfield 32, 3) := by decide +kernel
theorem dX12_thing_51 : decode cX12_thing 51 = .ok (.iload_n 1, 1) := by decide +kernel
theorem dX12_thing_52 : decode cX12_thing 52 = .ok (.iaload, 1) := by decide +kernel
theorem dX12_thing_53 : decode cX12_thing 53 = .ok (.goto 9, 3) := by decide +kernel
theorem dX12_thing_56 : decode cX12_thing 56 = .ok (.aload_n 0, 1) := by decide +kernel
theorem dX12_thing_57 : decode cX12_thing 57 = .ok (.getfield 35, 3) := by decide +kernel
theorem dX12_thing_60 : decode cX12_thing 60 = .ok (.iload_n 1, 1) := by decide +kernel
theorem dX12_thing_61 : decode cX12_thing 61 = .ok (.iaload, 1) := by decide +kernel
theorem dX12_thing_62 : decode cX12_thing 62 = .ok (.ireturn, 1) := by decide +kernel
theorem dX12_thing_63 : decode cX12_thing 63 = .ok (.iload_n 2, 1) := by decide +kernel
theorem dX12_thing_64 : decode cX12_thing 64 = .ok (.iconst 3, 1) := by decide +kernel
theorem dX12_thing_65 : decode cX12_thing 65 = .ok (.if_icmp .ne 14, 3) := by decide +kernel
theorem dX12_thing_68 : decode cX12_thing 68 = .ok (.aload_n 0, 1) := by decide +kernel
theorem dX12_thing_69 : decode cX12_thing 69 = .ok (.getfield 141, 3) := by decide +kernel
theorem dX12_thing_72 : decode cX12_thing 72 = .ok (.iconst 4, 1) := by decide +kernel
theorem dX12_thing_73 : decode cX12_thing 73 = .ok (.iload_n 1, 1) := by decide +kernel
theorem dX12_thing_74 : decode cX12_thing 74 = .ok (.iadd, 1) := by decide +kernel
theorem dX12_thing_75 : decode cX12_thing 75 = .ok (.iaload, 1) := by decide +kernel
theorem dX12_thing_76 : decode cX12_thing 76 = .ok (.goto 9, 3) := by decide +kernel
theorem dX12_thing_79 : decode cX12_thing 79 = .ok (.aload_n 0, 1) := by decide +kernel
theorem dX12_thing_80 : decode cX12_thing 80 = .ok (.getfield 41, 3) := by decide +kernel
theorem dX12_thing_83 : decode cX12_thing 83 = .ok (.iload_n 1, 1) := by decide +kernel
theorem dX12_thing_84 : decode cX12_thing 84 = .ok (.iaload, 1) := by decide +kernel
theorem dX12_thing_85 : decode cX12_thing 85 = .ok (.ireturn, 1) := by decide +kernel
theorem dX12_buyer_0 : decode cX12_buyer 0 = .ok (.aload_n 0, 1) := by decide +kernel
theorem dX12_buyer_1 : decode cX12_buyer 1 = .ok (.iconst 0, 1) := by decide +kernel
theorem dX12_buyer_2 : decode cX12_buyer 2 = .ok (.putfield 194, 3) := by decide +kernel
theorem dX12_buyer_5 : decode cX12_buyer 5 = .ok (.aload_n 0, 1) := by decide +kernel
theorem dX12_buyer_6 : decode cX12_buyer 6 = .ok (.iload_n 1, 1) := by decide +kernel
theorem dX12_buyer_7 : decode cX12_buyer 7 = .ok (.invokevirtual 510, 3) := by decide +kernel
theorem dX12_buyer_10 : decode cX12_buyer 10 = .ok (.ifCond .eq 13, 3) := by decide +kernel
theorem dX12_buyer_13 : decode cX12_buyer 13 = .ok (.iload_n 2, 1) := by decide +kernel
theorem dX12_buyer_14 : decode cX12_buyer 14 = .ok (.iconst 0, 1) := by decide +kernel
theorem dX12_buyer_15 : decode cX12_buyer 15 = .ok (.bipush 7, 2) := by decide +kernel
theorem dX12_buyer_17 : decode cX12_buyer 17 = .ok (.invokestatic 343, 3) := by decide +kernel
theorem dX12_buyer_20 : decode cX12_buyer 20 = .ok (.ifCond .ne 5, 3) := by decide +kernel
theorem dX12_buyer_23 : decode cX12_buyer 23 = .ok (.iconst (-1), 1) := by decide +kernel
theorem dX12_buyer_24 : decode cX12_buyer 24 = .ok (.ireturn, 1) := by decide +kernel
theorem dX12_buyer_25 : decode cX12_buyer 25 = .ok (.iload_n 2, 1) := by decide +kernel
theorem dX12_buyer_26 : decode cX12_buyer 26 = .ok (.iconst 4, 1) := by decide +kernel
theorem dX12_buyer_27 : decode cX12_buyer 27 = .ok (.if_icmp .ge 51, 3) := by decide +kernel
theorem dX12_buyer_30 : decode cX12_buyer 30 = .ok (.iload_n 2, 1) := by decide +kernel
theorem dX12_buyer_31 : decode cX12_buyer 31 = .ok (.ifCond .ne 12, 3) := by decide +kernel
theorem dX12_buyer_34 : decode cX12_buyer 34 = .ok (.aload_n 0, 1) := by decide +kernel
theorem dX12_buyer_35 : decode cX12_buyer 35 = .ok (.getfield 44, 3) := by decide +kernel
theorem dX12_buyer_38 : decode cX12_buyer 38 = .ok (.iload_n 1, 1) := by decide +kernel
theorem dX12_buyer_39 : decode cX12_buyer 39 = .ok (.iaload, 1) := by decide +kernel
theorem dX12_buyer_40 : decode cX12_buyer 40 = .ok (.goto 37, 3) := by decide +kernel
theorem dX12_buyer_43 : decode cX12_buyer 43 = .ok (.iload_n 2, 1) := by decide +kernel
theorem dX12_buyer_44 : decode cX12_buyer 44 = .ok (.iconst 1, 1) := by decide +kernel
theorem dX12_buyer_45 : decode cX12_buyer 45 = .ok (.if_icmp .ne 12, 3) := by decide +kernel
theorem dX12_buyer_48 : decode cX12_buyer 48 = .ok (.aload_n 0, 1) := by decide +kernel
theorem dX12_buyer_49 : decode cX12_buyer 49 = .ok (.getfield 47, 3) := by decide +kernel
theorem dX12_buyer_52 : decode cX12_buyer 52 = .ok (.iload_n 1, 1) := by decide +kernel
theorem dX12_buyer_53 : decode cX12_buyer 53 = .ok (.iaload, 1) := by decide +kernel
theorem dX12_buyer_54 : decode cX12_buyer 54 = .ok (.goto 23, 3) := by decide +kernel
theorem dX12_buyer_57 : decode cX12_buyer 57 = .ok (.iload_n 2, 1) := by decide +kernel
theorem dX12_buyer_58 : decode cX12_buyer 58 = .ok (.iconst 2, 1) := by decide +kernel
theorem dX12_buyer_59 : decode cX12_buyer 59 = .ok (.if_icmp .ne 12, 3) := by decide +kernel
theorem dX12_buyer_62 : decode cX12_buyer 62 = .ok (.aload_n 0, 1) := by decide +kernel
theorem dX12_buyer_63 : decode cX12_buyer 63 = .ok (.getfield 50, 3) := by decide +kernel
theorem dX12_buyer_66 : decode cX12_buyer 66 = .ok (.iload_n 1, 1) := by decide +kernel
theorem dX12_buyer_67 : decode cX12_buyer 67 = .ok (.iaload, 1) := by decide +kernel
theorem dX12_buyer_68 : decode cX12_buyer 68 = .ok (.goto 9, 3) := by decide +kernel
theorem dX12_buyer_71 : decode cX12_buyer 71 = .ok (.aload_n 0, 1) := by decide +kernel
theorem dX12_buyer_72 : decode cX12_buyer 72 = .ok (.getfield 53, 3) := by decide +kernel
theorem dX12_buyer_75 : decode cX12_buyer 75 = .ok (.iload_n 1, 1) := by decide +kernel
theorem dX12_buyer_76 : decode cX12_buyer 76 = .ok (.iaload, 1) := by decide +kernel
theorem dX12_buyer_77 : decode cX12_buyer 77 = .ok (.ireturn, 1) := by decide +kernel
theorem dX12_buyer_78 : decode cX12_buyer 78 = .ok (.iload_n 2, 1) := by decide +kernel
theorem dX12_buyer_79 : decode cX12_buyer 79 = .ok (.iconst 4, 1) := by decide +kernel
theorem dX12_buyer_80 : decode cX12_buyer 80 = .ok (.if_icmp .le 41, 3) := by decide +kernel
theorem dX12_buyer_83 : decode cX12_buyer 83 = .ok (.iload_n 2, 1) := by decide +kernel
theorem dX12_buyer_84 : decode cX12_buyer 84 = .ok (.iconst 5, 1) := by decide +kernel
theorem dX12_buyer_85 : decode cX12_buyer 85 = .ok (.if_icmp .ne 16, 3) := by decide +kernel
theorem dX12_buyer_88 : decode cX12_buyer 88 = .ok (.aload_n 0, 1) := by decide +kernel
theorem dX12_buyer_89 : decode cX12_buyer 89 = .ok (.getfield 141, 3) := by decide +kernel
theorem dX12_buyer_92 : decode cX12_buyer 92 = .ok (.iconst 0, 1) := by decide +kernel
theorem dX12_buyer_93 : decode cX12_buyer 93 = .ok (.iaload, 1) := by decide +kernel
theorem dX12_buyer_94 : decode cX12_buyer 94 = .ok (.iload_n 1, 1) := by decide +kernel
theorem dX12_buyer_95 : decode cX12_buyer 95 = .ok (.ishr, 1) := by decide +kernel
theorem dX12_buyer_96 : decode cX12_buyer 96 = .ok (.iconst 1, 1) := by decide +kernel
theorem dX12_buyer_97 : decode cX12_buyer 97 = .ok (.iand, 1) := by decide +kernel
theorem dX12_buyer_98 : decode cX12_buyer 98 = .ok (.goto 22, 3) := by decide +kernel
theorem dX12_buyer_101 : decode cX12_buyer 101 = .ok (.iload_n 2, 1) := by decide +kernel
theorem dX12_buyer_102 : decode cX12_buyer 102 = .ok (.bipush 6, 2) := by decide +kernel
theorem dX12_buyer_104 : decode cX12_buyer 104 = .ok (.if_icmp .ne 11, 3) := by decide +kernel
theorem dX12_buyer_107 : decode cX12_buyer 107 = .ok (.aload_n 0, 1) := by decide +kernel
theorem dX12_buyer_108 : decode cX12_buyer 108 = .ok (.iload_n 1, 1) := by decide +kernel
theorem dX12_buyer_109 : decode cX12_buyer 109 = .ok (.invokevirtual 447, 3) := by decide +kernel
theorem dX12_buyer_112 : decode cX12_buyer 112 = .ok (.goto 8, 3) := by decide +kernel
theorem dX12_buyer_115 : decode cX12_buyer 115 = .ok (.aload_n 0, 1) := by decide +kernel
theorem dX12_buyer_116 : decode cX12_buyer 116 = .ok (.iload_n 1, 1) := by decide +kernel
theorem dX12_buyer_117 : decode cX12_buyer 117 = .ok (.invokevirtual 482, 3) := by decide +kernel
theorem dX12_buyer_120 : decode cX12_buyer 120 = .ok (.ireturn, 1) := by decide +kernel
theorem dX12_buyer_121 : decode cX12_buyer 121 = .ok (.iconst 0, 1) := by decide +kernel
theorem dX12_buyer_122 : decode cX12_buyer 122 = .ok (.istore_n 3, 1) := by decide +kernel
theorem dX12_buyer_123 : decode cX12_buyer 123 = .ok (.iconst 0, 1) := by decide +kernel
theorem dX12_buyer_124 : decode cX12_buyer 124 = .ok (.istore 4, 2) := by decide +kernel
theorem dX12_buyer_126 : decode cX12_buyer 126 = .ok (.iload 4, 2) := by decide +kernel
theorem dX12_buyer_128 : decode cX12_buyer 128 = .ok (.aload_n 0, 1) := by decide +kernel
theorem dX12_buyer_129 : decode cX12_buyer 129 = .ok (.getfield 59, 3) := by decide +kernel
theorem dX12_buyer_132 : decode cX12_buyer 132 = .ok (.iload_n 1, 1) := by decide +kernel
theorem dX12_buyer_133 : decode cX12_buyer 133 = .ok (.iaload, 1) := by decide +kernel
theorem dX12_buyer_134 : decode cX12_buyer 134 = .ok (.if_icmp .ge 25, 3) := by decide +kernel
theorem dX12_buyer_137 : decode cX12_buyer 137 = .ok (.iload_n 3, 1) := by decide +kernel
theorem dX12_buyer_138 : decode cX12_buyer 138 = .ok (.iconst 1, 1) := by decide +kernel
theorem dX12_buyer_139 : decode cX12_buyer 139 = .ok (.aload_n 0, 1) := by decide +kernel
theorem dX12_buyer_140 : decode cX12_buyer 140 = .ok (.getfield 56, 3) := by decide +kernel
theorem dX12_buyer_143 : decode cX12_buyer 143 = .ok (.iconst 3, 1) := by decide +kernel
theorem dX12_buyer_144 : decode cX12_buyer 144 = .ok (.iload_n 1, 1) := by decide +kernel
theorem dX12_buyer_145 : decode cX12_buyer 145 = .ok (.imul, 1) := by decide +kernel
theorem dX12_buyer_146 : decode cX12_buyer 146 = .ok (.iload 4, 2) := by decide +kernel
theorem dX12_buyer_148 : decode cX12_buyer 148 = .ok (.iadd, 1) := by decide +kernel
theorem dX12_buyer_149 : decode cX12_buyer 149 = .ok (.iaload, 1) := by decide +kernel
theorem dX12_buyer_150 : decode cX12_buyer 150 = .ok (.ishl, 1) := by decide +kernel
theorem dX12_buyer_151 : decode cX12_buyer 151 = .ok (.ior, 1) := by decide +kernel
theorem dX12_buyer_152 : decode cX12_buyer 152 = .ok (.istore_n 3, 1) := by decide +kernel
theorem dX12_buyer_153 : decode cX12_buyer 153 = .ok (.iinc 4 1, 3) := by decide +kernel
theorem dX12_buyer_156 : decode cX12_buyer 156 = .ok (.goto (-30), 3) := by decide +kernel
theorem dX12_buyer_159 : decode cX12_buyer 159 = .ok (.iload_n 3, 1) := by decide +kernel
theorem dX12_buyer_160 : decode cX12_buyer 160 = .ok (.ireturn, 1) := by decide +kernel
theorem dX12_keeps_0 : decode cX12_keeps 0 = .ok (.aload_n 0, 1) := by decide +kernel
theorem dX12_keeps_1 : decode cX12_keeps 1 = .ok (.getfield 433, 3) := by decide +kernel
theorem dX12_keeps_4 : decode cX12_keeps 4 = .ok (.bipush 16, 2) := by decide +kernel
theorem dX12_keeps_6 : decode cX12_keeps 6 = .ok (.if_icmp .ne 43, 3) := by decide +kernel
theorem dX12_keeps_9 : decode cX12_keeps 9 = .ok (.iconst 0, 1) := by decide +kernel
theorem dX12_keeps_10 : decode cX12_keeps 10 = .ok (.istore_n 1, 1) := by decide +kernel
theorem dX12_keeps_11 : decode cX12_keeps 11 = .ok (.iload_n 1, 1) := by decide +kernel
theorem dX12_keeps_12 : decode cX12_keeps 12 = .ok (.sipush 135, 3) := by decide +kernel
theorem dX12_keeps_15 : decode cX12_keeps 15 = .ok (.if_icmp .ge 24, 3) := by decide +kernel
theorem dX12_keeps_18 : decode cX12_keeps 18 = .ok (.aload_n 0, 1) := by decide +kernel
theorem dX12_keeps_19 : decode cX12_keeps 19 = .ok (.getfield 150, 3) := by decide +kernel
theorem dX12_keeps_22 : decode cX12_keeps 22 = .ok (.iload_n 1, 1) := by decide +kernel
theorem dX12_keeps_23 : decode cX12_keeps 23 = .ok (.aload_n 0, 1) := by decide +kernel
theorem dX12_keeps_24 : decode cX12_keeps 24 = .ok (.getfield 150, 3) := by decide +kernel
theorem dX12_keeps_27 : decode cX12_keeps 27 = .ok (.iload_n 1, 1) := by decide +kernel
theorem dX12_keeps_28 : decode cX12_keeps 28 = .ok (.bipush 9, 2) := by decide +kernel
theorem dX12_keeps_30 : decode cX12_keeps 30 = .ok (.iadd, 1) := by decide +kernel
theorem dX12_keeps_31 : decode cX12_keeps 31 = .ok (.iaload, 1) := by decide +kernel
theorem dX12_keeps_32 : decode cX12_keeps 32 = .ok (.iastore, 1) := by decide +kernel
theorem dX12_keeps_33 : decode cX12_keeps 33 = .ok (.iinc 1 1, 3) := by decide +kernel
theorem dX12_keeps_36 : decode cX12_keeps 36 = .ok (.goto (-25), 3) := by decide +kernel
theorem dX12_keeps_39 : decode cX12_keeps 39 = .ok (.aload_n 0, 1) := by decide +kernel
theorem dX12_keeps_40 : decode cX12_keeps 40 = .ok (.dup, 1) := by decide +kernel
theorem dX12_keeps_41 : decode cX12_keeps 41 = .ok (.getfield 433, 3) := by decide +kernel
theorem dX12_keeps_44 : decode cX12_keeps 44 = .ok (.iconst 1, 1) := by decide +kernel
theorem dX12_keeps_45 : decode cX12_keeps 45 = .ok (.isub, 1) := by decide +kernel
theorem dX12_keeps_46 : decode cX12_keeps 46 = .ok (.putfield 433, 3) := by decide +kernel
theorem dX12_keeps_49 : decode cX12_keeps 49 = .ok (.aload_n 0, 1) := by decide +kernel
theorem dX12_keeps_50 : decode cX12_keeps 50 = .ok (.getfield 141, 3) := by decide +kernel
theorem dX12_keeps_53 : decode cX12_keeps 53 = .ok (.iconst 0, 1) := by decide +kernel
theorem dX12_keeps_54 : decode cX12_keeps 54 = .ok (.aload_n 0, 1) := by decide +kernel
theorem dX12_keeps_55 : decode cX12_keeps 55 = .ok (.getfield 150, 3) := by decide +kernel
theorem dX12_keeps_58 : decode cX12_keeps 58 = .ok (.bipush 9, 2) := by decide +kernel
theorem dX12_keeps_60 : decode cX12_keeps 60 = .ok (.aload_n 0, 1) := by decide +kernel
theorem dX12_keeps_61 : decode cX12_keeps 61 = .ok (.getfield 433, 3) := by decide +kernel
theorem dX12_keeps_64 : decode cX12_keeps 64 = .ok (.imul, 1) := by decide +kernel
theorem dX12_keeps_65 : decode cX12_keeps 65 = .ok (.invokestatic 513, 3) := by decide +kernel
theorem dX12_keeps_68 : decode cX12_keeps 68 = .ok (.aload_n 0, 1) := by decide +kernel
theorem dX12_keeps_69 : decode cX12_keeps 69 = .ok (.dup, 1) := by decide +kernel
theorem dX12_keeps_70 : decode cX12_keeps 70 = .ok (.getfield 433, 3) := by decide +kernel
theorem dX12_keeps_73 : decode cX12_keeps 73 = .ok (.iconst 1, 1) := by decide +kernel
theorem dX12_keeps_74 : decode cX12_keeps 74 = .ok (.iadd, 1) := by decide +kernel
theorem dX12_keeps_75 : decode cX12_keeps 75 = .ok (.putfield 433, 3) := by decide +kernel
theorem dX12_keeps_78 : decode cX12_keeps 78 = .ok (.return_, 1) := by decide +kernel
theorem dX12_changes_0 : decode cX12_changes 0 = .ok (.aload_n 0, 1) := by decide +kernel
theorem dX12_changes_1 : decode cX12_changes 1 = .ok (.getfield 141, 3) := by decide +kernel
theorem dX12_changes_4 : decode cX12_changes 4 = .ok (.iload_n 1, 1) := by decide +kernel
theorem dX12_changes_5 : decode cX12_changes 5 = .ok (.iaload, 1) := by decide +kernel
theorem dX12_changes_6 : decode cX12_changes 6 = .ok (.iload_n 2, 1) := by decide +kernel
theorem dX12_changes_7 : decode cX12_changes 7 = .ok (.if_icmp .ne 5, 3) := by decide +kernel
theorem dX12_changes_10 : decode cX12_changes 10 = .ok (.iconst 0, 1) := by decide +kernel
theorem dX12_changes_11 : decode cX12_changes 11 = .ok (.ireturn, 1) := by decide +kernel
theorem dX12_changes_12 : decode cX12_changes 12 = .ok (.iload_n 3, 1) := by decide +kernel
theorem dX12_changes_13 : decode cX12_changes 13 = .ok (.ifCond .eq 7, 3) := by decide +kernel
theorem dX12_changes_16 : decode cX12_changes 16 = .ok (.aload_n 0, 1) := by decide +kernel
theorem dX12_changes_17 : decode cX12_changes 17 = .ok (.invokevirtual 517, 3) := by decide +kernel
theorem dX12_changes_20 : decode cX12_changes 20 = .ok (.aload_n 0, 1) := by decide +kernel
theorem dX12_changes_21 : decode cX12_changes 21 = .ok (.getfield 141, 3) := by decide +kernel
theorem dX12_changes_24 : decode cX12_changes 24 = .ok (.iload_n 1, 1) := by decide +kernel
theorem dX12_changes_25 : decode cX12_changes 25 = .ok (.iload_n 2, 1) := by decide +kernel
theorem dX12_changes_26 : decode cX12_changes 26 = .ok (.iastore, 1) := by decide +kernel
theorem dX12_changes_27 : decode cX12_changes 27 = .ok (.iconst 1, 1) := by decide +kernel
theorem dX12_changes_28 : decode cX12_changes 28 = .ok (.ireturn, 1) := by decide +kernel
theorem dX12_outThen_0 : decode cX12_outThen 0 = .ok (.iload_n 2, 1) := by decide +kernel
theorem dX12_outThen_1 : decode cX12_outThen 1 = .ok (.ifCond .eq 16, 3) := by decide +kernel
theorem dX12_outThen_4 : decode cX12_outThen 4 = .ok (.aload_n 0, 1) := by decide +kernel
theorem dX12_outThen_5 : decode cX12_outThen 5 = .ok (.getfield 141, 3) := by decide +kernel
theorem dX12_outThen_8 : decode cX12_outThen 8 = .ok (.iconst 0, 1) := by decide +kernel
theorem dX12_outThen_9 : decode cX12_outThen 9 = .ok (.iaload, 1) := by decide +kernel
theorem dX12_outThen_10 : decode cX12_outThen 10 = .ok (.iconst 1, 1) := by decide +kernel
theorem dX12_outThen_11 : decode cX12_outThen 11 = .ok (.iload_n 1, 1) := by decide +kernel
theorem dX12_outThen_12 : decode cX12_outThen 12 = .ok (.ishl, 1) := by decide +kernel
theorem dX12_outThen_13 : decode cX12_outThen 13 = .ok (.ior, 1) := by decide +kernel
theorem dX12_outThen_14 : decode cX12_outThen 14 = .ok (.goto 15, 3) := by decide +kernel
theorem dX12_outThen_17 : decode cX12_outThen 17 = .ok (.aload_n 0, 1) := by decide +kernel
theorem dX12_outThen_18 : decode cX12_outThen 18 = .ok (.getfield 141, 3) := by decide +kernel
theorem dX12_outThen_21 : decode cX12_outThen 21 = .ok (.iconst 0, 1) := by decide +kernel
theorem dX12_outThen_22 : decode cX12_outThen 22 = .ok (.iaload, 1) := by decide +kernel
theorem dX12_outThen_23 : decode cX12_outThen 23 = .ok (.iconst 1, 1) := by decide +kernel
theorem dX12_outThen_24 : decode cX12_outThen 24 = .ok (.iload_n 1, 1) := by decide +kernel
theorem dX12_outThen_25 : decode cX12_outThen 25 = .ok (.ishl, 1) := by decide +kernel
theorem dX12_outThen_26 : decode cX12_outThen 26 = .ok (.iconst (-1), 1) := by decide +kernel
theorem dX12_outThen_27 : decode cX12_outThen 27 = .ok (.ixor, 1) := by decide +kernel
theorem dX12_outThen_28 : decode cX12_outThen 28 = .ok (.iand, 1) := by decide +kernel
theorem dX12_outThen_29 : decode cX12_outThen 29 = .ok (.ireturn, 1) := by decide +kernel
theorem dX12_out_0 : decode cX12_out 0 = .ok (.aload_n 0, 1) := by decide +kernel
theorem dX12_out_1 : decode cX12_out 1 = .ok (.iconst 0, 1) := by decide +kernel
theorem dX12_out_2 : decode cX12_out 2 = .ok (.putfield 194, 3) := by decide +kernel
theorem dX12_out_5 : decode cX12_out 5 = .ok (.aload_n 0, 1) := by decide +kernel
theorem dX12_out_6 : decode cX12_out 6 = .ok (.iload_n 1, 1) := by decide +kernel
theorem dX12_out_7 : decode cX12_out 7 = .ok (.invokevirtual 510, 3) := by decide +kernel
theorem dX12_out_10 : decode cX12_out 10 = .ok (.ifCond .eq 22, 3) := by decide +kernel
theorem dX12_out_13 : decode cX12_out 13 = .ok (.aload_n 0, 1) := by decide +kernel
theorem dX12_out_14 : decode cX12_out 14 = .ok (.iconst 0, 1) := by decide +kernel
theorem dX12_out_15 : decode cX12_out 15 = .ok (.aload_n 0, 1) := by decide +kernel
theorem dX12_out_16 : decode cX12_out 16 = .ok (.iload_n 1, 1) := by decide +kernel
theorem dX12_out_17 : decode cX12_out 17 = .ok (.iload_n 2, 1) := by decide +kernel
theorem dX12_out_18 : decode cX12_out 18 = .ok (.invokevirtual 520, 3) := by decide +kernel
theorem dX12_out_21 : decode cX12_out 21 = .ok (.iconst 1, 1) := by decide +kernel
theorem dX12_out_22 : decode cX12_out 22 = .ok (.invokevirtual 524, 3) := by decide +kernel
theorem dX12_out_25 : decode cX12_out 25 = .ok (.ifCond .eq 7, 3) := by decide +kernel
theorem dX12_out_28 : decode cX12_out 28 = .ok (.iconst 1, 1) := by decide +kernel
theorem dX12_out_29 : decode cX12_out 29 = .ok (.goto 4, 3) := by decide +kernel
theorem dX12_out_32 : decode cX12_out 32 = .ok (.iconst 0, 1) := by decide +kernel
theorem dX12_out_33 : decode cX12_out 33 = .ok (.ireturn, 1) := by decide +kernel
theorem dX12_set_0 : decode cX12_set 0 = .ok (.aload_n 0, 1) := by decide +kernel
theorem dX12_set_1 : decode cX12_set 1 = .ok (.iconst 0, 1) := by decide +kernel
theorem dX12_set_2 : decode cX12_set 2 = .ok (.putfield 194, 3) := by decide +kernel
theorem dX12_set_5 : decode cX12_set 5 = .ok (.iload_n 1, 1) := by decide +kernel
theorem dX12_set_6 : decode cX12_set 6 = .ok (.ifCond .ne 17, 3) := by decide +kernel
theorem dX12_set_9 : decode cX12_set 9 = .ok (.iload_n 2, 1) := by decide +kernel
theorem dX12_set_10 : decode cX12_set 10 = .ok (.iconst 1, 1) := by decide +kernel
theorem dX12_set_11 : decode cX12_set 11 = .ok (.aload_n 0, 1) := by decide +kernel
theorem dX12_set_12 : decode cX12_set 12 = .ok (.getfield 13, 3) := by decide +kernel
theorem dX12_set_15 : decode cX12_set 15 = .ok (.iconst 3, 1) := by decide +kernel
theorem dX12_set_16 : decode cX12_set 16 = .ok (.iaload, 1) := by decide +kernel
theorem dX12_set_17 : decode cX12_set 17 = .ok (.invokestatic 343, 3) := by decide +kernel
theorem dX12_set_20 : decode cX12_set 20 = .ok (.goto 38, 3) := by decide +kernel
theorem dX12_set_23 : decode cX12_set 23 = .ok (.iload_n 1, 1) := by decide +kernel
theorem dX12_set_24 : decode cX12_set 24 = .ok (.iconst 1, 1) := by decide +kernel
theorem dX12_set_25 : decode cX12_set 25 = .ok (.if_icmp .ne 14, 3) := by decide +kernel
theorem dX12_set_28 : decode cX12_set 28 = .ok (.iload_n 2, 1) := by decide +kernel
theorem dX12_set_29 : decode cX12_set 29 = .ok (.iconst 0, 1) := by decide +kernel
theorem dX12_set_30 : decode cX12_set 30 = .ok (.sipush 200, 3) := by decide +kernel
theorem dX12_set_33 : decode cX12_set 33 = .ok (.invokestatic 343, 3) := by decide +kernel
theorem dX12_set_36 : decode cX12_set 36 = .ok (.goto 22, 3) := by decide +kernel
theorem dX12_set_39 : decode cX12_set 39 = .ok (.iload_n 1, 1) := by decide +kernel
theorem dX12_set_40 : decode cX12_set 40 = .ok (.iconst 2, 1) := by decide +kernel
theorem dX12_set_41 : decode cX12_set 41 = .ok (.if_icmp .ne 16, 3) := by decide +kernel
theorem dX12_set_44 : decode cX12_set 44 = .ok (.iload_n 2, 1) := by decide +kernel
theorem dX12_set_45 : decode cX12_set 45 = .ok (.iconst 1, 1) := by decide +kernel
theorem dX12_set_46 : decode cX12_set 46 = .ok (.iconst 2, 1) := by decide +kernel
theorem dX12_set_47 : decode cX12_set 47 = .ok (.invokestatic 343, 3) := by decide +kernel
theorem dX12_set_50 : decode cX12_set 50 = .ok (.ifCond .eq 7, 3) := by decide +kernel
theorem dX12_set_53 : decode cX12_set 53 = .ok (.iconst 1, 1) := by decide +kernel
theorem dX12_set_54 : decode cX12_set 54 = .ok (.goto 4, 3) := by decide +kernel
theorem dX12_set_57 : decode cX12_set 57 = .ok (.iconst 0, 1) := by decide +kernel
theorem dX12_set_58 : decode cX12_set 58 = .ok (.istore_n 3, 1) := by decide +kernel
theorem dX12_set_59 : decode cX12_set 59 = .ok (.iload_n 3, 1) := by decide +kernel
theorem dX12_set_60 : decode cX12_set 60 = .ok (.ifCond .eq 19, 3) := by decide +kernel
theorem dX12_set_63 : decode cX12_set 63 = .ok (.aload_n 0, 1) := by decide +kernel
theorem dX12_set_64 : decode cX12_set 64 = .ok (.iconst 1, 1) := by decide +kernel
theorem dX12_set_65 : decode cX12_set 65 = .ok (.iload_n 1, 1) := by decide +kernel
theorem dX12_set_66 : decode cX12_set 66 = .ok (.iadd, 1) := by decide +kernel
theorem dX12_set_67 : decode cX12_set 67 = .ok (.iload_n 2, 1) := by decide +kernel
theorem dX12_set_68 : decode cX12_set 68 = .ok (.iconst 1, 1) := by decide +kernel
theorem dX12_set_69 : decode cX12_set 69 = .ok (.invokevirtual 524, 3) := by decide +kernel
theorem dX12_set_72 : decode cX12_set 72 = .ok (.ifCond .eq 7, 3) := by decide +kernel
theorem dX12_set_75 : decode cX12_set 75 = .ok (.iconst 1, 1) := by decide +kernel
theorem dX12_set_76 : decode cX12_set 76 = .ok (.goto 4, 3) := by decide +kernel
theorem dX12_set_79 : decode cX12_set 79 = .ok (.iconst 0, 1) := by decide +kernel
theorem dX12_set_80 : decode cX12_set 80 = .ok (.ireturn, 1) := by decide +kernel
theorem dX12_heats_0 : decode cX12_heats 0 = .ok (.aload_n 0, 1) := by decide +kernel
theorem dX12_heats_1 : decode cX12_heats 1 = .ok (.iconst 0, 1) := by decide +kernel
theorem dX12_heats_2 : decode cX12_heats 2 = .ok (.putfield 194, 3) := by decide +kernel
theorem dX12_heats_5 : decode cX12_heats 5 = .ok (.aload_n 0, 1) := by decide +kernel
theorem dX12_heats_6 : decode cX12_heats 6 = .ok (.iload_n 1, 1) := by decide +kernel
theorem dX12_heats_7 : decode cX12_heats 7 = .ok (.invokevirtual 507, 3) := by decide +kernel
theorem dX12_heats_10 : decode cX12_heats 10 = .ok (.ifCond .eq 29, 3) := by decide +kernel
theorem dX12_heats_13 : decode cX12_heats 13 = .ok (.iload_n 2, 1) := by decide +kernel
theorem dX12_heats_14 : decode cX12_heats 14 = .ok (.iconst 0, 1) := by decide +kernel
theorem dX12_heats_15 : decode cX12_heats 15 = .ok (.bipush 99, 2) := by decide +kernel
theorem dX12_heats_17 : decode cX12_heats 17 = .ok (.invokestatic 343, 3) := by decide +kernel
theorem dX12_heats_20 : decode cX12_heats 20 = .ok (.ifCond .eq 19, 3) := by decide +kernel
theorem dX12_heats_23 : decode cX12_heats 23 = .ok (.aload_n 0, 1) := by decide +kernel
theorem dX12_heats_24 : decode cX12_heats 24 = .ok (.iconst 4, 1) := by decide +kernel
theorem dX12_heats_25 : decode cX12_heats 25 = .ok (.iload_n 1, 1) := by decide +kernel
theorem dX12_heats_26 : decode cX12_heats 26 = .ok (.iadd, 1) := by decide +kernel
theorem dX12_heats_27 : decode cX12_heats 27 = .ok (.iload_n 2, 1) := by decide +kernel
theorem dX12_heats_28 : decode cX12_heats 28 = .ok (.iconst 1, 1) := by decide +kernel
theorem dX12_heats_29 : decode cX12_heats 29 = .ok (.invokevirtual 524, 3) := by decide +kernel
theorem dX12_heats_32 : decode cX12_heats 32 = .ok (.ifCond .eq 7, 3) := by decide +kernel
theorem dX12_heats_35 : decode cX12_heats 35 = .ok (.iconst 1, 1) := by decide +kernel
theorem dX12_heats_36 : decode cX12_heats 36 = .ok (.goto 4, 3) := by decide +kernel
theorem dX12_heats_39 : decode cX12_heats 39 = .ok (.iconst 0, 1) := by decide +kernel
theorem dX12_heats_40 : decode cX12_heats 40 = .ok (.ireturn, 1) := by decide +kernel
theorem dX12_undo_0 : decode cX12_undo 0 = .ok (.aload_n 0, 1) := by decide +kernel
theorem dX12_undo_1 : decode cX12_undo 1 = .ok (.iconst 0, 1) := by decide +kernel
theorem dX12_undo_2 : decode cX12_undo 2 = .ok (.putfield 194, 3) := by decide +kernel
theorem dX12_undo_5 : decode cX12_undo 5 = .ok (.aload_n 0, 1) := by decide +kernel
theorem dX12_undo_6 : decode cX12_undo 6 = .ok (.getfield 433, 3) := by decide +kernel
theorem dX12_undo_9 : decode cX12_undo 9 = .ok (.ifCond .ne 5, 3) := by decide +kernel
theorem dX12_undo_12 : decode cX12_undo 12 = .ok (.iconst 0, 1) := by decide +kernel
theorem dX12_undo_13 : decode cX12_undo 13 = .ok (.ireturn, 1) := by decide +kernel
theorem dX12_undo_14 : decode cX12_undo 14 = .ok (.aload_n 0, 1) := by decide +kernel
theorem dX12_undo_15 : decode cX12_undo 15 = .ok (.dup, 1) := by decide +kernel
theorem dX12_undo_16 : decode cX12_undo 16 = .ok (.getfield 433, 3) := by decide +kernel
theorem dX12_undo_19 : decode cX12_undo 19 = .ok (.iconst 1, 1) := by decide +kernel
theorem dX12_undo_20 : decode cX12_undo 20 = .ok (.isub, 1) := by decide +kernel
theorem dX12_undo_21 : decode cX12_undo 21 = .ok (.putfield 433, 3) := by decide +kernel
theorem dX12_undo_24 : decode cX12_undo 24 = .ok (.aload_n 0, 1) := by decide +kernel
theorem dX12_undo_25 : decode cX12_undo 25 = .ok (.getfield 150, 3) := by decide +kernel
theorem dX12_undo_28 : decode cX12_undo 28 = .ok (.bipush 9, 2) := by decide +kernel
theorem dX12_undo_30 : decode cX12_undo 30 = .ok (.aload_n 0, 1) := by decide +kernel
theorem dX12_undo_31 : decode cX12_undo 31 = .ok (.getfield 433, 3) := by decide +kernel
theorem dX12_undo_34 : decode cX12_undo 34 = .ok (.imul, 1) := by decide +kernel
theorem dX12_undo_35 : decode cX12_undo 35 = .ok (.aload_n 0, 1) := by decide +kernel
theorem dX12_undo_36 : decode cX12_undo 36 = .ok (.getfield 141, 3) := by decide +kernel
theorem dX12_undo_39 : decode cX12_undo 39 = .ok (.iconst 0, 1) := by decide +kernel
theorem dX12_undo_40 : decode cX12_undo 40 = .ok (.invokestatic 513, 3) := by decide +kernel
theorem dX12_undo_43 : decode cX12_undo 43 = .ok (.iconst 1, 1) := by decide +kernel
theorem dX12_undo_44 : decode cX12_undo 44 = .ok (.ireturn, 1) := by decide +kernel
theorem dX12_goes_0 : decode cX12_goes 0 = .ok (.aload_n 0, 1) := by decide +kernel
theorem dX12_goes_1 : decode cX12_goes 1 = .ok (.getfield 114, 3) := by decide +kernel
theorem dX12_goes_4 : decode cX12_goes 4 = .ok (.iload_n 1, 1) := by decide +kernel
theorem dX12_goes_5 : decode cX12_goes 5 = .ok (.iaload, 1) := by decide +kernel
theorem dX12_goes_6 : decode cX12_goes 6 = .ok (.istore_n 2, 1) := by decide +kernel
theorem dX12_goes_7 : decode cX12_goes 7 = .ok (.aload_n 0, 1) := by decide +kernel
theorem dX12_goes_8 : decode cX12_goes 8 = .ok (.getfield 120, 3) := by decide +kernel
theorem dX12_goes_11 : decode cX12_goes 11 = .ok (.iload_n 1, 1) := by decide +kernel
theorem dX12_goes_12 : decode cX12_goes 12 = .ok (.iaload, 1) := by decide +kernel
theorem dX12_goes_13 : decode cX12_goes 13 = .ok (.istore_n 3, 1) := by decide +kernel
theorem dX12_goes_14 : decode cX12_goes 14 = .ok (.iload_n 2, 1) := by decide +kernel
theorem dX12_goes_15 : decode cX12_goes 15 = .ok (.iconst 1, 1) := by decide +kernel
theorem dX12_goes_16 : decode cX12_goes 16 = .ok (.if_icmp .gt 29, 3) := by decide +kernel
theorem dX12_goes_19 : decode cX12_goes 19 = .ok (.aload_n 0, 1) := by decide +kernel
theorem dX12_goes_20 : decode cX12_goes 20 = .ok (.iconst 0, 1) := by decide +kernel
theorem dX12_goes_21 : decode cX12_goes 21 = .ok (.aload_n 0, 1) := by decide +kernel
theorem dX12_goes_22 : decode cX12_goes 22 = .ok (.aload_n 0, 1) := by decide +kernel
theorem dX12_goes_23 : decode cX12_goes 23 = .ok (.getfield 117, 3) := by decide +kernel
theorem dX12_goes_26 : decode cX12_goes 26 = .ok (.iload_n 1, 1) := by decide +kernel
theorem dX12_goes_27 : decode cX12_goes 27 = .ok (.iaload, 1) := by decide +kernel
theorem dX12_goes_28 : decode cX12_goes 28 = .ok (.iload_n 2, 1) := by decide +kernel
theorem dX12_goes_29 : decode cX12_goes 29 = .ok (.ifCond .ne 7, 3) := by decide +kernel
theorem dX12_goes_32 : decode cX12_goes 32 = .ok (.iconst 1, 1) := by decide +kernel
theorem dX12_goes_33 : decode cX12_goes 33 = .ok (.goto 4, 3) := by decide +kernel
theorem dX12_goes_36 : decode cX12_goes 36 = .ok (.iconst 0, 1) := by decide +kernel
theorem dX12_goes_37 : decode cX12_goes 37 = .ok (.invokevirtual 520, 3) := by decide +kernel
theorem dX12_goes_40 : decode cX12_goes 40 = .ok (.iconst 0, 1) := by decide +kernel
theorem dX12_goes_41 : decode cX12_goes 41 = .ok (.invokevirtual 524, 3) := by decide +kernel
theorem dX12_goes_44 : decode cX12_goes 44 = .ok (.ireturn, 1) := by decide +kernel
theorem dX12_goes_45 : decode cX12_goes 45 = .ok (.iload_n 2, 1) := by decide +kernel
theorem dX12_goes_46 : decode cX12_goes 46 = .ok (.iconst 2, 1) := by decide +kernel
theorem dX12_goes_47 : decode cX12_goes 47 = .ok (.if_icmp .ne 29, 3) := by decide +kernel
theorem dX12_goes_50 : decode cX12_goes 50 = .ok (.iload_n 3, 1) := by decide +kernel
theorem dX12_goes_51 : decode cX12_goes 51 = .ok (.aload_n 0, 1) := by decide +kernel
theorem dX12_goes_52 : decode cX12_goes 52 = .ok (.getfield 13, 3) := by decide +kernel
theorem dX12_goes_55 : decode cX12_goes 55 = .ok (.iconst 3, 1) := by decide +kernel
theorem dX12_goes_56 : decode cX12_goes 56 = .ok (.iaload, 1) := by decide +kernel
theorem dX12_goes_57 : decode cX12_goes 57 = .ok (.if_icmp .gt 17, 3) := by decide +kernel
theorem dX12_goes_60 : decode cX12_goes 60 = .ok (.aload_n 0, 1) := by decide +kernel
theorem dX12_goes_61 : decode cX12_goes 61 = .ok (.iconst 1, 1) := by decide +kernel
theorem dX12_goes_62 : decode cX12_goes 62 = .ok (.iload_n 3, 1) := by decide +kernel
theorem dX12_goes_63 : decode cX12_goes 63 = .ok (.iconst 0, 1) := by decide +kernel
theorem dX12_goes_64 : decode cX12_goes 64 = .ok (.invokevirtual 524, 3) := by decide +kernel
theorem dX12_goes_67 : decode cX12_goes 67 = .ok (.ifCond .eq 7, 3) := by decide +kernel
theorem dX12_goes_70 : decode cX12_goes 70 = .ok (.iconst 1, 1) := by decide +kernel
theorem dX12_goes_71 : decode cX12_goes 71 = .ok (.goto 4, 3) := by decide +kernel
theorem dX12_goes_74 : decode cX12_goes 74 = .ok (.iconst 0, 1) := by decide +kernel
theorem dX12_goes_75 : decode cX12_goes 75 = .ok (.ireturn, 1) := by decide +kernel
theorem dX12_goes_76 : decode cX12_goes 76 = .ok (.iload_n 2, 1) := by decide +kernel
theorem dX12_goes_77 : decode cX12_goes 77 = .ok (.iconst 5, 1) := by decide +kernel
theorem dX12_goes_78 : decode cX12_goes 78 = .ok (.if_icmp .ge 20, 3) := by decide +kernel
theorem dX12_goes_81 : decode cX12_goes 81 = .ok (.aload_n 0, 1) := by decide +kernel
theorem dX12_goes_82 : decode cX12_goes 82 = .ok (.iload_n 2, 1) := by decide +kernel
theorem dX12_goes_83 : decode cX12_goes 83 = .ok (.iconst 3, 1) := by decide +kernel
theorem dX12_goes_84 : decode cX12_goes 84 = .ok (.if_icmp .ne 7, 3) := by decide +kernel
theorem dX12_goes_87 : decode cX12_goes 87 = .ok (.iconst 2, 1) := by decide +kernel
theorem dX12_goes_88 : decode cX12_goes 88 = .ok (.goto 4, 3) := by decide +kernel
theorem dX12_goes_91 : decode cX12_goes 91 = .ok (.iconst 3, 1) := by decide +kernel
theorem dX12_goes_92 : decode cX12_goes 92 = .ok (.iload_n 3, 1) := by decide +kernel
theorem dX12_goes_93 : decode cX12_goes 93 = .ok (.iconst 0, 1) := by decide +kernel
theorem dX12_goes_94 : decode cX12_goes 94 = .ok (.invokevirtual 524, 3) := by decide +kernel
theorem dX12_goes_97 : decode cX12_goes 97 = .ok (.ireturn, 1) := by decide +kernel
theorem dX12_goes_98 : decode cX12_goes 98 = .ok (.iload_n 2, 1) := by decide +kernel
theorem dX12_goes_99 : decode cX12_goes 99 = .ok (.iconst 5, 1) := by decide +kernel
theorem dX12_goes_100 : decode cX12_goes 100 = .ok (.if_icmp .ne 18, 3) := by decide +kernel
theorem dX12_goes_103 : decode cX12_goes 103 = .ok (.aload_n 0, 1) := by decide +kernel
theorem dX12_goes_104 : decode cX12_goes 104 = .ok (.iconst 4, 1) := by decide +kernel
theorem dX12_goes_105 : decode cX12_goes 105 = .ok (.aload_n 0, 1) := by decide +kernel
theorem dX12_goes_106 : decode cX12_goes 106 = .ok (.getfield 117, 3) := by decide +kernel
theorem dX12_goes_109 : decode cX12_goes 109 = .ok (.iload_n 1, 1) := by decide +kernel
theorem dX12_goes_110 : decode cX12_goes 110 = .ok (.iaload, 1) := by decide +kernel
theorem dX12_goes_111 : decode cX12_goes 111 = .ok (.iadd, 1) := by decide +kernel
theorem dX12_goes_112 : decode cX12_goes 112 = .ok (.iload_n 3, 1) := by decide +kernel
theorem dX12_goes_113 : decode cX12_goes 113 = .ok (.iconst 0, 1) := by decide +kernel
theorem dX12_goes_114 : decode cX12_goes 114 = .ok (.invokevirtual 524, 3) := by decide +kernel
theorem dX12_goes_117 : decode cX12_goes 117 = .ok (.ireturn, 1) := by decide +kernel
theorem dX12_goes_118 : decode cX12_goes 118 = .ok (.aload_n 0, 1) := by decide +kernel
theorem dX12_goes_119 : decode cX12_goes 119 = .ok (.invokevirtual 528, 3) := by decide +kernel
theorem dX12_goes_122 : decode cX12_goes 122 = .ok (.aload_n 0, 1) := by decide +kernel
theorem dX12_goes_123 : decode cX12_goes 123 = .ok (.dup, 1) := by decide +kernel
theorem dX12_goes_124 : decode cX12_goes 124 = .ok (.getfield 531, 3) := by decide +kernel
theorem dX12_goes_127 : decode cX12_goes 127 = .ok (.aload_n 0, 1) := by decide +kernel
theorem dX12_goes_128 : decode cX12_goes 128 = .ok (.invokevirtual 534, 3) := by decide +kernel
theorem dX12_goes_131 : decode cX12_goes 131 = .ok (.iadd, 1) := by decide +kernel
theorem dX12_goes_132 : decode cX12_goes 132 = .ok (.putfield 531, 3) := by decide +kernel
theorem dX12_goes_135 : decode cX12_goes 135 = .ok (.aload_n 0, 1) := by decide +kernel
theorem dX12_goes_136 : decode cX12_goes 136 = .ok (.dup, 1) := by decide +kernel
theorem dX12_goes_137 : decode cX12_goes 137 = .ok (.getfield 537, 3) := by decide +kernel
theorem dX12_goes_140 : decode cX12_goes 140 = .ok (.aload_n 0, 1) := by decide +kernel
theorem dX12_goes_141 : decode cX12_goes 141 = .ok (.invokevirtual 540, 3) := by decide +kernel
theorem dX12_goes_144 : decode cX12_goes 144 = .ok (.iadd, 1) := by decide +kernel
theorem dX12_goes_145 : decode cX12_goes 145 = .ok (.putfield 537, 3) := by decide +kernel
theorem dX12_goes_148 : decode cX12_goes 148 = .ok (.aload_n 0, 1) := by decide +kernel
theorem dX12_goes_149 : decode cX12_goes 149 = .ok (.invokevirtual 540, 3) := by decide +kernel
theorem dX12_goes_152 : decode cX12_goes 152 = .ok (.ifCond .le 7, 3) := by decide +kernel
theorem dX12_goes_155 : decode cX12_goes 155 = .ok (.iconst 1, 1) := by decide +kernel
theorem dX12_goes_156 : decode cX12_goes 156 = .ok (.goto 4, 3) := by decide +kernel
theorem dX12_goes_159 : decode cX12_goes 159 = .ok (.iconst 0, 1) := by decide +kernel
theorem dX12_goes_160 : decode cX12_goes 160 = .ok (.ireturn, 1) := by decide +kernel
theorem dX12_judged_0 : decode cX12_judged 0 = .ok (.aload_n 0, 1) := by decide +kernel
theorem dX12_judged_1 : decode cX12_judged 1 = .ok (.iconst 0, 1) := by decide +kernel
theorem dX12_judged_2 : decode cX12_judged 2 = .ok (.putfield 194, 3) := by decide +kernel
theorem dX12_judged_5 : decode cX12_judged 5 = .ok (.iload_n 1, 1) := by decide +kernel
theorem dX12_judged_6 : decode cX12_judged 6 = .ok (.iconst 0, 1) := by decide +kernel
theorem dX12_judged_7 : decode cX12_judged 7 = .ok (.iconst 2, 1) := by decide +kernel
theorem dX12_judged_8 : decode cX12_judged 8 = .ok (.invokestatic 343, 3) := by decide +kernel
theorem dX12_judged_11 : decode cX12_judged 11 = .ok (.ifCond .ne 6, 3) := by decide +kernel
theorem dX12_judged_14 : decode cX12_judged 14 = .ok (.bipush (-2), 2) := by decide +kernel
theorem dX12_judged_16 : decode cX12_judged 16 = .ok (.ireturn, 1) := by decide +kernel
theorem dX12_judged_17 : decode cX12_judged 17 = .ok (.aload_n 0, 1) := by decide +kernel
theorem dX12_judged_18 : decode cX12_judged 18 = .ok (.getfield 141, 3) := by decide +kernel
theorem dX12_judged_21 : decode cX12_judged 21 = .ok (.iconst 0, 1) := by decide +kernel
theorem dX12_judged_22 : decode cX12_judged 22 = .ok (.aload_n 0, 1) := by decide +kernel
theorem dX12_judged_23 : decode cX12_judged 23 = .ok (.getfield 144, 3) := by decide +kernel
theorem dX12_judged_26 : decode cX12_judged 26 = .ok (.iconst 0, 1) := by decide +kernel
theorem dX12_judged_27 : decode cX12_judged 27 = .ok (.invokestatic 513, 3) := by decide +kernel
theorem dX12_judged_30 : decode cX12_judged 30 = .ok (.aload_n 0, 1) := by decide +kernel
theorem dX12_judged_31 : decode cX12_judged 31 = .ok (.invokevirtual 191, 3) := by decide +kernel
theorem dX12_judged_34 : decode cX12_judged 34 = .ok (.aload_n 0, 1) := by decide +kernel
theorem dX12_judged_35 : decode cX12_judged 35 = .ok (.iconst 0, 1) := by decide +kernel
theorem dX12_judged_36 : decode cX12_judged 36 = .ok (.putfield 531, 3) := by decide +kernel
theorem dX12_judged_39 : decode cX12_judged 39 = .ok (.aload_n 0, 1) := by decide +kernel
theorem dX12_judged_40 : decode cX12_judged 40 = .ok (.iconst 0, 1) := by decide +kernel
theorem dX12_judged_41 : decode cX12_judged 41 = .ok (.putfield 537, 3) := by decide +kernel
theorem dX12_judged_44 : decode cX12_judged 44 = .ok (.iconst (-1), 1) := by decide +kernel
theorem dX12_judged_45 : decode cX12_judged 45 = .ok (.istore_n 2, 1) := by decide +kernel
theorem dX12_judged_46 : decode cX12_judged 46 = .ok (.iconst 0, 1) := by decide +kernel
theorem dX12_judged_47 : decode cX12_judged 47 = .ok (.istore_n 3, 1) := by decide +kernel
theorem dX12_judged_48 : decode cX12_judged 48 = .ok (.iload_n 3, 1) := by decide +kernel
theorem dX12_judged_49 : decode cX12_judged 49 = .ok (.aload_n 0, 1) := by decide +kernel
theorem dX12_judged_50 : decode cX12_judged 50 = .ok (.getfield 111, 3) := by decide +kernel
theorem dX12_judged_53 : decode cX12_judged 53 = .ok (.iconst 0, 1) := by decide +kernel
theorem dX12_judged_54 : decode cX12_judged 54 = .ok (.iaload, 1) := by decide +kernel
theorem dX12_judged_55 : decode cX12_judged 55 = .ok (.if_icmp .ge 23, 3) := by decide +kernel
theorem dX12_judged_58 : decode cX12_judged 58 = .ok (.aload_n 0, 1) := by decide +kernel
theorem dX12_judged_59 : decode cX12_judged 59 = .ok (.iload_n 3, 1) := by decide +kernel
theorem dX12_judged_60 : decode cX12_judged 60 = .ok (.invokevirtual 543, 3) := by decide +kernel
theorem dX12_judged_63 : decode cX12_judged 63 = .ok (.ifCond .ne 9, 3) := by decide +kernel
theorem dX12_judged_66 : decode cX12_judged 66 = .ok (.iload_n 2, 1) := by decide +kernel
theorem dX12_judged_67 : decode cX12_judged 67 = .ok (.ifCond .ge 5, 3) := by decide +kernel
theorem dX12_judged_70 : decode cX12_judged 70 = .ok (.iload_n 3, 1) := by decide +kernel
theorem dX12_judged_71 : decode cX12_judged 71 = .ok (.istore_n 2, 1) := by decide +kernel
theorem dX12_judged_72 : decode cX12_judged 72 = .ok (.iinc 3 1, 3) := by decide +kernel
theorem dX12_judged_75 : decode cX12_judged 75 = .ok (.goto (-27), 3) := by decide +kernel
theorem dX12_judged_78 : decode cX12_judged 78 = .ok (.aload_n 0, 1) := by decide +kernel
theorem dX12_judged_79 : decode cX12_judged 79 = .ok (.getfield 144, 3) := by decide +kernel
theorem dX12_judged_82 : decode cX12_judged 82 = .ok (.iconst 0, 1) := by decide +kernel
theorem dX12_judged_83 : decode cX12_judged 83 = .ok (.aload_n 0, 1) := by decide +kernel
theorem dX12_judged_84 : decode cX12_judged 84 = .ok (.getfield 141, 3) := by decide +kernel
theorem dX12_judged_87 : decode cX12_judged 87 = .ok (.iconst 0, 1) := by decide +kernel
theorem dX12_judged_88 : decode cX12_judged 88 = .ok (.invokestatic 513, 3) := by decide +kernel
theorem dX12_judged_91 : decode cX12_judged 91 = .ok (.iload_n 1, 1) := by decide +kernel
theorem dX12_judged_92 : decode cX12_judged 92 = .ok (.ifCond .ne 7, 3) := by decide +kernel
theorem dX12_judged_95 : decode cX12_judged 95 = .ok (.iload_n 2, 1) := by decide +kernel
theorem dX12_judged_96 : decode cX12_judged 96 = .ok (.goto 19, 3) := by decide +kernel
theorem dX12_judged_99 : decode cX12_judged 99 = .ok (.iload_n 1, 1) := by decide +kernel
theorem dX12_judged_100 : decode cX12_judged 100 = .ok (.iconst 1, 1) := by decide +kernel
theorem dX12_judged_101 : decode cX12_judged 101 = .ok (.if_icmp .ne 10, 3) := by decide +kernel
theorem dX12_judged_104 : decode cX12_judged 104 = .ok (.aload_n 0, 1) := by decide +kernel
theorem dX12_judged_105 : decode cX12_judged 105 = .ok (.getfield 531, 3) := by decide +kernel
theorem dX12_judged_108 : decode cX12_judged 108 = .ok (.goto 7, 3) := by decide +kernel
theorem dX12_judged_111 : decode cX12_judged 111 = .ok (.aload_n 0, 1) := by decide +kernel
theorem dX12_judged_112 : decode cX12_judged 112 = .ok (.getfield 537, 3) := by decide +kernel
theorem dX12_judged_115 : decode cX12_judged 115 = .ok (.ireturn, 1) := by decide +kernel
theorem dX12_served_0 : decode cX12_served 0 = .ok (.aload_n 0, 1) := by decide +kernel
theorem dX12_served_1 : decode cX12_served 1 = .ok (.iconst 0, 1) := by decide +kernel
theorem dX12_served_2 : decode cX12_served 2 = .ok (.putfield 194, 3) := by decide +kernel
theorem dX12_served_5 : decode cX12_served 5 = .ok (.aload_n 0, 1) := by decide +kernel
theorem dX12_served_6 : decode cX12_served 6 = .ok (.iload_n 1, 1) := by decide +kernel
theorem dX12_served_7 : decode cX12_served 7 = .ok (.invokevirtual 510, 3) := by decide +kernel
theorem dX12_served_10 : decode cX12_served 10 = .ok (.ifCond .eq 25, 3) := by decide +kernel
theorem dX12_served_13 : decode cX12_served 13 = .ok (.aload_n 0, 1) := by decide +kernel
theorem dX12_served_14 : decode cX12_served 14 = .ok (.getfield 141, 3) := by decide +kernel
theorem dX12_served_17 : decode cX12_served 17 = .ok (.iconst 0, 1) := by decide +kernel
theorem dX12_served_18 : decode cX12_served 18 = .ok (.iaload, 1) := by decide +kernel
theorem dX12_served_19 : decode cX12_served 19 = .ok (.iload_n 1, 1) := by decide +kernel
theorem dX12_served_20 : decode cX12_served 20 = .ok (.ishr, 1) := by decide +kernel
theorem dX12_served_21 : decode cX12_served 21 = .ok (.iconst 1, 1) := by decide +kernel
theorem dX12_served_22 : decode cX12_served 22 = .ok (.iand, 1) := by decide +kernel
theorem dX12_served_23 : decode cX12_served 23 = .ok (.ifCond .eq 12, 3) := by decide +kernel
theorem dX12_served_26 : decode cX12_served 26 = .ok (.iload_n 2, 1) := by decide +kernel
theorem dX12_served_27 : decode cX12_served 27 = .ok (.iconst 0, 1) := by decide +kernel
theorem dX12_served_28 : decode cX12_served 28 = .ok (.iconst 4, 1) := by decide +kernel
theorem dX12_served_29 : decode cX12_served 29 = .ok (.invokestatic 343, 3) := by decide +kernel
theorem dX12_served_32 : decode cX12_served 32 = .ok (.ifCond .ne 6, 3) := by decide +kernel
theorem dX12_served_35 : decode cX12_served 35 = .ok (.bipush (-2), 2) := by decide +kernel
theorem dX12_served_37 : decode cX12_served 37 = .ok (.ireturn, 1) := by decide +kernel
theorem dX12_served_38 : decode cX12_served 38 = .ok (.aload_n 0, 1) := by decide +kernel
theorem dX12_served_39 : decode cX12_served 39 = .ok (.invokevirtual 528, 3) := by decide +kernel
theorem dX12_served_42 : decode cX12_served 42 = .ok (.iload_n 2, 1) := by decide +kernel
theorem dX12_served_43 : decode cX12_served 43 = .ok (.iconst 2, 1) := by decide +kernel
theorem dX12_served_44 : decode cX12_served 44 = .ok (.if_icmp .ge 23, 3) := by decide +kernel
theorem dX12_served_47 : decode cX12_served 47 = .ok (.iload_n 2, 1) := by decide +kernel
theorem dX12_served_48 : decode cX12_served 48 = .ok (.ifCond .ne 12, 3) := by decide +kernel
theorem dX12_served_51 : decode cX12_served 51 = .ok (.aload_n 0, 1) := by decide +kernel
theorem dX12_served_52 : decode cX12_served 52 = .ok (.getfield 163, 3) := by decide +kernel
theorem dX12_served_55 : decode cX12_served 55 = .ok (.iload_n 1, 1) := by decide +kernel
theorem dX12_served_56 : decode cX12_served 56 = .ok (.iaload, 1) := by decide +kernel
theorem dX12_served_57 : decode cX12_served 57 = .ok (.goto 9, 3) := by decide +kernel
theorem dX12_served_60 : decode cX12_served 60 = .ok (.aload_n 0, 1) := by decide +kernel
theorem dX12_served_61 : decode cX12_served 61 = .ok (.getfield 166, 3) := by decide +kernel
theorem dX12_served_64 : decode cX12_served 64 = .ok (.iload_n 1, 1) := by decide +kernel
theorem dX12_served_65 : decode cX12_served 65 = .ok (.iaload, 1) := by decide +kernel
theorem dX12_served_66 : decode cX12_served 66 = .ok (.ireturn, 1) := by decide +kernel
theorem dX12_served_67 : decode cX12_served 67 = .ok (.iload_n 2, 1) := by decide +kernel
theorem dX12_served_68 : decode cX12_served 68 = .ok (.iconst 2, 1) := by decide +kernel
theorem dX12_served_69 : decode cX12_served 69 = .ok (.if_icmp .ne 12, 3) := by decide +kernel
theorem dX12_served_72 : decode cX12_served 72 = .ok (.aload_n 0, 1) := by decide +kernel
theorem dX12_served_73 : decode cX12_served 73 = .ok (.getfield 169, 3) := by decide +kernel
theorem dX12_served_76 : decode cX12_served 76 = .ok (.iload_n 1, 1) := by decide +kernel
theorem dX12_served_77 : decode cX12_served 77 = .ok (.iaload, 1) := by decide +kernel
theorem dX12_served_78 : decode cX12_served 78 = .ok (.goto 23, 3) := by decide +kernel
theorem dX12_served_81 : decode cX12_served 81 = .ok (.iload_n 2, 1) := by decide +kernel
theorem dX12_served_82 : decode cX12_served 82 = .ok (.iconst 3, 1) := by decide +kernel
theorem dX12_served_83 : decode cX12_served 83 = .ok (.if_icmp .ne 12, 3) := by decide +kernel
theorem dX12_served_86 : decode cX12_served 86 = .ok (.aload_n 0, 1) := by decide +kernel
theorem dX12_served_87 : decode cX12_served 87 = .ok (.getfield 172, 3) := by decide +kernel
theorem dX12_served_90 : decode cX12_served 90 = .ok (.iload_n 1, 1) := by decide +kernel
theorem dX12_served_91 : decode cX12_served 91 = .ok (.iaload, 1) := by decide +kernel
theorem dX12_served_92 : decode cX12_served 92 = .ok (.goto 9, 3) := by decide +kernel
theorem dX12_served_95 : decode cX12_served 95 = .ok (.aload_n 0, 1) := by decide +kernel
theorem dX12_served_96 : decode cX12_served 96 = .ok (.getfield 175, 3) := by decide +kernel
theorem dX12_served_99 : decode cX12_served 99 = .ok (.iload_n 1, 1) := by decide +kernel
theorem dX12_served_100 : decode cX12_served 100 = .ok (.iaload, 1) := by decide +kernel
theorem dX12_served_101 : decode cX12_served 101 = .ok (.ireturn, 1) := by decide +kernel
theorem dX12_round_0 : decode cX12_round 0 = .ok (.aload_n 0, 1) := by decide +kernel
theorem dX12_round_1 : decode cX12_round 1 = .ok (.iconst 0, 1) := by decide +kernel
theorem dX12_round_2 : decode cX12_round 2 = .ok (.putfield 194, 3) := by decide +kernel
theorem dX12_round_5 : decode cX12_round 5 = .ok (.iload_n 1, 1) := by decide +kernel
theorem dX12_round_6 : decode cX12_round 6 = .ok (.iconst 0, 1) := by decide +kernel
theorem dX12_round_7 : decode cX12_round 7 = .ok (.iconst 4, 1) := by decide +kernel
theorem dX12_round_8 : decode cX12_round 8 = .ok (.invokestatic 343, 3) := by decide +kernel
theorem dX12_round_11 : decode cX12_round 11 = .ok (.ifCond .ne 5, 3) := by decide +kernel
theorem dX12_round_14 : decode cX12_round 14 = .ok (.iconst (-1), 1) := by decide +kernel
theorem dX12_round_15 : decode cX12_round 15 = .ok (.ireturn, 1) := by decide +kernel
theorem dX12_round_16 : decode cX12_round 16 = .ok (.aload_n 0, 1) := by decide +kernel
theorem dX12_round_17 : decode cX12_round 17 = .ok (.invokevirtual 528, 3) := by decide +kernel
theorem dX12_round_20 : decode cX12_round 20 = .ok (.iload_n 1, 1) := by decide +kernel
theorem dX12_round_21 : decode cX12_round 21 = .ok (.iconst 2, 1) := by decide +kernel
theorem dX12_round_22 : decode cX12_round 22 = .ok (.if_icmp .ge 19, 3) := by decide +kernel
theorem dX12_round_25 : decode cX12_round 25 = .ok (.iload_n 1, 1) := by decide +kernel
theorem dX12_round_26 : decode cX12_round 26 = .ok (.ifCond .ne 10, 3) := by decide +kernel
theorem dX12_round_29 : decode cX12_round 29 = .ok (.aload_n 0, 1) := by decide +kernel
theorem dX12_round_30 : decode cX12_round 30 = .ok (.invokevirtual 534, 3) := by decide +kernel
theorem dX12_round_33 : decode cX12_round 33 = .ok (.goto 7, 3) := by decide +kernel
theorem dX12_round_36 : decode cX12_round 36 = .ok (.aload_n 0, 1) := by decide +kernel
theorem dX12_round_37 : decode cX12_round 37 = .ok (.invokevirtual 540, 3) := by decide +kernel
theorem dX12_round_40 : decode cX12_round 40 = .ok (.ireturn, 1) := by decide +kernel
theorem dX12_round_41 : decode cX12_round 41 = .ok (.iload_n 1, 1) := by decide +kernel
theorem dX12_round_42 : decode cX12_round 42 = .ok (.iconst 2, 1) := by decide +kernel
theorem dX12_round_43 : decode cX12_round 43 = .ok (.if_icmp .ne 10, 3) := by decide +kernel
theorem dX12_round_46 : decode cX12_round 46 = .ok (.aload_n 0, 1) := by decide +kernel
theorem dX12_round_47 : decode cX12_round 47 = .ok (.invokevirtual 546, 3) := by decide +kernel
theorem dX12_round_50 : decode cX12_round 50 = .ok (.goto 22, 3) := by decide +kernel
theorem dX12_round_53 : decode cX12_round 53 = .ok (.iload_n 1, 1) := by decide +kernel
theorem dX12_round_54 : decode cX12_round 54 = .ok (.iconst 3, 1) := by decide +kernel
theorem dX12_round_55 : decode cX12_round 55 = .ok (.if_icmp .ne 10, 3) := by decide +kernel
theorem dX12_round_58 : decode cX12_round 58 = .ok (.aload_n 0, 1) := by decide +kernel
theorem dX12_round_59 : decode cX12_round 59 = .ok (.invokevirtual 549, 3) := by decide +kernel
theorem dX12_round_62 : decode cX12_round 62 = .ok (.goto 10, 3) := by decide +kernel
theorem dX12_round_65 : decode cX12_round 65 = .ok (.aload_n 0, 1) := by decide +kernel
theorem dX12_round_66 : decode cX12_round 66 = .ok (.ldc_w 552, 3) := by decide +kernel
theorem dX12_round_69 : decode cX12_round 69 = .ok (.invokevirtual 553, 3) := by decide +kernel
theorem dX12_round_72 : decode cX12_round 72 = .ok (.ireturn, 1) := by decide +kernel
theorem dX12_hasAll_0 : decode cX12_hasAll 0 = .ok (.aload_n 0, 1) := by decide +kernel
theorem dX12_hasAll_1 : decode cX12_hasAll 1 = .ok (.getfield 169, 3) := by decide +kernel
theorem dX12_hasAll_4 : decode cX12_hasAll 4 = .ok (.iload_n 1, 1) := by decide +kernel
theorem dX12_hasAll_5 : decode cX12_hasAll 5 = .ok (.iaload, 1) := by decide +kernel
theorem dX12_hasAll_6 : decode cX12_hasAll 6 = .ok (.invokestatic 504, 3) := by decide +kernel
theorem dX12_hasAll_9 : decode cX12_hasAll 9 = .ok (.aload_n 0, 1) := by decide +kernel
theorem dX12_hasAll_10 : decode cX12_hasAll 10 = .ok (.getfield 59, 3) := by decide +kernel
theorem dX12_hasAll_13 : decode cX12_hasAll 13 = .ok (.iload_n 1, 1) := by decide +kernel
theorem dX12_hasAll_14 : decode cX12_hasAll 14 = .ok (.iaload, 1) := by decide +kernel
theorem dX12_hasAll_15 : decode cX12_hasAll 15 = .ok (.if_icmp .ne 16, 3) := by decide +kernel
theorem dX12_hasAll_18 : decode cX12_hasAll 18 = .ok (.aload_n 0, 1) := by decide +kernel
theorem dX12_hasAll_19 : decode cX12_hasAll 19 = .ok (.getfield 175, 3) := by decide +kernel
theorem dX12_hasAll_22 : decode cX12_hasAll 22 = .ok (.iload_n 1, 1) := by decide +kernel
theorem dX12_hasAll_23 : decode cX12_hasAll 23 = .ok (.iaload, 1) := by decide +kernel
theorem dX12_hasAll_24 : decode cX12_hasAll 24 = .ok (.ifCond .ne 7, 3) := by decide +kernel
theorem dX12_hasAll_27 : decode cX12_hasAll 27 = .ok (.iconst 1, 1) := by decide +kernel
theorem dX12_hasAll_28 : decode cX12_hasAll 28 = .ok (.goto 4, 3) := by decide +kernel
theorem dX12_hasAll_31 : decode cX12_hasAll 31 = .ok (.iconst 0, 1) := by decide +kernel
theorem dX12_hasAll_32 : decode cX12_hasAll 32 = .ok (.ireturn, 1) := by decide +kernel
theorem dX12_chance_0 : decode cX12_chance 0 = .ok (.aload_n 0, 1) := by decide +kernel
theorem dX12_chance_1 : decode cX12_chance 1 = .ok (.iconst 0, 1) := by decide +kernel
theorem dX12_chance_2 : decode cX12_chance 2 = .ok (.putfield 194, 3) := by decide +kernel
theorem dX12_chance_5 : decode cX12_chance 5 = .ok (.aload_n 0, 1) := by decide +kernel
theorem dX12_chance_6 : decode cX12_chance 6 = .ok (.iload_n 1, 1) := by decide +kernel
theorem dX12_chance_7 : decode cX12_chance 7 = .ok (.invokevirtual 510, 3) := by decide +kernel
theorem dX12_chance_10 : decode cX12_chance 10 = .ok (.ifCond .ne 5, 3) := by decide +kernel
theorem dX12_chance_13 : decode cX12_chance 13 = .ok (.iconst (-1), 1) := by decide +kernel
theorem dX12_chance_14 : decode cX12_chance 14 = .ok (.ireturn, 1) := by decide +kernel
theorem dX12_chance_15 : decode cX12_chance 15 = .ok (.aload_n 0, 1) := by decide +kernel
theorem dX12_chance_16 : decode cX12_chance 16 = .ok (.getfield 141, 3) := by decide +kernel
theorem dX12_chance_19 : decode cX12_chance 19 = .ok (.iconst 0, 1) := by decide +kernel
theorem dX12_chance_20 : decode cX12_chance 20 = .ok (.iaload, 1) := by decide +kernel
theorem dX12_chance_21 : decode cX12_chance 21 = .ok (.istore_n 2, 1) := by decide +kernel
theorem dX12_chance_22 : decode cX12_chance 22 = .ok (.lconst 0, 1) := by decide +kernel
theorem dX12_chance_23 : decode cX12_chance 23 = .ok (.lstore_n 3, 1) := by decide +kernel
theorem dX12_chance_24 : decode cX12_chance 24 = .ok (.lconst 1, 1) := by decide +kernel
theorem dX12_chance_25 : decode cX12_chance 25 = .ok (.lstore 5, 2) := by decide +kernel
theorem dX12_chance_27 : decode cX12_chance 27 = .ok (.iconst 0, 1) := by decide +kernel
theorem dX12_chance_28 : decode cX12_chance 28 = .ok (.istore 7, 2) := by decide +kernel
theorem dX12_chance_30 : decode cX12_chance 30 = .ok (.iload 7, 2) := by decide +kernel
theorem dX12_chance_32 : decode cX12_chance 32 = .ok (.aload_n 0, 1) := by decide +kernel
theorem dX12_chance_33 : decode cX12_chance 33 = .ok (.getfield 13, 3) := by decide +kernel
theorem dX12_chance_36 : decode cX12_chance 36 = .ok (.iconst 2, 1) := by decide +kernel
theorem dX12_chance_37 : decode cX12_chance 37 = .ok (.iaload, 1) := by decide +kernel
theorem dX12_chance_38 : decode cX12_chance 38 = .ok (.if_icmp .ge 27, 3) := by decide +kernel
theorem dX12_chance_41 : decode cX12_chance 41 = .ok (.lload 5, 2) := by decide +kernel
theorem dX12_chance_43 : decode cX12_chance 43 = .ok (.iload 7, 2) := by decide +kernel
theorem dX12_chance_45 : decode cX12_chance 45 = .ok (.iload_n 1, 1) := by decide +kernel
theorem dX12_chance_46 : decode cX12_chance 46 = .ok (.if_icmp .ne 7, 3) := by decide +kernel
theorem dX12_chance_49 : decode cX12_chance 49 = .ok (.lconst 1, 1) := by decide +kernel
theorem dX12_chance_50 : decode cX12_chance 50 = .ok (.goto 6, 3) := by decide +kernel
theorem dX12_chance_53 : decode cX12_chance 53 = .ok (.ldc2_w 556, 3) := by decide +kernel
theorem dX12_chance_56 : decode cX12_chance 56 = .ok (.lmul, 1) := by decide +kernel
theorem dX12_chance_57 : decode cX12_chance 57 = .ok (.lstore 5, 2) := by decide +kernel
theorem dX12_chance_59 : decode cX12_chance 59 = .ok (.iinc 7 1, 3) := by decide +kernel
theorem dX12_chance_62 : decode cX12_chance 62 = .ok (.goto (-32), 3) := by decide +kernel
theorem dX12_chance_65 : decode cX12_chance 65 = .ok (.iconst 0, 1) := by decide +kernel
theorem dX12_chance_66 : decode cX12_chance 66 = .ok (.istore 7, 2) := by decide +kernel
theorem dX12_chance_68 : decode cX12_chance 68 = .ok (.iload 7, 2) := by decide +kernel
theorem dX12_chance_70 : decode cX12_chance 70 = .ok (.aload_n 0, 1) := by decide +kernel
theorem dX12_chance_71 : decode cX12_chance 71 = .ok (.invokevirtual 558, 3) := by decide +kernel
theorem dX12_chance_74 : decode cX12_chance 74 = .ok (.if_icmp .gt 131, 3) := by decide +kernel
theorem dX12_chance_77 : decode cX12_chance 77 = .ok (.iload 7, 2) := by decide +kernel
theorem dX12_chance_79 : decode cX12_chance 79 = .ok (.iload_n 1, 1) := by decide +kernel
theorem dX12_chance_80 : decode cX12_chance 80 = .ok (.ishr, 1) := by decide +kernel
theorem dX12_chance_81 : decode cX12_chance 81 = .ok (.iconst 1, 1) := by decide +kernel
theorem dX12_chance_82 : decode cX12_chance 82 = .ok (.iand, 1) := by decide +kernel
theorem dX12_chance_83 : decode cX12_chance 83 = .ok (.ifCond .ne 6, 3) := by decide +kernel
theorem dX12_chance_86 : decode cX12_chance 86 = .ok (.goto 113, 3) := by decide +kernel
theorem dX12_chance_89 : decode cX12_chance 89 = .ok (.lconst 1, 1) := by decide +kernel
theorem dX12_chance_90 : decode cX12_chance 90 = .ok (.lstore 8, 2) := by decide +kernel
theorem dX12_chance_92 : decode cX12_chance 92 = .ok (.iconst 0, 1) := by decide +kernel
theorem dX12_chance_93 : decode cX12_chance 93 = .ok (.istore 10, 2) := by decide +kernel
theorem dX12_chance_95 : decode cX12_chance 95 = .ok (.iload 10, 2) := by decide +kernel
theorem dX12_chance_97 : decode cX12_chance 97 = .ok (.aload_n 0, 1) := by decide +kernel
theorem dX12_chance_98 : decode cX12_chance 98 = .ok (.getfield 13, 3) := by decide +kernel
theorem dX12_chance_101 : decode cX12_chance 101 = .ok (.iconst 2, 1) := by decide +kernel
theorem dX12_chance_102 : decode cX12_chance 102 = .ok (.iaload, 1) := by decide +kernel
theorem dX12_chance_103 : decode cX12_chance 103 = .ok (.if_icmp .ge 57, 3) := by decide +kernel
theorem dX12_chance_106 : decode cX12_chance 106 = .ok (.lload 8, 2) := by decide +kernel
theorem dX12_chance_108 : decode cX12_chance 108 = .ok (.iload 10, 2) := by decide +kernel
theorem dX12_chance_110 : decode cX12_chance 110 = .ok (.iload_n 1, 1) := by decide +kernel
theorem dX12_chance_111 : decode cX12_chance 111 = .ok (.if_icmp .ne 7, 3) := by decide +kernel
theorem dX12_chance_114 : decode cX12_chance 114 = .ok (.lconst 1, 1) := by decide +kernel
theorem dX12_chance_115 : decode cX12_chance 115 = .ok (.goto 36, 3) := by decide +kernel
theorem dX12_chance_118 : decode cX12_chance 118 = .ok (.iload 7, 2) := by decide +kernel
theorem dX12_chance_120 : decode cX12_chance 120 = .ok (.iload 10, 2) := by decide +kernel
theorem dX12_chance_122 : decode cX12_chance 122 = .ok (.ishr, 1) := by decide +kernel
theorem dX12_chance_123 : decode cX12_chance 123 = .ok (.iconst 1, 1) := by decide +kernel
theorem dX12_chance_124 : decode cX12_chance 124 = .ok (.iand, 1) := by decide +kernel
theorem dX12_chance_125 : decode cX12_chance 125 = .ok (.iconst 1, 1) := by decide +kernel
theorem dX12_chance_126 : decode cX12_chance 126 = .ok (.if_icmp .ne 14, 3) := by decide +kernel
theorem dX12_chance_129 : decode cX12_chance 129 = .ok (.aload_n 0, 1) := by decide +kernel
theorem dX12_chance_130 : decode cX12_chance 130 = .ok (.getfield 50, 3) := by decide +kernel
theorem dX12_chance_133 : decode cX12_chance 133 = .ok (.iload 10, 2) := by decide +kernel
theorem dX12_chance_135 : decode cX12_chance 135 = .ok (.iaload, 1) := by decide +kernel
theorem dX12_chance_136 : decode cX12_chance 136 = .ok (.i2l, 1) := by decide +kernel
theorem dX12_chance_137 : decode cX12_chance 137 = .ok (.goto 14, 3) := by decide +kernel
theorem dX12_chance_140 : decode cX12_chance 140 = .ok (.bipush 10, 2) := by decide +kernel
theorem dX12_chance_142 : decode cX12_chance 142 = .ok (.aload_n 0, 1) := by decide +kernel
theorem dX12_chance_143 : decode cX12_chance 143 = .ok (.getfield 50, 3) := by decide +kernel
theorem dX12_chance_146 : decode cX12_chance 146 = .ok (.iload 10, 2) := by decide +kernel
theorem dX12_chance_148 : decode cX12_chance 148 = .ok (.iaload, 1) := by decide +kernel
theorem dX12_chance_149 : decode cX12_chance 149 = .ok (.isub, 1) := by decide +kernel
theorem dX12_chance_150 : decode cX12_chance 150 = .ok (.i2l, 1) := by decide +kernel
theorem dX12_chance_151 : decode cX12_chance 151 = .ok (.lmul, 1) := by decide +kernel
theorem dX12_chance_152 : decode cX12_chance 152 = .ok (.lstore 8, 2) := by decide +kernel
theorem dX12_chance_154 : decode cX12_chance 154 = .ok (.iinc 10 1, 3) := by decide +kernel
theorem dX12_chance_157 : decode cX12_chance 157 = .ok (.goto (-62), 3) := by decide +kernel
theorem dX12_chance_160 : decode cX12_chance 160 = .ok (.lload 8, 2) := by decide +kernel
theorem dX12_chance_162 : decode cX12_chance 162 = .ok (.lconst 0, 1) := by decide +kernel
theorem dX12_chance_163 : decode cX12_chance 163 = .ok (.lcmp, 1) := by decide +kernel
theorem dX12_chance_164 : decode cX12_chance 164 = .ok (.ifCond .ne 6, 3) := by decide +kernel
theorem dX12_chance_167 : decode cX12_chance 167 = .ok (.goto 32, 3) := by decide +kernel
theorem dX12_chance_170 : decode cX12_chance 170 = .ok (.aload_n 0, 1) := by decide +kernel
theorem dX12_chance_171 : decode cX12_chance 171 = .ok (.getfield 141, 3) := by decide +kernel
theorem dX12_chance_174 : decode cX12_chance 174 = .ok (.iconst 0, 1) := by decide +kernel
theorem dX12_chance_175 : decode cX12_chance 175 = .ok (.iload 7, 2) := by decide +kernel
theorem dX12_chance_177 : decode cX12_chance 177 = .ok (.iastore, 1) := by decide +kernel
theorem dX12_chance_178 : decode cX12_chance 178 = .ok (.aload_n 0, 1) := by decide +kernel
theorem dX12_chance_179 : decode cX12_chance 179 = .ok (.invokevirtual 528, 3) := by decide +kernel
theorem dX12_chance_182 : decode cX12_chance 182 = .ok (.lload_n 3, 1) := by decide +kernel
theorem dX12_chance_183 : decode cX12_chance 183 = .ok (.aload_n 0, 1) := by decide +kernel
theorem dX12_chance_184 : decode cX12_chance 184 = .ok (.iload_n 1, 1) := by decide +kernel
theorem dX12_chance_185 : decode cX12_chance 185 = .ok (.invokevirtual 561, 3) := by decide +kernel
theorem dX12_chance_188 : decode cX12_chance 188 = .ok (.ifCond .eq 8, 3) := by decide +kernel
theorem dX12_chance_191 : decode cX12_chance 191 = .ok (.lload 8, 2) := by decide +kernel
theorem dX12_chance_193 : decode cX12_chance 193 = .ok (.goto 4, 3) := by decide +kernel
theorem dX12_chance_196 : decode cX12_chance 196 = .ok (.lconst 0, 1) := by decide +kernel
theorem dX12_chance_197 : decode cX12_chance 197 = .ok (.ladd, 1) := by decide +kernel
theorem dX12_chance_198 : decode cX12_chance 198 = .ok (.lstore_n 3, 1) := by decide +kernel
theorem dX12_chance_199 : decode cX12_chance 199 = .ok (.iinc 7 1, 3) := by decide +kernel
theorem dX12_chance_202 : decode cX12_chance 202 = .ok (.goto (-134), 3) := by decide +kernel
theorem dX12_chance_205 : decode cX12_chance 205 = .ok (.aload_n 0, 1) := by decide +kernel
theorem dX12_chance_206 : decode cX12_chance 206 = .ok (.getfield 141, 3) := by decide +kernel
theorem dX12_chance_209 : decode cX12_chance 209 = .ok (.iconst 0, 1) := by decide +kernel
theorem dX12_chance_210 : decode cX12_chance 210 = .ok (.iload_n 2, 1) := by decide +kernel
theorem dX12_chance_211 : decode cX12_chance 211 = .ok (.iastore, 1) := by decide +kernel
theorem dX12_chance_212 : decode cX12_chance 212 = .ok (.lload_n 3, 1) := by decide +kernel
theorem dX12_chance_213 : decode cX12_chance 213 = .ok (.ldc2_w 564, 3) := by decide +kernel
theorem dX12_chance_216 : decode cX12_chance 216 = .ok (.lmul, 1) := by decide +kernel
theorem dX12_chance_217 : decode cX12_chance 217 = .ok (.lload 5, 2) := by decide +kernel
theorem dX12_chance_219 : decode cX12_chance 219 = .ok (.ldiv, 1) := by decide +kernel
theorem dX12_chance_220 : decode cX12_chance 220 = .ok (.l2i, 1) := by decide +kernel
theorem dX12_chance_221 : decode cX12_chance 221 = .ok (.ireturn, 1) := by decide +kernel
theorem dX12_rests_0 : decode cX12_rests 0 = .ok (.aload_n 0, 1) := by decide +kernel
theorem dX12_rests_1 : decode cX12_rests 1 = .ok (.iload_n 1, 1) := by decide +kernel
theorem dX12_rests_2 : decode cX12_rests 2 = .ok (.ifCond .lt 32, 3) := by decide +kernel
theorem dX12_rests_5 : decode cX12_rests 5 = .ok (.iload_n 1, 1) := by decide +kernel
theorem dX12_rests_6 : decode cX12_rests 6 = .ok (.aload_n 0, 1) := by decide +kernel
theorem dX12_rests_7 : decode cX12_rests 7 = .ok (.invokevirtual 558, 3) := by decide +kernel
theorem dX12_rests_10 : decode cX12_rests 10 = .ok (.if_icmp .gt 24, 3) := by decide +kernel
theorem dX12_rests_13 : decode cX12_rests 13 = .ok (.iload_n 1, 1) := by decide +kernel
theorem dX12_rests_14 : decode cX12_rests 14 = .ok (.invokestatic 504, 3) := by decide +kernel
theorem dX12_rests_17 : decode cX12_rests 17 = .ok (.iconst 1, 1) := by decide +kernel
theorem dX12_rests_18 : decode cX12_rests 18 = .ok (.iconst 4, 1) := by decide +kernel
theorem dX12_rests_19 : decode cX12_rests 19 = .ok (.invokestatic 343, 3) := by decide +kernel
theorem dX12_rests_22 : decode cX12_rests 22 = .ok (.ifCond .eq 12, 3) := by decide +kernel
theorem dX12_rests_25 : decode cX12_rests 25 = .ok (.iload_n 2, 1) := by decide +kernel
theorem dX12_rests_26 : decode cX12_rests 26 = .ok (.iconst (-1), 1) := by decide +kernel
theorem dX12_rests_27 : decode cX12_rests 27 = .ok (.if_icmp .lt 7, 3) := by decide +kernel
theorem dX12_rests_30 : decode cX12_rests 30 = .ok (.iconst 0, 1) := by decide +kernel
theorem dX12_rests_31 : decode cX12_rests 31 = .ok (.goto 4, 3) := by decide +kernel
theorem dX12_rests_34 : decode cX12_rests 34 = .ok (.iconst 1, 1) := by decide +kernel
theorem dX12_rests_35 : decode cX12_rests 35 = .ok (.putfield 194, 3) := by decide +kernel
theorem dX12_rests_38 : decode cX12_rests 38 = .ok (.aload_n 0, 1) := by decide +kernel
theorem dX12_rests_39 : decode cX12_rests 39 = .ok (.getfield 194, 3) := by decide +kernel
theorem dX12_rests_42 : decode cX12_rests 42 = .ok (.iconst 1, 1) := by decide +kernel
theorem dX12_rests_43 : decode cX12_rests 43 = .ok (.if_icmp .ne 5, 3) := by decide +kernel
theorem dX12_rests_46 : decode cX12_rests 46 = .ok (.iconst 0, 1) := by decide +kernel
theorem dX12_rests_47 : decode cX12_rests 47 = .ok (.ireturn, 1) := by decide +kernel
theorem dX12_rests_48 : decode cX12_rests 48 = .ok (.aload_n 0, 1) := by decide +kernel
theorem dX12_rests_49 : decode cX12_rests 49 = .ok (.getfield 141, 3) := by decide +kernel
theorem dX12_rests_52 : decode cX12_rests 52 = .ok (.iconst 0, 1) := by decide +kernel
theorem dX12_rests_53 : decode cX12_rests 53 = .ok (.iaload, 1) := by decide +kernel
theorem dX12_rests_54 : decode cX12_rests 54 = .ok (.istore_n 3, 1) := by decide +kernel
theorem dX12_rests_55 : decode cX12_rests 55 = .ok (.iconst 0, 1) := by decide +kernel
theorem dX12_rests_56 : decode cX12_rests 56 = .ok (.istore 4, 2) := by decide +kernel
theorem dX12_rests_58 : decode cX12_rests 58 = .ok (.iload 4, 2) := by decide +kernel
theorem dX12_rests_60 : decode cX12_rests 60 = .ok (.aload_n 0, 1) := by decide +kernel
theorem dX12_rests_61 : decode cX12_rests 61 = .ok (.invokevirtual 558, 3) := by decide +kernel
theorem dX12_rests_64 : decode cX12_rests 64 = .ok (.if_icmp .gt 116, 3) := by decide +kernel
theorem dX12_rests_67 : decode cX12_rests 67 = .ok (.iload 4, 2) := by decide +kernel
theorem dX12_rests_69 : decode cX12_rests 69 = .ok (.iload_n 1, 1) := by decide +kernel
theorem dX12_rests_70 : decode cX12_rests 70 = .ok (.iconst (-1), 1) := by decide +kernel
theorem dX12_rests_71 : decode cX12_rests 71 = .ok (.ixor, 1) := by decide +kernel
theorem dX12_rests_72 : decode cX12_rests 72 = .ok (.iand, 1) := by decide +kernel
theorem dX12_rests_73 : decode cX12_rests 73 = .ok (.iload_n 3, 1) := by decide +kernel
theorem dX12_rests_74 : decode cX12_rests 74 = .ok (.iload_n 1, 1) := by decide +kernel
theorem dX12_rests_75 : decode cX12_rests 75 = .ok (.iconst (-1), 1) := by decide +kernel
theorem dX12_rests_76 : decode cX12_rests 76 = .ok (.ixor, 1) := by decide +kernel
theorem dX12_rests_77 : decode cX12_rests 77 = .ok (.iand, 1) := by decide +kernel
theorem dX12_rests_78 : decode cX12_rests 78 = .ok (.if_icmp .eq 6, 3) := by decide +kernel
theorem dX12_rests_81 : decode cX12_rests 81 = .ok (.goto 93, 3) := by decide +kernel
theorem dX12_rests_84 : decode cX12_rests 84 = .ok (.aload_n 0, 1) := by decide +kernel
theorem dX12_rests_85 : decode cX12_rests 85 = .ok (.getfield 141, 3) := by decide +kernel
theorem dX12_rests_88 : decode cX12_rests 88 = .ok (.iconst 0, 1) := by decide +kernel
theorem dX12_rests_89 : decode cX12_rests 89 = .ok (.iload 4, 2) := by decide +kernel
theorem dX12_rests_91 : decode cX12_rests 91 = .ok (.iastore, 1) := by decide +kernel
theorem dX12_rests_92 : decode cX12_rests 92 = .ok (.aload_n 0, 1) := by decide +kernel
theorem dX12_rests_93 : decode cX12_rests 93 = .ok (.invokevirtual 528, 3) := by decide +kernel
theorem dX12_rests_96 : decode cX12_rests 96 = .ok (.iconst 0, 1) := by decide +kernel
theorem dX12_rests_97 : decode cX12_rests 97 = .ok (.istore 5, 2) := by decide +kernel
theorem dX12_rests_99 : decode cX12_rests 99 = .ok (.iload 5, 2) := by decide +kernel
theorem dX12_rests_101 : decode cX12_rests 101 = .ok (.bipush 6, 2) := by decide +kernel
theorem dX12_rests_103 : decode cX12_rests 103 = .ok (.if_icmp .ge 71, 3) := by decide +kernel
theorem dX12_rests_106 : decode cX12_rests 106 = .ok (.aload_n 0, 1) := by decide +kernel
theorem dX12_rests_107 : decode cX12_rests 107 = .ok (.getfield 184, 3) := by decide +kernel
theorem dX12_rests_110 : decode cX12_rests 110 = .ok (.bipush 6, 2) := by decide +kernel
theorem dX12_rests_112 : decode cX12_rests 112 = .ok (.iload 4, 2) := by decide +kernel
theorem dX12_rests_114 : decode cX12_rests 114 = .ok (.imul, 1) := by decide +kernel
theorem dX12_rests_115 : decode cX12_rests 115 = .ok (.iload 5, 2) := by decide +kernel
theorem dX12_rests_117 : decode cX12_rests 117 = .ok (.iadd, 1) := by decide +kernel
theorem dX12_rests_118 : decode cX12_rests 118 = .ok (.iload 4, 2) := by decide +kernel
theorem dX12_rests_120 : decode cX12_rests 120 = .ok (.iload 5, 2) := by decide +kernel
theorem dX12_rests_122 : decode cX12_rests 122 = .ok (.ishr, 1) := by decide +kernel
theorem dX12_rests_123 : decode cX12_rests 123 = .ok (.iconst 1, 1) := by decide +kernel
theorem dX12_rests_124 : decode cX12_rests 124 = .ok (.iand, 1) := by decide +kernel
theorem dX12_rests_125 : decode cX12_rests 125 = .ok (.ifCond .eq 12, 3) := by decide +kernel
theorem dX12_rests_128 : decode cX12_rests 128 = .ok (.aload_n 0, 1) := by decide +kernel
theorem dX12_rests_129 : decode cX12_rests 129 = .ok (.iload 5, 2) := by decide +kernel
theorem dX12_rests_131 : decode cX12_rests 131 = .ok (.invokevirtual 510, 3) := by decide +kernel
theorem dX12_rests_134 : decode cX12_rests 134 = .ok (.ifCond .ne 7, 3) := by decide +kernel
theorem dX12_rests_137 : decode cX12_rests 137 = .ok (.iconst 0, 1) := by decide +kernel
theorem dX12_rests_138 : decode cX12_rests 138 = .ok (.goto 29, 3) := by decide +kernel
theorem dX12_rests_141 : decode cX12_rests 141 = .ok (.bipush 10, 2) := by decide +kernel
theorem dX12_rests_143 : decode cX12_rests 143 = .ok (.aload_n 0, 1) := by decide +kernel
theorem dX12_rests_144 : decode cX12_rests 144 = .ok (.getfield 169, 3) := by decide +kernel
theorem dX12_rests_147 : decode cX12_rests 147 = .ok (.iload 5, 2) := by decide +kernel
theorem dX12_rests_149 : decode cX12_rests 149 = .ok (.iaload, 1) := by decide +kernel
theorem dX12_rests_150 : decode cX12_rests 150 = .ok (.invokestatic 504, 3) := by decide +kernel
theorem dX12_rests_153 : decode cX12_rests 153 = .ok (.imul, 1) := by decide +kernel
theorem dX12_rests_154 : decode cX12_rests 154 = .ok (.iconst 3, 1) := by decide +kernel
theorem dX12_rests_155 : decode cX12_rests 155 = .ok (.isub, 1) := by decide +kernel
theorem dX12_rests_156 : decode cX12_rests 156 = .ok (.bipush 50, 2) := by decide +kernel
theorem dX12_rests_158 : decode cX12_rests 158 = .ok (.aload_n 0, 1) := by decide +kernel
theorem dX12_rests_159 : decode cX12_rests 159 = .ok (.getfield 175, 3) := by decide +kernel
theorem dX12_rests_162 : decode cX12_rests 162 = .ok (.iload 5, 2) := by decide +kernel
theorem dX12_rests_164 : decode cX12_rests 164 = .ok (.iaload, 1) := by decide +kernel
theorem dX12_rests_165 : decode cX12_rests 165 = .ok (.imul, 1) := by decide +kernel
theorem dX12_rests_166 : decode cX12_rests 166 = .ok (.isub, 1) := by decide +kernel
theorem dX12_rests_167 : decode cX12_rests 167 = .ok (.iastore, 1) := by decide +kernel
theorem dX12_rests_168 : decode cX12_rests 168 = .ok (.iinc 5 1, 3) := by decide +kernel
theorem dX12_rests_171 : decode cX12_rests 171 = .ok (.goto (-72), 3) := by decide +kernel
theorem dX12_rests_174 : decode cX12_rests 174 = .ok (.iinc 4 1, 3) := by decide +kernel
theorem dX12_rests_177 : decode cX12_rests 177 = .ok (.goto (-119), 3) := by decide +kernel
theorem dX12_rests_180 : decode cX12_rests 180 = .ok (.aload_n 0, 1) := by decide +kernel
theorem dX12_rests_181 : decode cX12_rests 181 = .ok (.getfield 141, 3) := by decide +kernel
theorem dX12_rests_184 : decode cX12_rests 184 = .ok (.iconst 0, 1) := by decide +kernel
theorem dX12_rests_185 : decode cX12_rests 185 = .ok (.iload_n 3, 1) := by decide +kernel
theorem dX12_rests_186 : decode cX12_rests 186 = .ok (.iastore, 1) := by decide +kernel
theorem dX12_rests_187 : decode cX12_rests 187 = .ok (.iconst 0, 1) := by decide +kernel
theorem dX12_rests_188 : decode cX12_rests 188 = .ok (.istore 4, 2) := by decide +kernel
theorem dX12_rests_190 : decode cX12_rests 190 = .ok (.iconst 0, 1) := by decide +kernel
theorem dX12_rests_191 : decode cX12_rests 191 = .ok (.istore 5, 2) := by decide +kernel
theorem dX12_rests_193 : decode cX12_rests 193 = .ok (.iload 5, 2) := by decide +kernel
theorem dX12_rests_195 : decode cX12_rests 195 = .ok (.aload_n 0, 1) := by decide +kernel
theorem dX12_rests_196 : decode cX12_rests 196 = .ok (.invokevirtual 558, 3) := by decide +kernel
theorem dX12_rests_199 : decode cX12_rests 199 = .ok (.if_icmp .gt 118, 3) := by decide +kernel
theorem dX12_rests_202 : decode cX12_rests 202 = .ok (.iload 5, 2) := by decide +kernel
theorem dX12_rests_204 : decode cX12_rests 204 = .ok (.iload_n 1, 1) := by decide +kernel
theorem dX12_rests_205 : decode cX12_rests 205 = .ok (.iconst (-1), 1) := by decide +kernel
theorem dX12_rests_206 : decode cX12_rests 206 = .ok (.ixor, 1) := by decide +kernel
theorem dX12_rests_207 : decode cX12_rests 207 = .ok (.iand, 1) := by decide +kernel
theorem dX12_rests_208 : decode cX12_rests 208 = .ok (.iload_n 3, 1) := by decide +kernel
theorem dX12_rests_209 : decode cX12_rests 209 = .ok (.iload_n 1, 1) := by decide +kernel
theorem dX12_rests_210 : decode cX12_rests 210 = .ok (.iconst (-1), 1) := by decide +kernel
theorem dX12_rests_211 : decode cX12_rests 211 = .ok (.ixor, 1) := by decide +kernel
theorem dX12_rests_212 : decode cX12_rests 212 = .ok (.iand, 1) := by decide +kernel
theorem dX12_rests_213 : decode cX12_rests 213 = .ok (.if_icmp .eq 6, 3) := by decide +kernel
theorem dX12_rests_216 : decode cX12_rests 216 = .ok (.goto 95, 3) := by decide +kernel
theorem dX12_rests_219 : decode cX12_rests 219 = .ok (.iconst 1, 1) := by decide +kernel
theorem dX12_rests_220 : decode cX12_rests 220 = .ok (.istore 6, 2) := by decide +kernel
theorem dX12_rests_222 : decode cX12_rests 222 = .ok (.iconst 0, 1) := by decide +kernel
theorem dX12_rests_223 : decode cX12_rests 223 = .ok (.istore 7, 2) := by decide +kernel
theorem dX12_rests_225 : decode cX12_rests 225 = .ok (.iload 7, 2) := by decide +kernel
theorem dX12_rests_227 : decode cX12_rests 227 = .ok (.aload_n 0, 1) := by decide +kernel
theorem dX12_rests_228 : decode cX12_rests 228 = .ok (.getfield 13, 3) := by decide +kernel
theorem dX12_rests_231 : decode cX12_rests 231 = .ok (.iconst 2, 1) := by decide +kernel
theorem dX12_rests_232 : decode cX12_rests 232 = .ok (.iaload, 1) := by decide +kernel
theorem dX12_rests_233 : decode cX12_rests 233 = .ok (.if_icmp .ge 56, 3) := by decide +kernel
theorem dX12_rests_236 : decode cX12_rests 236 = .ok (.iload_n 1, 1) := by decide +kernel
theorem dX12_rests_237 : decode cX12_rests 237 = .ok (.iload 7, 2) := by decide +kernel
theorem dX12_rests_239 : decode cX12_rests 239 = .ok (.ishr, 1) := by decide +kernel
theorem dX12_rests_240 : decode cX12_rests 240 = .ok (.iconst 1, 1) := by decide +kernel
theorem dX12_rests_241 : decode cX12_rests 241 = .ok (.iand, 1) := by decide +kernel
theorem dX12_rests_242 : decode cX12_rests 242 = .ok (.iconst 1, 1) := by decide +kernel
theorem dX12_rests_243 : decode cX12_rests 243 = .ok (.if_icmp .ne 40, 3) := by decide +kernel
theorem dX12_rests_246 : decode cX12_rests 246 = .ok (.aload_n 0, 1) := by decide +kernel
theorem dX12_rests_247 : decode cX12_rests 247 = .ok (.getfield 184, 3) := by decide +kernel
theorem dX12_rests_250 : decode cX12_rests 250 = .ok (.bipush 6, 2) := by decide +kernel
theorem dX12_rests_252 : decode cX12_rests 252 = .ok (.iload 5, 2) := by decide +kernel
theorem dX12_rests_254 : decode cX12_rests 254 = .ok (.iconst 1, 1) := by decide +kernel
theorem dX12_rests_255 : decode cX12_rests 255 = .ok (.iload 7, 2) := by decide +kernel
theorem dX12_rests_257 : decode cX12_rests 257 = .ok (.ishl, 1) := by decide +kernel
theorem dX12_rests_258 : decode cX12_rests 258 = .ok (.ixor, 1) := by decide +kernel
theorem dX12_rests_259 : decode cX12_rests 259 = .ok (.imul, 1) := by decide +kernel
theorem dX12_rests_260 : decode cX12_rests 260 = .ok (.iload 7, 2) := by decide +kernel
theorem dX12_rests_262 : decode cX12_rests 262 = .ok (.iadd, 1) := by decide +kernel
theorem dX12_rests_263 : decode cX12_rests 263 = .ok (.iaload, 1) := by decide +kernel
theorem dX12_rests_264 : decode cX12_rests 264 = .ok (.aload_n 0, 1) := by decide +kernel
theorem dX12_rests_265 : decode cX12_rests 265 = .ok (.getfield 184, 3) := by decide +kernel
theorem dX12_rests_268 : decode cX12_rests 268 = .ok (.bipush 6, 2) := by decide +kernel
theorem dX12_rests_270 : decode cX12_rests 270 = .ok (.iload 5, 2) := by decide +kernel
theorem dX12_rests_272 : decode cX12_rests 272 = .ok (.imul, 1) := by decide +kernel
theorem dX12_rests_273 : decode cX12_rests 273 = .ok (.iload 7, 2) := by decide +kernel
theorem dX12_rests_275 : decode cX12_rests 275 = .ok (.iadd, 1) := by decide +kernel
theorem dX12_rests_276 : decode cX12_rests 276 = .ok (.iaload, 1) := by decide +kernel
theorem dX12_rests_277 : decode cX12_rests 277 = .ok (.if_icmp .le 6, 3) := by decide +kernel
theorem dX12_rests_280 : decode cX12_rests 280 = .ok (.iconst 0, 1) := by decide +kernel
theorem dX12_rests_281 : decode cX12_rests 281 = .ok (.istore 6, 2) := by decide +kernel
theorem dX12_rests_283 : decode cX12_rests 283 = .ok (.iinc 7 1, 3) := by decide +kernel
theorem dX12_rests_286 : decode cX12_rests 286 = .ok (.goto (-61), 3) := by decide +kernel
theorem dX12_rests_289 : decode cX12_rests 289 = .ok (.iload 6, 2) := by decide +kernel
theorem dX12_rests_291 : decode cX12_rests 291 = .ok (.ifCond .ne 6, 3) := by decide +kernel
theorem dX12_rests_294 : decode cX12_rests 294 = .ok (.goto 17, 3) := by decide +kernel
theorem dX12_rests_297 : decode cX12_rests 297 = .ok (.iload 4, 2) := by decide +kernel
theorem dX12_rests_299 : decode cX12_rests 299 = .ok (.iload_n 2, 1) := by decide +kernel
theorem dX12_rests_300 : decode cX12_rests 300 = .ok (.if_icmp .ne 8, 3) := by decide +kernel
theorem dX12_rests_303 : decode cX12_rests 303 = .ok (.iload 5, 2) := by decide +kernel
theorem dX12_rests_305 : decode cX12_rests 305 = .ok (.iload_n 1, 1) := by decide +kernel
theorem dX12_rests_306 : decode cX12_rests 306 = .ok (.iand, 1) := by decide +kernel
theorem dX12_rests_307 : decode cX12_rests 307 = .ok (.ireturn, 1) := by decide +kernel
theorem dX12_rests_308 : decode cX12_rests 308 = .ok (.iinc 4 1, 3) := by decide +kernel
theorem dX12_rests_311 : decode cX12_rests 311 = .ok (.iinc 5 1, 3) := by decide +kernel
theorem dX12_rests_314 : decode cX12_rests 314 = .ok (.goto (-121), 3) := by decide +kernel
theorem dX12_rests_317 : decode cX12_rests 317 = .ok (.aload_n 0, 1) := by decide +kernel
theorem dX12_rests_318 : decode cX12_rests 318 = .ok (.iload_n 2, 1) := by decide +kernel
theorem dX12_rests_319 : decode cX12_rests 319 = .ok (.iconst (-1), 1) := by decide +kernel
theorem dX12_rests_320 : decode cX12_rests 320 = .ok (.if_icmp .ne 7, 3) := by decide +kernel
theorem dX12_rests_323 : decode cX12_rests 323 = .ok (.iconst 0, 1) := by decide +kernel
theorem dX12_rests_324 : decode cX12_rests 324 = .ok (.goto 4, 3) := by decide +kernel
theorem dX12_rests_327 : decode cX12_rests 327 = .ok (.iconst 1, 1) := by decide +kernel
theorem dX12_rests_328 : decode cX12_rests 328 = .ok (.putfield 194, 3) := by decide +kernel
theorem dX12_rests_331 : decode cX12_rests 331 = .ok (.iload_n 2, 1) := by decide +kernel
theorem dX12_rests_332 : decode cX12_rests 332 = .ok (.iconst (-1), 1) := by decide +kernel
theorem dX12_rests_333 : decode cX12_rests 333 = .ok (.if_icmp .ne 8, 3) := by decide +kernel
theorem dX12_rests_336 : decode cX12_rests 336 = .ok (.iload 4, 2) := by decide +kernel
theorem dX12_rests_338 : decode cX12_rests 338 = .ok (.goto 4, 3) := by decide +kernel
theorem dX12_rests_341 : decode cX12_rests 341 = .ok (.iconst 0, 1) := by decide +kernel
theorem dX12_rests_342 : decode cX12_rests 342 = .ok (.ireturn, 1) := by decide +kernel
theorem dX12_errand_0 : decode cX12_errand 0 = .ok (.aload_n 0, 1) := by decide +kernel
theorem dX12_errand_1 : decode cX12_errand 1 = .ok (.iconst 0, 1) := by decide +kernel
theorem dX12_errand_2 : decode cX12_errand 2 = .ok (.putfield 194, 3) := by decide +kernel
theorem dX12_errand_5 : decode cX12_errand 5 = .ok (.iload_n 1, 1) := by decide +kernel
theorem dX12_errand_6 : decode cX12_errand 6 = .ok (.iconst 1, 1) := by decide +kernel
theorem dX12_errand_7 : decode cX12_errand 7 = .ok (.if_icmp .lt 20, 3) := by decide +kernel
theorem dX12_errand_10 : decode cX12_errand 10 = .ok (.iload_n 1, 1) := by decide +kernel
theorem dX12_errand_11 : decode cX12_errand 11 = .ok (.aload_n 0, 1) := by decide +kernel
theorem dX12_errand_12 : decode cX12_errand 12 = .ok (.invokevirtual 558, 3) := by decide +kernel
theorem dX12_errand_15 : decode cX12_errand 15 = .ok (.if_icmp .gt 12, 3) := by decide +kernel
theorem dX12_errand_18 : decode cX12_errand 18 = .ok (.iload_n 2, 1) := by decide +kernel
theorem dX12_errand_19 : decode cX12_errand 19 = .ok (.iconst 0, 1) := by decide +kernel
theorem dX12_errand_20 : decode cX12_errand 20 = .ok (.iconst 2, 1) := by decide +kernel
theorem dX12_errand_21 : decode cX12_errand 21 = .ok (.invokestatic 343, 3) := by decide +kernel
theorem dX12_errand_24 : decode cX12_errand 24 = .ok (.ifCond .ne 5, 3) := by decide +kernel
theorem dX12_errand_27 : decode cX12_errand 27 = .ok (.iconst (-1), 1) := by decide +kernel
theorem dX12_errand_28 : decode cX12_errand 28 = .ok (.ireturn, 1) := by decide +kernel
theorem dX12_errand_29 : decode cX12_errand 29 = .ok (.aload_n 0, 1) := by decide +kernel
theorem dX12_errand_30 : decode cX12_errand 30 = .ok (.getfield 141, 3) := by decide +kernel
theorem dX12_errand_33 : decode cX12_errand 33 = .ok (.iconst 0, 1) := by decide +kernel
theorem dX12_errand_34 : decode cX12_errand 34 = .ok (.iaload, 1) := by decide +kernel
theorem dX12_errand_35 : decode cX12_errand 35 = .ok (.istore_n 3, 1) := by decide +kernel
theorem dX12_errand_36 : decode cX12_errand 36 = .ok (.iconst 0, 1) := by decide +kernel
theorem dX12_errand_37 : decode cX12_errand 37 = .ok (.istore 4, 2) := by decide +kernel
theorem dX12_errand_39 : decode cX12_errand 39 = .ok (.iconst (-1), 1) := by decide +kernel
theorem dX12_errand_40 : decode cX12_errand 40 = .ok (.istore 5, 2) := by decide +kernel
theorem dX12_errand_42 : decode cX12_errand 42 = .ok (.iconst 0, 1) := by decide +kernel
theorem dX12_errand_43 : decode cX12_errand 43 = .ok (.istore 6, 2) := by decide +kernel
theorem dX12_errand_45 : decode cX12_errand 45 = .ok (.aload_n 0, 1) := by decide +kernel
theorem dX12_errand_46 : decode cX12_errand 46 = .ok (.iload_n 1, 1) := by decide +kernel
theorem dX12_errand_47 : decode cX12_errand 47 = .ok (.putfield 458, 3) := by decide +kernel
theorem dX12_errand_50 : decode cX12_errand 50 = .ok (.iconst 0, 1) := by decide +kernel
theorem dX12_errand_51 : decode cX12_errand 51 = .ok (.istore 7, 2) := by decide +kernel
theorem dX12_errand_53 : decode cX12_errand 53 = .ok (.iload 7, 2) := by decide +kernel
theorem dX12_errand_55 : decode cX12_errand 55 = .ok (.aload_n 0, 1) := by decide +kernel
theorem dX12_errand_56 : decode cX12_errand 56 = .ok (.getfield 13, 3) := by decide +kernel
theorem dX12_errand_59 : decode cX12_errand 59 = .ok (.iconst 2, 1) := by decide +kernel
theorem dX12_errand_60 : decode cX12_errand 60 = .ok (.iaload, 1) := by decide +kernel
theorem dX12_errand_61 : decode cX12_errand 61 = .ok (.if_icmp .ge 118, 3) := by decide +kernel
theorem dX12_errand_64 : decode cX12_errand 64 = .ok (.iload_n 1, 1) := by decide +kernel
theorem dX12_errand_65 : decode cX12_errand 65 = .ok (.iload 7, 2) := by decide +kernel
theorem dX12_errand_67 : decode cX12_errand 67 = .ok (.ishr, 1) := by decide +kernel
theorem dX12_errand_68 : decode cX12_errand 68 = .ok (.iconst 1, 1) := by decide +kernel
theorem dX12_errand_69 : decode cX12_errand 69 = .ok (.iand, 1) := by decide +kernel
theorem dX12_errand_70 : decode cX12_errand 70 = .ok (.ifCond .ne 6, 3) := by decide +kernel
theorem dX12_errand_73 : decode cX12_errand 73 = .ok (.goto 100, 3) := by decide +kernel
theorem dX12_errand_76 : decode cX12_errand 76 = .ok (.aload_n 0, 1) := by decide +kernel
theorem dX12_errand_77 : decode cX12_errand 77 = .ok (.getfield 141, 3) := by decide +kernel
theorem dX12_errand_80 : decode cX12_errand 80 = .ok (.iconst 0, 1) := by decide +kernel
theorem dX12_errand_81 : decode cX12_errand 81 = .ok (.iload_n 3, 1) := by decide +kernel
theorem dX12_errand_82 : decode cX12_errand 82 = .ok (.iload_n 1, 1) := by decide +kernel
theorem dX12_errand_83 : decode cX12_errand 83 = .ok (.iconst (-1), 1) := by decide +kernel
theorem dX12_errand_84 : decode cX12_errand 84 = .ok (.ixor, 1) := by decide +kernel
theorem dX12_errand_85 : decode cX12_errand 85 = .ok (.iand, 1) := by decide +kernel
theorem dX12_errand_86 : decode cX12_errand 86 = .ok (.iconst 1, 1) := by decide +kernel
theorem dX12_errand_87 : decode cX12_errand 87 = .ok (.iload 7, 2) := by decide +kernel
theorem dX12_errand_89 : decode cX12_errand 89 = .ok (.ishl, 1) := by decide +kernel
theorem dX12_errand_90 : decode cX12_errand 90 = .ok (.ior, 1) := by decide +kernel
theorem dX12_errand_91 : decode cX12_errand 91 = .ok (.iastore, 1) := by decide +kernel
theorem dX12_errand_92 : decode cX12_errand 92 = .ok (.aload_n 0, 1) := by decide +kernel
theorem dX12_errand_93 : decode cX12_errand 93 = .ok (.iload 7, 2) := by decide +kernel
theorem dX12_errand_95 : decode cX12_errand 95 = .ok (.putfield 156, 3) := by decide +kernel
theorem dX12_errand_98 : decode cX12_errand 98 = .ok (.aload_n 0, 1) := by decide +kernel
theorem dX12_errand_99 : decode cX12_errand 99 = .ok (.invokevirtual 528, 3) := by decide +kernel
theorem dX12_errand_102 : decode cX12_errand 102 = .ok (.aload_n 0, 1) := by decide +kernel
theorem dX12_errand_103 : decode cX12_errand 103 = .ok (.getfield 166, 3) := by decide +kernel
theorem dX12_errand_106 : decode cX12_errand 106 = .ok (.iload 7, 2) := by decide +kernel
theorem dX12_errand_108 : decode cX12_errand 108 = .ok (.iaload, 1) := by decide +kernel
theorem dX12_errand_109 : decode cX12_errand 109 = .ok (.ifCond .lt 64, 3) := by decide +kernel
theorem dX12_errand_112 : decode cX12_errand 112 = .ok (.aload_n 0, 1) := by decide +kernel
theorem dX12_errand_113 : decode cX12_errand 113 = .ok (.getfield 166, 3) := by decide +kernel
theorem dX12_errand_116 : decode cX12_errand 116 = .ok (.iload 7, 2) := by decide +kernel
theorem dX12_errand_118 : decode cX12_errand 118 = .ok (.iaload, 1) := by decide +kernel
theorem dX12_errand_119 : decode cX12_errand 119 = .ok (.aload_n 0, 1) := by decide +kernel
theorem dX12_errand_120 : decode cX12_errand 120 = .ok (.iload 7, 2) := by decide +kernel
theorem dX12_errand_122 : decode cX12_errand 122 = .ok (.invokevirtual 482, 3) := by decide +kernel
theorem dX12_errand_125 : decode cX12_errand 125 = .ok (.if_icmp .le 6, 3) := by decide +kernel
theorem dX12_errand_128 : decode cX12_errand 128 = .ok (.goto 45, 3) := by decide +kernel
theorem dX12_errand_131 : decode cX12_errand 131 = .ok (.iload 4, 2) := by decide +kernel
theorem dX12_errand_133 : decode cX12_errand 133 = .ok (.iconst 1, 1) := by decide +kernel
theorem dX12_errand_134 : decode cX12_errand 134 = .ok (.iload 7, 2) := by decide +kernel
theorem dX12_errand_136 : decode cX12_errand 136 = .ok (.ishl, 1) := by decide +kernel
theorem dX12_errand_137 : decode cX12_errand 137 = .ok (.ior, 1) := by decide +kernel
theorem dX12_errand_138 : decode cX12_errand 138 = .ok (.istore 4, 2) := by decide +kernel
theorem dX12_errand_140 : decode cX12_errand 140 = .ok (.iload 5, 2) := by decide +kernel
theorem dX12_errand_142 : decode cX12_errand 142 = .ok (.ifCond .lt 18, 3) := by decide +kernel
theorem dX12_errand_145 : decode cX12_errand 145 = .ok (.aload_n 0, 1) := by decide +kernel
theorem dX12_errand_146 : decode cX12_errand 146 = .ok (.getfield 166, 3) := by decide +kernel
theorem dX12_errand_149 : decode cX12_errand 149 = .ok (.iload 7, 2) := by decide +kernel
theorem dX12_errand_151 : decode cX12_errand 151 = .ok (.iaload, 1) := by decide +kernel
theorem dX12_errand_152 : decode cX12_errand 152 = .ok (.iload 6, 2) := by decide +kernel
theorem dX12_errand_154 : decode cX12_errand 154 = .ok (.if_icmp .lt 6, 3) := by decide +kernel
theorem dX12_errand_157 : decode cX12_errand 157 = .ok (.goto 16, 3) := by decide +kernel
theorem dX12_errand_160 : decode cX12_errand 160 = .ok (.iload 7, 2) := by decide +kernel
theorem dX12_errand_162 : decode cX12_errand 162 = .ok (.istore 5, 2) := by decide +kernel
theorem dX12_errand_164 : decode cX12_errand 164 = .ok (.aload_n 0, 1) := by decide +kernel
theorem dX12_errand_165 : decode cX12_errand 165 = .ok (.getfield 166, 3) := by decide +kernel
theorem dX12_errand_168 : decode cX12_errand 168 = .ok (.iload 7, 2) := by decide +kernel
theorem dX12_errand_170 : decode cX12_errand 170 = .ok (.iaload, 1) := by decide +kernel
theorem dX12_errand_171 : decode cX12_errand 171 = .ok (.istore 6, 2) := by decide +kernel
theorem dX12_errand_173 : decode cX12_errand 173 = .ok (.iinc 7 1, 3) := by decide +kernel
theorem dX12_errand_176 : decode cX12_errand 176 = .ok (.goto (-123), 3) := by decide +kernel
theorem dX12_errand_179 : decode cX12_errand 179 = .ok (.aload_n 0, 1) := by decide +kernel
theorem dX12_errand_180 : decode cX12_errand 180 = .ok (.iconst (-1), 1) := by decide +kernel
theorem dX12_errand_181 : decode cX12_errand 181 = .ok (.putfield 156, 3) := by decide +kernel
theorem dX12_errand_184 : decode cX12_errand 184 = .ok (.aload_n 0, 1) := by decide +kernel
theorem dX12_errand_185 : decode cX12_errand 185 = .ok (.getfield 141, 3) := by decide +kernel
theorem dX12_errand_188 : decode cX12_errand 188 = .ok (.iconst 0, 1) := by decide +kernel
theorem dX12_errand_189 : decode cX12_errand 189 = .ok (.iload_n 3, 1) := by decide +kernel
theorem dX12_errand_190 : decode cX12_errand 190 = .ok (.iastore, 1) := by decide +kernel
theorem dX12_errand_191 : decode cX12_errand 191 = .ok (.iload_n 2, 1) := by decide +kernel
theorem dX12_errand_192 : decode cX12_errand 192 = .ok (.ifCond .ne 6, 3) := by decide +kernel
theorem dX12_errand_195 : decode cX12_errand 195 = .ok (.iload 4, 2) := by decide +kernel
theorem dX12_errand_197 : decode cX12_errand 197 = .ok (.ireturn, 1) := by decide +kernel
theorem dX12_errand_198 : decode cX12_errand 198 = .ok (.iload 5, 2) := by decide +kernel
theorem dX12_errand_200 : decode cX12_errand 200 = .ok (.ifCond .ge 7, 3) := by decide +kernel
theorem dX12_errand_203 : decode cX12_errand 203 = .ok (.iconst (-1), 1) := by decide +kernel
theorem dX12_errand_204 : decode cX12_errand 204 = .ok (.goto 15, 3) := by decide +kernel
theorem dX12_errand_207 : decode cX12_errand 207 = .ok (.iload_n 2, 1) := by decide +kernel
theorem dX12_errand_208 : decode cX12_errand 208 = .ok (.iconst 1, 1) := by decide +kernel
theorem dX12_errand_209 : decode cX12_errand 209 = .ok (.if_icmp .ne 8, 3) := by decide +kernel
theorem dX12_errand_212 : decode cX12_errand 212 = .ok (.iload 5, 2) := by decide +kernel
theorem dX12_errand_214 : decode cX12_errand 214 = .ok (.goto 5, 3) := by decide +kernel
theorem dX12_errand_217 : decode cX12_errand 217 = .ok (.iload 6, 2) := by decide +kernel
theorem dX12_errand_219 : decode cX12_errand 219 = .ok (.ireturn, 1) := by decide +kernel
theorem dX12_table_0 : decode cX12_table 0 = .ok (.aload_n 0, 1) := by decide +kernel
theorem dX12_table_1 : decode cX12_table 1 = .ok (.iconst 0, 1) := by decide +kernel
theorem dX12_table_2 : decode cX12_table 2 = .ok (.putfield 194, 3) := by decide +kernel
theorem dX12_table_5 : decode cX12_table 5 = .ok (.iload_n 1, 1) := by decide +kernel
theorem dX12_table_6 : decode cX12_table 6 = .ok (.iconst 1, 1) := by decide +kernel
theorem dX12_table_7 : decode cX12_table 7 = .ok (.iconst 2, 1) := by decide +kernel
theorem dX12_table_8 : decode cX12_table 8 = .ok (.invokestatic 343, 3) := by decide +kernel
theorem dX12_table_11 : decode cX12_table 11 = .ok (.ifCond .eq 12, 3) := by decide +kernel
theorem dX12_table_14 : decode cX12_table 14 = .ok (.iload_n 2, 1) := by decide +kernel
theorem dX12_table_15 : decode cX12_table 15 = .ok (.iconst 0, 1) := by decide +kernel
theorem dX12_table_16 : decode cX12_table 16 = .ok (.iconst 2, 1) := by decide +kernel
theorem dX12_table_17 : decode cX12_table 17 = .ok (.invokestatic 343, 3) := by decide +kernel
theorem dX12_table_20 : decode cX12_table 20 = .ok (.ifCond .ne 5, 3) := by decide +kernel
theorem dX12_table_23 : decode cX12_table 23 = .ok (.iconst (-1), 1) := by decide +kernel
theorem dX12_table_24 : decode cX12_table 24 = .ok (.ireturn, 1) := by decide +kernel
theorem dX12_table_25 : decode cX12_table 25 = .ok (.aload_n 0, 1) := by decide +kernel
theorem dX12_table_26 : decode cX12_table 26 = .ok (.getfield 141, 3) := by decide +kernel
theorem dX12_table_29 : decode cX12_table 29 = .ok (.iconst 3, 1) := by decide +kernel
theorem dX12_table_30 : decode cX12_table 30 = .ok (.iaload, 1) := by decide +kernel
theorem dX12_table_31 : decode cX12_table 31 = .ok (.istore_n 3, 1) := by decide +kernel
theorem dX12_table_32 : decode cX12_table 32 = .ok (.aload_n 0, 1) := by decide +kernel
theorem dX12_table_33 : decode cX12_table 33 = .ok (.getfield 141, 3) := by decide +kernel
theorem dX12_table_36 : decode cX12_table 36 = .ok (.iconst 3, 1) := by decide +kernel
theorem dX12_table_37 : decode cX12_table 37 = .ok (.iload_n 1, 1) := by decide +kernel
theorem dX12_table_38 : decode cX12_table 38 = .ok (.iastore, 1) := by decide +kernel
theorem dX12_table_39 : decode cX12_table 39 = .ok (.aload_n 0, 1) := by decide +kernel
theorem dX12_table_40 : decode cX12_table 40 = .ok (.iload_n 2, 1) := by decide +kernel
theorem dX12_table_41 : decode cX12_table 41 = .ok (.putfield 470, 3) := by decide +kernel
theorem dX12_table_44 : decode cX12_table 44 = .ok (.aload_n 0, 1) := by decide +kernel
theorem dX12_table_45 : decode cX12_table 45 = .ok (.invokevirtual 528, 3) := by decide +kernel
theorem dX12_table_48 : decode cX12_table 48 = .ok (.aload_n 0, 1) := by decide +kernel
theorem dX12_table_49 : decode cX12_table 49 = .ok (.iconst 0, 1) := by decide +kernel
theorem dX12_table_50 : decode cX12_table 50 = .ok (.putfield 470, 3) := by decide +kernel
theorem dX12_table_53 : decode cX12_table 53 = .ok (.aload_n 0, 1) := by decide +kernel
theorem dX12_table_54 : decode cX12_table 54 = .ok (.getfield 141, 3) := by decide +kernel
theorem dX12_table_57 : decode cX12_table 57 = .ok (.iconst 3, 1) := by decide +kernel
theorem dX12_table_58 : decode cX12_table 58 = .ok (.iload_n 3, 1) := by decide +kernel
theorem dX12_table_59 : decode cX12_table 59 = .ok (.iastore, 1) := by decide +kernel
theorem dX12_table_60 : decode cX12_table 60 = .ok (.aload_n 0, 1) := by decide +kernel
theorem dX12_table_61 : decode cX12_table 61 = .ok (.invokevirtual 540, 3) := by decide +kernel
theorem dX12_table_64 : decode cX12_table 64 = .ok (.ireturn, 1) := by decide +kernel
theorem dX12_stand_0 : decode cX12_stand 0 = .ok (.aload_n 0, 1) := by decide +kernel
theorem dX12_stand_1 : decode cX12_stand 1 = .ok (.iconst 0, 1) := by decide +kernel
theorem dX12_stand_2 : decode cX12_stand 2 = .ok (.putfield 194, 3) := by decide +kernel
theorem dX12_stand_5 : decode cX12_stand 5 = .ok (.aload_n 0, 1) := by decide +kernel
theorem dX12_stand_6 : decode cX12_stand 6 = .ok (.getfield 141, 3) := by decide +kernel
theorem dX12_stand_9 : decode cX12_stand 9 = .ok (.iconst 2, 1) := by decide +kernel
theorem dX12_stand_10 : decode cX12_stand 10 = .ok (.iaload, 1) := by decide +kernel
theorem dX12_stand_11 : decode cX12_stand 11 = .ok (.istore_n 1, 1) := by decide +kernel
theorem dX12_stand_12 : decode cX12_stand 12 = .ok (.iconst 0, 1) := by decide +kernel
theorem dX12_stand_13 : decode cX12_stand 13 = .ok (.istore_n 2, 1) := by decide +kernel
theorem dX12_stand_14 : decode cX12_stand 14 = .ok (.iconst (-1), 1) := by decide +kernel
theorem dX12_stand_15 : decode cX12_stand 15 = .ok (.istore_n 3, 1) := by decide +kernel
theorem dX12_stand_16 : decode cX12_stand 16 = .ok (.iconst 0, 1) := by decide +kernel
theorem dX12_stand_17 : decode cX12_stand 17 = .ok (.istore 4, 2) := by decide +kernel
theorem dX12_stand_19 : decode cX12_stand 19 = .ok (.iload 4, 2) := by decide +kernel
theorem dX12_stand_21 : decode cX12_stand 21 = .ok (.sipush 200, 3) := by decide +kernel
theorem dX12_stand_24 : decode cX12_stand 24 = .ok (.if_icmp .gt 40, 3) := by decide +kernel
theorem dX12_stand_27 : decode cX12_stand 27 = .ok (.aload_n 0, 1) := by decide +kernel
theorem dX12_stand_28 : decode cX12_stand 28 = .ok (.getfield 141, 3) := by decide +kernel
theorem dX12_stand_31 : decode cX12_stand 31 = .ok (.iconst 2, 1) := by decide +kernel
theorem dX12_stand_32 : decode cX12_stand 32 = .ok (.iload 4, 2) := by decide +kernel
theorem dX12_stand_34 : decode cX12_stand 34 = .ok (.iastore, 1) := by decide +kernel
theorem dX12_stand_35 : decode cX12_stand 35 = .ok (.aload_n 0, 1) := by decide +kernel
theorem dX12_stand_36 : decode cX12_stand 36 = .ok (.invokevirtual 528, 3) := by decide +kernel
theorem dX12_stand_39 : decode cX12_stand 39 = .ok (.aload_n 0, 1) := by decide +kernel
theorem dX12_stand_40 : decode cX12_stand 40 = .ok (.invokevirtual 540, 3) := by decide +kernel
theorem dX12_stand_43 : decode cX12_stand 43 = .ok (.iload_n 3, 1) := by decide +kernel
theorem dX12_stand_44 : decode cX12_stand 44 = .ok (.if_icmp .gt 6, 3) := by decide +kernel
theorem dX12_stand_47 : decode cX12_stand 47 = .ok (.goto 11, 3) := by decide +kernel
theorem dX12_stand_50 : decode cX12_stand 50 = .ok (.aload_n 0, 1) := by decide +kernel
theorem dX12_stand_51 : decode cX12_stand 51 = .ok (.invokevirtual 540, 3) := by decide +kernel
theorem dX12_stand_54 : decode cX12_stand 54 = .ok (.istore_n 3, 1) := by decide +kernel
theorem dX12_stand_55 : decode cX12_stand 55 = .ok (.iload 4, 2) := by decide +kernel
theorem dX12_stand_57 : decode cX12_stand 57 = .ok (.istore_n 2, 1) := by decide +kernel
theorem dX12_stand_58 : decode cX12_stand 58 = .ok (.iinc 4 10, 3) := by decide +kernel
theorem dX12_stand_61 : decode cX12_stand 61 = .ok (.goto (-42), 3) := by decide +kernel
theorem dX12_stand_64 : decode cX12_stand 64 = .ok (.aload_n 0, 1) := by decide +kernel
theorem dX12_stand_65 : decode cX12_stand 65 = .ok (.getfield 141, 3) := by decide +kernel
theorem dX12_stand_68 : decode cX12_stand 68 = .ok (.iconst 2, 1) := by decide +kernel
theorem dX12_stand_69 : decode cX12_stand 69 = .ok (.iload_n 1, 1) := by decide +kernel
theorem dX12_stand_70 : decode cX12_stand 70 = .ok (.iastore, 1) := by decide +kernel
theorem dX12_stand_71 : decode cX12_stand 71 = .ok (.iload_n 2, 1) := by decide +kernel
theorem dX12_stand_72 : decode cX12_stand 72 = .ok (.ireturn, 1) := by decide +kernel
theorem dX12_ring_0 : decode cX12_ring 0 = .ok (.aload_n 0, 1) := by decide +kernel
theorem dX12_ring_1 : decode cX12_ring 1 = .ok (.iconst 0, 1) := by decide +kernel
theorem dX12_ring_2 : decode cX12_ring 2 = .ok (.putfield 194, 3) := by decide +kernel
theorem dX12_ring_5 : decode cX12_ring 5 = .ok (.aload_n 0, 1) := by decide +kernel
theorem dX12_ring_6 : decode cX12_ring 6 = .ok (.getfield 141, 3) := by decide +kernel
theorem dX12_ring_9 : decode cX12_ring 9 = .ok (.iconst 1, 1) := by decide +kernel
theorem dX12_ring_10 : decode cX12_ring 10 = .ok (.iaload, 1) := by decide +kernel
theorem dX12_ring_11 : decode cX12_ring 11 = .ok (.istore_n 1, 1) := by decide +kernel
theorem dX12_ring_12 : decode cX12_ring 12 = .ok (.iconst (-1), 1) := by decide +kernel
theorem dX12_ring_13 : decode cX12_ring 13 = .ok (.istore_n 2, 1) := by decide +kernel
theorem dX12_ring_14 : decode cX12_ring 14 = .ok (.iconst (-1), 1) := by decide +kernel
theorem dX12_ring_15 : decode cX12_ring 15 = .ok (.istore_n 3, 1) := by decide +kernel
theorem dX12_ring_16 : decode cX12_ring 16 = .ok (.iconst 1, 1) := by decide +kernel
theorem dX12_ring_17 : decode cX12_ring 17 = .ok (.istore 4, 2) := by decide +kernel
theorem dX12_ring_19 : decode cX12_ring 19 = .ok (.iload 4, 2) := by decide +kernel
theorem dX12_ring_21 : decode cX12_ring 21 = .ok (.aload_n 0, 1) := by decide +kernel
theorem dX12_ring_22 : decode cX12_ring 22 = .ok (.getfield 13, 3) := by decide +kernel
theorem dX12_ring_25 : decode cX12_ring 25 = .ok (.iconst 3, 1) := by decide +kernel
theorem dX12_ring_26 : decode cX12_ring 26 = .ok (.iaload, 1) := by decide +kernel
theorem dX12_ring_27 : decode cX12_ring 27 = .ok (.if_icmp .gt 47, 3) := by decide +kernel
theorem dX12_ring_30 : decode cX12_ring 30 = .ok (.aload_n 0, 1) := by decide +kernel
theorem dX12_ring_31 : decode cX12_ring 31 = .ok (.getfield 141, 3) := by decide +kernel
theorem dX12_ring_34 : decode cX12_ring 34 = .ok (.iconst 1, 1) := by decide +kernel
theorem dX12_ring_35 : decode cX12_ring 35 = .ok (.iload 4, 2) := by decide +kernel
theorem dX12_ring_37 : decode cX12_ring 37 = .ok (.iastore, 1) := by decide +kernel
theorem dX12_ring_38 : decode cX12_ring 38 = .ok (.aload_n 0, 1) := by decide +kernel
theorem dX12_ring_39 : decode cX12_ring 39 = .ok (.invokevirtual 528, 3) := by decide +kernel
theorem dX12_ring_42 : decode cX12_ring 42 = .ok (.aload_n 0, 1) := by decide +kernel
theorem dX12_ring_43 : decode cX12_ring 43 = .ok (.invokevirtual 549, 3) := by decide +kernel
theorem dX12_ring_46 : decode cX12_ring 46 = .ok (.ifCond .gt 22, 3) := by decide +kernel
theorem dX12_ring_49 : decode cX12_ring 49 = .ok (.aload_n 0, 1) := by decide +kernel
theorem dX12_ring_50 : decode cX12_ring 50 = .ok (.invokevirtual 540, 3) := by decide +kernel
theorem dX12_ring_53 : decode cX12_ring 53 = .ok (.iload_n 3, 1) := by decide +kernel
theorem dX12_ring_54 : decode cX12_ring 54 = .ok (.if_icmp .gt 6, 3) := by decide +kernel
theorem dX12_ring_57 : decode cX12_ring 57 = .ok (.goto 11, 3) := by decide +kernel
theorem dX12_ring_60 : decode cX12_ring 60 = .ok (.aload_n 0, 1) := by decide +kernel
theorem dX12_ring_61 : decode cX12_ring 61 = .ok (.invokevirtual 540, 3) := by decide +kernel
theorem dX12_ring_64 : decode cX12_ring 64 = .ok (.istore_n 3, 1) := by decide +kernel
theorem dX12_ring_65 : decode cX12_ring 65 = .ok (.iload 4, 2) := by decide +kernel
theorem dX12_ring_67 : decode cX12_ring 67 = .ok (.istore_n 2, 1) := by decide +kernel
theorem dX12_ring_68 : decode cX12_ring 68 = .ok (.iinc 4 1, 3) := by decide +kernel
theorem dX12_ring_71 : decode cX12_ring 71 = .ok (.goto (-52), 3) := by decide +kernel
theorem dX12_ring_74 : decode cX12_ring 74 = .ok (.aload_n 0, 1) := by decide +kernel
theorem dX12_ring_75 : decode cX12_ring 75 = .ok (.getfield 141, 3) := by decide +kernel
theorem dX12_ring_78 : decode cX12_ring 78 = .ok (.iconst 1, 1) := by decide +kernel
theorem dX12_ring_79 : decode cX12_ring 79 = .ok (.iload_n 1, 1) := by decide +kernel
theorem dX12_ring_80 : decode cX12_ring 80 = .ok (.iastore, 1) := by decide +kernel
theorem dX12_ring_81 : decode cX12_ring 81 = .ok (.iload_n 2, 1) := by decide +kernel
theorem dX12_ring_82 : decode cX12_ring 82 = .ok (.ireturn, 1) := by decide +kernel
theorem dX12_halves_0 : decode cX12_halves 0 = .ok (.iconst 0, 1) := by decide +kernel
theorem dX12_halves_1 : decode cX12_halves 1 = .ok (.istore_n 1, 1) := by decide +kernel
theorem dX12_halves_2 : decode cX12_halves 2 = .ok (.iconst 0, 1) := by decide +kernel
theorem dX12_halves_3 : decode cX12_halves 3 = .ok (.istore_n 2, 1) := by decide +kernel
theorem dX12_halves_4 : decode cX12_halves 4 = .ok (.iload_n 2, 1) := by decide +kernel
theorem dX12_halves_5 : decode cX12_halves 5 = .ok (.aload_n 0, 1) := by decide +kernel
theorem dX12_halves_6 : decode cX12_halves 6 = .ok (.getfield 13, 3) := by decide +kernel
theorem dX12_halves_9 : decode cX12_halves 9 = .ok (.iconst 2, 1) := by decide +kernel
theorem dX12_halves_10 : decode cX12_halves 10 = .ok (.iaload, 1) := by decide +kernel
theorem dX12_halves_11 : decode cX12_halves 11 = .ok (.if_icmp .ge 66, 3) := by decide +kernel
theorem dX12_halves_14 : decode cX12_halves 14 = .ok (.iconst 0, 1) := by decide +kernel
theorem dX12_halves_15 : decode cX12_halves 15 = .ok (.istore_n 3, 1) := by decide +kernel
theorem dX12_halves_16 : decode cX12_halves 16 = .ok (.iload_n 3, 1) := by decide +kernel
theorem dX12_halves_17 : decode cX12_halves 17 = .ok (.aload_n 0, 1) := by decide +kernel
theorem dX12_halves_18 : decode cX12_halves 18 = .ok (.getfield 13, 3) := by decide +kernel
theorem dX12_halves_21 : decode cX12_halves 21 = .ok (.iconst 1, 1) := by decide +kernel
theorem dX12_halves_22 : decode cX12_halves 22 = .ok (.iaload, 1) := by decide +kernel
theorem dX12_halves_23 : decode cX12_halves 23 = .ok (.if_icmp .ge 48, 3) := by decide +kernel
theorem dX12_halves_26 : decode cX12_halves 26 = .ok (.iload_n 1, 1) := by decide +kernel
theorem dX12_halves_27 : decode cX12_halves 27 = .ok (.aload_n 0, 1) := by decide +kernel
theorem dX12_halves_28 : decode cX12_halves 28 = .ok (.getfield 172, 3) := by decide +kernel
theorem dX12_halves_31 : decode cX12_halves 31 = .ok (.iload_n 2, 1) := by decide +kernel
theorem dX12_halves_32 : decode cX12_halves 32 = .ok (.iaload, 1) := by decide +kernel
theorem dX12_halves_33 : decode cX12_halves 33 = .ok (.iload_n 3, 1) := by decide +kernel
theorem dX12_halves_34 : decode cX12_halves 34 = .ok (.ishr, 1) := by decide +kernel
theorem dX12_halves_35 : decode cX12_halves 35 = .ok (.iconst 1, 1) := by decide +kernel
theorem dX12_halves_36 : decode cX12_halves 36 = .ok (.iand, 1) := by decide +kernel
theorem dX12_halves_37 : decode cX12_halves 37 = .ok (.iconst 1, 1) := by decide +kernel
theorem dX12_halves_38 : decode cX12_halves 38 = .ok (.if_icmp .ne 24, 3) := by decide +kernel
theorem dX12_halves_41 : decode cX12_halves 41 = .ok (.aload_n 0, 1) := by decide +kernel
theorem dX12_halves_42 : decode cX12_halves 42 = .ok (.getfield 29, 3) := by decide +kernel
theorem dX12_halves_45 : decode cX12_halves 45 = .ok (.iload_n 3, 1) := by decide +kernel
theorem dX12_halves_46 : decode cX12_halves 46 = .ok (.iaload, 1) := by decide +kernel
theorem dX12_halves_47 : decode cX12_halves 47 = .ok (.iconst 2, 1) := by decide +kernel
theorem dX12_halves_48 : decode cX12_halves 48 = .ok (.if_icmp .eq 14, 3) := by decide +kernel
theorem dX12_halves_51 : decode cX12_halves 51 = .ok (.aload_n 0, 1) := by decide +kernel
theorem dX12_halves_52 : decode cX12_halves 52 = .ok (.getfield 35, 3) := by decide +kernel
theorem dX12_halves_55 : decode cX12_halves 55 = .ok (.iload_n 3, 1) := by decide +kernel
theorem dX12_halves_56 : decode cX12_halves 56 = .ok (.iaload, 1) := by decide +kernel
theorem dX12_halves_57 : decode cX12_halves 57 = .ok (.iconst 2, 1) := by decide +kernel
theorem dX12_halves_58 : decode cX12_halves 58 = .ok (.idiv, 1) := by decide +kernel
theorem dX12_halves_59 : decode cX12_halves 59 = .ok (.goto 4, 3) := by decide +kernel
theorem dX12_halves_62 : decode cX12_halves 62 = .ok (.iconst 0, 1) := by decide +kernel
theorem dX12_halves_63 : decode cX12_halves 63 = .ok (.iadd, 1) := by decide +kernel
theorem dX12_halves_64 : decode cX12_halves 64 = .ok (.istore_n 1, 1) := by decide +kernel
theorem dX12_halves_65 : decode cX12_halves 65 = .ok (.iinc 3 1, 3) := by decide +kernel
theorem dX12_halves_68 : decode cX12_halves 68 = .ok (.goto (-52), 3) := by decide +kernel
theorem dX12_halves_71 : decode cX12_halves 71 = .ok (.iinc 2 1, 3) := by decide +kernel
theorem dX12_halves_74 : decode cX12_halves 74 = .ok (.goto (-70), 3) := by decide +kernel
theorem dX12_halves_77 : decode cX12_halves 77 = .ok (.iload_n 1, 1) := by decide +kernel
theorem dX12_halves_78 : decode cX12_halves 78 = .ok (.ireturn, 1) := by decide +kernel
theorem dX12_best_0 : decode cX12_best 0 = .ok (.aload_n 0, 1) := by decide +kernel
theorem dX12_best_1 : decode cX12_best 1 = .ok (.iconst 0, 1) := by decide +kernel
theorem dX12_best_2 : decode cX12_best 2 = .ok (.putfield 194, 3) := by decide +kernel
theorem dX12_best_5 : decode cX12_best 5 = .ok (.aload_n 0, 1) := by decide +kernel
theorem dX12_best_6 : decode cX12_best 6 = .ok (.iload_n 1, 1) := by decide +kernel
theorem dX12_best_7 : decode cX12_best 7 = .ok (.invokevirtual 507, 3) := by decide +kernel
theorem dX12_best_10 : decode cX12_best 10 = .ok (.ifCond .eq 13, 3) := by decide +kernel
theorem dX12_best_13 : decode cX12_best 13 = .ok (.aload_n 0, 1) := by decide +kernel
theorem dX12_best_14 : decode cX12_best 14 = .ok (.getfield 29, 3) := by decide +kernel
theorem dX12_best_17 : decode cX12_best 17 = .ok (.iload_n 1, 1) := by decide +kernel
theorem dX12_best_18 : decode cX12_best 18 = .ok (.iaload, 1) := by decide +kernel
theorem dX12_best_19 : decode cX12_best 19 = .ok (.iconst 2, 1) := by decide +kernel
theorem dX12_best_20 : decode cX12_best 20 = .ok (.if_icmp .ne 5, 3) := by decide +kernel
theorem dX12_best_23 : decode cX12_best 23 = .ok (.iconst (-1), 1) := by decide +kernel
theorem dX12_best_24 : decode cX12_best 24 = .ok (.ireturn, 1) := by decide +kernel
theorem dX12_best_25 : decode cX12_best 25 = .ok (.aload_n 0, 1) := by decide +kernel
theorem dX12_best_26 : decode cX12_best 26 = .ok (.getfield 141, 3) := by decide +kernel
theorem dX12_best_29 : decode cX12_best 29 = .ok (.iconst 4, 1) := by decide +kernel
theorem dX12_best_30 : decode cX12_best 30 = .ok (.iload_n 1, 1) := by decide +kernel
theorem dX12_best_31 : decode cX12_best 31 = .ok (.iadd, 1) := by decide +kernel
theorem dX12_best_32 : decode cX12_best 32 = .ok (.iaload, 1) := by decide +kernel
theorem dX12_best_33 : decode cX12_best 33 = .ok (.istore_n 3, 1) := by decide +kernel
theorem dX12_best_34 : decode cX12_best 34 = .ok (.iconst 0, 1) := by decide +kernel
theorem dX12_best_35 : decode cX12_best 35 = .ok (.istore 4, 2) := by decide +kernel
theorem dX12_best_37 : decode cX12_best 37 = .ok (.iconst (-1), 1) := by decide +kernel
theorem dX12_best_38 : decode cX12_best 38 = .ok (.istore 5, 2) := by decide +kernel
theorem dX12_best_40 : decode cX12_best 40 = .ok (.iconst 0, 1) := by decide +kernel
theorem dX12_best_41 : decode cX12_best 41 = .ok (.istore 6, 2) := by decide +kernel
theorem dX12_best_43 : decode cX12_best 43 = .ok (.iload 6, 2) := by decide +kernel
theorem dX12_best_45 : decode cX12_best 45 = .ok (.bipush 100, 2) := by decide +kernel
theorem dX12_best_47 : decode cX12_best 47 = .ok (.if_icmp .ge 63, 3) := by decide +kernel
theorem dX12_best_50 : decode cX12_best 50 = .ok (.aload_n 0, 1) := by decide +kernel
theorem dX12_best_51 : decode cX12_best 51 = .ok (.getfield 141, 3) := by decide +kernel
theorem dX12_best_54 : decode cX12_best 54 = .ok (.iconst 4, 1) := by decide +kernel
theorem dX12_best_55 : decode cX12_best 55 = .ok (.iload_n 1, 1) := by decide +kernel
theorem dX12_best_56 : decode cX12_best 56 = .ok (.iadd, 1) := by decide +kernel
theorem dX12_best_57 : decode cX12_best 57 = .ok (.iload 6, 2) := by decide +kernel
theorem dX12_best_59 : decode cX12_best 59 = .ok (.iastore, 1) := by decide +kernel
theorem dX12_best_60 : decode cX12_best 60 = .ok (.aload_n 0, 1) := by decide +kernel
theorem dX12_best_61 : decode cX12_best 61 = .ok (.invokevirtual 528, 3) := by decide +kernel
theorem dX12_best_64 : decode cX12_best 64 = .ok (.iload_n 2, 1) := by decide +kernel
theorem dX12_best_65 : decode cX12_best 65 = .ok (.ifCond .eq 15, 3) := by decide +kernel
theorem dX12_best_68 : decode cX12_best 68 = .ok (.aload_n 0, 1) := by decide +kernel
theorem dX12_best_69 : decode cX12_best 69 = .ok (.invokevirtual 534, 3) := by decide +kernel
theorem dX12_best_72 : decode cX12_best 72 = .ok (.aload_n 0, 1) := by decide +kernel
theorem dX12_best_73 : decode cX12_best 73 = .ok (.invokevirtual 566, 3) := by decide +kernel
theorem dX12_best_76 : decode cX12_best 76 = .ok (.iadd, 1) := by decide +kernel
theorem dX12_best_77 : decode cX12_best 77 = .ok (.goto 7, 3) := by decide +kernel
theorem dX12_best_80 : decode cX12_best 80 = .ok (.aload_n 0, 1) := by decide +kernel
theorem dX12_best_81 : decode cX12_best 81 = .ok (.invokevirtual 540, 3) := by decide +kernel
theorem dX12_best_84 : decode cX12_best 84 = .ok (.istore 7, 2) := by decide +kernel
theorem dX12_best_86 : decode cX12_best 86 = .ok (.iload 7, 2) := by decide +kernel
theorem dX12_best_88 : decode cX12_best 88 = .ok (.iload 5, 2) := by decide +kernel
theorem dX12_best_90 : decode cX12_best 90 = .ok (.if_icmp .gt 6, 3) := by decide +kernel
theorem dX12_best_93 : decode cX12_best 93 = .ok (.goto 11, 3) := by decide +kernel
theorem dX12_best_96 : decode cX12_best 96 = .ok (.iload 7, 2) := by decide +kernel
theorem dX12_best_98 : decode cX12_best 98 = .ok (.istore 5, 2) := by decide +kernel
theorem dX12_best_100 : decode cX12_best 100 = .ok (.iload 6, 2) := by decide +kernel
theorem dX12_best_102 : decode cX12_best 102 = .ok (.istore 4, 2) := by decide +kernel
theorem dX12_best_104 : decode cX12_best 104 = .ok (.iinc 6 1, 3) := by decide +kernel
theorem dX12_best_107 : decode cX12_best 107 = .ok (.goto (-64), 3) := by decide +kernel
theorem dX12_best_110 : decode cX12_best 110 = .ok (.aload_n 0, 1) := by decide +kernel
theorem dX12_best_111 : decode cX12_best 111 = .ok (.getfield 141, 3) := by decide +kernel
theorem dX12_best_114 : decode cX12_best 114 = .ok (.iconst 4, 1) := by decide +kernel
theorem dX12_best_115 : decode cX12_best 115 = .ok (.iload_n 1, 1) := by decide +kernel
theorem dX12_best_116 : decode cX12_best 116 = .ok (.iadd, 1) := by decide +kernel
theorem dX12_best_117 : decode cX12_best 117 = .ok (.iload_n 3, 1) := by decide +kernel
theorem dX12_best_118 : decode cX12_best 118 = .ok (.iastore, 1) := by decide +kernel
theorem dX12_best_119 : decode cX12_best 119 = .ok (.iload 4, 2) := by decide +kernel
theorem dX12_best_121 : decode cX12_best 121 = .ok (.ireturn, 1) := by decide +kernel
theorem dX12_trayOf_0 : decode cX12_trayOf 0 = .ok (.iload_n 1, 1) := by decide +kernel
theorem dX12_trayOf_1 : decode cX12_trayOf 1 = .ok (.istore_n 3, 1) := by decide +kernel
theorem dX12_trayOf_2 : decode cX12_trayOf 2 = .ok (.iconst 0, 1) := by decide +kernel
theorem dX12_trayOf_3 : decode cX12_trayOf 3 = .ok (.istore 4, 2) := by decide +kernel
theorem dX12_trayOf_5 : decode cX12_trayOf 5 = .ok (.iconst 0, 1) := by decide +kernel
theorem dX12_trayOf_6 : decode cX12_trayOf 6 = .ok (.istore 5, 2) := by decide +kernel
theorem dX12_trayOf_8 : decode cX12_trayOf 8 = .ok (.iload 5, 2) := by decide +kernel
theorem dX12_trayOf_10 : decode cX12_trayOf 10 = .ok (.aload_n 0, 1) := by decide +kernel
theorem dX12_trayOf_11 : decode cX12_trayOf 11 = .ok (.getfield 13, 3) := by decide +kernel
theorem dX12_trayOf_14 : decode cX12_trayOf 14 = .ok (.iconst 2, 1) := by decide +kernel
theorem dX12_trayOf_15 : decode cX12_trayOf 15 = .ok (.iaload, 1) := by decide +kernel
theorem dX12_trayOf_16 : decode cX12_trayOf 16 = .ok (.if_icmp .ge 89, 3) := by decide +kernel
theorem dX12_trayOf_19 : decode cX12_trayOf 19 = .ok (.aload_n 0, 1) := by decide +kernel
theorem dX12_trayOf_20 : decode cX12_trayOf 20 = .ok (.getfield 53, 3) := by decide +kernel
theorem dX12_trayOf_23 : decode cX12_trayOf 23 = .ok (.iload 5, 2) := by decide +kernel
theorem dX12_trayOf_25 : decode cX12_trayOf 25 = .ok (.iaload, 1) := by decide +kernel
theorem dX12_trayOf_26 : decode cX12_trayOf 26 = .ok (.iload_n 2, 1) := by decide +kernel
theorem dX12_trayOf_27 : decode cX12_trayOf 27 = .ok (.if_icmp .lt 72, 3) := by decide +kernel
theorem dX12_trayOf_30 : decode cX12_trayOf 30 = .ok (.aload_n 0, 1) := by decide +kernel
theorem dX12_trayOf_31 : decode cX12_trayOf 31 = .ok (.getfield 59, 3) := by decide +kernel
theorem dX12_trayOf_34 : decode cX12_trayOf 34 = .ok (.iload 5, 2) := by decide +kernel
theorem dX12_trayOf_36 : decode cX12_trayOf 36 = .ok (.iaload, 1) := by decide +kernel
theorem dX12_trayOf_37 : decode cX12_trayOf 37 = .ok (.iload_n 3, 1) := by decide +kernel
theorem dX12_trayOf_38 : decode cX12_trayOf 38 = .ok (.if_icmp .le 6, 3) := by decide +kernel
theorem dX12_trayOf_41 : decode cX12_trayOf 41 = .ok (.goto 58, 3) := by decide +kernel
theorem dX12_trayOf_44 : decode cX12_trayOf 44 = .ok (.iload_n 3, 1) := by decide +kernel
theorem dX12_trayOf_45 : decode cX12_trayOf 45 = .ok (.aload_n 0, 1) := by decide +kernel
theorem dX12_trayOf_46 : decode cX12_trayOf 46 = .ok (.getfield 59, 3) := by decide +kernel
theorem dX12_trayOf_49 : decode cX12_trayOf 49 = .ok (.iload 5, 2) := by decide +kernel
theorem dX12_trayOf_51 : decode cX12_trayOf 51 = .ok (.iaload, 1) := by decide +kernel
theorem dX12_trayOf_52 : decode cX12_trayOf 52 = .ok (.isub, 1) := by decide +kernel
theorem dX12_trayOf_53 : decode cX12_trayOf 53 = .ok (.istore_n 3, 1) := by decide +kernel
theorem dX12_trayOf_54 : decode cX12_trayOf 54 = .ok (.iconst 0, 1) := by decide +kernel
theorem dX12_trayOf_55 : decode cX12_trayOf 55 = .ok (.istore 6, 2) := by decide +kernel
theorem dX12_trayOf_57 : decode cX12_trayOf 57 = .ok (.iload 6, 2) := by decide +kernel
theorem dX12_trayOf_59 : decode cX12_trayOf 59 = .ok (.aload_n 0, 1) := by decide +kernel
theorem dX12_trayOf_60 : decode cX12_trayOf 60 = .ok (.getfield 59, 3) := by decide +kernel
theorem dX12_trayOf_63 : decode cX12_trayOf 63 = .ok (.iload 5, 2) := by decide +kernel
theorem dX12_trayOf_65 : decode cX12_trayOf 65 = .ok (.iaload, 1) := by decide +kernel
theorem dX12_trayOf_66 : decode cX12_trayOf 66 = .ok (.if_icmp .ge 33, 3) := by decide +kernel
theorem dX12_trayOf_69 : decode cX12_trayOf 69 = .ok (.iload 4, 2) := by decide +kernel
theorem dX12_trayOf_71 : decode cX12_trayOf 71 = .ok (.aload_n 0, 1) := by decide +kernel
theorem dX12_trayOf_72 : decode cX12_trayOf 72 = .ok (.getfield 35, 3) := by decide +kernel
theorem dX12_trayOf_75 : decode cX12_trayOf 75 = .ok (.aload_n 0, 1) := by decide +kernel
theorem dX12_trayOf_76 : decode cX12_trayOf 76 = .ok (.getfield 56, 3) := by decide +kernel
theorem dX12_trayOf_79 : decode cX12_trayOf 79 = .ok (.iconst 3, 1) := by decide +kernel
theorem dX12_trayOf_80 : decode cX12_trayOf 80 = .ok (.iload 5, 2) := by decide +kernel
theorem dX12_trayOf_82 : decode cX12_trayOf 82 = .ok (.imul, 1) := by decide +kernel
theorem dX12_trayOf_83 : decode cX12_trayOf 83 = .ok (.iload 6, 2) := by decide +kernel
theorem dX12_trayOf_85 : decode cX12_trayOf 85 = .ok (.iadd, 1) := by decide +kernel
theorem dX12_trayOf_86 : decode cX12_trayOf 86 = .ok (.iaload, 1) := by decide +kernel
theorem dX12_trayOf_87 : decode cX12_trayOf 87 = .ok (.iaload, 1) := by decide +kernel
theorem dX12_trayOf_88 : decode cX12_trayOf 88 = .ok (.iload_n 2, 1) := by decide +kernel
theorem dX12_trayOf_89 : decode cX12_trayOf 89 = .ok (.iadd, 1) := by decide +kernel
theorem dX12_trayOf_90 : decode cX12_trayOf 90 = .ok (.iadd, 1) := by decide +kernel
theorem dX12_trayOf_91 : decode cX12_trayOf 91 = .ok (.istore 4, 2) := by decide +kernel
theorem dX12_trayOf_93 : decode cX12_trayOf 93 = .ok (.iinc 6 1, 3) := by decide +kernel
theorem dX12_trayOf_96 : decode cX12_trayOf 96 = .ok (.goto (-39), 3) := by decide +kernel
theorem dX12_trayOf_99 : decode cX12_trayOf 99 = .ok (.iinc 5 1, 3) := by decide +kernel
theorem dX12_trayOf_102 : decode cX12_trayOf 102 = .ok (.goto (-94), 3) := by decide +kernel
theorem dX12_trayOf_105 : decode cX12_trayOf 105 = .ok (.iload 4, 2) := by decide +kernel
theorem dX12_trayOf_107 : decode cX12_trayOf 107 = .ok (.ireturn, 1) := by decide +kernel
theorem dX12_tray_0 : decode cX12_tray 0 = .ok (.aload_n 0, 1) := by decide +kernel
theorem dX12_tray_1 : decode cX12_tray 1 = .ok (.iconst 0, 1) := by decide +kernel
theorem dX12_tray_2 : decode cX12_tray 2 = .ok (.putfield 194, 3) := by decide +kernel
theorem dX12_tray_5 : decode cX12_tray 5 = .ok (.iload_n 1, 1) := by decide +kernel
theorem dX12_tray_6 : decode cX12_tray 6 = .ok (.iconst 0, 1) := by decide +kernel
theorem dX12_tray_7 : decode cX12_tray 7 = .ok (.bipush 36, 2) := by decide +kernel
theorem dX12_tray_9 : decode cX12_tray 9 = .ok (.invokestatic 343, 3) := by decide +kernel
theorem dX12_tray_12 : decode cX12_tray 12 = .ok (.ifCond .eq 22, 3) := by decide +kernel
theorem dX12_tray_15 : decode cX12_tray 15 = .ok (.iload_n 2, 1) := by decide +kernel
theorem dX12_tray_16 : decode cX12_tray 16 = .ok (.iconst 0, 1) := by decide +kernel
theorem dX12_tray_17 : decode cX12_tray 17 = .ok (.bipush 99, 2) := by decide +kernel
theorem dX12_tray_19 : decode cX12_tray 19 = .ok (.invokestatic 343, 3) := by decide +kernel
theorem dX12_tray_22 : decode cX12_tray 22 = .ok (.ifCond .eq 12, 3) := by decide +kernel
theorem dX12_tray_25 : decode cX12_tray 25 = .ok (.aload_n 0, 1) := by decide +kernel
theorem dX12_tray_26 : decode cX12_tray 26 = .ok (.iload_n 1, 1) := by decide +kernel
theorem dX12_tray_27 : decode cX12_tray 27 = .ok (.iload_n 2, 1) := by decide +kernel
theorem dX12_tray_28 : decode cX12_tray 28 = .ok (.invokevirtual 569, 3) := by decide +kernel
theorem dX12_tray_31 : decode cX12_tray 31 = .ok (.goto 4, 3) := by decide +kernel
theorem dX12_tray_34 : decode cX12_tray 34 = .ok (.iconst (-1), 1) := by decide +kernel
theorem dX12_tray_35 : decode cX12_tray 35 = .ok (.ireturn, 1) := by decide +kernel
theorem dX12_price_0 : decode cX12_price 0 = .ok (.aload_n 0, 1) := by decide +kernel
theorem dX12_price_1 : decode cX12_price 1 = .ok (.iconst 0, 1) := by decide +kernel
theorem dX12_price_2 : decode cX12_price 2 = .ok (.putfield 194, 3) := by decide +kernel
theorem dX12_price_5 : decode cX12_price 5 = .ok (.iload_n 1, 1) := by decide +kernel
theorem dX12_price_6 : decode cX12_price 6 = .ok (.iconst 0, 1) := by decide +kernel
theorem dX12_price_7 : decode cX12_price 7 = .ok (.bipush 36, 2) := by decide +kernel
theorem dX12_price_9 : decode cX12_price 9 = .ok (.invokestatic 343, 3) := by decide +kernel
theorem dX12_price_12 : decode cX12_price 12 = .ok (.ifCond .ne 5, 3) := by decide +kernel
theorem dX12_price_15 : decode cX12_price 15 = .ok (.iconst (-1), 1) := by decide +kernel
theorem dX12_price_16 : decode cX12_price 16 = .ok (.ireturn, 1) := by decide +kernel
theorem dX12_price_17 : decode cX12_price 17 = .ok (.iconst 0, 1) := by decide +kernel
theorem dX12_price_18 : decode cX12_price 18 = .ok (.istore_n 2, 1) := by decide +kernel
theorem dX12_price_19 : decode cX12_price 19 = .ok (.iconst (-1), 1) := by decide +kernel
theorem dX12_price_20 : decode cX12_price 20 = .ok (.istore_n 3, 1) := by decide +kernel
theorem dX12_price_21 : decode cX12_price 21 = .ok (.iconst 0, 1) := by decide +kernel
theorem dX12_price_22 : decode cX12_price 22 = .ok (.istore 4, 2) := by decide +kernel
theorem dX12_price_24 : decode cX12_price 24 = .ok (.iload 4, 2) := by decide +kernel
theorem dX12_price_26 : decode cX12_price 26 = .ok (.bipush 100, 2) := by decide +kernel
theorem dX12_price_28 : decode cX12_price 28 = .ok (.if_icmp .ge 33, 3) := by decide +kernel
theorem dX12_price_31 : decode cX12_price 31 = .ok (.aload_n 0, 1) := by decide +kernel
theorem dX12_price_32 : decode cX12_price 32 = .ok (.iload_n 1, 1) := by decide +kernel
theorem dX12_price_33 : decode cX12_price 33 = .ok (.iload 4, 2) := by decide +kernel
theorem dX12_price_35 : decode cX12_price 35 = .ok (.invokevirtual 569, 3) := by decide +kernel
theorem dX12_price_38 : decode cX12_price 38 = .ok (.istore 5, 2) := by decide +kernel
theorem dX12_price_40 : decode cX12_price 40 = .ok (.iload 5, 2) := by decide +kernel
theorem dX12_price_42 : decode cX12_price 42 = .ok (.iload_n 3, 1) := by decide +kernel
theorem dX12_price_43 : decode cX12_price 43 = .ok (.if_icmp .gt 6, 3) := by decide +kernel
theorem dX12_price_46 : decode cX12_price 46 = .ok (.goto 9, 3) := by decide +kernel
theorem dX12_price_49 : decode cX12_price 49 = .ok (.iload 5, 2) := by decide +kernel
theorem dX12_price_51 : decode cX12_price 51 = .ok (.istore_n 3, 1) := by decide +kernel
theorem dX12_price_52 : decode cX12_price 52 = .ok (.iload 4, 2) := by decide +kernel
theorem dX12_price_54 : decode cX12_price 54 = .ok (.istore_n 2, 1) := by decide +kernel
theorem dX12_price_55 : decode cX12_price 55 = .ok (.iinc 4 1, 3) := by decide +kernel
theorem dX12_price_58 : decode cX12_price 58 = .ok (.goto (-34), 3) := by decide +kernel
theorem dX12_price_61 : decode cX12_price 61 = .ok (.iload_n 2, 1) := by decide +kernel
theorem dX12_price_62 : decode cX12_price 62 = .ok (.ireturn, 1) := by decide +kernel
theorem dX12_aheadOf_0 : decode cX12_aheadOf 0 = .ok (.iconst 0, 1) := by decide +kernel
theorem dX12_aheadOf_1 : decode cX12_aheadOf 1 = .ok (.istore_n 3, 1) := by decide +kernel
theorem dX12_aheadOf_2 : decode cX12_aheadOf 2 = .ok (.aload_n 0, 1) := by decide +kernel
theorem dX12_aheadOf_3 : decode cX12_aheadOf 3 = .ok (.iload_n 1, 1) := by decide +kernel
theorem dX12_aheadOf_4 : decode cX12_aheadOf 4 = .ok (.putfield 160, 3) := by decide +kernel
theorem dX12_aheadOf_7 : decode cX12_aheadOf 7 = .ok (.iconst 0, 1) := by decide +kernel
theorem dX12_aheadOf_8 : decode cX12_aheadOf 8 = .ok (.istore 4, 2) := by decide +kernel
theorem dX12_aheadOf_10 : decode cX12_aheadOf 10 = .ok (.iload 4, 2) := by decide +kernel
theorem dX12_aheadOf_12 : decode cX12_aheadOf 12 = .ok (.iconst 4, 1) := by decide +kernel
theorem dX12_aheadOf_13 : decode cX12_aheadOf 13 = .ok (.if_icmp .ge 57, 3) := by decide +kernel
theorem dX12_aheadOf_16 : decode cX12_aheadOf 16 = .ok (.aload_n 0, 1) := by decide +kernel
theorem dX12_aheadOf_17 : decode cX12_aheadOf 17 = .ok (.getfield 62, 3) := by decide +kernel
theorem dX12_aheadOf_20 : decode cX12_aheadOf 20 = .ok (.iload 4, 2) := by decide +kernel
theorem dX12_aheadOf_22 : decode cX12_aheadOf 22 = .ok (.iaload, 1) := by decide +kernel
theorem dX12_aheadOf_23 : decode cX12_aheadOf 23 = .ok (.ifCond .ne 6, 3) := by decide +kernel
theorem dX12_aheadOf_26 : decode cX12_aheadOf 26 = .ok (.goto 38, 3) := by decide +kernel
theorem dX12_aheadOf_29 : decode cX12_aheadOf 29 = .ok (.aload_n 0, 1) := by decide +kernel
theorem dX12_aheadOf_30 : decode cX12_aheadOf 30 = .ok (.iload 4, 2) := by decide +kernel
theorem dX12_aheadOf_32 : decode cX12_aheadOf 32 = .ok (.putfield 497, 3) := by decide +kernel
theorem dX12_aheadOf_35 : decode cX12_aheadOf 35 = .ok (.aload_n 0, 1) := by decide +kernel
theorem dX12_aheadOf_36 : decode cX12_aheadOf 36 = .ok (.iload_n 2, 1) := by decide +kernel
theorem dX12_aheadOf_37 : decode cX12_aheadOf 37 = .ok (.putfield 464, 3) := by decide +kernel
theorem dX12_aheadOf_40 : decode cX12_aheadOf 40 = .ok (.aload_n 0, 1) := by decide +kernel
theorem dX12_aheadOf_41 : decode cX12_aheadOf 41 = .ok (.invokevirtual 528, 3) := by decide +kernel
theorem dX12_aheadOf_44 : decode cX12_aheadOf 44 = .ok (.iload_n 3, 1) := by decide +kernel
theorem dX12_aheadOf_45 : decode cX12_aheadOf 45 = .ok (.aload_n 0, 1) := by decide +kernel
theorem dX12_aheadOf_46 : decode cX12_aheadOf 46 = .ok (.getfield 62, 3) := by decide +kernel
theorem dX12_aheadOf_49 : decode cX12_aheadOf 49 = .ok (.iload 4, 2) := by decide +kernel
theorem dX12_aheadOf_51 : decode cX12_aheadOf 51 = .ok (.iaload, 1) := by decide +kernel
theorem dX12_aheadOf_52 : decode cX12_aheadOf 52 = .ok (.aload_n 0, 1) := by decide +kernel
theorem dX12_aheadOf_53 : decode cX12_aheadOf 53 = .ok (.invokevirtual 540, 3) := by decide +kernel
theorem dX12_aheadOf_56 : decode cX12_aheadOf 56 = .ok (.aload_n 0, 1) := by decide +kernel
theorem dX12_aheadOf_57 : decode cX12_aheadOf 57 = .ok (.getfield 464, 3) := by decide +kernel
theorem dX12_aheadOf_60 : decode cX12_aheadOf 60 = .ok (.isub, 1) := by decide +kernel
theorem dX12_aheadOf_61 : decode cX12_aheadOf 61 = .ok (.imul, 1) := by decide +kernel
theorem dX12_aheadOf_62 : decode cX12_aheadOf 62 = .ok (.iadd, 1) := by decide +kernel
theorem dX12_aheadOf_63 : decode cX12_aheadOf 63 = .ok (.istore_n 3, 1) := by decide +kernel
theorem dX12_aheadOf_64 : decode cX12_aheadOf 64 = .ok (.iinc 4 1, 3) := by decide +kernel
theorem dX12_aheadOf_67 : decode cX12_aheadOf 67 = .ok (.goto (-57), 3) := by decide +kernel
theorem dX12_aheadOf_70 : decode cX12_aheadOf 70 = .ok (.aload_n 0, 1) := by decide +kernel
theorem dX12_aheadOf_71 : decode cX12_aheadOf 71 = .ok (.iconst (-1), 1) := by decide +kernel
theorem dX12_aheadOf_72 : decode cX12_aheadOf 72 = .ok (.putfield 160, 3) := by decide +kernel
theorem dX12_aheadOf_75 : decode cX12_aheadOf 75 = .ok (.aload_n 0, 1) := by decide +kernel
theorem dX12_aheadOf_76 : decode cX12_aheadOf 76 = .ok (.iconst 0, 1) := by decide +kernel
theorem dX12_aheadOf_77 : decode cX12_aheadOf 77 = .ok (.putfield 497, 3) := by decide +kernel
theorem dX12_aheadOf_80 : decode cX12_aheadOf 80 = .ok (.iload_n 3, 1) := by decide +kernel
theorem dX12_aheadOf_81 : decode cX12_aheadOf 81 = .ok (.bipush 100, 2) := by decide +kernel
theorem dX12_aheadOf_83 : decode cX12_aheadOf 83 = .ok (.imul, 1) := by decide +kernel
theorem dX12_aheadOf_84 : decode cX12_aheadOf 84 = .ok (.ireturn, 1) := by decide +kernel
theorem dX12_ahead_0 : decode cX12_ahead 0 = .ok (.aload_n 0, 1) := by decide +kernel
theorem dX12_ahead_1 : decode cX12_ahead 1 = .ok (.iconst 0, 1) := by decide +kernel
theorem dX12_ahead_2 : decode cX12_ahead 2 = .ok (.putfield 194, 3) := by decide +kernel
theorem dX12_ahead_5 : decode cX12_ahead 5 = .ok (.aload_n 0, 1) := by decide +kernel
theorem dX12_ahead_6 : decode cX12_ahead 6 = .ok (.iload_n 1, 1) := by decide +kernel
theorem dX12_ahead_7 : decode cX12_ahead 7 = .ok (.invokevirtual 507, 3) := by decide +kernel
theorem dX12_ahead_10 : decode cX12_ahead 10 = .ok (.ifCond .eq 32, 3) := by decide +kernel
theorem dX12_ahead_13 : decode cX12_ahead 13 = .ok (.aload_n 0, 1) := by decide +kernel
theorem dX12_ahead_14 : decode cX12_ahead 14 = .ok (.getfield 29, 3) := by decide +kernel
theorem dX12_ahead_17 : decode cX12_ahead 17 = .ok (.iload_n 1, 1) := by decide +kernel
theorem dX12_ahead_18 : decode cX12_ahead 18 = .ok (.iaload, 1) := by decide +kernel
theorem dX12_ahead_19 : decode cX12_ahead 19 = .ok (.iconst 2, 1) := by decide +kernel
theorem dX12_ahead_20 : decode cX12_ahead 20 = .ok (.if_icmp .eq 22, 3) := by decide +kernel
theorem dX12_ahead_23 : decode cX12_ahead 23 = .ok (.iload_n 2, 1) := by decide +kernel
theorem dX12_ahead_24 : decode cX12_ahead 24 = .ok (.iconst 0, 1) := by decide +kernel
theorem dX12_ahead_25 : decode cX12_ahead 25 = .ok (.bipush 12, 2) := by decide +kernel
theorem dX12_ahead_27 : decode cX12_ahead 27 = .ok (.invokestatic 343, 3) := by decide +kernel
theorem dX12_ahead_30 : decode cX12_ahead 30 = .ok (.ifCond .eq 12, 3) := by decide +kernel
theorem dX12_ahead_33 : decode cX12_ahead 33 = .ok (.aload_n 0, 1) := by decide +kernel
theorem dX12_ahead_34 : decode cX12_ahead 34 = .ok (.iload_n 1, 1) := by decide +kernel
theorem dX12_ahead_35 : decode cX12_ahead 35 = .ok (.iload_n 2, 1) := by decide +kernel
theorem dX12_ahead_36 : decode cX12_ahead 36 = .ok (.invokevirtual 572, 3) := by decide +kernel
theorem dX12_ahead_39 : decode cX12_ahead 39 = .ok (.goto 4, 3) := by decide +kernel
theorem dX12_ahead_42 : decode cX12_ahead 42 = .ok (.iconst (-1), 1) := by decide +kernel
theorem dX12_ahead_43 : decode cX12_ahead 43 = .ok (.ireturn, 1) := by decide +kernel
theorem dX12_most_0 : decode cX12_most 0 = .ok (.aload_n 0, 1) := by decide +kernel
theorem dX12_most_1 : decode cX12_most 1 = .ok (.iconst 0, 1) := by decide +kernel
theorem dX12_most_2 : decode cX12_most 2 = .ok (.putfield 194, 3) := by decide +kernel
theorem dX12_most_5 : decode cX12_most 5 = .ok (.aload_n 0, 1) := by decide +kernel
theorem dX12_most_6 : decode cX12_most 6 = .ok (.iload_n 1, 1) := by decide +kernel
theorem dX12_most_7 : decode cX12_most 7 = .ok (.invokevirtual 507, 3) := by decide +kernel
theorem dX12_most_10 : decode cX12_most 10 = .ok (.ifCond .eq 13, 3) := by decide +kernel
theorem dX12_most_13 : decode cX12_most 13 = .ok (.aload_n 0, 1) := by decide +kernel
theorem dX12_most_14 : decode cX12_most 14 = .ok (.getfield 29, 3) := by decide +kernel
theorem dX12_most_17 : decode cX12_most 17 = .ok (.iload_n 1, 1) := by decide +kernel
theorem dX12_most_18 : decode cX12_most 18 = .ok (.iaload, 1) := by decide +kernel
theorem dX12_most_19 : decode cX12_most 19 = .ok (.iconst 2, 1) := by decide +kernel
theorem dX12_most_20 : decode cX12_most 20 = .ok (.if_icmp .ne 5, 3) := by decide +kernel
theorem dX12_most_23 : decode cX12_most 23 = .ok (.iconst (-1), 1) := by decide +kernel
theorem dX12_most_24 : decode cX12_most 24 = .ok (.ireturn, 1) := by decide +kernel
theorem dX12_most_25 : decode cX12_most 25 = .ok (.iconst 0, 1) := by decide +kernel
theorem dX12_most_26 : decode cX12_most 26 = .ok (.istore_n 2, 1) := by decide +kernel
theorem dX12_most_27 : decode cX12_most 27 = .ok (.aload_n 0, 1) := by decide +kernel
theorem dX12_most_28 : decode cX12_most 28 = .ok (.iload_n 1, 1) := by decide +kernel
theorem dX12_most_29 : decode cX12_most 29 = .ok (.iconst 0, 1) := by decide +kernel
theorem dX12_most_30 : decode cX12_most 30 = .ok (.invokevirtual 572, 3) := by decide +kernel
theorem dX12_most_33 : decode cX12_most 33 = .ok (.istore_n 3, 1) := by decide +kernel
theorem dX12_most_34 : decode cX12_most 34 = .ok (.iconst 1, 1) := by decide +kernel
theorem dX12_most_35 : decode cX12_most 35 = .ok (.istore 4, 2) := by decide +kernel
theorem dX12_most_37 : decode cX12_most 37 = .ok (.iload 4, 2) := by decide +kernel
theorem dX12_most_39 : decode cX12_most 39 = .ok (.bipush 13, 2) := by decide +kernel
theorem dX12_most_41 : decode cX12_most 41 = .ok (.if_icmp .ge 33, 3) := by decide +kernel
theorem dX12_most_44 : decode cX12_most 44 = .ok (.aload_n 0, 1) := by decide +kernel
theorem dX12_most_45 : decode cX12_most 45 = .ok (.iload_n 1, 1) := by decide +kernel
theorem dX12_most_46 : decode cX12_most 46 = .ok (.iload 4, 2) := by decide +kernel
theorem dX12_most_48 : decode cX12_most 48 = .ok (.invokevirtual 572, 3) := by decide +kernel
theorem dX12_most_51 : decode cX12_most 51 = .ok (.istore 5, 2) := by decide +kernel
theorem dX12_most_53 : decode cX12_most 53 = .ok (.iload 5, 2) := by decide +kernel
theorem dX12_most_55 : decode cX12_most 55 = .ok (.iload_n 3, 1) := by decide +kernel
theorem dX12_most_56 : decode cX12_most 56 = .ok (.if_icmp .gt 6, 3) := by decide +kernel
theorem dX12_most_59 : decode cX12_most 59 = .ok (.goto 9, 3) := by decide +kernel
theorem dX12_most_62 : decode cX12_most 62 = .ok (.iload 5, 2) := by decide +kernel
theorem dX12_most_64 : decode cX12_most 64 = .ok (.istore_n 3, 1) := by decide +kernel
theorem dX12_most_65 : decode cX12_most 65 = .ok (.iload 4, 2) := by decide +kernel
theorem dX12_most_67 : decode cX12_most 67 = .ok (.istore_n 2, 1) := by decide +kernel
theorem dX12_most_68 : decode cX12_most 68 = .ok (.iinc 4 1, 3) := by decide +kernel
theorem dX12_most_71 : decode cX12_most 71 = .ok (.goto (-34), 3) := by decide +kernel
theorem dX12_most_74 : decode cX12_most 74 = .ok (.iload_n 2, 1) := by decide +kernel
theorem dX12_most_75 : decode cX12_most 75 = .ok (.ireturn, 1) := by decide +kernel
theorem dX12_sell_0 : decode cX12_sell 0 = .ok (.aload_n 0, 1) := by decide +kernel
theorem dX12_sell_1 : decode cX12_sell 1 = .ok (.iconst 0, 1) := by decide +kernel
theorem dX12_sell_2 : decode cX12_sell 2 = .ok (.putfield 194, 3) := by decide +kernel
theorem dX12_sell_5 : decode cX12_sell 5 = .ok (.iload_n 1, 1) := by decide +kernel
theorem dX12_sell_6 : decode cX12_sell 6 = .ok (.iconst 0, 1) := by decide +kernel
theorem dX12_sell_7 : decode cX12_sell 7 = .ok (.bipush 9, 2) := by decide +kernel
theorem dX12_sell_9 : decode cX12_sell 9 = .ok (.invokestatic 343, 3) := by decide +kernel
theorem dX12_sell_12 : decode cX12_sell 12 = .ok (.ifCond .eq 24, 3) := by decide +kernel
theorem dX12_sell_15 : decode cX12_sell 15 = .ok (.iload_n 2, 1) := by decide +kernel
theorem dX12_sell_16 : decode cX12_sell 16 = .ok (.iconst 0, 1) := by decide +kernel
theorem dX12_sell_17 : decode cX12_sell 17 = .ok (.bipush 99, 2) := by decide +kernel
theorem dX12_sell_19 : decode cX12_sell 19 = .ok (.invokestatic 343, 3) := by decide +kernel
theorem dX12_sell_22 : decode cX12_sell 22 = .ok (.ifCond .eq 14, 3) := by decide +kernel
theorem dX12_sell_25 : decode cX12_sell 25 = .ok (.aload_n 0, 1) := by decide +kernel
theorem dX12_sell_26 : decode cX12_sell 26 = .ok (.getfield 123, 3) := by decide +kernel
theorem dX12_sell_29 : decode cX12_sell 29 = .ok (.iconst 0, 1) := by decide +kernel
theorem dX12_sell_30 : decode cX12_sell 30 = .ok (.iaload, 1) := by decide +kernel
theorem dX12_sell_31 : decode cX12_sell 31 = .ok (.bipush 10, 2) := by decide +kernel
theorem dX12_sell_33 : decode cX12_sell 33 = .ok (.if_icmp .ne 5, 3) := by decide +kernel
theorem dX12_sell_36 : decode cX12_sell 36 = .ok (.iconst 0, 1) := by decide +kernel
theorem dX12_sell_37 : decode cX12_sell 37 = .ok (.ireturn, 1) := by decide +kernel
theorem dX12_sell_38 : decode cX12_sell 38 = .ok (.aload_n 0, 1) := by decide +kernel
theorem dX12_sell_39 : decode cX12_sell 39 = .ok (.getfield 126, 3) := by decide +kernel
theorem dX12_sell_42 : decode cX12_sell 42 = .ok (.aload_n 0, 1) := by decide +kernel
theorem dX12_sell_43 : decode cX12_sell 43 = .ok (.getfield 123, 3) := by decide +kernel
theorem dX12_sell_46 : decode cX12_sell 46 = .ok (.iconst 0, 1) := by decide +kernel
theorem dX12_sell_47 : decode cX12_sell 47 = .ok (.iaload, 1) := by decide +kernel
theorem dX12_sell_48 : decode cX12_sell 48 = .ok (.iload_n 1, 1) := by decide +kernel
theorem dX12_sell_49 : decode cX12_sell 49 = .ok (.iastore, 1) := by decide +kernel
theorem dX12_sell_50 : decode cX12_sell 50 = .ok (.aload_n 0, 1) := by decide +kernel
theorem dX12_sell_51 : decode cX12_sell 51 = .ok (.getfield 129, 3) := by decide +kernel
theorem dX12_sell_54 : decode cX12_sell 54 = .ok (.aload_n 0, 1) := by decide +kernel
theorem dX12_sell_55 : decode cX12_sell 55 = .ok (.getfield 123, 3) := by decide +kernel
theorem dX12_sell_58 : decode cX12_sell 58 = .ok (.iconst 0, 1) := by decide +kernel
theorem dX12_sell_59 : decode cX12_sell 59 = .ok (.iaload, 1) := by decide +kernel
theorem dX12_sell_60 : decode cX12_sell 60 = .ok (.iload_n 2, 1) := by decide +kernel
theorem dX12_sell_61 : decode cX12_sell 61 = .ok (.iastore, 1) := by decide +kernel
theorem dX12_sell_62 : decode cX12_sell 62 = .ok (.aload_n 0, 1) := by decide +kernel
theorem dX12_sell_63 : decode cX12_sell 63 = .ok (.getfield 123, 3) := by decide +kernel
theorem dX12_sell_66 : decode cX12_sell 66 = .ok (.iconst 0, 1) := by decide +kernel
theorem dX12_sell_67 : decode cX12_sell 67 = .ok (.dup2, 1) := by decide +kernel
theorem dX12_sell_68 : decode cX12_sell 68 = .ok (.iaload, 1) := by decide +kernel
theorem dX12_sell_69 : decode cX12_sell 69 = .ok (.iconst 1, 1) := by decide +kernel
theorem dX12_sell_70 : decode cX12_sell 70 = .ok (.iadd, 1) := by decide +kernel
theorem dX12_sell_71 : decode cX12_sell 71 = .ok (.iastore, 1) := by decide +kernel
theorem dX12_sell_72 : decode cX12_sell 72 = .ok (.iconst 1, 1) := by decide +kernel
theorem dX12_sell_73 : decode cX12_sell 73 = .ok (.ireturn, 1) := by decide +kernel
theorem dX12_isLaw_0 : decode cX12_isLaw 0 = .ok (.iconst 0, 1) := by decide +kernel
theorem dX12_isLaw_1 : decode cX12_isLaw 1 = .ok (.istore_n 3, 1) := by decide +kernel
theorem dX12_isLaw_2 : decode cX12_isLaw 2 = .ok (.iload_n 3, 1) := by decide +kernel
theorem dX12_isLaw_3 : decode cX12_isLaw 3 = .ok (.aload_n 0, 1) := by decide +kernel
theorem dX12_isLaw_4 : decode cX12_isLaw 4 = .ok (.getfield 123, 3) := by decide +kernel
theorem dX12_isLaw_7 : decode cX12_isLaw 7 = .ok (.iconst 0, 1) := by decide +kernel
theorem dX12_isLaw_8 : decode cX12_isLaw 8 = .ok (.iaload, 1) := by decide +kernel
theorem dX12_isLaw_9 : decode cX12_isLaw 9 = .ok (.if_icmp .ge 30, 3) := by decide +kernel
theorem dX12_isLaw_12 : decode cX12_isLaw 12 = .ok (.iload_n 1, 1) := by decide +kernel
theorem dX12_isLaw_13 : decode cX12_isLaw 13 = .ok (.iload_n 2, 1) := by decide +kernel
theorem dX12_isLaw_14 : decode cX12_isLaw 14 = .ok (.aload_n 0, 1) := by decide +kernel
theorem dX12_isLaw_15 : decode cX12_isLaw 15 = .ok (.getfield 126, 3) := by decide +kernel
theorem dX12_isLaw_18 : decode cX12_isLaw 18 = .ok (.iload_n 3, 1) := by decide +kernel
theorem dX12_isLaw_19 : decode cX12_isLaw 19 = .ok (.iaload, 1) := by decide +kernel
theorem dX12_isLaw_20 : decode cX12_isLaw 20 = .ok (.imul, 1) := by decide +kernel
theorem dX12_isLaw_21 : decode cX12_isLaw 21 = .ok (.iadd, 1) := by decide +kernel
theorem dX12_isLaw_22 : decode cX12_isLaw 22 = .ok (.aload_n 0, 1) := by decide +kernel
theorem dX12_isLaw_23 : decode cX12_isLaw 23 = .ok (.getfield 129, 3) := by decide +kernel
theorem dX12_isLaw_26 : decode cX12_isLaw 26 = .ok (.iload_n 3, 1) := by decide +kernel
theorem dX12_isLaw_27 : decode cX12_isLaw 27 = .ok (.iaload, 1) := by decide +kernel
theorem dX12_isLaw_28 : decode cX12_isLaw 28 = .ok (.if_icmp .eq 5, 3) := by decide +kernel
theorem dX12_isLaw_31 : decode cX12_isLaw 31 = .ok (.iconst 0, 1) := by decide +kernel
theorem dX12_isLaw_32 : decode cX12_isLaw 32 = .ok (.ireturn, 1) := by decide +kernel
theorem dX12_isLaw_33 : decode cX12_isLaw 33 = .ok (.iinc 3 1, 3) := by decide +kernel
theorem dX12_isLaw_36 : decode cX12_isLaw 36 = .ok (.goto (-34), 3) := by decide +kernel
theorem dX12_isLaw_39 : decode cX12_isLaw 39 = .ok (.iconst 1, 1) := by decide +kernel
theorem dX12_isLaw_40 : decode cX12_isLaw 40 = .ok (.ireturn, 1) := by decide +kernel
theorem dX12_laws_0 : decode cX12_laws 0 = .ok (.aload_n 0, 1) := by decide +kernel
theorem dX12_laws_1 : decode cX12_laws 1 = .ok (.iconst 0, 1) := by decide +kernel
theorem dX12_laws_2 : decode cX12_laws 2 = .ok (.putfield 194, 3) := by decide +kernel
theorem dX12_laws_5 : decode cX12_laws 5 = .ok (.iload_n 1, 1) := by decide +kernel
theorem dX12_laws_6 : decode cX12_laws 6 = .ok (.iconst (-1), 1) := by decide +kernel
theorem dX12_laws_7 : decode cX12_laws 7 = .ok (.bipush 9, 2) := by decide +kernel
theorem dX12_laws_9 : decode cX12_laws 9 = .ok (.invokestatic 343, 3) := by decide +kernel
theorem dX12_laws_12 : decode cX12_laws 12 = .ok (.ifCond .ne 6, 3) := by decide +kernel
theorem dX12_laws_15 : decode cX12_laws 15 = .ok (.bipush (-2), 2) := by decide +kernel
theorem dX12_laws_17 : decode cX12_laws 17 = .ok (.ireturn, 1) := by decide +kernel
theorem dX12_laws_18 : decode cX12_laws 18 = .ok (.iconst 0, 1) := by decide +kernel
theorem dX12_laws_19 : decode cX12_laws 19 = .ok (.istore_n 2, 1) := by decide +kernel
theorem dX12_laws_20 : decode cX12_laws 20 = .ok (.iconst 0, 1) := by decide +kernel
theorem dX12_laws_21 : decode cX12_laws 21 = .ok (.istore_n 3, 1) := by decide +kernel
theorem dX12_laws_22 : decode cX12_laws 22 = .ok (.iconst 1, 1) := by decide +kernel
theorem dX12_laws_23 : decode cX12_laws 23 = .ok (.istore 4, 2) := by decide +kernel
theorem dX12_laws_25 : decode cX12_laws 25 = .ok (.iconst 0, 1) := by decide +kernel
theorem dX12_laws_26 : decode cX12_laws 26 = .ok (.istore 5, 2) := by decide +kernel
theorem dX12_laws_28 : decode cX12_laws 28 = .ok (.iload 5, 2) := by decide +kernel
theorem dX12_laws_30 : decode cX12_laws 30 = .ok (.bipush 10, 2) := by decide +kernel
theorem dX12_laws_32 : decode cX12_laws 32 = .ok (.if_icmp .ge 76, 3) := by decide +kernel
theorem dX12_laws_35 : decode cX12_laws 35 = .ok (.iconst 0, 1) := by decide +kernel
theorem dX12_laws_36 : decode cX12_laws 36 = .ok (.istore 6, 2) := by decide +kernel
theorem dX12_laws_38 : decode cX12_laws 38 = .ok (.iload 6, 2) := by decide +kernel
theorem dX12_laws_40 : decode cX12_laws 40 = .ok (.bipush 10, 2) := by decide +kernel
theorem dX12_laws_42 : decode cX12_laws 42 = .ok (.if_icmp .ge 60, 3) := by decide +kernel
theorem dX12_laws_45 : decode cX12_laws 45 = .ok (.aload_n 0, 1) := by decide +kernel
theorem dX12_laws_46 : decode cX12_laws 46 = .ok (.iload 5, 2) := by decide +kernel
theorem dX12_laws_48 : decode cX12_laws 48 = .ok (.iload 6, 2) := by decide +kernel
theorem dX12_laws_50 : decode cX12_laws 50 = .ok (.invokevirtual 575, 3) := by decide +kernel
theorem dX12_laws_53 : decode cX12_laws 53 = .ok (.ifCond .ne 6, 3) := by decide +kernel
theorem dX12_laws_56 : decode cX12_laws 56 = .ok (.goto 40, 3) := by decide +kernel
theorem dX12_laws_59 : decode cX12_laws 59 = .ok (.iload 5, 2) := by decide +kernel
theorem dX12_laws_61 : decode cX12_laws 61 = .ok (.iload 6, 2) := by decide +kernel
theorem dX12_laws_63 : decode cX12_laws 63 = .ok (.iload_n 1, 1) := by decide +kernel
theorem dX12_laws_64 : decode cX12_laws 64 = .ok (.imul, 1) := by decide +kernel
theorem dX12_laws_65 : decode cX12_laws 65 = .ok (.iadd, 1) := by decide +kernel
theorem dX12_laws_66 : decode cX12_laws 66 = .ok (.istore 7, 2) := by decide +kernel
theorem dX12_laws_68 : decode cX12_laws 68 = .ok (.iload_n 2, 1) := by decide +kernel
theorem dX12_laws_69 : decode cX12_laws 69 = .ok (.ifCond .ne 6, 3) := by decide +kernel
theorem dX12_laws_72 : decode cX12_laws 72 = .ok (.iload 7, 2) := by decide +kernel
theorem dX12_laws_74 : decode cX12_laws 74 = .ok (.istore_n 3, 1) := by decide +kernel
theorem dX12_laws_75 : decode cX12_laws 75 = .ok (.iload 4, 2) := by decide +kernel
theorem dX12_laws_77 : decode cX12_laws 77 = .ok (.ifCond .eq 13, 3) := by decide +kernel
theorem dX12_laws_80 : decode cX12_laws 80 = .ok (.iload 7, 2) := by decide +kernel
theorem dX12_laws_82 : decode cX12_laws 82 = .ok (.iload_n 3, 1) := by decide +kernel
theorem dX12_laws_83 : decode cX12_laws 83 = .ok (.if_icmp .ne 7, 3) := by decide +kernel
theorem dX12_laws_86 : decode cX12_laws 86 = .ok (.iconst 1, 1) := by decide +kernel
theorem dX12_laws_87 : decode cX12_laws 87 = .ok (.goto 4, 3) := by decide +kernel
theorem dX12_laws_90 : decode cX12_laws 90 = .ok (.iconst 0, 1) := by decide +kernel
theorem dX12_laws_91 : decode cX12_laws 91 = .ok (.istore 4, 2) := by decide +kernel
theorem dX12_laws_93 : decode cX12_laws 93 = .ok (.iinc 2 1, 3) := by decide +kernel
theorem dX12_laws_96 : decode cX12_laws 96 = .ok (.iinc 6 1, 3) := by decide +kernel
theorem dX12_laws_99 : decode cX12_laws 99 = .ok (.goto (-61), 3) := by decide +kernel
theorem dX12_laws_102 : decode cX12_laws 102 = .ok (.iinc 5 1, 3) := by decide +kernel
theorem dX12_laws_105 : decode cX12_laws 105 = .ok (.goto (-77), 3) := by decide +kernel
theorem dX12_laws_108 : decode cX12_laws 108 = .ok (.iload_n 1, 1) := by decide +kernel
theorem dX12_laws_109 : decode cX12_laws 109 = .ok (.iconst (-1), 1) := by decide +kernel
theorem dX12_laws_110 : decode cX12_laws 110 = .ok (.if_icmp .ne 7, 3) := by decide +kernel
theorem dX12_laws_113 : decode cX12_laws 113 = .ok (.iload_n 2, 1) := by decide +kernel
theorem dX12_laws_114 : decode cX12_laws 114 = .ok (.goto 18, 3) := by decide +kernel
theorem dX12_laws_117 : decode cX12_laws 117 = .ok (.iload_n 2, 1) := by decide +kernel
theorem dX12_laws_118 : decode cX12_laws 118 = .ok (.ifCond .eq 8, 3) := by decide +kernel
theorem dX12_laws_121 : decode cX12_laws 121 = .ok (.iload 4, 2) := by decide +kernel
theorem dX12_laws_123 : decode cX12_laws 123 = .ok (.ifCond .ne 8, 3) := by decide +kernel
theorem dX12_laws_126 : decode cX12_laws 126 = .ok (.bipush (-2), 2) := by decide +kernel
theorem dX12_laws_128 : decode cX12_laws 128 = .ok (.goto 4, 3) := by decide +kernel
theorem dX12_laws_131 : decode cX12_laws 131 = .ok (.iload_n 3, 1) := by decide +kernel
theorem dX12_laws_132 : decode cX12_laws 132 = .ok (.ireturn, 1) := by decide +kernel
theorem dX12_see_0 : decode cX12_see 0 = .ok (.aload_n 0, 1) := by decide +kernel
theorem dX12_see_1 : decode cX12_see 1 = .ok (.iconst 0, 1) := by decide +kernel
theorem dX12_see_2 : decode cX12_see 2 = .ok (.putfield 194, 3) := by decide +kernel
theorem dX12_see_5 : decode cX12_see 5 = .ok (.iload_n 1, 1) := by decide +kernel
theorem dX12_see_6 : decode cX12_see 6 = .ok (.iconst 0, 1) := by decide +kernel
theorem dX12_see_7 : decode cX12_see 7 = .ok (.sipush 900, 3) := by decide +kernel
theorem dX12_see_10 : decode cX12_see 10 = .ok (.invokestatic 343, 3) := by decide +kernel
theorem dX12_see_13 : decode cX12_see 13 = .ok (.ifCond .eq 24, 3) := by decide +kernel
theorem dX12_see_16 : decode cX12_see 16 = .ok (.iload_n 2, 1) := by decide +kernel
theorem dX12_see_17 : decode cX12_see 17 = .ok (.iconst 0, 1) := by decide +kernel
theorem dX12_see_18 : decode cX12_see 18 = .ok (.bipush 6, 2) := by decide +kernel
theorem dX12_see_20 : decode cX12_see 20 = .ok (.invokestatic 343, 3) := by decide +kernel
theorem dX12_see_23 : decode cX12_see 23 = .ok (.ifCond .eq 14, 3) := by decide +kernel
theorem dX12_see_26 : decode cX12_see 26 = .ok (.aload_n 0, 1) := by decide +kernel
theorem dX12_see_27 : decode cX12_see 27 = .ok (.getfield 132, 3) := by decide +kernel
theorem dX12_see_30 : decode cX12_see 30 = .ok (.iconst 0, 1) := by decide +kernel
theorem dX12_see_31 : decode cX12_see 31 = .ok (.iaload, 1) := by decide +kernel
theorem dX12_see_32 : decode cX12_see 32 = .ok (.bipush 6, 2) := by decide +kernel
theorem dX12_see_34 : decode cX12_see 34 = .ok (.if_icmp .ne 5, 3) := by decide +kernel
theorem dX12_see_37 : decode cX12_see 37 = .ok (.iconst 0, 1) := by decide +kernel
theorem dX12_see_38 : decode cX12_see 38 = .ok (.ireturn, 1) := by decide +kernel
theorem dX12_see_39 : decode cX12_see 39 = .ok (.aload_n 0, 1) := by decide +kernel
theorem dX12_see_40 : decode cX12_see 40 = .ok (.getfield 135, 3) := by decide +kernel
theorem dX12_see_43 : decode cX12_see 43 = .ok (.aload_n 0, 1) := by decide +kernel
theorem dX12_see_44 : decode cX12_see 44 = .ok (.getfield 132, 3) := by decide +kernel
theorem dX12_see_47 : decode cX12_see 47 = .ok (.iconst 0, 1) := by decide +kernel
theorem dX12_see_48 : decode cX12_see 48 = .ok (.iaload, 1) := by decide +kernel
theorem dX12_see_49 : decode cX12_see 49 = .ok (.iload_n 1, 1) := by decide +kernel
theorem dX12_see_50 : decode cX12_see 50 = .ok (.iastore, 1) := by decide +kernel
theorem dX12_see_51 : decode cX12_see 51 = .ok (.aload_n 0, 1) := by decide +kernel
theorem dX12_see_52 : decode cX12_see 52 = .ok (.getfield 138, 3) := by decide +kernel
theorem dX12_see_55 : decode cX12_see 55 = .ok (.aload_n 0, 1) := by decide +kernel
theorem dX12_see_56 : decode cX12_see 56 = .ok (.getfield 132, 3) := by decide +kernel
theorem dX12_see_59 : decode cX12_see 59 = .ok (.iconst 0, 1) := by decide +kernel
theorem dX12_see_60 : decode cX12_see 60 = .ok (.iaload, 1) := by decide +kernel
theorem dX12_see_61 : decode cX12_see 61 = .ok (.iload_n 2, 1) := by decide +kernel
theorem dX12_see_62 : decode cX12_see 62 = .ok (.iastore, 1) := by decide +kernel
theorem dX12_see_63 : decode cX12_see 63 = .ok (.aload_n 0, 1) := by decide +kernel
theorem dX12_see_64 : decode cX12_see 64 = .ok (.getfield 132, 3) := by decide +kernel
theorem dX12_see_67 : decode cX12_see 67 = .ok (.iconst 0, 1) := by decide +kernel
theorem dX12_see_68 : decode cX12_see 68 = .ok (.dup2, 1) := by decide +kernel
theorem dX12_see_69 : decode cX12_see 69 = .ok (.iaload, 1) := by decide +kernel
theorem dX12_see_70 : decode cX12_see 70 = .ok (.iconst 1, 1) := by decide +kernel
theorem dX12_see_71 : decode cX12_see 71 = .ok (.iadd, 1) := by decide +kernel
theorem dX12_see_72 : decode cX12_see 72 = .ok (.iastore, 1) := by decide +kernel
theorem dX12_see_73 : decode cX12_see 73 = .ok (.iconst 1, 1) := by decide +kernel
theorem dX12_see_74 : decode cX12_see 74 = .ok (.ireturn, 1) := by decide +kernel
theorem dX12_was_0 : decode cX12_was 0 = .ok (.aload_n 0, 1) := by decide +kernel
theorem dX12_was_1 : decode cX12_was 1 = .ok (.iconst 0, 1) := by decide +kernel
theorem dX12_was_2 : decode cX12_was 2 = .ok (.putfield 194, 3) := by decide +kernel
theorem dX12_was_5 : decode cX12_was 5 = .ok (.aload_n 0, 1) := by decide +kernel
theorem dX12_was_6 : decode cX12_was 6 = .ok (.invokevirtual 528, 3) := by decide +kernel
theorem dX12_was_9 : decode cX12_was 9 = .ok (.iconst 0, 1) := by decide +kernel
theorem dX12_was_10 : decode cX12_was 10 = .ok (.istore_n 1, 1) := by decide +kernel
theorem dX12_was_11 : decode cX12_was 11 = .ok (.iconst 0, 1) := by decide +kernel
theorem dX12_was_12 : decode cX12_was 12 = .ok (.istore_n 2, 1) := by decide +kernel
theorem dX12_was_13 : decode cX12_was 13 = .ok (.iload_n 2, 1) := by decide +kernel
theorem dX12_was_14 : decode cX12_was 14 = .ok (.bipush 10, 2) := by decide +kernel
theorem dX12_was_16 : decode cX12_was 16 = .ok (.if_icmp .ge 81, 3) := by decide +kernel
theorem dX12_was_19 : decode cX12_was 19 = .ok (.iconst 1, 1) := by decide +kernel
theorem dX12_was_20 : decode cX12_was 20 = .ok (.istore_n 3, 1) := by decide +kernel
theorem dX12_was_21 : decode cX12_was 21 = .ok (.iconst 0, 1) := by decide +kernel
theorem dX12_was_22 : decode cX12_was 22 = .ok (.istore 4, 2) := by decide +kernel
theorem dX12_was_24 : decode cX12_was 24 = .ok (.iload 4, 2) := by decide +kernel
theorem dX12_was_26 : decode cX12_was 26 = .ok (.aload_n 0, 1) := by decide +kernel
theorem dX12_was_27 : decode cX12_was 27 = .ok (.getfield 132, 3) := by decide +kernel
theorem dX12_was_30 : decode cX12_was 30 = .ok (.iconst 0, 1) := by decide +kernel
theorem dX12_was_31 : decode cX12_was 31 = .ok (.iaload, 1) := by decide +kernel
theorem dX12_was_32 : decode cX12_was 32 = .ok (.if_icmp .ge 45, 3) := by decide +kernel
theorem dX12_was_35 : decode cX12_was 35 = .ok (.iload_n 3, 1) := by decide +kernel
theorem dX12_was_36 : decode cX12_was 36 = .ok (.ifCond .eq 33, 3) := by decide +kernel
theorem dX12_was_39 : decode cX12_was 39 = .ok (.aload_n 0, 1) := by decide +kernel
theorem dX12_was_40 : decode cX12_was 40 = .ok (.aload_n 0, 1) := by decide +kernel
theorem dX12_was_41 : decode cX12_was 41 = .ok (.getfield 135, 3) := by decide +kernel
theorem dX12_was_44 : decode cX12_was 44 = .ok (.iload 4, 2) := by decide +kernel
theorem dX12_was_46 : decode cX12_was 46 = .ok (.iaload, 1) := by decide +kernel
theorem dX12_was_47 : decode cX12_was 47 = .ok (.bipush 60, 2) := by decide +kernel
theorem dX12_was_49 : decode cX12_was 49 = .ok (.iload_n 2, 1) := by decide +kernel
theorem dX12_was_50 : decode cX12_was 50 = .ok (.imul, 1) := by decide +kernel
theorem dX12_was_51 : decode cX12_was 51 = .ok (.isub, 1) := by decide +kernel
theorem dX12_was_52 : decode cX12_was 52 = .ok (.invokevirtual 553, 3) := by decide +kernel
theorem dX12_was_55 : decode cX12_was 55 = .ok (.aload_n 0, 1) := by decide +kernel
theorem dX12_was_56 : decode cX12_was 56 = .ok (.getfield 138, 3) := by decide +kernel
theorem dX12_was_59 : decode cX12_was 59 = .ok (.iload 4, 2) := by decide +kernel
theorem dX12_was_61 : decode cX12_was 61 = .ok (.iaload, 1) := by decide +kernel
theorem dX12_was_62 : decode cX12_was 62 = .ok (.if_icmp .ne 7, 3) := by decide +kernel
theorem dX12_was_65 : decode cX12_was 65 = .ok (.iconst 1, 1) := by decide +kernel
theorem dX12_was_66 : decode cX12_was 66 = .ok (.goto 4, 3) := by decide +kernel
theorem dX12_was_69 : decode cX12_was 69 = .ok (.iconst 0, 1) := by decide +kernel
theorem dX12_was_70 : decode cX12_was 70 = .ok (.istore_n 3, 1) := by decide +kernel
theorem dX12_was_71 : decode cX12_was 71 = .ok (.iinc 4 1, 3) := by decide +kernel
theorem dX12_was_74 : decode cX12_was 74 = .ok (.goto (-50), 3) := by decide +kernel
theorem dX12_was_77 : decode cX12_was 77 = .ok (.iload_n 1, 1) := by decide +kernel
theorem dX12_was_78 : decode cX12_was 78 = .ok (.iload_n 3, 1) := by decide +kernel
theorem dX12_was_79 : decode cX12_was 79 = .ok (.ifCond .eq 9, 3) := by decide +kernel
theorem dX12_was_82 : decode cX12_was 82 = .ok (.iconst 1, 1) := by decide +kernel
theorem dX12_was_83 : decode cX12_was 83 = .ok (.iload_n 2, 1) := by decide +kernel
theorem dX12_was_84 : decode cX12_was 84 = .ok (.ishl, 1) := by decide +kernel
theorem dX12_was_85 : decode cX12_was 85 = .ok (.goto 4, 3) := by decide +kernel
theorem dX12_was_88 : decode cX12_was 88 = .ok (.iconst 0, 1) := by decide +kernel
theorem dX12_was_89 : decode cX12_was 89 = .ok (.ior, 1) := by decide +kernel
theorem dX12_was_90 : decode cX12_was 90 = .ok (.istore_n 1, 1) := by decide +kernel
theorem dX12_was_91 : decode cX12_was 91 = .ok (.iinc 2 1, 3) := by decide +kernel
theorem dX12_was_94 : decode cX12_was 94 = .ok (.goto (-81), 3) := by decide +kernel
theorem dX12_was_97 : decode cX12_was 97 = .ok (.iload_n 1, 1) := by decide +kernel
theorem dX12_was_98 : decode cX12_was 98 = .ok (.ireturn, 1) := by decide +kernel
theorem dX12_draws_0 : decode cX12_draws 0 = .ok (.aload_n 0, 1) := by decide +kernel
theorem dX12_draws_1 : decode cX12_draws 1 = .ok (.aload_n 0, 1) := by decide +kernel
theorem dX12_draws_2 : decode cX12_draws 2 = .ok (.getfield 578, 3) := by decide +kernel
theorem dX12_draws_5 : decode cX12_draws 5 = .ok (.ldc2_w 581, 3) := by decide +kernel
theorem dX12_draws_8 : decode cX12_draws 8 = .ok (.lmul, 1) := by decide +kernel
theorem dX12_draws_9 : decode cX12_draws 9 = .ok (.ldc2_w 583, 3) := by decide +kernel
theorem dX12_draws_12 : decode cX12_draws 12 = .ok (.ladd, 1) := by decide +kernel
theorem dX12_draws_13 : decode cX12_draws 13 = .ok (.ldc2_w 585, 3) := by decide +kernel
theorem dX12_draws_16 : decode cX12_draws 16 = .ok (.lrem, 1) := by decide +kernel
theorem dX12_draws_17 : decode cX12_draws 17 = .ok (.putfield 578, 3) := by decide +kernel
theorem dX12_draws_20 : decode cX12_draws 20 = .ok (.aload_n 0, 1) := by decide +kernel
theorem dX12_draws_21 : decode cX12_draws 21 = .ok (.getfield 578, 3) := by decide +kernel
theorem dX12_draws_24 : decode cX12_draws 24 = .ok (.ldc2_w 587, 3) := by decide +kernel
theorem dX12_draws_27 : decode cX12_draws 27 = .ok (.ldiv, 1) := by decide +kernel
theorem dX12_draws_28 : decode cX12_draws 28 = .ok (.iload_n 1, 1) := by decide +kernel
theorem dX12_draws_29 : decode cX12_draws 29 = .ok (.i2l, 1) := by decide +kernel
theorem dX12_draws_30 : decode cX12_draws 30 = .ok (.lrem, 1) := by decide +kernel
theorem dX12_draws_31 : decode cX12_draws 31 = .ok (.l2i, 1) := by decide +kernel
theorem dX12_draws_32 : decode cX12_draws 32 = .ok (.ireturn, 1) := by decide +kernel
theorem dX12_years_0 : decode cX12_years 0 = .ok (.aload_n 0, 1) := by decide +kernel
theorem dX12_years_1 : decode cX12_years 1 = .ok (.iconst 0, 1) := by decide +kernel
theorem dX12_years_2 : decode cX12_years 2 = .ok (.putfield 194, 3) := by decide +kernel
theorem dX12_years_5 : decode cX12_years 5 = .ok (.iload_n 1, 1) := by decide +kernel
theorem dX12_years_6 : decode cX12_years 6 = .ok (.iconst 0, 1) := by decide +kernel
theorem dX12_years_7 : decode cX12_years 7 = .ok (.sipush 9999, 3) := by decide +kernel
theorem dX12_years_10 : decode cX12_years 10 = .ok (.invokestatic 343, 3) := by decide +kernel
theorem dX12_years_13 : decode cX12_years 13 = .ok (.ifCond .eq 22, 3) := by decide +kernel
theorem dX12_years_16 : decode cX12_years 16 = .ok (.iload_n 2, 1) := by decide +kernel
theorem dX12_years_17 : decode cX12_years 17 = .ok (.iconst 1, 1) := by decide +kernel
theorem dX12_years_18 : decode cX12_years 18 = .ok (.bipush 60, 2) := by decide +kernel
theorem dX12_years_20 : decode cX12_years 20 = .ok (.invokestatic 343, 3) := by decide +kernel
theorem dX12_years_23 : decode cX12_years 23 = .ok (.ifCond .eq 12, 3) := by decide +kernel
theorem dX12_years_26 : decode cX12_years 26 = .ok (.iload_n 3, 1) := by decide +kernel
theorem dX12_years_27 : decode cX12_years 27 = .ok (.iconst 0, 1) := by decide +kernel
theorem dX12_years_28 : decode cX12_years 28 = .ok (.iconst 2, 1) := by decide +kernel
theorem dX12_years_29 : decode cX12_years 29 = .ok (.invokestatic 343, 3) := by decide +kernel
theorem dX12_years_32 : decode cX12_years 32 = .ok (.ifCond .ne 5, 3) := by decide +kernel
theorem dX12_years_35 : decode cX12_years 35 = .ok (.iconst (-1), 1) := by decide +kernel
theorem dX12_years_36 : decode cX12_years 36 = .ok (.ireturn, 1) := by decide +kernel
theorem dX12_years_37 : decode cX12_years 37 = .ok (.aload_n 0, 1) := by decide +kernel
theorem dX12_years_38 : decode cX12_years 38 = .ok (.iload_n 1, 1) := by decide +kernel
theorem dX12_years_39 : decode cX12_years 39 = .ok (.i2l, 1) := by decide +kernel
theorem dX12_years_40 : decode cX12_years 40 = .ok (.putfield 578, 3) := by decide +kernel
theorem dX12_years_43 : decode cX12_years 43 = .ok (.aload_n 0, 1) := by decide +kernel
theorem dX12_years_44 : decode cX12_years 44 = .ok (.getfield 141, 3) := by decide +kernel
theorem dX12_years_47 : decode cX12_years 47 = .ok (.iconst 0, 1) := by decide +kernel
theorem dX12_years_48 : decode cX12_years 48 = .ok (.iaload, 1) := by decide +kernel
theorem dX12_years_49 : decode cX12_years 49 = .ok (.istore 4, 2) := by decide +kernel
theorem dX12_years_51 : decode cX12_years 51 = .ok (.iconst 0, 1) := by decide +kernel
theorem dX12_years_52 : decode cX12_years 52 = .ok (.istore 5, 2) := by decide +kernel
theorem dX12_years_54 : decode cX12_years 54 = .ok (.iconst 0, 1) := by decide +kernel
theorem dX12_years_55 : decode cX12_years 55 = .ok (.istore 6, 2) := by decide +kernel
theorem dX12_years_57 : decode cX12_years 57 = .ok (.iload 6, 2) := by decide +kernel
theorem dX12_years_59 : decode cX12_years 59 = .ok (.iload_n 2, 1) := by decide +kernel
theorem dX12_years_60 : decode cX12_years 60 = .ok (.if_icmp .ge 105, 3) := by decide +kernel
theorem dX12_years_63 : decode cX12_years 63 = .ok (.iconst 0, 1) := by decide +kernel
theorem dX12_years_64 : decode cX12_years 64 = .ok (.istore 7, 2) := by decide +kernel
theorem dX12_years_66 : decode cX12_years 66 = .ok (.iconst 0, 1) := by decide +kernel
theorem dX12_years_67 : decode cX12_years 67 = .ok (.istore 8, 2) := by decide +kernel
theorem dX12_years_69 : decode cX12_years 69 = .ok (.iload 8, 2) := by decide +kernel
theorem dX12_years_71 : decode cX12_years 71 = .ok (.aload_n 0, 1) := by decide +kernel
theorem dX12_years_72 : decode cX12_years 72 = .ok (.getfield 13, 3) := by decide +kernel
theorem dX12_years_75 : decode cX12_years 75 = .ok (.iconst 2, 1) := by decide +kernel
theorem dX12_years_76 : decode cX12_years 76 = .ok (.iaload, 1) := by decide +kernel
theorem dX12_years_77 : decode cX12_years 77 = .ok (.if_icmp .ge 38, 3) := by decide +kernel
theorem dX12_years_80 : decode cX12_years 80 = .ok (.iload 7, 2) := by decide +kernel
theorem dX12_years_82 : decode cX12_years 82 = .ok (.aload_n 0, 1) := by decide +kernel
theorem dX12_years_83 : decode cX12_years 83 = .ok (.bipush 10, 2) := by decide +kernel
theorem dX12_years_85 : decode cX12_years 85 = .ok (.invokevirtual 589, 3) := by decide +kernel
theorem dX12_years_88 : decode cX12_years 88 = .ok (.aload_n 0, 1) := by decide +kernel
theorem dX12_years_89 : decode cX12_years 89 = .ok (.getfield 50, 3) := by decide +kernel
theorem dX12_years_92 : decode cX12_years 92 = .ok (.iload 8, 2) := by decide +kernel
theorem dX12_years_94 : decode cX12_years 94 = .ok (.iaload, 1) := by decide +kernel
theorem dX12_years_95 : decode cX12_years 95 = .ok (.if_icmp .ge 10, 3) := by decide +kernel
theorem dX12_years_98 : decode cX12_years 98 = .ok (.iconst 1, 1) := by decide +kernel
theorem dX12_years_99 : decode cX12_years 99 = .ok (.iload 8, 2) := by decide +kernel
theorem dX12_years_101 : decode cX12_years 101 = .ok (.ishl, 1) := by decide +kernel
theorem dX12_years_102 : decode cX12_years 102 = .ok (.goto 4, 3) := by decide +kernel
theorem dX12_years_105 : decode cX12_years 105 = .ok (.iconst 0, 1) := by decide +kernel
theorem dX12_years_106 : decode cX12_years 106 = .ok (.ior, 1) := by decide +kernel
theorem dX12_years_107 : decode cX12_years 107 = .ok (.istore 7, 2) := by decide +kernel
theorem dX12_years_109 : decode cX12_years 109 = .ok (.iinc 8 1, 3) := by decide +kernel
theorem dX12_years_112 : decode cX12_years 112 = .ok (.goto (-43), 3) := by decide +kernel
theorem dX12_years_115 : decode cX12_years 115 = .ok (.aload_n 0, 1) := by decide +kernel
theorem dX12_years_116 : decode cX12_years 116 = .ok (.getfield 141, 3) := by decide +kernel
theorem dX12_years_119 : decode cX12_years 119 = .ok (.iconst 0, 1) := by decide +kernel
theorem dX12_years_120 : decode cX12_years 120 = .ok (.iload 7, 2) := by decide +kernel
theorem dX12_years_122 : decode cX12_years 122 = .ok (.iastore, 1) := by decide +kernel
theorem dX12_years_123 : decode cX12_years 123 = .ok (.aload_n 0, 1) := by decide +kernel
theorem dX12_years_124 : decode cX12_years 124 = .ok (.invokevirtual 528, 3) := by decide +kernel
theorem dX12_years_127 : decode cX12_years 127 = .ok (.iload 5, 2) := by decide +kernel
theorem dX12_years_129 : decode cX12_years 129 = .ok (.iload_n 3, 1) := by decide +kernel
theorem dX12_years_130 : decode cX12_years 130 = .ok (.ifCond .ne 10, 3) := by decide +kernel
theorem dX12_years_133 : decode cX12_years 133 = .ok (.aload_n 0, 1) := by decide +kernel
theorem dX12_years_134 : decode cX12_years 134 = .ok (.invokevirtual 534, 3) := by decide +kernel
theorem dX12_years_137 : decode cX12_years 137 = .ok (.goto 19, 3) := by decide +kernel
theorem dX12_years_140 : decode cX12_years 140 = .ok (.iload_n 3, 1) := by decide +kernel
theorem dX12_years_141 : decode cX12_years 141 = .ok (.iconst 1, 1) := by decide +kernel
theorem dX12_years_142 : decode cX12_years 142 = .ok (.if_icmp .ne 10, 3) := by decide +kernel
theorem dX12_years_145 : decode cX12_years 145 = .ok (.aload_n 0, 1) := by decide +kernel
theorem dX12_years_146 : decode cX12_years 146 = .ok (.invokevirtual 540, 3) := by decide +kernel
theorem dX12_years_149 : decode cX12_years 149 = .ok (.goto 7, 3) := by decide +kernel
theorem dX12_years_152 : decode cX12_years 152 = .ok (.aload_n 0, 1) := by decide +kernel
theorem dX12_years_153 : decode cX12_years 153 = .ok (.invokevirtual 549, 3) := by decide +kernel
theorem dX12_years_156 : decode cX12_years 156 = .ok (.iadd, 1) := by decide +kernel
theorem dX12_years_157 : decode cX12_years 157 = .ok (.istore 5, 2) := by decide +kernel
theorem dX12_years_159 : decode cX12_years 159 = .ok (.iinc 6 1, 3) := by decide +kernel
theorem dX12_years_162 : decode cX12_years 162 = .ok (.goto (-105), 3) := by decide +kernel
theorem dX12_years_165 : decode cX12_years 165 = .ok (.aload_n 0, 1) := by decide +kernel
theorem dX12_years_166 : decode cX12_years 166 = .ok (.getfield 141, 3) := by decide +kernel
theorem dX12_years_169 : decode cX12_years 169 = .ok (.iconst 0, 1) := by decide +kernel
theorem dX12_years_170 : decode cX12_years 170 = .ok (.iload 4, 2) := by decide +kernel
theorem dX12_years_172 : decode cX12_years 172 = .ok (.iastore, 1) := by decide +kernel
theorem dX12_years_173 : decode cX12_years 173 = .ok (.iload 5, 2) := by decide +kernel
theorem dX12_years_175 : decode cX12_years 175 = .ok (.ireturn, 1) := by decide +kernel
theorem dX12_mark_0 : decode cX12_mark 0 = .ok (.aload_n 0, 1) := by decide +kernel
theorem dX12_mark_1 : decode cX12_mark 1 = .ok (.iconst 0, 1) := by decide +kernel
theorem dX12_mark_2 : decode cX12_mark 2 = .ok (.putfield 194, 3) := by decide +kernel
theorem dX12_mark_5 : decode cX12_mark 5 = .ok (.iload_n 1, 1) := by decide +kernel
theorem dX12_mark_6 : decode cX12_mark 6 = .ok (.iconst 0, 1) := by decide +kernel
theorem dX12_mark_7 : decode cX12_mark 7 = .ok (.iconst 3, 1) := by decide +kernel
theorem dX12_mark_8 : decode cX12_mark 8 = .ok (.invokestatic 343, 3) := by decide +kernel
theorem dX12_mark_11 : decode cX12_mark 11 = .ok (.ifCond .eq 16, 3) := by decide +kernel
theorem dX12_mark_14 : decode cX12_mark 14 = .ok (.iload_n 2, 1) := by decide +kernel
theorem dX12_mark_15 : decode cX12_mark 15 = .ok (.ifCond .eq 14, 3) := by decide +kernel
theorem dX12_mark_18 : decode cX12_mark 18 = .ok (.aload_n 0, 1) := by decide +kernel
theorem dX12_mark_19 : decode cX12_mark 19 = .ok (.getfield 153, 3) := by decide +kernel
theorem dX12_mark_22 : decode cX12_mark 22 = .ok (.iload_n 1, 1) := by decide +kernel
theorem dX12_mark_23 : decode cX12_mark 23 = .ok (.baload, 1) := by decide +kernel
theorem dX12_mark_24 : decode cX12_mark 24 = .ok (.ifCond .ne 5, 3) := by decide +kernel
theorem dX12_mark_27 : decode cX12_mark 27 = .ok (.iconst 0, 1) := by decide +kernel
theorem dX12_mark_28 : decode cX12_mark 28 = .ok (.ireturn, 1) := by decide +kernel
theorem dX12_mark_29 : decode cX12_mark 29 = .ok (.aload_n 0, 1) := by decide +kernel
theorem dX12_mark_30 : decode cX12_mark 30 = .ok (.getfield 153, 3) := by decide +kernel
theorem dX12_mark_33 : decode cX12_mark 33 = .ok (.iload_n 1, 1) := by decide +kernel
theorem dX12_mark_34 : decode cX12_mark 34 = .ok (.iconst 1, 1) := by decide +kernel
theorem dX12_mark_35 : decode cX12_mark 35 = .ok (.bastore, 1) := by decide +kernel
theorem dX12_mark_36 : decode cX12_mark 36 = .ok (.iload_n 2, 1) := by decide +kernel
theorem dX12_mark_37 : decode cX12_mark 37 = .ok (.ifCond .eq 9, 3) := by decide +kernel
theorem dX12_mark_40 : decode cX12_mark 40 = .ok (.iconst 1, 1) := by decide +kernel
theorem dX12_mark_41 : decode cX12_mark 41 = .ok (.iload_n 1, 1) := by decide +kernel
theorem dX12_mark_42 : decode cX12_mark 42 = .ok (.iadd, 1) := by decide +kernel
theorem dX12_mark_43 : decode cX12_mark 43 = .ok (.goto 4, 3) := by decide +kernel
theorem dX12_mark_46 : decode cX12_mark 46 = .ok (.iconst 0, 1) := by decide +kernel
theorem dX12_mark_47 : decode cX12_mark 47 = .ok (.istore_n 3, 1) := by decide +kernel
theorem dX12_mark_48 : decode cX12_mark 48 = .ok (.iload_n 2, 1) := by decide +kernel
theorem dX12_mark_49 : decode cX12_mark 49 = .ok (.ifCond .eq 7, 3) := by decide +kernel
theorem dX12_mark_52 : decode cX12_mark 52 = .ok (.iconst 0, 1) := by decide +kernel
theorem dX12_mark_53 : decode cX12_mark 53 = .ok (.goto 6, 3) := by decide +kernel
theorem dX12_mark_56 : decode cX12_mark 56 = .ok (.iconst 1, 1) := by decide +kernel
theorem dX12_mark_57 : decode cX12_mark 57 = .ok (.iload_n 1, 1) := by decide +kernel
theorem dX12_mark_58 : decode cX12_mark 58 = .ok (.iadd, 1) := by decide +kernel
theorem dX12_mark_59 : decode cX12_mark 59 = .ok (.istore 4, 2) := by decide +kernel
theorem dX12_mark_61 : decode cX12_mark 61 = .ok (.aload_n 0, 1) := by decide +kernel
theorem dX12_mark_62 : decode cX12_mark 62 = .ok (.iload_n 3, 1) := by decide +kernel
theorem dX12_mark_63 : decode cX12_mark 63 = .ok (.iload 4, 2) := by decide +kernel
theorem dX12_mark_65 : decode cX12_mark 65 = .ok (.invokevirtual 439, 3) := by decide +kernel
theorem dX12_mark_68 : decode cX12_mark 68 = .ok (.aload_n 0, 1) := by decide +kernel
theorem dX12_mark_69 : decode cX12_mark 69 = .ok (.iload_n 3, 1) := by decide +kernel
theorem dX12_mark_70 : decode cX12_mark 70 = .ok (.iload 4, 2) := by decide +kernel
theorem dX12_mark_72 : decode cX12_mark 72 = .ok (.invokevirtual 592, 3) := by decide +kernel
theorem dX12_mark_75 : decode cX12_mark 75 = .ok (.iload_n 2, 1) := by decide +kernel
theorem dX12_mark_76 : decode cX12_mark 76 = .ok (.ifCond .eq 27, 3) := by decide +kernel
theorem dX12_mark_79 : decode cX12_mark 79 = .ok (.aload_n 0, 1) := by decide +kernel
theorem dX12_mark_80 : decode cX12_mark 80 = .ok (.getfield 147, 3) := by decide +kernel
theorem dX12_mark_83 : decode cX12_mark 83 = .ok (.bipush 9, 2) := by decide +kernel
theorem dX12_mark_85 : decode cX12_mark 85 = .ok (.iload_n 1, 1) := by decide +kernel
theorem dX12_mark_86 : decode cX12_mark 86 = .ok (.imul, 1) := by decide +kernel
theorem dX12_mark_87 : decode cX12_mark 87 = .ok (.aload_n 0, 1) := by decide +kernel
theorem dX12_mark_88 : decode cX12_mark 88 = .ok (.getfield 141, 3) := by decide +kernel
theorem dX12_mark_91 : decode cX12_mark 91 = .ok (.iconst 0, 1) := by decide +kernel
theorem dX12_mark_92 : decode cX12_mark 92 = .ok (.invokestatic 513, 3) := by decide +kernel
theorem dX12_mark_95 : decode cX12_mark 95 = .ok (.aload_n 0, 1) := by decide +kernel
theorem dX12_mark_96 : decode cX12_mark 96 = .ok (.iconst 0, 1) := by decide +kernel
theorem dX12_mark_97 : decode cX12_mark 97 = .ok (.putfield 433, 3) := by decide +kernel
theorem dX12_mark_100 : decode cX12_mark 100 = .ok (.goto 19, 3) := by decide +kernel
theorem dX12_mark_103 : decode cX12_mark 103 = .ok (.aload_n 0, 1) := by decide +kernel
theorem dX12_mark_104 : decode cX12_mark 104 = .ok (.getfield 141, 3) := by decide +kernel
theorem dX12_mark_107 : decode cX12_mark 107 = .ok (.iconst 0, 1) := by decide +kernel
theorem dX12_mark_108 : decode cX12_mark 108 = .ok (.aload_n 0, 1) := by decide +kernel
theorem dX12_mark_109 : decode cX12_mark 109 = .ok (.getfield 147, 3) := by decide +kernel
theorem dX12_mark_112 : decode cX12_mark 112 = .ok (.bipush 9, 2) := by decide +kernel
theorem dX12_mark_114 : decode cX12_mark 114 = .ok (.iload_n 1, 1) := by decide +kernel
theorem dX12_mark_115 : decode cX12_mark 115 = .ok (.imul, 1) := by decide +kernel
theorem dX12_mark_116 : decode cX12_mark 116 = .ok (.invokestatic 513, 3) := by decide +kernel
theorem dX12_mark_119 : decode cX12_mark 119 = .ok (.iconst 1, 1) := by decide +kernel
theorem dX12_mark_120 : decode cX12_mark 120 = .ok (.ireturn, 1) := by decide +kernel
theorem dX12_count_0 : decode cX12_count 0 = .ok (.aload_n 0, 1) := by decide +kernel
theorem dX12_count_1 : decode cX12_count 1 = .ok (.iconst 0, 1) := by decide +kernel
theorem dX12_count_2 : decode cX12_count 2 = .ok (.putfield 194, 3) := by decide +kernel
theorem dX12_count_5 : decode cX12_count 5 = .ok (.iload_n 1, 1) := by decide +kernel
theorem dX12_count_6 : decode cX12_count 6 = .ok (.iconst 0, 1) := by decide +kernel
theorem dX12_count_7 : decode cX12_count 7 = .ok (.bipush 12, 2) := by decide +kernel
theorem dX12_count_9 : decode cX12_count 9 = .ok (.invokestatic 343, 3) := by decide +kernel
theorem dX12_count_12 : decode cX12_count 12 = .ok (.ifCond .ne 5, 3) := by decide +kernel
theorem dX12_count_15 : decode cX12_count 15 = .ok (.iconst (-1), 1) := by decide +kernel
theorem dX12_count_16 : decode cX12_count 16 = .ok (.ireturn, 1) := by decide +kernel
theorem dX12_count_17 : decode cX12_count 17 = .ok (.iload_n 1, 1) := by decide +kernel
theorem dX12_count_18 : decode cX12_count 18 = .ok (.iconst 4, 1) := by decide +kernel
theorem dX12_count_19 : decode cX12_count 19 = .ok (.if_icmp .ge 10, 3) := by decide +kernel
theorem dX12_count_22 : decode cX12_count 22 = .ok (.aload_n 0, 1) := by decide +kernel
theorem dX12_count_23 : decode cX12_count 23 = .ok (.getfield 13, 3) := by decide +kernel
theorem dX12_count_26 : decode cX12_count 26 = .ok (.iload_n 1, 1) := by decide +kernel
theorem dX12_count_27 : decode cX12_count 27 = .ok (.iaload, 1) := by decide +kernel
theorem dX12_count_28 : decode cX12_count 28 = .ok (.ireturn, 1) := by decide +kernel
theorem dX12_count_29 : decode cX12_count 29 = .ok (.iload_n 1, 1) := by decide +kernel
theorem dX12_count_30 : decode cX12_count 30 = .ok (.bipush 7, 2) := by decide +kernel
theorem dX12_count_32 : decode cX12_count 32 = .ok (.if_icmp .ge 28, 3) := by decide +kernel
theorem dX12_count_35 : decode cX12_count 35 = .ok (.aload_n 0, 1) := by decide +kernel
theorem dX12_count_36 : decode cX12_count 36 = .ok (.getfield 141, 3) := by decide +kernel
theorem dX12_count_39 : decode cX12_count 39 = .ok (.iload_n 1, 1) := by decide +kernel
theorem dX12_count_40 : decode cX12_count 40 = .ok (.iconst 4, 1) := by decide +kernel
theorem dX12_count_41 : decode cX12_count 41 = .ok (.if_icmp .ne 7, 3) := by decide +kernel
theorem dX12_count_44 : decode cX12_count 44 = .ok (.iconst 1, 1) := by decide +kernel
theorem dX12_count_45 : decode cX12_count 45 = .ok (.goto 13, 3) := by decide +kernel
theorem dX12_count_48 : decode cX12_count 48 = .ok (.iload_n 1, 1) := by decide +kernel
theorem dX12_count_49 : decode cX12_count 49 = .ok (.iconst 5, 1) := by decide +kernel
theorem dX12_count_50 : decode cX12_count 50 = .ok (.if_icmp .ne 7, 3) := by decide +kernel
theorem dX12_count_53 : decode cX12_count 53 = .ok (.iconst 2, 1) := by decide +kernel
theorem dX12_count_54 : decode cX12_count 54 = .ok (.goto 4, 3) := by decide +kernel
theorem dX12_count_57 : decode cX12_count 57 = .ok (.iconst 3, 1) := by decide +kernel
theorem dX12_count_58 : decode cX12_count 58 = .ok (.iaload, 1) := by decide +kernel
theorem dX12_count_59 : decode cX12_count 59 = .ok (.ireturn, 1) := by decide +kernel
theorem dX12_count_60 : decode cX12_count 60 = .ok (.iload_n 1, 1) := by decide +kernel
theorem dX12_count_61 : decode cX12_count 61 = .ok (.bipush 9, 2) := by decide +kernel
theorem dX12_count_63 : decode cX12_count 63 = .ok (.if_icmp .ge 25, 3) := by decide +kernel
theorem dX12_count_66 : decode cX12_count 66 = .ok (.iload_n 1, 1) := by decide +kernel
theorem dX12_count_67 : decode cX12_count 67 = .ok (.bipush 7, 2) := by decide +kernel
theorem dX12_count_69 : decode cX12_count 69 = .ok (.if_icmp .ne 12, 3) := by decide +kernel
theorem dX12_count_72 : decode cX12_count 72 = .ok (.aload_n 0, 1) := by decide +kernel
theorem dX12_count_73 : decode cX12_count 73 = .ok (.getfield 141, 3) := by decide +kernel
theorem dX12_count_76 : decode cX12_count 76 = .ok (.iconst 0, 1) := by decide +kernel
theorem dX12_count_77 : decode cX12_count 77 = .ok (.iaload, 1) := by decide +kernel
theorem dX12_count_78 : decode cX12_count 78 = .ok (.goto 9, 3) := by decide +kernel
theorem dX12_count_81 : decode cX12_count 81 = .ok (.aload_n 0, 1) := by decide +kernel
theorem dX12_count_82 : decode cX12_count 82 = .ok (.getfield 111, 3) := by decide +kernel
theorem dX12_count_85 : decode cX12_count 85 = .ok (.iconst 0, 1) := by decide +kernel
theorem dX12_count_86 : decode cX12_count 86 = .ok (.iaload, 1) := by decide +kernel
theorem dX12_count_87 : decode cX12_count 87 = .ok (.ireturn, 1) := by decide +kernel
theorem dX12_count_88 : decode cX12_count 88 = .ok (.iload_n 1, 1) := by decide +kernel
theorem dX12_count_89 : decode cX12_count 89 = .ok (.bipush 11, 2) := by decide +kernel
theorem dX12_count_91 : decode cX12_count 91 = .ok (.if_icmp .ge 25, 3) := by decide +kernel
theorem dX12_count_94 : decode cX12_count 94 = .ok (.iload_n 1, 1) := by decide +kernel
theorem dX12_count_95 : decode cX12_count 95 = .ok (.bipush 9, 2) := by decide +kernel
theorem dX12_count_97 : decode cX12_count 97 = .ok (.if_icmp .ne 12, 3) := by decide +kernel
theorem dX12_count_100 : decode cX12_count 100 = .ok (.aload_n 0, 1) := by decide +kernel
theorem dX12_count_101 : decode cX12_count 101 = .ok (.getfield 123, 3) := by decide +kernel
theorem dX12_count_104 : decode cX12_count 104 = .ok (.iconst 0, 1) := by decide +kernel
theorem dX12_count_105 : decode cX12_count 105 = .ok (.iaload, 1) := by decide +kernel
theorem dX12_count_106 : decode cX12_count 106 = .ok (.goto 9, 3) := by decide +kernel
theorem dX12_count_109 : decode cX12_count 109 = .ok (.aload_n 0, 1) := by decide +kernel
theorem dX12_count_110 : decode cX12_count 110 = .ok (.getfield 132, 3) := by decide +kernel
theorem dX12_count_113 : decode cX12_count 113 = .ok (.iconst 0, 1) := by decide +kernel
theorem dX12_count_114 : decode cX12_count 114 = .ok (.iaload, 1) := by decide +kernel
theorem dX12_count_115 : decode cX12_count 115 = .ok (.ireturn, 1) := by decide +kernel
theorem dX12_count_116 : decode cX12_count 116 = .ok (.iload_n 1, 1) := by decide +kernel
theorem dX12_count_117 : decode cX12_count 117 = .ok (.bipush 11, 2) := by decide +kernel
theorem dX12_count_119 : decode cX12_count 119 = .ok (.if_icmp .ne 10, 3) := by decide +kernel
theorem dX12_count_122 : decode cX12_count 122 = .ok (.aload_n 0, 1) := by decide +kernel
theorem dX12_count_123 : decode cX12_count 123 = .ok (.getfield 433, 3) := by decide +kernel
theorem dX12_count_126 : decode cX12_count 126 = .ok (.goto 7, 3) := by decide +kernel
theorem dX12_count_129 : decode cX12_count 129 = .ok (.aload_n 0, 1) := by decide +kernel
theorem dX12_count_130 : decode cX12_count 130 = .ok (.getfield 199, 3) := by decide +kernel
theorem dX12_count_133 : decode cX12_count 133 = .ok (.ireturn, 1) := by decide +kernel
