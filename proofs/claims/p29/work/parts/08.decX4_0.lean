theorem dX4_init_0 : decode cX4_init 0 = .ok (.aload_n 0, 1) := by decide +kernel
theorem dX4_init_1 : decode cX4_init 1 = .ok (.invokespecial 3, 3) := by decide +kernel
theorem dX4_init_4 : decode cX4_init 4 = .ok (.aload_n 0, 1) := by decide +kernel
theorem dX4_init_5 : decode cX4_init 5 = .ok (.bipush 7, 2) := by decide +kernel
theorem dX4_init_7 : decode cX4_init 7 = .ok (.newarray .int, 2) := by decide +kernel
theorem dX4_init_9 : decode cX4_init 9 = .ok (.putfield 9, 3) := by decide +kernel
theorem dX4_init_12 : decode cX4_init 12 = .ok (.aload_n 0, 1) := by decide +kernel
theorem dX4_init_13 : decode cX4_init 13 = .ok (.getfield 9, 3) := by decide +kernel
theorem dX4_init_16 : decode cX4_init 16 = .ok (.iconst (-1), 1) := by decide +kernel
theorem dX4_init_17 : decode cX4_init 17 = .ok (.invokestatic 15, 3) := by decide +kernel
theorem dX4_init_20 : decode cX4_init 20 = .ok (.return_, 1) := by decide +kernel
theorem dX4_zoneWith_0 : decode cX4_zoneWith 0 = .ok (.aload_n 0, 1) := by decide +kernel
theorem dX4_zoneWith_1 : decode cX4_zoneWith 1 = .ok (.getfield 9, 3) := by decide +kernel
theorem dX4_zoneWith_4 : decode cX4_zoneWith 4 = .ok (.iload_n 1, 1) := by decide +kernel
theorem dX4_zoneWith_5 : decode cX4_zoneWith 5 = .ok (.iaload, 1) := by decide +kernel
theorem dX4_zoneWith_6 : decode cX4_zoneWith 6 = .ok (.ireturn, 1) := by decide +kernel
theorem dX4_teamAt_0 : decode cX4_teamAt 0 = .ok (.iload_n 1, 1) := by decide +kernel
theorem dX4_teamAt_1 : decode cX4_teamAt 1 = .ok (.iconst (-1), 1) := by decide +kernel
theorem dX4_teamAt_2 : decode cX4_teamAt 2 = .ok (.if_icmp .ne 5, 3) := by decide +kernel
theorem dX4_teamAt_5 : decode cX4_teamAt 5 = .ok (.iconst (-1), 1) := by decide +kernel
theorem dX4_teamAt_6 : decode cX4_teamAt 6 = .ok (.ireturn, 1) := by decide +kernel
theorem dX4_teamAt_7 : decode cX4_teamAt 7 = .ok (.iconst 0, 1) := by decide +kernel
theorem dX4_teamAt_8 : decode cX4_teamAt 8 = .ok (.istore_n 2, 1) := by decide +kernel
theorem dX4_teamAt_9 : decode cX4_teamAt 9 = .ok (.iload_n 2, 1) := by decide +kernel
theorem dX4_teamAt_10 : decode cX4_teamAt 10 = .ok (.bipush 7, 2) := by decide +kernel
theorem dX4_teamAt_12 : decode cX4_teamAt 12 = .ok (.if_icmp .ge 21, 3) := by decide +kernel
theorem dX4_teamAt_15 : decode cX4_teamAt 15 = .ok (.aload_n 0, 1) := by decide +kernel
theorem dX4_teamAt_16 : decode cX4_teamAt 16 = .ok (.getfield 9, 3) := by decide +kernel
theorem dX4_teamAt_19 : decode cX4_teamAt 19 = .ok (.iload_n 2, 1) := by decide +kernel
theorem dX4_teamAt_20 : decode cX4_teamAt 20 = .ok (.iaload, 1) := by decide +kernel
theorem dX4_teamAt_21 : decode cX4_teamAt 21 = .ok (.iload_n 1, 1) := by decide +kernel
theorem dX4_teamAt_22 : decode cX4_teamAt 22 = .ok (.if_icmp .ne 5, 3) := by decide +kernel
theorem dX4_teamAt_25 : decode cX4_teamAt 25 = .ok (.iload_n 2, 1) := by decide +kernel
theorem dX4_teamAt_26 : decode cX4_teamAt 26 = .ok (.ireturn, 1) := by decide +kernel
theorem dX4_teamAt_27 : decode cX4_teamAt 27 = .ok (.iinc 2 1, 3) := by decide +kernel
theorem dX4_teamAt_30 : decode cX4_teamAt 30 = .ok (.goto (-21), 3) := by decide +kernel
theorem dX4_teamAt_33 : decode cX4_teamAt 33 = .ok (.iconst (-1), 1) := by decide +kernel
theorem dX4_teamAt_34 : decode cX4_teamAt 34 = .ok (.ireturn, 1) := by decide +kernel
theorem dX4_lay_0 : decode cX4_lay 0 = .ok (.aload_n 0, 1) := by decide +kernel
theorem dX4_lay_1 : decode cX4_lay 1 = .ok (.getfield 9, 3) := by decide +kernel
theorem dX4_lay_4 : decode cX4_lay 4 = .ok (.iload_n 1, 1) := by decide +kernel
theorem dX4_lay_5 : decode cX4_lay 5 = .ok (.iload_n 2, 1) := by decide +kernel
theorem dX4_lay_6 : decode cX4_lay 6 = .ok (.iastore, 1) := by decide +kernel
theorem dX4_lay_7 : decode cX4_lay 7 = .ok (.return_, 1) := by decide +kernel
theorem dX4_exchange_0 : decode cX4_exchange 0 = .ok (.aload_n 0, 1) := by decide +kernel
theorem dX4_exchange_1 : decode cX4_exchange 1 = .ok (.getfield 9, 3) := by decide +kernel
theorem dX4_exchange_4 : decode cX4_exchange 4 = .ok (.iload_n 1, 1) := by decide +kernel
theorem dX4_exchange_5 : decode cX4_exchange 5 = .ok (.iaload, 1) := by decide +kernel
theorem dX4_exchange_6 : decode cX4_exchange 6 = .ok (.istore_n 3, 1) := by decide +kernel
theorem dX4_exchange_7 : decode cX4_exchange 7 = .ok (.aload_n 0, 1) := by decide +kernel
theorem dX4_exchange_8 : decode cX4_exchange 8 = .ok (.getfield 9, 3) := by decide +kernel
theorem dX4_exchange_11 : decode cX4_exchange 11 = .ok (.iload_n 1, 1) := by decide +kernel
theorem dX4_exchange_12 : decode cX4_exchange 12 = .ok (.aload_n 0, 1) := by decide +kernel
theorem dX4_exchange_13 : decode cX4_exchange 13 = .ok (.getfield 9, 3) := by decide +kernel
theorem dX4_exchange_16 : decode cX4_exchange 16 = .ok (.iload_n 2, 1) := by decide +kernel
theorem dX4_exchange_17 : decode cX4_exchange 17 = .ok (.iaload, 1) := by decide +kernel
theorem dX4_exchange_18 : decode cX4_exchange 18 = .ok (.iastore, 1) := by decide +kernel
theorem dX4_exchange_19 : decode cX4_exchange 19 = .ok (.aload_n 0, 1) := by decide +kernel
theorem dX4_exchange_20 : decode cX4_exchange 20 = .ok (.getfield 9, 3) := by decide +kernel
theorem dX4_exchange_23 : decode cX4_exchange 23 = .ok (.iload_n 2, 1) := by decide +kernel
theorem dX4_exchange_24 : decode cX4_exchange 24 = .ok (.iload_n 3, 1) := by decide +kernel
theorem dX4_exchange_25 : decode cX4_exchange 25 = .ok (.iastore, 1) := by decide +kernel
theorem dX4_exchange_26 : decode cX4_exchange 26 = .ok (.return_, 1) := by decide +kernel
theorem dX4_layLike_0 : decode cX4_layLike 0 = .ok (.aload_n 1, 1) := by decide +kernel
theorem dX4_layLike_1 : decode cX4_layLike 1 = .ok (.getfield 9, 3) := by decide +kernel
theorem dX4_layLike_4 : decode cX4_layLike 4 = .ok (.iconst 0, 1) := by decide +kernel
theorem dX4_layLike_5 : decode cX4_layLike 5 = .ok (.aload_n 0, 1) := by decide +kernel
theorem dX4_layLike_6 : decode cX4_layLike 6 = .ok (.getfield 9, 3) := by decide +kernel
theorem dX4_layLike_9 : decode cX4_layLike 9 = .ok (.iconst 0, 1) := by decide +kernel
theorem dX4_layLike_10 : decode cX4_layLike 10 = .ok (.bipush 7, 2) := by decide +kernel
theorem dX4_layLike_12 : decode cX4_layLike 12 = .ok (.invokestatic 21, 3) := by decide +kernel
theorem dX4_layLike_15 : decode cX4_layLike 15 = .ok (.return_, 1) := by decide +kernel
theorem dX4_countPlaced_0 : decode cX4_countPlaced 0 = .ok (.iconst 0, 1) := by decide +kernel
theorem dX4_countPlaced_1 : decode cX4_countPlaced 1 = .ok (.istore_n 1, 1) := by decide +kernel
theorem dX4_countPlaced_2 : decode cX4_countPlaced 2 = .ok (.iconst 0, 1) := by decide +kernel
theorem dX4_countPlaced_3 : decode cX4_countPlaced 3 = .ok (.istore_n 2, 1) := by decide +kernel
theorem dX4_countPlaced_4 : decode cX4_countPlaced 4 = .ok (.iload_n 2, 1) := by decide +kernel
theorem dX4_countPlaced_5 : decode cX4_countPlaced 5 = .ok (.bipush 7, 2) := by decide +kernel
theorem dX4_countPlaced_7 : decode cX4_countPlaced 7 = .ok (.if_icmp .ge 22, 3) := by decide +kernel
theorem dX4_countPlaced_10 : decode cX4_countPlaced 10 = .ok (.aload_n 0, 1) := by decide +kernel
theorem dX4_countPlaced_11 : decode cX4_countPlaced 11 = .ok (.getfield 9, 3) := by decide +kernel
theorem dX4_countPlaced_14 : decode cX4_countPlaced 14 = .ok (.iload_n 2, 1) := by decide +kernel
theorem dX4_countPlaced_15 : decode cX4_countPlaced 15 = .ok (.iaload, 1) := by decide +kernel
theorem dX4_countPlaced_16 : decode cX4_countPlaced 16 = .ok (.iconst (-1), 1) := by decide +kernel
theorem dX4_countPlaced_17 : decode cX4_countPlaced 17 = .ok (.if_icmp .eq 6, 3) := by decide +kernel
theorem dX4_countPlaced_20 : decode cX4_countPlaced 20 = .ok (.iinc 1 1, 3) := by decide +kernel
theorem dX4_countPlaced_23 : decode cX4_countPlaced 23 = .ok (.iinc 2 1, 3) := by decide +kernel
theorem dX4_countPlaced_26 : decode cX4_countPlaced 26 = .ok (.goto (-22), 3) := by decide +kernel
theorem dX4_countPlaced_29 : decode cX4_countPlaced 29 = .ok (.iload_n 1, 1) := by decide +kernel
theorem dX4_countPlaced_30 : decode cX4_countPlaced 30 = .ok (.ireturn, 1) := by decide +kernel
theorem dX4_countOtherwise_0 : decode cX4_countOtherwise 0 = .ok (.iconst 0, 1) := by decide +kernel
theorem dX4_countOtherwise_1 : decode cX4_countOtherwise 1 = .ok (.istore_n 2, 1) := by decide +kernel
theorem dX4_countOtherwise_2 : decode cX4_countOtherwise 2 = .ok (.iconst 0, 1) := by decide +kernel
theorem dX4_countOtherwise_3 : decode cX4_countOtherwise 3 = .ok (.istore_n 3, 1) := by decide +kernel
theorem dX4_countOtherwise_4 : decode cX4_countOtherwise 4 = .ok (.iload_n 3, 1) := by decide +kernel
theorem dX4_countOtherwise_5 : decode cX4_countOtherwise 5 = .ok (.bipush 7, 2) := by decide +kernel
theorem dX4_countOtherwise_7 : decode cX4_countOtherwise 7 = .ok (.if_icmp .ge 27, 3) := by decide +kernel
theorem dX4_countOtherwise_10 : decode cX4_countOtherwise 10 = .ok (.aload_n 0, 1) := by decide +kernel
theorem dX4_countOtherwise_11 : decode cX4_countOtherwise 11 = .ok (.getfield 9, 3) := by decide +kernel
theorem dX4_countOtherwise_14 : decode cX4_countOtherwise 14 = .ok (.iload_n 3, 1) := by decide +kernel
theorem dX4_countOtherwise_15 : decode cX4_countOtherwise 15 = .ok (.iaload, 1) := by decide +kernel
theorem dX4_countOtherwise_16 : decode cX4_countOtherwise 16 = .ok (.aload_n 1, 1) := by decide +kernel
theorem dX4_countOtherwise_17 : decode cX4_countOtherwise 17 = .ok (.getfield 9, 3) := by decide +kernel
theorem dX4_countOtherwise_20 : decode cX4_countOtherwise 20 = .ok (.iload_n 3, 1) := by decide +kernel
theorem dX4_countOtherwise_21 : decode cX4_countOtherwise 21 = .ok (.iaload, 1) := by decide +kernel
theorem dX4_countOtherwise_22 : decode cX4_countOtherwise 22 = .ok (.if_icmp .eq 6, 3) := by decide +kernel
theorem dX4_countOtherwise_25 : decode cX4_countOtherwise 25 = .ok (.iinc 2 1, 3) := by decide +kernel
theorem dX4_countOtherwise_28 : decode cX4_countOtherwise 28 = .ok (.iinc 3 1, 3) := by decide +kernel
theorem dX4_countOtherwise_31 : decode cX4_countOtherwise 31 = .ok (.goto (-27), 3) := by decide +kernel
theorem dX4_countOtherwise_34 : decode cX4_countOtherwise 34 = .ok (.iload_n 2, 1) := by decide +kernel
theorem dX4_countOtherwise_35 : decode cX4_countOtherwise 35 = .ok (.ireturn, 1) := by decide +kernel
