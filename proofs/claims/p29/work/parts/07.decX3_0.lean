theorem dX3_init_0 : decode cX3_init 0 = .ok (.aload_n 0, 1) := by decide +kernel
theorem dX3_init_1 : decode cX3_init 1 = .ok (.invokespecial 3, 3) := by decide +kernel
theorem dX3_init_4 : decode cX3_init 4 = .ok (.aload_n 0, 1) := by decide +kernel
theorem dX3_init_5 : decode cX3_init 5 = .ok (.new 9, 3) := by decide +kernel
theorem dX3_init_8 : decode cX3_init 8 = .ok (.dup, 1) := by decide +kernel
theorem dX3_init_9 : decode cX3_init 9 = .ok (.invokespecial 11, 3) := by decide +kernel
theorem dX3_init_12 : decode cX3_init 12 = .ok (.putfield 12, 3) := by decide +kernel
theorem dX3_init_15 : decode cX3_init 15 = .ok (.aload_n 0, 1) := by decide +kernel
theorem dX3_init_16 : decode cX3_init 16 = .ok (.new 18, 3) := by decide +kernel
theorem dX3_init_19 : decode cX3_init 19 = .ok (.dup, 1) := by decide +kernel
theorem dX3_init_20 : decode cX3_init 20 = .ok (.invokespecial 20, 3) := by decide +kernel
theorem dX3_init_23 : decode cX3_init 23 = .ok (.putfield 21, 3) := by decide +kernel
theorem dX3_init_26 : decode cX3_init 26 = .ok (.return_, 1) := by decide +kernel
theorem dX3_fits_0 : decode cX3_fits 0 = .ok (.aload_n 0, 1) := by decide +kernel
theorem dX3_fits_1 : decode cX3_fits 1 = .ok (.getfield 12, 3) := by decide +kernel
theorem dX3_fits_4 : decode cX3_fits 4 = .ok (.getfield 25, 3) := by decide +kernel
theorem dX3_fits_7 : decode cX3_fits 7 = .ok (.iload_n 2, 1) := by decide +kernel
theorem dX3_fits_8 : decode cX3_fits 8 = .ok (.iaload, 1) := by decide +kernel
theorem dX3_fits_9 : decode cX3_fits 9 = .ok (.aload_n 0, 1) := by decide +kernel
theorem dX3_fits_10 : decode cX3_fits 10 = .ok (.getfield 21, 3) := by decide +kernel
theorem dX3_fits_13 : decode cX3_fits 13 = .ok (.getfield 29, 3) := by decide +kernel
theorem dX3_fits_16 : decode cX3_fits 16 = .ok (.iload_n 1, 1) := by decide +kernel
theorem dX3_fits_17 : decode cX3_fits 17 = .ok (.iaload, 1) := by decide +kernel
theorem dX3_fits_18 : decode cX3_fits 18 = .ok (.if_icmp .lt 7, 3) := by decide +kernel
theorem dX3_fits_21 : decode cX3_fits 21 = .ok (.iconst 1, 1) := by decide +kernel
theorem dX3_fits_22 : decode cX3_fits 22 = .ok (.goto 4, 3) := by decide +kernel
theorem dX3_fits_25 : decode cX3_fits 25 = .ok (.iconst 0, 1) := by decide +kernel
theorem dX3_fits_26 : decode cX3_fits 26 = .ok (.ireturn, 1) := by decide +kernel
theorem dX3_costOf_0 : decode cX3_costOf 0 = .ok (.aload_n 0, 1) := by decide +kernel
theorem dX3_costOf_1 : decode cX3_costOf 1 = .ok (.aload_n 1, 1) := by decide +kernel
theorem dX3_costOf_2 : decode cX3_costOf 2 = .ok (.invokevirtual 32, 3) := by decide +kernel
theorem dX3_costOf_5 : decode cX3_costOf 5 = .ok (.istore_n 2, 1) := by decide +kernel
theorem dX3_costOf_6 : decode cX3_costOf 6 = .ok (.iconst 0, 1) := by decide +kernel
theorem dX3_costOf_7 : decode cX3_costOf 7 = .ok (.istore_n 3, 1) := by decide +kernel
theorem dX3_costOf_8 : decode cX3_costOf 8 = .ok (.iload_n 3, 1) := by decide +kernel
theorem dX3_costOf_9 : decode cX3_costOf 9 = .ok (.aload_n 0, 1) := by decide +kernel
theorem dX3_costOf_10 : decode cX3_costOf 10 = .ok (.getfield 21, 3) := by decide +kernel
theorem dX3_costOf_13 : decode cX3_costOf 13 = .ok (.getfield 36, 3) := by decide +kernel
theorem dX3_costOf_16 : decode cX3_costOf 16 = .ok (.if_icmp .ge 18, 3) := by decide +kernel
theorem dX3_costOf_19 : decode cX3_costOf 19 = .ok (.iload_n 2, 1) := by decide +kernel
theorem dX3_costOf_20 : decode cX3_costOf 20 = .ok (.aload_n 0, 1) := by decide +kernel
theorem dX3_costOf_21 : decode cX3_costOf 21 = .ok (.aload_n 1, 1) := by decide +kernel
theorem dX3_costOf_22 : decode cX3_costOf 22 = .ok (.iload_n 3, 1) := by decide +kernel
theorem dX3_costOf_23 : decode cX3_costOf 23 = .ok (.invokevirtual 40, 3) := by decide +kernel
theorem dX3_costOf_26 : decode cX3_costOf 26 = .ok (.iadd, 1) := by decide +kernel
theorem dX3_costOf_27 : decode cX3_costOf 27 = .ok (.istore_n 2, 1) := by decide +kernel
theorem dX3_costOf_28 : decode cX3_costOf 28 = .ok (.iinc 3 1, 3) := by decide +kernel
theorem dX3_costOf_31 : decode cX3_costOf 31 = .ok (.goto (-23), 3) := by decide +kernel
theorem dX3_costOf_34 : decode cX3_costOf 34 = .ok (.iload_n 2, 1) := by decide +kernel
theorem dX3_costOf_35 : decode cX3_costOf 35 = .ok (.ireturn, 1) := by decide +kernel
theorem dX3_wishCostOf_0 : decode cX3_wishCostOf 0 = .ok (.iconst 0, 1) := by decide +kernel
theorem dX3_wishCostOf_1 : decode cX3_wishCostOf 1 = .ok (.istore_n 2, 1) := by decide +kernel
theorem dX3_wishCostOf_2 : decode cX3_wishCostOf 2 = .ok (.iconst 0, 1) := by decide +kernel
theorem dX3_wishCostOf_3 : decode cX3_wishCostOf 3 = .ok (.istore_n 3, 1) := by decide +kernel
theorem dX3_wishCostOf_4 : decode cX3_wishCostOf 4 = .ok (.iload_n 3, 1) := by decide +kernel
theorem dX3_wishCostOf_5 : decode cX3_wishCostOf 5 = .ok (.aload_n 0, 1) := by decide +kernel
theorem dX3_wishCostOf_6 : decode cX3_wishCostOf 6 = .ok (.getfield 21, 3) := by decide +kernel
theorem dX3_wishCostOf_9 : decode cX3_wishCostOf 9 = .ok (.getfield 36, 3) := by decide +kernel
theorem dX3_wishCostOf_12 : decode cX3_wishCostOf 12 = .ok (.if_icmp .ge 37, 3) := by decide +kernel
theorem dX3_wishCostOf_15 : decode cX3_wishCostOf 15 = .ok (.aload_n 1, 1) := by decide +kernel
theorem dX3_wishCostOf_16 : decode cX3_wishCostOf 16 = .ok (.iload_n 3, 1) := by decide +kernel
theorem dX3_wishCostOf_17 : decode cX3_wishCostOf 17 = .ok (.invokevirtual 44, 3) := by decide +kernel
theorem dX3_wishCostOf_20 : decode cX3_wishCostOf 20 = .ok (.istore 4, 2) := by decide +kernel
theorem dX3_wishCostOf_22 : decode cX3_wishCostOf 22 = .ok (.iload 4, 2) := by decide +kernel
theorem dX3_wishCostOf_24 : decode cX3_wishCostOf 24 = .ok (.iconst (-1), 1) := by decide +kernel
theorem dX3_wishCostOf_25 : decode cX3_wishCostOf 25 = .ok (.if_icmp .eq 18, 3) := by decide +kernel
theorem dX3_wishCostOf_28 : decode cX3_wishCostOf 28 = .ok (.iload_n 2, 1) := by decide +kernel
theorem dX3_wishCostOf_29 : decode cX3_wishCostOf 29 = .ok (.aload_n 0, 1) := by decide +kernel
theorem dX3_wishCostOf_30 : decode cX3_wishCostOf 30 = .ok (.getfield 21, 3) := by decide +kernel
theorem dX3_wishCostOf_33 : decode cX3_wishCostOf 33 = .ok (.getfield 50, 3) := by decide +kernel
theorem dX3_wishCostOf_36 : decode cX3_wishCostOf 36 = .ok (.iload_n 3, 1) := by decide +kernel
theorem dX3_wishCostOf_37 : decode cX3_wishCostOf 37 = .ok (.aaload, 1) := by decide +kernel
theorem dX3_wishCostOf_38 : decode cX3_wishCostOf 38 = .ok (.iload 4, 2) := by decide +kernel
theorem dX3_wishCostOf_40 : decode cX3_wishCostOf 40 = .ok (.iaload, 1) := by decide +kernel
theorem dX3_wishCostOf_41 : decode cX3_wishCostOf 41 = .ok (.iadd, 1) := by decide +kernel
theorem dX3_wishCostOf_42 : decode cX3_wishCostOf 42 = .ok (.istore_n 2, 1) := by decide +kernel
theorem dX3_wishCostOf_43 : decode cX3_wishCostOf 43 = .ok (.iinc 3 1, 3) := by decide +kernel
theorem dX3_wishCostOf_46 : decode cX3_wishCostOf 46 = .ok (.goto (-42), 3) := by decide +kernel
theorem dX3_wishCostOf_49 : decode cX3_wishCostOf 49 = .ok (.iload_n 2, 1) := by decide +kernel
theorem dX3_wishCostOf_50 : decode cX3_wishCostOf 50 = .ok (.ireturn, 1) := by decide +kernel
theorem dX3_tieCostToLower_0 : decode cX3_tieCostToLower 0 = .ok (.aload_n 1, 1) := by decide +kernel
theorem dX3_tieCostToLower_1 : decode cX3_tieCostToLower 1 = .ok (.iload_n 2, 1) := by decide +kernel
theorem dX3_tieCostToLower_2 : decode cX3_tieCostToLower 2 = .ok (.invokevirtual 44, 3) := by decide +kernel
theorem dX3_tieCostToLower_5 : decode cX3_tieCostToLower 5 = .ok (.istore_n 3, 1) := by decide +kernel
theorem dX3_tieCostToLower_6 : decode cX3_tieCostToLower 6 = .ok (.iload_n 3, 1) := by decide +kernel
theorem dX3_tieCostToLower_7 : decode cX3_tieCostToLower 7 = .ok (.iconst (-1), 1) := by decide +kernel
theorem dX3_tieCostToLower_8 : decode cX3_tieCostToLower 8 = .ok (.if_icmp .ne 5, 3) := by decide +kernel
theorem dX3_tieCostToLower_11 : decode cX3_tieCostToLower 11 = .ok (.iconst 0, 1) := by decide +kernel
theorem dX3_tieCostToLower_12 : decode cX3_tieCostToLower 12 = .ok (.ireturn, 1) := by decide +kernel
theorem dX3_tieCostToLower_13 : decode cX3_tieCostToLower 13 = .ok (.iconst 0, 1) := by decide +kernel
theorem dX3_tieCostToLower_14 : decode cX3_tieCostToLower 14 = .ok (.istore 4, 2) := by decide +kernel
theorem dX3_tieCostToLower_16 : decode cX3_tieCostToLower 16 = .ok (.iconst 0, 1) := by decide +kernel
theorem dX3_tieCostToLower_17 : decode cX3_tieCostToLower 17 = .ok (.istore 5, 2) := by decide +kernel
theorem dX3_tieCostToLower_19 : decode cX3_tieCostToLower 19 = .ok (.iload 5, 2) := by decide +kernel
theorem dX3_tieCostToLower_21 : decode cX3_tieCostToLower 21 = .ok (.iload_n 2, 1) := by decide +kernel
theorem dX3_tieCostToLower_22 : decode cX3_tieCostToLower 22 = .ok (.if_icmp .ge 53, 3) := by decide +kernel
theorem dX3_tieCostToLower_25 : decode cX3_tieCostToLower 25 = .ok (.aload_n 1, 1) := by decide +kernel
theorem dX3_tieCostToLower_26 : decode cX3_tieCostToLower 26 = .ok (.iload 5, 2) := by decide +kernel
theorem dX3_tieCostToLower_28 : decode cX3_tieCostToLower 28 = .ok (.invokevirtual 44, 3) := by decide +kernel
theorem dX3_tieCostToLower_31 : decode cX3_tieCostToLower 31 = .ok (.istore 6, 2) := by decide +kernel
theorem dX3_tieCostToLower_33 : decode cX3_tieCostToLower 33 = .ok (.iload 6, 2) := by decide +kernel
theorem dX3_tieCostToLower_35 : decode cX3_tieCostToLower 35 = .ok (.iconst (-1), 1) := by decide +kernel
theorem dX3_tieCostToLower_36 : decode cX3_tieCostToLower 36 = .ok (.if_icmp .eq 33, 3) := by decide +kernel
theorem dX3_tieCostToLower_39 : decode cX3_tieCostToLower 39 = .ok (.iload 4, 2) := by decide +kernel
theorem dX3_tieCostToLower_41 : decode cX3_tieCostToLower 41 = .ok (.aload_n 0, 1) := by decide +kernel
theorem dX3_tieCostToLower_42 : decode cX3_tieCostToLower 42 = .ok (.getfield 21, 3) := by decide +kernel
theorem dX3_tieCostToLower_45 : decode cX3_tieCostToLower 45 = .ok (.getfield 54, 3) := by decide +kernel
theorem dX3_tieCostToLower_48 : decode cX3_tieCostToLower 48 = .ok (.iload_n 2, 1) := by decide +kernel
theorem dX3_tieCostToLower_49 : decode cX3_tieCostToLower 49 = .ok (.aaload, 1) := by decide +kernel
theorem dX3_tieCostToLower_50 : decode cX3_tieCostToLower 50 = .ok (.iload 5, 2) := by decide +kernel
theorem dX3_tieCostToLower_52 : decode cX3_tieCostToLower 52 = .ok (.iaload, 1) := by decide +kernel
theorem dX3_tieCostToLower_53 : decode cX3_tieCostToLower 53 = .ok (.aload_n 0, 1) := by decide +kernel
theorem dX3_tieCostToLower_54 : decode cX3_tieCostToLower 54 = .ok (.getfield 12, 3) := by decide +kernel
theorem dX3_tieCostToLower_57 : decode cX3_tieCostToLower 57 = .ok (.getfield 57, 3) := by decide +kernel
theorem dX3_tieCostToLower_60 : decode cX3_tieCostToLower 60 = .ok (.iload_n 3, 1) := by decide +kernel
theorem dX3_tieCostToLower_61 : decode cX3_tieCostToLower 61 = .ok (.aaload, 1) := by decide +kernel
theorem dX3_tieCostToLower_62 : decode cX3_tieCostToLower 62 = .ok (.iload 6, 2) := by decide +kernel
theorem dX3_tieCostToLower_64 : decode cX3_tieCostToLower 64 = .ok (.iaload, 1) := by decide +kernel
theorem dX3_tieCostToLower_65 : decode cX3_tieCostToLower 65 = .ok (.imul, 1) := by decide +kernel
theorem dX3_tieCostToLower_66 : decode cX3_tieCostToLower 66 = .ok (.iadd, 1) := by decide +kernel
theorem dX3_tieCostToLower_67 : decode cX3_tieCostToLower 67 = .ok (.istore 4, 2) := by decide +kernel
theorem dX3_tieCostToLower_69 : decode cX3_tieCostToLower 69 = .ok (.iinc 5 1, 3) := by decide +kernel
theorem dX3_tieCostToLower_72 : decode cX3_tieCostToLower 72 = .ok (.goto (-53), 3) := by decide +kernel
theorem dX3_tieCostToLower_75 : decode cX3_tieCostToLower 75 = .ok (.iload 4, 2) := by decide +kernel
theorem dX3_tieCostToLower_77 : decode cX3_tieCostToLower 77 = .ok (.ireturn, 1) := by decide +kernel
