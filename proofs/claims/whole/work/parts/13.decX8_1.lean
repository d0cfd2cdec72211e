theorem dX8_walks_117 : decode cX8_walks 117 = .ok (.iadd, 1) := by decide +kernel
theorem dX8_walks_118 : decode cX8_walks 118 = .ok (.iload_n 2, 1) := by decide +kernel
theorem dX8_walks_119 : decode cX8_walks 119 = .ok (.iconst 1, 1) := by decide +kernel
theorem dX8_walks_120 : decode cX8_walks 120 = .ok (.iadd, 1) := by decide +kernel
theorem dX8_walks_121 : decode cX8_walks 121 = .ok (.invokevirtual 95, 3) := by decide +kernel
theorem dX8_walks_124 : decode cX8_walks 124 = .ok (.iinc 3 1, 3) := by decide +kernel
theorem dX8_walks_127 : decode cX8_walks 127 = .ok (.goto (-87), 3) := by decide +kernel
theorem dX8_walks_130 : decode cX8_walks 130 = .ok (.iinc 2 1, 3) := by decide +kernel
theorem dX8_walks_133 : decode cX8_walks 133 = .ok (.goto (-101), 3) := by decide +kernel
theorem dX8_walks_136 : decode cX8_walks 136 = .ok (.return_, 1) := by decide +kernel
theorem dX8_goes_0 : decode cX8_goes 0 = .ok (.iload_n 1, 1) := by decide +kernel
theorem dX8_goes_1 : decode cX8_goes 1 = .ok (.iload_n 2, 1) := by decide +kernel
theorem dX8_goes_2 : decode cX8_goes 2 = .ok (.invokestatic 68, 3) := by decide +kernel
theorem dX8_goes_5 : decode cX8_goes 5 = .ok (.ifCond .eq 44, 3) := by decide +kernel
theorem dX8_goes_8 : decode cX8_goes 8 = .ok (.aload_n 0, 1) := by decide +kernel
theorem dX8_goes_9 : decode cX8_goes 9 = .ok (.getfield 7, 3) := by decide +kernel
theorem dX8_goes_12 : decode cX8_goes 12 = .ok (.bipush 8, 2) := by decide +kernel
theorem dX8_goes_14 : decode cX8_goes 14 = .ok (.iload_n 2, 1) := by decide +kernel
theorem dX8_goes_15 : decode cX8_goes 15 = .ok (.imul, 1) := by decide +kernel
theorem dX8_goes_16 : decode cX8_goes 16 = .ok (.iload_n 1, 1) := by decide +kernel
theorem dX8_goes_17 : decode cX8_goes 17 = .ok (.iadd, 1) := by decide +kernel
theorem dX8_goes_18 : decode cX8_goes 18 = .ok (.baload, 1) := by decide +kernel
theorem dX8_goes_19 : decode cX8_goes 19 = .ok (.ifCond .ne 30, 3) := by decide +kernel
theorem dX8_goes_22 : decode cX8_goes 22 = .ok (.aload_n 0, 1) := by decide +kernel
theorem dX8_goes_23 : decode cX8_goes 23 = .ok (.getfield 38, 3) := by decide +kernel
theorem dX8_goes_26 : decode cX8_goes 26 = .ok (.bipush 8, 2) := by decide +kernel
theorem dX8_goes_28 : decode cX8_goes 28 = .ok (.iload_n 2, 1) := by decide +kernel
theorem dX8_goes_29 : decode cX8_goes 29 = .ok (.imul, 1) := by decide +kernel
theorem dX8_goes_30 : decode cX8_goes 30 = .ok (.iload_n 1, 1) := by decide +kernel
theorem dX8_goes_31 : decode cX8_goes 31 = .ok (.iadd, 1) := by decide +kernel
theorem dX8_goes_32 : decode cX8_goes 32 = .ok (.iaload, 1) := by decide +kernel
theorem dX8_goes_33 : decode cX8_goes 33 = .ok (.iconst (-1), 1) := by decide +kernel
theorem dX8_goes_34 : decode cX8_goes 34 = .ok (.if_icmp .ne 15, 3) := by decide +kernel
theorem dX8_goes_37 : decode cX8_goes 37 = .ok (.aload_n 0, 1) := by decide +kernel
theorem dX8_goes_38 : decode cX8_goes 38 = .ok (.getfield 38, 3) := by decide +kernel
theorem dX8_goes_41 : decode cX8_goes 41 = .ok (.bipush 8, 2) := by decide +kernel
theorem dX8_goes_43 : decode cX8_goes 43 = .ok (.iload_n 2, 1) := by decide +kernel
theorem dX8_goes_44 : decode cX8_goes 44 = .ok (.imul, 1) := by decide +kernel
theorem dX8_goes_45 : decode cX8_goes 45 = .ok (.iload_n 1, 1) := by decide +kernel
theorem dX8_goes_46 : decode cX8_goes 46 = .ok (.iadd, 1) := by decide +kernel
theorem dX8_goes_47 : decode cX8_goes 47 = .ok (.iload_n 3, 1) := by decide +kernel
theorem dX8_goes_48 : decode cX8_goes 48 = .ok (.iastore, 1) := by decide +kernel
theorem dX8_goes_49 : decode cX8_goes 49 = .ok (.return_, 1) := by decide +kernel
theorem dX8_findsWays_0 : decode cX8_findsWays 0 = .ok (.iconst 0, 1) := by decide +kernel
theorem dX8_findsWays_1 : decode cX8_findsWays 1 = .ok (.istore_n 1, 1) := by decide +kernel
theorem dX8_findsWays_2 : decode cX8_findsWays 2 = .ok (.iload_n 1, 1) := by decide +kernel
theorem dX8_findsWays_3 : decode cX8_findsWays 3 = .ok (.aload_n 0, 1) := by decide +kernel
theorem dX8_findsWays_4 : decode cX8_findsWays 4 = .ok (.getfield 58, 3) := by decide +kernel
theorem dX8_findsWays_7 : decode cX8_findsWays 7 = .ok (.if_icmp .ge 69, 3) := by decide +kernel
theorem dX8_findsWays_10 : decode cX8_findsWays 10 = .ok (.aload_n 0, 1) := by decide +kernel
theorem dX8_findsWays_11 : decode cX8_findsWays 11 = .ok (.aload_n 0, 1) := by decide +kernel
theorem dX8_findsWays_12 : decode cX8_findsWays 12 = .ok (.getfield 13, 3) := by decide +kernel
theorem dX8_findsWays_15 : decode cX8_findsWays 15 = .ok (.iload_n 1, 1) := by decide +kernel
theorem dX8_findsWays_16 : decode cX8_findsWays 16 = .ok (.iaload, 1) := by decide +kernel
theorem dX8_findsWays_17 : decode cX8_findsWays 17 = .ok (.invokevirtual 99, 3) := by decide +kernel
theorem dX8_findsWays_20 : decode cX8_findsWays 20 = .ok (.iconst 0, 1) := by decide +kernel
theorem dX8_findsWays_21 : decode cX8_findsWays 21 = .ok (.istore_n 2, 1) := by decide +kernel
theorem dX8_findsWays_22 : decode cX8_findsWays 22 = .ok (.iload_n 2, 1) := by decide +kernel
theorem dX8_findsWays_23 : decode cX8_findsWays 23 = .ok (.aload_n 0, 1) := by decide +kernel
theorem dX8_findsWays_24 : decode cX8_findsWays 24 = .ok (.getfield 58, 3) := by decide +kernel
theorem dX8_findsWays_27 : decode cX8_findsWays 27 = .ok (.if_icmp .ge 43, 3) := by decide +kernel
theorem dX8_findsWays_30 : decode cX8_findsWays 30 = .ok (.aload_n 0, 1) := by decide +kernel
theorem dX8_findsWays_31 : decode cX8_findsWays 31 = .ok (.getfield 38, 3) := by decide +kernel
theorem dX8_findsWays_34 : decode cX8_findsWays 34 = .ok (.aload_n 0, 1) := by decide +kernel
theorem dX8_findsWays_35 : decode cX8_findsWays 35 = .ok (.getfield 13, 3) := by decide +kernel
theorem dX8_findsWays_38 : decode cX8_findsWays 38 = .ok (.iload_n 2, 1) := by decide +kernel
theorem dX8_findsWays_39 : decode cX8_findsWays 39 = .ok (.iaload, 1) := by decide +kernel
theorem dX8_findsWays_40 : decode cX8_findsWays 40 = .ok (.iaload, 1) := by decide +kernel
theorem dX8_findsWays_41 : decode cX8_findsWays 41 = .ok (.istore_n 3, 1) := by decide +kernel
theorem dX8_findsWays_42 : decode cX8_findsWays 42 = .ok (.aload_n 0, 1) := by decide +kernel
theorem dX8_findsWays_43 : decode cX8_findsWays 43 = .ok (.getfield 35, 3) := by decide +kernel
theorem dX8_findsWays_46 : decode cX8_findsWays 46 = .ok (.bipush 7, 2) := by decide +kernel
theorem dX8_findsWays_48 : decode cX8_findsWays 48 = .ok (.iload_n 1, 1) := by decide +kernel
theorem dX8_findsWays_49 : decode cX8_findsWays 49 = .ok (.imul, 1) := by decide +kernel
theorem dX8_findsWays_50 : decode cX8_findsWays 50 = .ok (.iload_n 2, 1) := by decide +kernel
theorem dX8_findsWays_51 : decode cX8_findsWays 51 = .ok (.iadd, 1) := by decide +kernel
theorem dX8_findsWays_52 : decode cX8_findsWays 52 = .ok (.iload_n 3, 1) := by decide +kernel
theorem dX8_findsWays_53 : decode cX8_findsWays 53 = .ok (.iconst (-1), 1) := by decide +kernel
theorem dX8_findsWays_54 : decode cX8_findsWays 54 = .ok (.if_icmp .ne 8, 3) := by decide +kernel
theorem dX8_findsWays_57 : decode cX8_findsWays 57 = .ok (.bipush 100, 2) := by decide +kernel
theorem dX8_findsWays_59 : decode cX8_findsWays 59 = .ok (.goto 4, 3) := by decide +kernel
theorem dX8_findsWays_62 : decode cX8_findsWays 62 = .ok (.iload_n 3, 1) := by decide +kernel
theorem dX8_findsWays_63 : decode cX8_findsWays 63 = .ok (.iastore, 1) := by decide +kernel
theorem dX8_findsWays_64 : decode cX8_findsWays 64 = .ok (.iinc 2 1, 3) := by decide +kernel
theorem dX8_findsWays_67 : decode cX8_findsWays 67 = .ok (.goto (-45), 3) := by decide +kernel
theorem dX8_findsWays_70 : decode cX8_findsWays 70 = .ok (.iinc 1 1, 3) := by decide +kernel
theorem dX8_findsWays_73 : decode cX8_findsWays 73 = .ok (.goto (-71), 3) := by decide +kernel
theorem dX8_findsWays_76 : decode cX8_findsWays 76 = .ok (.return_, 1) := by decide +kernel
theorem dX8_wishOf_0 : decode cX8_wishOf 0 = .ok (.iconst 0, 1) := by decide +kernel
theorem dX8_wishOf_1 : decode cX8_wishOf 1 = .ok (.istore_n 2, 1) := by decide +kernel
theorem dX8_wishOf_2 : decode cX8_wishOf 2 = .ok (.iconst 0, 1) := by decide +kernel
theorem dX8_wishOf_3 : decode cX8_wishOf 3 = .ok (.istore_n 3, 1) := by decide +kernel
theorem dX8_wishOf_4 : decode cX8_wishOf 4 = .ok (.iload_n 3, 1) := by decide +kernel
theorem dX8_wishOf_5 : decode cX8_wishOf 5 = .ok (.aload_n 0, 1) := by decide +kernel
theorem dX8_wishOf_6 : decode cX8_wishOf 6 = .ok (.getfield 61, 3) := by decide +kernel
theorem dX8_wishOf_9 : decode cX8_wishOf 9 = .ok (.if_icmp .ge 36, 3) := by decide +kernel
theorem dX8_wishOf_12 : decode cX8_wishOf 12 = .ok (.iload_n 2, 1) := by decide +kernel
theorem dX8_wishOf_13 : decode cX8_wishOf 13 = .ok (.aload_n 1, 1) := by decide +kernel
theorem dX8_wishOf_14 : decode cX8_wishOf 14 = .ok (.iload_n 3, 1) := by decide +kernel
theorem dX8_wishOf_15 : decode cX8_wishOf 15 = .ok (.iaload, 1) := by decide +kernel
theorem dX8_wishOf_16 : decode cX8_wishOf 16 = .ok (.iconst (-1), 1) := by decide +kernel
theorem dX8_wishOf_17 : decode cX8_wishOf 17 = .ok (.if_icmp .ne 7, 3) := by decide +kernel
theorem dX8_wishOf_20 : decode cX8_wishOf 20 = .ok (.iconst 0, 1) := by decide +kernel
theorem dX8_wishOf_21 : decode cX8_wishOf 21 = .ok (.goto 16, 3) := by decide +kernel
theorem dX8_wishOf_24 : decode cX8_wishOf 24 = .ok (.aload_n 0, 1) := by decide +kernel
theorem dX8_wishOf_25 : decode cX8_wishOf 25 = .ok (.getfield 23, 3) := by decide +kernel
theorem dX8_wishOf_28 : decode cX8_wishOf 28 = .ok (.bipush 7, 2) := by decide +kernel
theorem dX8_wishOf_30 : decode cX8_wishOf 30 = .ok (.iload_n 3, 1) := by decide +kernel
theorem dX8_wishOf_31 : decode cX8_wishOf 31 = .ok (.imul, 1) := by decide +kernel
theorem dX8_wishOf_32 : decode cX8_wishOf 32 = .ok (.aload_n 1, 1) := by decide +kernel
theorem dX8_wishOf_33 : decode cX8_wishOf 33 = .ok (.iload_n 3, 1) := by decide +kernel
theorem dX8_wishOf_34 : decode cX8_wishOf 34 = .ok (.iaload, 1) := by decide +kernel
theorem dX8_wishOf_35 : decode cX8_wishOf 35 = .ok (.iadd, 1) := by decide +kernel
theorem dX8_wishOf_36 : decode cX8_wishOf 36 = .ok (.iaload, 1) := by decide +kernel
theorem dX8_wishOf_37 : decode cX8_wishOf 37 = .ok (.iadd, 1) := by decide +kernel
theorem dX8_wishOf_38 : decode cX8_wishOf 38 = .ok (.istore_n 2, 1) := by decide +kernel
theorem dX8_wishOf_39 : decode cX8_wishOf 39 = .ok (.iinc 3 1, 3) := by decide +kernel
theorem dX8_wishOf_42 : decode cX8_wishOf 42 = .ok (.goto (-38), 3) := by decide +kernel
theorem dX8_wishOf_45 : decode cX8_wishOf 45 = .ok (.iload_n 2, 1) := by decide +kernel
theorem dX8_wishOf_46 : decode cX8_wishOf 46 = .ok (.ireturn, 1) := by decide +kernel
theorem dX8_costOf_0 : decode cX8_costOf 0 = .ok (.aload_n 0, 1) := by decide +kernel
theorem dX8_costOf_1 : decode cX8_costOf 1 = .ok (.aload_n 1, 1) := by decide +kernel
theorem dX8_costOf_2 : decode cX8_costOf 2 = .ok (.invokevirtual 103, 3) := by decide +kernel
theorem dX8_costOf_5 : decode cX8_costOf 5 = .ok (.istore_n 2, 1) := by decide +kernel
theorem dX8_costOf_6 : decode cX8_costOf 6 = .ok (.iconst 0, 1) := by decide +kernel
theorem dX8_costOf_7 : decode cX8_costOf 7 = .ok (.istore_n 3, 1) := by decide +kernel
theorem dX8_costOf_8 : decode cX8_costOf 8 = .ok (.iload_n 3, 1) := by decide +kernel
theorem dX8_costOf_9 : decode cX8_costOf 9 = .ok (.aload_n 0, 1) := by decide +kernel
theorem dX8_costOf_10 : decode cX8_costOf 10 = .ok (.getfield 61, 3) := by decide +kernel
theorem dX8_costOf_13 : decode cX8_costOf 13 = .ok (.if_icmp .ge 75, 3) := by decide +kernel
theorem dX8_costOf_16 : decode cX8_costOf 16 = .ok (.iconst 0, 1) := by decide +kernel
theorem dX8_costOf_17 : decode cX8_costOf 17 = .ok (.istore 4, 2) := by decide +kernel
theorem dX8_costOf_19 : decode cX8_costOf 19 = .ok (.iload 4, 2) := by decide +kernel
theorem dX8_costOf_21 : decode cX8_costOf 21 = .ok (.iload_n 3, 1) := by decide +kernel
theorem dX8_costOf_22 : decode cX8_costOf 22 = .ok (.if_icmp .ge 60, 3) := by decide +kernel
theorem dX8_costOf_25 : decode cX8_costOf 25 = .ok (.iload_n 2, 1) := by decide +kernel
theorem dX8_costOf_26 : decode cX8_costOf 26 = .ok (.aload_n 1, 1) := by decide +kernel
theorem dX8_costOf_27 : decode cX8_costOf 27 = .ok (.iload_n 3, 1) := by decide +kernel
theorem dX8_costOf_28 : decode cX8_costOf 28 = .ok (.iaload, 1) := by decide +kernel
theorem dX8_costOf_29 : decode cX8_costOf 29 = .ok (.iconst (-1), 1) := by decide +kernel
theorem dX8_costOf_30 : decode cX8_costOf 30 = .ok (.if_icmp .eq 11, 3) := by decide +kernel
theorem dX8_costOf_33 : decode cX8_costOf 33 = .ok (.aload_n 1, 1) := by decide +kernel
theorem dX8_costOf_34 : decode cX8_costOf 34 = .ok (.iload 4, 2) := by decide +kernel
theorem dX8_costOf_36 : decode cX8_costOf 36 = .ok (.iaload, 1) := by decide +kernel
theorem dX8_costOf_37 : decode cX8_costOf 37 = .ok (.iconst (-1), 1) := by decide +kernel
theorem dX8_costOf_38 : decode cX8_costOf 38 = .ok (.if_icmp .ne 7, 3) := by decide +kernel
theorem dX8_costOf_41 : decode cX8_costOf 41 = .ok (.iconst 0, 1) := by decide +kernel
theorem dX8_costOf_42 : decode cX8_costOf 42 = .ok (.goto 32, 3) := by decide +kernel
theorem dX8_costOf_45 : decode cX8_costOf 45 = .ok (.aload_n 0, 1) := by decide +kernel
theorem dX8_costOf_46 : decode cX8_costOf 46 = .ok (.getfield 26, 3) := by decide +kernel
theorem dX8_costOf_49 : decode cX8_costOf 49 = .ok (.bipush 7, 2) := by decide +kernel
theorem dX8_costOf_51 : decode cX8_costOf 51 = .ok (.iload_n 3, 1) := by decide +kernel
theorem dX8_costOf_52 : decode cX8_costOf 52 = .ok (.imul, 1) := by decide +kernel
theorem dX8_costOf_53 : decode cX8_costOf 53 = .ok (.iload 4, 2) := by decide +kernel
theorem dX8_costOf_55 : decode cX8_costOf 55 = .ok (.iadd, 1) := by decide +kernel
theorem dX8_costOf_56 : decode cX8_costOf 56 = .ok (.iaload, 1) := by decide +kernel
theorem dX8_costOf_57 : decode cX8_costOf 57 = .ok (.aload_n 0, 1) := by decide +kernel
theorem dX8_costOf_58 : decode cX8_costOf 58 = .ok (.getfield 35, 3) := by decide +kernel
theorem dX8_costOf_61 : decode cX8_costOf 61 = .ok (.bipush 7, 2) := by decide +kernel
theorem dX8_costOf_63 : decode cX8_costOf 63 = .ok (.aload_n 1, 1) := by decide +kernel
theorem dX8_costOf_64 : decode cX8_costOf 64 = .ok (.iload_n 3, 1) := by decide +kernel
theorem dX8_costOf_65 : decode cX8_costOf 65 = .ok (.iaload, 1) := by decide +kernel
theorem dX8_costOf_66 : decode cX8_costOf 66 = .ok (.imul, 1) := by decide +kernel
theorem dX8_costOf_67 : decode cX8_costOf 67 = .ok (.aload_n 1, 1) := by decide +kernel
theorem dX8_costOf_68 : decode cX8_costOf 68 = .ok (.iload 4, 2) := by decide +kernel
theorem dX8_costOf_70 : decode cX8_costOf 70 = .ok (.iaload, 1) := by decide +kernel
theorem dX8_costOf_71 : decode cX8_costOf 71 = .ok (.iadd, 1) := by decide +kernel
theorem dX8_costOf_72 : decode cX8_costOf 72 = .ok (.iaload, 1) := by decide +kernel
theorem dX8_costOf_73 : decode cX8_costOf 73 = .ok (.imul, 1) := by decide +kernel
theorem dX8_costOf_74 : decode cX8_costOf 74 = .ok (.iadd, 1) := by decide +kernel
theorem dX8_costOf_75 : decode cX8_costOf 75 = .ok (.istore_n 2, 1) := by decide +kernel
theorem dX8_costOf_76 : decode cX8_costOf 76 = .ok (.iinc 4 1, 3) := by decide +kernel
theorem dX8_costOf_79 : decode cX8_costOf 79 = .ok (.goto (-60), 3) := by decide +kernel
theorem dX8_costOf_82 : decode cX8_costOf 82 = .ok (.iinc 3 1, 3) := by decide +kernel
theorem dX8_costOf_85 : decode cX8_costOf 85 = .ok (.goto (-77), 3) := by decide +kernel
theorem dX8_costOf_88 : decode cX8_costOf 88 = .ok (.iload_n 2, 1) := by decide +kernel
theorem dX8_costOf_89 : decode cX8_costOf 89 = .ok (.ireturn, 1) := by decide +kernel
theorem dX8_nextZone_0 : decode cX8_nextZone 0 = .ok (.aload_n 0, 1) := by decide +kernel
theorem dX8_nextZone_1 : decode cX8_nextZone 1 = .ok (.getfield 41, 3) := by decide +kernel
theorem dX8_nextZone_4 : decode cX8_nextZone 4 = .ok (.iload_n 1, 1) := by decide +kernel
theorem dX8_nextZone_5 : decode cX8_nextZone 5 = .ok (.iaload, 1) := by decide +kernel
theorem dX8_nextZone_6 : decode cX8_nextZone 6 = .ok (.iconst 1, 1) := by decide +kernel
theorem dX8_nextZone_7 : decode cX8_nextZone 7 = .ok (.iadd, 1) := by decide +kernel
theorem dX8_nextZone_8 : decode cX8_nextZone 8 = .ok (.istore_n 2, 1) := by decide +kernel
theorem dX8_nextZone_9 : decode cX8_nextZone 9 = .ok (.iload_n 2, 1) := by decide +kernel
theorem dX8_nextZone_10 : decode cX8_nextZone 10 = .ok (.aload_n 0, 1) := by decide +kernel
theorem dX8_nextZone_11 : decode cX8_nextZone 11 = .ok (.getfield 58, 3) := by decide +kernel
theorem dX8_nextZone_14 : decode cX8_nextZone 14 = .ok (.if_icmp .ge 58, 3) := by decide +kernel
theorem dX8_nextZone_17 : decode cX8_nextZone 17 = .ok (.aload_n 0, 1) := by decide +kernel
theorem dX8_nextZone_18 : decode cX8_nextZone 18 = .ok (.iload_n 1, 1) := by decide +kernel
theorem dX8_nextZone_19 : decode cX8_nextZone 19 = .ok (.iload_n 2, 1) := by decide +kernel
theorem dX8_nextZone_20 : decode cX8_nextZone 20 = .ok (.invokevirtual 107, 3) := by decide +kernel
theorem dX8_nextZone_23 : decode cX8_nextZone 23 = .ok (.istore_n 3, 1) := by decide +kernel
theorem dX8_nextZone_24 : decode cX8_nextZone 24 = .ok (.iconst 0, 1) := by decide +kernel
theorem dX8_nextZone_25 : decode cX8_nextZone 25 = .ok (.istore 4, 2) := by decide +kernel
theorem dX8_nextZone_27 : decode cX8_nextZone 27 = .ok (.iload 4, 2) := by decide +kernel
theorem dX8_nextZone_29 : decode cX8_nextZone 29 = .ok (.iload_n 1, 1) := by decide +kernel
theorem dX8_nextZone_30 : decode cX8_nextZone 30 = .ok (.if_icmp .ge 30, 3) := by decide +kernel
theorem dX8_nextZone_33 : decode cX8_nextZone 33 = .ok (.iload_n 3, 1) := by decide +kernel
theorem dX8_nextZone_34 : decode cX8_nextZone 34 = .ok (.ifCond .eq 18, 3) := by decide +kernel
theorem dX8_nextZone_37 : decode cX8_nextZone 37 = .ok (.aload_n 0, 1) := by decide +kernel
theorem dX8_nextZone_38 : decode cX8_nextZone 38 = .ok (.getfield 41, 3) := by decide +kernel
theorem dX8_nextZone_41 : decode cX8_nextZone 41 = .ok (.iload 4, 2) := by decide +kernel
theorem dX8_nextZone_43 : decode cX8_nextZone 43 = .ok (.iaload, 1) := by decide +kernel
theorem dX8_nextZone_44 : decode cX8_nextZone 44 = .ok (.iload_n 2, 1) := by decide +kernel
theorem dX8_nextZone_45 : decode cX8_nextZone 45 = .ok (.if_icmp .eq 7, 3) := by decide +kernel
theorem dX8_nextZone_48 : decode cX8_nextZone 48 = .ok (.iconst 1, 1) := by decide +kernel
theorem dX8_nextZone_49 : decode cX8_nextZone 49 = .ok (.goto 4, 3) := by decide +kernel
theorem dX8_nextZone_52 : decode cX8_nextZone 52 = .ok (.iconst 0, 1) := by decide +kernel
theorem dX8_nextZone_53 : decode cX8_nextZone 53 = .ok (.istore_n 3, 1) := by decide +kernel
theorem dX8_nextZone_54 : decode cX8_nextZone 54 = .ok (.iinc 4 1, 3) := by decide +kernel
theorem dX8_nextZone_57 : decode cX8_nextZone 57 = .ok (.goto (-30), 3) := by decide +kernel
theorem dX8_nextZone_60 : decode cX8_nextZone 60 = .ok (.iload_n 3, 1) := by decide +kernel
theorem dX8_nextZone_61 : decode cX8_nextZone 61 = .ok (.ifCond .eq 5, 3) := by decide +kernel
theorem dX8_nextZone_64 : decode cX8_nextZone 64 = .ok (.iload_n 2, 1) := by decide +kernel
theorem dX8_nextZone_65 : decode cX8_nextZone 65 = .ok (.ireturn, 1) := by decide +kernel
theorem dX8_nextZone_66 : decode cX8_nextZone 66 = .ok (.iinc 2 1, 3) := by decide +kernel
theorem dX8_nextZone_69 : decode cX8_nextZone 69 = .ok (.goto (-60), 3) := by decide +kernel
theorem dX8_nextZone_72 : decode cX8_nextZone 72 = .ok (.iconst (-1), 1) := by decide +kernel
theorem dX8_nextZone_73 : decode cX8_nextZone 73 = .ok (.ireturn, 1) := by decide +kernel
theorem dX8_tries_0 : decode cX8_tries 0 = .ok (.iconst (-1), 1) := by decide +kernel
theorem dX8_tries_1 : decode cX8_tries 1 = .ok (.istore_n 2, 1) := by decide +kernel
theorem dX8_tries_2 : decode cX8_tries 2 = .ok (.iconst 0, 1) := by decide +kernel
theorem dX8_tries_3 : decode cX8_tries 3 = .ok (.istore_n 3, 1) := by decide +kernel
theorem dX8_tries_4 : decode cX8_tries 4 = .ok (.aload_n 0, 1) := by decide +kernel
theorem dX8_tries_5 : decode cX8_tries 5 = .ok (.invokevirtual 110, 3) := by decide +kernel
theorem dX8_tries_8 : decode cX8_tries 8 = .ok (.aload_n 0, 1) := by decide +kernel
theorem dX8_tries_9 : decode cX8_tries 9 = .ok (.getfield 41, 3) := by decide +kernel
theorem dX8_tries_12 : decode cX8_tries 12 = .ok (.iconst 0, 1) := by decide +kernel
theorem dX8_tries_13 : decode cX8_tries 13 = .ok (.iconst (-1), 1) := by decide +kernel
theorem dX8_tries_14 : decode cX8_tries 14 = .ok (.iastore, 1) := by decide +kernel
theorem dX8_tries_15 : decode cX8_tries 15 = .ok (.iload_n 3, 1) := by decide +kernel
theorem dX8_tries_16 : decode cX8_tries 16 = .ok (.ifCond .lt 136, 3) := by decide +kernel
theorem dX8_tries_19 : decode cX8_tries 19 = .ok (.iload_n 3, 1) := by decide +kernel
theorem dX8_tries_20 : decode cX8_tries 20 = .ok (.aload_n 0, 1) := by decide +kernel
theorem dX8_tries_21 : decode cX8_tries 21 = .ok (.getfield 61, 3) := by decide +kernel
theorem dX8_tries_24 : decode cX8_tries 24 = .ok (.if_icmp .ne 80, 3) := by decide +kernel
theorem dX8_tries_27 : decode cX8_tries 27 = .ok (.iload_n 1, 1) := by decide +kernel
theorem dX8_tries_28 : decode cX8_tries 28 = .ok (.ifCond .eq 14, 3) := by decide +kernel
theorem dX8_tries_31 : decode cX8_tries 31 = .ok (.aload_n 0, 1) := by decide +kernel
theorem dX8_tries_32 : decode cX8_tries 32 = .ok (.aload_n 0, 1) := by decide +kernel
theorem dX8_tries_33 : decode cX8_tries 33 = .ok (.getfield 41, 3) := by decide +kernel
theorem dX8_tries_36 : decode cX8_tries 36 = .ok (.invokevirtual 113, 3) := by decide +kernel
theorem dX8_tries_39 : decode cX8_tries 39 = .ok (.goto 11, 3) := by decide +kernel
theorem dX8_tries_42 : decode cX8_tries 42 = .ok (.aload_n 0, 1) := by decide +kernel
theorem dX8_tries_43 : decode cX8_tries 43 = .ok (.aload_n 0, 1) := by decide +kernel
theorem dX8_tries_44 : decode cX8_tries 44 = .ok (.getfield 41, 3) := by decide +kernel
theorem dX8_tries_47 : decode cX8_tries 47 = .ok (.invokevirtual 103, 3) := by decide +kernel
theorem dX8_tries_50 : decode cX8_tries 50 = .ok (.istore 4, 2) := by decide +kernel
theorem dX8_tries_52 : decode cX8_tries 52 = .ok (.iload_n 2, 1) := by decide +kernel
theorem dX8_tries_53 : decode cX8_tries 53 = .ok (.iconst (-1), 1) := by decide +kernel
theorem dX8_tries_54 : decode cX8_tries 54 = .ok (.if_icmp .eq 9, 3) := by decide +kernel
theorem dX8_tries_57 : decode cX8_tries 57 = .ok (.iload 4, 2) := by decide +kernel
theorem dX8_tries_59 : decode cX8_tries 59 = .ok (.iload_n 2, 1) := by decide +kernel
theorem dX8_tries_60 : decode cX8_tries 60 = .ok (.if_icmp .ge 38, 3) := by decide +kernel
theorem dX8_tries_63 : decode cX8_tries 63 = .ok (.iload 4, 2) := by decide +kernel
theorem dX8_tries_65 : decode cX8_tries 65 = .ok (.istore_n 2, 1) := by decide +kernel
theorem dX8_tries_66 : decode cX8_tries 66 = .ok (.iconst 0, 1) := by decide +kernel
theorem dX8_tries_67 : decode cX8_tries 67 = .ok (.istore 5, 2) := by decide +kernel
theorem dX8_tries_69 : decode cX8_tries 69 = .ok (.iload 5, 2) := by decide +kernel
theorem dX8_tries_71 : decode cX8_tries 71 = .ok (.aload_n 0, 1) := by decide +kernel
theorem dX8_tries_72 : decode cX8_tries 72 = .ok (.getfield 61, 3) := by decide +kernel
theorem dX8_tries_75 : decode cX8_tries 75 = .ok (.if_icmp .ge 23, 3) := by decide +kernel
theorem dX8_tries_78 : decode cX8_tries 78 = .ok (.aload_n 0, 1) := by decide +kernel
theorem dX8_tries_79 : decode cX8_tries 79 = .ok (.getfield 44, 3) := by decide +kernel
theorem dX8_tries_82 : decode cX8_tries 82 = .ok (.iload 5, 2) := by decide +kernel
theorem dX8_tries_84 : decode cX8_tries 84 = .ok (.aload_n 0, 1) := by decide +kernel
theorem dX8_tries_85 : decode cX8_tries 85 = .ok (.getfield 41, 3) := by decide +kernel
theorem dX8_tries_88 : decode cX8_tries 88 = .ok (.iload 5, 2) := by decide +kernel
theorem dX8_tries_90 : decode cX8_tries 90 = .ok (.iaload, 1) := by decide +kernel
theorem dX8_tries_91 : decode cX8_tries 91 = .ok (.iastore, 1) := by decide +kernel
theorem dX8_tries_92 : decode cX8_tries 92 = .ok (.iinc 5 1, 3) := by decide +kernel
theorem dX8_tries_95 : decode cX8_tries 95 = .ok (.goto (-26), 3) := by decide +kernel
theorem dX8_tries_98 : decode cX8_tries 98 = .ok (.iinc 3 (-1), 3) := by decide +kernel
theorem dX8_tries_101 : decode cX8_tries 101 = .ok (.goto (-86), 3) := by decide +kernel
theorem dX8_tries_104 : decode cX8_tries 104 = .ok (.aload_n 0, 1) := by decide +kernel
theorem dX8_tries_105 : decode cX8_tries 105 = .ok (.iload_n 3, 1) := by decide +kernel
theorem dX8_tries_106 : decode cX8_tries 106 = .ok (.invokevirtual 116, 3) := by decide +kernel
theorem dX8_tries_109 : decode cX8_tries 109 = .ok (.istore 4, 2) := by decide +kernel
theorem dX8_tries_111 : decode cX8_tries 111 = .ok (.aload_n 0, 1) := by decide +kernel
theorem dX8_tries_112 : decode cX8_tries 112 = .ok (.getfield 41, 3) := by decide +kernel
theorem dX8_tries_115 : decode cX8_tries 115 = .ok (.iload_n 3, 1) := by decide +kernel
theorem dX8_tries_116 : decode cX8_tries 116 = .ok (.iload 4, 2) := by decide +kernel
theorem dX8_tries_118 : decode cX8_tries 118 = .ok (.iastore, 1) := by decide +kernel
theorem dX8_tries_119 : decode cX8_tries 119 = .ok (.iload 4, 2) := by decide +kernel
theorem dX8_tries_121 : decode cX8_tries 121 = .ok (.iconst (-1), 1) := by decide +kernel
theorem dX8_tries_122 : decode cX8_tries 122 = .ok (.if_icmp .ne 9, 3) := by decide +kernel
theorem dX8_tries_125 : decode cX8_tries 125 = .ok (.iinc 3 (-1), 3) := by decide +kernel
theorem dX8_tries_128 : decode cX8_tries 128 = .ok (.goto 21, 3) := by decide +kernel
theorem dX8_tries_131 : decode cX8_tries 131 = .ok (.iinc 3 1, 3) := by decide +kernel
theorem dX8_tries_134 : decode cX8_tries 134 = .ok (.iload_n 3, 1) := by decide +kernel
theorem dX8_tries_135 : decode cX8_tries 135 = .ok (.aload_n 0, 1) := by decide +kernel
theorem dX8_tries_136 : decode cX8_tries 136 = .ok (.getfield 61, 3) := by decide +kernel
theorem dX8_tries_139 : decode cX8_tries 139 = .ok (.if_icmp .ge 10, 3) := by decide +kernel
theorem dX8_tries_142 : decode cX8_tries 142 = .ok (.aload_n 0, 1) := by decide +kernel
theorem dX8_tries_143 : decode cX8_tries 143 = .ok (.getfield 41, 3) := by decide +kernel
theorem dX8_tries_146 : decode cX8_tries 146 = .ok (.iload_n 3, 1) := by decide +kernel
theorem dX8_tries_147 : decode cX8_tries 147 = .ok (.iconst (-1), 1) := by decide +kernel
theorem dX8_tries_148 : decode cX8_tries 148 = .ok (.iastore, 1) := by decide +kernel
theorem dX8_tries_149 : decode cX8_tries 149 = .ok (.goto (-134), 3) := by decide +kernel
theorem dX8_tries_152 : decode cX8_tries 152 = .ok (.iload_n 2, 1) := by decide +kernel
theorem dX8_tries_153 : decode cX8_tries 153 = .ok (.ireturn, 1) := by decide +kernel
theorem dX8_place_0 : decode cX8_place 0 = .ok (.aload_n 0, 1) := by decide +kernel
theorem dX8_place_1 : decode cX8_place 1 = .ok (.iload_n 1, 1) := by decide +kernel
theorem dX8_place_2 : decode cX8_place 2 = .ok (.invokevirtual 92, 3) := by decide +kernel
theorem dX8_place_5 : decode cX8_place 5 = .ok (.ifCond .eq 20, 3) := by decide +kernel
theorem dX8_place_8 : decode cX8_place 8 = .ok (.iload_n 2, 1) := by decide +kernel
theorem dX8_place_9 : decode cX8_place 9 = .ok (.iconst (-1), 1) := by decide +kernel
theorem dX8_place_10 : decode cX8_place 10 = .ok (.if_icmp .eq 11, 3) := by decide +kernel
theorem dX8_place_13 : decode cX8_place 13 = .ok (.aload_n 0, 1) := by decide +kernel
theorem dX8_place_14 : decode cX8_place 14 = .ok (.iload_n 2, 1) := by decide +kernel
theorem dX8_place_15 : decode cX8_place 15 = .ok (.invokevirtual 83, 3) := by decide +kernel
theorem dX8_place_18 : decode cX8_place 18 = .ok (.ifCond .eq 7, 3) := by decide +kernel
theorem dX8_place_21 : decode cX8_place 21 = .ok (.iconst 1, 1) := by decide +kernel
theorem dX8_place_22 : decode cX8_place 22 = .ok (.goto 4, 3) := by decide +kernel
theorem dX8_place_25 : decode cX8_place 25 = .ok (.iconst 0, 1) := by decide +kernel
theorem dX8_place_26 : decode cX8_place 26 = .ok (.istore_n 3, 1) := by decide +kernel
theorem dX8_place_27 : decode cX8_place 27 = .ok (.iload_n 3, 1) := by decide +kernel
theorem dX8_place_28 : decode cX8_place 28 = .ok (.ifCond .eq 16, 3) := by decide +kernel
theorem dX8_place_31 : decode cX8_place 31 = .ok (.iload_n 2, 1) := by decide +kernel
theorem dX8_place_32 : decode cX8_place 32 = .ok (.iconst (-1), 1) := by decide +kernel
theorem dX8_place_33 : decode cX8_place 33 = .ok (.if_icmp .eq 11, 3) := by decide +kernel
theorem dX8_place_36 : decode cX8_place 36 = .ok (.aload_n 0, 1) := by decide +kernel
theorem dX8_place_37 : decode cX8_place 37 = .ok (.iload_n 2, 1) := by decide +kernel
theorem dX8_place_38 : decode cX8_place 38 = .ok (.invokevirtual 86, 3) := by decide +kernel
theorem dX8_place_41 : decode cX8_place 41 = .ok (.goto 4, 3) := by decide +kernel
theorem dX8_place_44 : decode cX8_place 44 = .ok (.iconst (-1), 1) := by decide +kernel
theorem dX8_place_45 : decode cX8_place 45 = .ok (.istore 4, 2) := by decide +kernel
theorem dX8_place_47 : decode cX8_place 47 = .ok (.aload_n 0, 1) := by decide +kernel
theorem dX8_place_48 : decode cX8_place 48 = .ok (.iload_n 3, 1) := by decide +kernel
theorem dX8_place_49 : decode cX8_place 49 = .ok (.iload_n 3, 1) := by decide +kernel
theorem dX8_place_50 : decode cX8_place 50 = .ok (.ifCond .eq 33, 3) := by decide +kernel
theorem dX8_place_53 : decode cX8_place 53 = .ok (.iload_n 2, 1) := by decide +kernel
theorem dX8_place_54 : decode cX8_place 54 = .ok (.iconst (-1), 1) := by decide +kernel
theorem dX8_place_55 : decode cX8_place 55 = .ok (.if_icmp .eq 24, 3) := by decide +kernel
theorem dX8_place_58 : decode cX8_place 58 = .ok (.iload 4, 2) := by decide +kernel
theorem dX8_place_60 : decode cX8_place 60 = .ok (.iconst (-1), 1) := by decide +kernel
theorem dX8_place_61 : decode cX8_place 61 = .ok (.if_icmp .eq 9, 3) := by decide +kernel
theorem dX8_place_64 : decode cX8_place 64 = .ok (.iload 4, 2) := by decide +kernel
theorem dX8_place_66 : decode cX8_place 66 = .ok (.iload_n 1, 1) := by decide +kernel
theorem dX8_place_67 : decode cX8_place 67 = .ok (.if_icmp .ne 16, 3) := by decide +kernel
theorem dX8_place_70 : decode cX8_place 70 = .ok (.aload_n 0, 1) := by decide +kernel
theorem dX8_place_71 : decode cX8_place 71 = .ok (.iload_n 1, 1) := by decide +kernel
theorem dX8_place_72 : decode cX8_place 72 = .ok (.iload_n 2, 1) := by decide +kernel
theorem dX8_place_73 : decode cX8_place 73 = .ok (.invokevirtual 107, 3) := by decide +kernel
theorem dX8_place_76 : decode cX8_place 76 = .ok (.ifCond .eq 7, 3) := by decide +kernel
theorem dX8_place_79 : decode cX8_place 79 = .ok (.iconst 1, 1) := by decide +kernel
theorem dX8_place_80 : decode cX8_place 80 = .ok (.goto 4, 3) := by decide +kernel
theorem dX8_place_83 : decode cX8_place 83 = .ok (.iconst 0, 1) := by decide +kernel
theorem dX8_place_84 : decode cX8_place 84 = .ok (.invokevirtual 76, 3) := by decide +kernel
theorem dX8_place_87 : decode cX8_place 87 = .ok (.ifCond .ne 5, 3) := by decide +kernel
theorem dX8_place_90 : decode cX8_place 90 = .ok (.iconst 0, 1) := by decide +kernel
theorem dX8_place_91 : decode cX8_place 91 = .ok (.ireturn, 1) := by decide +kernel
theorem dX8_place_92 : decode cX8_place 92 = .ok (.aload_n 0, 1) := by decide +kernel
theorem dX8_place_93 : decode cX8_place 93 = .ok (.getfield 29, 3) := by decide +kernel
theorem dX8_place_96 : decode cX8_place 96 = .ok (.iload_n 1, 1) := by decide +kernel
theorem dX8_place_97 : decode cX8_place 97 = .ok (.iaload, 1) := by decide +kernel
theorem dX8_place_98 : decode cX8_place 98 = .ok (.istore 5, 2) := by decide +kernel
theorem dX8_place_100 : decode cX8_place 100 = .ok (.aload_n 0, 1) := by decide +kernel
theorem dX8_place_101 : decode cX8_place 101 = .ok (.getfield 29, 3) := by decide +kernel
theorem dX8_place_104 : decode cX8_place 104 = .ok (.iload_n 1, 1) := by decide +kernel
theorem dX8_place_105 : decode cX8_place 105 = .ok (.iload_n 2, 1) := by decide +kernel
theorem dX8_place_106 : decode cX8_place 106 = .ok (.iastore, 1) := by decide +kernel
theorem dX8_place_107 : decode cX8_place 107 = .ok (.iload 5, 2) := by decide +kernel
theorem dX8_place_109 : decode cX8_place 109 = .ok (.ireturn, 1) := by decide +kernel
theorem dX8_lays_0 : decode cX8_lays 0 = .ok (.aload_n 0, 1) := by decide +kernel
theorem dX8_lays_1 : decode cX8_lays 1 = .ok (.iload_n 1, 1) := by decide +kernel
theorem dX8_lays_2 : decode cX8_lays 2 = .ok (.invokevirtual 119, 3) := by decide +kernel
theorem dX8_lays_5 : decode cX8_lays 5 = .ok (.istore_n 2, 1) := by decide +kernel
theorem dX8_lays_6 : decode cX8_lays 6 = .ok (.aload_n 0, 1) := by decide +kernel
theorem dX8_lays_7 : decode cX8_lays 7 = .ok (.iload_n 2, 1) := by decide +kernel
theorem dX8_lays_8 : decode cX8_lays 8 = .ok (.iconst (-1), 1) := by decide +kernel
theorem dX8_lays_9 : decode cX8_lays 9 = .ok (.if_icmp .eq 7, 3) := by decide +kernel
theorem dX8_lays_12 : decode cX8_lays 12 = .ok (.iconst 1, 1) := by decide +kernel
theorem dX8_lays_13 : decode cX8_lays 13 = .ok (.goto 4, 3) := by decide +kernel
theorem dX8_lays_16 : decode cX8_lays 16 = .ok (.iconst 0, 1) := by decide +kernel
theorem dX8_lays_17 : decode cX8_lays 17 = .ok (.invokevirtual 89, 3) := by decide +kernel
theorem dX8_lays_20 : decode cX8_lays 20 = .ok (.ifCond .ne 5, 3) := by decide +kernel
theorem dX8_lays_23 : decode cX8_lays 23 = .ok (.iconst 0, 1) := by decide +kernel
theorem dX8_lays_24 : decode cX8_lays 24 = .ok (.ireturn, 1) := by decide +kernel
theorem dX8_lays_25 : decode cX8_lays 25 = .ok (.iconst 0, 1) := by decide +kernel
theorem dX8_lays_26 : decode cX8_lays 26 = .ok (.istore_n 3, 1) := by decide +kernel
theorem dX8_lays_27 : decode cX8_lays 27 = .ok (.iload_n 3, 1) := by decide +kernel
theorem dX8_lays_28 : decode cX8_lays 28 = .ok (.aload_n 0, 1) := by decide +kernel
theorem dX8_lays_29 : decode cX8_lays 29 = .ok (.getfield 61, 3) := by decide +kernel
theorem dX8_lays_32 : decode cX8_lays 32 = .ok (.if_icmp .ge 21, 3) := by decide +kernel
theorem dX8_lays_35 : decode cX8_lays 35 = .ok (.aload_n 0, 1) := by decide +kernel
theorem dX8_lays_36 : decode cX8_lays 36 = .ok (.getfield 29, 3) := by decide +kernel
theorem dX8_lays_39 : decode cX8_lays 39 = .ok (.iload_n 3, 1) := by decide +kernel
theorem dX8_lays_40 : decode cX8_lays 40 = .ok (.aload_n 0, 1) := by decide +kernel
theorem dX8_lays_41 : decode cX8_lays 41 = .ok (.getfield 44, 3) := by decide +kernel
theorem dX8_lays_44 : decode cX8_lays 44 = .ok (.iload_n 3, 1) := by decide +kernel
theorem dX8_lays_45 : decode cX8_lays 45 = .ok (.iaload, 1) := by decide +kernel
theorem dX8_lays_46 : decode cX8_lays 46 = .ok (.iastore, 1) := by decide +kernel
theorem dX8_lays_47 : decode cX8_lays 47 = .ok (.iinc 3 1, 3) := by decide +kernel
theorem dX8_lays_50 : decode cX8_lays 50 = .ok (.goto (-23), 3) := by decide +kernel
theorem dX8_lays_53 : decode cX8_lays 53 = .ok (.iload_n 2, 1) := by decide +kernel
theorem dX8_lays_54 : decode cX8_lays 54 = .ok (.ireturn, 1) := by decide +kernel
theorem dX8_placeByWishes_0 : decode cX8_placeByWishes 0 = .ok (.aload_n 0, 1) := by decide +kernel
theorem dX8_placeByWishes_1 : decode cX8_placeByWishes 1 = .ok (.iconst 0, 1) := by decide +kernel
theorem dX8_placeByWishes_2 : decode cX8_placeByWishes 2 = .ok (.invokevirtual 123, 3) := by decide +kernel
theorem dX8_placeByWishes_5 : decode cX8_placeByWishes 5 = .ok (.ireturn, 1) := by decide +kernel
theorem dX8_placeBest_0 : decode cX8_placeBest 0 = .ok (.aload_n 0, 1) := by decide +kernel
theorem dX8_placeBest_1 : decode cX8_placeBest 1 = .ok (.iconst 1, 1) := by decide +kernel
theorem dX8_placeBest_2 : decode cX8_placeBest 2 = .ok (.invokevirtual 123, 3) := by decide +kernel
theorem dX8_placeBest_5 : decode cX8_placeBest 5 = .ok (.ireturn, 1) := by decide +kernel
theorem dX8_isPlaced_0 : decode cX8_isPlaced 0 = .ok (.iconst 1, 1) := by decide +kernel
theorem dX8_isPlaced_1 : decode cX8_isPlaced 1 = .ok (.istore_n 1, 1) := by decide +kernel
theorem dX8_isPlaced_2 : decode cX8_isPlaced 2 = .ok (.iconst 0, 1) := by decide +kernel
theorem dX8_isPlaced_3 : decode cX8_isPlaced 3 = .ok (.istore_n 2, 1) := by decide +kernel
theorem dX8_isPlaced_4 : decode cX8_isPlaced 4 = .ok (.iload_n 2, 1) := by decide +kernel
theorem dX8_isPlaced_5 : decode cX8_isPlaced 5 = .ok (.aload_n 0, 1) := by decide +kernel
theorem dX8_isPlaced_6 : decode cX8_isPlaced 6 = .ok (.getfield 61, 3) := by decide +kernel
theorem dX8_isPlaced_9 : decode cX8_isPlaced 9 = .ok (.if_icmp .ge 29, 3) := by decide +kernel
theorem dX8_isPlaced_12 : decode cX8_isPlaced 12 = .ok (.iload_n 1, 1) := by decide +kernel
theorem dX8_isPlaced_13 : decode cX8_isPlaced 13 = .ok (.ifCond .eq 17, 3) := by decide +kernel
theorem dX8_isPlaced_16 : decode cX8_isPlaced 16 = .ok (.aload_n 0, 1) := by decide +kernel
theorem dX8_isPlaced_17 : decode cX8_isPlaced 17 = .ok (.getfield 29, 3) := by decide +kernel
theorem dX8_isPlaced_20 : decode cX8_isPlaced 20 = .ok (.iload_n 2, 1) := by decide +kernel
theorem dX8_isPlaced_21 : decode cX8_isPlaced 21 = .ok (.iaload, 1) := by decide +kernel
theorem dX8_isPlaced_22 : decode cX8_isPlaced 22 = .ok (.iconst (-1), 1) := by decide +kernel
theorem dX8_isPlaced_23 : decode cX8_isPlaced 23 = .ok (.if_icmp .eq 7, 3) := by decide +kernel
theorem dX8_isPlaced_26 : decode cX8_isPlaced 26 = .ok (.iconst 1, 1) := by decide +kernel
theorem dX8_isPlaced_27 : decode cX8_isPlaced 27 = .ok (.goto 4, 3) := by decide +kernel
theorem dX8_isPlaced_30 : decode cX8_isPlaced 30 = .ok (.iconst 0, 1) := by decide +kernel
theorem dX8_isPlaced_31 : decode cX8_isPlaced 31 = .ok (.istore_n 1, 1) := by decide +kernel
theorem dX8_isPlaced_32 : decode cX8_isPlaced 32 = .ok (.iinc 2 1, 3) := by decide +kernel
theorem dX8_isPlaced_35 : decode cX8_isPlaced 35 = .ok (.goto (-31), 3) := by decide +kernel
theorem dX8_isPlaced_38 : decode cX8_isPlaced 38 = .ok (.iload_n 1, 1) := by decide +kernel
theorem dX8_isPlaced_39 : decode cX8_isPlaced 39 = .ok (.ireturn, 1) := by decide +kernel
theorem dX8_costBehind_0 : decode cX8_costBehind 0 = .ok (.iload 4, 2) := by decide +kernel
theorem dX8_costBehind_2 : decode cX8_costBehind 2 = .ok (.aload_n 0, 1) := by decide +kernel
theorem dX8_costBehind_3 : decode cX8_costBehind 3 = .ok (.getfield 47, 3) := by decide +kernel
theorem dX8_costBehind_6 : decode cX8_costBehind 6 = .ok (.iload_n 1, 1) := by decide +kernel
theorem dX8_costBehind_7 : decode cX8_costBehind 7 = .ok (.iaload, 1) := by decide +kernel
theorem dX8_costBehind_8 : decode cX8_costBehind 8 = .ok (.isub, 1) := by decide +kernel
theorem dX8_costBehind_9 : decode cX8_costBehind 9 = .ok (.iload 5, 2) := by decide +kernel
theorem dX8_costBehind_11 : decode cX8_costBehind 11 = .ok (.if_icmp .le 7, 3) := by decide +kernel
theorem dX8_costBehind_14 : decode cX8_costBehind 14 = .ok (.iconst 1, 1) := by decide +kernel
theorem dX8_costBehind_15 : decode cX8_costBehind 15 = .ok (.goto 4, 3) := by decide +kernel
theorem dX8_costBehind_18 : decode cX8_costBehind 18 = .ok (.iconst 0, 1) := by decide +kernel
theorem dX8_costBehind_19 : decode cX8_costBehind 19 = .ok (.istore 6, 2) := by decide +kernel
theorem dX8_costBehind_21 : decode cX8_costBehind 21 = .ok (.iload_n 2, 1) := by decide +kernel
theorem dX8_costBehind_22 : decode cX8_costBehind 22 = .ok (.iconst (-1), 1) := by decide +kernel
theorem dX8_costBehind_23 : decode cX8_costBehind 23 = .ok (.if_icmp .eq 46, 3) := by decide +kernel
theorem dX8_costBehind_26 : decode cX8_costBehind 26 = .ok (.iload 6, 2) := by decide +kernel
theorem dX8_costBehind_28 : decode cX8_costBehind 28 = .ok (.ifCond .eq 35, 3) := by decide +kernel
theorem dX8_costBehind_31 : decode cX8_costBehind 31 = .ok (.iload 4, 2) := by decide +kernel
theorem dX8_costBehind_33 : decode cX8_costBehind 33 = .ok (.aload_n 0, 1) := by decide +kernel
theorem dX8_costBehind_34 : decode cX8_costBehind 34 = .ok (.getfield 47, 3) := by decide +kernel
theorem dX8_costBehind_37 : decode cX8_costBehind 37 = .ok (.iload_n 2, 1) := by decide +kernel
theorem dX8_costBehind_38 : decode cX8_costBehind 38 = .ok (.iaload, 1) := by decide +kernel
theorem dX8_costBehind_39 : decode cX8_costBehind 39 = .ok (.isub, 1) := by decide +kernel
theorem dX8_costBehind_40 : decode cX8_costBehind 40 = .ok (.iload 5, 2) := by decide +kernel
theorem dX8_costBehind_42 : decode cX8_costBehind 42 = .ok (.if_icmp .le 21, 3) := by decide +kernel
theorem dX8_costBehind_45 : decode cX8_costBehind 45 = .ok (.aload_n 0, 1) := by decide +kernel
theorem dX8_costBehind_46 : decode cX8_costBehind 46 = .ok (.iload_n 2, 1) := by decide +kernel
theorem dX8_costBehind_47 : decode cX8_costBehind 47 = .ok (.aload_n 0, 1) := by decide +kernel
theorem dX8_costBehind_48 : decode cX8_costBehind 48 = .ok (.getfield 29, 3) := by decide +kernel
theorem dX8_costBehind_51 : decode cX8_costBehind 51 = .ok (.iload_n 1, 1) := by decide +kernel
theorem dX8_costBehind_52 : decode cX8_costBehind 52 = .ok (.iaload, 1) := by decide +kernel
theorem dX8_costBehind_53 : decode cX8_costBehind 53 = .ok (.invokevirtual 107, 3) := by decide +kernel
theorem dX8_costBehind_56 : decode cX8_costBehind 56 = .ok (.ifCond .eq 7, 3) := by decide +kernel
theorem dX8_costBehind_59 : decode cX8_costBehind 59 = .ok (.iconst 1, 1) := by decide +kernel
theorem dX8_costBehind_60 : decode cX8_costBehind 60 = .ok (.goto 4, 3) := by decide +kernel
theorem dX8_costBehind_63 : decode cX8_costBehind 63 = .ok (.iconst 0, 1) := by decide +kernel
theorem dX8_costBehind_64 : decode cX8_costBehind 64 = .ok (.istore 6, 2) := by decide +kernel
theorem dX8_costBehind_66 : decode cX8_costBehind 66 = .ok (.goto 24, 3) := by decide +kernel
theorem dX8_costBehind_69 : decode cX8_costBehind 69 = .ok (.iload 6, 2) := by decide +kernel
theorem dX8_costBehind_71 : decode cX8_costBehind 71 = .ok (.ifCond .eq 16, 3) := by decide +kernel
theorem dX8_costBehind_74 : decode cX8_costBehind 74 = .ok (.aload_n 0, 1) := by decide +kernel
theorem dX8_costBehind_75 : decode cX8_costBehind 75 = .ok (.iload_n 3, 1) := by decide +kernel
theorem dX8_costBehind_76 : decode cX8_costBehind 76 = .ok (.invokevirtual 86, 3) := by decide +kernel
theorem dX8_costBehind_79 : decode cX8_costBehind 79 = .ok (.iconst (-1), 1) := by decide +kernel
theorem dX8_costBehind_80 : decode cX8_costBehind 80 = .ok (.if_icmp .ne 7, 3) := by decide +kernel
theorem dX8_costBehind_83 : decode cX8_costBehind 83 = .ok (.iconst 1, 1) := by decide +kernel
theorem dX8_costBehind_84 : decode cX8_costBehind 84 = .ok (.goto 4, 3) := by decide +kernel
theorem dX8_costBehind_87 : decode cX8_costBehind 87 = .ok (.iconst 0, 1) := by decide +kernel
theorem dX8_costBehind_88 : decode cX8_costBehind 88 = .ok (.istore 6, 2) := by decide +kernel
theorem dX8_costBehind_90 : decode cX8_costBehind 90 = .ok (.iload 6, 2) := by decide +kernel
theorem dX8_costBehind_92 : decode cX8_costBehind 92 = .ok (.ifCond .eq 12, 3) := by decide +kernel
theorem dX8_costBehind_95 : decode cX8_costBehind 95 = .ok (.aload_n 0, 1) := by decide +kernel
theorem dX8_costBehind_96 : decode cX8_costBehind 96 = .ok (.iload_n 1, 1) := by decide +kernel
theorem dX8_costBehind_97 : decode cX8_costBehind 97 = .ok (.iload_n 3, 1) := by decide +kernel
theorem dX8_costBehind_98 : decode cX8_costBehind 98 = .ok (.invokevirtual 107, 3) := by decide +kernel
theorem dX8_costBehind_101 : decode cX8_costBehind 101 = .ok (.ifCond .ne 5, 3) := by decide +kernel
theorem dX8_costBehind_104 : decode cX8_costBehind 104 = .ok (.iconst (-1), 1) := by decide +kernel
theorem dX8_costBehind_105 : decode cX8_costBehind 105 = .ok (.ireturn, 1) := by decide +kernel
theorem dX8_costBehind_106 : decode cX8_costBehind 106 = .ok (.iconst 0, 1) := by decide +kernel
theorem dX8_costBehind_107 : decode cX8_costBehind 107 = .ok (.istore 7, 2) := by decide +kernel
theorem dX8_costBehind_109 : decode cX8_costBehind 109 = .ok (.iload 7, 2) := by decide +kernel
theorem dX8_costBehind_111 : decode cX8_costBehind 111 = .ok (.aload_n 0, 1) := by decide +kernel
theorem dX8_costBehind_112 : decode cX8_costBehind 112 = .ok (.getfield 61, 3) := by decide +kernel
theorem dX8_costBehind_115 : decode cX8_costBehind 115 = .ok (.if_icmp .ge 48, 3) := by decide +kernel
theorem dX8_costBehind_118 : decode cX8_costBehind 118 = .ok (.aload_n 0, 1) := by decide +kernel
theorem dX8_costBehind_119 : decode cX8_costBehind 119 = .ok (.getfield 41, 3) := by decide +kernel
theorem dX8_costBehind_122 : decode cX8_costBehind 122 = .ok (.iload 7, 2) := by decide +kernel
theorem dX8_costBehind_124 : decode cX8_costBehind 124 = .ok (.iload 7, 2) := by decide +kernel
theorem dX8_costBehind_126 : decode cX8_costBehind 126 = .ok (.iload_n 1, 1) := by decide +kernel
theorem dX8_costBehind_127 : decode cX8_costBehind 127 = .ok (.if_icmp .ne 7, 3) := by decide +kernel
theorem dX8_costBehind_130 : decode cX8_costBehind 130 = .ok (.iload_n 3, 1) := by decide +kernel
theorem dX8_costBehind_131 : decode cX8_costBehind 131 = .ok (.goto 25, 3) := by decide +kernel
theorem dX8_costBehind_134 : decode cX8_costBehind 134 = .ok (.iload 7, 2) := by decide +kernel
theorem dX8_costBehind_136 : decode cX8_costBehind 136 = .ok (.iload_n 2, 1) := by decide +kernel
theorem dX8_costBehind_137 : decode cX8_costBehind 137 = .ok (.if_icmp .ne 12, 3) := by decide +kernel
theorem dX8_costBehind_140 : decode cX8_costBehind 140 = .ok (.aload_n 0, 1) := by decide +kernel
theorem dX8_costBehind_141 : decode cX8_costBehind 141 = .ok (.getfield 29, 3) := by decide +kernel
theorem dX8_costBehind_144 : decode cX8_costBehind 144 = .ok (.iload_n 1, 1) := by decide +kernel
theorem dX8_costBehind_145 : decode cX8_costBehind 145 = .ok (.iaload, 1) := by decide +kernel
theorem dX8_costBehind_146 : decode cX8_costBehind 146 = .ok (.goto 10, 3) := by decide +kernel
theorem dX8_costBehind_149 : decode cX8_costBehind 149 = .ok (.aload_n 0, 1) := by decide +kernel
theorem dX8_costBehind_150 : decode cX8_costBehind 150 = .ok (.getfield 29, 3) := by decide +kernel
theorem dX8_costBehind_153 : decode cX8_costBehind 153 = .ok (.iload 7, 2) := by decide +kernel
theorem dX8_costBehind_155 : decode cX8_costBehind 155 = .ok (.iaload, 1) := by decide +kernel
theorem dX8_costBehind_156 : decode cX8_costBehind 156 = .ok (.iastore, 1) := by decide +kernel
theorem dX8_costBehind_157 : decode cX8_costBehind 157 = .ok (.iinc 7 1, 3) := by decide +kernel
theorem dX8_costBehind_160 : decode cX8_costBehind 160 = .ok (.goto (-51), 3) := by decide +kernel
theorem dX8_costBehind_163 : decode cX8_costBehind 163 = .ok (.aload_n 0, 1) := by decide +kernel
theorem dX8_costBehind_164 : decode cX8_costBehind 164 = .ok (.aload_n 0, 1) := by decide +kernel
theorem dX8_costBehind_165 : decode cX8_costBehind 165 = .ok (.getfield 41, 3) := by decide +kernel
theorem dX8_costBehind_168 : decode cX8_costBehind 168 = .ok (.invokevirtual 113, 3) := by decide +kernel
theorem dX8_costBehind_171 : decode cX8_costBehind 171 = .ok (.ireturn, 1) := by decide +kernel
theorem dX8_search_0 : decode cX8_search 0 = .ok (.aload_n 0, 1) := by decide +kernel
theorem dX8_search_1 : decode cX8_search 1 = .ok (.iload_n 1, 1) := by decide +kernel
theorem dX8_search_2 : decode cX8_search 2 = .ok (.iconst 1, 1) := by decide +kernel
theorem dX8_search_3 : decode cX8_search 3 = .ok (.bipush 40, 2) := by decide +kernel
theorem dX8_search_5 : decode cX8_search 5 = .ok (.invokestatic 54, 3) := by decide +kernel
theorem dX8_search_8 : decode cX8_search 8 = .ok (.ifCond .eq 16, 3) := by decide +kernel
theorem dX8_search_11 : decode cX8_search 11 = .ok (.iload_n 2, 1) := by decide +kernel
theorem dX8_search_12 : decode cX8_search 12 = .ok (.iconst 0, 1) := by decide +kernel
theorem dX8_search_13 : decode cX8_search 13 = .ok (.iconst 5, 1) := by decide +kernel
theorem dX8_search_14 : decode cX8_search 14 = .ok (.invokestatic 54, 3) := by decide +kernel
theorem dX8_search_17 : decode cX8_search 17 = .ok (.ifCond .eq 7, 3) := by decide +kernel
theorem dX8_search_20 : decode cX8_search 20 = .ok (.iconst 1, 1) := by decide +kernel
theorem dX8_search_21 : decode cX8_search 21 = .ok (.goto 4, 3) := by decide +kernel
theorem dX8_search_24 : decode cX8_search 24 = .ok (.iconst 0, 1) := by decide +kernel
theorem dX8_search_25 : decode cX8_search 25 = .ok (.aload_n 0, 1) := by decide +kernel
theorem dX8_search_26 : decode cX8_search 26 = .ok (.invokevirtual 126, 3) := by decide +kernel
theorem dX8_search_29 : decode cX8_search 29 = .ok (.invokevirtual 76, 3) := by decide +kernel
theorem dX8_search_32 : decode cX8_search 32 = .ok (.ifCond .ne 5, 3) := by decide +kernel
theorem dX8_search_35 : decode cX8_search 35 = .ok (.iconst 0, 1) := by decide +kernel
theorem dX8_search_36 : decode cX8_search 36 = .ok (.ireturn, 1) := by decide +kernel
theorem dX8_search_37 : decode cX8_search 37 = .ok (.aload_n 0, 1) := by decide +kernel
theorem dX8_search_38 : decode cX8_search 38 = .ok (.invokevirtual 110, 3) := by decide +kernel
theorem dX8_search_41 : decode cX8_search 41 = .ok (.aload_n 0, 1) := by decide +kernel
theorem dX8_search_42 : decode cX8_search 42 = .ok (.aload_n 0, 1) := by decide +kernel
theorem dX8_search_43 : decode cX8_search 43 = .ok (.getfield 29, 3) := by decide +kernel
theorem dX8_search_46 : decode cX8_search 46 = .ok (.invokevirtual 113, 3) := by decide +kernel
theorem dX8_search_49 : decode cX8_search 49 = .ok (.istore_n 3, 1) := by decide +kernel
theorem dX8_search_50 : decode cX8_search 50 = .ok (.iconst 0, 1) := by decide +kernel
theorem dX8_search_51 : decode cX8_search 51 = .ok (.istore 4, 2) := by decide +kernel
theorem dX8_search_53 : decode cX8_search 53 = .ok (.iload 4, 2) := by decide +kernel
theorem dX8_search_55 : decode cX8_search 55 = .ok (.aload_n 0, 1) := by decide +kernel
theorem dX8_search_56 : decode cX8_search 56 = .ok (.getfield 61, 3) := by decide +kernel
theorem dX8_search_59 : decode cX8_search 59 = .ok (.if_icmp .ge 32, 3) := by decide +kernel
theorem dX8_search_62 : decode cX8_search 62 = .ok (.aload_n 0, 1) := by decide +kernel
theorem dX8_search_63 : decode cX8_search 63 = .ok (.getfield 44, 3) := by decide +kernel
theorem dX8_search_66 : decode cX8_search 66 = .ok (.iload 4, 2) := by decide +kernel
theorem dX8_search_68 : decode cX8_search 68 = .ok (.aload_n 0, 1) := by decide +kernel
theorem dX8_search_69 : decode cX8_search 69 = .ok (.getfield 29, 3) := by decide +kernel
theorem dX8_search_72 : decode cX8_search 72 = .ok (.iload 4, 2) := by decide +kernel
theorem dX8_search_74 : decode cX8_search 74 = .ok (.iaload, 1) := by decide +kernel
theorem dX8_search_75 : decode cX8_search 75 = .ok (.iastore, 1) := by decide +kernel
theorem dX8_search_76 : decode cX8_search 76 = .ok (.aload_n 0, 1) := by decide +kernel
theorem dX8_search_77 : decode cX8_search 77 = .ok (.getfield 47, 3) := by decide +kernel
theorem dX8_search_80 : decode cX8_search 80 = .ok (.iload 4, 2) := by decide +kernel
theorem dX8_search_82 : decode cX8_search 82 = .ok (.bipush (-10), 2) := by decide +kernel
theorem dX8_search_84 : decode cX8_search 84 = .ok (.iastore, 1) := by decide +kernel
theorem dX8_search_85 : decode cX8_search 85 = .ok (.iinc 4 1, 3) := by decide +kernel
theorem dX8_search_88 : decode cX8_search 88 = .ok (.goto (-35), 3) := by decide +kernel
theorem dX8_search_91 : decode cX8_search 91 = .ok (.iconst 1, 1) := by decide +kernel
theorem dX8_search_92 : decode cX8_search 92 = .ok (.istore 4, 2) := by decide +kernel
theorem dX8_search_94 : decode cX8_search 94 = .ok (.iconst 1, 1) := by decide +kernel
theorem dX8_search_95 : decode cX8_search 95 = .ok (.istore 5, 2) := by decide +kernel
theorem dX8_search_97 : decode cX8_search 97 = .ok (.iload 5, 2) := by decide +kernel
theorem dX8_search_99 : decode cX8_search 99 = .ok (.iload_n 1, 1) := by decide +kernel
theorem dX8_search_100 : decode cX8_search 100 = .ok (.if_icmp .gt 329, 3) := by decide +kernel
theorem dX8_search_103 : decode cX8_search 103 = .ok (.iload 4, 2) := by decide +kernel
theorem dX8_search_105 : decode cX8_search 105 = .ok (.ifCond .eq 324, 3) := by decide +kernel
theorem dX8_search_108 : decode cX8_search 108 = .ok (.iconst (-1), 1) := by decide +kernel
theorem dX8_search_109 : decode cX8_search 109 = .ok (.istore 6, 2) := by decide +kernel
theorem dX8_search_111 : decode cX8_search 111 = .ok (.iconst (-1), 1) := by decide +kernel
theorem dX8_search_112 : decode cX8_search 112 = .ok (.istore 7, 2) := by decide +kernel
theorem dX8_search_114 : decode cX8_search 114 = .ok (.iconst (-1), 1) := by decide +kernel
theorem dX8_search_115 : decode cX8_search 115 = .ok (.istore 8, 2) := by decide +kernel
theorem dX8_search_117 : decode cX8_search 117 = .ok (.iconst (-1), 1) := by decide +kernel
theorem dX8_search_118 : decode cX8_search 118 = .ok (.istore 9, 2) := by decide +kernel
theorem dX8_search_120 : decode cX8_search 120 = .ok (.iconst 0, 1) := by decide +kernel
theorem dX8_search_121 : decode cX8_search 121 = .ok (.istore 10, 2) := by decide +kernel
theorem dX8_search_123 : decode cX8_search 123 = .ok (.iload 10, 2) := by decide +kernel
theorem dX8_search_125 : decode cX8_search 125 = .ok (.aload_n 0, 1) := by decide +kernel
theorem dX8_search_126 : decode cX8_search 126 = .ok (.getfield 61, 3) := by decide +kernel
theorem dX8_search_129 : decode cX8_search 129 = .ok (.if_icmp .ge 90, 3) := by decide +kernel
theorem dX8_search_132 : decode cX8_search 132 = .ok (.iload 10, 2) := by decide +kernel
theorem dX8_search_134 : decode cX8_search 134 = .ok (.iconst 1, 1) := by decide +kernel
theorem dX8_search_135 : decode cX8_search 135 = .ok (.iadd, 1) := by decide +kernel
theorem dX8_search_136 : decode cX8_search 136 = .ok (.istore 11, 2) := by decide +kernel
theorem dX8_search_138 : decode cX8_search 138 = .ok (.iload 11, 2) := by decide +kernel
theorem dX8_search_140 : decode cX8_search 140 = .ok (.aload_n 0, 1) := by decide +kernel
theorem dX8_search_141 : decode cX8_search 141 = .ok (.getfield 61, 3) := by decide +kernel
theorem dX8_search_144 : decode cX8_search 144 = .ok (.if_icmp .ge 69, 3) := by decide +kernel
theorem dX8_search_147 : decode cX8_search 147 = .ok (.aload_n 0, 1) := by decide +kernel
theorem dX8_search_148 : decode cX8_search 148 = .ok (.iload 10, 2) := by decide +kernel
theorem dX8_search_150 : decode cX8_search 150 = .ok (.iload 11, 2) := by decide +kernel
theorem dX8_search_152 : decode cX8_search 152 = .ok (.aload_n 0, 1) := by decide +kernel
theorem dX8_search_153 : decode cX8_search 153 = .ok (.getfield 29, 3) := by decide +kernel
theorem dX8_search_156 : decode cX8_search 156 = .ok (.iload 11, 2) := by decide +kernel
theorem dX8_search_158 : decode cX8_search 158 = .ok (.iaload, 1) := by decide +kernel
theorem dX8_search_159 : decode cX8_search 159 = .ok (.iload 5, 2) := by decide +kernel
theorem dX8_search_161 : decode cX8_search 161 = .ok (.iload_n 2, 1) := by decide +kernel
theorem dX8_search_162 : decode cX8_search 162 = .ok (.invokevirtual 130, 3) := by decide +kernel
theorem dX8_search_165 : decode cX8_search 165 = .ok (.istore 12, 2) := by decide +kernel
theorem dX8_search_167 : decode cX8_search 167 = .ok (.iload 12, 2) := by decide +kernel
theorem dX8_search_169 : decode cX8_search 169 = .ok (.iconst (-1), 1) := by decide +kernel
theorem dX8_search_170 : decode cX8_search 170 = .ok (.if_icmp .eq 37, 3) := by decide +kernel
theorem dX8_search_173 : decode cX8_search 173 = .ok (.iload 6, 2) := by decide +kernel
theorem dX8_search_175 : decode cX8_search 175 = .ok (.iconst (-1), 1) := by decide +kernel
theorem dX8_search_176 : decode cX8_search 176 = .ok (.if_icmp .eq 10, 3) := by decide +kernel
theorem dX8_search_179 : decode cX8_search 179 = .ok (.iload 12, 2) := by decide +kernel
theorem dX8_search_181 : decode cX8_search 181 = .ok (.iload 6, 2) := by decide +kernel
theorem dX8_search_183 : decode cX8_search 183 = .ok (.if_icmp .ge 24, 3) := by decide +kernel
theorem dX8_search_186 : decode cX8_search 186 = .ok (.iload 12, 2) := by decide +kernel
theorem dX8_search_188 : decode cX8_search 188 = .ok (.istore 6, 2) := by decide +kernel
theorem dX8_search_190 : decode cX8_search 190 = .ok (.iload 10, 2) := by decide +kernel
theorem dX8_search_192 : decode cX8_search 192 = .ok (.istore 7, 2) := by decide +kernel
theorem dX8_search_194 : decode cX8_search 194 = .ok (.iload 11, 2) := by decide +kernel
theorem dX8_search_196 : decode cX8_search 196 = .ok (.istore 8, 2) := by decide +kernel
theorem dX8_search_198 : decode cX8_search 198 = .ok (.aload_n 0, 1) := by decide +kernel
theorem dX8_search_199 : decode cX8_search 199 = .ok (.getfield 29, 3) := by decide +kernel
theorem dX8_search_202 : decode cX8_search 202 = .ok (.iload 11, 2) := by decide +kernel
theorem dX8_search_204 : decode cX8_search 204 = .ok (.iaload, 1) := by decide +kernel
theorem dX8_search_205 : decode cX8_search 205 = .ok (.istore 9, 2) := by decide +kernel
theorem dX8_search_207 : decode cX8_search 207 = .ok (.iinc 11 1, 3) := by decide +kernel
theorem dX8_search_210 : decode cX8_search 210 = .ok (.goto (-72), 3) := by decide +kernel
theorem dX8_search_213 : decode cX8_search 213 = .ok (.iinc 10 1, 3) := by decide +kernel
theorem dX8_search_216 : decode cX8_search 216 = .ok (.goto (-93), 3) := by decide +kernel
theorem dX8_search_219 : decode cX8_search 219 = .ok (.iconst 0, 1) := by decide +kernel
theorem dX8_search_220 : decode cX8_search 220 = .ok (.istore 10, 2) := by decide +kernel
theorem dX8_search_222 : decode cX8_search 222 = .ok (.iload 10, 2) := by decide +kernel
theorem dX8_search_224 : decode cX8_search 224 = .ok (.aload_n 0, 1) := by decide +kernel
theorem dX8_search_225 : decode cX8_search 225 = .ok (.getfield 61, 3) := by decide +kernel
theorem dX8_search_228 : decode cX8_search 228 = .ok (.if_icmp .ge 75, 3) := by decide +kernel
theorem dX8_search_231 : decode cX8_search 231 = .ok (.iconst 0, 1) := by decide +kernel
theorem dX8_search_232 : decode cX8_search 232 = .ok (.istore 11, 2) := by decide +kernel
theorem dX8_search_234 : decode cX8_search 234 = .ok (.iload 11, 2) := by decide +kernel
theorem dX8_search_236 : decode cX8_search 236 = .ok (.aload_n 0, 1) := by decide +kernel
theorem dX8_search_237 : decode cX8_search 237 = .ok (.getfield 58, 3) := by decide +kernel
theorem dX8_search_240 : decode cX8_search 240 = .ok (.if_icmp .ge 57, 3) := by decide +kernel
theorem dX8_search_243 : decode cX8_search 243 = .ok (.aload_n 0, 1) := by decide +kernel
theorem dX8_search_244 : decode cX8_search 244 = .ok (.iload 10, 2) := by decide +kernel
theorem dX8_search_246 : decode cX8_search 246 = .ok (.iconst (-1), 1) := by decide +kernel
theorem dX8_search_247 : decode cX8_search 247 = .ok (.iload 11, 2) := by decide +kernel
theorem dX8_search_249 : decode cX8_search 249 = .ok (.iload 5, 2) := by decide +kernel
theorem dX8_search_251 : decode cX8_search 251 = .ok (.iload_n 2, 1) := by decide +kernel
theorem dX8_search_252 : decode cX8_search 252 = .ok (.invokevirtual 130, 3) := by decide +kernel
theorem dX8_search_255 : decode cX8_search 255 = .ok (.istore 12, 2) := by decide +kernel
theorem dX8_search_257 : decode cX8_search 257 = .ok (.iload 12, 2) := by decide +kernel
theorem dX8_search_259 : decode cX8_search 259 = .ok (.iconst (-1), 1) := by decide +kernel
theorem dX8_search_260 : decode cX8_search 260 = .ok (.if_icmp .eq 31, 3) := by decide +kernel
theorem dX8_search_263 : decode cX8_search 263 = .ok (.iload 6, 2) := by decide +kernel
theorem dX8_search_265 : decode cX8_search 265 = .ok (.iconst (-1), 1) := by decide +kernel
theorem dX8_search_266 : decode cX8_search 266 = .ok (.if_icmp .eq 10, 3) := by decide +kernel
theorem dX8_search_269 : decode cX8_search 269 = .ok (.iload 12, 2) := by decide +kernel
theorem dX8_search_271 : decode cX8_search 271 = .ok (.iload 6, 2) := by decide +kernel
theorem dX8_search_273 : decode cX8_search 273 = .ok (.if_icmp .ge 18, 3) := by decide +kernel
theorem dX8_search_276 : decode cX8_search 276 = .ok (.iload 12, 2) := by decide +kernel
theorem dX8_search_278 : decode cX8_search 278 = .ok (.istore 6, 2) := by decide +kernel
theorem dX8_search_280 : decode cX8_search 280 = .ok (.iload 10, 2) := by decide +kernel
theorem dX8_search_282 : decode cX8_search 282 = .ok (.istore 7, 2) := by decide +kernel
theorem dX8_search_284 : decode cX8_search 284 = .ok (.iconst (-1), 1) := by decide +kernel
theorem dX8_search_285 : decode cX8_search 285 = .ok (.istore 8, 2) := by decide +kernel
theorem dX8_search_287 : decode cX8_search 287 = .ok (.iload 11, 2) := by decide +kernel
theorem dX8_search_289 : decode cX8_search 289 = .ok (.istore 9, 2) := by decide +kernel
theorem dX8_search_291 : decode cX8_search 291 = .ok (.iinc 11 1, 3) := by decide +kernel
theorem dX8_search_294 : decode cX8_search 294 = .ok (.goto (-60), 3) := by decide +kernel
theorem dX8_search_297 : decode cX8_search 297 = .ok (.iinc 10 1, 3) := by decide +kernel
theorem dX8_search_300 : decode cX8_search 300 = .ok (.goto (-78), 3) := by decide +kernel
theorem dX8_search_303 : decode cX8_search 303 = .ok (.iload 6, 2) := by decide +kernel
theorem dX8_search_305 : decode cX8_search 305 = .ok (.iconst (-1), 1) := by decide +kernel
theorem dX8_search_306 : decode cX8_search 306 = .ok (.if_icmp .eq 7, 3) := by decide +kernel
theorem dX8_search_309 : decode cX8_search 309 = .ok (.iconst 1, 1) := by decide +kernel
theorem dX8_search_310 : decode cX8_search 310 = .ok (.goto 4, 3) := by decide +kernel
theorem dX8_search_313 : decode cX8_search 313 = .ok (.iconst 0, 1) := by decide +kernel
theorem dX8_search_314 : decode cX8_search 314 = .ok (.istore 4, 2) := by decide +kernel
theorem dX8_search_316 : decode cX8_search 316 = .ok (.iload 4, 2) := by decide +kernel
theorem dX8_search_318 : decode cX8_search 318 = .ok (.ifCond .eq 105, 3) := by decide +kernel
theorem dX8_search_321 : decode cX8_search 321 = .ok (.aload_n 0, 1) := by decide +kernel
theorem dX8_search_322 : decode cX8_search 322 = .ok (.getfield 29, 3) := by decide +kernel
theorem dX8_search_325 : decode cX8_search 325 = .ok (.iload 7, 2) := by decide +kernel
theorem dX8_search_327 : decode cX8_search 327 = .ok (.iaload, 1) := by decide +kernel
theorem dX8_search_328 : decode cX8_search 328 = .ok (.istore 10, 2) := by decide +kernel
theorem dX8_search_330 : decode cX8_search 330 = .ok (.aload_n 0, 1) := by decide +kernel
theorem dX8_search_331 : decode cX8_search 331 = .ok (.getfield 29, 3) := by decide +kernel
theorem dX8_search_334 : decode cX8_search 334 = .ok (.iload 7, 2) := by decide +kernel
theorem dX8_search_336 : decode cX8_search 336 = .ok (.iload 9, 2) := by decide +kernel
theorem dX8_search_338 : decode cX8_search 338 = .ok (.iastore, 1) := by decide +kernel
theorem dX8_search_339 : decode cX8_search 339 = .ok (.aload_n 0, 1) := by decide +kernel
theorem dX8_search_340 : decode cX8_search 340 = .ok (.getfield 47, 3) := by decide +kernel
theorem dX8_search_343 : decode cX8_search 343 = .ok (.iload 7, 2) := by decide +kernel
theorem dX8_search_345 : decode cX8_search 345 = .ok (.iload 5, 2) := by decide +kernel
