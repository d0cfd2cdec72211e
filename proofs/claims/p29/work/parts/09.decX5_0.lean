theorem dX5_init_0 : decode cX5_init 0 = .ok (.aload_n 0, 1) := by decide +kernel
theorem dX5_init_1 : decode cX5_init 1 = .ok (.invokespecial 3, 3) := by decide +kernel
theorem dX5_init_4 : decode cX5_init 4 = .ok (.aload_n 0, 1) := by decide +kernel
theorem dX5_init_5 : decode cX5_init 5 = .ok (.bipush 7, 2) := by decide +kernel
theorem dX5_init_7 : decode cX5_init 7 = .ok (.iconst 5, 1) := by decide +kernel
theorem dX5_init_8 : decode cX5_init 8 = .ok (.multianewarray 9 2, 4) := by decide +kernel
theorem dX5_init_12 : decode cX5_init 12 = .ok (.putfield 11, 3) := by decide +kernel
theorem dX5_init_15 : decode cX5_init 15 = .ok (.aload_n 0, 1) := by decide +kernel
theorem dX5_init_16 : decode cX5_init 16 = .ok (.bipush 7, 2) := by decide +kernel
theorem dX5_init_18 : decode cX5_init 18 = .ok (.newarray .int, 2) := by decide +kernel
theorem dX5_init_20 : decode cX5_init 20 = .ok (.putfield 16, 3) := by decide +kernel
theorem dX5_init_23 : decode cX5_init 23 = .ok (.aload_n 0, 1) := by decide +kernel
theorem dX5_init_24 : decode cX5_init 24 = .ok (.bipush 7, 2) := by decide +kernel
theorem dX5_init_26 : decode cX5_init 26 = .ok (.bipush 7, 2) := by decide +kernel
theorem dX5_init_28 : decode cX5_init 28 = .ok (.multianewarray 9 2, 4) := by decide +kernel
theorem dX5_init_32 : decode cX5_init 32 = .ok (.putfield 20, 3) := by decide +kernel
theorem dX5_init_35 : decode cX5_init 35 = .ok (.aload_n 0, 1) := by decide +kernel
theorem dX5_init_36 : decode cX5_init 36 = .ok (.bipush 7, 2) := by decide +kernel
theorem dX5_init_38 : decode cX5_init 38 = .ok (.bipush 7, 2) := by decide +kernel
theorem dX5_init_40 : decode cX5_init 40 = .ok (.multianewarray 9 2, 4) := by decide +kernel
theorem dX5_init_44 : decode cX5_init 44 = .ok (.putfield 23, 3) := by decide +kernel
theorem dX5_init_47 : decode cX5_init 47 = .ok (.aload_n 0, 1) := by decide +kernel
theorem dX5_init_48 : decode cX5_init 48 = .ok (.iconst 0, 1) := by decide +kernel
theorem dX5_init_49 : decode cX5_init 49 = .ok (.putfield 26, 3) := by decide +kernel
theorem dX5_init_52 : decode cX5_init 52 = .ok (.return_, 1) := by decide +kernel
theorem dX5_enter_0 : decode cX5_enter 0 = .ok (.aload_n 0, 1) := by decide +kernel
theorem dX5_enter_1 : decode cX5_enter 1 = .ok (.getfield 26, 3) := by decide +kernel
theorem dX5_enter_4 : decode cX5_enter 4 = .ok (.istore_n 1, 1) := by decide +kernel
theorem dX5_enter_5 : decode cX5_enter 5 = .ok (.aload_n 0, 1) := by decide +kernel
theorem dX5_enter_6 : decode cX5_enter 6 = .ok (.getfield 11, 3) := by decide +kernel
theorem dX5_enter_9 : decode cX5_enter 9 = .ok (.iload_n 1, 1) := by decide +kernel
theorem dX5_enter_10 : decode cX5_enter 10 = .ok (.aaload, 1) := by decide +kernel
theorem dX5_enter_11 : decode cX5_enter 11 = .ok (.iconst 1, 1) := by decide +kernel
theorem dX5_enter_12 : decode cX5_enter 12 = .ok (.invokestatic 30, 3) := by decide +kernel
theorem dX5_enter_15 : decode cX5_enter 15 = .ok (.aload_n 0, 1) := by decide +kernel
theorem dX5_enter_16 : decode cX5_enter 16 = .ok (.getfield 16, 3) := by decide +kernel
theorem dX5_enter_19 : decode cX5_enter 19 = .ok (.iload_n 1, 1) := by decide +kernel
theorem dX5_enter_20 : decode cX5_enter 20 = .ok (.iconst 1, 1) := by decide +kernel
theorem dX5_enter_21 : decode cX5_enter 21 = .ok (.iastore, 1) := by decide +kernel
theorem dX5_enter_22 : decode cX5_enter 22 = .ok (.aload_n 0, 1) := by decide +kernel
theorem dX5_enter_23 : decode cX5_enter 23 = .ok (.dup, 1) := by decide +kernel
theorem dX5_enter_24 : decode cX5_enter 24 = .ok (.getfield 26, 3) := by decide +kernel
theorem dX5_enter_27 : decode cX5_enter 27 = .ok (.iconst 1, 1) := by decide +kernel
theorem dX5_enter_28 : decode cX5_enter 28 = .ok (.iadd, 1) := by decide +kernel
theorem dX5_enter_29 : decode cX5_enter 29 = .ok (.putfield 26, 3) := by decide +kernel
theorem dX5_enter_32 : decode cX5_enter 32 = .ok (.iload_n 1, 1) := by decide +kernel
theorem dX5_enter_33 : decode cX5_enter 33 = .ok (.ireturn, 1) := by decide +kernel
theorem dX5_needWith_0 : decode cX5_needWith 0 = .ok (.iload_n 3, 1) := by decide +kernel
theorem dX5_needWith_1 : decode cX5_needWith 1 = .ok (.istore 4, 2) := by decide +kernel
theorem dX5_needWith_3 : decode cX5_needWith 3 = .ok (.iconst 0, 1) := by decide +kernel
theorem dX5_needWith_4 : decode cX5_needWith 4 = .ok (.istore 5, 2) := by decide +kernel
theorem dX5_needWith_6 : decode cX5_needWith 6 = .ok (.iload 5, 2) := by decide +kernel
theorem dX5_needWith_8 : decode cX5_needWith 8 = .ok (.iconst 5, 1) := by decide +kernel
theorem dX5_needWith_9 : decode cX5_needWith 9 = .ok (.if_icmp .ge 31, 3) := by decide +kernel
theorem dX5_needWith_12 : decode cX5_needWith 12 = .ok (.iload 5, 2) := by decide +kernel
theorem dX5_needWith_14 : decode cX5_needWith 14 = .ok (.iload_n 2, 1) := by decide +kernel
theorem dX5_needWith_15 : decode cX5_needWith 15 = .ok (.if_icmp .eq 19, 3) := by decide +kernel
theorem dX5_needWith_18 : decode cX5_needWith 18 = .ok (.iload 4, 2) := by decide +kernel
theorem dX5_needWith_20 : decode cX5_needWith 20 = .ok (.aload_n 0, 1) := by decide +kernel
theorem dX5_needWith_21 : decode cX5_needWith 21 = .ok (.getfield 11, 3) := by decide +kernel
theorem dX5_needWith_24 : decode cX5_needWith 24 = .ok (.iload_n 1, 1) := by decide +kernel
theorem dX5_needWith_25 : decode cX5_needWith 25 = .ok (.aaload, 1) := by decide +kernel
theorem dX5_needWith_26 : decode cX5_needWith 26 = .ok (.iload 5, 2) := by decide +kernel
theorem dX5_needWith_28 : decode cX5_needWith 28 = .ok (.iaload, 1) := by decide +kernel
theorem dX5_needWith_29 : decode cX5_needWith 29 = .ok (.invokestatic 36, 3) := by decide +kernel
theorem dX5_needWith_32 : decode cX5_needWith 32 = .ok (.istore 4, 2) := by decide +kernel
theorem dX5_needWith_34 : decode cX5_needWith 34 = .ok (.iinc 5 1, 3) := by decide +kernel
theorem dX5_needWith_37 : decode cX5_needWith 37 = .ok (.goto (-31), 3) := by decide +kernel
theorem dX5_needWith_40 : decode cX5_needWith 40 = .ok (.iload 4, 2) := by decide +kernel
theorem dX5_needWith_42 : decode cX5_needWith 42 = .ok (.ireturn, 1) := by decide +kernel
theorem dX5_changePresent_0 : decode cX5_changePresent 0 = .ok (.aload_n 0, 1) := by decide +kernel
theorem dX5_changePresent_1 : decode cX5_changePresent 1 = .ok (.getfield 11, 3) := by decide +kernel
theorem dX5_changePresent_4 : decode cX5_changePresent 4 = .ok (.iload_n 1, 1) := by decide +kernel
theorem dX5_changePresent_5 : decode cX5_changePresent 5 = .ok (.aaload, 1) := by decide +kernel
theorem dX5_changePresent_6 : decode cX5_changePresent 6 = .ok (.iload_n 2, 1) := by decide +kernel
theorem dX5_changePresent_7 : decode cX5_changePresent 7 = .ok (.iaload, 1) := by decide +kernel
theorem dX5_changePresent_8 : decode cX5_changePresent 8 = .ok (.istore 4, 2) := by decide +kernel
theorem dX5_changePresent_10 : decode cX5_changePresent 10 = .ok (.aload_n 0, 1) := by decide +kernel
theorem dX5_changePresent_11 : decode cX5_changePresent 11 = .ok (.getfield 16, 3) := by decide +kernel
theorem dX5_changePresent_14 : decode cX5_changePresent 14 = .ok (.iload_n 1, 1) := by decide +kernel
theorem dX5_changePresent_15 : decode cX5_changePresent 15 = .ok (.aload_n 0, 1) := by decide +kernel
theorem dX5_changePresent_16 : decode cX5_changePresent 16 = .ok (.iload_n 1, 1) := by decide +kernel
theorem dX5_changePresent_17 : decode cX5_changePresent 17 = .ok (.iload_n 2, 1) := by decide +kernel
theorem dX5_changePresent_18 : decode cX5_changePresent 18 = .ok (.iload_n 3, 1) := by decide +kernel
theorem dX5_changePresent_19 : decode cX5_changePresent 19 = .ok (.invokevirtual 42, 3) := by decide +kernel
theorem dX5_changePresent_22 : decode cX5_changePresent 22 = .ok (.iastore, 1) := by decide +kernel
theorem dX5_changePresent_23 : decode cX5_changePresent 23 = .ok (.aload_n 0, 1) := by decide +kernel
theorem dX5_changePresent_24 : decode cX5_changePresent 24 = .ok (.getfield 11, 3) := by decide +kernel
theorem dX5_changePresent_27 : decode cX5_changePresent 27 = .ok (.iload_n 1, 1) := by decide +kernel
theorem dX5_changePresent_28 : decode cX5_changePresent 28 = .ok (.aaload, 1) := by decide +kernel
theorem dX5_changePresent_29 : decode cX5_changePresent 29 = .ok (.iload_n 2, 1) := by decide +kernel
theorem dX5_changePresent_30 : decode cX5_changePresent 30 = .ok (.iload_n 3, 1) := by decide +kernel
theorem dX5_changePresent_31 : decode cX5_changePresent 31 = .ok (.iastore, 1) := by decide +kernel
theorem dX5_changePresent_32 : decode cX5_changePresent 32 = .ok (.iload 4, 2) := by decide +kernel
theorem dX5_changePresent_34 : decode cX5_changePresent 34 = .ok (.ireturn, 1) := by decide +kernel
theorem dX5_changeTie_0 : decode cX5_changeTie 0 = .ok (.aload_n 0, 1) := by decide +kernel
theorem dX5_changeTie_1 : decode cX5_changeTie 1 = .ok (.getfield 23, 3) := by decide +kernel
theorem dX5_changeTie_4 : decode cX5_changeTie 4 = .ok (.iload_n 1, 1) := by decide +kernel
theorem dX5_changeTie_5 : decode cX5_changeTie 5 = .ok (.aaload, 1) := by decide +kernel
theorem dX5_changeTie_6 : decode cX5_changeTie 6 = .ok (.iload_n 2, 1) := by decide +kernel
theorem dX5_changeTie_7 : decode cX5_changeTie 7 = .ok (.iaload, 1) := by decide +kernel
theorem dX5_changeTie_8 : decode cX5_changeTie 8 = .ok (.istore 4, 2) := by decide +kernel
theorem dX5_changeTie_10 : decode cX5_changeTie 10 = .ok (.aload_n 0, 1) := by decide +kernel
theorem dX5_changeTie_11 : decode cX5_changeTie 11 = .ok (.getfield 23, 3) := by decide +kernel
theorem dX5_changeTie_14 : decode cX5_changeTie 14 = .ok (.iload_n 1, 1) := by decide +kernel
theorem dX5_changeTie_15 : decode cX5_changeTie 15 = .ok (.aaload, 1) := by decide +kernel
theorem dX5_changeTie_16 : decode cX5_changeTie 16 = .ok (.iload_n 2, 1) := by decide +kernel
theorem dX5_changeTie_17 : decode cX5_changeTie 17 = .ok (.iload_n 3, 1) := by decide +kernel
theorem dX5_changeTie_18 : decode cX5_changeTie 18 = .ok (.iastore, 1) := by decide +kernel
theorem dX5_changeTie_19 : decode cX5_changeTie 19 = .ok (.aload_n 0, 1) := by decide +kernel
theorem dX5_changeTie_20 : decode cX5_changeTie 20 = .ok (.getfield 23, 3) := by decide +kernel
theorem dX5_changeTie_23 : decode cX5_changeTie 23 = .ok (.iload_n 2, 1) := by decide +kernel
theorem dX5_changeTie_24 : decode cX5_changeTie 24 = .ok (.aaload, 1) := by decide +kernel
theorem dX5_changeTie_25 : decode cX5_changeTie 25 = .ok (.iload_n 1, 1) := by decide +kernel
theorem dX5_changeTie_26 : decode cX5_changeTie 26 = .ok (.iload_n 3, 1) := by decide +kernel
theorem dX5_changeTie_27 : decode cX5_changeTie 27 = .ok (.iastore, 1) := by decide +kernel
theorem dX5_changeTie_28 : decode cX5_changeTie 28 = .ok (.iload 4, 2) := by decide +kernel
theorem dX5_changeTie_30 : decode cX5_changeTie 30 = .ok (.ireturn, 1) := by decide +kernel
theorem dX5_shareOf_0 : decode cX5_shareOf 0 = .ok (.aload_n 0, 1) := by decide +kernel
theorem dX5_shareOf_1 : decode cX5_shareOf 1 = .ok (.getfield 16, 3) := by decide +kernel
theorem dX5_shareOf_4 : decode cX5_shareOf 4 = .ok (.iload_n 1, 1) := by decide +kernel
theorem dX5_shareOf_5 : decode cX5_shareOf 5 = .ok (.iaload, 1) := by decide +kernel
theorem dX5_shareOf_6 : decode cX5_shareOf 6 = .ok (.istore_n 2, 1) := by decide +kernel
theorem dX5_shareOf_7 : decode cX5_shareOf 7 = .ok (.iload_n 2, 1) := by decide +kernel
theorem dX5_shareOf_8 : decode cX5_shareOf 8 = .ok (.ifCond .gt 6, 3) := by decide +kernel
theorem dX5_shareOf_11 : decode cX5_shareOf 11 = .ok (.bipush 100, 2) := by decide +kernel
theorem dX5_shareOf_13 : decode cX5_shareOf 13 = .ok (.ireturn, 1) := by decide +kernel
theorem dX5_shareOf_14 : decode cX5_shareOf 14 = .ok (.iconst 0, 1) := by decide +kernel
theorem dX5_shareOf_15 : decode cX5_shareOf 15 = .ok (.istore_n 3, 1) := by decide +kernel
theorem dX5_shareOf_16 : decode cX5_shareOf 16 = .ok (.iconst 0, 1) := by decide +kernel
theorem dX5_shareOf_17 : decode cX5_shareOf 17 = .ok (.istore 4, 2) := by decide +kernel
theorem dX5_shareOf_19 : decode cX5_shareOf 19 = .ok (.iload 4, 2) := by decide +kernel
theorem dX5_shareOf_21 : decode cX5_shareOf 21 = .ok (.iconst 5, 1) := by decide +kernel
theorem dX5_shareOf_22 : decode cX5_shareOf 22 = .ok (.if_icmp .ge 21, 3) := by decide +kernel
theorem dX5_shareOf_25 : decode cX5_shareOf 25 = .ok (.iload_n 3, 1) := by decide +kernel
theorem dX5_shareOf_26 : decode cX5_shareOf 26 = .ok (.aload_n 0, 1) := by decide +kernel
theorem dX5_shareOf_27 : decode cX5_shareOf 27 = .ok (.getfield 11, 3) := by decide +kernel
theorem dX5_shareOf_30 : decode cX5_shareOf 30 = .ok (.iload_n 1, 1) := by decide +kernel
theorem dX5_shareOf_31 : decode cX5_shareOf 31 = .ok (.aaload, 1) := by decide +kernel
theorem dX5_shareOf_32 : decode cX5_shareOf 32 = .ok (.iload 4, 2) := by decide +kernel
theorem dX5_shareOf_34 : decode cX5_shareOf 34 = .ok (.iaload, 1) := by decide +kernel
theorem dX5_shareOf_35 : decode cX5_shareOf 35 = .ok (.iadd, 1) := by decide +kernel
theorem dX5_shareOf_36 : decode cX5_shareOf 36 = .ok (.istore_n 3, 1) := by decide +kernel
theorem dX5_shareOf_37 : decode cX5_shareOf 37 = .ok (.iinc 4 1, 3) := by decide +kernel
theorem dX5_shareOf_40 : decode cX5_shareOf 40 = .ok (.goto (-21), 3) := by decide +kernel
theorem dX5_shareOf_43 : decode cX5_shareOf 43 = .ok (.iload_n 3, 1) := by decide +kernel
theorem dX5_shareOf_44 : decode cX5_shareOf 44 = .ok (.bipush 100, 2) := by decide +kernel
theorem dX5_shareOf_46 : decode cX5_shareOf 46 = .ok (.imul, 1) := by decide +kernel
theorem dX5_shareOf_47 : decode cX5_shareOf 47 = .ok (.iconst 5, 1) := by decide +kernel
theorem dX5_shareOf_48 : decode cX5_shareOf 48 = .ok (.iload_n 2, 1) := by decide +kernel
theorem dX5_shareOf_49 : decode cX5_shareOf 49 = .ok (.imul, 1) := by decide +kernel
theorem dX5_shareOf_50 : decode cX5_shareOf 50 = .ok (.idiv, 1) := by decide +kernel
theorem dX5_shareOf_51 : decode cX5_shareOf 51 = .ok (.ireturn, 1) := by decide +kernel
