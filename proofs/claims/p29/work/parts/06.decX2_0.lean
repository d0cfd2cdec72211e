theorem dX2_init_0 : decode cX2_init 0 = .ok (.aload_n 0, 1) := by decide +kernel
theorem dX2_init_1 : decode cX2_init 1 = .ok (.invokespecial 3, 3) := by decide +kernel
theorem dX2_init_4 : decode cX2_init 4 = .ok (.aload_n 0, 1) := by decide +kernel
theorem dX2_init_5 : decode cX2_init 5 = .ok (.new 9, 3) := by decide +kernel
theorem dX2_init_8 : decode cX2_init 8 = .ok (.dup, 1) := by decide +kernel
theorem dX2_init_9 : decode cX2_init 9 = .ok (.invokespecial 11, 3) := by decide +kernel
theorem dX2_init_12 : decode cX2_init 12 = .ok (.putfield 12, 3) := by decide +kernel
theorem dX2_init_15 : decode cX2_init 15 = .ok (.aload_n 0, 1) := by decide +kernel
theorem dX2_init_16 : decode cX2_init 16 = .ok (.new 9, 3) := by decide +kernel
theorem dX2_init_19 : decode cX2_init 19 = .ok (.dup, 1) := by decide +kernel
theorem dX2_init_20 : decode cX2_init 20 = .ok (.invokespecial 11, 3) := by decide +kernel
theorem dX2_init_23 : decode cX2_init 23 = .ok (.putfield 18, 3) := by decide +kernel
theorem dX2_init_26 : decode cX2_init 26 = .ok (.aload_n 0, 1) := by decide +kernel
theorem dX2_init_27 : decode cX2_init 27 = .ok (.bipush 7, 2) := by decide +kernel
theorem dX2_init_29 : decode cX2_init 29 = .ok (.newarray .boolean, 2) := by decide +kernel
theorem dX2_init_31 : decode cX2_init 31 = .ok (.putfield 21, 3) := by decide +kernel
theorem dX2_init_34 : decode cX2_init 34 = .ok (.aload_n 0, 1) := by decide +kernel
theorem dX2_init_35 : decode cX2_init 35 = .ok (.iconst 0, 1) := by decide +kernel
theorem dX2_init_36 : decode cX2_init 36 = .ok (.putfield 25, 3) := by decide +kernel
theorem dX2_init_39 : decode cX2_init 39 = .ok (.aload_n 0, 1) := by decide +kernel
theorem dX2_init_40 : decode cX2_init 40 = .ok (.iconst (-1), 1) := by decide +kernel
theorem dX2_init_41 : decode cX2_init 41 = .ok (.putfield 29, 3) := by decide +kernel
theorem dX2_init_44 : decode cX2_init 44 = .ok (.return_, 1) := by decide +kernel
theorem dX2_findLeast_0 : decode cX2_findLeast 0 = .ok (.aload_n 0, 1) := by decide +kernel
theorem dX2_findLeast_1 : decode cX2_findLeast 1 = .ok (.iload_n 2, 1) := by decide +kernel
theorem dX2_findLeast_2 : decode cX2_findLeast 2 = .ok (.putfield 25, 3) := by decide +kernel
theorem dX2_findLeast_5 : decode cX2_findLeast 5 = .ok (.aload_n 0, 1) := by decide +kernel
theorem dX2_findLeast_6 : decode cX2_findLeast 6 = .ok (.iconst (-1), 1) := by decide +kernel
theorem dX2_findLeast_7 : decode cX2_findLeast 7 = .ok (.putfield 29, 3) := by decide +kernel
theorem dX2_findLeast_10 : decode cX2_findLeast 10 = .ok (.aload_n 0, 1) := by decide +kernel
theorem dX2_findLeast_11 : decode cX2_findLeast 11 = .ok (.aload_n 1, 1) := by decide +kernel
theorem dX2_findLeast_12 : decode cX2_findLeast 12 = .ok (.iconst 0, 1) := by decide +kernel
theorem dX2_findLeast_13 : decode cX2_findLeast 13 = .ok (.iconst 0, 1) := by decide +kernel
theorem dX2_findLeast_14 : decode cX2_findLeast 14 = .ok (.invokevirtual 33, 3) := by decide +kernel
theorem dX2_findLeast_17 : decode cX2_findLeast 17 = .ok (.aload_n 0, 1) := by decide +kernel
theorem dX2_findLeast_18 : decode cX2_findLeast 18 = .ok (.getfield 29, 3) := by decide +kernel
theorem dX2_findLeast_21 : decode cX2_findLeast 21 = .ok (.ireturn, 1) := by decide +kernel
theorem dX2_tryFrom_0 : decode cX2_tryFrom 0 = .ok (.iload_n 2, 1) := by decide +kernel
theorem dX2_tryFrom_1 : decode cX2_tryFrom 1 = .ok (.aload_n 1, 1) := by decide +kernel
theorem dX2_tryFrom_2 : decode cX2_tryFrom 2 = .ok (.getfield 37, 3) := by decide +kernel
theorem dX2_tryFrom_5 : decode cX2_tryFrom 5 = .ok (.getfield 43, 3) := by decide +kernel
theorem dX2_tryFrom_8 : decode cX2_tryFrom 8 = .ok (.if_icmp .lt 20, 3) := by decide +kernel
theorem dX2_tryFrom_11 : decode cX2_tryFrom 11 = .ok (.aload_n 0, 1) := by decide +kernel
theorem dX2_tryFrom_12 : decode cX2_tryFrom 12 = .ok (.iload_n 3, 1) := by decide +kernel
theorem dX2_tryFrom_13 : decode cX2_tryFrom 13 = .ok (.putfield 29, 3) := by decide +kernel
theorem dX2_tryFrom_16 : decode cX2_tryFrom 16 = .ok (.aload_n 0, 1) := by decide +kernel
theorem dX2_tryFrom_17 : decode cX2_tryFrom 17 = .ok (.getfield 18, 3) := by decide +kernel
theorem dX2_tryFrom_20 : decode cX2_tryFrom 20 = .ok (.aload_n 0, 1) := by decide +kernel
theorem dX2_tryFrom_21 : decode cX2_tryFrom 21 = .ok (.getfield 12, 3) := by decide +kernel
theorem dX2_tryFrom_24 : decode cX2_tryFrom 24 = .ok (.invokevirtual 48, 3) := by decide +kernel
theorem dX2_tryFrom_27 : decode cX2_tryFrom 27 = .ok (.return_, 1) := by decide +kernel
theorem dX2_tryFrom_28 : decode cX2_tryFrom 28 = .ok (.iconst 0, 1) := by decide +kernel
theorem dX2_tryFrom_29 : decode cX2_tryFrom 29 = .ok (.istore 4, 2) := by decide +kernel
theorem dX2_tryFrom_31 : decode cX2_tryFrom 31 = .ok (.iload 4, 2) := by decide +kernel
theorem dX2_tryFrom_33 : decode cX2_tryFrom 33 = .ok (.aload_n 1, 1) := by decide +kernel
theorem dX2_tryFrom_34 : decode cX2_tryFrom 34 = .ok (.getfield 52, 3) := by decide +kernel
theorem dX2_tryFrom_37 : decode cX2_tryFrom 37 = .ok (.getfield 56, 3) := by decide +kernel
theorem dX2_tryFrom_40 : decode cX2_tryFrom 40 = .ok (.if_icmp .ge 38, 3) := by decide +kernel
theorem dX2_tryFrom_43 : decode cX2_tryFrom 43 = .ok (.aload_n 0, 1) := by decide +kernel
theorem dX2_tryFrom_44 : decode cX2_tryFrom 44 = .ok (.getfield 21, 3) := by decide +kernel
theorem dX2_tryFrom_47 : decode cX2_tryFrom 47 = .ok (.iload 4, 2) := by decide +kernel
theorem dX2_tryFrom_49 : decode cX2_tryFrom 49 = .ok (.baload, 1) := by decide +kernel
theorem dX2_tryFrom_50 : decode cX2_tryFrom 50 = .ok (.ifCond .ne 22, 3) := by decide +kernel
theorem dX2_tryFrom_53 : decode cX2_tryFrom 53 = .ok (.aload_n 1, 1) := by decide +kernel
theorem dX2_tryFrom_54 : decode cX2_tryFrom 54 = .ok (.iload_n 2, 1) := by decide +kernel
theorem dX2_tryFrom_55 : decode cX2_tryFrom 55 = .ok (.iload 4, 2) := by decide +kernel
theorem dX2_tryFrom_57 : decode cX2_tryFrom 57 = .ok (.invokevirtual 61, 3) := by decide +kernel
theorem dX2_tryFrom_60 : decode cX2_tryFrom 60 = .ok (.ifCond .eq 12, 3) := by decide +kernel
theorem dX2_tryFrom_63 : decode cX2_tryFrom 63 = .ok (.aload_n 0, 1) := by decide +kernel
theorem dX2_tryFrom_64 : decode cX2_tryFrom 64 = .ok (.aload_n 1, 1) := by decide +kernel
theorem dX2_tryFrom_65 : decode cX2_tryFrom 65 = .ok (.iload_n 2, 1) := by decide +kernel
theorem dX2_tryFrom_66 : decode cX2_tryFrom 66 = .ok (.iload 4, 2) := by decide +kernel
theorem dX2_tryFrom_68 : decode cX2_tryFrom 68 = .ok (.iload_n 3, 1) := by decide +kernel
theorem dX2_tryFrom_69 : decode cX2_tryFrom 69 = .ok (.invokevirtual 65, 3) := by decide +kernel
theorem dX2_tryFrom_72 : decode cX2_tryFrom 72 = .ok (.iinc 4 1, 3) := by decide +kernel
theorem dX2_tryFrom_75 : decode cX2_tryFrom 75 = .ok (.goto (-44), 3) := by decide +kernel
theorem dX2_tryFrom_78 : decode cX2_tryFrom 78 = .ok (.return_, 1) := by decide +kernel
theorem dX2_tryAt_0 : decode cX2_tryAt 0 = .ok (.aload_n 0, 1) := by decide +kernel
theorem dX2_tryAt_1 : decode cX2_tryAt 1 = .ok (.getfield 12, 3) := by decide +kernel
theorem dX2_tryAt_4 : decode cX2_tryAt 4 = .ok (.iload_n 2, 1) := by decide +kernel
theorem dX2_tryAt_5 : decode cX2_tryAt 5 = .ok (.iload_n 3, 1) := by decide +kernel
theorem dX2_tryAt_6 : decode cX2_tryAt 6 = .ok (.invokevirtual 69, 3) := by decide +kernel
theorem dX2_tryAt_9 : decode cX2_tryAt 9 = .ok (.iload 4, 2) := by decide +kernel
theorem dX2_tryAt_11 : decode cX2_tryAt 11 = .ok (.aload_n 1, 1) := by decide +kernel
theorem dX2_tryAt_12 : decode cX2_tryAt 12 = .ok (.getfield 37, 3) := by decide +kernel
theorem dX2_tryAt_15 : decode cX2_tryAt 15 = .ok (.getfield 73, 3) := by decide +kernel
theorem dX2_tryAt_18 : decode cX2_tryAt 18 = .ok (.iload_n 2, 1) := by decide +kernel
theorem dX2_tryAt_19 : decode cX2_tryAt 19 = .ok (.aaload, 1) := by decide +kernel
theorem dX2_tryAt_20 : decode cX2_tryAt 20 = .ok (.iload_n 3, 1) := by decide +kernel
theorem dX2_tryAt_21 : decode cX2_tryAt 21 = .ok (.iaload, 1) := by decide +kernel
theorem dX2_tryAt_22 : decode cX2_tryAt 22 = .ok (.iadd, 1) := by decide +kernel
theorem dX2_tryAt_23 : decode cX2_tryAt 23 = .ok (.istore 5, 2) := by decide +kernel
theorem dX2_tryAt_25 : decode cX2_tryAt 25 = .ok (.aload_n 0, 1) := by decide +kernel
theorem dX2_tryAt_26 : decode cX2_tryAt 26 = .ok (.getfield 25, 3) := by decide +kernel
theorem dX2_tryAt_29 : decode cX2_tryAt 29 = .ok (.ifCond .eq 17, 3) := by decide +kernel
theorem dX2_tryAt_32 : decode cX2_tryAt 32 = .ok (.iload 5, 2) := by decide +kernel
theorem dX2_tryAt_34 : decode cX2_tryAt 34 = .ok (.aload_n 1, 1) := by decide +kernel
theorem dX2_tryAt_35 : decode cX2_tryAt 35 = .ok (.aload_n 0, 1) := by decide +kernel
theorem dX2_tryAt_36 : decode cX2_tryAt 36 = .ok (.getfield 12, 3) := by decide +kernel
theorem dX2_tryAt_39 : decode cX2_tryAt 39 = .ok (.iload_n 2, 1) := by decide +kernel
theorem dX2_tryAt_40 : decode cX2_tryAt 40 = .ok (.invokevirtual 77, 3) := by decide +kernel
theorem dX2_tryAt_43 : decode cX2_tryAt 43 = .ok (.iadd, 1) := by decide +kernel
theorem dX2_tryAt_44 : decode cX2_tryAt 44 = .ok (.istore 5, 2) := by decide +kernel
theorem dX2_tryAt_46 : decode cX2_tryAt 46 = .ok (.aload_n 0, 1) := by decide +kernel
theorem dX2_tryAt_47 : decode cX2_tryAt 47 = .ok (.getfield 29, 3) := by decide +kernel
theorem dX2_tryAt_50 : decode cX2_tryAt 50 = .ok (.iconst (-1), 1) := by decide +kernel
theorem dX2_tryAt_51 : decode cX2_tryAt 51 = .ok (.if_icmp .eq 13, 3) := by decide +kernel
theorem dX2_tryAt_54 : decode cX2_tryAt 54 = .ok (.iload 5, 2) := by decide +kernel
theorem dX2_tryAt_56 : decode cX2_tryAt 56 = .ok (.aload_n 0, 1) := by decide +kernel
theorem dX2_tryAt_57 : decode cX2_tryAt 57 = .ok (.getfield 29, 3) := by decide +kernel
theorem dX2_tryAt_60 : decode cX2_tryAt 60 = .ok (.if_icmp .lt 4, 3) := by decide +kernel
theorem dX2_tryAt_63 : decode cX2_tryAt 63 = .ok (.return_, 1) := by decide +kernel
theorem dX2_tryAt_64 : decode cX2_tryAt 64 = .ok (.aload_n 0, 1) := by decide +kernel
theorem dX2_tryAt_65 : decode cX2_tryAt 65 = .ok (.getfield 21, 3) := by decide +kernel
theorem dX2_tryAt_68 : decode cX2_tryAt 68 = .ok (.iload_n 3, 1) := by decide +kernel
theorem dX2_tryAt_69 : decode cX2_tryAt 69 = .ok (.iconst 1, 1) := by decide +kernel
theorem dX2_tryAt_70 : decode cX2_tryAt 70 = .ok (.bastore, 1) := by decide +kernel
theorem dX2_tryAt_71 : decode cX2_tryAt 71 = .ok (.aload_n 0, 1) := by decide +kernel
theorem dX2_tryAt_72 : decode cX2_tryAt 72 = .ok (.aload_n 1, 1) := by decide +kernel
theorem dX2_tryAt_73 : decode cX2_tryAt 73 = .ok (.iload_n 2, 1) := by decide +kernel
theorem dX2_tryAt_74 : decode cX2_tryAt 74 = .ok (.iconst 1, 1) := by decide +kernel
theorem dX2_tryAt_75 : decode cX2_tryAt 75 = .ok (.iadd, 1) := by decide +kernel
theorem dX2_tryAt_76 : decode cX2_tryAt 76 = .ok (.iload 5, 2) := by decide +kernel
theorem dX2_tryAt_78 : decode cX2_tryAt 78 = .ok (.invokevirtual 33, 3) := by decide +kernel
theorem dX2_tryAt_81 : decode cX2_tryAt 81 = .ok (.aload_n 0, 1) := by decide +kernel
theorem dX2_tryAt_82 : decode cX2_tryAt 82 = .ok (.getfield 21, 3) := by decide +kernel
theorem dX2_tryAt_85 : decode cX2_tryAt 85 = .ok (.iload_n 3, 1) := by decide +kernel
theorem dX2_tryAt_86 : decode cX2_tryAt 86 = .ok (.iconst 0, 1) := by decide +kernel
theorem dX2_tryAt_87 : decode cX2_tryAt 87 = .ok (.bastore, 1) := by decide +kernel
theorem dX2_tryAt_88 : decode cX2_tryAt 88 = .ok (.return_, 1) := by decide +kernel
