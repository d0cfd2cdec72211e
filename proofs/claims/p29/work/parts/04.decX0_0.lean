theorem dX0_init_0 : decode cX0_init 0 = .ok (.aload_n 0, 1) := by decide +kernel
theorem dX0_init_1 : decode cX0_init 1 = .ok (.invokespecial 3, 3) := by decide +kernel
theorem dX0_init_4 : decode cX0_init 4 = .ok (.aload_n 0, 1) := by decide +kernel
theorem dX0_init_5 : decode cX0_init 5 = .ok (.iconst 0, 1) := by decide +kernel
theorem dX0_init_6 : decode cX0_init 6 = .ok (.putfield 9, 3) := by decide +kernel
theorem dX0_init_9 : decode cX0_init 9 = .ok (.aload_n 0, 1) := by decide +kernel
theorem dX0_init_10 : decode cX0_init 10 = .ok (.iconst 0, 1) := by decide +kernel
theorem dX0_init_11 : decode cX0_init 11 = .ok (.putfield 15, 3) := by decide +kernel
theorem dX0_init_14 : decode cX0_init 14 = .ok (.aload_n 0, 1) := by decide +kernel
theorem dX0_init_15 : decode cX0_init 15 = .ok (.iconst (-1), 1) := by decide +kernel
theorem dX0_init_16 : decode cX0_init 16 = .ok (.putfield 19, 3) := by decide +kernel
theorem dX0_init_19 : decode cX0_init 19 = .ok (.aload_n 0, 1) := by decide +kernel
theorem dX0_init_20 : decode cX0_init 20 = .ok (.iconst 0, 1) := by decide +kernel
theorem dX0_init_21 : decode cX0_init 21 = .ok (.putfield 22, 3) := by decide +kernel
theorem dX0_init_24 : decode cX0_init 24 = .ok (.aload_n 0, 1) := by decide +kernel
theorem dX0_init_25 : decode cX0_init 25 = .ok (.iconst 0, 1) := by decide +kernel
theorem dX0_init_26 : decode cX0_init 26 = .ok (.putfield 25, 3) := by decide +kernel
theorem dX0_init_29 : decode cX0_init 29 = .ok (.return_, 1) := by decide +kernel
theorem dX0_keepIfLess_0 : decode cX0_keepIfLess 0 = .ok (.aload_n 0, 1) := by decide +kernel
theorem dX0_keepIfLess_1 : decode cX0_keepIfLess 1 = .ok (.getfield 9, 3) := by decide +kernel
theorem dX0_keepIfLess_4 : decode cX0_keepIfLess 4 = .ok (.ifCond .eq 13, 3) := by decide +kernel
theorem dX0_keepIfLess_7 : decode cX0_keepIfLess 7 = .ok (.iload 4, 2) := by decide +kernel
theorem dX0_keepIfLess_9 : decode cX0_keepIfLess 9 = .ok (.aload_n 0, 1) := by decide +kernel
theorem dX0_keepIfLess_10 : decode cX0_keepIfLess 10 = .ok (.getfield 25, 3) := by decide +kernel
theorem dX0_keepIfLess_13 : decode cX0_keepIfLess 13 = .ok (.if_icmp .lt 4, 3) := by decide +kernel
theorem dX0_keepIfLess_16 : decode cX0_keepIfLess 16 = .ok (.return_, 1) := by decide +kernel
theorem dX0_keepIfLess_17 : decode cX0_keepIfLess 17 = .ok (.aload_n 0, 1) := by decide +kernel
theorem dX0_keepIfLess_18 : decode cX0_keepIfLess 18 = .ok (.iconst 1, 1) := by decide +kernel
theorem dX0_keepIfLess_19 : decode cX0_keepIfLess 19 = .ok (.putfield 9, 3) := by decide +kernel
theorem dX0_keepIfLess_22 : decode cX0_keepIfLess 22 = .ok (.aload_n 0, 1) := by decide +kernel
theorem dX0_keepIfLess_23 : decode cX0_keepIfLess 23 = .ok (.iload_n 1, 1) := by decide +kernel
theorem dX0_keepIfLess_24 : decode cX0_keepIfLess 24 = .ok (.putfield 15, 3) := by decide +kernel
theorem dX0_keepIfLess_27 : decode cX0_keepIfLess 27 = .ok (.aload_n 0, 1) := by decide +kernel
theorem dX0_keepIfLess_28 : decode cX0_keepIfLess 28 = .ok (.iload_n 2, 1) := by decide +kernel
theorem dX0_keepIfLess_29 : decode cX0_keepIfLess 29 = .ok (.putfield 19, 3) := by decide +kernel
theorem dX0_keepIfLess_32 : decode cX0_keepIfLess 32 = .ok (.aload_n 0, 1) := by decide +kernel
theorem dX0_keepIfLess_33 : decode cX0_keepIfLess 33 = .ok (.iload_n 3, 1) := by decide +kernel
theorem dX0_keepIfLess_34 : decode cX0_keepIfLess 34 = .ok (.putfield 22, 3) := by decide +kernel
theorem dX0_keepIfLess_37 : decode cX0_keepIfLess 37 = .ok (.aload_n 0, 1) := by decide +kernel
theorem dX0_keepIfLess_38 : decode cX0_keepIfLess 38 = .ok (.iload 4, 2) := by decide +kernel
theorem dX0_keepIfLess_40 : decode cX0_keepIfLess 40 = .ok (.putfield 25, 3) := by decide +kernel
theorem dX0_keepIfLess_43 : decode cX0_keepIfLess 43 = .ok (.return_, 1) := by decide +kernel
