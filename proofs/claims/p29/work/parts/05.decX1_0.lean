theorem dX1_init_0 : decode cX1_init 0 = .ok (.aload_n 0, 1) := by decide +kernel
theorem dX1_init_1 : decode cX1_init 1 = .ok (.invokespecial 3, 3) := by decide +kernel
theorem dX1_init_4 : decode cX1_init 4 = .ok (.aload_n 0, 1) := by decide +kernel
theorem dX1_init_5 : decode cX1_init 5 = .ok (.bipush 64, 2) := by decide +kernel
theorem dX1_init_7 : decode cX1_init 7 = .ok (.newarray .boolean, 2) := by decide +kernel
theorem dX1_init_9 : decode cX1_init 9 = .ok (.putfield 9, 3) := by decide +kernel
theorem dX1_init_12 : decode cX1_init 12 = .ok (.aload_n 0, 1) := by decide +kernel
theorem dX1_init_13 : decode cX1_init 13 = .ok (.bipush 7, 2) := by decide +kernel
theorem dX1_init_15 : decode cX1_init 15 = .ok (.newarray .int, 2) := by decide +kernel
theorem dX1_init_17 : decode cX1_init 17 = .ok (.putfield 15, 3) := by decide +kernel
theorem dX1_init_20 : decode cX1_init 20 = .ok (.aload_n 0, 1) := by decide +kernel
theorem dX1_init_21 : decode cX1_init 21 = .ok (.bipush 7, 2) := by decide +kernel
theorem dX1_init_23 : decode cX1_init 23 = .ok (.newarray .int, 2) := by decide +kernel
theorem dX1_init_25 : decode cX1_init 25 = .ok (.putfield 19, 3) := by decide +kernel
theorem dX1_init_28 : decode cX1_init 28 = .ok (.aload_n 0, 1) := by decide +kernel
theorem dX1_init_29 : decode cX1_init 29 = .ok (.bipush 7, 2) := by decide +kernel
theorem dX1_init_31 : decode cX1_init 31 = .ok (.bipush 7, 2) := by decide +kernel
theorem dX1_init_33 : decode cX1_init 33 = .ok (.multianewarray 22 2, 4) := by decide +kernel
theorem dX1_init_37 : decode cX1_init 37 = .ok (.putfield 24, 3) := by decide +kernel
theorem dX1_init_40 : decode cX1_init 40 = .ok (.aload_n 0, 1) := by decide +kernel
theorem dX1_init_41 : decode cX1_init 41 = .ok (.bipush 64, 2) := by decide +kernel
theorem dX1_init_43 : decode cX1_init 43 = .ok (.newarray .int, 2) := by decide +kernel
theorem dX1_init_45 : decode cX1_init 45 = .ok (.putfield 27, 3) := by decide +kernel
theorem dX1_init_48 : decode cX1_init 48 = .ok (.aload_n 0, 1) := by decide +kernel
theorem dX1_init_49 : decode cX1_init 49 = .ok (.bipush 64, 2) := by decide +kernel
theorem dX1_init_51 : decode cX1_init 51 = .ok (.newarray .int, 2) := by decide +kernel
theorem dX1_init_53 : decode cX1_init 53 = .ok (.putfield 30, 3) := by decide +kernel
theorem dX1_init_56 : decode cX1_init 56 = .ok (.aload_n 0, 1) := by decide +kernel
theorem dX1_init_57 : decode cX1_init 57 = .ok (.iconst 0, 1) := by decide +kernel
theorem dX1_init_58 : decode cX1_init 58 = .ok (.putfield 33, 3) := by decide +kernel
theorem dX1_init_61 : decode cX1_init 61 = .ok (.aload_n 0, 1) := by decide +kernel
theorem dX1_init_62 : decode cX1_init 62 = .ok (.iconst 0, 1) := by decide +kernel
theorem dX1_init_63 : decode cX1_init 63 = .ok (.putfield 37, 3) := by decide +kernel
theorem dX1_init_66 : decode cX1_init 66 = .ok (.return_, 1) := by decide +kernel
theorem dX1_isSquare_0 : decode cX1_isSquare 0 = .ok (.iload_n 0, 1) := by decide +kernel
theorem dX1_isSquare_1 : decode cX1_isSquare 1 = .ok (.ifCond .lt 23, 3) := by decide +kernel
theorem dX1_isSquare_4 : decode cX1_isSquare 4 = .ok (.iload_n 0, 1) := by decide +kernel
theorem dX1_isSquare_5 : decode cX1_isSquare 5 = .ok (.bipush 8, 2) := by decide +kernel
theorem dX1_isSquare_7 : decode cX1_isSquare 7 = .ok (.if_icmp .ge 17, 3) := by decide +kernel
theorem dX1_isSquare_10 : decode cX1_isSquare 10 = .ok (.iload_n 1, 1) := by decide +kernel
theorem dX1_isSquare_11 : decode cX1_isSquare 11 = .ok (.ifCond .lt 13, 3) := by decide +kernel
theorem dX1_isSquare_14 : decode cX1_isSquare 14 = .ok (.iload_n 1, 1) := by decide +kernel
theorem dX1_isSquare_15 : decode cX1_isSquare 15 = .ok (.bipush 8, 2) := by decide +kernel
theorem dX1_isSquare_17 : decode cX1_isSquare 17 = .ok (.if_icmp .ge 7, 3) := by decide +kernel
theorem dX1_isSquare_20 : decode cX1_isSquare 20 = .ok (.iconst 1, 1) := by decide +kernel
theorem dX1_isSquare_21 : decode cX1_isSquare 21 = .ok (.goto 4, 3) := by decide +kernel
theorem dX1_isSquare_24 : decode cX1_isSquare 24 = .ok (.iconst 0, 1) := by decide +kernel
theorem dX1_isSquare_25 : decode cX1_isSquare 25 = .ok (.ireturn, 1) := by decide +kernel
theorem dX1_squareAt_0 : decode cX1_squareAt 0 = .ok (.iload_n 1, 1) := by decide +kernel
theorem dX1_squareAt_1 : decode cX1_squareAt 1 = .ok (.bipush 8, 2) := by decide +kernel
theorem dX1_squareAt_3 : decode cX1_squareAt 3 = .ok (.imul, 1) := by decide +kernel
theorem dX1_squareAt_4 : decode cX1_squareAt 4 = .ok (.iload_n 0, 1) := by decide +kernel
theorem dX1_squareAt_5 : decode cX1_squareAt 5 = .ok (.iadd, 1) := by decide +kernel
theorem dX1_squareAt_6 : decode cX1_squareAt 6 = .ok (.ireturn, 1) := by decide +kernel
theorem dX1_hasWall_0 : decode cX1_hasWall 0 = .ok (.aload_n 0, 1) := by decide +kernel
theorem dX1_hasWall_1 : decode cX1_hasWall 1 = .ok (.getfield 9, 3) := by decide +kernel
theorem dX1_hasWall_4 : decode cX1_hasWall 4 = .ok (.iload_n 1, 1) := by decide +kernel
theorem dX1_hasWall_5 : decode cX1_hasWall 5 = .ok (.iload_n 2, 1) := by decide +kernel
theorem dX1_hasWall_6 : decode cX1_hasWall 6 = .ok (.invokestatic 40, 3) := by decide +kernel
theorem dX1_hasWall_9 : decode cX1_hasWall 9 = .ok (.baload, 1) := by decide +kernel
theorem dX1_hasWall_10 : decode cX1_hasWall 10 = .ok (.ireturn, 1) := by decide +kernel
theorem dX1_hasZone_0 : decode cX1_hasZone 0 = .ok (.iload_n 1, 1) := by decide +kernel
theorem dX1_hasZone_1 : decode cX1_hasZone 1 = .ok (.iload_n 2, 1) := by decide +kernel
theorem dX1_hasZone_2 : decode cX1_hasZone 2 = .ok (.invokestatic 40, 3) := by decide +kernel
theorem dX1_hasZone_5 : decode cX1_hasZone 5 = .ok (.istore_n 3, 1) := by decide +kernel
theorem dX1_hasZone_6 : decode cX1_hasZone 6 = .ok (.iconst 0, 1) := by decide +kernel
theorem dX1_hasZone_7 : decode cX1_hasZone 7 = .ok (.istore 4, 2) := by decide +kernel
theorem dX1_hasZone_9 : decode cX1_hasZone 9 = .ok (.iload 4, 2) := by decide +kernel
theorem dX1_hasZone_11 : decode cX1_hasZone 11 = .ok (.aload_n 0, 1) := by decide +kernel
theorem dX1_hasZone_12 : decode cX1_hasZone 12 = .ok (.getfield 37, 3) := by decide +kernel
theorem dX1_hasZone_15 : decode cX1_hasZone 15 = .ok (.if_icmp .ge 22, 3) := by decide +kernel
theorem dX1_hasZone_18 : decode cX1_hasZone 18 = .ok (.aload_n 0, 1) := by decide +kernel
theorem dX1_hasZone_19 : decode cX1_hasZone 19 = .ok (.getfield 15, 3) := by decide +kernel
theorem dX1_hasZone_22 : decode cX1_hasZone 22 = .ok (.iload 4, 2) := by decide +kernel
theorem dX1_hasZone_24 : decode cX1_hasZone 24 = .ok (.iaload, 1) := by decide +kernel
theorem dX1_hasZone_25 : decode cX1_hasZone 25 = .ok (.iload_n 3, 1) := by decide +kernel
theorem dX1_hasZone_26 : decode cX1_hasZone 26 = .ok (.if_icmp .ne 5, 3) := by decide +kernel
theorem dX1_hasZone_29 : decode cX1_hasZone 29 = .ok (.iconst 1, 1) := by decide +kernel
theorem dX1_hasZone_30 : decode cX1_hasZone 30 = .ok (.ireturn, 1) := by decide +kernel
theorem dX1_hasZone_31 : decode cX1_hasZone 31 = .ok (.iinc 4 1, 3) := by decide +kernel
theorem dX1_hasZone_34 : decode cX1_hasZone 34 = .ok (.goto (-25), 3) := by decide +kernel
theorem dX1_hasZone_37 : decode cX1_hasZone 37 = .ok (.iconst 0, 1) := by decide +kernel
theorem dX1_hasZone_38 : decode cX1_hasZone 38 = .ok (.ireturn, 1) := by decide +kernel
theorem dX1_buildWall_0 : decode cX1_buildWall 0 = .ok (.iload_n 1, 1) := by decide +kernel
theorem dX1_buildWall_1 : decode cX1_buildWall 1 = .ok (.iload_n 2, 1) := by decide +kernel
theorem dX1_buildWall_2 : decode cX1_buildWall 2 = .ok (.invokestatic 40, 3) := by decide +kernel
theorem dX1_buildWall_5 : decode cX1_buildWall 5 = .ok (.istore 4, 2) := by decide +kernel
theorem dX1_buildWall_7 : decode cX1_buildWall 7 = .ok (.aload_n 0, 1) := by decide +kernel
theorem dX1_buildWall_8 : decode cX1_buildWall 8 = .ok (.getfield 9, 3) := by decide +kernel
theorem dX1_buildWall_11 : decode cX1_buildWall 11 = .ok (.iload 4, 2) := by decide +kernel
theorem dX1_buildWall_13 : decode cX1_buildWall 13 = .ok (.baload, 1) := by decide +kernel
theorem dX1_buildWall_14 : decode cX1_buildWall 14 = .ok (.istore 5, 2) := by decide +kernel
theorem dX1_buildWall_16 : decode cX1_buildWall 16 = .ok (.iload 5, 2) := by decide +kernel
theorem dX1_buildWall_18 : decode cX1_buildWall 18 = .ok (.iload_n 3, 1) := by decide +kernel
theorem dX1_buildWall_19 : decode cX1_buildWall 19 = .ok (.if_icmp .eq 15, 3) := by decide +kernel
theorem dX1_buildWall_22 : decode cX1_buildWall 22 = .ok (.aload_n 0, 1) := by decide +kernel
theorem dX1_buildWall_23 : decode cX1_buildWall 23 = .ok (.getfield 9, 3) := by decide +kernel
theorem dX1_buildWall_26 : decode cX1_buildWall 26 = .ok (.iload 4, 2) := by decide +kernel
theorem dX1_buildWall_28 : decode cX1_buildWall 28 = .ok (.iload_n 3, 1) := by decide +kernel
theorem dX1_buildWall_29 : decode cX1_buildWall 29 = .ok (.bastore, 1) := by decide +kernel
theorem dX1_buildWall_30 : decode cX1_buildWall 30 = .ok (.aload_n 0, 1) := by decide +kernel
theorem dX1_buildWall_31 : decode cX1_buildWall 31 = .ok (.invokevirtual 44, 3) := by decide +kernel
theorem dX1_buildWall_34 : decode cX1_buildWall 34 = .ok (.iload 5, 2) := by decide +kernel
theorem dX1_buildWall_36 : decode cX1_buildWall 36 = .ok (.ireturn, 1) := by decide +kernel
theorem dX1_openZone_0 : decode cX1_openZone 0 = .ok (.aload_n 0, 1) := by decide +kernel
theorem dX1_openZone_1 : decode cX1_openZone 1 = .ok (.getfield 37, 3) := by decide +kernel
theorem dX1_openZone_4 : decode cX1_openZone 4 = .ok (.istore 4, 2) := by decide +kernel
theorem dX1_openZone_6 : decode cX1_openZone 6 = .ok (.aload_n 0, 1) := by decide +kernel
theorem dX1_openZone_7 : decode cX1_openZone 7 = .ok (.getfield 15, 3) := by decide +kernel
theorem dX1_openZone_10 : decode cX1_openZone 10 = .ok (.iload 4, 2) := by decide +kernel
theorem dX1_openZone_12 : decode cX1_openZone 12 = .ok (.iload_n 1, 1) := by decide +kernel
theorem dX1_openZone_13 : decode cX1_openZone 13 = .ok (.iload_n 2, 1) := by decide +kernel
theorem dX1_openZone_14 : decode cX1_openZone 14 = .ok (.invokestatic 40, 3) := by decide +kernel
theorem dX1_openZone_17 : decode cX1_openZone 17 = .ok (.iastore, 1) := by decide +kernel
theorem dX1_openZone_18 : decode cX1_openZone 18 = .ok (.aload_n 0, 1) := by decide +kernel
theorem dX1_openZone_19 : decode cX1_openZone 19 = .ok (.getfield 19, 3) := by decide +kernel
theorem dX1_openZone_22 : decode cX1_openZone 22 = .ok (.iload 4, 2) := by decide +kernel
theorem dX1_openZone_24 : decode cX1_openZone 24 = .ok (.iload_n 3, 1) := by decide +kernel
theorem dX1_openZone_25 : decode cX1_openZone 25 = .ok (.iastore, 1) := by decide +kernel
theorem dX1_openZone_26 : decode cX1_openZone 26 = .ok (.aload_n 0, 1) := by decide +kernel
theorem dX1_openZone_27 : decode cX1_openZone 27 = .ok (.dup, 1) := by decide +kernel
theorem dX1_openZone_28 : decode cX1_openZone 28 = .ok (.getfield 37, 3) := by decide +kernel
theorem dX1_openZone_31 : decode cX1_openZone 31 = .ok (.iconst 1, 1) := by decide +kernel
theorem dX1_openZone_32 : decode cX1_openZone 32 = .ok (.iadd, 1) := by decide +kernel
theorem dX1_openZone_33 : decode cX1_openZone 33 = .ok (.putfield 37, 3) := by decide +kernel
theorem dX1_openZone_36 : decode cX1_openZone 36 = .ok (.aload_n 0, 1) := by decide +kernel
theorem dX1_openZone_37 : decode cX1_openZone 37 = .ok (.invokevirtual 44, 3) := by decide +kernel
theorem dX1_openZone_40 : decode cX1_openZone 40 = .ok (.iload 4, 2) := by decide +kernel
theorem dX1_openZone_42 : decode cX1_openZone 42 = .ok (.ireturn, 1) := by decide +kernel
theorem dX1_measureAll_0 : decode cX1_measureAll 0 = .ok (.iconst 0, 1) := by decide +kernel
theorem dX1_measureAll_1 : decode cX1_measureAll 1 = .ok (.istore_n 1, 1) := by decide +kernel
theorem dX1_measureAll_2 : decode cX1_measureAll 2 = .ok (.iload_n 1, 1) := by decide +kernel
theorem dX1_measureAll_3 : decode cX1_measureAll 3 = .ok (.aload_n 0, 1) := by decide +kernel
theorem dX1_measureAll_4 : decode cX1_measureAll 4 = .ok (.getfield 37, 3) := by decide +kernel
theorem dX1_measureAll_7 : decode cX1_measureAll 7 = .ok (.if_icmp .ge 14, 3) := by decide +kernel
theorem dX1_measureAll_10 : decode cX1_measureAll 10 = .ok (.aload_n 0, 1) := by decide +kernel
theorem dX1_measureAll_11 : decode cX1_measureAll 11 = .ok (.iload_n 1, 1) := by decide +kernel
theorem dX1_measureAll_12 : decode cX1_measureAll 12 = .ok (.invokevirtual 47, 3) := by decide +kernel
theorem dX1_measureAll_15 : decode cX1_measureAll 15 = .ok (.iinc 1 1, 3) := by decide +kernel
theorem dX1_measureAll_18 : decode cX1_measureAll 18 = .ok (.goto (-16), 3) := by decide +kernel
theorem dX1_measureAll_21 : decode cX1_measureAll 21 = .ok (.return_, 1) := by decide +kernel
theorem dX1_measureFrom_0 : decode cX1_measureFrom 0 = .ok (.aload_n 0, 1) := by decide +kernel
theorem dX1_measureFrom_1 : decode cX1_measureFrom 1 = .ok (.getfield 27, 3) := by decide +kernel
theorem dX1_measureFrom_4 : decode cX1_measureFrom 4 = .ok (.bipush 100, 2) := by decide +kernel
theorem dX1_measureFrom_6 : decode cX1_measureFrom 6 = .ok (.invokestatic 51, 3) := by decide +kernel
theorem dX1_measureFrom_9 : decode cX1_measureFrom 9 = .ok (.aload_n 0, 1) := by decide +kernel
theorem dX1_measureFrom_10 : decode cX1_measureFrom 10 = .ok (.iconst 0, 1) := by decide +kernel
theorem dX1_measureFrom_11 : decode cX1_measureFrom 11 = .ok (.putfield 33, 3) := by decide +kernel
theorem dX1_measureFrom_14 : decode cX1_measureFrom 14 = .ok (.aload_n 0, 1) := by decide +kernel
theorem dX1_measureFrom_15 : decode cX1_measureFrom 15 = .ok (.aload_n 0, 1) := by decide +kernel
theorem dX1_measureFrom_16 : decode cX1_measureFrom 16 = .ok (.getfield 15, 3) := by decide +kernel
theorem dX1_measureFrom_19 : decode cX1_measureFrom 19 = .ok (.iload_n 1, 1) := by decide +kernel
theorem dX1_measureFrom_20 : decode cX1_measureFrom 20 = .ok (.iaload, 1) := by decide +kernel
theorem dX1_measureFrom_21 : decode cX1_measureFrom 21 = .ok (.bipush 8, 2) := by decide +kernel
theorem dX1_measureFrom_23 : decode cX1_measureFrom 23 = .ok (.irem, 1) := by decide +kernel
theorem dX1_measureFrom_24 : decode cX1_measureFrom 24 = .ok (.aload_n 0, 1) := by decide +kernel
theorem dX1_measureFrom_25 : decode cX1_measureFrom 25 = .ok (.getfield 15, 3) := by decide +kernel
theorem dX1_measureFrom_28 : decode cX1_measureFrom 28 = .ok (.iload_n 1, 1) := by decide +kernel
theorem dX1_measureFrom_29 : decode cX1_measureFrom 29 = .ok (.iaload, 1) := by decide +kernel
theorem dX1_measureFrom_30 : decode cX1_measureFrom 30 = .ok (.bipush 8, 2) := by decide +kernel
theorem dX1_measureFrom_32 : decode cX1_measureFrom 32 = .ok (.idiv, 1) := by decide +kernel
theorem dX1_measureFrom_33 : decode cX1_measureFrom 33 = .ok (.iconst 0, 1) := by decide +kernel
theorem dX1_measureFrom_34 : decode cX1_measureFrom 34 = .ok (.invokevirtual 57, 3) := by decide +kernel
theorem dX1_measureFrom_37 : decode cX1_measureFrom 37 = .ok (.iconst 0, 1) := by decide +kernel
theorem dX1_measureFrom_38 : decode cX1_measureFrom 38 = .ok (.istore_n 2, 1) := by decide +kernel
theorem dX1_measureFrom_39 : decode cX1_measureFrom 39 = .ok (.iload_n 2, 1) := by decide +kernel
theorem dX1_measureFrom_40 : decode cX1_measureFrom 40 = .ok (.aload_n 0, 1) := by decide +kernel
theorem dX1_measureFrom_41 : decode cX1_measureFrom 41 = .ok (.getfield 33, 3) := by decide +kernel
theorem dX1_measureFrom_44 : decode cX1_measureFrom 44 = .ok (.if_icmp .ge 95, 3) := by decide +kernel
theorem dX1_measureFrom_47 : decode cX1_measureFrom 47 = .ok (.iload_n 2, 1) := by decide +kernel
theorem dX1_measureFrom_48 : decode cX1_measureFrom 48 = .ok (.bipush 64, 2) := by decide +kernel
theorem dX1_measureFrom_50 : decode cX1_measureFrom 50 = .ok (.if_icmp .ge 89, 3) := by decide +kernel
theorem dX1_measureFrom_53 : decode cX1_measureFrom 53 = .ok (.aload_n 0, 1) := by decide +kernel
theorem dX1_measureFrom_54 : decode cX1_measureFrom 54 = .ok (.getfield 30, 3) := by decide +kernel
theorem dX1_measureFrom_57 : decode cX1_measureFrom 57 = .ok (.iload_n 2, 1) := by decide +kernel
theorem dX1_measureFrom_58 : decode cX1_measureFrom 58 = .ok (.iaload, 1) := by decide +kernel
theorem dX1_measureFrom_59 : decode cX1_measureFrom 59 = .ok (.bipush 8, 2) := by decide +kernel
theorem dX1_measureFrom_61 : decode cX1_measureFrom 61 = .ok (.irem, 1) := by decide +kernel
theorem dX1_measureFrom_62 : decode cX1_measureFrom 62 = .ok (.istore_n 3, 1) := by decide +kernel
theorem dX1_measureFrom_63 : decode cX1_measureFrom 63 = .ok (.aload_n 0, 1) := by decide +kernel
theorem dX1_measureFrom_64 : decode cX1_measureFrom 64 = .ok (.getfield 30, 3) := by decide +kernel
theorem dX1_measureFrom_67 : decode cX1_measureFrom 67 = .ok (.iload_n 2, 1) := by decide +kernel
theorem dX1_measureFrom_68 : decode cX1_measureFrom 68 = .ok (.iaload, 1) := by decide +kernel
theorem dX1_measureFrom_69 : decode cX1_measureFrom 69 = .ok (.bipush 8, 2) := by decide +kernel
theorem dX1_measureFrom_71 : decode cX1_measureFrom 71 = .ok (.idiv, 1) := by decide +kernel
theorem dX1_measureFrom_72 : decode cX1_measureFrom 72 = .ok (.istore 4, 2) := by decide +kernel
theorem dX1_measureFrom_74 : decode cX1_measureFrom 74 = .ok (.aload_n 0, 1) := by decide +kernel
theorem dX1_measureFrom_75 : decode cX1_measureFrom 75 = .ok (.getfield 27, 3) := by decide +kernel
theorem dX1_measureFrom_78 : decode cX1_measureFrom 78 = .ok (.aload_n 0, 1) := by decide +kernel
theorem dX1_measureFrom_79 : decode cX1_measureFrom 79 = .ok (.getfield 30, 3) := by decide +kernel
theorem dX1_measureFrom_82 : decode cX1_measureFrom 82 = .ok (.iload_n 2, 1) := by decide +kernel
theorem dX1_measureFrom_83 : decode cX1_measureFrom 83 = .ok (.iaload, 1) := by decide +kernel
theorem dX1_measureFrom_84 : decode cX1_measureFrom 84 = .ok (.iaload, 1) := by decide +kernel
theorem dX1_measureFrom_85 : decode cX1_measureFrom 85 = .ok (.iconst 1, 1) := by decide +kernel
theorem dX1_measureFrom_86 : decode cX1_measureFrom 86 = .ok (.iadd, 1) := by decide +kernel
theorem dX1_measureFrom_87 : decode cX1_measureFrom 87 = .ok (.istore 5, 2) := by decide +kernel
theorem dX1_measureFrom_89 : decode cX1_measureFrom 89 = .ok (.aload_n 0, 1) := by decide +kernel
theorem dX1_measureFrom_90 : decode cX1_measureFrom 90 = .ok (.iload_n 3, 1) := by decide +kernel
theorem dX1_measureFrom_91 : decode cX1_measureFrom 91 = .ok (.iconst 1, 1) := by decide +kernel
theorem dX1_measureFrom_92 : decode cX1_measureFrom 92 = .ok (.isub, 1) := by decide +kernel
theorem dX1_measureFrom_93 : decode cX1_measureFrom 93 = .ok (.iload 4, 2) := by decide +kernel
theorem dX1_measureFrom_95 : decode cX1_measureFrom 95 = .ok (.iload 5, 2) := by decide +kernel
theorem dX1_measureFrom_97 : decode cX1_measureFrom 97 = .ok (.invokevirtual 57, 3) := by decide +kernel
theorem dX1_measureFrom_100 : decode cX1_measureFrom 100 = .ok (.aload_n 0, 1) := by decide +kernel
theorem dX1_measureFrom_101 : decode cX1_measureFrom 101 = .ok (.iload_n 3, 1) := by decide +kernel
theorem dX1_measureFrom_102 : decode cX1_measureFrom 102 = .ok (.iconst 1, 1) := by decide +kernel
theorem dX1_measureFrom_103 : decode cX1_measureFrom 103 = .ok (.iadd, 1) := by decide +kernel
theorem dX1_measureFrom_104 : decode cX1_measureFrom 104 = .ok (.iload 4, 2) := by decide +kernel
theorem dX1_measureFrom_106 : decode cX1_measureFrom 106 = .ok (.iload 5, 2) := by decide +kernel
theorem dX1_measureFrom_108 : decode cX1_measureFrom 108 = .ok (.invokevirtual 57, 3) := by decide +kernel
theorem dX1_measureFrom_111 : decode cX1_measureFrom 111 = .ok (.aload_n 0, 1) := by decide +kernel
theorem dX1_measureFrom_112 : decode cX1_measureFrom 112 = .ok (.iload_n 3, 1) := by decide +kernel
theorem dX1_measureFrom_113 : decode cX1_measureFrom 113 = .ok (.iload 4, 2) := by decide +kernel
theorem dX1_measureFrom_115 : decode cX1_measureFrom 115 = .ok (.iconst 1, 1) := by decide +kernel
theorem dX1_measureFrom_116 : decode cX1_measureFrom 116 = .ok (.isub, 1) := by decide +kernel
theorem dX1_measureFrom_117 : decode cX1_measureFrom 117 = .ok (.iload 5, 2) := by decide +kernel
theorem dX1_measureFrom_119 : decode cX1_measureFrom 119 = .ok (.invokevirtual 57, 3) := by decide +kernel
theorem dX1_measureFrom_122 : decode cX1_measureFrom 122 = .ok (.aload_n 0, 1) := by decide +kernel
theorem dX1_measureFrom_123 : decode cX1_measureFrom 123 = .ok (.iload_n 3, 1) := by decide +kernel
theorem dX1_measureFrom_124 : decode cX1_measureFrom 124 = .ok (.iload 4, 2) := by decide +kernel
theorem dX1_measureFrom_126 : decode cX1_measureFrom 126 = .ok (.iconst 1, 1) := by decide +kernel
theorem dX1_measureFrom_127 : decode cX1_measureFrom 127 = .ok (.iadd, 1) := by decide +kernel
theorem dX1_measureFrom_128 : decode cX1_measureFrom 128 = .ok (.iload 5, 2) := by decide +kernel
theorem dX1_measureFrom_130 : decode cX1_measureFrom 130 = .ok (.invokevirtual 57, 3) := by decide +kernel
theorem dX1_measureFrom_133 : decode cX1_measureFrom 133 = .ok (.iinc 2 1, 3) := by decide +kernel
theorem dX1_measureFrom_136 : decode cX1_measureFrom 136 = .ok (.goto (-97), 3) := by decide +kernel
theorem dX1_measureFrom_139 : decode cX1_measureFrom 139 = .ok (.iconst 0, 1) := by decide +kernel
theorem dX1_measureFrom_140 : decode cX1_measureFrom 140 = .ok (.istore_n 2, 1) := by decide +kernel
theorem dX1_measureFrom_141 : decode cX1_measureFrom 141 = .ok (.iload_n 2, 1) := by decide +kernel
theorem dX1_measureFrom_142 : decode cX1_measureFrom 142 = .ok (.aload_n 0, 1) := by decide +kernel
theorem dX1_measureFrom_143 : decode cX1_measureFrom 143 = .ok (.getfield 37, 3) := by decide +kernel
theorem dX1_measureFrom_146 : decode cX1_measureFrom 146 = .ok (.if_icmp .ge 28, 3) := by decide +kernel
theorem dX1_measureFrom_149 : decode cX1_measureFrom 149 = .ok (.aload_n 0, 1) := by decide +kernel
theorem dX1_measureFrom_150 : decode cX1_measureFrom 150 = .ok (.getfield 24, 3) := by decide +kernel
theorem dX1_measureFrom_153 : decode cX1_measureFrom 153 = .ok (.iload_n 1, 1) := by decide +kernel
theorem dX1_measureFrom_154 : decode cX1_measureFrom 154 = .ok (.aaload, 1) := by decide +kernel
theorem dX1_measureFrom_155 : decode cX1_measureFrom 155 = .ok (.iload_n 2, 1) := by decide +kernel
theorem dX1_measureFrom_156 : decode cX1_measureFrom 156 = .ok (.aload_n 0, 1) := by decide +kernel
theorem dX1_measureFrom_157 : decode cX1_measureFrom 157 = .ok (.getfield 27, 3) := by decide +kernel
theorem dX1_measureFrom_160 : decode cX1_measureFrom 160 = .ok (.aload_n 0, 1) := by decide +kernel
theorem dX1_measureFrom_161 : decode cX1_measureFrom 161 = .ok (.getfield 15, 3) := by decide +kernel
theorem dX1_measureFrom_164 : decode cX1_measureFrom 164 = .ok (.iload_n 2, 1) := by decide +kernel
theorem dX1_measureFrom_165 : decode cX1_measureFrom 165 = .ok (.iaload, 1) := by decide +kernel
theorem dX1_measureFrom_166 : decode cX1_measureFrom 166 = .ok (.iaload, 1) := by decide +kernel
theorem dX1_measureFrom_167 : decode cX1_measureFrom 167 = .ok (.iastore, 1) := by decide +kernel
theorem dX1_measureFrom_168 : decode cX1_measureFrom 168 = .ok (.iinc 2 1, 3) := by decide +kernel
theorem dX1_measureFrom_171 : decode cX1_measureFrom 171 = .ok (.goto (-30), 3) := by decide +kernel
theorem dX1_measureFrom_174 : decode cX1_measureFrom 174 = .ok (.return_, 1) := by decide +kernel
theorem dX1_reach_0 : decode cX1_reach 0 = .ok (.iload_n 1, 1) := by decide +kernel
theorem dX1_reach_1 : decode cX1_reach 1 = .ok (.iload_n 2, 1) := by decide +kernel
theorem dX1_reach_2 : decode cX1_reach 2 = .ok (.invokestatic 61, 3) := by decide +kernel
theorem dX1_reach_5 : decode cX1_reach 5 = .ok (.ifCond .eq 12, 3) := by decide +kernel
theorem dX1_reach_8 : decode cX1_reach 8 = .ok (.aload_n 0, 1) := by decide +kernel
theorem dX1_reach_9 : decode cX1_reach 9 = .ok (.getfield 33, 3) := by decide +kernel
theorem dX1_reach_12 : decode cX1_reach 12 = .ok (.bipush 64, 2) := by decide +kernel
theorem dX1_reach_14 : decode cX1_reach 14 = .ok (.if_icmp .lt 4, 3) := by decide +kernel
theorem dX1_reach_17 : decode cX1_reach 17 = .ok (.return_, 1) := by decide +kernel
theorem dX1_reach_18 : decode cX1_reach 18 = .ok (.iload_n 1, 1) := by decide +kernel
theorem dX1_reach_19 : decode cX1_reach 19 = .ok (.iload_n 2, 1) := by decide +kernel
theorem dX1_reach_20 : decode cX1_reach 20 = .ok (.invokestatic 40, 3) := by decide +kernel
theorem dX1_reach_23 : decode cX1_reach 23 = .ok (.istore 4, 2) := by decide +kernel
theorem dX1_reach_25 : decode cX1_reach 25 = .ok (.aload_n 0, 1) := by decide +kernel
theorem dX1_reach_26 : decode cX1_reach 26 = .ok (.getfield 9, 3) := by decide +kernel
theorem dX1_reach_29 : decode cX1_reach 29 = .ok (.iload 4, 2) := by decide +kernel
theorem dX1_reach_31 : decode cX1_reach 31 = .ok (.baload, 1) := by decide +kernel
theorem dX1_reach_32 : decode cX1_reach 32 = .ok (.ifCond .ne 15, 3) := by decide +kernel
theorem dX1_reach_35 : decode cX1_reach 35 = .ok (.aload_n 0, 1) := by decide +kernel
theorem dX1_reach_36 : decode cX1_reach 36 = .ok (.getfield 27, 3) := by decide +kernel
theorem dX1_reach_39 : decode cX1_reach 39 = .ok (.iload 4, 2) := by decide +kernel
theorem dX1_reach_41 : decode cX1_reach 41 = .ok (.iaload, 1) := by decide +kernel
theorem dX1_reach_42 : decode cX1_reach 42 = .ok (.bipush 100, 2) := by decide +kernel
theorem dX1_reach_44 : decode cX1_reach 44 = .ok (.if_icmp .eq 4, 3) := by decide +kernel
theorem dX1_reach_47 : decode cX1_reach 47 = .ok (.return_, 1) := by decide +kernel
theorem dX1_reach_48 : decode cX1_reach 48 = .ok (.aload_n 0, 1) := by decide +kernel
theorem dX1_reach_49 : decode cX1_reach 49 = .ok (.getfield 27, 3) := by decide +kernel
theorem dX1_reach_52 : decode cX1_reach 52 = .ok (.iload 4, 2) := by decide +kernel
theorem dX1_reach_54 : decode cX1_reach 54 = .ok (.iload_n 3, 1) := by decide +kernel
theorem dX1_reach_55 : decode cX1_reach 55 = .ok (.iastore, 1) := by decide +kernel
theorem dX1_reach_56 : decode cX1_reach 56 = .ok (.aload_n 0, 1) := by decide +kernel
theorem dX1_reach_57 : decode cX1_reach 57 = .ok (.getfield 30, 3) := by decide +kernel
theorem dX1_reach_60 : decode cX1_reach 60 = .ok (.aload_n 0, 1) := by decide +kernel
theorem dX1_reach_61 : decode cX1_reach 61 = .ok (.getfield 33, 3) := by decide +kernel
theorem dX1_reach_64 : decode cX1_reach 64 = .ok (.iload 4, 2) := by decide +kernel
theorem dX1_reach_66 : decode cX1_reach 66 = .ok (.iastore, 1) := by decide +kernel
theorem dX1_reach_67 : decode cX1_reach 67 = .ok (.aload_n 0, 1) := by decide +kernel
theorem dX1_reach_68 : decode cX1_reach 68 = .ok (.dup, 1) := by decide +kernel
theorem dX1_reach_69 : decode cX1_reach 69 = .ok (.getfield 33, 3) := by decide +kernel
theorem dX1_reach_72 : decode cX1_reach 72 = .ok (.iconst 1, 1) := by decide +kernel
theorem dX1_reach_73 : decode cX1_reach 73 = .ok (.iadd, 1) := by decide +kernel
theorem dX1_reach_74 : decode cX1_reach 74 = .ok (.putfield 33, 3) := by decide +kernel
theorem dX1_reach_77 : decode cX1_reach 77 = .ok (.return_, 1) := by decide +kernel
