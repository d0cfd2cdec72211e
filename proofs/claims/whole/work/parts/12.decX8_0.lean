theorem dX8_init_0 : decode cX8_init 0 = .ok (.aload_n 0, 1) := by decide +kernel
theorem dX8_init_1 : decode cX8_init 1 = .ok (.invokespecial 1, 3) := by decide +kernel
theorem dX8_init_4 : decode cX8_init 4 = .ok (.aload_n 0, 1) := by decide +kernel
theorem dX8_init_5 : decode cX8_init 5 = .ok (.bipush 64, 2) := by decide +kernel
theorem dX8_init_7 : decode cX8_init 7 = .ok (.newarray .boolean, 2) := by decide +kernel
theorem dX8_init_9 : decode cX8_init 9 = .ok (.putfield 7, 3) := by decide +kernel
theorem dX8_init_12 : decode cX8_init 12 = .ok (.aload_n 0, 1) := by decide +kernel
theorem dX8_init_13 : decode cX8_init 13 = .ok (.bipush 7, 2) := by decide +kernel
theorem dX8_init_15 : decode cX8_init 15 = .ok (.newarray .int, 2) := by decide +kernel
theorem dX8_init_17 : decode cX8_init 17 = .ok (.putfield 13, 3) := by decide +kernel
theorem dX8_init_20 : decode cX8_init 20 = .ok (.aload_n 0, 1) := by decide +kernel
theorem dX8_init_21 : decode cX8_init 21 = .ok (.bipush 7, 2) := by decide +kernel
theorem dX8_init_23 : decode cX8_init 23 = .ok (.newarray .int, 2) := by decide +kernel
theorem dX8_init_25 : decode cX8_init 25 = .ok (.putfield 17, 3) := by decide +kernel
theorem dX8_init_28 : decode cX8_init 28 = .ok (.aload_n 0, 1) := by decide +kernel
theorem dX8_init_29 : decode cX8_init 29 = .ok (.bipush 35, 2) := by decide +kernel
theorem dX8_init_31 : decode cX8_init 31 = .ok (.newarray .int, 2) := by decide +kernel
theorem dX8_init_33 : decode cX8_init 33 = .ok (.putfield 20, 3) := by decide +kernel
theorem dX8_init_36 : decode cX8_init 36 = .ok (.aload_n 0, 1) := by decide +kernel
theorem dX8_init_37 : decode cX8_init 37 = .ok (.bipush 49, 2) := by decide +kernel
theorem dX8_init_39 : decode cX8_init 39 = .ok (.newarray .int, 2) := by decide +kernel
theorem dX8_init_41 : decode cX8_init 41 = .ok (.putfield 23, 3) := by decide +kernel
theorem dX8_init_44 : decode cX8_init 44 = .ok (.aload_n 0, 1) := by decide +kernel
theorem dX8_init_45 : decode cX8_init 45 = .ok (.bipush 49, 2) := by decide +kernel
theorem dX8_init_47 : decode cX8_init 47 = .ok (.newarray .int, 2) := by decide +kernel
theorem dX8_init_49 : decode cX8_init 49 = .ok (.putfield 26, 3) := by decide +kernel
theorem dX8_init_52 : decode cX8_init 52 = .ok (.aload_n 0, 1) := by decide +kernel
theorem dX8_init_53 : decode cX8_init 53 = .ok (.bipush 7, 2) := by decide +kernel
theorem dX8_init_55 : decode cX8_init 55 = .ok (.newarray .int, 2) := by decide +kernel
theorem dX8_init_57 : decode cX8_init 57 = .ok (.putfield 29, 3) := by decide +kernel
theorem dX8_init_60 : decode cX8_init 60 = .ok (.aload_n 0, 1) := by decide +kernel
theorem dX8_init_61 : decode cX8_init 61 = .ok (.bipush 7, 2) := by decide +kernel
theorem dX8_init_63 : decode cX8_init 63 = .ok (.newarray .int, 2) := by decide +kernel
theorem dX8_init_65 : decode cX8_init 65 = .ok (.putfield 32, 3) := by decide +kernel
theorem dX8_init_68 : decode cX8_init 68 = .ok (.aload_n 0, 1) := by decide +kernel
theorem dX8_init_69 : decode cX8_init 69 = .ok (.bipush 49, 2) := by decide +kernel
theorem dX8_init_71 : decode cX8_init 71 = .ok (.newarray .int, 2) := by decide +kernel
theorem dX8_init_73 : decode cX8_init 73 = .ok (.putfield 35, 3) := by decide +kernel
theorem dX8_init_76 : decode cX8_init 76 = .ok (.aload_n 0, 1) := by decide +kernel
theorem dX8_init_77 : decode cX8_init 77 = .ok (.bipush 64, 2) := by decide +kernel
theorem dX8_init_79 : decode cX8_init 79 = .ok (.newarray .int, 2) := by decide +kernel
theorem dX8_init_81 : decode cX8_init 81 = .ok (.putfield 38, 3) := by decide +kernel
theorem dX8_init_84 : decode cX8_init 84 = .ok (.aload_n 0, 1) := by decide +kernel
theorem dX8_init_85 : decode cX8_init 85 = .ok (.bipush 7, 2) := by decide +kernel
theorem dX8_init_87 : decode cX8_init 87 = .ok (.newarray .int, 2) := by decide +kernel
theorem dX8_init_89 : decode cX8_init 89 = .ok (.putfield 41, 3) := by decide +kernel
theorem dX8_init_92 : decode cX8_init 92 = .ok (.aload_n 0, 1) := by decide +kernel
theorem dX8_init_93 : decode cX8_init 93 = .ok (.bipush 7, 2) := by decide +kernel
theorem dX8_init_95 : decode cX8_init 95 = .ok (.newarray .int, 2) := by decide +kernel
theorem dX8_init_97 : decode cX8_init 97 = .ok (.putfield 44, 3) := by decide +kernel
theorem dX8_init_100 : decode cX8_init 100 = .ok (.aload_n 0, 1) := by decide +kernel
theorem dX8_init_101 : decode cX8_init 101 = .ok (.bipush 7, 2) := by decide +kernel
theorem dX8_init_103 : decode cX8_init 103 = .ok (.newarray .int, 2) := by decide +kernel
theorem dX8_init_105 : decode cX8_init 105 = .ok (.putfield 47, 3) := by decide +kernel
theorem dX8_init_108 : decode cX8_init 108 = .ok (.iconst 0, 1) := by decide +kernel
theorem dX8_init_109 : decode cX8_init 109 = .ok (.istore_n 1, 1) := by decide +kernel
theorem dX8_init_110 : decode cX8_init 110 = .ok (.iload_n 1, 1) := by decide +kernel
theorem dX8_init_111 : decode cX8_init 111 = .ok (.bipush 7, 2) := by decide +kernel
theorem dX8_init_113 : decode cX8_init 113 = .ok (.if_icmp .ge 16, 3) := by decide +kernel
theorem dX8_init_116 : decode cX8_init 116 = .ok (.aload_n 0, 1) := by decide +kernel
theorem dX8_init_117 : decode cX8_init 117 = .ok (.getfield 32, 3) := by decide +kernel
theorem dX8_init_120 : decode cX8_init 120 = .ok (.iload_n 1, 1) := by decide +kernel
theorem dX8_init_121 : decode cX8_init 121 = .ok (.iconst (-1), 1) := by decide +kernel
theorem dX8_init_122 : decode cX8_init 122 = .ok (.iastore, 1) := by decide +kernel
theorem dX8_init_123 : decode cX8_init 123 = .ok (.iinc 1 1, 3) := by decide +kernel
theorem dX8_init_126 : decode cX8_init 126 = .ok (.goto (-16), 3) := by decide +kernel
theorem dX8_init_129 : decode cX8_init 129 = .ok (.return_, 1) := by decide +kernel
theorem dX8_thrown_0 : decode cX8_thrown 0 = .ok (.aload_n 0, 1) := by decide +kernel
theorem dX8_thrown_1 : decode cX8_thrown 1 = .ok (.getfield 50, 3) := by decide +kernel
theorem dX8_thrown_4 : decode cX8_thrown 4 = .ok (.ireturn, 1) := by decide +kernel
theorem dX8_in_0 : decode cX8_in 0 = .ok (.iload_n 0, 1) := by decide +kernel
theorem dX8_in_1 : decode cX8_in 1 = .ok (.iload_n 1, 1) := by decide +kernel
theorem dX8_in_2 : decode cX8_in 2 = .ok (.if_icmp .lt 12, 3) := by decide +kernel
theorem dX8_in_5 : decode cX8_in 5 = .ok (.iload_n 0, 1) := by decide +kernel
theorem dX8_in_6 : decode cX8_in 6 = .ok (.iload_n 2, 1) := by decide +kernel
theorem dX8_in_7 : decode cX8_in 7 = .ok (.if_icmp .gt 7, 3) := by decide +kernel
theorem dX8_in_10 : decode cX8_in 10 = .ok (.iconst 1, 1) := by decide +kernel
theorem dX8_in_11 : decode cX8_in 11 = .ok (.goto 4, 3) := by decide +kernel
theorem dX8_in_14 : decode cX8_in 14 = .ok (.iconst 0, 1) := by decide +kernel
theorem dX8_in_15 : decode cX8_in 15 = .ok (.ireturn, 1) := by decide +kernel
theorem dX8_asked_0 : decode cX8_asked 0 = .ok (.aload_n 0, 1) := by decide +kernel
theorem dX8_asked_1 : decode cX8_asked 1 = .ok (.iload_n 1, 1) := by decide +kernel
theorem dX8_asked_2 : decode cX8_asked 2 = .ok (.ifCond .eq 7, 3) := by decide +kernel
theorem dX8_asked_5 : decode cX8_asked 5 = .ok (.iconst 0, 1) := by decide +kernel
theorem dX8_asked_6 : decode cX8_asked 6 = .ok (.goto 4, 3) := by decide +kernel
theorem dX8_asked_9 : decode cX8_asked 9 = .ok (.iconst 1, 1) := by decide +kernel
theorem dX8_asked_10 : decode cX8_asked 10 = .ok (.putfield 50, 3) := by decide +kernel
theorem dX8_asked_13 : decode cX8_asked 13 = .ok (.iload_n 1, 1) := by decide +kernel
theorem dX8_asked_14 : decode cX8_asked 14 = .ok (.ireturn, 1) := by decide +kernel
theorem dX8_asked__0 : decode cX8_asked_ 0 = .ok (.aload_n 0, 1) := by decide +kernel
theorem dX8_asked__1 : decode cX8_asked_ 1 = .ok (.iload_n 1, 1) := by decide +kernel
theorem dX8_asked__2 : decode cX8_asked_ 2 = .ok (.ifCond .ne 7, 3) := by decide +kernel
theorem dX8_asked__5 : decode cX8_asked_ 5 = .ok (.iconst 1, 1) := by decide +kernel
theorem dX8_asked__6 : decode cX8_asked_ 6 = .ok (.goto 12, 3) := by decide +kernel
theorem dX8_asked__9 : decode cX8_asked_ 9 = .ok (.iload_n 2, 1) := by decide +kernel
theorem dX8_asked__10 : decode cX8_asked_ 10 = .ok (.ifCond .eq 7, 3) := by decide +kernel
theorem dX8_asked__13 : decode cX8_asked_ 13 = .ok (.iconst 0, 1) := by decide +kernel
theorem dX8_asked__14 : decode cX8_asked_ 14 = .ok (.goto 4, 3) := by decide +kernel
theorem dX8_asked__17 : decode cX8_asked_ 17 = .ok (.iconst 2, 1) := by decide +kernel
theorem dX8_asked__18 : decode cX8_asked_ 18 = .ok (.putfield 50, 3) := by decide +kernel
theorem dX8_asked__21 : decode cX8_asked_ 21 = .ok (.aload_n 0, 1) := by decide +kernel
theorem dX8_asked__22 : decode cX8_asked_ 22 = .ok (.getfield 50, 3) := by decide +kernel
theorem dX8_asked__25 : decode cX8_asked_ 25 = .ok (.ifCond .ne 7, 3) := by decide +kernel
theorem dX8_asked__28 : decode cX8_asked_ 28 = .ok (.iconst 1, 1) := by decide +kernel
theorem dX8_asked__29 : decode cX8_asked_ 29 = .ok (.goto 4, 3) := by decide +kernel
theorem dX8_asked__32 : decode cX8_asked_ 32 = .ok (.iconst 0, 1) := by decide +kernel
theorem dX8_asked__33 : decode cX8_asked_ 33 = .ok (.ireturn, 1) := by decide +kernel
theorem dX8_asked___0 : decode cX8_asked__ 0 = .ok (.aload_n 0, 1) := by decide +kernel
theorem dX8_asked___1 : decode cX8_asked__ 1 = .ok (.iload_n 1, 1) := by decide +kernel
theorem dX8_asked___2 : decode cX8_asked__ 2 = .ok (.ifCond .ne 7, 3) := by decide +kernel
theorem dX8_asked___5 : decode cX8_asked__ 5 = .ok (.iconst 1, 1) := by decide +kernel
theorem dX8_asked___6 : decode cX8_asked__ 6 = .ok (.goto 20, 3) := by decide +kernel
theorem dX8_asked___9 : decode cX8_asked__ 9 = .ok (.iload_n 2, 1) := by decide +kernel
theorem dX8_asked___10 : decode cX8_asked__ 10 = .ok (.ifCond .ne 7, 3) := by decide +kernel
theorem dX8_asked___13 : decode cX8_asked__ 13 = .ok (.iconst 2, 1) := by decide +kernel
theorem dX8_asked___14 : decode cX8_asked__ 14 = .ok (.goto 12, 3) := by decide +kernel
theorem dX8_asked___17 : decode cX8_asked__ 17 = .ok (.iload_n 3, 1) := by decide +kernel
theorem dX8_asked___18 : decode cX8_asked__ 18 = .ok (.ifCond .eq 7, 3) := by decide +kernel
theorem dX8_asked___21 : decode cX8_asked__ 21 = .ok (.iconst 0, 1) := by decide +kernel
theorem dX8_asked___22 : decode cX8_asked__ 22 = .ok (.goto 4, 3) := by decide +kernel
theorem dX8_asked___25 : decode cX8_asked__ 25 = .ok (.iconst 3, 1) := by decide +kernel
theorem dX8_asked___26 : decode cX8_asked__ 26 = .ok (.putfield 50, 3) := by decide +kernel
theorem dX8_asked___29 : decode cX8_asked__ 29 = .ok (.aload_n 0, 1) := by decide +kernel
theorem dX8_asked___30 : decode cX8_asked__ 30 = .ok (.getfield 50, 3) := by decide +kernel
theorem dX8_asked___33 : decode cX8_asked__ 33 = .ok (.ifCond .ne 7, 3) := by decide +kernel
theorem dX8_asked___36 : decode cX8_asked__ 36 = .ok (.iconst 1, 1) := by decide +kernel
theorem dX8_asked___37 : decode cX8_asked__ 37 = .ok (.goto 4, 3) := by decide +kernel
theorem dX8_asked___40 : decode cX8_asked__ 40 = .ok (.iconst 0, 1) := by decide +kernel
theorem dX8_asked___41 : decode cX8_asked__ 41 = .ok (.ireturn, 1) := by decide +kernel
theorem dX8_told_0 : decode cX8_told 0 = .ok (.aload_n 0, 1) := by decide +kernel
theorem dX8_told_1 : decode cX8_told 1 = .ok (.iconst 0, 1) := by decide +kernel
theorem dX8_told_2 : decode cX8_told 2 = .ok (.putfield 50, 3) := by decide +kernel
theorem dX8_told_5 : decode cX8_told 5 = .ok (.iload_n 1, 1) := by decide +kernel
theorem dX8_told_6 : decode cX8_told 6 = .ok (.ireturn, 1) := by decide +kernel
theorem dX8_isSquare_0 : decode cX8_isSquare 0 = .ok (.iload_n 0, 1) := by decide +kernel
theorem dX8_isSquare_1 : decode cX8_isSquare 1 = .ok (.iconst 0, 1) := by decide +kernel
theorem dX8_isSquare_2 : decode cX8_isSquare 2 = .ok (.bipush 7, 2) := by decide +kernel
theorem dX8_isSquare_4 : decode cX8_isSquare 4 = .ok (.invokestatic 54, 3) := by decide +kernel
theorem dX8_isSquare_7 : decode cX8_isSquare 7 = .ok (.ifCond .eq 17, 3) := by decide +kernel
theorem dX8_isSquare_10 : decode cX8_isSquare 10 = .ok (.iload_n 1, 1) := by decide +kernel
theorem dX8_isSquare_11 : decode cX8_isSquare 11 = .ok (.iconst 0, 1) := by decide +kernel
theorem dX8_isSquare_12 : decode cX8_isSquare 12 = .ok (.bipush 7, 2) := by decide +kernel
theorem dX8_isSquare_14 : decode cX8_isSquare 14 = .ok (.invokestatic 54, 3) := by decide +kernel
theorem dX8_isSquare_17 : decode cX8_isSquare 17 = .ok (.ifCond .eq 7, 3) := by decide +kernel
theorem dX8_isSquare_20 : decode cX8_isSquare 20 = .ok (.iconst 1, 1) := by decide +kernel
theorem dX8_isSquare_21 : decode cX8_isSquare 21 = .ok (.goto 4, 3) := by decide +kernel
theorem dX8_isSquare_24 : decode cX8_isSquare 24 = .ok (.iconst 0, 1) := by decide +kernel
theorem dX8_isSquare_25 : decode cX8_isSquare 25 = .ok (.ireturn, 1) := by decide +kernel
theorem dX8_isZone_0 : decode cX8_isZone 0 = .ok (.iload_n 1, 1) := by decide +kernel
theorem dX8_isZone_1 : decode cX8_isZone 1 = .ok (.iconst 0, 1) := by decide +kernel
theorem dX8_isZone_2 : decode cX8_isZone 2 = .ok (.aload_n 0, 1) := by decide +kernel
theorem dX8_isZone_3 : decode cX8_isZone 3 = .ok (.getfield 58, 3) := by decide +kernel
theorem dX8_isZone_6 : decode cX8_isZone 6 = .ok (.iconst 1, 1) := by decide +kernel
theorem dX8_isZone_7 : decode cX8_isZone 7 = .ok (.isub, 1) := by decide +kernel
theorem dX8_isZone_8 : decode cX8_isZone 8 = .ok (.invokestatic 54, 3) := by decide +kernel
theorem dX8_isZone_11 : decode cX8_isZone 11 = .ok (.ireturn, 1) := by decide +kernel
theorem dX8_isTeam_0 : decode cX8_isTeam 0 = .ok (.iload_n 1, 1) := by decide +kernel
theorem dX8_isTeam_1 : decode cX8_isTeam 1 = .ok (.iconst 0, 1) := by decide +kernel
theorem dX8_isTeam_2 : decode cX8_isTeam 2 = .ok (.aload_n 0, 1) := by decide +kernel
theorem dX8_isTeam_3 : decode cX8_isTeam 3 = .ok (.getfield 61, 3) := by decide +kernel
theorem dX8_isTeam_6 : decode cX8_isTeam 6 = .ok (.iconst 1, 1) := by decide +kernel
theorem dX8_isTeam_7 : decode cX8_isTeam 7 = .ok (.isub, 1) := by decide +kernel
theorem dX8_isTeam_8 : decode cX8_isTeam 8 = .ok (.invokestatic 54, 3) := by decide +kernel
theorem dX8_isTeam_11 : decode cX8_isTeam 11 = .ok (.ireturn, 1) := by decide +kernel
theorem dX8_hasZone_0 : decode cX8_hasZone 0 = .ok (.iconst 0, 1) := by decide +kernel
theorem dX8_hasZone_1 : decode cX8_hasZone 1 = .ok (.istore_n 2, 1) := by decide +kernel
theorem dX8_hasZone_2 : decode cX8_hasZone 2 = .ok (.iconst 0, 1) := by decide +kernel
theorem dX8_hasZone_3 : decode cX8_hasZone 3 = .ok (.istore_n 3, 1) := by decide +kernel
theorem dX8_hasZone_4 : decode cX8_hasZone 4 = .ok (.iload_n 3, 1) := by decide +kernel
theorem dX8_hasZone_5 : decode cX8_hasZone 5 = .ok (.aload_n 0, 1) := by decide +kernel
theorem dX8_hasZone_6 : decode cX8_hasZone 6 = .ok (.getfield 58, 3) := by decide +kernel
theorem dX8_hasZone_9 : decode cX8_hasZone 9 = .ok (.if_icmp .ge 29, 3) := by decide +kernel
theorem dX8_hasZone_12 : decode cX8_hasZone 12 = .ok (.iload_n 2, 1) := by decide +kernel
theorem dX8_hasZone_13 : decode cX8_hasZone 13 = .ok (.ifCond .ne 13, 3) := by decide +kernel
theorem dX8_hasZone_16 : decode cX8_hasZone 16 = .ok (.aload_n 0, 1) := by decide +kernel
theorem dX8_hasZone_17 : decode cX8_hasZone 17 = .ok (.getfield 13, 3) := by decide +kernel
theorem dX8_hasZone_20 : decode cX8_hasZone 20 = .ok (.iload_n 3, 1) := by decide +kernel
theorem dX8_hasZone_21 : decode cX8_hasZone 21 = .ok (.iaload, 1) := by decide +kernel
theorem dX8_hasZone_22 : decode cX8_hasZone 22 = .ok (.iload_n 1, 1) := by decide +kernel
theorem dX8_hasZone_23 : decode cX8_hasZone 23 = .ok (.if_icmp .ne 7, 3) := by decide +kernel
theorem dX8_hasZone_26 : decode cX8_hasZone 26 = .ok (.iconst 1, 1) := by decide +kernel
theorem dX8_hasZone_27 : decode cX8_hasZone 27 = .ok (.goto 4, 3) := by decide +kernel
theorem dX8_hasZone_30 : decode cX8_hasZone 30 = .ok (.iconst 0, 1) := by decide +kernel
theorem dX8_hasZone_31 : decode cX8_hasZone 31 = .ok (.istore_n 2, 1) := by decide +kernel
theorem dX8_hasZone_32 : decode cX8_hasZone 32 = .ok (.iinc 3 1, 3) := by decide +kernel
theorem dX8_hasZone_35 : decode cX8_hasZone 35 = .ok (.goto (-31), 3) := by decide +kernel
theorem dX8_hasZone_38 : decode cX8_hasZone 38 = .ok (.iload_n 2, 1) := by decide +kernel
theorem dX8_hasZone_39 : decode cX8_hasZone 39 = .ok (.ireturn, 1) := by decide +kernel
theorem dX8_inZone_0 : decode cX8_inZone 0 = .ok (.iconst (-1), 1) := by decide +kernel
theorem dX8_inZone_1 : decode cX8_inZone 1 = .ok (.istore_n 2, 1) := by decide +kernel
theorem dX8_inZone_2 : decode cX8_inZone 2 = .ok (.iconst 0, 1) := by decide +kernel
theorem dX8_inZone_3 : decode cX8_inZone 3 = .ok (.istore_n 3, 1) := by decide +kernel
theorem dX8_inZone_4 : decode cX8_inZone 4 = .ok (.iload_n 3, 1) := by decide +kernel
theorem dX8_inZone_5 : decode cX8_inZone 5 = .ok (.aload_n 0, 1) := by decide +kernel
theorem dX8_inZone_6 : decode cX8_inZone 6 = .ok (.getfield 61, 3) := by decide +kernel
theorem dX8_inZone_9 : decode cX8_inZone 9 = .ok (.if_icmp .ge 25, 3) := by decide +kernel
theorem dX8_inZone_12 : decode cX8_inZone 12 = .ok (.aload_n 0, 1) := by decide +kernel
theorem dX8_inZone_13 : decode cX8_inZone 13 = .ok (.getfield 29, 3) := by decide +kernel
theorem dX8_inZone_16 : decode cX8_inZone 16 = .ok (.iload_n 3, 1) := by decide +kernel
theorem dX8_inZone_17 : decode cX8_inZone 17 = .ok (.iaload, 1) := by decide +kernel
theorem dX8_inZone_18 : decode cX8_inZone 18 = .ok (.iload_n 1, 1) := by decide +kernel
theorem dX8_inZone_19 : decode cX8_inZone 19 = .ok (.if_icmp .ne 7, 3) := by decide +kernel
theorem dX8_inZone_22 : decode cX8_inZone 22 = .ok (.iload_n 3, 1) := by decide +kernel
theorem dX8_inZone_23 : decode cX8_inZone 23 = .ok (.goto 4, 3) := by decide +kernel
theorem dX8_inZone_26 : decode cX8_inZone 26 = .ok (.iload_n 2, 1) := by decide +kernel
theorem dX8_inZone_27 : decode cX8_inZone 27 = .ok (.istore_n 2, 1) := by decide +kernel
theorem dX8_inZone_28 : decode cX8_inZone 28 = .ok (.iinc 3 1, 3) := by decide +kernel
theorem dX8_inZone_31 : decode cX8_inZone 31 = .ok (.goto (-27), 3) := by decide +kernel
theorem dX8_inZone_34 : decode cX8_inZone 34 = .ok (.iload_n 2, 1) := by decide +kernel
theorem dX8_inZone_35 : decode cX8_inZone 35 = .ok (.ireturn, 1) := by decide +kernel
theorem dX8_needOf_0 : decode cX8_needOf 0 = .ok (.iconst 0, 1) := by decide +kernel
theorem dX8_needOf_1 : decode cX8_needOf 1 = .ok (.istore_n 2, 1) := by decide +kernel
theorem dX8_needOf_2 : decode cX8_needOf 2 = .ok (.iconst 0, 1) := by decide +kernel
theorem dX8_needOf_3 : decode cX8_needOf 3 = .ok (.istore_n 3, 1) := by decide +kernel
theorem dX8_needOf_4 : decode cX8_needOf 4 = .ok (.iload_n 3, 1) := by decide +kernel
theorem dX8_needOf_5 : decode cX8_needOf 5 = .ok (.iconst 5, 1) := by decide +kernel
theorem dX8_needOf_6 : decode cX8_needOf 6 = .ok (.if_icmp .ge 38, 3) := by decide +kernel
theorem dX8_needOf_9 : decode cX8_needOf 9 = .ok (.aload_n 0, 1) := by decide +kernel
theorem dX8_needOf_10 : decode cX8_needOf 10 = .ok (.getfield 20, 3) := by decide +kernel
theorem dX8_needOf_13 : decode cX8_needOf 13 = .ok (.iconst 5, 1) := by decide +kernel
theorem dX8_needOf_14 : decode cX8_needOf 14 = .ok (.iload_n 1, 1) := by decide +kernel
theorem dX8_needOf_15 : decode cX8_needOf 15 = .ok (.imul, 1) := by decide +kernel
theorem dX8_needOf_16 : decode cX8_needOf 16 = .ok (.iload_n 3, 1) := by decide +kernel
theorem dX8_needOf_17 : decode cX8_needOf 17 = .ok (.iadd, 1) := by decide +kernel
theorem dX8_needOf_18 : decode cX8_needOf 18 = .ok (.iaload, 1) := by decide +kernel
theorem dX8_needOf_19 : decode cX8_needOf 19 = .ok (.iload_n 2, 1) := by decide +kernel
theorem dX8_needOf_20 : decode cX8_needOf 20 = .ok (.if_icmp .le 16, 3) := by decide +kernel
theorem dX8_needOf_23 : decode cX8_needOf 23 = .ok (.aload_n 0, 1) := by decide +kernel
theorem dX8_needOf_24 : decode cX8_needOf 24 = .ok (.getfield 20, 3) := by decide +kernel
theorem dX8_needOf_27 : decode cX8_needOf 27 = .ok (.iconst 5, 1) := by decide +kernel
theorem dX8_needOf_28 : decode cX8_needOf 28 = .ok (.iload_n 1, 1) := by decide +kernel
theorem dX8_needOf_29 : decode cX8_needOf 29 = .ok (.imul, 1) := by decide +kernel
theorem dX8_needOf_30 : decode cX8_needOf 30 = .ok (.iload_n 3, 1) := by decide +kernel
theorem dX8_needOf_31 : decode cX8_needOf 31 = .ok (.iadd, 1) := by decide +kernel
theorem dX8_needOf_32 : decode cX8_needOf 32 = .ok (.iaload, 1) := by decide +kernel
theorem dX8_needOf_33 : decode cX8_needOf 33 = .ok (.goto 4, 3) := by decide +kernel
theorem dX8_needOf_36 : decode cX8_needOf 36 = .ok (.iload_n 2, 1) := by decide +kernel
theorem dX8_needOf_37 : decode cX8_needOf 37 = .ok (.istore_n 2, 1) := by decide +kernel
theorem dX8_needOf_38 : decode cX8_needOf 38 = .ok (.iinc 3 1, 3) := by decide +kernel
theorem dX8_needOf_41 : decode cX8_needOf 41 = .ok (.goto (-37), 3) := by decide +kernel
theorem dX8_needOf_44 : decode cX8_needOf 44 = .ok (.iload_n 2, 1) := by decide +kernel
theorem dX8_needOf_45 : decode cX8_needOf 45 = .ok (.ireturn, 1) := by decide +kernel
theorem dX8_fits_0 : decode cX8_fits 0 = .ok (.aload_n 0, 1) := by decide +kernel
theorem dX8_fits_1 : decode cX8_fits 1 = .ok (.getfield 17, 3) := by decide +kernel
theorem dX8_fits_4 : decode cX8_fits 4 = .ok (.iload_n 2, 1) := by decide +kernel
theorem dX8_fits_5 : decode cX8_fits 5 = .ok (.iaload, 1) := by decide +kernel
theorem dX8_fits_6 : decode cX8_fits 6 = .ok (.aload_n 0, 1) := by decide +kernel
theorem dX8_fits_7 : decode cX8_fits 7 = .ok (.iload_n 1, 1) := by decide +kernel
theorem dX8_fits_8 : decode cX8_fits 8 = .ok (.invokevirtual 64, 3) := by decide +kernel
theorem dX8_fits_11 : decode cX8_fits 11 = .ok (.if_icmp .lt 7, 3) := by decide +kernel
theorem dX8_fits_14 : decode cX8_fits 14 = .ok (.iconst 1, 1) := by decide +kernel
theorem dX8_fits_15 : decode cX8_fits 15 = .ok (.goto 4, 3) := by decide +kernel
theorem dX8_fits_18 : decode cX8_fits 18 = .ok (.iconst 0, 1) := by decide +kernel
theorem dX8_fits_19 : decode cX8_fits 19 = .ok (.ireturn, 1) := by decide +kernel
theorem dX8_setWall_0 : decode cX8_setWall 0 = .ok (.iload_n 1, 1) := by decide +kernel
theorem dX8_setWall_1 : decode cX8_setWall 1 = .ok (.iload_n 2, 1) := by decide +kernel
theorem dX8_setWall_2 : decode cX8_setWall 2 = .ok (.invokestatic 68, 3) := by decide +kernel
theorem dX8_setWall_5 : decode cX8_setWall 5 = .ok (.istore 4, 2) := by decide +kernel
theorem dX8_setWall_7 : decode cX8_setWall 7 = .ok (.aload_n 0, 1) := by decide +kernel
theorem dX8_setWall_8 : decode cX8_setWall 8 = .ok (.iload 4, 2) := by decide +kernel
theorem dX8_setWall_10 : decode cX8_setWall 10 = .ok (.iload 4, 2) := by decide +kernel
theorem dX8_setWall_12 : decode cX8_setWall 12 = .ok (.ifCond .eq 20, 3) := by decide +kernel
theorem dX8_setWall_15 : decode cX8_setWall 15 = .ok (.aload_n 0, 1) := by decide +kernel
theorem dX8_setWall_16 : decode cX8_setWall 16 = .ok (.bipush 8, 2) := by decide +kernel
theorem dX8_setWall_18 : decode cX8_setWall 18 = .ok (.iload_n 2, 1) := by decide +kernel
theorem dX8_setWall_19 : decode cX8_setWall 19 = .ok (.imul, 1) := by decide +kernel
theorem dX8_setWall_20 : decode cX8_setWall 20 = .ok (.iload_n 1, 1) := by decide +kernel
theorem dX8_setWall_21 : decode cX8_setWall 21 = .ok (.iadd, 1) := by decide +kernel
theorem dX8_setWall_22 : decode cX8_setWall 22 = .ok (.invokevirtual 72, 3) := by decide +kernel
theorem dX8_setWall_25 : decode cX8_setWall 25 = .ok (.ifCond .ne 7, 3) := by decide +kernel
theorem dX8_setWall_28 : decode cX8_setWall 28 = .ok (.iconst 1, 1) := by decide +kernel
theorem dX8_setWall_29 : decode cX8_setWall 29 = .ok (.goto 4, 3) := by decide +kernel
theorem dX8_setWall_32 : decode cX8_setWall 32 = .ok (.iconst 0, 1) := by decide +kernel
theorem dX8_setWall_33 : decode cX8_setWall 33 = .ok (.invokevirtual 76, 3) := by decide +kernel
theorem dX8_setWall_36 : decode cX8_setWall 36 = .ok (.ifCond .ne 5, 3) := by decide +kernel
theorem dX8_setWall_39 : decode cX8_setWall 39 = .ok (.iconst 0, 1) := by decide +kernel
theorem dX8_setWall_40 : decode cX8_setWall 40 = .ok (.ireturn, 1) := by decide +kernel
theorem dX8_setWall_41 : decode cX8_setWall 41 = .ok (.aload_n 0, 1) := by decide +kernel
theorem dX8_setWall_42 : decode cX8_setWall 42 = .ok (.getfield 7, 3) := by decide +kernel
theorem dX8_setWall_45 : decode cX8_setWall 45 = .ok (.bipush 8, 2) := by decide +kernel
theorem dX8_setWall_47 : decode cX8_setWall 47 = .ok (.iload_n 2, 1) := by decide +kernel
theorem dX8_setWall_48 : decode cX8_setWall 48 = .ok (.imul, 1) := by decide +kernel
theorem dX8_setWall_49 : decode cX8_setWall 49 = .ok (.iload_n 1, 1) := by decide +kernel
theorem dX8_setWall_50 : decode cX8_setWall 50 = .ok (.iadd, 1) := by decide +kernel
theorem dX8_setWall_51 : decode cX8_setWall 51 = .ok (.baload, 1) := by decide +kernel
theorem dX8_setWall_52 : decode cX8_setWall 52 = .ok (.istore 5, 2) := by decide +kernel
theorem dX8_setWall_54 : decode cX8_setWall 54 = .ok (.aload_n 0, 1) := by decide +kernel
theorem dX8_setWall_55 : decode cX8_setWall 55 = .ok (.getfield 7, 3) := by decide +kernel
theorem dX8_setWall_58 : decode cX8_setWall 58 = .ok (.bipush 8, 2) := by decide +kernel
theorem dX8_setWall_60 : decode cX8_setWall 60 = .ok (.iload_n 2, 1) := by decide +kernel
theorem dX8_setWall_61 : decode cX8_setWall 61 = .ok (.imul, 1) := by decide +kernel
theorem dX8_setWall_62 : decode cX8_setWall 62 = .ok (.iload_n 1, 1) := by decide +kernel
theorem dX8_setWall_63 : decode cX8_setWall 63 = .ok (.iadd, 1) := by decide +kernel
theorem dX8_setWall_64 : decode cX8_setWall 64 = .ok (.iload_n 3, 1) := by decide +kernel
theorem dX8_setWall_65 : decode cX8_setWall 65 = .ok (.bastore, 1) := by decide +kernel
theorem dX8_setWall_66 : decode cX8_setWall 66 = .ok (.iload 5, 2) := by decide +kernel
theorem dX8_setWall_68 : decode cX8_setWall 68 = .ok (.ireturn, 1) := by decide +kernel
theorem dX8_addZone_0 : decode cX8_addZone 0 = .ok (.iload_n 1, 1) := by decide +kernel
theorem dX8_addZone_1 : decode cX8_addZone 1 = .ok (.iload_n 2, 1) := by decide +kernel
theorem dX8_addZone_2 : decode cX8_addZone 2 = .ok (.invokestatic 68, 3) := by decide +kernel
theorem dX8_addZone_5 : decode cX8_addZone 5 = .ok (.istore 4, 2) := by decide +kernel
theorem dX8_addZone_7 : decode cX8_addZone 7 = .ok (.iload 4, 2) := by decide +kernel
theorem dX8_addZone_9 : decode cX8_addZone 9 = .ok (.ifCond .eq 12, 3) := by decide +kernel
theorem dX8_addZone_12 : decode cX8_addZone 12 = .ok (.bipush 8, 2) := by decide +kernel
theorem dX8_addZone_14 : decode cX8_addZone 14 = .ok (.iload_n 2, 1) := by decide +kernel
theorem dX8_addZone_15 : decode cX8_addZone 15 = .ok (.imul, 1) := by decide +kernel
theorem dX8_addZone_16 : decode cX8_addZone 16 = .ok (.iload_n 1, 1) := by decide +kernel
theorem dX8_addZone_17 : decode cX8_addZone 17 = .ok (.iadd, 1) := by decide +kernel
theorem dX8_addZone_18 : decode cX8_addZone 18 = .ok (.goto 4, 3) := by decide +kernel
theorem dX8_addZone_21 : decode cX8_addZone 21 = .ok (.iconst 0, 1) := by decide +kernel
theorem dX8_addZone_22 : decode cX8_addZone 22 = .ok (.istore 5, 2) := by decide +kernel
theorem dX8_addZone_24 : decode cX8_addZone 24 = .ok (.aload_n 0, 1) := by decide +kernel
theorem dX8_addZone_25 : decode cX8_addZone 25 = .ok (.iload 4, 2) := by decide +kernel
theorem dX8_addZone_27 : decode cX8_addZone 27 = .ok (.iload_n 3, 1) := by decide +kernel
theorem dX8_addZone_28 : decode cX8_addZone 28 = .ok (.iconst 1, 1) := by decide +kernel
theorem dX8_addZone_29 : decode cX8_addZone 29 = .ok (.bipush 60, 2) := by decide +kernel
theorem dX8_addZone_31 : decode cX8_addZone 31 = .ok (.invokestatic 54, 3) := by decide +kernel
theorem dX8_addZone_34 : decode cX8_addZone 34 = .ok (.aload_n 0, 1) := by decide +kernel
theorem dX8_addZone_35 : decode cX8_addZone 35 = .ok (.getfield 58, 3) := by decide +kernel
theorem dX8_addZone_38 : decode cX8_addZone 38 = .ok (.bipush 7, 2) := by decide +kernel
theorem dX8_addZone_40 : decode cX8_addZone 40 = .ok (.if_icmp .ge 26, 3) := by decide +kernel
theorem dX8_addZone_43 : decode cX8_addZone 43 = .ok (.aload_n 0, 1) := by decide +kernel
theorem dX8_addZone_44 : decode cX8_addZone 44 = .ok (.getfield 7, 3) := by decide +kernel
theorem dX8_addZone_47 : decode cX8_addZone 47 = .ok (.iload 5, 2) := by decide +kernel
theorem dX8_addZone_49 : decode cX8_addZone 49 = .ok (.baload, 1) := by decide +kernel
theorem dX8_addZone_50 : decode cX8_addZone 50 = .ok (.ifCond .ne 16, 3) := by decide +kernel
theorem dX8_addZone_53 : decode cX8_addZone 53 = .ok (.aload_n 0, 1) := by decide +kernel
theorem dX8_addZone_54 : decode cX8_addZone 54 = .ok (.iload 5, 2) := by decide +kernel
theorem dX8_addZone_56 : decode cX8_addZone 56 = .ok (.invokevirtual 72, 3) := by decide +kernel
theorem dX8_addZone_59 : decode cX8_addZone 59 = .ok (.ifCond .ne 7, 3) := by decide +kernel
theorem dX8_addZone_62 : decode cX8_addZone 62 = .ok (.iconst 1, 1) := by decide +kernel
theorem dX8_addZone_63 : decode cX8_addZone 63 = .ok (.goto 4, 3) := by decide +kernel
theorem dX8_addZone_66 : decode cX8_addZone 66 = .ok (.iconst 0, 1) := by decide +kernel
theorem dX8_addZone_67 : decode cX8_addZone 67 = .ok (.invokevirtual 80, 3) := by decide +kernel
theorem dX8_addZone_70 : decode cX8_addZone 70 = .ok (.ifCond .ne 5, 3) := by decide +kernel
theorem dX8_addZone_73 : decode cX8_addZone 73 = .ok (.iconst 0, 1) := by decide +kernel
theorem dX8_addZone_74 : decode cX8_addZone 74 = .ok (.ireturn, 1) := by decide +kernel
theorem dX8_addZone_75 : decode cX8_addZone 75 = .ok (.aload_n 0, 1) := by decide +kernel
theorem dX8_addZone_76 : decode cX8_addZone 76 = .ok (.getfield 13, 3) := by decide +kernel
theorem dX8_addZone_79 : decode cX8_addZone 79 = .ok (.aload_n 0, 1) := by decide +kernel
theorem dX8_addZone_80 : decode cX8_addZone 80 = .ok (.getfield 58, 3) := by decide +kernel
theorem dX8_addZone_83 : decode cX8_addZone 83 = .ok (.iload 5, 2) := by decide +kernel
theorem dX8_addZone_85 : decode cX8_addZone 85 = .ok (.iastore, 1) := by decide +kernel
theorem dX8_addZone_86 : decode cX8_addZone 86 = .ok (.aload_n 0, 1) := by decide +kernel
theorem dX8_addZone_87 : decode cX8_addZone 87 = .ok (.getfield 17, 3) := by decide +kernel
theorem dX8_addZone_90 : decode cX8_addZone 90 = .ok (.aload_n 0, 1) := by decide +kernel
theorem dX8_addZone_91 : decode cX8_addZone 91 = .ok (.getfield 58, 3) := by decide +kernel
theorem dX8_addZone_94 : decode cX8_addZone 94 = .ok (.iload_n 3, 1) := by decide +kernel
theorem dX8_addZone_95 : decode cX8_addZone 95 = .ok (.iastore, 1) := by decide +kernel
theorem dX8_addZone_96 : decode cX8_addZone 96 = .ok (.aload_n 0, 1) := by decide +kernel
theorem dX8_addZone_97 : decode cX8_addZone 97 = .ok (.dup, 1) := by decide +kernel
theorem dX8_addZone_98 : decode cX8_addZone 98 = .ok (.getfield 58, 3) := by decide +kernel
theorem dX8_addZone_101 : decode cX8_addZone 101 = .ok (.iconst 1, 1) := by decide +kernel
theorem dX8_addZone_102 : decode cX8_addZone 102 = .ok (.iadd, 1) := by decide +kernel
theorem dX8_addZone_103 : decode cX8_addZone 103 = .ok (.putfield 58, 3) := by decide +kernel
theorem dX8_addZone_106 : decode cX8_addZone 106 = .ok (.aload_n 0, 1) := by decide +kernel
theorem dX8_addZone_107 : decode cX8_addZone 107 = .ok (.getfield 58, 3) := by decide +kernel
theorem dX8_addZone_110 : decode cX8_addZone 110 = .ok (.iconst 1, 1) := by decide +kernel
theorem dX8_addZone_111 : decode cX8_addZone 111 = .ok (.isub, 1) := by decide +kernel
theorem dX8_addZone_112 : decode cX8_addZone 112 = .ok (.ireturn, 1) := by decide +kernel
theorem dX8_setDesks_0 : decode cX8_setDesks 0 = .ok (.aload_n 0, 1) := by decide +kernel
theorem dX8_setDesks_1 : decode cX8_setDesks 1 = .ok (.iload_n 1, 1) := by decide +kernel
theorem dX8_setDesks_2 : decode cX8_setDesks 2 = .ok (.invokevirtual 83, 3) := by decide +kernel
theorem dX8_setDesks_5 : decode cX8_setDesks 5 = .ok (.istore_n 3, 1) := by decide +kernel
theorem dX8_setDesks_6 : decode cX8_setDesks 6 = .ok (.iload_n 3, 1) := by decide +kernel
theorem dX8_setDesks_7 : decode cX8_setDesks 7 = .ok (.ifCond .eq 11, 3) := by decide +kernel
theorem dX8_setDesks_10 : decode cX8_setDesks 10 = .ok (.aload_n 0, 1) := by decide +kernel
theorem dX8_setDesks_11 : decode cX8_setDesks 11 = .ok (.iload_n 1, 1) := by decide +kernel
theorem dX8_setDesks_12 : decode cX8_setDesks 12 = .ok (.invokevirtual 86, 3) := by decide +kernel
theorem dX8_setDesks_15 : decode cX8_setDesks 15 = .ok (.goto 4, 3) := by decide +kernel
theorem dX8_setDesks_18 : decode cX8_setDesks 18 = .ok (.iconst (-1), 1) := by decide +kernel
theorem dX8_setDesks_19 : decode cX8_setDesks 19 = .ok (.istore 4, 2) := by decide +kernel
theorem dX8_setDesks_21 : decode cX8_setDesks 21 = .ok (.aload_n 0, 1) := by decide +kernel
theorem dX8_setDesks_22 : decode cX8_setDesks 22 = .ok (.iload_n 3, 1) := by decide +kernel
theorem dX8_setDesks_23 : decode cX8_setDesks 23 = .ok (.iload_n 2, 1) := by decide +kernel
theorem dX8_setDesks_24 : decode cX8_setDesks 24 = .ok (.iconst 1, 1) := by decide +kernel
theorem dX8_setDesks_25 : decode cX8_setDesks 25 = .ok (.bipush 60, 2) := by decide +kernel
theorem dX8_setDesks_27 : decode cX8_setDesks 27 = .ok (.invokestatic 54, 3) := by decide +kernel
theorem dX8_setDesks_30 : decode cX8_setDesks 30 = .ok (.iload 4, 2) := by decide +kernel
theorem dX8_setDesks_32 : decode cX8_setDesks 32 = .ok (.iconst (-1), 1) := by decide +kernel
theorem dX8_setDesks_33 : decode cX8_setDesks 33 = .ok (.if_icmp .eq 13, 3) := by decide +kernel
theorem dX8_setDesks_36 : decode cX8_setDesks 36 = .ok (.aload_n 0, 1) := by decide +kernel
theorem dX8_setDesks_37 : decode cX8_setDesks 37 = .ok (.iload 4, 2) := by decide +kernel
theorem dX8_setDesks_39 : decode cX8_setDesks 39 = .ok (.invokevirtual 64, 3) := by decide +kernel
theorem dX8_setDesks_42 : decode cX8_setDesks 42 = .ok (.iload_n 2, 1) := by decide +kernel
theorem dX8_setDesks_43 : decode cX8_setDesks 43 = .ok (.if_icmp .gt 7, 3) := by decide +kernel
theorem dX8_setDesks_46 : decode cX8_setDesks 46 = .ok (.iconst 1, 1) := by decide +kernel
theorem dX8_setDesks_47 : decode cX8_setDesks 47 = .ok (.goto 4, 3) := by decide +kernel
theorem dX8_setDesks_50 : decode cX8_setDesks 50 = .ok (.iconst 0, 1) := by decide +kernel
theorem dX8_setDesks_51 : decode cX8_setDesks 51 = .ok (.invokevirtual 80, 3) := by decide +kernel
theorem dX8_setDesks_54 : decode cX8_setDesks 54 = .ok (.ifCond .ne 5, 3) := by decide +kernel
theorem dX8_setDesks_57 : decode cX8_setDesks 57 = .ok (.iconst 0, 1) := by decide +kernel
theorem dX8_setDesks_58 : decode cX8_setDesks 58 = .ok (.ireturn, 1) := by decide +kernel
theorem dX8_setDesks_59 : decode cX8_setDesks 59 = .ok (.aload_n 0, 1) := by decide +kernel
theorem dX8_setDesks_60 : decode cX8_setDesks 60 = .ok (.getfield 17, 3) := by decide +kernel
theorem dX8_setDesks_63 : decode cX8_setDesks 63 = .ok (.iload_n 1, 1) := by decide +kernel
theorem dX8_setDesks_64 : decode cX8_setDesks 64 = .ok (.iaload, 1) := by decide +kernel
theorem dX8_setDesks_65 : decode cX8_setDesks 65 = .ok (.istore 5, 2) := by decide +kernel
theorem dX8_setDesks_67 : decode cX8_setDesks 67 = .ok (.aload_n 0, 1) := by decide +kernel
theorem dX8_setDesks_68 : decode cX8_setDesks 68 = .ok (.getfield 17, 3) := by decide +kernel
theorem dX8_setDesks_71 : decode cX8_setDesks 71 = .ok (.iload_n 1, 1) := by decide +kernel
theorem dX8_setDesks_72 : decode cX8_setDesks 72 = .ok (.iload_n 2, 1) := by decide +kernel
theorem dX8_setDesks_73 : decode cX8_setDesks 73 = .ok (.iastore, 1) := by decide +kernel
theorem dX8_setDesks_74 : decode cX8_setDesks 74 = .ok (.iload 5, 2) := by decide +kernel
theorem dX8_setDesks_76 : decode cX8_setDesks 76 = .ok (.ireturn, 1) := by decide +kernel
theorem dX8_addTeam_0 : decode cX8_addTeam 0 = .ok (.aload_n 0, 1) := by decide +kernel
theorem dX8_addTeam_1 : decode cX8_addTeam 1 = .ok (.aload_n 0, 1) := by decide +kernel
theorem dX8_addTeam_2 : decode cX8_addTeam 2 = .ok (.getfield 61, 3) := by decide +kernel
theorem dX8_addTeam_5 : decode cX8_addTeam 5 = .ok (.bipush 7, 2) := by decide +kernel
theorem dX8_addTeam_7 : decode cX8_addTeam 7 = .ok (.if_icmp .ge 7, 3) := by decide +kernel
theorem dX8_addTeam_10 : decode cX8_addTeam 10 = .ok (.iconst 1, 1) := by decide +kernel
theorem dX8_addTeam_11 : decode cX8_addTeam 11 = .ok (.goto 4, 3) := by decide +kernel
theorem dX8_addTeam_14 : decode cX8_addTeam 14 = .ok (.iconst 0, 1) := by decide +kernel
theorem dX8_addTeam_15 : decode cX8_addTeam 15 = .ok (.invokevirtual 89, 3) := by decide +kernel
theorem dX8_addTeam_18 : decode cX8_addTeam 18 = .ok (.ifCond .ne 5, 3) := by decide +kernel
theorem dX8_addTeam_21 : decode cX8_addTeam 21 = .ok (.iconst 0, 1) := by decide +kernel
theorem dX8_addTeam_22 : decode cX8_addTeam 22 = .ok (.ireturn, 1) := by decide +kernel
theorem dX8_addTeam_23 : decode cX8_addTeam 23 = .ok (.iconst 0, 1) := by decide +kernel
theorem dX8_addTeam_24 : decode cX8_addTeam 24 = .ok (.istore_n 1, 1) := by decide +kernel
theorem dX8_addTeam_25 : decode cX8_addTeam 25 = .ok (.iload_n 1, 1) := by decide +kernel
theorem dX8_addTeam_26 : decode cX8_addTeam 26 = .ok (.iconst 5, 1) := by decide +kernel
theorem dX8_addTeam_27 : decode cX8_addTeam 27 = .ok (.if_icmp .ge 23, 3) := by decide +kernel
theorem dX8_addTeam_30 : decode cX8_addTeam 30 = .ok (.aload_n 0, 1) := by decide +kernel
theorem dX8_addTeam_31 : decode cX8_addTeam 31 = .ok (.getfield 20, 3) := by decide +kernel
theorem dX8_addTeam_34 : decode cX8_addTeam 34 = .ok (.iconst 5, 1) := by decide +kernel
theorem dX8_addTeam_35 : decode cX8_addTeam 35 = .ok (.aload_n 0, 1) := by decide +kernel
theorem dX8_addTeam_36 : decode cX8_addTeam 36 = .ok (.getfield 61, 3) := by decide +kernel
theorem dX8_addTeam_39 : decode cX8_addTeam 39 = .ok (.imul, 1) := by decide +kernel
theorem dX8_addTeam_40 : decode cX8_addTeam 40 = .ok (.iload_n 1, 1) := by decide +kernel
theorem dX8_addTeam_41 : decode cX8_addTeam 41 = .ok (.iadd, 1) := by decide +kernel
theorem dX8_addTeam_42 : decode cX8_addTeam 42 = .ok (.iconst 1, 1) := by decide +kernel
theorem dX8_addTeam_43 : decode cX8_addTeam 43 = .ok (.iastore, 1) := by decide +kernel
theorem dX8_addTeam_44 : decode cX8_addTeam 44 = .ok (.iinc 1 1, 3) := by decide +kernel
theorem dX8_addTeam_47 : decode cX8_addTeam 47 = .ok (.goto (-22), 3) := by decide +kernel
theorem dX8_addTeam_50 : decode cX8_addTeam 50 = .ok (.aload_n 0, 1) := by decide +kernel
theorem dX8_addTeam_51 : decode cX8_addTeam 51 = .ok (.getfield 29, 3) := by decide +kernel
theorem dX8_addTeam_54 : decode cX8_addTeam 54 = .ok (.aload_n 0, 1) := by decide +kernel
theorem dX8_addTeam_55 : decode cX8_addTeam 55 = .ok (.getfield 61, 3) := by decide +kernel
theorem dX8_addTeam_58 : decode cX8_addTeam 58 = .ok (.iconst (-1), 1) := by decide +kernel
theorem dX8_addTeam_59 : decode cX8_addTeam 59 = .ok (.iastore, 1) := by decide +kernel
theorem dX8_addTeam_60 : decode cX8_addTeam 60 = .ok (.aload_n 0, 1) := by decide +kernel
theorem dX8_addTeam_61 : decode cX8_addTeam 61 = .ok (.dup, 1) := by decide +kernel
theorem dX8_addTeam_62 : decode cX8_addTeam 62 = .ok (.getfield 61, 3) := by decide +kernel
theorem dX8_addTeam_65 : decode cX8_addTeam 65 = .ok (.iconst 1, 1) := by decide +kernel
theorem dX8_addTeam_66 : decode cX8_addTeam 66 = .ok (.iadd, 1) := by decide +kernel
theorem dX8_addTeam_67 : decode cX8_addTeam 67 = .ok (.putfield 61, 3) := by decide +kernel
theorem dX8_addTeam_70 : decode cX8_addTeam 70 = .ok (.aload_n 0, 1) := by decide +kernel
theorem dX8_addTeam_71 : decode cX8_addTeam 71 = .ok (.getfield 61, 3) := by decide +kernel
theorem dX8_addTeam_74 : decode cX8_addTeam 74 = .ok (.iconst 1, 1) := by decide +kernel
theorem dX8_addTeam_75 : decode cX8_addTeam 75 = .ok (.isub, 1) := by decide +kernel
theorem dX8_addTeam_76 : decode cX8_addTeam 76 = .ok (.ireturn, 1) := by decide +kernel
theorem dX8_setPresent_0 : decode cX8_setPresent 0 = .ok (.aload_n 0, 1) := by decide +kernel
theorem dX8_setPresent_1 : decode cX8_setPresent 1 = .ok (.iload_n 1, 1) := by decide +kernel
theorem dX8_setPresent_2 : decode cX8_setPresent 2 = .ok (.invokevirtual 92, 3) := by decide +kernel
theorem dX8_setPresent_5 : decode cX8_setPresent 5 = .ok (.ifCond .eq 16, 3) := by decide +kernel
theorem dX8_setPresent_8 : decode cX8_setPresent 8 = .ok (.iload_n 2, 1) := by decide +kernel
theorem dX8_setPresent_9 : decode cX8_setPresent 9 = .ok (.iconst 0, 1) := by decide +kernel
theorem dX8_setPresent_10 : decode cX8_setPresent 10 = .ok (.iconst 4, 1) := by decide +kernel
theorem dX8_setPresent_11 : decode cX8_setPresent 11 = .ok (.invokestatic 54, 3) := by decide +kernel
theorem dX8_setPresent_14 : decode cX8_setPresent 14 = .ok (.ifCond .eq 7, 3) := by decide +kernel
theorem dX8_setPresent_17 : decode cX8_setPresent 17 = .ok (.iconst 1, 1) := by decide +kernel
theorem dX8_setPresent_18 : decode cX8_setPresent 18 = .ok (.goto 4, 3) := by decide +kernel
theorem dX8_setPresent_21 : decode cX8_setPresent 21 = .ok (.iconst 0, 1) := by decide +kernel
theorem dX8_setPresent_22 : decode cX8_setPresent 22 = .ok (.istore 4, 2) := by decide +kernel
theorem dX8_setPresent_24 : decode cX8_setPresent 24 = .ok (.iload_n 3, 1) := by decide +kernel
theorem dX8_setPresent_25 : decode cX8_setPresent 25 = .ok (.iconst 0, 1) := by decide +kernel
theorem dX8_setPresent_26 : decode cX8_setPresent 26 = .ok (.bipush 60, 2) := by decide +kernel
theorem dX8_setPresent_28 : decode cX8_setPresent 28 = .ok (.invokestatic 54, 3) := by decide +kernel
theorem dX8_setPresent_31 : decode cX8_setPresent 31 = .ok (.istore 5, 2) := by decide +kernel
theorem dX8_setPresent_33 : decode cX8_setPresent 33 = .ok (.iload 4, 2) := by decide +kernel
theorem dX8_setPresent_35 : decode cX8_setPresent 35 = .ok (.ifCond .eq 16, 3) := by decide +kernel
theorem dX8_setPresent_38 : decode cX8_setPresent 38 = .ok (.aload_n 0, 1) := by decide +kernel
theorem dX8_setPresent_39 : decode cX8_setPresent 39 = .ok (.getfield 20, 3) := by decide +kernel
theorem dX8_setPresent_42 : decode cX8_setPresent 42 = .ok (.iconst 5, 1) := by decide +kernel
theorem dX8_setPresent_43 : decode cX8_setPresent 43 = .ok (.iload_n 1, 1) := by decide +kernel
theorem dX8_setPresent_44 : decode cX8_setPresent 44 = .ok (.imul, 1) := by decide +kernel
theorem dX8_setPresent_45 : decode cX8_setPresent 45 = .ok (.iload_n 2, 1) := by decide +kernel
theorem dX8_setPresent_46 : decode cX8_setPresent 46 = .ok (.iadd, 1) := by decide +kernel
theorem dX8_setPresent_47 : decode cX8_setPresent 47 = .ok (.iaload, 1) := by decide +kernel
theorem dX8_setPresent_48 : decode cX8_setPresent 48 = .ok (.goto 4, 3) := by decide +kernel
theorem dX8_setPresent_51 : decode cX8_setPresent 51 = .ok (.iconst 0, 1) := by decide +kernel
theorem dX8_setPresent_52 : decode cX8_setPresent 52 = .ok (.istore 6, 2) := by decide +kernel
theorem dX8_setPresent_54 : decode cX8_setPresent 54 = .ok (.iload 4, 2) := by decide +kernel
theorem dX8_setPresent_56 : decode cX8_setPresent 56 = .ok (.ifCond .eq 33, 3) := by decide +kernel
theorem dX8_setPresent_59 : decode cX8_setPresent 59 = .ok (.iload 5, 2) := by decide +kernel
theorem dX8_setPresent_61 : decode cX8_setPresent 61 = .ok (.ifCond .eq 28, 3) := by decide +kernel
theorem dX8_setPresent_64 : decode cX8_setPresent 64 = .ok (.aload_n 0, 1) := by decide +kernel
theorem dX8_setPresent_65 : decode cX8_setPresent 65 = .ok (.getfield 29, 3) := by decide +kernel
theorem dX8_setPresent_68 : decode cX8_setPresent 68 = .ok (.iload_n 1, 1) := by decide +kernel
theorem dX8_setPresent_69 : decode cX8_setPresent 69 = .ok (.iaload, 1) := by decide +kernel
theorem dX8_setPresent_70 : decode cX8_setPresent 70 = .ok (.iconst (-1), 1) := by decide +kernel
theorem dX8_setPresent_71 : decode cX8_setPresent 71 = .ok (.if_icmp .eq 18, 3) := by decide +kernel
theorem dX8_setPresent_74 : decode cX8_setPresent 74 = .ok (.iload_n 3, 1) := by decide +kernel
theorem dX8_setPresent_75 : decode cX8_setPresent 75 = .ok (.aload_n 0, 1) := by decide +kernel
theorem dX8_setPresent_76 : decode cX8_setPresent 76 = .ok (.getfield 17, 3) := by decide +kernel
theorem dX8_setPresent_79 : decode cX8_setPresent 79 = .ok (.aload_n 0, 1) := by decide +kernel
theorem dX8_setPresent_80 : decode cX8_setPresent 80 = .ok (.getfield 29, 3) := by decide +kernel
theorem dX8_setPresent_83 : decode cX8_setPresent 83 = .ok (.iload_n 1, 1) := by decide +kernel
theorem dX8_setPresent_84 : decode cX8_setPresent 84 = .ok (.iaload, 1) := by decide +kernel
theorem dX8_setPresent_85 : decode cX8_setPresent 85 = .ok (.iaload, 1) := by decide +kernel
theorem dX8_setPresent_86 : decode cX8_setPresent 86 = .ok (.if_icmp .gt 7, 3) := by decide +kernel
theorem dX8_setPresent_89 : decode cX8_setPresent 89 = .ok (.iconst 1, 1) := by decide +kernel
theorem dX8_setPresent_90 : decode cX8_setPresent 90 = .ok (.goto 4, 3) := by decide +kernel
theorem dX8_setPresent_93 : decode cX8_setPresent 93 = .ok (.iconst 0, 1) := by decide +kernel
theorem dX8_setPresent_94 : decode cX8_setPresent 94 = .ok (.istore 7, 2) := by decide +kernel
theorem dX8_setPresent_96 : decode cX8_setPresent 96 = .ok (.aload_n 0, 1) := by decide +kernel
theorem dX8_setPresent_97 : decode cX8_setPresent 97 = .ok (.iload 4, 2) := by decide +kernel
theorem dX8_setPresent_99 : decode cX8_setPresent 99 = .ok (.iload 5, 2) := by decide +kernel
theorem dX8_setPresent_101 : decode cX8_setPresent 101 = .ok (.iload 7, 2) := by decide +kernel
theorem dX8_setPresent_103 : decode cX8_setPresent 103 = .ok (.invokevirtual 80, 3) := by decide +kernel
theorem dX8_setPresent_106 : decode cX8_setPresent 106 = .ok (.ifCond .ne 5, 3) := by decide +kernel
theorem dX8_setPresent_109 : decode cX8_setPresent 109 = .ok (.iconst 0, 1) := by decide +kernel
theorem dX8_setPresent_110 : decode cX8_setPresent 110 = .ok (.ireturn, 1) := by decide +kernel
theorem dX8_setPresent_111 : decode cX8_setPresent 111 = .ok (.aload_n 0, 1) := by decide +kernel
theorem dX8_setPresent_112 : decode cX8_setPresent 112 = .ok (.getfield 20, 3) := by decide +kernel
theorem dX8_setPresent_115 : decode cX8_setPresent 115 = .ok (.iconst 5, 1) := by decide +kernel
theorem dX8_setPresent_116 : decode cX8_setPresent 116 = .ok (.iload_n 1, 1) := by decide +kernel
theorem dX8_setPresent_117 : decode cX8_setPresent 117 = .ok (.imul, 1) := by decide +kernel
theorem dX8_setPresent_118 : decode cX8_setPresent 118 = .ok (.iload_n 2, 1) := by decide +kernel
theorem dX8_setPresent_119 : decode cX8_setPresent 119 = .ok (.iadd, 1) := by decide +kernel
theorem dX8_setPresent_120 : decode cX8_setPresent 120 = .ok (.iload_n 3, 1) := by decide +kernel
theorem dX8_setPresent_121 : decode cX8_setPresent 121 = .ok (.iastore, 1) := by decide +kernel
theorem dX8_setPresent_122 : decode cX8_setPresent 122 = .ok (.iload 6, 2) := by decide +kernel
theorem dX8_setPresent_124 : decode cX8_setPresent 124 = .ok (.ireturn, 1) := by decide +kernel
theorem dX8_setWish_0 : decode cX8_setWish 0 = .ok (.aload_n 0, 1) := by decide +kernel
theorem dX8_setWish_1 : decode cX8_setWish 1 = .ok (.aload_n 0, 1) := by decide +kernel
theorem dX8_setWish_2 : decode cX8_setWish 2 = .ok (.iload_n 1, 1) := by decide +kernel
theorem dX8_setWish_3 : decode cX8_setWish 3 = .ok (.invokevirtual 92, 3) := by decide +kernel
theorem dX8_setWish_6 : decode cX8_setWish 6 = .ok (.ifCond .eq 15, 3) := by decide +kernel
theorem dX8_setWish_9 : decode cX8_setWish 9 = .ok (.aload_n 0, 1) := by decide +kernel
theorem dX8_setWish_10 : decode cX8_setWish 10 = .ok (.iload_n 2, 1) := by decide +kernel
theorem dX8_setWish_11 : decode cX8_setWish 11 = .ok (.invokevirtual 83, 3) := by decide +kernel
theorem dX8_setWish_14 : decode cX8_setWish 14 = .ok (.ifCond .eq 7, 3) := by decide +kernel
theorem dX8_setWish_17 : decode cX8_setWish 17 = .ok (.iconst 1, 1) := by decide +kernel
theorem dX8_setWish_18 : decode cX8_setWish 18 = .ok (.goto 4, 3) := by decide +kernel
theorem dX8_setWish_21 : decode cX8_setWish 21 = .ok (.iconst 0, 1) := by decide +kernel
theorem dX8_setWish_22 : decode cX8_setWish 22 = .ok (.iload_n 3, 1) := by decide +kernel
theorem dX8_setWish_23 : decode cX8_setWish 23 = .ok (.iconst 0, 1) := by decide +kernel
theorem dX8_setWish_24 : decode cX8_setWish 24 = .ok (.bipush 99, 2) := by decide +kernel
theorem dX8_setWish_26 : decode cX8_setWish 26 = .ok (.invokestatic 54, 3) := by decide +kernel
theorem dX8_setWish_29 : decode cX8_setWish 29 = .ok (.invokevirtual 76, 3) := by decide +kernel
theorem dX8_setWish_32 : decode cX8_setWish 32 = .ok (.ifCond .ne 5, 3) := by decide +kernel
theorem dX8_setWish_35 : decode cX8_setWish 35 = .ok (.iconst 0, 1) := by decide +kernel
theorem dX8_setWish_36 : decode cX8_setWish 36 = .ok (.ireturn, 1) := by decide +kernel
theorem dX8_setWish_37 : decode cX8_setWish 37 = .ok (.aload_n 0, 1) := by decide +kernel
theorem dX8_setWish_38 : decode cX8_setWish 38 = .ok (.getfield 23, 3) := by decide +kernel
theorem dX8_setWish_41 : decode cX8_setWish 41 = .ok (.bipush 7, 2) := by decide +kernel
theorem dX8_setWish_43 : decode cX8_setWish 43 = .ok (.iload_n 1, 1) := by decide +kernel
theorem dX8_setWish_44 : decode cX8_setWish 44 = .ok (.imul, 1) := by decide +kernel
theorem dX8_setWish_45 : decode cX8_setWish 45 = .ok (.iload_n 2, 1) := by decide +kernel
theorem dX8_setWish_46 : decode cX8_setWish 46 = .ok (.iadd, 1) := by decide +kernel
theorem dX8_setWish_47 : decode cX8_setWish 47 = .ok (.iaload, 1) := by decide +kernel
theorem dX8_setWish_48 : decode cX8_setWish 48 = .ok (.istore 4, 2) := by decide +kernel
theorem dX8_setWish_50 : decode cX8_setWish 50 = .ok (.aload_n 0, 1) := by decide +kernel
theorem dX8_setWish_51 : decode cX8_setWish 51 = .ok (.getfield 23, 3) := by decide +kernel
theorem dX8_setWish_54 : decode cX8_setWish 54 = .ok (.bipush 7, 2) := by decide +kernel
theorem dX8_setWish_56 : decode cX8_setWish 56 = .ok (.iload_n 1, 1) := by decide +kernel
theorem dX8_setWish_57 : decode cX8_setWish 57 = .ok (.imul, 1) := by decide +kernel
theorem dX8_setWish_58 : decode cX8_setWish 58 = .ok (.iload_n 2, 1) := by decide +kernel
theorem dX8_setWish_59 : decode cX8_setWish 59 = .ok (.iadd, 1) := by decide +kernel
theorem dX8_setWish_60 : decode cX8_setWish 60 = .ok (.iload_n 3, 1) := by decide +kernel
theorem dX8_setWish_61 : decode cX8_setWish 61 = .ok (.iastore, 1) := by decide +kernel
theorem dX8_setWish_62 : decode cX8_setWish 62 = .ok (.iload 4, 2) := by decide +kernel
theorem dX8_setWish_64 : decode cX8_setWish 64 = .ok (.ireturn, 1) := by decide +kernel
theorem dX8_setTie_0 : decode cX8_setTie 0 = .ok (.aload_n 0, 1) := by decide +kernel
theorem dX8_setTie_1 : decode cX8_setTie 1 = .ok (.aload_n 0, 1) := by decide +kernel
theorem dX8_setTie_2 : decode cX8_setTie 2 = .ok (.iload_n 1, 1) := by decide +kernel
theorem dX8_setTie_3 : decode cX8_setTie 3 = .ok (.invokevirtual 92, 3) := by decide +kernel
theorem dX8_setTie_6 : decode cX8_setTie 6 = .ok (.ifCond .eq 15, 3) := by decide +kernel
theorem dX8_setTie_9 : decode cX8_setTie 9 = .ok (.aload_n 0, 1) := by decide +kernel
theorem dX8_setTie_10 : decode cX8_setTie 10 = .ok (.iload_n 2, 1) := by decide +kernel
theorem dX8_setTie_11 : decode cX8_setTie 11 = .ok (.invokevirtual 92, 3) := by decide +kernel
theorem dX8_setTie_14 : decode cX8_setTie 14 = .ok (.ifCond .eq 7, 3) := by decide +kernel
theorem dX8_setTie_17 : decode cX8_setTie 17 = .ok (.iconst 1, 1) := by decide +kernel
theorem dX8_setTie_18 : decode cX8_setTie 18 = .ok (.goto 4, 3) := by decide +kernel
theorem dX8_setTie_21 : decode cX8_setTie 21 = .ok (.iconst 0, 1) := by decide +kernel
theorem dX8_setTie_22 : decode cX8_setTie 22 = .ok (.iload_n 3, 1) := by decide +kernel
theorem dX8_setTie_23 : decode cX8_setTie 23 = .ok (.iconst 0, 1) := by decide +kernel
theorem dX8_setTie_24 : decode cX8_setTie 24 = .ok (.bipush 9, 2) := by decide +kernel
theorem dX8_setTie_26 : decode cX8_setTie 26 = .ok (.invokestatic 54, 3) := by decide +kernel
theorem dX8_setTie_29 : decode cX8_setTie 29 = .ok (.ifCond .eq 12, 3) := by decide +kernel
theorem dX8_setTie_32 : decode cX8_setTie 32 = .ok (.iload_n 1, 1) := by decide +kernel
theorem dX8_setTie_33 : decode cX8_setTie 33 = .ok (.iload_n 2, 1) := by decide +kernel
theorem dX8_setTie_34 : decode cX8_setTie 34 = .ok (.if_icmp .eq 7, 3) := by decide +kernel
theorem dX8_setTie_37 : decode cX8_setTie 37 = .ok (.iconst 1, 1) := by decide +kernel
theorem dX8_setTie_38 : decode cX8_setTie 38 = .ok (.goto 4, 3) := by decide +kernel
theorem dX8_setTie_41 : decode cX8_setTie 41 = .ok (.iconst 0, 1) := by decide +kernel
theorem dX8_setTie_42 : decode cX8_setTie 42 = .ok (.invokevirtual 76, 3) := by decide +kernel
theorem dX8_setTie_45 : decode cX8_setTie 45 = .ok (.ifCond .ne 5, 3) := by decide +kernel
theorem dX8_setTie_48 : decode cX8_setTie 48 = .ok (.iconst 0, 1) := by decide +kernel
theorem dX8_setTie_49 : decode cX8_setTie 49 = .ok (.ireturn, 1) := by decide +kernel
theorem dX8_setTie_50 : decode cX8_setTie 50 = .ok (.aload_n 0, 1) := by decide +kernel
theorem dX8_setTie_51 : decode cX8_setTie 51 = .ok (.getfield 26, 3) := by decide +kernel
theorem dX8_setTie_54 : decode cX8_setTie 54 = .ok (.bipush 7, 2) := by decide +kernel
theorem dX8_setTie_56 : decode cX8_setTie 56 = .ok (.iload_n 1, 1) := by decide +kernel
theorem dX8_setTie_57 : decode cX8_setTie 57 = .ok (.imul, 1) := by decide +kernel
theorem dX8_setTie_58 : decode cX8_setTie 58 = .ok (.iload_n 2, 1) := by decide +kernel
theorem dX8_setTie_59 : decode cX8_setTie 59 = .ok (.iadd, 1) := by decide +kernel
theorem dX8_setTie_60 : decode cX8_setTie 60 = .ok (.iaload, 1) := by decide +kernel
theorem dX8_setTie_61 : decode cX8_setTie 61 = .ok (.istore 4, 2) := by decide +kernel
theorem dX8_setTie_63 : decode cX8_setTie 63 = .ok (.aload_n 0, 1) := by decide +kernel
theorem dX8_setTie_64 : decode cX8_setTie 64 = .ok (.getfield 26, 3) := by decide +kernel
theorem dX8_setTie_67 : decode cX8_setTie 67 = .ok (.bipush 7, 2) := by decide +kernel
theorem dX8_setTie_69 : decode cX8_setTie 69 = .ok (.iload_n 1, 1) := by decide +kernel
theorem dX8_setTie_70 : decode cX8_setTie 70 = .ok (.imul, 1) := by decide +kernel
theorem dX8_setTie_71 : decode cX8_setTie 71 = .ok (.iload_n 2, 1) := by decide +kernel
theorem dX8_setTie_72 : decode cX8_setTie 72 = .ok (.iadd, 1) := by decide +kernel
theorem dX8_setTie_73 : decode cX8_setTie 73 = .ok (.iload_n 3, 1) := by decide +kernel
theorem dX8_setTie_74 : decode cX8_setTie 74 = .ok (.iastore, 1) := by decide +kernel
theorem dX8_setTie_75 : decode cX8_setTie 75 = .ok (.aload_n 0, 1) := by decide +kernel
theorem dX8_setTie_76 : decode cX8_setTie 76 = .ok (.getfield 26, 3) := by decide +kernel
theorem dX8_setTie_79 : decode cX8_setTie 79 = .ok (.bipush 7, 2) := by decide +kernel
theorem dX8_setTie_81 : decode cX8_setTie 81 = .ok (.iload_n 2, 1) := by decide +kernel
theorem dX8_setTie_82 : decode cX8_setTie 82 = .ok (.imul, 1) := by decide +kernel
theorem dX8_setTie_83 : decode cX8_setTie 83 = .ok (.iload_n 1, 1) := by decide +kernel
theorem dX8_setTie_84 : decode cX8_setTie 84 = .ok (.iadd, 1) := by decide +kernel
theorem dX8_setTie_85 : decode cX8_setTie 85 = .ok (.iload_n 3, 1) := by decide +kernel
theorem dX8_setTie_86 : decode cX8_setTie 86 = .ok (.iastore, 1) := by decide +kernel
theorem dX8_setTie_87 : decode cX8_setTie 87 = .ok (.iload 4, 2) := by decide +kernel
theorem dX8_setTie_89 : decode cX8_setTie 89 = .ok (.ireturn, 1) := by decide +kernel
theorem dX8_walks_0 : decode cX8_walks 0 = .ok (.iconst 0, 1) := by decide +kernel
theorem dX8_walks_1 : decode cX8_walks 1 = .ok (.istore_n 2, 1) := by decide +kernel
theorem dX8_walks_2 : decode cX8_walks 2 = .ok (.iload_n 2, 1) := by decide +kernel
theorem dX8_walks_3 : decode cX8_walks 3 = .ok (.bipush 64, 2) := by decide +kernel
theorem dX8_walks_5 : decode cX8_walks 5 = .ok (.if_icmp .ge 25, 3) := by decide +kernel
theorem dX8_walks_8 : decode cX8_walks 8 = .ok (.aload_n 0, 1) := by decide +kernel
theorem dX8_walks_9 : decode cX8_walks 9 = .ok (.getfield 38, 3) := by decide +kernel
theorem dX8_walks_12 : decode cX8_walks 12 = .ok (.iload_n 2, 1) := by decide +kernel
theorem dX8_walks_13 : decode cX8_walks 13 = .ok (.iload_n 2, 1) := by decide +kernel
theorem dX8_walks_14 : decode cX8_walks 14 = .ok (.iload_n 1, 1) := by decide +kernel
theorem dX8_walks_15 : decode cX8_walks 15 = .ok (.if_icmp .ne 7, 3) := by decide +kernel
theorem dX8_walks_18 : decode cX8_walks 18 = .ok (.iconst 0, 1) := by decide +kernel
theorem dX8_walks_19 : decode cX8_walks 19 = .ok (.goto 4, 3) := by decide +kernel
theorem dX8_walks_22 : decode cX8_walks 22 = .ok (.iconst (-1), 1) := by decide +kernel
theorem dX8_walks_23 : decode cX8_walks 23 = .ok (.iastore, 1) := by decide +kernel
theorem dX8_walks_24 : decode cX8_walks 24 = .ok (.iinc 2 1, 3) := by decide +kernel
theorem dX8_walks_27 : decode cX8_walks 27 = .ok (.goto (-25), 3) := by decide +kernel
theorem dX8_walks_30 : decode cX8_walks 30 = .ok (.iconst 0, 1) := by decide +kernel
theorem dX8_walks_31 : decode cX8_walks 31 = .ok (.istore_n 2, 1) := by decide +kernel
theorem dX8_walks_32 : decode cX8_walks 32 = .ok (.iload_n 2, 1) := by decide +kernel
theorem dX8_walks_33 : decode cX8_walks 33 = .ok (.bipush 64, 2) := by decide +kernel
theorem dX8_walks_35 : decode cX8_walks 35 = .ok (.if_icmp .ge 101, 3) := by decide +kernel
theorem dX8_walks_38 : decode cX8_walks 38 = .ok (.iconst 0, 1) := by decide +kernel
theorem dX8_walks_39 : decode cX8_walks 39 = .ok (.istore_n 3, 1) := by decide +kernel
theorem dX8_walks_40 : decode cX8_walks 40 = .ok (.iload_n 3, 1) := by decide +kernel
theorem dX8_walks_41 : decode cX8_walks 41 = .ok (.bipush 64, 2) := by decide +kernel
theorem dX8_walks_43 : decode cX8_walks 43 = .ok (.if_icmp .ge 87, 3) := by decide +kernel
theorem dX8_walks_46 : decode cX8_walks 46 = .ok (.aload_n 0, 1) := by decide +kernel
theorem dX8_walks_47 : decode cX8_walks 47 = .ok (.getfield 38, 3) := by decide +kernel
theorem dX8_walks_50 : decode cX8_walks 50 = .ok (.iload_n 3, 1) := by decide +kernel
theorem dX8_walks_51 : decode cX8_walks 51 = .ok (.iaload, 1) := by decide +kernel
theorem dX8_walks_52 : decode cX8_walks 52 = .ok (.iload_n 2, 1) := by decide +kernel
theorem dX8_walks_53 : decode cX8_walks 53 = .ok (.if_icmp .ne 71, 3) := by decide +kernel
theorem dX8_walks_56 : decode cX8_walks 56 = .ok (.aload_n 0, 1) := by decide +kernel
theorem dX8_walks_57 : decode cX8_walks 57 = .ok (.iload_n 3, 1) := by decide +kernel
theorem dX8_walks_58 : decode cX8_walks 58 = .ok (.bipush 8, 2) := by decide +kernel
theorem dX8_walks_60 : decode cX8_walks 60 = .ok (.irem, 1) := by decide +kernel
theorem dX8_walks_61 : decode cX8_walks 61 = .ok (.iconst 1, 1) := by decide +kernel
theorem dX8_walks_62 : decode cX8_walks 62 = .ok (.isub, 1) := by decide +kernel
theorem dX8_walks_63 : decode cX8_walks 63 = .ok (.iload_n 3, 1) := by decide +kernel
theorem dX8_walks_64 : decode cX8_walks 64 = .ok (.bipush 8, 2) := by decide +kernel
theorem dX8_walks_66 : decode cX8_walks 66 = .ok (.idiv, 1) := by decide +kernel
theorem dX8_walks_67 : decode cX8_walks 67 = .ok (.iload_n 2, 1) := by decide +kernel
theorem dX8_walks_68 : decode cX8_walks 68 = .ok (.iconst 1, 1) := by decide +kernel
theorem dX8_walks_69 : decode cX8_walks 69 = .ok (.iadd, 1) := by decide +kernel
theorem dX8_walks_70 : decode cX8_walks 70 = .ok (.invokevirtual 95, 3) := by decide +kernel
theorem dX8_walks_73 : decode cX8_walks 73 = .ok (.aload_n 0, 1) := by decide +kernel
theorem dX8_walks_74 : decode cX8_walks 74 = .ok (.iload_n 3, 1) := by decide +kernel
theorem dX8_walks_75 : decode cX8_walks 75 = .ok (.bipush 8, 2) := by decide +kernel
theorem dX8_walks_77 : decode cX8_walks 77 = .ok (.irem, 1) := by decide +kernel
theorem dX8_walks_78 : decode cX8_walks 78 = .ok (.iconst 1, 1) := by decide +kernel
theorem dX8_walks_79 : decode cX8_walks 79 = .ok (.iadd, 1) := by decide +kernel
theorem dX8_walks_80 : decode cX8_walks 80 = .ok (.iload_n 3, 1) := by decide +kernel
theorem dX8_walks_81 : decode cX8_walks 81 = .ok (.bipush 8, 2) := by decide +kernel
theorem dX8_walks_83 : decode cX8_walks 83 = .ok (.idiv, 1) := by decide +kernel
theorem dX8_walks_84 : decode cX8_walks 84 = .ok (.iload_n 2, 1) := by decide +kernel
theorem dX8_walks_85 : decode cX8_walks 85 = .ok (.iconst 1, 1) := by decide +kernel
theorem dX8_walks_86 : decode cX8_walks 86 = .ok (.iadd, 1) := by decide +kernel
theorem dX8_walks_87 : decode cX8_walks 87 = .ok (.invokevirtual 95, 3) := by decide +kernel
theorem dX8_walks_90 : decode cX8_walks 90 = .ok (.aload_n 0, 1) := by decide +kernel
theorem dX8_walks_91 : decode cX8_walks 91 = .ok (.iload_n 3, 1) := by decide +kernel
theorem dX8_walks_92 : decode cX8_walks 92 = .ok (.bipush 8, 2) := by decide +kernel
theorem dX8_walks_94 : decode cX8_walks 94 = .ok (.irem, 1) := by decide +kernel
theorem dX8_walks_95 : decode cX8_walks 95 = .ok (.iload_n 3, 1) := by decide +kernel
theorem dX8_walks_96 : decode cX8_walks 96 = .ok (.bipush 8, 2) := by decide +kernel
theorem dX8_walks_98 : decode cX8_walks 98 = .ok (.idiv, 1) := by decide +kernel
theorem dX8_walks_99 : decode cX8_walks 99 = .ok (.iconst 1, 1) := by decide +kernel
theorem dX8_walks_100 : decode cX8_walks 100 = .ok (.isub, 1) := by decide +kernel
theorem dX8_walks_101 : decode cX8_walks 101 = .ok (.iload_n 2, 1) := by decide +kernel
theorem dX8_walks_102 : decode cX8_walks 102 = .ok (.iconst 1, 1) := by decide +kernel
theorem dX8_walks_103 : decode cX8_walks 103 = .ok (.iadd, 1) := by decide +kernel
theorem dX8_walks_104 : decode cX8_walks 104 = .ok (.invokevirtual 95, 3) := by decide +kernel
theorem dX8_walks_107 : decode cX8_walks 107 = .ok (.aload_n 0, 1) := by decide +kernel
theorem dX8_walks_108 : decode cX8_walks 108 = .ok (.iload_n 3, 1) := by decide +kernel
theorem dX8_walks_109 : decode cX8_walks 109 = .ok (.bipush 8, 2) := by decide +kernel
theorem dX8_walks_111 : decode cX8_walks 111 = .ok (.irem, 1) := by decide +kernel
theorem dX8_walks_112 : decode cX8_walks 112 = .ok (.iload_n 3, 1) := by decide +kernel
theorem dX8_walks_113 : decode cX8_walks 113 = .ok (.bipush 8, 2) := by decide +kernel
theorem dX8_walks_115 : decode cX8_walks 115 = .ok (.idiv, 1) := by decide +kernel
theorem dX8_walks_116 : decode cX8_walks 116 = .ok (.iconst 1, 1) := by decide +kernel
