theorem dX6_init_0 : decode cX6_init 0 = .ok (.aload_n 0, 1) := by decide +kernel
theorem dX6_init_1 : decode cX6_init 1 = .ok (.invokespecial 3, 3) := by decide +kernel
theorem dX6_init_4 : decode cX6_init 4 = .ok (.aload_n 0, 1) := by decide +kernel
theorem dX6_init_5 : decode cX6_init 5 = .ok (.new 9, 3) := by decide +kernel
theorem dX6_init_8 : decode cX6_init 8 = .ok (.dup, 1) := by decide +kernel
theorem dX6_init_9 : decode cX6_init 9 = .ok (.invokespecial 11, 3) := by decide +kernel
theorem dX6_init_12 : decode cX6_init 12 = .ok (.putfield 12, 3) := by decide +kernel
theorem dX6_init_15 : decode cX6_init 15 = .ok (.aload_n 0, 1) := by decide +kernel
theorem dX6_init_16 : decode cX6_init 16 = .ok (.new 9, 3) := by decide +kernel
theorem dX6_init_19 : decode cX6_init 19 = .ok (.dup, 1) := by decide +kernel
theorem dX6_init_20 : decode cX6_init 20 = .ok (.invokespecial 11, 3) := by decide +kernel
theorem dX6_init_23 : decode cX6_init 23 = .ok (.putfield 18, 3) := by decide +kernel
theorem dX6_init_26 : decode cX6_init 26 = .ok (.aload_n 0, 1) := by decide +kernel
theorem dX6_init_27 : decode cX6_init 27 = .ok (.bipush 7, 2) := by decide +kernel
theorem dX6_init_29 : decode cX6_init 29 = .ok (.newarray .int, 2) := by decide +kernel
theorem dX6_init_31 : decode cX6_init 31 = .ok (.putfield 21, 3) := by decide +kernel
theorem dX6_init_34 : decode cX6_init 34 = .ok (.aload_n 0, 1) := by decide +kernel
theorem dX6_init_35 : decode cX6_init 35 = .ok (.new 25, 3) := by decide +kernel
theorem dX6_init_38 : decode cX6_init 38 = .ok (.dup, 1) := by decide +kernel
theorem dX6_init_39 : decode cX6_init 39 = .ok (.invokespecial 27, 3) := by decide +kernel
theorem dX6_init_42 : decode cX6_init 42 = .ok (.putfield 28, 3) := by decide +kernel
theorem dX6_init_45 : decode cX6_init 45 = .ok (.return_, 1) := by decide +kernel
theorem dX6_run_0 : decode cX6_run 0 = .ok (.aload_n 0, 1) := by decide +kernel
theorem dX6_run_1 : decode cX6_run 1 = .ok (.getfield 12, 3) := by decide +kernel
theorem dX6_run_4 : decode cX6_run 4 = .ok (.aload_n 2, 1) := by decide +kernel
theorem dX6_run_5 : decode cX6_run 5 = .ok (.invokevirtual 32, 3) := by decide +kernel
theorem dX6_run_8 : decode cX6_run 8 = .ok (.aload_n 0, 1) := by decide +kernel
theorem dX6_run_9 : decode cX6_run 9 = .ok (.getfield 18, 3) := by decide +kernel
theorem dX6_run_12 : decode cX6_run 12 = .ok (.aload_n 2, 1) := by decide +kernel
theorem dX6_run_13 : decode cX6_run 13 = .ok (.invokevirtual 32, 3) := by decide +kernel
theorem dX6_run_16 : decode cX6_run 16 = .ok (.aload_n 0, 1) := by decide +kernel
theorem dX6_run_17 : decode cX6_run 17 = .ok (.getfield 21, 3) := by decide +kernel
theorem dX6_run_20 : decode cX6_run 20 = .ok (.iconst 0, 1) := by decide +kernel
theorem dX6_run_21 : decode cX6_run 21 = .ok (.invokestatic 36, 3) := by decide +kernel
theorem dX6_run_24 : decode cX6_run 24 = .ok (.aload_n 1, 1) := by decide +kernel
theorem dX6_run_25 : decode cX6_run 25 = .ok (.aload_n 2, 1) := by decide +kernel
theorem dX6_run_26 : decode cX6_run 26 = .ok (.invokevirtual 42, 3) := by decide +kernel
theorem dX6_run_29 : decode cX6_run 29 = .ok (.istore 5, 2) := by decide +kernel
theorem dX6_run_31 : decode cX6_run 31 = .ok (.iconst 0, 1) := by decide +kernel
theorem dX6_run_32 : decode cX6_run 32 = .ok (.istore 6, 2) := by decide +kernel
theorem dX6_run_34 : decode cX6_run 34 = .ok (.iload 6, 2) := by decide +kernel
theorem dX6_run_36 : decode cX6_run 36 = .ok (.iload_n 3, 1) := by decide +kernel
theorem dX6_run_37 : decode cX6_run 37 = .ok (.if_icmp .ge 72, 3) := by decide +kernel
theorem dX6_run_40 : decode cX6_run 40 = .ok (.aload_n 0, 1) := by decide +kernel
theorem dX6_run_41 : decode cX6_run 41 = .ok (.aload_n 1, 1) := by decide +kernel
theorem dX6_run_42 : decode cX6_run 42 = .ok (.iload 6, 2) := by decide +kernel
theorem dX6_run_44 : decode cX6_run 44 = .ok (.invokevirtual 48, 3) := by decide +kernel
theorem dX6_run_47 : decode cX6_run 47 = .ok (.aload_n 0, 1) := by decide +kernel
theorem dX6_run_48 : decode cX6_run 48 = .ok (.getfield 28, 3) := by decide +kernel
theorem dX6_run_51 : decode cX6_run 51 = .ok (.getfield 52, 3) := by decide +kernel
theorem dX6_run_54 : decode cX6_run 54 = .ok (.ifCond .ne 6, 3) := by decide +kernel
theorem dX6_run_57 : decode cX6_run 57 = .ok (.goto 52, 3) := by decide +kernel
theorem dX6_run_60 : decode cX6_run 60 = .ok (.aload_n 0, 1) := by decide +kernel
theorem dX6_run_61 : decode cX6_run 61 = .ok (.iload 6, 2) := by decide +kernel
theorem dX6_run_63 : decode cX6_run 63 = .ok (.iload 4, 2) := by decide +kernel
theorem dX6_run_65 : decode cX6_run 65 = .ok (.iadd, 1) := by decide +kernel
theorem dX6_run_66 : decode cX6_run 66 = .ok (.iconst 1, 1) := by decide +kernel
theorem dX6_run_67 : decode cX6_run 67 = .ok (.iadd, 1) := by decide +kernel
theorem dX6_run_68 : decode cX6_run 68 = .ok (.invokevirtual 56, 3) := by decide +kernel
theorem dX6_run_71 : decode cX6_run 71 = .ok (.aload_n 0, 1) := by decide +kernel
theorem dX6_run_72 : decode cX6_run 72 = .ok (.getfield 28, 3) := by decide +kernel
theorem dX6_run_75 : decode cX6_run 75 = .ok (.getfield 60, 3) := by decide +kernel
theorem dX6_run_78 : decode cX6_run 78 = .ok (.iload 5, 2) := by decide +kernel
theorem dX6_run_80 : decode cX6_run 80 = .ok (.if_icmp .ge 23, 3) := by decide +kernel
theorem dX6_run_83 : decode cX6_run 83 = .ok (.aload_n 0, 1) := by decide +kernel
theorem dX6_run_84 : decode cX6_run 84 = .ok (.getfield 28, 3) := by decide +kernel
theorem dX6_run_87 : decode cX6_run 87 = .ok (.getfield 60, 3) := by decide +kernel
theorem dX6_run_90 : decode cX6_run 90 = .ok (.istore 5, 2) := by decide +kernel
theorem dX6_run_92 : decode cX6_run 92 = .ok (.aload_n 0, 1) := by decide +kernel
theorem dX6_run_93 : decode cX6_run 93 = .ok (.getfield 18, 3) := by decide +kernel
theorem dX6_run_96 : decode cX6_run 96 = .ok (.aload_n 0, 1) := by decide +kernel
theorem dX6_run_97 : decode cX6_run 97 = .ok (.getfield 12, 3) := by decide +kernel
theorem dX6_run_100 : decode cX6_run 100 = .ok (.invokevirtual 32, 3) := by decide +kernel
theorem dX6_run_103 : decode cX6_run 103 = .ok (.iinc 6 1, 3) := by decide +kernel
theorem dX6_run_106 : decode cX6_run 106 = .ok (.goto (-72), 3) := by decide +kernel
theorem dX6_run_109 : decode cX6_run 109 = .ok (.iload 5, 2) := by decide +kernel
theorem dX6_run_111 : decode cX6_run 111 = .ok (.ireturn, 1) := by decide +kernel
theorem dX6_chooseChange_0 : decode cX6_chooseChange 0 = .ok (.aload_n 0, 1) := by decide +kernel
theorem dX6_chooseChange_1 : decode cX6_chooseChange 1 = .ok (.getfield 28, 3) := by decide +kernel
theorem dX6_chooseChange_4 : decode cX6_chooseChange 4 = .ok (.iconst 0, 1) := by decide +kernel
theorem dX6_chooseChange_5 : decode cX6_chooseChange 5 = .ok (.putfield 52, 3) := by decide +kernel
theorem dX6_chooseChange_8 : decode cX6_chooseChange 8 = .ok (.aload_n 1, 1) := by decide +kernel
theorem dX6_chooseChange_9 : decode cX6_chooseChange 9 = .ok (.getfield 64, 3) := by decide +kernel
theorem dX6_chooseChange_12 : decode cX6_chooseChange 12 = .ok (.getfield 68, 3) := by decide +kernel
theorem dX6_chooseChange_15 : decode cX6_chooseChange 15 = .ok (.istore_n 3, 1) := by decide +kernel
theorem dX6_chooseChange_16 : decode cX6_chooseChange 16 = .ok (.iconst 0, 1) := by decide +kernel
theorem dX6_chooseChange_17 : decode cX6_chooseChange 17 = .ok (.istore 4, 2) := by decide +kernel
theorem dX6_chooseChange_19 : decode cX6_chooseChange 19 = .ok (.iload 4, 2) := by decide +kernel
theorem dX6_chooseChange_21 : decode cX6_chooseChange 21 = .ok (.iload_n 3, 1) := by decide +kernel
theorem dX6_chooseChange_22 : decode cX6_chooseChange 22 = .ok (.if_icmp .ge 58, 3) := by decide +kernel
theorem dX6_chooseChange_25 : decode cX6_chooseChange 25 = .ok (.iload 4, 2) := by decide +kernel
theorem dX6_chooseChange_27 : decode cX6_chooseChange 27 = .ok (.iconst 1, 1) := by decide +kernel
theorem dX6_chooseChange_28 : decode cX6_chooseChange 28 = .ok (.iadd, 1) := by decide +kernel
theorem dX6_chooseChange_29 : decode cX6_chooseChange 29 = .ok (.istore 5, 2) := by decide +kernel
theorem dX6_chooseChange_31 : decode cX6_chooseChange 31 = .ok (.iload 5, 2) := by decide +kernel
theorem dX6_chooseChange_33 : decode cX6_chooseChange 33 = .ok (.iload_n 3, 1) := by decide +kernel
theorem dX6_chooseChange_34 : decode cX6_chooseChange 34 = .ok (.if_icmp .ge 40, 3) := by decide +kernel
theorem dX6_chooseChange_37 : decode cX6_chooseChange 37 = .ok (.aload_n 0, 1) := by decide +kernel
theorem dX6_chooseChange_38 : decode cX6_chooseChange 38 = .ok (.getfield 21, 3) := by decide +kernel
theorem dX6_chooseChange_41 : decode cX6_chooseChange 41 = .ok (.iload 4, 2) := by decide +kernel
theorem dX6_chooseChange_43 : decode cX6_chooseChange 43 = .ok (.iaload, 1) := by decide +kernel
theorem dX6_chooseChange_44 : decode cX6_chooseChange 44 = .ok (.iload_n 2, 1) := by decide +kernel
theorem dX6_chooseChange_45 : decode cX6_chooseChange 45 = .ok (.if_icmp .gt 23, 3) := by decide +kernel
theorem dX6_chooseChange_48 : decode cX6_chooseChange 48 = .ok (.aload_n 0, 1) := by decide +kernel
theorem dX6_chooseChange_49 : decode cX6_chooseChange 49 = .ok (.getfield 21, 3) := by decide +kernel
theorem dX6_chooseChange_52 : decode cX6_chooseChange 52 = .ok (.iload 5, 2) := by decide +kernel
theorem dX6_chooseChange_54 : decode cX6_chooseChange 54 = .ok (.iaload, 1) := by decide +kernel
theorem dX6_chooseChange_55 : decode cX6_chooseChange 55 = .ok (.iload_n 2, 1) := by decide +kernel
theorem dX6_chooseChange_56 : decode cX6_chooseChange 56 = .ok (.if_icmp .gt 12, 3) := by decide +kernel
theorem dX6_chooseChange_59 : decode cX6_chooseChange 59 = .ok (.aload_n 0, 1) := by decide +kernel
theorem dX6_chooseChange_60 : decode cX6_chooseChange 60 = .ok (.aload_n 1, 1) := by decide +kernel
theorem dX6_chooseChange_61 : decode cX6_chooseChange 61 = .ok (.iload 4, 2) := by decide +kernel
theorem dX6_chooseChange_63 : decode cX6_chooseChange 63 = .ok (.iload 5, 2) := by decide +kernel
theorem dX6_chooseChange_65 : decode cX6_chooseChange 65 = .ok (.invokevirtual 73, 3) := by decide +kernel
theorem dX6_chooseChange_68 : decode cX6_chooseChange 68 = .ok (.iinc 5 1, 3) := by decide +kernel
theorem dX6_chooseChange_71 : decode cX6_chooseChange 71 = .ok (.goto (-40), 3) := by decide +kernel
theorem dX6_chooseChange_74 : decode cX6_chooseChange 74 = .ok (.iinc 4 1, 3) := by decide +kernel
theorem dX6_chooseChange_77 : decode cX6_chooseChange 77 = .ok (.goto (-58), 3) := by decide +kernel
theorem dX6_chooseChange_80 : decode cX6_chooseChange 80 = .ok (.iconst 0, 1) := by decide +kernel
theorem dX6_chooseChange_81 : decode cX6_chooseChange 81 = .ok (.istore 4, 2) := by decide +kernel
theorem dX6_chooseChange_83 : decode cX6_chooseChange 83 = .ok (.iload 4, 2) := by decide +kernel
theorem dX6_chooseChange_85 : decode cX6_chooseChange 85 = .ok (.iload_n 3, 1) := by decide +kernel
theorem dX6_chooseChange_86 : decode cX6_chooseChange 86 = .ok (.if_icmp .ge 63, 3) := by decide +kernel
theorem dX6_chooseChange_89 : decode cX6_chooseChange 89 = .ok (.iconst 0, 1) := by decide +kernel
theorem dX6_chooseChange_90 : decode cX6_chooseChange 90 = .ok (.istore 5, 2) := by decide +kernel
theorem dX6_chooseChange_92 : decode cX6_chooseChange 92 = .ok (.iload 5, 2) := by decide +kernel
theorem dX6_chooseChange_94 : decode cX6_chooseChange 94 = .ok (.aload_n 1, 1) := by decide +kernel
theorem dX6_chooseChange_95 : decode cX6_chooseChange 95 = .ok (.getfield 77, 3) := by decide +kernel
theorem dX6_chooseChange_98 : decode cX6_chooseChange 98 = .ok (.getfield 81, 3) := by decide +kernel
theorem dX6_chooseChange_101 : decode cX6_chooseChange 101 = .ok (.if_icmp .ge 42, 3) := by decide +kernel
theorem dX6_chooseChange_104 : decode cX6_chooseChange 104 = .ok (.aload_n 0, 1) := by decide +kernel
theorem dX6_chooseChange_105 : decode cX6_chooseChange 105 = .ok (.getfield 21, 3) := by decide +kernel
theorem dX6_chooseChange_108 : decode cX6_chooseChange 108 = .ok (.iload 4, 2) := by decide +kernel
theorem dX6_chooseChange_110 : decode cX6_chooseChange 110 = .ok (.iaload, 1) := by decide +kernel
theorem dX6_chooseChange_111 : decode cX6_chooseChange 111 = .ok (.iload_n 2, 1) := by decide +kernel
theorem dX6_chooseChange_112 : decode cX6_chooseChange 112 = .ok (.if_icmp .gt 25, 3) := by decide +kernel
theorem dX6_chooseChange_115 : decode cX6_chooseChange 115 = .ok (.aload_n 0, 1) := by decide +kernel
theorem dX6_chooseChange_116 : decode cX6_chooseChange 116 = .ok (.getfield 12, 3) := by decide +kernel
theorem dX6_chooseChange_119 : decode cX6_chooseChange 119 = .ok (.iload 5, 2) := by decide +kernel
theorem dX6_chooseChange_121 : decode cX6_chooseChange 121 = .ok (.invokevirtual 86, 3) := by decide +kernel
theorem dX6_chooseChange_124 : decode cX6_chooseChange 124 = .ok (.iconst (-1), 1) := by decide +kernel
theorem dX6_chooseChange_125 : decode cX6_chooseChange 125 = .ok (.if_icmp .ne 12, 3) := by decide +kernel
theorem dX6_chooseChange_128 : decode cX6_chooseChange 128 = .ok (.aload_n 0, 1) := by decide +kernel
theorem dX6_chooseChange_129 : decode cX6_chooseChange 129 = .ok (.aload_n 1, 1) := by decide +kernel
theorem dX6_chooseChange_130 : decode cX6_chooseChange 130 = .ok (.iload 4, 2) := by decide +kernel
theorem dX6_chooseChange_132 : decode cX6_chooseChange 132 = .ok (.iload 5, 2) := by decide +kernel
theorem dX6_chooseChange_134 : decode cX6_chooseChange 134 = .ok (.invokevirtual 90, 3) := by decide +kernel
theorem dX6_chooseChange_137 : decode cX6_chooseChange 137 = .ok (.iinc 5 1, 3) := by decide +kernel
theorem dX6_chooseChange_140 : decode cX6_chooseChange 140 = .ok (.goto (-48), 3) := by decide +kernel
theorem dX6_chooseChange_143 : decode cX6_chooseChange 143 = .ok (.iinc 4 1, 3) := by decide +kernel
theorem dX6_chooseChange_146 : decode cX6_chooseChange 146 = .ok (.goto (-63), 3) := by decide +kernel
theorem dX6_chooseChange_149 : decode cX6_chooseChange 149 = .ok (.return_, 1) := by decide +kernel
theorem dX6_weighExchange_0 : decode cX6_weighExchange 0 = .ok (.aload_n 0, 1) := by decide +kernel
theorem dX6_weighExchange_1 : decode cX6_weighExchange 1 = .ok (.getfield 12, 3) := by decide +kernel
theorem dX6_weighExchange_4 : decode cX6_weighExchange 4 = .ok (.iload_n 2, 1) := by decide +kernel
theorem dX6_weighExchange_5 : decode cX6_weighExchange 5 = .ok (.invokevirtual 93, 3) := by decide +kernel
theorem dX6_weighExchange_8 : decode cX6_weighExchange 8 = .ok (.istore 4, 2) := by decide +kernel
theorem dX6_weighExchange_10 : decode cX6_weighExchange 10 = .ok (.aload_n 0, 1) := by decide +kernel
theorem dX6_weighExchange_11 : decode cX6_weighExchange 11 = .ok (.getfield 12, 3) := by decide +kernel
theorem dX6_weighExchange_14 : decode cX6_weighExchange 14 = .ok (.iload_n 3, 1) := by decide +kernel
theorem dX6_weighExchange_15 : decode cX6_weighExchange 15 = .ok (.invokevirtual 93, 3) := by decide +kernel
theorem dX6_weighExchange_18 : decode cX6_weighExchange 18 = .ok (.istore 5, 2) := by decide +kernel
theorem dX6_weighExchange_20 : decode cX6_weighExchange 20 = .ok (.iload 4, 2) := by decide +kernel
theorem dX6_weighExchange_22 : decode cX6_weighExchange 22 = .ok (.iconst (-1), 1) := by decide +kernel
theorem dX6_weighExchange_23 : decode cX6_weighExchange 23 = .ok (.if_icmp .eq 9, 3) := by decide +kernel
theorem dX6_weighExchange_26 : decode cX6_weighExchange 26 = .ok (.iload 5, 2) := by decide +kernel
theorem dX6_weighExchange_28 : decode cX6_weighExchange 28 = .ok (.iconst (-1), 1) := by decide +kernel
theorem dX6_weighExchange_29 : decode cX6_weighExchange 29 = .ok (.if_icmp .ne 4, 3) := by decide +kernel
theorem dX6_weighExchange_32 : decode cX6_weighExchange 32 = .ok (.return_, 1) := by decide +kernel
theorem dX6_weighExchange_33 : decode cX6_weighExchange 33 = .ok (.aload_n 1, 1) := by decide +kernel
theorem dX6_weighExchange_34 : decode cX6_weighExchange 34 = .ok (.iload_n 2, 1) := by decide +kernel
theorem dX6_weighExchange_35 : decode cX6_weighExchange 35 = .ok (.iload 5, 2) := by decide +kernel
theorem dX6_weighExchange_37 : decode cX6_weighExchange 37 = .ok (.invokevirtual 96, 3) := by decide +kernel
theorem dX6_weighExchange_40 : decode cX6_weighExchange 40 = .ok (.ifCond .eq 50, 3) := by decide +kernel
theorem dX6_weighExchange_43 : decode cX6_weighExchange 43 = .ok (.aload_n 1, 1) := by decide +kernel
theorem dX6_weighExchange_44 : decode cX6_weighExchange 44 = .ok (.iload_n 3, 1) := by decide +kernel
theorem dX6_weighExchange_45 : decode cX6_weighExchange 45 = .ok (.iload 4, 2) := by decide +kernel
theorem dX6_weighExchange_47 : decode cX6_weighExchange 47 = .ok (.invokevirtual 96, 3) := by decide +kernel
theorem dX6_weighExchange_50 : decode cX6_weighExchange 50 = .ok (.ifCond .eq 40, 3) := by decide +kernel
theorem dX6_weighExchange_53 : decode cX6_weighExchange 53 = .ok (.aload_n 0, 1) := by decide +kernel
theorem dX6_weighExchange_54 : decode cX6_weighExchange 54 = .ok (.getfield 12, 3) := by decide +kernel
theorem dX6_weighExchange_57 : decode cX6_weighExchange 57 = .ok (.iload_n 2, 1) := by decide +kernel
theorem dX6_weighExchange_58 : decode cX6_weighExchange 58 = .ok (.iload_n 3, 1) := by decide +kernel
theorem dX6_weighExchange_59 : decode cX6_weighExchange 59 = .ok (.invokevirtual 100, 3) := by decide +kernel
theorem dX6_weighExchange_62 : decode cX6_weighExchange 62 = .ok (.aload_n 0, 1) := by decide +kernel
theorem dX6_weighExchange_63 : decode cX6_weighExchange 63 = .ok (.getfield 28, 3) := by decide +kernel
theorem dX6_weighExchange_66 : decode cX6_weighExchange 66 = .ok (.iload_n 2, 1) := by decide +kernel
theorem dX6_weighExchange_67 : decode cX6_weighExchange 67 = .ok (.iload_n 3, 1) := by decide +kernel
theorem dX6_weighExchange_68 : decode cX6_weighExchange 68 = .ok (.iload 5, 2) := by decide +kernel
theorem dX6_weighExchange_70 : decode cX6_weighExchange 70 = .ok (.aload_n 1, 1) := by decide +kernel
theorem dX6_weighExchange_71 : decode cX6_weighExchange 71 = .ok (.aload_n 0, 1) := by decide +kernel
theorem dX6_weighExchange_72 : decode cX6_weighExchange 72 = .ok (.getfield 12, 3) := by decide +kernel
theorem dX6_weighExchange_75 : decode cX6_weighExchange 75 = .ok (.invokevirtual 42, 3) := by decide +kernel
theorem dX6_weighExchange_78 : decode cX6_weighExchange 78 = .ok (.invokevirtual 104, 3) := by decide +kernel
theorem dX6_weighExchange_81 : decode cX6_weighExchange 81 = .ok (.aload_n 0, 1) := by decide +kernel
theorem dX6_weighExchange_82 : decode cX6_weighExchange 82 = .ok (.getfield 12, 3) := by decide +kernel
theorem dX6_weighExchange_85 : decode cX6_weighExchange 85 = .ok (.iload_n 2, 1) := by decide +kernel
theorem dX6_weighExchange_86 : decode cX6_weighExchange 86 = .ok (.iload_n 3, 1) := by decide +kernel
theorem dX6_weighExchange_87 : decode cX6_weighExchange 87 = .ok (.invokevirtual 100, 3) := by decide +kernel
theorem dX6_weighExchange_90 : decode cX6_weighExchange 90 = .ok (.return_, 1) := by decide +kernel
theorem dX6_weighMove_0 : decode cX6_weighMove 0 = .ok (.aload_n 1, 1) := by decide +kernel
theorem dX6_weighMove_1 : decode cX6_weighMove 1 = .ok (.iload_n 2, 1) := by decide +kernel
theorem dX6_weighMove_2 : decode cX6_weighMove 2 = .ok (.iload_n 3, 1) := by decide +kernel
theorem dX6_weighMove_3 : decode cX6_weighMove 3 = .ok (.invokevirtual 96, 3) := by decide +kernel
theorem dX6_weighMove_6 : decode cX6_weighMove 6 = .ok (.ifCond .eq 50, 3) := by decide +kernel
theorem dX6_weighMove_9 : decode cX6_weighMove 9 = .ok (.aload_n 0, 1) := by decide +kernel
theorem dX6_weighMove_10 : decode cX6_weighMove 10 = .ok (.getfield 12, 3) := by decide +kernel
theorem dX6_weighMove_13 : decode cX6_weighMove 13 = .ok (.iload_n 2, 1) := by decide +kernel
theorem dX6_weighMove_14 : decode cX6_weighMove 14 = .ok (.invokevirtual 93, 3) := by decide +kernel
theorem dX6_weighMove_17 : decode cX6_weighMove 17 = .ok (.istore 4, 2) := by decide +kernel
theorem dX6_weighMove_19 : decode cX6_weighMove 19 = .ok (.aload_n 0, 1) := by decide +kernel
theorem dX6_weighMove_20 : decode cX6_weighMove 20 = .ok (.getfield 12, 3) := by decide +kernel
theorem dX6_weighMove_23 : decode cX6_weighMove 23 = .ok (.iload_n 2, 1) := by decide +kernel
theorem dX6_weighMove_24 : decode cX6_weighMove 24 = .ok (.iload_n 3, 1) := by decide +kernel
theorem dX6_weighMove_25 : decode cX6_weighMove 25 = .ok (.invokevirtual 108, 3) := by decide +kernel
theorem dX6_weighMove_28 : decode cX6_weighMove 28 = .ok (.aload_n 0, 1) := by decide +kernel
theorem dX6_weighMove_29 : decode cX6_weighMove 29 = .ok (.getfield 28, 3) := by decide +kernel
theorem dX6_weighMove_32 : decode cX6_weighMove 32 = .ok (.iload_n 2, 1) := by decide +kernel
theorem dX6_weighMove_33 : decode cX6_weighMove 33 = .ok (.iconst (-1), 1) := by decide +kernel
theorem dX6_weighMove_34 : decode cX6_weighMove 34 = .ok (.iload_n 3, 1) := by decide +kernel
theorem dX6_weighMove_35 : decode cX6_weighMove 35 = .ok (.aload_n 1, 1) := by decide +kernel
theorem dX6_weighMove_36 : decode cX6_weighMove 36 = .ok (.aload_n 0, 1) := by decide +kernel
theorem dX6_weighMove_37 : decode cX6_weighMove 37 = .ok (.getfield 12, 3) := by decide +kernel
theorem dX6_weighMove_40 : decode cX6_weighMove 40 = .ok (.invokevirtual 42, 3) := by decide +kernel
theorem dX6_weighMove_43 : decode cX6_weighMove 43 = .ok (.invokevirtual 104, 3) := by decide +kernel
theorem dX6_weighMove_46 : decode cX6_weighMove 46 = .ok (.aload_n 0, 1) := by decide +kernel
theorem dX6_weighMove_47 : decode cX6_weighMove 47 = .ok (.getfield 12, 3) := by decide +kernel
theorem dX6_weighMove_50 : decode cX6_weighMove 50 = .ok (.iload_n 2, 1) := by decide +kernel
theorem dX6_weighMove_51 : decode cX6_weighMove 51 = .ok (.iload 4, 2) := by decide +kernel
theorem dX6_weighMove_53 : decode cX6_weighMove 53 = .ok (.invokevirtual 108, 3) := by decide +kernel
theorem dX6_weighMove_56 : decode cX6_weighMove 56 = .ok (.return_, 1) := by decide +kernel
theorem dX6_makeChange_0 : decode cX6_makeChange 0 = .ok (.aload_n 0, 1) := by decide +kernel
theorem dX6_makeChange_1 : decode cX6_makeChange 1 = .ok (.getfield 28, 3) := by decide +kernel
theorem dX6_makeChange_4 : decode cX6_makeChange 4 = .ok (.getfield 111, 3) := by decide +kernel
theorem dX6_makeChange_7 : decode cX6_makeChange 7 = .ok (.iconst (-1), 1) := by decide +kernel
theorem dX6_makeChange_8 : decode cX6_makeChange 8 = .ok (.if_icmp .ne 27, 3) := by decide +kernel
theorem dX6_makeChange_11 : decode cX6_makeChange 11 = .ok (.aload_n 0, 1) := by decide +kernel
theorem dX6_makeChange_12 : decode cX6_makeChange 12 = .ok (.getfield 12, 3) := by decide +kernel
theorem dX6_makeChange_15 : decode cX6_makeChange 15 = .ok (.aload_n 0, 1) := by decide +kernel
theorem dX6_makeChange_16 : decode cX6_makeChange 16 = .ok (.getfield 28, 3) := by decide +kernel
theorem dX6_makeChange_19 : decode cX6_makeChange 19 = .ok (.getfield 114, 3) := by decide +kernel
theorem dX6_makeChange_22 : decode cX6_makeChange 22 = .ok (.aload_n 0, 1) := by decide +kernel
theorem dX6_makeChange_23 : decode cX6_makeChange 23 = .ok (.getfield 28, 3) := by decide +kernel
theorem dX6_makeChange_26 : decode cX6_makeChange 26 = .ok (.getfield 117, 3) := by decide +kernel
theorem dX6_makeChange_29 : decode cX6_makeChange 29 = .ok (.invokevirtual 108, 3) := by decide +kernel
theorem dX6_makeChange_32 : decode cX6_makeChange 32 = .ok (.goto 37, 3) := by decide +kernel
theorem dX6_makeChange_35 : decode cX6_makeChange 35 = .ok (.aload_n 0, 1) := by decide +kernel
theorem dX6_makeChange_36 : decode cX6_makeChange 36 = .ok (.getfield 12, 3) := by decide +kernel
theorem dX6_makeChange_39 : decode cX6_makeChange 39 = .ok (.aload_n 0, 1) := by decide +kernel
theorem dX6_makeChange_40 : decode cX6_makeChange 40 = .ok (.getfield 28, 3) := by decide +kernel
theorem dX6_makeChange_43 : decode cX6_makeChange 43 = .ok (.getfield 114, 3) := by decide +kernel
theorem dX6_makeChange_46 : decode cX6_makeChange 46 = .ok (.aload_n 0, 1) := by decide +kernel
theorem dX6_makeChange_47 : decode cX6_makeChange 47 = .ok (.getfield 28, 3) := by decide +kernel
theorem dX6_makeChange_50 : decode cX6_makeChange 50 = .ok (.getfield 111, 3) := by decide +kernel
theorem dX6_makeChange_53 : decode cX6_makeChange 53 = .ok (.invokevirtual 100, 3) := by decide +kernel
theorem dX6_makeChange_56 : decode cX6_makeChange 56 = .ok (.aload_n 0, 1) := by decide +kernel
theorem dX6_makeChange_57 : decode cX6_makeChange 57 = .ok (.getfield 21, 3) := by decide +kernel
theorem dX6_makeChange_60 : decode cX6_makeChange 60 = .ok (.aload_n 0, 1) := by decide +kernel
theorem dX6_makeChange_61 : decode cX6_makeChange 61 = .ok (.getfield 28, 3) := by decide +kernel
theorem dX6_makeChange_64 : decode cX6_makeChange 64 = .ok (.getfield 111, 3) := by decide +kernel
theorem dX6_makeChange_67 : decode cX6_makeChange 67 = .ok (.iload_n 1, 1) := by decide +kernel
theorem dX6_makeChange_68 : decode cX6_makeChange 68 = .ok (.iastore, 1) := by decide +kernel
theorem dX6_makeChange_69 : decode cX6_makeChange 69 = .ok (.aload_n 0, 1) := by decide +kernel
theorem dX6_makeChange_70 : decode cX6_makeChange 70 = .ok (.getfield 21, 3) := by decide +kernel
theorem dX6_makeChange_73 : decode cX6_makeChange 73 = .ok (.aload_n 0, 1) := by decide +kernel
theorem dX6_makeChange_74 : decode cX6_makeChange 74 = .ok (.getfield 28, 3) := by decide +kernel
theorem dX6_makeChange_77 : decode cX6_makeChange 77 = .ok (.getfield 114, 3) := by decide +kernel
theorem dX6_makeChange_80 : decode cX6_makeChange 80 = .ok (.iload_n 1, 1) := by decide +kernel
theorem dX6_makeChange_81 : decode cX6_makeChange 81 = .ok (.iastore, 1) := by decide +kernel
theorem dX6_makeChange_82 : decode cX6_makeChange 82 = .ok (.return_, 1) := by decide +kernel
