theorem dX7_init_0 : decode cX7_init 0 = .ok (.aload_n 0, 1) := by decide +kernel
theorem dX7_init_1 : decode cX7_init 1 = .ok (.invokespecial 3, 3) := by decide +kernel
theorem dX7_init_4 : decode cX7_init 4 = .ok (.aload_n 0, 1) := by decide +kernel
theorem dX7_init_5 : decode cX7_init 5 = .ok (.new 9, 3) := by decide +kernel
theorem dX7_init_8 : decode cX7_init 8 = .ok (.dup, 1) := by decide +kernel
theorem dX7_init_9 : decode cX7_init 9 = .ok (.invokespecial 11, 3) := by decide +kernel
theorem dX7_init_12 : decode cX7_init 12 = .ok (.putfield 12, 3) := by decide +kernel
theorem dX7_init_15 : decode cX7_init 15 = .ok (.aload_n 0, 1) := by decide +kernel
theorem dX7_init_16 : decode cX7_init 16 = .ok (.new 16, 3) := by decide +kernel
theorem dX7_init_19 : decode cX7_init 19 = .ok (.dup, 1) := by decide +kernel
theorem dX7_init_20 : decode cX7_init 20 = .ok (.invokespecial 18, 3) := by decide +kernel
theorem dX7_init_23 : decode cX7_init 23 = .ok (.putfield 19, 3) := by decide +kernel
theorem dX7_init_26 : decode cX7_init 26 = .ok (.aload_n 0, 1) := by decide +kernel
theorem dX7_init_27 : decode cX7_init 27 = .ok (.new 16, 3) := by decide +kernel
theorem dX7_init_30 : decode cX7_init 30 = .ok (.dup, 1) := by decide +kernel
theorem dX7_init_31 : decode cX7_init 31 = .ok (.invokespecial 18, 3) := by decide +kernel
theorem dX7_init_34 : decode cX7_init 34 = .ok (.putfield 23, 3) := by decide +kernel
theorem dX7_init_37 : decode cX7_init 37 = .ok (.aload_n 0, 1) := by decide +kernel
theorem dX7_init_38 : decode cX7_init 38 = .ok (.new 26, 3) := by decide +kernel
theorem dX7_init_41 : decode cX7_init 41 = .ok (.dup, 1) := by decide +kernel
theorem dX7_init_42 : decode cX7_init 42 = .ok (.invokespecial 28, 3) := by decide +kernel
theorem dX7_init_45 : decode cX7_init 45 = .ok (.putfield 29, 3) := by decide +kernel
theorem dX7_init_48 : decode cX7_init 48 = .ok (.aload_n 0, 1) := by decide +kernel
theorem dX7_init_49 : decode cX7_init 49 = .ok (.new 33, 3) := by decide +kernel
theorem dX7_init_52 : decode cX7_init 52 = .ok (.dup, 1) := by decide +kernel
theorem dX7_init_53 : decode cX7_init 53 = .ok (.invokespecial 35, 3) := by decide +kernel
theorem dX7_init_56 : decode cX7_init 56 = .ok (.putfield 36, 3) := by decide +kernel
theorem dX7_init_59 : decode cX7_init 59 = .ok (.return_, 1) := by decide +kernel
theorem dX7_setWall_0 : decode cX7_setWall 0 = .ok (.aload_n 0, 1) := by decide +kernel
theorem dX7_setWall_1 : decode cX7_setWall 1 = .ok (.iload_n 1, 1) := by decide +kernel
theorem dX7_setWall_2 : decode cX7_setWall 2 = .ok (.iload_n 2, 1) := by decide +kernel
theorem dX7_setWall_3 : decode cX7_setWall 3 = .ok (.invokevirtual 40, 3) := by decide +kernel
theorem dX7_setWall_6 : decode cX7_setWall 6 = .ok (.aload_n 0, 1) := by decide +kernel
theorem dX7_setWall_7 : decode cX7_setWall 7 = .ok (.getfield 12, 3) := by decide +kernel
theorem dX7_setWall_10 : decode cX7_setWall 10 = .ok (.getfield 44, 3) := by decide +kernel
theorem dX7_setWall_13 : decode cX7_setWall 13 = .ok (.iload_n 1, 1) := by decide +kernel
theorem dX7_setWall_14 : decode cX7_setWall 14 = .ok (.iload_n 2, 1) := by decide +kernel
theorem dX7_setWall_15 : decode cX7_setWall 15 = .ok (.invokevirtual 48, 3) := by decide +kernel
theorem dX7_setWall_18 : decode cX7_setWall 18 = .ok (.ifCond .eq 13, 3) := by decide +kernel
theorem dX7_setWall_21 : decode cX7_setWall 21 = .ok (.new 54, 3) := by decide +kernel
theorem dX7_setWall_24 : decode cX7_setWall 24 = .ok (.dup, 1) := by decide +kernel
theorem dX7_setWall_25 : decode cX7_setWall 25 = .ok (.ldc 56, 2) := by decide +kernel
theorem dX7_setWall_27 : decode cX7_setWall 27 = .ok (.invokespecial 58, 3) := by decide +kernel
theorem dX7_setWall_30 : decode cX7_setWall 30 = .ok (.athrow, 1) := by decide +kernel
theorem dX7_setWall_31 : decode cX7_setWall 31 = .ok (.aload_n 0, 1) := by decide +kernel
theorem dX7_setWall_32 : decode cX7_setWall 32 = .ok (.getfield 12, 3) := by decide +kernel
theorem dX7_setWall_35 : decode cX7_setWall 35 = .ok (.getfield 44, 3) := by decide +kernel
theorem dX7_setWall_38 : decode cX7_setWall 38 = .ok (.iload_n 1, 1) := by decide +kernel
theorem dX7_setWall_39 : decode cX7_setWall 39 = .ok (.iload_n 2, 1) := by decide +kernel
theorem dX7_setWall_40 : decode cX7_setWall 40 = .ok (.iload_n 3, 1) := by decide +kernel
theorem dX7_setWall_41 : decode cX7_setWall 41 = .ok (.invokevirtual 61, 3) := by decide +kernel
theorem dX7_setWall_44 : decode cX7_setWall 44 = .ok (.ireturn, 1) := by decide +kernel
theorem dX7_addZone_0 : decode cX7_addZone 0 = .ok (.aload_n 0, 1) := by decide +kernel
theorem dX7_addZone_1 : decode cX7_addZone 1 = .ok (.iload_n 1, 1) := by decide +kernel
theorem dX7_addZone_2 : decode cX7_addZone 2 = .ok (.iload_n 2, 1) := by decide +kernel
theorem dX7_addZone_3 : decode cX7_addZone 3 = .ok (.invokevirtual 40, 3) := by decide +kernel
theorem dX7_addZone_6 : decode cX7_addZone 6 = .ok (.aload_n 0, 1) := by decide +kernel
theorem dX7_addZone_7 : decode cX7_addZone 7 = .ok (.iload_n 3, 1) := by decide +kernel
theorem dX7_addZone_8 : decode cX7_addZone 8 = .ok (.iconst 1, 1) := by decide +kernel
theorem dX7_addZone_9 : decode cX7_addZone 9 = .ok (.bipush 60, 2) := by decide +kernel
theorem dX7_addZone_11 : decode cX7_addZone 11 = .ok (.invokevirtual 65, 3) := by decide +kernel
theorem dX7_addZone_14 : decode cX7_addZone 14 = .ok (.aload_n 0, 1) := by decide +kernel
theorem dX7_addZone_15 : decode cX7_addZone 15 = .ok (.getfield 12, 3) := by decide +kernel
theorem dX7_addZone_18 : decode cX7_addZone 18 = .ok (.getfield 44, 3) := by decide +kernel
theorem dX7_addZone_21 : decode cX7_addZone 21 = .ok (.getfield 69, 3) := by decide +kernel
theorem dX7_addZone_24 : decode cX7_addZone 24 = .ok (.bipush 7, 2) := by decide +kernel
theorem dX7_addZone_26 : decode cX7_addZone 26 = .ok (.if_icmp .lt 13, 3) := by decide +kernel
theorem dX7_addZone_29 : decode cX7_addZone 29 = .ok (.new 54, 3) := by decide +kernel
theorem dX7_addZone_32 : decode cX7_addZone 32 = .ok (.dup, 1) := by decide +kernel
theorem dX7_addZone_33 : decode cX7_addZone 33 = .ok (.ldc 73, 2) := by decide +kernel
theorem dX7_addZone_35 : decode cX7_addZone 35 = .ok (.invokespecial 58, 3) := by decide +kernel
theorem dX7_addZone_38 : decode cX7_addZone 38 = .ok (.athrow, 1) := by decide +kernel
theorem dX7_addZone_39 : decode cX7_addZone 39 = .ok (.aload_n 0, 1) := by decide +kernel
theorem dX7_addZone_40 : decode cX7_addZone 40 = .ok (.getfield 12, 3) := by decide +kernel
theorem dX7_addZone_43 : decode cX7_addZone 43 = .ok (.getfield 44, 3) := by decide +kernel
theorem dX7_addZone_46 : decode cX7_addZone 46 = .ok (.iload_n 1, 1) := by decide +kernel
theorem dX7_addZone_47 : decode cX7_addZone 47 = .ok (.iload_n 2, 1) := by decide +kernel
theorem dX7_addZone_48 : decode cX7_addZone 48 = .ok (.invokevirtual 75, 3) := by decide +kernel
theorem dX7_addZone_51 : decode cX7_addZone 51 = .ok (.ifCond .ne 18, 3) := by decide +kernel
theorem dX7_addZone_54 : decode cX7_addZone 54 = .ok (.aload_n 0, 1) := by decide +kernel
theorem dX7_addZone_55 : decode cX7_addZone 55 = .ok (.getfield 12, 3) := by decide +kernel
theorem dX7_addZone_58 : decode cX7_addZone 58 = .ok (.getfield 44, 3) := by decide +kernel
theorem dX7_addZone_61 : decode cX7_addZone 61 = .ok (.iload_n 1, 1) := by decide +kernel
theorem dX7_addZone_62 : decode cX7_addZone 62 = .ok (.iload_n 2, 1) := by decide +kernel
theorem dX7_addZone_63 : decode cX7_addZone 63 = .ok (.invokevirtual 48, 3) := by decide +kernel
theorem dX7_addZone_66 : decode cX7_addZone 66 = .ok (.ifCond .eq 13, 3) := by decide +kernel
theorem dX7_addZone_69 : decode cX7_addZone 69 = .ok (.new 54, 3) := by decide +kernel
theorem dX7_addZone_72 : decode cX7_addZone 72 = .ok (.dup, 1) := by decide +kernel
theorem dX7_addZone_73 : decode cX7_addZone 73 = .ok (.ldc 78, 2) := by decide +kernel
theorem dX7_addZone_75 : decode cX7_addZone 75 = .ok (.invokespecial 58, 3) := by decide +kernel
theorem dX7_addZone_78 : decode cX7_addZone 78 = .ok (.athrow, 1) := by decide +kernel
theorem dX7_addZone_79 : decode cX7_addZone 79 = .ok (.aload_n 0, 1) := by decide +kernel
theorem dX7_addZone_80 : decode cX7_addZone 80 = .ok (.getfield 12, 3) := by decide +kernel
theorem dX7_addZone_83 : decode cX7_addZone 83 = .ok (.getfield 44, 3) := by decide +kernel
theorem dX7_addZone_86 : decode cX7_addZone 86 = .ok (.iload_n 1, 1) := by decide +kernel
theorem dX7_addZone_87 : decode cX7_addZone 87 = .ok (.iload_n 2, 1) := by decide +kernel
theorem dX7_addZone_88 : decode cX7_addZone 88 = .ok (.iload_n 3, 1) := by decide +kernel
theorem dX7_addZone_89 : decode cX7_addZone 89 = .ok (.invokevirtual 80, 3) := by decide +kernel
theorem dX7_addZone_92 : decode cX7_addZone 92 = .ok (.ireturn, 1) := by decide +kernel
theorem dX7_setDesks_0 : decode cX7_setDesks 0 = .ok (.aload_n 0, 1) := by decide +kernel
theorem dX7_setDesks_1 : decode cX7_setDesks 1 = .ok (.iload_n 1, 1) := by decide +kernel
theorem dX7_setDesks_2 : decode cX7_setDesks 2 = .ok (.invokevirtual 84, 3) := by decide +kernel
theorem dX7_setDesks_5 : decode cX7_setDesks 5 = .ok (.aload_n 0, 1) := by decide +kernel
theorem dX7_setDesks_6 : decode cX7_setDesks 6 = .ok (.iload_n 2, 1) := by decide +kernel
theorem dX7_setDesks_7 : decode cX7_setDesks 7 = .ok (.iconst 1, 1) := by decide +kernel
theorem dX7_setDesks_8 : decode cX7_setDesks 8 = .ok (.bipush 60, 2) := by decide +kernel
theorem dX7_setDesks_10 : decode cX7_setDesks 10 = .ok (.invokevirtual 65, 3) := by decide +kernel
theorem dX7_setDesks_13 : decode cX7_setDesks 13 = .ok (.aload_n 0, 1) := by decide +kernel
theorem dX7_setDesks_14 : decode cX7_setDesks 14 = .ok (.getfield 19, 3) := by decide +kernel
theorem dX7_setDesks_17 : decode cX7_setDesks 17 = .ok (.iload_n 1, 1) := by decide +kernel
theorem dX7_setDesks_18 : decode cX7_setDesks 18 = .ok (.invokevirtual 88, 3) := by decide +kernel
theorem dX7_setDesks_21 : decode cX7_setDesks 21 = .ok (.istore_n 3, 1) := by decide +kernel
theorem dX7_setDesks_22 : decode cX7_setDesks 22 = .ok (.iload_n 3, 1) := by decide +kernel
theorem dX7_setDesks_23 : decode cX7_setDesks 23 = .ok (.iconst (-1), 1) := by decide +kernel
theorem dX7_setDesks_24 : decode cX7_setDesks 24 = .ok (.if_icmp .eq 29, 3) := by decide +kernel
theorem dX7_setDesks_27 : decode cX7_setDesks 27 = .ok (.aload_n 0, 1) := by decide +kernel
theorem dX7_setDesks_28 : decode cX7_setDesks 28 = .ok (.getfield 12, 3) := by decide +kernel
theorem dX7_setDesks_31 : decode cX7_setDesks 31 = .ok (.getfield 92, 3) := by decide +kernel
theorem dX7_setDesks_34 : decode cX7_setDesks 34 = .ok (.getfield 96, 3) := by decide +kernel
theorem dX7_setDesks_37 : decode cX7_setDesks 37 = .ok (.iload_n 3, 1) := by decide +kernel
theorem dX7_setDesks_38 : decode cX7_setDesks 38 = .ok (.iaload, 1) := by decide +kernel
theorem dX7_setDesks_39 : decode cX7_setDesks 39 = .ok (.iload_n 2, 1) := by decide +kernel
theorem dX7_setDesks_40 : decode cX7_setDesks 40 = .ok (.if_icmp .le 13, 3) := by decide +kernel
theorem dX7_setDesks_43 : decode cX7_setDesks 43 = .ok (.new 54, 3) := by decide +kernel
theorem dX7_setDesks_46 : decode cX7_setDesks 46 = .ok (.dup, 1) := by decide +kernel
theorem dX7_setDesks_47 : decode cX7_setDesks 47 = .ok (.ldc 102, 2) := by decide +kernel
theorem dX7_setDesks_49 : decode cX7_setDesks 49 = .ok (.invokespecial 58, 3) := by decide +kernel
theorem dX7_setDesks_52 : decode cX7_setDesks 52 = .ok (.athrow, 1) := by decide +kernel
theorem dX7_setDesks_53 : decode cX7_setDesks 53 = .ok (.aload_n 0, 1) := by decide +kernel
theorem dX7_setDesks_54 : decode cX7_setDesks 54 = .ok (.getfield 12, 3) := by decide +kernel
theorem dX7_setDesks_57 : decode cX7_setDesks 57 = .ok (.getfield 44, 3) := by decide +kernel
theorem dX7_setDesks_60 : decode cX7_setDesks 60 = .ok (.getfield 104, 3) := by decide +kernel
theorem dX7_setDesks_63 : decode cX7_setDesks 63 = .ok (.iload_n 1, 1) := by decide +kernel
theorem dX7_setDesks_64 : decode cX7_setDesks 64 = .ok (.iaload, 1) := by decide +kernel
theorem dX7_setDesks_65 : decode cX7_setDesks 65 = .ok (.istore 4, 2) := by decide +kernel
theorem dX7_setDesks_67 : decode cX7_setDesks 67 = .ok (.aload_n 0, 1) := by decide +kernel
theorem dX7_setDesks_68 : decode cX7_setDesks 68 = .ok (.getfield 12, 3) := by decide +kernel
theorem dX7_setDesks_71 : decode cX7_setDesks 71 = .ok (.getfield 44, 3) := by decide +kernel
theorem dX7_setDesks_74 : decode cX7_setDesks 74 = .ok (.getfield 104, 3) := by decide +kernel
theorem dX7_setDesks_77 : decode cX7_setDesks 77 = .ok (.iload_n 1, 1) := by decide +kernel
theorem dX7_setDesks_78 : decode cX7_setDesks 78 = .ok (.iload_n 2, 1) := by decide +kernel
theorem dX7_setDesks_79 : decode cX7_setDesks 79 = .ok (.iastore, 1) := by decide +kernel
theorem dX7_setDesks_80 : decode cX7_setDesks 80 = .ok (.iload 4, 2) := by decide +kernel
theorem dX7_setDesks_82 : decode cX7_setDesks 82 = .ok (.ireturn, 1) := by decide +kernel
theorem dX7_addTeam_0 : decode cX7_addTeam 0 = .ok (.aload_n 0, 1) := by decide +kernel
theorem dX7_addTeam_1 : decode cX7_addTeam 1 = .ok (.getfield 12, 3) := by decide +kernel
theorem dX7_addTeam_4 : decode cX7_addTeam 4 = .ok (.getfield 92, 3) := by decide +kernel
theorem dX7_addTeam_7 : decode cX7_addTeam 7 = .ok (.getfield 107, 3) := by decide +kernel
theorem dX7_addTeam_10 : decode cX7_addTeam 10 = .ok (.bipush 7, 2) := by decide +kernel
theorem dX7_addTeam_12 : decode cX7_addTeam 12 = .ok (.if_icmp .lt 13, 3) := by decide +kernel
theorem dX7_addTeam_15 : decode cX7_addTeam 15 = .ok (.new 54, 3) := by decide +kernel
theorem dX7_addTeam_18 : decode cX7_addTeam 18 = .ok (.dup, 1) := by decide +kernel
theorem dX7_addTeam_19 : decode cX7_addTeam 19 = .ok (.ldc 110, 2) := by decide +kernel
theorem dX7_addTeam_21 : decode cX7_addTeam 21 = .ok (.invokespecial 58, 3) := by decide +kernel
theorem dX7_addTeam_24 : decode cX7_addTeam 24 = .ok (.athrow, 1) := by decide +kernel
theorem dX7_addTeam_25 : decode cX7_addTeam 25 = .ok (.aload_n 0, 1) := by decide +kernel
theorem dX7_addTeam_26 : decode cX7_addTeam 26 = .ok (.getfield 12, 3) := by decide +kernel
theorem dX7_addTeam_29 : decode cX7_addTeam 29 = .ok (.getfield 92, 3) := by decide +kernel
theorem dX7_addTeam_32 : decode cX7_addTeam 32 = .ok (.invokevirtual 112, 3) := by decide +kernel
theorem dX7_addTeam_35 : decode cX7_addTeam 35 = .ok (.ireturn, 1) := by decide +kernel
theorem dX7_setPresent_0 : decode cX7_setPresent 0 = .ok (.aload_n 0, 1) := by decide +kernel
theorem dX7_setPresent_1 : decode cX7_setPresent 1 = .ok (.iload_n 1, 1) := by decide +kernel
theorem dX7_setPresent_2 : decode cX7_setPresent 2 = .ok (.invokevirtual 116, 3) := by decide +kernel
theorem dX7_setPresent_5 : decode cX7_setPresent 5 = .ok (.aload_n 0, 1) := by decide +kernel
theorem dX7_setPresent_6 : decode cX7_setPresent 6 = .ok (.iload_n 2, 1) := by decide +kernel
theorem dX7_setPresent_7 : decode cX7_setPresent 7 = .ok (.invokevirtual 119, 3) := by decide +kernel
theorem dX7_setPresent_10 : decode cX7_setPresent 10 = .ok (.aload_n 0, 1) := by decide +kernel
theorem dX7_setPresent_11 : decode cX7_setPresent 11 = .ok (.iload_n 3, 1) := by decide +kernel
theorem dX7_setPresent_12 : decode cX7_setPresent 12 = .ok (.iconst 0, 1) := by decide +kernel
theorem dX7_setPresent_13 : decode cX7_setPresent 13 = .ok (.bipush 60, 2) := by decide +kernel
theorem dX7_setPresent_15 : decode cX7_setPresent 15 = .ok (.invokevirtual 65, 3) := by decide +kernel
theorem dX7_setPresent_18 : decode cX7_setPresent 18 = .ok (.aload_n 0, 1) := by decide +kernel
theorem dX7_setPresent_19 : decode cX7_setPresent 19 = .ok (.getfield 19, 3) := by decide +kernel
theorem dX7_setPresent_22 : decode cX7_setPresent 22 = .ok (.iload_n 1, 1) := by decide +kernel
theorem dX7_setPresent_23 : decode cX7_setPresent 23 = .ok (.invokevirtual 122, 3) := by decide +kernel
theorem dX7_setPresent_26 : decode cX7_setPresent 26 = .ok (.istore 4, 2) := by decide +kernel
theorem dX7_setPresent_28 : decode cX7_setPresent 28 = .ok (.iload 4, 2) := by decide +kernel
theorem dX7_setPresent_30 : decode cX7_setPresent 30 = .ok (.iconst (-1), 1) := by decide +kernel
theorem dX7_setPresent_31 : decode cX7_setPresent 31 = .ok (.if_icmp .eq 42, 3) := by decide +kernel
theorem dX7_setPresent_34 : decode cX7_setPresent 34 = .ok (.aload_n 0, 1) := by decide +kernel
theorem dX7_setPresent_35 : decode cX7_setPresent 35 = .ok (.getfield 12, 3) := by decide +kernel
theorem dX7_setPresent_38 : decode cX7_setPresent 38 = .ok (.getfield 92, 3) := by decide +kernel
theorem dX7_setPresent_41 : decode cX7_setPresent 41 = .ok (.iload_n 1, 1) := by decide +kernel
theorem dX7_setPresent_42 : decode cX7_setPresent 42 = .ok (.iload_n 2, 1) := by decide +kernel
theorem dX7_setPresent_43 : decode cX7_setPresent 43 = .ok (.iload_n 3, 1) := by decide +kernel
theorem dX7_setPresent_44 : decode cX7_setPresent 44 = .ok (.invokevirtual 125, 3) := by decide +kernel
theorem dX7_setPresent_47 : decode cX7_setPresent 47 = .ok (.aload_n 0, 1) := by decide +kernel
theorem dX7_setPresent_48 : decode cX7_setPresent 48 = .ok (.getfield 12, 3) := by decide +kernel
theorem dX7_setPresent_51 : decode cX7_setPresent 51 = .ok (.getfield 44, 3) := by decide +kernel
theorem dX7_setPresent_54 : decode cX7_setPresent 54 = .ok (.getfield 104, 3) := by decide +kernel
theorem dX7_setPresent_57 : decode cX7_setPresent 57 = .ok (.iload 4, 2) := by decide +kernel
theorem dX7_setPresent_59 : decode cX7_setPresent 59 = .ok (.iaload, 1) := by decide +kernel
theorem dX7_setPresent_60 : decode cX7_setPresent 60 = .ok (.if_icmp .le 13, 3) := by decide +kernel
theorem dX7_setPresent_63 : decode cX7_setPresent 63 = .ok (.new 54, 3) := by decide +kernel
theorem dX7_setPresent_66 : decode cX7_setPresent 66 = .ok (.dup, 1) := by decide +kernel
theorem dX7_setPresent_67 : decode cX7_setPresent 67 = .ok (.ldc 128, 2) := by decide +kernel
theorem dX7_setPresent_69 : decode cX7_setPresent 69 = .ok (.invokespecial 58, 3) := by decide +kernel
theorem dX7_setPresent_72 : decode cX7_setPresent 72 = .ok (.athrow, 1) := by decide +kernel
theorem dX7_setPresent_73 : decode cX7_setPresent 73 = .ok (.aload_n 0, 1) := by decide +kernel
theorem dX7_setPresent_74 : decode cX7_setPresent 74 = .ok (.getfield 12, 3) := by decide +kernel
theorem dX7_setPresent_77 : decode cX7_setPresent 77 = .ok (.getfield 92, 3) := by decide +kernel
theorem dX7_setPresent_80 : decode cX7_setPresent 80 = .ok (.iload_n 1, 1) := by decide +kernel
theorem dX7_setPresent_81 : decode cX7_setPresent 81 = .ok (.iload_n 2, 1) := by decide +kernel
theorem dX7_setPresent_82 : decode cX7_setPresent 82 = .ok (.iload_n 3, 1) := by decide +kernel
theorem dX7_setPresent_83 : decode cX7_setPresent 83 = .ok (.invokevirtual 130, 3) := by decide +kernel
theorem dX7_setPresent_86 : decode cX7_setPresent 86 = .ok (.ireturn, 1) := by decide +kernel
theorem dX7_setWish_0 : decode cX7_setWish 0 = .ok (.aload_n 0, 1) := by decide +kernel
theorem dX7_setWish_1 : decode cX7_setWish 1 = .ok (.iload_n 1, 1) := by decide +kernel
theorem dX7_setWish_2 : decode cX7_setWish 2 = .ok (.invokevirtual 116, 3) := by decide +kernel
theorem dX7_setWish_5 : decode cX7_setWish 5 = .ok (.aload_n 0, 1) := by decide +kernel
theorem dX7_setWish_6 : decode cX7_setWish 6 = .ok (.iload_n 2, 1) := by decide +kernel
theorem dX7_setWish_7 : decode cX7_setWish 7 = .ok (.invokevirtual 84, 3) := by decide +kernel
theorem dX7_setWish_10 : decode cX7_setWish 10 = .ok (.aload_n 0, 1) := by decide +kernel
theorem dX7_setWish_11 : decode cX7_setWish 11 = .ok (.iload_n 3, 1) := by decide +kernel
theorem dX7_setWish_12 : decode cX7_setWish 12 = .ok (.iconst 0, 1) := by decide +kernel
theorem dX7_setWish_13 : decode cX7_setWish 13 = .ok (.bipush 99, 2) := by decide +kernel
theorem dX7_setWish_15 : decode cX7_setWish 15 = .ok (.invokevirtual 65, 3) := by decide +kernel
theorem dX7_setWish_18 : decode cX7_setWish 18 = .ok (.aload_n 0, 1) := by decide +kernel
theorem dX7_setWish_19 : decode cX7_setWish 19 = .ok (.getfield 12, 3) := by decide +kernel
theorem dX7_setWish_22 : decode cX7_setWish 22 = .ok (.getfield 92, 3) := by decide +kernel
theorem dX7_setWish_25 : decode cX7_setWish 25 = .ok (.getfield 133, 3) := by decide +kernel
theorem dX7_setWish_28 : decode cX7_setWish 28 = .ok (.iload_n 1, 1) := by decide +kernel
theorem dX7_setWish_29 : decode cX7_setWish 29 = .ok (.aaload, 1) := by decide +kernel
theorem dX7_setWish_30 : decode cX7_setWish 30 = .ok (.iload_n 2, 1) := by decide +kernel
theorem dX7_setWish_31 : decode cX7_setWish 31 = .ok (.iaload, 1) := by decide +kernel
theorem dX7_setWish_32 : decode cX7_setWish 32 = .ok (.istore 4, 2) := by decide +kernel
theorem dX7_setWish_34 : decode cX7_setWish 34 = .ok (.aload_n 0, 1) := by decide +kernel
theorem dX7_setWish_35 : decode cX7_setWish 35 = .ok (.getfield 12, 3) := by decide +kernel
theorem dX7_setWish_38 : decode cX7_setWish 38 = .ok (.getfield 92, 3) := by decide +kernel
theorem dX7_setWish_41 : decode cX7_setWish 41 = .ok (.getfield 133, 3) := by decide +kernel
theorem dX7_setWish_44 : decode cX7_setWish 44 = .ok (.iload_n 1, 1) := by decide +kernel
theorem dX7_setWish_45 : decode cX7_setWish 45 = .ok (.aaload, 1) := by decide +kernel
theorem dX7_setWish_46 : decode cX7_setWish 46 = .ok (.iload_n 2, 1) := by decide +kernel
theorem dX7_setWish_47 : decode cX7_setWish 47 = .ok (.iload_n 3, 1) := by decide +kernel
theorem dX7_setWish_48 : decode cX7_setWish 48 = .ok (.iastore, 1) := by decide +kernel
theorem dX7_setWish_49 : decode cX7_setWish 49 = .ok (.iload 4, 2) := by decide +kernel
theorem dX7_setWish_51 : decode cX7_setWish 51 = .ok (.ireturn, 1) := by decide +kernel
theorem dX7_setTie_0 : decode cX7_setTie 0 = .ok (.aload_n 0, 1) := by decide +kernel
theorem dX7_setTie_1 : decode cX7_setTie 1 = .ok (.iload_n 1, 1) := by decide +kernel
theorem dX7_setTie_2 : decode cX7_setTie 2 = .ok (.invokevirtual 116, 3) := by decide +kernel
theorem dX7_setTie_5 : decode cX7_setTie 5 = .ok (.aload_n 0, 1) := by decide +kernel
theorem dX7_setTie_6 : decode cX7_setTie 6 = .ok (.iload_n 2, 1) := by decide +kernel
theorem dX7_setTie_7 : decode cX7_setTie 7 = .ok (.invokevirtual 116, 3) := by decide +kernel
theorem dX7_setTie_10 : decode cX7_setTie 10 = .ok (.aload_n 0, 1) := by decide +kernel
theorem dX7_setTie_11 : decode cX7_setTie 11 = .ok (.iload_n 3, 1) := by decide +kernel
theorem dX7_setTie_12 : decode cX7_setTie 12 = .ok (.iconst 0, 1) := by decide +kernel
theorem dX7_setTie_13 : decode cX7_setTie 13 = .ok (.bipush 9, 2) := by decide +kernel
theorem dX7_setTie_15 : decode cX7_setTie 15 = .ok (.invokevirtual 65, 3) := by decide +kernel
theorem dX7_setTie_18 : decode cX7_setTie 18 = .ok (.iload_n 1, 1) := by decide +kernel
theorem dX7_setTie_19 : decode cX7_setTie 19 = .ok (.iload_n 2, 1) := by decide +kernel
theorem dX7_setTie_20 : decode cX7_setTie 20 = .ok (.if_icmp .ne 13, 3) := by decide +kernel
theorem dX7_setTie_23 : decode cX7_setTie 23 = .ok (.new 137, 3) := by decide +kernel
theorem dX7_setTie_26 : decode cX7_setTie 26 = .ok (.dup, 1) := by decide +kernel
theorem dX7_setTie_27 : decode cX7_setTie 27 = .ok (.ldc 139, 2) := by decide +kernel
theorem dX7_setTie_29 : decode cX7_setTie 29 = .ok (.invokespecial 141, 3) := by decide +kernel
theorem dX7_setTie_32 : decode cX7_setTie 32 = .ok (.athrow, 1) := by decide +kernel
theorem dX7_setTie_33 : decode cX7_setTie 33 = .ok (.aload_n 0, 1) := by decide +kernel
theorem dX7_setTie_34 : decode cX7_setTie 34 = .ok (.getfield 12, 3) := by decide +kernel
theorem dX7_setTie_37 : decode cX7_setTie 37 = .ok (.getfield 92, 3) := by decide +kernel
theorem dX7_setTie_40 : decode cX7_setTie 40 = .ok (.iload_n 1, 1) := by decide +kernel
theorem dX7_setTie_41 : decode cX7_setTie 41 = .ok (.iload_n 2, 1) := by decide +kernel
theorem dX7_setTie_42 : decode cX7_setTie 42 = .ok (.iload_n 3, 1) := by decide +kernel
theorem dX7_setTie_43 : decode cX7_setTie 43 = .ok (.invokevirtual 142, 3) := by decide +kernel
theorem dX7_setTie_46 : decode cX7_setTie 46 = .ok (.ireturn, 1) := by decide +kernel
theorem dX7_place_0 : decode cX7_place 0 = .ok (.aload_n 0, 1) := by decide +kernel
theorem dX7_place_1 : decode cX7_place 1 = .ok (.iload_n 1, 1) := by decide +kernel
theorem dX7_place_2 : decode cX7_place 2 = .ok (.invokevirtual 116, 3) := by decide +kernel
theorem dX7_place_5 : decode cX7_place 5 = .ok (.iload_n 2, 1) := by decide +kernel
theorem dX7_place_6 : decode cX7_place 6 = .ok (.iconst (-1), 1) := by decide +kernel
theorem dX7_place_7 : decode cX7_place 7 = .ok (.if_icmp .eq 14, 3) := by decide +kernel
theorem dX7_place_10 : decode cX7_place 10 = .ok (.aload_n 0, 1) := by decide +kernel
theorem dX7_place_11 : decode cX7_place 11 = .ok (.iload_n 2, 1) := by decide +kernel
theorem dX7_place_12 : decode cX7_place 12 = .ok (.invokevirtual 84, 3) := by decide +kernel
theorem dX7_place_15 : decode cX7_place 15 = .ok (.aload_n 0, 1) := by decide +kernel
theorem dX7_place_16 : decode cX7_place 16 = .ok (.iload_n 1, 1) := by decide +kernel
theorem dX7_place_17 : decode cX7_place 17 = .ok (.iload_n 2, 1) := by decide +kernel
theorem dX7_place_18 : decode cX7_place 18 = .ok (.invokevirtual 145, 3) := by decide +kernel
theorem dX7_place_21 : decode cX7_place 21 = .ok (.aload_n 0, 1) := by decide +kernel
theorem dX7_place_22 : decode cX7_place 22 = .ok (.getfield 19, 3) := by decide +kernel
theorem dX7_place_25 : decode cX7_place 25 = .ok (.iload_n 1, 1) := by decide +kernel
theorem dX7_place_26 : decode cX7_place 26 = .ok (.invokevirtual 122, 3) := by decide +kernel
theorem dX7_place_29 : decode cX7_place 29 = .ok (.istore_n 3, 1) := by decide +kernel
theorem dX7_place_30 : decode cX7_place 30 = .ok (.aload_n 0, 1) := by decide +kernel
theorem dX7_place_31 : decode cX7_place 31 = .ok (.getfield 19, 3) := by decide +kernel
theorem dX7_place_34 : decode cX7_place 34 = .ok (.iload_n 1, 1) := by decide +kernel
theorem dX7_place_35 : decode cX7_place 35 = .ok (.iload_n 2, 1) := by decide +kernel
theorem dX7_place_36 : decode cX7_place 36 = .ok (.invokevirtual 148, 3) := by decide +kernel
theorem dX7_place_39 : decode cX7_place 39 = .ok (.iload_n 3, 1) := by decide +kernel
theorem dX7_place_40 : decode cX7_place 40 = .ok (.ireturn, 1) := by decide +kernel
theorem dX7_placeByWishes_0 : decode cX7_placeByWishes 0 = .ok (.aload_n 0, 1) := by decide +kernel
theorem dX7_placeByWishes_1 : decode cX7_placeByWishes 1 = .ok (.iconst 0, 1) := by decide +kernel
theorem dX7_placeByWishes_2 : decode cX7_placeByWishes 2 = .ok (.invokevirtual 151, 3) := by decide +kernel
theorem dX7_placeByWishes_5 : decode cX7_placeByWishes 5 = .ok (.ireturn, 1) := by decide +kernel
theorem dX7_placeBest_0 : decode cX7_placeBest 0 = .ok (.aload_n 0, 1) := by decide +kernel
theorem dX7_placeBest_1 : decode cX7_placeBest 1 = .ok (.iconst 1, 1) := by decide +kernel
theorem dX7_placeBest_2 : decode cX7_placeBest 2 = .ok (.invokevirtual 151, 3) := by decide +kernel
theorem dX7_placeBest_5 : decode cX7_placeBest 5 = .ok (.ireturn, 1) := by decide +kernel
theorem dX7_search_0 : decode cX7_search 0 = .ok (.aload_n 0, 1) := by decide +kernel
theorem dX7_search_1 : decode cX7_search 1 = .ok (.iload_n 1, 1) := by decide +kernel
theorem dX7_search_2 : decode cX7_search 2 = .ok (.iconst 1, 1) := by decide +kernel
theorem dX7_search_3 : decode cX7_search 3 = .ok (.bipush 40, 2) := by decide +kernel
theorem dX7_search_5 : decode cX7_search 5 = .ok (.invokevirtual 65, 3) := by decide +kernel
theorem dX7_search_8 : decode cX7_search 8 = .ok (.aload_n 0, 1) := by decide +kernel
theorem dX7_search_9 : decode cX7_search 9 = .ok (.iload_n 2, 1) := by decide +kernel
theorem dX7_search_10 : decode cX7_search 10 = .ok (.iconst 0, 1) := by decide +kernel
theorem dX7_search_11 : decode cX7_search 11 = .ok (.iconst 5, 1) := by decide +kernel
theorem dX7_search_12 : decode cX7_search 12 = .ok (.invokevirtual 65, 3) := by decide +kernel
theorem dX7_search_15 : decode cX7_search 15 = .ok (.aload_n 0, 1) := by decide +kernel
theorem dX7_search_16 : decode cX7_search 16 = .ok (.getfield 19, 3) := by decide +kernel
theorem dX7_search_19 : decode cX7_search 19 = .ok (.invokevirtual 155, 3) := by decide +kernel
theorem dX7_search_22 : decode cX7_search 22 = .ok (.aload_n 0, 1) := by decide +kernel
theorem dX7_search_23 : decode cX7_search 23 = .ok (.getfield 12, 3) := by decide +kernel
theorem dX7_search_26 : decode cX7_search 26 = .ok (.getfield 92, 3) := by decide +kernel
theorem dX7_search_29 : decode cX7_search 29 = .ok (.getfield 107, 3) := by decide +kernel
theorem dX7_search_32 : decode cX7_search 32 = .ok (.if_icmp .ge 13, 3) := by decide +kernel
theorem dX7_search_35 : decode cX7_search 35 = .ok (.new 54, 3) := by decide +kernel
theorem dX7_search_38 : decode cX7_search 38 = .ok (.dup, 1) := by decide +kernel
theorem dX7_search_39 : decode cX7_search 39 = .ok (.ldc 158, 2) := by decide +kernel
theorem dX7_search_41 : decode cX7_search 41 = .ok (.invokespecial 58, 3) := by decide +kernel
theorem dX7_search_44 : decode cX7_search 44 = .ok (.athrow, 1) := by decide +kernel
theorem dX7_search_45 : decode cX7_search 45 = .ok (.aload_n 0, 1) := by decide +kernel
theorem dX7_search_46 : decode cX7_search 46 = .ok (.getfield 36, 3) := by decide +kernel
theorem dX7_search_49 : decode cX7_search 49 = .ok (.aload_n 0, 1) := by decide +kernel
theorem dX7_search_50 : decode cX7_search 50 = .ok (.getfield 12, 3) := by decide +kernel
theorem dX7_search_53 : decode cX7_search 53 = .ok (.aload_n 0, 1) := by decide +kernel
theorem dX7_search_54 : decode cX7_search 54 = .ok (.getfield 19, 3) := by decide +kernel
theorem dX7_search_57 : decode cX7_search 57 = .ok (.iload_n 1, 1) := by decide +kernel
theorem dX7_search_58 : decode cX7_search 58 = .ok (.iload_n 2, 1) := by decide +kernel
theorem dX7_search_59 : decode cX7_search 59 = .ok (.invokevirtual 160, 3) := by decide +kernel
theorem dX7_search_62 : decode cX7_search 62 = .ok (.istore_n 3, 1) := by decide +kernel
theorem dX7_search_63 : decode cX7_search 63 = .ok (.aload_n 0, 1) := by decide +kernel
theorem dX7_search_64 : decode cX7_search 64 = .ok (.getfield 19, 3) := by decide +kernel
theorem dX7_search_67 : decode cX7_search 67 = .ok (.aload_n 0, 1) := by decide +kernel
theorem dX7_search_68 : decode cX7_search 68 = .ok (.getfield 36, 3) := by decide +kernel
theorem dX7_search_71 : decode cX7_search 71 = .ok (.getfield 164, 3) := by decide +kernel
theorem dX7_search_74 : decode cX7_search 74 = .ok (.invokevirtual 167, 3) := by decide +kernel
theorem dX7_search_77 : decode cX7_search 77 = .ok (.iload_n 3, 1) := by decide +kernel
theorem dX7_search_78 : decode cX7_search 78 = .ok (.ireturn, 1) := by decide +kernel
theorem dX7_remember_0 : decode cX7_remember 0 = .ok (.aload_n 0, 1) := by decide +kernel
theorem dX7_remember_1 : decode cX7_remember 1 = .ok (.getfield 23, 3) := by decide +kernel
theorem dX7_remember_4 : decode cX7_remember 4 = .ok (.aload_n 0, 1) := by decide +kernel
theorem dX7_remember_5 : decode cX7_remember 5 = .ok (.getfield 19, 3) := by decide +kernel
theorem dX7_remember_8 : decode cX7_remember 8 = .ok (.invokevirtual 167, 3) := by decide +kernel
theorem dX7_remember_11 : decode cX7_remember 11 = .ok (.aload_n 0, 1) := by decide +kernel
theorem dX7_remember_12 : decode cX7_remember 12 = .ok (.getfield 19, 3) := by decide +kernel
theorem dX7_remember_15 : decode cX7_remember 15 = .ok (.invokevirtual 155, 3) := by decide +kernel
theorem dX7_remember_18 : decode cX7_remember 18 = .ok (.ireturn, 1) := by decide +kernel
theorem dX7_recall_0 : decode cX7_recall 0 = .ok (.iconst 0, 1) := by decide +kernel
theorem dX7_recall_1 : decode cX7_recall 1 = .ok (.istore_n 1, 1) := by decide +kernel
theorem dX7_recall_2 : decode cX7_recall 2 = .ok (.iload_n 1, 1) := by decide +kernel
theorem dX7_recall_3 : decode cX7_recall 3 = .ok (.aload_n 0, 1) := by decide +kernel
theorem dX7_recall_4 : decode cX7_recall 4 = .ok (.getfield 12, 3) := by decide +kernel
theorem dX7_recall_7 : decode cX7_recall 7 = .ok (.getfield 92, 3) := by decide +kernel
theorem dX7_recall_10 : decode cX7_recall 10 = .ok (.getfield 107, 3) := by decide +kernel
theorem dX7_recall_13 : decode cX7_recall 13 = .ok (.if_icmp .ge 45, 3) := by decide +kernel
theorem dX7_recall_16 : decode cX7_recall 16 = .ok (.aload_n 0, 1) := by decide +kernel
theorem dX7_recall_17 : decode cX7_recall 17 = .ok (.getfield 23, 3) := by decide +kernel
theorem dX7_recall_20 : decode cX7_recall 20 = .ok (.iload_n 1, 1) := by decide +kernel
theorem dX7_recall_21 : decode cX7_recall 21 = .ok (.invokevirtual 122, 3) := by decide +kernel
theorem dX7_recall_24 : decode cX7_recall 24 = .ok (.istore_n 2, 1) := by decide +kernel
theorem dX7_recall_25 : decode cX7_recall 25 = .ok (.iload_n 2, 1) := by decide +kernel
theorem dX7_recall_26 : decode cX7_recall 26 = .ok (.iconst (-1), 1) := by decide +kernel
theorem dX7_recall_27 : decode cX7_recall 27 = .ok (.if_icmp .eq 25, 3) := by decide +kernel
theorem dX7_recall_30 : decode cX7_recall 30 = .ok (.aload_n 0, 1) := by decide +kernel
theorem dX7_recall_31 : decode cX7_recall 31 = .ok (.getfield 12, 3) := by decide +kernel
theorem dX7_recall_34 : decode cX7_recall 34 = .ok (.iload_n 1, 1) := by decide +kernel
theorem dX7_recall_35 : decode cX7_recall 35 = .ok (.iload_n 2, 1) := by decide +kernel
theorem dX7_recall_36 : decode cX7_recall 36 = .ok (.invokevirtual 171, 3) := by decide +kernel
theorem dX7_recall_39 : decode cX7_recall 39 = .ok (.ifCond .ne 13, 3) := by decide +kernel
theorem dX7_recall_42 : decode cX7_recall 42 = .ok (.new 54, 3) := by decide +kernel
theorem dX7_recall_45 : decode cX7_recall 45 = .ok (.dup, 1) := by decide +kernel
theorem dX7_recall_46 : decode cX7_recall 46 = .ok (.ldc 174, 2) := by decide +kernel
theorem dX7_recall_48 : decode cX7_recall 48 = .ok (.invokespecial 58, 3) := by decide +kernel
theorem dX7_recall_51 : decode cX7_recall 51 = .ok (.athrow, 1) := by decide +kernel
theorem dX7_recall_52 : decode cX7_recall 52 = .ok (.iinc 1 1, 3) := by decide +kernel
theorem dX7_recall_55 : decode cX7_recall 55 = .ok (.goto (-53), 3) := by decide +kernel
theorem dX7_recall_58 : decode cX7_recall 58 = .ok (.aload_n 0, 1) := by decide +kernel
theorem dX7_recall_59 : decode cX7_recall 59 = .ok (.getfield 19, 3) := by decide +kernel
theorem dX7_recall_62 : decode cX7_recall 62 = .ok (.aload_n 0, 1) := by decide +kernel
theorem dX7_recall_63 : decode cX7_recall 63 = .ok (.getfield 23, 3) := by decide +kernel
theorem dX7_recall_66 : decode cX7_recall 66 = .ok (.invokevirtual 176, 3) := by decide +kernel
theorem dX7_recall_69 : decode cX7_recall 69 = .ok (.istore_n 1, 1) := by decide +kernel
theorem dX7_recall_70 : decode cX7_recall 70 = .ok (.aload_n 0, 1) := by decide +kernel
theorem dX7_recall_71 : decode cX7_recall 71 = .ok (.getfield 19, 3) := by decide +kernel
theorem dX7_recall_74 : decode cX7_recall 74 = .ok (.aload_n 0, 1) := by decide +kernel
theorem dX7_recall_75 : decode cX7_recall 75 = .ok (.getfield 23, 3) := by decide +kernel
theorem dX7_recall_78 : decode cX7_recall 78 = .ok (.invokevirtual 167, 3) := by decide +kernel
theorem dX7_recall_81 : decode cX7_recall 81 = .ok (.iload_n 1, 1) := by decide +kernel
theorem dX7_recall_82 : decode cX7_recall 82 = .ok (.ireturn, 1) := by decide +kernel
theorem dX7_zones_0 : decode cX7_zones 0 = .ok (.aload_n 0, 1) := by decide +kernel
theorem dX7_zones_1 : decode cX7_zones 1 = .ok (.getfield 12, 3) := by decide +kernel
theorem dX7_zones_4 : decode cX7_zones 4 = .ok (.getfield 44, 3) := by decide +kernel
theorem dX7_zones_7 : decode cX7_zones 7 = .ok (.getfield 69, 3) := by decide +kernel
theorem dX7_zones_10 : decode cX7_zones 10 = .ok (.ireturn, 1) := by decide +kernel
theorem dX7_teams_0 : decode cX7_teams 0 = .ok (.aload_n 0, 1) := by decide +kernel
theorem dX7_teams_1 : decode cX7_teams 1 = .ok (.getfield 12, 3) := by decide +kernel
theorem dX7_teams_4 : decode cX7_teams 4 = .ok (.getfield 92, 3) := by decide +kernel
theorem dX7_teams_7 : decode cX7_teams 7 = .ok (.getfield 107, 3) := by decide +kernel
theorem dX7_teams_10 : decode cX7_teams 10 = .ok (.ireturn, 1) := by decide +kernel
theorem dX7_need_0 : decode cX7_need 0 = .ok (.aload_n 0, 1) := by decide +kernel
theorem dX7_need_1 : decode cX7_need 1 = .ok (.iload_n 1, 1) := by decide +kernel
theorem dX7_need_2 : decode cX7_need 2 = .ok (.invokevirtual 116, 3) := by decide +kernel
theorem dX7_need_5 : decode cX7_need 5 = .ok (.aload_n 0, 1) := by decide +kernel
theorem dX7_need_6 : decode cX7_need 6 = .ok (.getfield 12, 3) := by decide +kernel
theorem dX7_need_9 : decode cX7_need 9 = .ok (.getfield 92, 3) := by decide +kernel
theorem dX7_need_12 : decode cX7_need 12 = .ok (.getfield 96, 3) := by decide +kernel
theorem dX7_need_15 : decode cX7_need 15 = .ok (.iload_n 1, 1) := by decide +kernel
theorem dX7_need_16 : decode cX7_need 16 = .ok (.iaload, 1) := by decide +kernel
theorem dX7_need_17 : decode cX7_need 17 = .ok (.ireturn, 1) := by decide +kernel
theorem dX7_share_0 : decode cX7_share 0 = .ok (.aload_n 0, 1) := by decide +kernel
theorem dX7_share_1 : decode cX7_share 1 = .ok (.iload_n 1, 1) := by decide +kernel
theorem dX7_share_2 : decode cX7_share 2 = .ok (.invokevirtual 116, 3) := by decide +kernel
theorem dX7_share_5 : decode cX7_share 5 = .ok (.aload_n 0, 1) := by decide +kernel
theorem dX7_share_6 : decode cX7_share 6 = .ok (.getfield 12, 3) := by decide +kernel
theorem dX7_share_9 : decode cX7_share 9 = .ok (.getfield 92, 3) := by decide +kernel
theorem dX7_share_12 : decode cX7_share 12 = .ok (.iload_n 1, 1) := by decide +kernel
theorem dX7_share_13 : decode cX7_share 13 = .ok (.invokevirtual 180, 3) := by decide +kernel
theorem dX7_share_16 : decode cX7_share 16 = .ok (.ireturn, 1) := by decide +kernel
theorem dX7_zoneOf_0 : decode cX7_zoneOf 0 = .ok (.aload_n 0, 1) := by decide +kernel
theorem dX7_zoneOf_1 : decode cX7_zoneOf 1 = .ok (.iload_n 1, 1) := by decide +kernel
theorem dX7_zoneOf_2 : decode cX7_zoneOf 2 = .ok (.invokevirtual 116, 3) := by decide +kernel
theorem dX7_zoneOf_5 : decode cX7_zoneOf 5 = .ok (.aload_n 0, 1) := by decide +kernel
theorem dX7_zoneOf_6 : decode cX7_zoneOf 6 = .ok (.getfield 19, 3) := by decide +kernel
theorem dX7_zoneOf_9 : decode cX7_zoneOf 9 = .ok (.iload_n 1, 1) := by decide +kernel
theorem dX7_zoneOf_10 : decode cX7_zoneOf 10 = .ok (.invokevirtual 122, 3) := by decide +kernel
theorem dX7_zoneOf_13 : decode cX7_zoneOf 13 = .ok (.ireturn, 1) := by decide +kernel
theorem dX7_teamIn_0 : decode cX7_teamIn 0 = .ok (.aload_n 0, 1) := by decide +kernel
theorem dX7_teamIn_1 : decode cX7_teamIn 1 = .ok (.iload_n 1, 1) := by decide +kernel
theorem dX7_teamIn_2 : decode cX7_teamIn 2 = .ok (.invokevirtual 84, 3) := by decide +kernel
theorem dX7_teamIn_5 : decode cX7_teamIn 5 = .ok (.aload_n 0, 1) := by decide +kernel
theorem dX7_teamIn_6 : decode cX7_teamIn 6 = .ok (.getfield 19, 3) := by decide +kernel
theorem dX7_teamIn_9 : decode cX7_teamIn 9 = .ok (.iload_n 1, 1) := by decide +kernel
theorem dX7_teamIn_10 : decode cX7_teamIn 10 = .ok (.invokevirtual 88, 3) := by decide +kernel
theorem dX7_teamIn_13 : decode cX7_teamIn 13 = .ok (.ireturn, 1) := by decide +kernel
theorem dX7_free_0 : decode cX7_free 0 = .ok (.aload_n 0, 1) := by decide +kernel
theorem dX7_free_1 : decode cX7_free 1 = .ok (.iload_n 1, 1) := by decide +kernel
theorem dX7_free_2 : decode cX7_free 2 = .ok (.invokevirtual 84, 3) := by decide +kernel
theorem dX7_free_5 : decode cX7_free 5 = .ok (.aload_n 0, 1) := by decide +kernel
theorem dX7_free_6 : decode cX7_free 6 = .ok (.iload_n 2, 1) := by decide +kernel
theorem dX7_free_7 : decode cX7_free 7 = .ok (.invokevirtual 119, 3) := by decide +kernel
theorem dX7_free_10 : decode cX7_free 10 = .ok (.aload_n 0, 1) := by decide +kernel
theorem dX7_free_11 : decode cX7_free 11 = .ok (.getfield 19, 3) := by decide +kernel
theorem dX7_free_14 : decode cX7_free 14 = .ok (.iload_n 1, 1) := by decide +kernel
theorem dX7_free_15 : decode cX7_free 15 = .ok (.invokevirtual 88, 3) := by decide +kernel
theorem dX7_free_18 : decode cX7_free 18 = .ok (.istore_n 3, 1) := by decide +kernel
theorem dX7_free_19 : decode cX7_free 19 = .ok (.iload_n 3, 1) := by decide +kernel
theorem dX7_free_20 : decode cX7_free 20 = .ok (.iconst (-1), 1) := by decide +kernel
theorem dX7_free_21 : decode cX7_free 21 = .ok (.if_icmp .ne 7, 3) := by decide +kernel
theorem dX7_free_24 : decode cX7_free 24 = .ok (.iconst 0, 1) := by decide +kernel
theorem dX7_free_25 : decode cX7_free 25 = .ok (.goto 17, 3) := by decide +kernel
theorem dX7_free_28 : decode cX7_free 28 = .ok (.aload_n 0, 1) := by decide +kernel
theorem dX7_free_29 : decode cX7_free 29 = .ok (.getfield 12, 3) := by decide +kernel
theorem dX7_free_32 : decode cX7_free 32 = .ok (.getfield 92, 3) := by decide +kernel
theorem dX7_free_35 : decode cX7_free 35 = .ok (.getfield 183, 3) := by decide +kernel
theorem dX7_free_38 : decode cX7_free 38 = .ok (.iload_n 3, 1) := by decide +kernel
theorem dX7_free_39 : decode cX7_free 39 = .ok (.aaload, 1) := by decide +kernel
theorem dX7_free_40 : decode cX7_free 40 = .ok (.iload_n 2, 1) := by decide +kernel
theorem dX7_free_41 : decode cX7_free 41 = .ok (.iaload, 1) := by decide +kernel
theorem dX7_free_42 : decode cX7_free 42 = .ok (.istore 4, 2) := by decide +kernel
theorem dX7_free_44 : decode cX7_free 44 = .ok (.aload_n 0, 1) := by decide +kernel
theorem dX7_free_45 : decode cX7_free 45 = .ok (.getfield 12, 3) := by decide +kernel
theorem dX7_free_48 : decode cX7_free 48 = .ok (.getfield 44, 3) := by decide +kernel
theorem dX7_free_51 : decode cX7_free 51 = .ok (.getfield 104, 3) := by decide +kernel
theorem dX7_free_54 : decode cX7_free 54 = .ok (.iload_n 1, 1) := by decide +kernel
theorem dX7_free_55 : decode cX7_free 55 = .ok (.iaload, 1) := by decide +kernel
theorem dX7_free_56 : decode cX7_free 56 = .ok (.iload 4, 2) := by decide +kernel
theorem dX7_free_58 : decode cX7_free 58 = .ok (.isub, 1) := by decide +kernel
theorem dX7_free_59 : decode cX7_free 59 = .ok (.ireturn, 1) := by decide +kernel
theorem dX7_distance_0 : decode cX7_distance 0 = .ok (.aload_n 0, 1) := by decide +kernel
theorem dX7_distance_1 : decode cX7_distance 1 = .ok (.iload_n 1, 1) := by decide +kernel
theorem dX7_distance_2 : decode cX7_distance 2 = .ok (.invokevirtual 84, 3) := by decide +kernel
theorem dX7_distance_5 : decode cX7_distance 5 = .ok (.aload_n 0, 1) := by decide +kernel
theorem dX7_distance_6 : decode cX7_distance 6 = .ok (.iload_n 2, 1) := by decide +kernel
theorem dX7_distance_7 : decode cX7_distance 7 = .ok (.invokevirtual 84, 3) := by decide +kernel
theorem dX7_distance_10 : decode cX7_distance 10 = .ok (.aload_n 0, 1) := by decide +kernel
theorem dX7_distance_11 : decode cX7_distance 11 = .ok (.getfield 12, 3) := by decide +kernel
theorem dX7_distance_14 : decode cX7_distance 14 = .ok (.getfield 44, 3) := by decide +kernel
theorem dX7_distance_17 : decode cX7_distance 17 = .ok (.getfield 186, 3) := by decide +kernel
theorem dX7_distance_20 : decode cX7_distance 20 = .ok (.iload_n 1, 1) := by decide +kernel
theorem dX7_distance_21 : decode cX7_distance 21 = .ok (.aaload, 1) := by decide +kernel
theorem dX7_distance_22 : decode cX7_distance 22 = .ok (.iload_n 2, 1) := by decide +kernel
theorem dX7_distance_23 : decode cX7_distance 23 = .ok (.iaload, 1) := by decide +kernel
theorem dX7_distance_24 : decode cX7_distance 24 = .ok (.ireturn, 1) := by decide +kernel
theorem dX7_wishCost_0 : decode cX7_wishCost 0 = .ok (.aload_n 0, 1) := by decide +kernel
theorem dX7_wishCost_1 : decode cX7_wishCost 1 = .ok (.getfield 12, 3) := by decide +kernel
theorem dX7_wishCost_4 : decode cX7_wishCost 4 = .ok (.aload_n 0, 1) := by decide +kernel
theorem dX7_wishCost_5 : decode cX7_wishCost 5 = .ok (.getfield 19, 3) := by decide +kernel
theorem dX7_wishCost_8 : decode cX7_wishCost 8 = .ok (.invokevirtual 189, 3) := by decide +kernel
theorem dX7_wishCost_11 : decode cX7_wishCost 11 = .ok (.ireturn, 1) := by decide +kernel
theorem dX7_cost_0 : decode cX7_cost 0 = .ok (.aload_n 0, 1) := by decide +kernel
theorem dX7_cost_1 : decode cX7_cost 1 = .ok (.getfield 12, 3) := by decide +kernel
theorem dX7_cost_4 : decode cX7_cost 4 = .ok (.aload_n 0, 1) := by decide +kernel
theorem dX7_cost_5 : decode cX7_cost 5 = .ok (.getfield 19, 3) := by decide +kernel
theorem dX7_cost_8 : decode cX7_cost 8 = .ok (.invokevirtual 192, 3) := by decide +kernel
theorem dX7_cost_11 : decode cX7_cost 11 = .ok (.ireturn, 1) := by decide +kernel
theorem dX7_leastWishCost_0 : decode cX7_leastWishCost 0 = .ok (.aload_n 0, 1) := by decide +kernel
theorem dX7_leastWishCost_1 : decode cX7_leastWishCost 1 = .ok (.getfield 29, 3) := by decide +kernel
theorem dX7_leastWishCost_4 : decode cX7_leastWishCost 4 = .ok (.aload_n 0, 1) := by decide +kernel
theorem dX7_leastWishCost_5 : decode cX7_leastWishCost 5 = .ok (.getfield 12, 3) := by decide +kernel
theorem dX7_leastWishCost_8 : decode cX7_leastWishCost 8 = .ok (.iconst 0, 1) := by decide +kernel
theorem dX7_leastWishCost_9 : decode cX7_leastWishCost 9 = .ok (.invokevirtual 195, 3) := by decide +kernel
theorem dX7_leastWishCost_12 : decode cX7_leastWishCost 12 = .ok (.ireturn, 1) := by decide +kernel
theorem dX7_circles_0 : decode cX7_circles 0 = .ok (.iconst 0, 1) := by decide +kernel
theorem dX7_circles_1 : decode cX7_circles 1 = .ok (.istore_n 1, 1) := by decide +kernel
theorem dX7_circles_2 : decode cX7_circles 2 = .ok (.iconst 0, 1) := by decide +kernel
theorem dX7_circles_3 : decode cX7_circles 3 = .ok (.istore_n 2, 1) := by decide +kernel
theorem dX7_circles_4 : decode cX7_circles 4 = .ok (.iload_n 2, 1) := by decide +kernel
theorem dX7_circles_5 : decode cX7_circles 5 = .ok (.aload_n 0, 1) := by decide +kernel
theorem dX7_circles_6 : decode cX7_circles 6 = .ok (.getfield 12, 3) := by decide +kernel
theorem dX7_circles_9 : decode cX7_circles 9 = .ok (.getfield 92, 3) := by decide +kernel
theorem dX7_circles_12 : decode cX7_circles 12 = .ok (.getfield 107, 3) := by decide +kernel
theorem dX7_circles_15 : decode cX7_circles 15 = .ok (.if_icmp .ge 20, 3) := by decide +kernel
theorem dX7_circles_18 : decode cX7_circles 18 = .ok (.aload_n 0, 1) := by decide +kernel
theorem dX7_circles_19 : decode cX7_circles 19 = .ok (.iload_n 2, 1) := by decide +kernel
theorem dX7_circles_20 : decode cX7_circles 20 = .ok (.invokevirtual 199, 3) := by decide +kernel
theorem dX7_circles_23 : decode cX7_circles 23 = .ok (.ifCond .eq 6, 3) := by decide +kernel
theorem dX7_circles_26 : decode cX7_circles 26 = .ok (.iinc 1 1, 3) := by decide +kernel
theorem dX7_circles_29 : decode cX7_circles 29 = .ok (.iinc 2 1, 3) := by decide +kernel
theorem dX7_circles_32 : decode cX7_circles 32 = .ok (.goto (-28), 3) := by decide +kernel
theorem dX7_circles_35 : decode cX7_circles 35 = .ok (.iload_n 1, 1) := by decide +kernel
theorem dX7_circles_36 : decode cX7_circles 36 = .ok (.ireturn, 1) := by decide +kernel
theorem dX7_moves_0 : decode cX7_moves 0 = .ok (.aload_n 0, 1) := by decide +kernel
theorem dX7_moves_1 : decode cX7_moves 1 = .ok (.getfield 19, 3) := by decide +kernel
theorem dX7_moves_4 : decode cX7_moves 4 = .ok (.aload_n 0, 1) := by decide +kernel
theorem dX7_moves_5 : decode cX7_moves 5 = .ok (.getfield 23, 3) := by decide +kernel
theorem dX7_moves_8 : decode cX7_moves 8 = .ok (.invokevirtual 176, 3) := by decide +kernel
theorem dX7_moves_11 : decode cX7_moves 11 = .ok (.aload_n 0, 1) := by decide +kernel
theorem dX7_moves_12 : decode cX7_moves 12 = .ok (.invokevirtual 203, 3) := by decide +kernel
theorem dX7_moves_15 : decode cX7_moves 15 = .ok (.iadd, 1) := by decide +kernel
theorem dX7_moves_16 : decode cX7_moves 16 = .ok (.ireturn, 1) := by decide +kernel
theorem dX7_requireSquare_0 : decode cX7_requireSquare 0 = .ok (.iload_n 1, 1) := by decide +kernel
theorem dX7_requireSquare_1 : decode cX7_requireSquare 1 = .ok (.iload_n 2, 1) := by decide +kernel
theorem dX7_requireSquare_2 : decode cX7_requireSquare 2 = .ok (.invokestatic 206, 3) := by decide +kernel
theorem dX7_requireSquare_5 : decode cX7_requireSquare 5 = .ok (.ifCond .ne 13, 3) := by decide +kernel
theorem dX7_requireSquare_8 : decode cX7_requireSquare 8 = .ok (.new 209, 3) := by decide +kernel
theorem dX7_requireSquare_11 : decode cX7_requireSquare 11 = .ok (.dup, 1) := by decide +kernel
theorem dX7_requireSquare_12 : decode cX7_requireSquare 12 = .ok (.ldc 211, 2) := by decide +kernel
theorem dX7_requireSquare_14 : decode cX7_requireSquare 14 = .ok (.invokespecial 213, 3) := by decide +kernel
theorem dX7_requireSquare_17 : decode cX7_requireSquare 17 = .ok (.athrow, 1) := by decide +kernel
theorem dX7_requireSquare_18 : decode cX7_requireSquare 18 = .ok (.return_, 1) := by decide +kernel
theorem dX7_requireZone_0 : decode cX7_requireZone 0 = .ok (.iload_n 1, 1) := by decide +kernel
theorem dX7_requireZone_1 : decode cX7_requireZone 1 = .ok (.ifCond .lt 17, 3) := by decide +kernel
theorem dX7_requireZone_4 : decode cX7_requireZone 4 = .ok (.iload_n 1, 1) := by decide +kernel
theorem dX7_requireZone_5 : decode cX7_requireZone 5 = .ok (.aload_n 0, 1) := by decide +kernel
theorem dX7_requireZone_6 : decode cX7_requireZone 6 = .ok (.getfield 12, 3) := by decide +kernel
theorem dX7_requireZone_9 : decode cX7_requireZone 9 = .ok (.getfield 44, 3) := by decide +kernel
theorem dX7_requireZone_12 : decode cX7_requireZone 12 = .ok (.getfield 69, 3) := by decide +kernel
theorem dX7_requireZone_15 : decode cX7_requireZone 15 = .ok (.if_icmp .lt 13, 3) := by decide +kernel
theorem dX7_requireZone_18 : decode cX7_requireZone 18 = .ok (.new 209, 3) := by decide +kernel
theorem dX7_requireZone_21 : decode cX7_requireZone 21 = .ok (.dup, 1) := by decide +kernel
theorem dX7_requireZone_22 : decode cX7_requireZone 22 = .ok (.ldc 214, 2) := by decide +kernel
theorem dX7_requireZone_24 : decode cX7_requireZone 24 = .ok (.invokespecial 213, 3) := by decide +kernel
theorem dX7_requireZone_27 : decode cX7_requireZone 27 = .ok (.athrow, 1) := by decide +kernel
theorem dX7_requireZone_28 : decode cX7_requireZone 28 = .ok (.return_, 1) := by decide +kernel
theorem dX7_requireTeam_0 : decode cX7_requireTeam 0 = .ok (.iload_n 1, 1) := by decide +kernel
theorem dX7_requireTeam_1 : decode cX7_requireTeam 1 = .ok (.ifCond .lt 17, 3) := by decide +kernel
theorem dX7_requireTeam_4 : decode cX7_requireTeam 4 = .ok (.iload_n 1, 1) := by decide +kernel
theorem dX7_requireTeam_5 : decode cX7_requireTeam 5 = .ok (.aload_n 0, 1) := by decide +kernel
theorem dX7_requireTeam_6 : decode cX7_requireTeam 6 = .ok (.getfield 12, 3) := by decide +kernel
theorem dX7_requireTeam_9 : decode cX7_requireTeam 9 = .ok (.getfield 92, 3) := by decide +kernel
theorem dX7_requireTeam_12 : decode cX7_requireTeam 12 = .ok (.getfield 107, 3) := by decide +kernel
theorem dX7_requireTeam_15 : decode cX7_requireTeam 15 = .ok (.if_icmp .lt 13, 3) := by decide +kernel
theorem dX7_requireTeam_18 : decode cX7_requireTeam 18 = .ok (.new 209, 3) := by decide +kernel
theorem dX7_requireTeam_21 : decode cX7_requireTeam 21 = .ok (.dup, 1) := by decide +kernel
theorem dX7_requireTeam_22 : decode cX7_requireTeam 22 = .ok (.ldc 216, 2) := by decide +kernel
theorem dX7_requireTeam_24 : decode cX7_requireTeam 24 = .ok (.invokespecial 213, 3) := by decide +kernel
theorem dX7_requireTeam_27 : decode cX7_requireTeam 27 = .ok (.athrow, 1) := by decide +kernel
theorem dX7_requireTeam_28 : decode cX7_requireTeam 28 = .ok (.return_, 1) := by decide +kernel
theorem dX7_requireDay_0 : decode cX7_requireDay 0 = .ok (.iload_n 1, 1) := by decide +kernel
theorem dX7_requireDay_1 : decode cX7_requireDay 1 = .ok (.ifCond .lt 8, 3) := by decide +kernel
theorem dX7_requireDay_4 : decode cX7_requireDay 4 = .ok (.iload_n 1, 1) := by decide +kernel
theorem dX7_requireDay_5 : decode cX7_requireDay 5 = .ok (.iconst 5, 1) := by decide +kernel
theorem dX7_requireDay_6 : decode cX7_requireDay 6 = .ok (.if_icmp .lt 13, 3) := by decide +kernel
theorem dX7_requireDay_9 : decode cX7_requireDay 9 = .ok (.new 209, 3) := by decide +kernel
theorem dX7_requireDay_12 : decode cX7_requireDay 12 = .ok (.dup, 1) := by decide +kernel
theorem dX7_requireDay_13 : decode cX7_requireDay 13 = .ok (.ldc 218, 2) := by decide +kernel
theorem dX7_requireDay_15 : decode cX7_requireDay 15 = .ok (.invokespecial 213, 3) := by decide +kernel
theorem dX7_requireDay_18 : decode cX7_requireDay 18 = .ok (.athrow, 1) := by decide +kernel
theorem dX7_requireDay_19 : decode cX7_requireDay 19 = .ok (.return_, 1) := by decide +kernel
theorem dX7_requireRange_0 : decode cX7_requireRange 0 = .ok (.iload_n 1, 1) := by decide +kernel
theorem dX7_requireRange_1 : decode cX7_requireRange 1 = .ok (.iload_n 2, 1) := by decide +kernel
theorem dX7_requireRange_2 : decode cX7_requireRange 2 = .ok (.if_icmp .lt 8, 3) := by decide +kernel
theorem dX7_requireRange_5 : decode cX7_requireRange 5 = .ok (.iload_n 1, 1) := by decide +kernel
theorem dX7_requireRange_6 : decode cX7_requireRange 6 = .ok (.iload_n 3, 1) := by decide +kernel
theorem dX7_requireRange_7 : decode cX7_requireRange 7 = .ok (.if_icmp .le 13, 3) := by decide +kernel
theorem dX7_requireRange_10 : decode cX7_requireRange 10 = .ok (.new 137, 3) := by decide +kernel
theorem dX7_requireRange_13 : decode cX7_requireRange 13 = .ok (.dup, 1) := by decide +kernel
theorem dX7_requireRange_14 : decode cX7_requireRange 14 = .ok (.ldc 220, 2) := by decide +kernel
theorem dX7_requireRange_16 : decode cX7_requireRange 16 = .ok (.invokespecial 141, 3) := by decide +kernel
theorem dX7_requireRange_19 : decode cX7_requireRange 19 = .ok (.athrow, 1) := by decide +kernel
theorem dX7_requireRange_20 : decode cX7_requireRange 20 = .ok (.return_, 1) := by decide +kernel
theorem dX7_requireRoom_0 : decode cX7_requireRoom 0 = .ok (.aload_n 0, 1) := by decide +kernel
theorem dX7_requireRoom_1 : decode cX7_requireRoom 1 = .ok (.getfield 19, 3) := by decide +kernel
theorem dX7_requireRoom_4 : decode cX7_requireRoom 4 = .ok (.iload_n 2, 1) := by decide +kernel
theorem dX7_requireRoom_5 : decode cX7_requireRoom 5 = .ok (.invokevirtual 88, 3) := by decide +kernel
theorem dX7_requireRoom_8 : decode cX7_requireRoom 8 = .ok (.istore_n 3, 1) := by decide +kernel
theorem dX7_requireRoom_9 : decode cX7_requireRoom 9 = .ok (.iload_n 3, 1) := by decide +kernel
theorem dX7_requireRoom_10 : decode cX7_requireRoom 10 = .ok (.iconst (-1), 1) := by decide +kernel
theorem dX7_requireRoom_11 : decode cX7_requireRoom 11 = .ok (.if_icmp .eq 18, 3) := by decide +kernel
theorem dX7_requireRoom_14 : decode cX7_requireRoom 14 = .ok (.iload_n 3, 1) := by decide +kernel
theorem dX7_requireRoom_15 : decode cX7_requireRoom 15 = .ok (.iload_n 1, 1) := by decide +kernel
theorem dX7_requireRoom_16 : decode cX7_requireRoom 16 = .ok (.if_icmp .eq 13, 3) := by decide +kernel
theorem dX7_requireRoom_19 : decode cX7_requireRoom 19 = .ok (.new 54, 3) := by decide +kernel
theorem dX7_requireRoom_22 : decode cX7_requireRoom 22 = .ok (.dup, 1) := by decide +kernel
theorem dX7_requireRoom_23 : decode cX7_requireRoom 23 = .ok (.ldc 222, 2) := by decide +kernel
theorem dX7_requireRoom_25 : decode cX7_requireRoom 25 = .ok (.invokespecial 58, 3) := by decide +kernel
theorem dX7_requireRoom_28 : decode cX7_requireRoom 28 = .ok (.athrow, 1) := by decide +kernel
theorem dX7_requireRoom_29 : decode cX7_requireRoom 29 = .ok (.aload_n 0, 1) := by decide +kernel
theorem dX7_requireRoom_30 : decode cX7_requireRoom 30 = .ok (.getfield 12, 3) := by decide +kernel
theorem dX7_requireRoom_33 : decode cX7_requireRoom 33 = .ok (.iload_n 1, 1) := by decide +kernel
theorem dX7_requireRoom_34 : decode cX7_requireRoom 34 = .ok (.iload_n 2, 1) := by decide +kernel
theorem dX7_requireRoom_35 : decode cX7_requireRoom 35 = .ok (.invokevirtual 171, 3) := by decide +kernel
theorem dX7_requireRoom_38 : decode cX7_requireRoom 38 = .ok (.ifCond .ne 13, 3) := by decide +kernel
theorem dX7_requireRoom_41 : decode cX7_requireRoom 41 = .ok (.new 54, 3) := by decide +kernel
theorem dX7_requireRoom_44 : decode cX7_requireRoom 44 = .ok (.dup, 1) := by decide +kernel
theorem dX7_requireRoom_45 : decode cX7_requireRoom 45 = .ok (.ldc 224, 2) := by decide +kernel
theorem dX7_requireRoom_47 : decode cX7_requireRoom 47 = .ok (.invokespecial 58, 3) := by decide +kernel
theorem dX7_requireRoom_50 : decode cX7_requireRoom 50 = .ok (.athrow, 1) := by decide +kernel
theorem dX7_requireRoom_51 : decode cX7_requireRoom 51 = .ok (.return_, 1) := by decide +kernel
theorem dX7_layLeast_0 : decode cX7_layLeast 0 = .ok (.aload_n 0, 1) := by decide +kernel
theorem dX7_layLeast_1 : decode cX7_layLeast 1 = .ok (.getfield 29, 3) := by decide +kernel
theorem dX7_layLeast_4 : decode cX7_layLeast 4 = .ok (.aload_n 0, 1) := by decide +kernel
theorem dX7_layLeast_5 : decode cX7_layLeast 5 = .ok (.getfield 12, 3) := by decide +kernel
theorem dX7_layLeast_8 : decode cX7_layLeast 8 = .ok (.iload_n 1, 1) := by decide +kernel
theorem dX7_layLeast_9 : decode cX7_layLeast 9 = .ok (.invokevirtual 195, 3) := by decide +kernel
theorem dX7_layLeast_12 : decode cX7_layLeast 12 = .ok (.istore_n 2, 1) := by decide +kernel
theorem dX7_layLeast_13 : decode cX7_layLeast 13 = .ok (.iload_n 2, 1) := by decide +kernel
theorem dX7_layLeast_14 : decode cX7_layLeast 14 = .ok (.iconst (-1), 1) := by decide +kernel
theorem dX7_layLeast_15 : decode cX7_layLeast 15 = .ok (.if_icmp .ne 13, 3) := by decide +kernel
theorem dX7_layLeast_18 : decode cX7_layLeast 18 = .ok (.new 54, 3) := by decide +kernel
theorem dX7_layLeast_21 : decode cX7_layLeast 21 = .ok (.dup, 1) := by decide +kernel
theorem dX7_layLeast_22 : decode cX7_layLeast 22 = .ok (.ldc 226, 2) := by decide +kernel
theorem dX7_layLeast_24 : decode cX7_layLeast 24 = .ok (.invokespecial 58, 3) := by decide +kernel
theorem dX7_layLeast_27 : decode cX7_layLeast 27 = .ok (.athrow, 1) := by decide +kernel
theorem dX7_layLeast_28 : decode cX7_layLeast 28 = .ok (.aload_n 0, 1) := by decide +kernel
theorem dX7_layLeast_29 : decode cX7_layLeast 29 = .ok (.getfield 19, 3) := by decide +kernel
theorem dX7_layLeast_32 : decode cX7_layLeast 32 = .ok (.aload_n 0, 1) := by decide +kernel
theorem dX7_layLeast_33 : decode cX7_layLeast 33 = .ok (.getfield 29, 3) := by decide +kernel
theorem dX7_layLeast_36 : decode cX7_layLeast 36 = .ok (.getfield 228, 3) := by decide +kernel
theorem dX7_layLeast_39 : decode cX7_layLeast 39 = .ok (.invokevirtual 167, 3) := by decide +kernel
theorem dX7_layLeast_42 : decode cX7_layLeast 42 = .ok (.iload_n 2, 1) := by decide +kernel
theorem dX7_layLeast_43 : decode cX7_layLeast 43 = .ok (.ireturn, 1) := by decide +kernel
theorem dX7_isLowestOfCircle_0 : decode cX7_isLowestOfCircle 0 = .ok (.aload_n 0, 1) := by decide +kernel
theorem dX7_isLowestOfCircle_1 : decode cX7_isLowestOfCircle 1 = .ok (.iload_n 1, 1) := by decide +kernel
theorem dX7_isLowestOfCircle_2 : decode cX7_isLowestOfCircle 2 = .ok (.invokevirtual 229, 3) := by decide +kernel
theorem dX7_isLowestOfCircle_5 : decode cX7_isLowestOfCircle 5 = .ok (.istore_n 2, 1) := by decide +kernel
theorem dX7_isLowestOfCircle_6 : decode cX7_isLowestOfCircle 6 = .ok (.iconst 1, 1) := by decide +kernel
theorem dX7_isLowestOfCircle_7 : decode cX7_isLowestOfCircle 7 = .ok (.istore_n 3, 1) := by decide +kernel
theorem dX7_isLowestOfCircle_8 : decode cX7_isLowestOfCircle 8 = .ok (.iload_n 3, 1) := by decide +kernel
theorem dX7_isLowestOfCircle_9 : decode cX7_isLowestOfCircle 9 = .ok (.bipush 7, 2) := by decide +kernel
theorem dX7_isLowestOfCircle_11 : decode cX7_isLowestOfCircle 11 = .ok (.if_icmp .gt 43, 3) := by decide +kernel
theorem dX7_isLowestOfCircle_14 : decode cX7_isLowestOfCircle 14 = .ok (.iload_n 2, 1) := by decide +kernel
theorem dX7_isLowestOfCircle_15 : decode cX7_isLowestOfCircle 15 = .ok (.iconst (-1), 1) := by decide +kernel
theorem dX7_isLowestOfCircle_16 : decode cX7_isLowestOfCircle 16 = .ok (.if_icmp .eq 8, 3) := by decide +kernel
theorem dX7_isLowestOfCircle_19 : decode cX7_isLowestOfCircle 19 = .ok (.iload_n 2, 1) := by decide +kernel
theorem dX7_isLowestOfCircle_20 : decode cX7_isLowestOfCircle 20 = .ok (.iload_n 1, 1) := by decide +kernel
theorem dX7_isLowestOfCircle_21 : decode cX7_isLowestOfCircle 21 = .ok (.if_icmp .ge 5, 3) := by decide +kernel
theorem dX7_isLowestOfCircle_24 : decode cX7_isLowestOfCircle 24 = .ok (.iconst 0, 1) := by decide +kernel
theorem dX7_isLowestOfCircle_25 : decode cX7_isLowestOfCircle 25 = .ok (.ireturn, 1) := by decide +kernel
theorem dX7_isLowestOfCircle_26 : decode cX7_isLowestOfCircle 26 = .ok (.iload_n 2, 1) := by decide +kernel
theorem dX7_isLowestOfCircle_27 : decode cX7_isLowestOfCircle 27 = .ok (.iload_n 1, 1) := by decide +kernel
theorem dX7_isLowestOfCircle_28 : decode cX7_isLowestOfCircle 28 = .ok (.if_icmp .ne 14, 3) := by decide +kernel
theorem dX7_isLowestOfCircle_31 : decode cX7_isLowestOfCircle 31 = .ok (.iload_n 3, 1) := by decide +kernel
theorem dX7_isLowestOfCircle_32 : decode cX7_isLowestOfCircle 32 = .ok (.iconst 1, 1) := by decide +kernel
theorem dX7_isLowestOfCircle_33 : decode cX7_isLowestOfCircle 33 = .ok (.if_icmp .le 7, 3) := by decide +kernel
theorem dX7_isLowestOfCircle_36 : decode cX7_isLowestOfCircle 36 = .ok (.iconst 1, 1) := by decide +kernel
theorem dX7_isLowestOfCircle_37 : decode cX7_isLowestOfCircle 37 = .ok (.goto 4, 3) := by decide +kernel
theorem dX7_isLowestOfCircle_40 : decode cX7_isLowestOfCircle 40 = .ok (.iconst 0, 1) := by decide +kernel
theorem dX7_isLowestOfCircle_41 : decode cX7_isLowestOfCircle 41 = .ok (.ireturn, 1) := by decide +kernel
theorem dX7_isLowestOfCircle_42 : decode cX7_isLowestOfCircle 42 = .ok (.aload_n 0, 1) := by decide +kernel
theorem dX7_isLowestOfCircle_43 : decode cX7_isLowestOfCircle 43 = .ok (.iload_n 2, 1) := by decide +kernel
theorem dX7_isLowestOfCircle_44 : decode cX7_isLowestOfCircle 44 = .ok (.invokevirtual 229, 3) := by decide +kernel
theorem dX7_isLowestOfCircle_47 : decode cX7_isLowestOfCircle 47 = .ok (.istore_n 2, 1) := by decide +kernel
theorem dX7_isLowestOfCircle_48 : decode cX7_isLowestOfCircle 48 = .ok (.iinc 3 1, 3) := by decide +kernel
theorem dX7_isLowestOfCircle_51 : decode cX7_isLowestOfCircle 51 = .ok (.goto (-43), 3) := by decide +kernel
theorem dX7_isLowestOfCircle_54 : decode cX7_isLowestOfCircle 54 = .ok (.iconst 0, 1) := by decide +kernel
theorem dX7_isLowestOfCircle_55 : decode cX7_isLowestOfCircle 55 = .ok (.ireturn, 1) := by decide +kernel
theorem dX7_teamInTheWayOf_0 : decode cX7_teamInTheWayOf 0 = .ok (.aload_n 0, 1) := by decide +kernel
theorem dX7_teamInTheWayOf_1 : decode cX7_teamInTheWayOf 1 = .ok (.getfield 19, 3) := by decide +kernel
theorem dX7_teamInTheWayOf_4 : decode cX7_teamInTheWayOf 4 = .ok (.aload_n 0, 1) := by decide +kernel
theorem dX7_teamInTheWayOf_5 : decode cX7_teamInTheWayOf 5 = .ok (.getfield 23, 3) := by decide +kernel
theorem dX7_teamInTheWayOf_8 : decode cX7_teamInTheWayOf 8 = .ok (.iload_n 1, 1) := by decide +kernel
theorem dX7_teamInTheWayOf_9 : decode cX7_teamInTheWayOf 9 = .ok (.invokevirtual 122, 3) := by decide +kernel
theorem dX7_teamInTheWayOf_12 : decode cX7_teamInTheWayOf 12 = .ok (.invokevirtual 88, 3) := by decide +kernel
theorem dX7_teamInTheWayOf_15 : decode cX7_teamInTheWayOf 15 = .ok (.ireturn, 1) := by decide +kernel
