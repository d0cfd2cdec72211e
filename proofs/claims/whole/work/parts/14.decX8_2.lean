theorem dX8_search_347 : decode cX8_search 347 = .ok (.iastore, 1) := by decide +kernel
theorem dX8_search_348 : decode cX8_search 348 = .ok (.iload 8, 2) := by decide +kernel
theorem dX8_search_350 : decode cX8_search 350 = .ok (.iconst (-1), 1) := by decide +kernel
theorem dX8_search_351 : decode cX8_search 351 = .ok (.if_icmp .eq 21, 3) := by decide +kernel
theorem dX8_search_354 : decode cX8_search 354 = .ok (.aload_n 0, 1) := by decide +kernel
theorem dX8_search_355 : decode cX8_search 355 = .ok (.getfield 29, 3) := by decide +kernel
theorem dX8_search_358 : decode cX8_search 358 = .ok (.iload 8, 2) := by decide +kernel
theorem dX8_search_360 : decode cX8_search 360 = .ok (.iload 10, 2) := by decide +kernel
theorem dX8_search_362 : decode cX8_search 362 = .ok (.iastore, 1) := by decide +kernel
theorem dX8_search_363 : decode cX8_search 363 = .ok (.aload_n 0, 1) := by decide +kernel
theorem dX8_search_364 : decode cX8_search 364 = .ok (.getfield 47, 3) := by decide +kernel
theorem dX8_search_367 : decode cX8_search 367 = .ok (.iload 8, 2) := by decide +kernel
theorem dX8_search_369 : decode cX8_search 369 = .ok (.iload 5, 2) := by decide +kernel
theorem dX8_search_371 : decode cX8_search 371 = .ok (.iastore, 1) := by decide +kernel
theorem dX8_search_372 : decode cX8_search 372 = .ok (.iconst 0, 1) := by decide +kernel
theorem dX8_search_373 : decode cX8_search 373 = .ok (.istore 11, 2) := by decide +kernel
theorem dX8_search_375 : decode cX8_search 375 = .ok (.iload 11, 2) := by decide +kernel
theorem dX8_search_377 : decode cX8_search 377 = .ok (.aload_n 0, 1) := by decide +kernel
theorem dX8_search_378 : decode cX8_search 378 = .ok (.getfield 61, 3) := by decide +kernel
theorem dX8_search_381 : decode cX8_search 381 = .ok (.if_icmp .ge 29, 3) := by decide +kernel
theorem dX8_search_384 : decode cX8_search 384 = .ok (.iload 6, 2) := by decide +kernel
theorem dX8_search_386 : decode cX8_search 386 = .ok (.iload_n 3, 1) := by decide +kernel
theorem dX8_search_387 : decode cX8_search 387 = .ok (.if_icmp .ge 23, 3) := by decide +kernel
theorem dX8_search_390 : decode cX8_search 390 = .ok (.aload_n 0, 1) := by decide +kernel
theorem dX8_search_391 : decode cX8_search 391 = .ok (.getfield 44, 3) := by decide +kernel
theorem dX8_search_394 : decode cX8_search 394 = .ok (.iload 11, 2) := by decide +kernel
theorem dX8_search_396 : decode cX8_search 396 = .ok (.aload_n 0, 1) := by decide +kernel
theorem dX8_search_397 : decode cX8_search 397 = .ok (.getfield 29, 3) := by decide +kernel
theorem dX8_search_400 : decode cX8_search 400 = .ok (.iload 11, 2) := by decide +kernel
theorem dX8_search_402 : decode cX8_search 402 = .ok (.iaload, 1) := by decide +kernel
theorem dX8_search_403 : decode cX8_search 403 = .ok (.iastore, 1) := by decide +kernel
theorem dX8_search_404 : decode cX8_search 404 = .ok (.iinc 11 1, 3) := by decide +kernel
theorem dX8_search_407 : decode cX8_search 407 = .ok (.goto (-32), 3) := by decide +kernel
theorem dX8_search_410 : decode cX8_search 410 = .ok (.iload 6, 2) := by decide +kernel
theorem dX8_search_412 : decode cX8_search 412 = .ok (.iload_n 3, 1) := by decide +kernel
theorem dX8_search_413 : decode cX8_search 413 = .ok (.if_icmp .ge 8, 3) := by decide +kernel
theorem dX8_search_416 : decode cX8_search 416 = .ok (.iload 6, 2) := by decide +kernel
theorem dX8_search_418 : decode cX8_search 418 = .ok (.goto 4, 3) := by decide +kernel
theorem dX8_search_421 : decode cX8_search 421 = .ok (.iload_n 3, 1) := by decide +kernel
theorem dX8_search_422 : decode cX8_search 422 = .ok (.istore_n 3, 1) := by decide +kernel
theorem dX8_search_423 : decode cX8_search 423 = .ok (.iinc 5 1, 3) := by decide +kernel
theorem dX8_search_426 : decode cX8_search 426 = .ok (.goto (-329), 3) := by decide +kernel
theorem dX8_search_429 : decode cX8_search 429 = .ok (.iconst 0, 1) := by decide +kernel
theorem dX8_search_430 : decode cX8_search 430 = .ok (.istore 5, 2) := by decide +kernel
theorem dX8_search_432 : decode cX8_search 432 = .ok (.iload 5, 2) := by decide +kernel
theorem dX8_search_434 : decode cX8_search 434 = .ok (.aload_n 0, 1) := by decide +kernel
theorem dX8_search_435 : decode cX8_search 435 = .ok (.getfield 61, 3) := by decide +kernel
theorem dX8_search_438 : decode cX8_search 438 = .ok (.if_icmp .ge 23, 3) := by decide +kernel
theorem dX8_search_441 : decode cX8_search 441 = .ok (.aload_n 0, 1) := by decide +kernel
theorem dX8_search_442 : decode cX8_search 442 = .ok (.getfield 29, 3) := by decide +kernel
theorem dX8_search_445 : decode cX8_search 445 = .ok (.iload 5, 2) := by decide +kernel
theorem dX8_search_447 : decode cX8_search 447 = .ok (.aload_n 0, 1) := by decide +kernel
theorem dX8_search_448 : decode cX8_search 448 = .ok (.getfield 44, 3) := by decide +kernel
theorem dX8_search_451 : decode cX8_search 451 = .ok (.iload 5, 2) := by decide +kernel
theorem dX8_search_453 : decode cX8_search 453 = .ok (.iaload, 1) := by decide +kernel
theorem dX8_search_454 : decode cX8_search 454 = .ok (.iastore, 1) := by decide +kernel
theorem dX8_search_455 : decode cX8_search 455 = .ok (.iinc 5 1, 3) := by decide +kernel
theorem dX8_search_458 : decode cX8_search 458 = .ok (.goto (-26), 3) := by decide +kernel
theorem dX8_search_461 : decode cX8_search 461 = .ok (.iload_n 3, 1) := by decide +kernel
theorem dX8_search_462 : decode cX8_search 462 = .ok (.ireturn, 1) := by decide +kernel
theorem dX8_remember_0 : decode cX8_remember 0 = .ok (.iconst 0, 1) := by decide +kernel
theorem dX8_remember_1 : decode cX8_remember 1 = .ok (.istore_n 1, 1) := by decide +kernel
theorem dX8_remember_2 : decode cX8_remember 2 = .ok (.iconst 0, 1) := by decide +kernel
theorem dX8_remember_3 : decode cX8_remember 3 = .ok (.istore_n 2, 1) := by decide +kernel
theorem dX8_remember_4 : decode cX8_remember 4 = .ok (.iload_n 2, 1) := by decide +kernel
theorem dX8_remember_5 : decode cX8_remember 5 = .ok (.aload_n 0, 1) := by decide +kernel
theorem dX8_remember_6 : decode cX8_remember 6 = .ok (.getfield 61, 3) := by decide +kernel
theorem dX8_remember_9 : decode cX8_remember 9 = .ok (.if_icmp .ge 39, 3) := by decide +kernel
theorem dX8_remember_12 : decode cX8_remember 12 = .ok (.aload_n 0, 1) := by decide +kernel
theorem dX8_remember_13 : decode cX8_remember 13 = .ok (.getfield 32, 3) := by decide +kernel
theorem dX8_remember_16 : decode cX8_remember 16 = .ok (.iload_n 2, 1) := by decide +kernel
theorem dX8_remember_17 : decode cX8_remember 17 = .ok (.aload_n 0, 1) := by decide +kernel
theorem dX8_remember_18 : decode cX8_remember 18 = .ok (.getfield 29, 3) := by decide +kernel
theorem dX8_remember_21 : decode cX8_remember 21 = .ok (.iload_n 2, 1) := by decide +kernel
theorem dX8_remember_22 : decode cX8_remember 22 = .ok (.iaload, 1) := by decide +kernel
theorem dX8_remember_23 : decode cX8_remember 23 = .ok (.iastore, 1) := by decide +kernel
theorem dX8_remember_24 : decode cX8_remember 24 = .ok (.iload_n 1, 1) := by decide +kernel
theorem dX8_remember_25 : decode cX8_remember 25 = .ok (.aload_n 0, 1) := by decide +kernel
theorem dX8_remember_26 : decode cX8_remember 26 = .ok (.getfield 29, 3) := by decide +kernel
theorem dX8_remember_29 : decode cX8_remember 29 = .ok (.iload_n 2, 1) := by decide +kernel
theorem dX8_remember_30 : decode cX8_remember 30 = .ok (.iaload, 1) := by decide +kernel
theorem dX8_remember_31 : decode cX8_remember 31 = .ok (.iconst (-1), 1) := by decide +kernel
theorem dX8_remember_32 : decode cX8_remember 32 = .ok (.if_icmp .ne 7, 3) := by decide +kernel
theorem dX8_remember_35 : decode cX8_remember 35 = .ok (.iconst 0, 1) := by decide +kernel
theorem dX8_remember_36 : decode cX8_remember 36 = .ok (.goto 4, 3) := by decide +kernel
theorem dX8_remember_39 : decode cX8_remember 39 = .ok (.iconst 1, 1) := by decide +kernel
theorem dX8_remember_40 : decode cX8_remember 40 = .ok (.iadd, 1) := by decide +kernel
theorem dX8_remember_41 : decode cX8_remember 41 = .ok (.istore_n 1, 1) := by decide +kernel
theorem dX8_remember_42 : decode cX8_remember 42 = .ok (.iinc 2 1, 3) := by decide +kernel
theorem dX8_remember_45 : decode cX8_remember 45 = .ok (.goto (-41), 3) := by decide +kernel
theorem dX8_remember_48 : decode cX8_remember 48 = .ok (.aload_n 0, 1) := by decide +kernel
theorem dX8_remember_49 : decode cX8_remember 49 = .ok (.iload_n 1, 1) := by decide +kernel
theorem dX8_remember_50 : decode cX8_remember 50 = .ok (.invokevirtual 134, 3) := by decide +kernel
theorem dX8_remember_53 : decode cX8_remember 53 = .ok (.ireturn, 1) := by decide +kernel
theorem dX8_recall_0 : decode cX8_recall 0 = .ok (.iconst 1, 1) := by decide +kernel
theorem dX8_recall_1 : decode cX8_recall 1 = .ok (.istore_n 1, 1) := by decide +kernel
theorem dX8_recall_2 : decode cX8_recall 2 = .ok (.iconst 0, 1) := by decide +kernel
theorem dX8_recall_3 : decode cX8_recall 3 = .ok (.istore_n 2, 1) := by decide +kernel
theorem dX8_recall_4 : decode cX8_recall 4 = .ok (.iload_n 2, 1) := by decide +kernel
theorem dX8_recall_5 : decode cX8_recall 5 = .ok (.aload_n 0, 1) := by decide +kernel
theorem dX8_recall_6 : decode cX8_recall 6 = .ok (.getfield 61, 3) := by decide +kernel
theorem dX8_recall_9 : decode cX8_recall 9 = .ok (.if_icmp .ge 43, 3) := by decide +kernel
theorem dX8_recall_12 : decode cX8_recall 12 = .ok (.iload_n 1, 1) := by decide +kernel
theorem dX8_recall_13 : decode cX8_recall 13 = .ok (.ifCond .eq 31, 3) := by decide +kernel
theorem dX8_recall_16 : decode cX8_recall 16 = .ok (.aload_n 0, 1) := by decide +kernel
theorem dX8_recall_17 : decode cX8_recall 17 = .ok (.getfield 32, 3) := by decide +kernel
theorem dX8_recall_20 : decode cX8_recall 20 = .ok (.iload_n 2, 1) := by decide +kernel
theorem dX8_recall_21 : decode cX8_recall 21 = .ok (.iaload, 1) := by decide +kernel
theorem dX8_recall_22 : decode cX8_recall 22 = .ok (.iconst (-1), 1) := by decide +kernel
theorem dX8_recall_23 : decode cX8_recall 23 = .ok (.if_icmp .eq 17, 3) := by decide +kernel
theorem dX8_recall_26 : decode cX8_recall 26 = .ok (.aload_n 0, 1) := by decide +kernel
theorem dX8_recall_27 : decode cX8_recall 27 = .ok (.iload_n 2, 1) := by decide +kernel
theorem dX8_recall_28 : decode cX8_recall 28 = .ok (.aload_n 0, 1) := by decide +kernel
theorem dX8_recall_29 : decode cX8_recall 29 = .ok (.getfield 32, 3) := by decide +kernel
theorem dX8_recall_32 : decode cX8_recall 32 = .ok (.iload_n 2, 1) := by decide +kernel
theorem dX8_recall_33 : decode cX8_recall 33 = .ok (.iaload, 1) := by decide +kernel
theorem dX8_recall_34 : decode cX8_recall 34 = .ok (.invokevirtual 107, 3) := by decide +kernel
theorem dX8_recall_37 : decode cX8_recall 37 = .ok (.ifCond .eq 7, 3) := by decide +kernel
theorem dX8_recall_40 : decode cX8_recall 40 = .ok (.iconst 1, 1) := by decide +kernel
theorem dX8_recall_41 : decode cX8_recall 41 = .ok (.goto 4, 3) := by decide +kernel
theorem dX8_recall_44 : decode cX8_recall 44 = .ok (.iconst 0, 1) := by decide +kernel
theorem dX8_recall_45 : decode cX8_recall 45 = .ok (.istore_n 1, 1) := by decide +kernel
theorem dX8_recall_46 : decode cX8_recall 46 = .ok (.iinc 2 1, 3) := by decide +kernel
theorem dX8_recall_49 : decode cX8_recall 49 = .ok (.goto (-45), 3) := by decide +kernel
theorem dX8_recall_52 : decode cX8_recall 52 = .ok (.aload_n 0, 1) := by decide +kernel
theorem dX8_recall_53 : decode cX8_recall 53 = .ok (.iload_n 1, 1) := by decide +kernel
theorem dX8_recall_54 : decode cX8_recall 54 = .ok (.invokevirtual 89, 3) := by decide +kernel
theorem dX8_recall_57 : decode cX8_recall 57 = .ok (.ifCond .ne 5, 3) := by decide +kernel
theorem dX8_recall_60 : decode cX8_recall 60 = .ok (.iconst 0, 1) := by decide +kernel
theorem dX8_recall_61 : decode cX8_recall 61 = .ok (.ireturn, 1) := by decide +kernel
theorem dX8_recall_62 : decode cX8_recall 62 = .ok (.iconst 0, 1) := by decide +kernel
theorem dX8_recall_63 : decode cX8_recall 63 = .ok (.istore_n 2, 1) := by decide +kernel
theorem dX8_recall_64 : decode cX8_recall 64 = .ok (.iconst 0, 1) := by decide +kernel
theorem dX8_recall_65 : decode cX8_recall 65 = .ok (.istore_n 3, 1) := by decide +kernel
theorem dX8_recall_66 : decode cX8_recall 66 = .ok (.iload_n 3, 1) := by decide +kernel
theorem dX8_recall_67 : decode cX8_recall 67 = .ok (.aload_n 0, 1) := by decide +kernel
theorem dX8_recall_68 : decode cX8_recall 68 = .ok (.getfield 61, 3) := by decide +kernel
theorem dX8_recall_71 : decode cX8_recall 71 = .ok (.if_icmp .ge 44, 3) := by decide +kernel
theorem dX8_recall_74 : decode cX8_recall 74 = .ok (.iload_n 2, 1) := by decide +kernel
theorem dX8_recall_75 : decode cX8_recall 75 = .ok (.aload_n 0, 1) := by decide +kernel
theorem dX8_recall_76 : decode cX8_recall 76 = .ok (.getfield 29, 3) := by decide +kernel
theorem dX8_recall_79 : decode cX8_recall 79 = .ok (.iload_n 3, 1) := by decide +kernel
theorem dX8_recall_80 : decode cX8_recall 80 = .ok (.iaload, 1) := by decide +kernel
theorem dX8_recall_81 : decode cX8_recall 81 = .ok (.aload_n 0, 1) := by decide +kernel
theorem dX8_recall_82 : decode cX8_recall 82 = .ok (.getfield 32, 3) := by decide +kernel
theorem dX8_recall_85 : decode cX8_recall 85 = .ok (.iload_n 3, 1) := by decide +kernel
theorem dX8_recall_86 : decode cX8_recall 86 = .ok (.iaload, 1) := by decide +kernel
theorem dX8_recall_87 : decode cX8_recall 87 = .ok (.if_icmp .ne 7, 3) := by decide +kernel
theorem dX8_recall_90 : decode cX8_recall 90 = .ok (.iconst 0, 1) := by decide +kernel
theorem dX8_recall_91 : decode cX8_recall 91 = .ok (.goto 4, 3) := by decide +kernel
theorem dX8_recall_94 : decode cX8_recall 94 = .ok (.iconst 1, 1) := by decide +kernel
theorem dX8_recall_95 : decode cX8_recall 95 = .ok (.iadd, 1) := by decide +kernel
theorem dX8_recall_96 : decode cX8_recall 96 = .ok (.istore_n 2, 1) := by decide +kernel
theorem dX8_recall_97 : decode cX8_recall 97 = .ok (.aload_n 0, 1) := by decide +kernel
theorem dX8_recall_98 : decode cX8_recall 98 = .ok (.getfield 29, 3) := by decide +kernel
theorem dX8_recall_101 : decode cX8_recall 101 = .ok (.iload_n 3, 1) := by decide +kernel
theorem dX8_recall_102 : decode cX8_recall 102 = .ok (.aload_n 0, 1) := by decide +kernel
theorem dX8_recall_103 : decode cX8_recall 103 = .ok (.getfield 32, 3) := by decide +kernel
theorem dX8_recall_106 : decode cX8_recall 106 = .ok (.iload_n 3, 1) := by decide +kernel
theorem dX8_recall_107 : decode cX8_recall 107 = .ok (.iaload, 1) := by decide +kernel
theorem dX8_recall_108 : decode cX8_recall 108 = .ok (.iastore, 1) := by decide +kernel
theorem dX8_recall_109 : decode cX8_recall 109 = .ok (.iinc 3 1, 3) := by decide +kernel
theorem dX8_recall_112 : decode cX8_recall 112 = .ok (.goto (-46), 3) := by decide +kernel
theorem dX8_recall_115 : decode cX8_recall 115 = .ok (.iload_n 2, 1) := by decide +kernel
theorem dX8_recall_116 : decode cX8_recall 116 = .ok (.ireturn, 1) := by decide +kernel
theorem dX8_zones_0 : decode cX8_zones 0 = .ok (.aload_n 0, 1) := by decide +kernel
theorem dX8_zones_1 : decode cX8_zones 1 = .ok (.aload_n 0, 1) := by decide +kernel
theorem dX8_zones_2 : decode cX8_zones 2 = .ok (.getfield 58, 3) := by decide +kernel
theorem dX8_zones_5 : decode cX8_zones 5 = .ok (.invokevirtual 134, 3) := by decide +kernel
theorem dX8_zones_8 : decode cX8_zones 8 = .ok (.ireturn, 1) := by decide +kernel
theorem dX8_teams_0 : decode cX8_teams 0 = .ok (.aload_n 0, 1) := by decide +kernel
theorem dX8_teams_1 : decode cX8_teams 1 = .ok (.aload_n 0, 1) := by decide +kernel
theorem dX8_teams_2 : decode cX8_teams 2 = .ok (.getfield 61, 3) := by decide +kernel
theorem dX8_teams_5 : decode cX8_teams 5 = .ok (.invokevirtual 134, 3) := by decide +kernel
theorem dX8_teams_8 : decode cX8_teams 8 = .ok (.ireturn, 1) := by decide +kernel
theorem dX8_need_0 : decode cX8_need 0 = .ok (.aload_n 0, 1) := by decide +kernel
theorem dX8_need_1 : decode cX8_need 1 = .ok (.aload_n 0, 1) := by decide +kernel
theorem dX8_need_2 : decode cX8_need 2 = .ok (.iload_n 1, 1) := by decide +kernel
theorem dX8_need_3 : decode cX8_need 3 = .ok (.invokevirtual 92, 3) := by decide +kernel
theorem dX8_need_6 : decode cX8_need 6 = .ok (.invokevirtual 89, 3) := by decide +kernel
theorem dX8_need_9 : decode cX8_need 9 = .ok (.ifCond .eq 11, 3) := by decide +kernel
theorem dX8_need_12 : decode cX8_need 12 = .ok (.aload_n 0, 1) := by decide +kernel
theorem dX8_need_13 : decode cX8_need 13 = .ok (.iload_n 1, 1) := by decide +kernel
theorem dX8_need_14 : decode cX8_need 14 = .ok (.invokevirtual 64, 3) := by decide +kernel
theorem dX8_need_17 : decode cX8_need 17 = .ok (.goto 4, 3) := by decide +kernel
theorem dX8_need_20 : decode cX8_need 20 = .ok (.iconst 0, 1) := by decide +kernel
theorem dX8_need_21 : decode cX8_need 21 = .ok (.ireturn, 1) := by decide +kernel
theorem dX8_share_0 : decode cX8_share 0 = .ok (.aload_n 0, 1) := by decide +kernel
theorem dX8_share_1 : decode cX8_share 1 = .ok (.aload_n 0, 1) := by decide +kernel
theorem dX8_share_2 : decode cX8_share 2 = .ok (.iload_n 1, 1) := by decide +kernel
theorem dX8_share_3 : decode cX8_share 3 = .ok (.invokevirtual 92, 3) := by decide +kernel
theorem dX8_share_6 : decode cX8_share 6 = .ok (.invokevirtual 89, 3) := by decide +kernel
theorem dX8_share_9 : decode cX8_share 9 = .ok (.ifCond .ne 5, 3) := by decide +kernel
theorem dX8_share_12 : decode cX8_share 12 = .ok (.iconst 0, 1) := by decide +kernel
theorem dX8_share_13 : decode cX8_share 13 = .ok (.ireturn, 1) := by decide +kernel
theorem dX8_share_14 : decode cX8_share 14 = .ok (.iconst 0, 1) := by decide +kernel
theorem dX8_share_15 : decode cX8_share 15 = .ok (.istore_n 2, 1) := by decide +kernel
theorem dX8_share_16 : decode cX8_share 16 = .ok (.iconst 0, 1) := by decide +kernel
theorem dX8_share_17 : decode cX8_share 17 = .ok (.istore_n 3, 1) := by decide +kernel
theorem dX8_share_18 : decode cX8_share 18 = .ok (.iload_n 3, 1) := by decide +kernel
theorem dX8_share_19 : decode cX8_share 19 = .ok (.iconst 5, 1) := by decide +kernel
theorem dX8_share_20 : decode cX8_share 20 = .ok (.if_icmp .ge 22, 3) := by decide +kernel
theorem dX8_share_23 : decode cX8_share 23 = .ok (.iload_n 2, 1) := by decide +kernel
theorem dX8_share_24 : decode cX8_share 24 = .ok (.aload_n 0, 1) := by decide +kernel
theorem dX8_share_25 : decode cX8_share 25 = .ok (.getfield 20, 3) := by decide +kernel
theorem dX8_share_28 : decode cX8_share 28 = .ok (.iconst 5, 1) := by decide +kernel
theorem dX8_share_29 : decode cX8_share 29 = .ok (.iload_n 1, 1) := by decide +kernel
theorem dX8_share_30 : decode cX8_share 30 = .ok (.imul, 1) := by decide +kernel
theorem dX8_share_31 : decode cX8_share 31 = .ok (.iload_n 3, 1) := by decide +kernel
theorem dX8_share_32 : decode cX8_share 32 = .ok (.iadd, 1) := by decide +kernel
theorem dX8_share_33 : decode cX8_share 33 = .ok (.iaload, 1) := by decide +kernel
theorem dX8_share_34 : decode cX8_share 34 = .ok (.iadd, 1) := by decide +kernel
theorem dX8_share_35 : decode cX8_share 35 = .ok (.istore_n 2, 1) := by decide +kernel
theorem dX8_share_36 : decode cX8_share 36 = .ok (.iinc 3 1, 3) := by decide +kernel
theorem dX8_share_39 : decode cX8_share 39 = .ok (.goto (-21), 3) := by decide +kernel
theorem dX8_share_42 : decode cX8_share 42 = .ok (.aload_n 0, 1) := by decide +kernel
theorem dX8_share_43 : decode cX8_share 43 = .ok (.iload_n 1, 1) := by decide +kernel
theorem dX8_share_44 : decode cX8_share 44 = .ok (.invokevirtual 64, 3) := by decide +kernel
theorem dX8_share_47 : decode cX8_share 47 = .ok (.istore_n 3, 1) := by decide +kernel
theorem dX8_share_48 : decode cX8_share 48 = .ok (.iload_n 3, 1) := by decide +kernel
theorem dX8_share_49 : decode cX8_share 49 = .ok (.ifCond .ne 8, 3) := by decide +kernel
theorem dX8_share_52 : decode cX8_share 52 = .ok (.bipush 100, 2) := by decide +kernel
theorem dX8_share_54 : decode cX8_share 54 = .ok (.goto 11, 3) := by decide +kernel
theorem dX8_share_57 : decode cX8_share 57 = .ok (.bipush 100, 2) := by decide +kernel
theorem dX8_share_59 : decode cX8_share 59 = .ok (.iload_n 2, 1) := by decide +kernel
theorem dX8_share_60 : decode cX8_share 60 = .ok (.imul, 1) := by decide +kernel
theorem dX8_share_61 : decode cX8_share 61 = .ok (.iconst 5, 1) := by decide +kernel
theorem dX8_share_62 : decode cX8_share 62 = .ok (.iload_n 3, 1) := by decide +kernel
theorem dX8_share_63 : decode cX8_share 63 = .ok (.imul, 1) := by decide +kernel
theorem dX8_share_64 : decode cX8_share 64 = .ok (.idiv, 1) := by decide +kernel
theorem dX8_share_65 : decode cX8_share 65 = .ok (.ireturn, 1) := by decide +kernel
theorem dX8_zoneOf_0 : decode cX8_zoneOf 0 = .ok (.aload_n 0, 1) := by decide +kernel
theorem dX8_zoneOf_1 : decode cX8_zoneOf 1 = .ok (.aload_n 0, 1) := by decide +kernel
theorem dX8_zoneOf_2 : decode cX8_zoneOf 2 = .ok (.iload_n 1, 1) := by decide +kernel
theorem dX8_zoneOf_3 : decode cX8_zoneOf 3 = .ok (.invokevirtual 92, 3) := by decide +kernel
theorem dX8_zoneOf_6 : decode cX8_zoneOf 6 = .ok (.invokevirtual 89, 3) := by decide +kernel
theorem dX8_zoneOf_9 : decode cX8_zoneOf 9 = .ok (.ifCond .eq 12, 3) := by decide +kernel
theorem dX8_zoneOf_12 : decode cX8_zoneOf 12 = .ok (.aload_n 0, 1) := by decide +kernel
theorem dX8_zoneOf_13 : decode cX8_zoneOf 13 = .ok (.getfield 29, 3) := by decide +kernel
theorem dX8_zoneOf_16 : decode cX8_zoneOf 16 = .ok (.iload_n 1, 1) := by decide +kernel
theorem dX8_zoneOf_17 : decode cX8_zoneOf 17 = .ok (.iaload, 1) := by decide +kernel
theorem dX8_zoneOf_18 : decode cX8_zoneOf 18 = .ok (.goto 4, 3) := by decide +kernel
theorem dX8_zoneOf_21 : decode cX8_zoneOf 21 = .ok (.iconst 0, 1) := by decide +kernel
theorem dX8_zoneOf_22 : decode cX8_zoneOf 22 = .ok (.ireturn, 1) := by decide +kernel
theorem dX8_teamIn_0 : decode cX8_teamIn 0 = .ok (.aload_n 0, 1) := by decide +kernel
theorem dX8_teamIn_1 : decode cX8_teamIn 1 = .ok (.aload_n 0, 1) := by decide +kernel
theorem dX8_teamIn_2 : decode cX8_teamIn 2 = .ok (.iload_n 1, 1) := by decide +kernel
theorem dX8_teamIn_3 : decode cX8_teamIn 3 = .ok (.invokevirtual 83, 3) := by decide +kernel
theorem dX8_teamIn_6 : decode cX8_teamIn 6 = .ok (.invokevirtual 89, 3) := by decide +kernel
theorem dX8_teamIn_9 : decode cX8_teamIn 9 = .ok (.ifCond .eq 11, 3) := by decide +kernel
theorem dX8_teamIn_12 : decode cX8_teamIn 12 = .ok (.aload_n 0, 1) := by decide +kernel
theorem dX8_teamIn_13 : decode cX8_teamIn 13 = .ok (.iload_n 1, 1) := by decide +kernel
theorem dX8_teamIn_14 : decode cX8_teamIn 14 = .ok (.invokevirtual 86, 3) := by decide +kernel
theorem dX8_teamIn_17 : decode cX8_teamIn 17 = .ok (.goto 4, 3) := by decide +kernel
theorem dX8_teamIn_20 : decode cX8_teamIn 20 = .ok (.iconst 0, 1) := by decide +kernel
theorem dX8_teamIn_21 : decode cX8_teamIn 21 = .ok (.ireturn, 1) := by decide +kernel
theorem dX8_free_0 : decode cX8_free 0 = .ok (.aload_n 0, 1) := by decide +kernel
theorem dX8_free_1 : decode cX8_free 1 = .ok (.aload_n 0, 1) := by decide +kernel
theorem dX8_free_2 : decode cX8_free 2 = .ok (.iload_n 1, 1) := by decide +kernel
theorem dX8_free_3 : decode cX8_free 3 = .ok (.invokevirtual 83, 3) := by decide +kernel
theorem dX8_free_6 : decode cX8_free 6 = .ok (.ifCond .eq 16, 3) := by decide +kernel
theorem dX8_free_9 : decode cX8_free 9 = .ok (.iload_n 2, 1) := by decide +kernel
theorem dX8_free_10 : decode cX8_free 10 = .ok (.iconst 0, 1) := by decide +kernel
theorem dX8_free_11 : decode cX8_free 11 = .ok (.iconst 4, 1) := by decide +kernel
theorem dX8_free_12 : decode cX8_free 12 = .ok (.invokestatic 54, 3) := by decide +kernel
theorem dX8_free_15 : decode cX8_free 15 = .ok (.ifCond .eq 7, 3) := by decide +kernel
theorem dX8_free_18 : decode cX8_free 18 = .ok (.iconst 1, 1) := by decide +kernel
theorem dX8_free_19 : decode cX8_free 19 = .ok (.goto 4, 3) := by decide +kernel
theorem dX8_free_22 : decode cX8_free 22 = .ok (.iconst 0, 1) := by decide +kernel
theorem dX8_free_23 : decode cX8_free 23 = .ok (.invokevirtual 89, 3) := by decide +kernel
theorem dX8_free_26 : decode cX8_free 26 = .ok (.ifCond .ne 5, 3) := by decide +kernel
theorem dX8_free_29 : decode cX8_free 29 = .ok (.iconst 0, 1) := by decide +kernel
theorem dX8_free_30 : decode cX8_free 30 = .ok (.ireturn, 1) := by decide +kernel
theorem dX8_free_31 : decode cX8_free 31 = .ok (.aload_n 0, 1) := by decide +kernel
theorem dX8_free_32 : decode cX8_free 32 = .ok (.iload_n 1, 1) := by decide +kernel
theorem dX8_free_33 : decode cX8_free 33 = .ok (.invokevirtual 86, 3) := by decide +kernel
theorem dX8_free_36 : decode cX8_free 36 = .ok (.istore_n 3, 1) := by decide +kernel
theorem dX8_free_37 : decode cX8_free 37 = .ok (.aload_n 0, 1) := by decide +kernel
theorem dX8_free_38 : decode cX8_free 38 = .ok (.getfield 17, 3) := by decide +kernel
theorem dX8_free_41 : decode cX8_free 41 = .ok (.iload_n 1, 1) := by decide +kernel
theorem dX8_free_42 : decode cX8_free 42 = .ok (.iaload, 1) := by decide +kernel
theorem dX8_free_43 : decode cX8_free 43 = .ok (.iload_n 3, 1) := by decide +kernel
theorem dX8_free_44 : decode cX8_free 44 = .ok (.iconst (-1), 1) := by decide +kernel
theorem dX8_free_45 : decode cX8_free 45 = .ok (.if_icmp .ne 7, 3) := by decide +kernel
theorem dX8_free_48 : decode cX8_free 48 = .ok (.iconst 0, 1) := by decide +kernel
theorem dX8_free_49 : decode cX8_free 49 = .ok (.goto 13, 3) := by decide +kernel
theorem dX8_free_52 : decode cX8_free 52 = .ok (.aload_n 0, 1) := by decide +kernel
theorem dX8_free_53 : decode cX8_free 53 = .ok (.getfield 20, 3) := by decide +kernel
theorem dX8_free_56 : decode cX8_free 56 = .ok (.iconst 5, 1) := by decide +kernel
theorem dX8_free_57 : decode cX8_free 57 = .ok (.iload_n 3, 1) := by decide +kernel
theorem dX8_free_58 : decode cX8_free 58 = .ok (.imul, 1) := by decide +kernel
theorem dX8_free_59 : decode cX8_free 59 = .ok (.iload_n 2, 1) := by decide +kernel
theorem dX8_free_60 : decode cX8_free 60 = .ok (.iadd, 1) := by decide +kernel
theorem dX8_free_61 : decode cX8_free 61 = .ok (.iaload, 1) := by decide +kernel
theorem dX8_free_62 : decode cX8_free 62 = .ok (.isub, 1) := by decide +kernel
theorem dX8_free_63 : decode cX8_free 63 = .ok (.ireturn, 1) := by decide +kernel
theorem dX8_distance_0 : decode cX8_distance 0 = .ok (.aload_n 0, 1) := by decide +kernel
theorem dX8_distance_1 : decode cX8_distance 1 = .ok (.aload_n 0, 1) := by decide +kernel
theorem dX8_distance_2 : decode cX8_distance 2 = .ok (.iload_n 1, 1) := by decide +kernel
theorem dX8_distance_3 : decode cX8_distance 3 = .ok (.invokevirtual 83, 3) := by decide +kernel
theorem dX8_distance_6 : decode cX8_distance 6 = .ok (.ifCond .eq 15, 3) := by decide +kernel
theorem dX8_distance_9 : decode cX8_distance 9 = .ok (.aload_n 0, 1) := by decide +kernel
theorem dX8_distance_10 : decode cX8_distance 10 = .ok (.iload_n 2, 1) := by decide +kernel
theorem dX8_distance_11 : decode cX8_distance 11 = .ok (.invokevirtual 83, 3) := by decide +kernel
theorem dX8_distance_14 : decode cX8_distance 14 = .ok (.ifCond .eq 7, 3) := by decide +kernel
theorem dX8_distance_17 : decode cX8_distance 17 = .ok (.iconst 1, 1) := by decide +kernel
theorem dX8_distance_18 : decode cX8_distance 18 = .ok (.goto 4, 3) := by decide +kernel
theorem dX8_distance_21 : decode cX8_distance 21 = .ok (.iconst 0, 1) := by decide +kernel
theorem dX8_distance_22 : decode cX8_distance 22 = .ok (.invokevirtual 89, 3) := by decide +kernel
theorem dX8_distance_25 : decode cX8_distance 25 = .ok (.ifCond .ne 5, 3) := by decide +kernel
theorem dX8_distance_28 : decode cX8_distance 28 = .ok (.iconst 0, 1) := by decide +kernel
theorem dX8_distance_29 : decode cX8_distance 29 = .ok (.ireturn, 1) := by decide +kernel
theorem dX8_distance_30 : decode cX8_distance 30 = .ok (.aload_n 0, 1) := by decide +kernel
theorem dX8_distance_31 : decode cX8_distance 31 = .ok (.invokevirtual 110, 3) := by decide +kernel
theorem dX8_distance_34 : decode cX8_distance 34 = .ok (.aload_n 0, 1) := by decide +kernel
theorem dX8_distance_35 : decode cX8_distance 35 = .ok (.getfield 35, 3) := by decide +kernel
theorem dX8_distance_38 : decode cX8_distance 38 = .ok (.bipush 7, 2) := by decide +kernel
theorem dX8_distance_40 : decode cX8_distance 40 = .ok (.iload_n 1, 1) := by decide +kernel
theorem dX8_distance_41 : decode cX8_distance 41 = .ok (.imul, 1) := by decide +kernel
theorem dX8_distance_42 : decode cX8_distance 42 = .ok (.iload_n 2, 1) := by decide +kernel
theorem dX8_distance_43 : decode cX8_distance 43 = .ok (.iadd, 1) := by decide +kernel
theorem dX8_distance_44 : decode cX8_distance 44 = .ok (.iaload, 1) := by decide +kernel
theorem dX8_distance_45 : decode cX8_distance 45 = .ok (.ireturn, 1) := by decide +kernel
theorem dX8_wishCost_0 : decode cX8_wishCost 0 = .ok (.aload_n 0, 1) := by decide +kernel
theorem dX8_wishCost_1 : decode cX8_wishCost 1 = .ok (.aload_n 0, 1) := by decide +kernel
theorem dX8_wishCost_2 : decode cX8_wishCost 2 = .ok (.aload_n 0, 1) := by decide +kernel
theorem dX8_wishCost_3 : decode cX8_wishCost 3 = .ok (.getfield 29, 3) := by decide +kernel
theorem dX8_wishCost_6 : decode cX8_wishCost 6 = .ok (.invokevirtual 103, 3) := by decide +kernel
theorem dX8_wishCost_9 : decode cX8_wishCost 9 = .ok (.invokevirtual 134, 3) := by decide +kernel
theorem dX8_wishCost_12 : decode cX8_wishCost 12 = .ok (.ireturn, 1) := by decide +kernel
theorem dX8_cost_0 : decode cX8_cost 0 = .ok (.aload_n 0, 1) := by decide +kernel
theorem dX8_cost_1 : decode cX8_cost 1 = .ok (.invokevirtual 110, 3) := by decide +kernel
theorem dX8_cost_4 : decode cX8_cost 4 = .ok (.aload_n 0, 1) := by decide +kernel
theorem dX8_cost_5 : decode cX8_cost 5 = .ok (.aload_n 0, 1) := by decide +kernel
theorem dX8_cost_6 : decode cX8_cost 6 = .ok (.aload_n 0, 1) := by decide +kernel
theorem dX8_cost_7 : decode cX8_cost 7 = .ok (.getfield 29, 3) := by decide +kernel
theorem dX8_cost_10 : decode cX8_cost 10 = .ok (.invokevirtual 113, 3) := by decide +kernel
theorem dX8_cost_13 : decode cX8_cost 13 = .ok (.invokevirtual 134, 3) := by decide +kernel
theorem dX8_cost_16 : decode cX8_cost 16 = .ok (.ireturn, 1) := by decide +kernel
theorem dX8_leastWishCost_0 : decode cX8_leastWishCost 0 = .ok (.aload_n 0, 1) := by decide +kernel
theorem dX8_leastWishCost_1 : decode cX8_leastWishCost 1 = .ok (.aload_n 0, 1) := by decide +kernel
theorem dX8_leastWishCost_2 : decode cX8_leastWishCost 2 = .ok (.iconst 0, 1) := by decide +kernel
theorem dX8_leastWishCost_3 : decode cX8_leastWishCost 3 = .ok (.invokevirtual 119, 3) := by decide +kernel
theorem dX8_leastWishCost_6 : decode cX8_leastWishCost 6 = .ok (.invokevirtual 134, 3) := by decide +kernel
theorem dX8_leastWishCost_9 : decode cX8_leastWishCost 9 = .ok (.ireturn, 1) := by decide +kernel
theorem dX8_circlesNow_0 : decode cX8_circlesNow 0 = .ok (.iconst 0, 1) := by decide +kernel
theorem dX8_circlesNow_1 : decode cX8_circlesNow 1 = .ok (.istore_n 1, 1) := by decide +kernel
theorem dX8_circlesNow_2 : decode cX8_circlesNow 2 = .ok (.iconst 0, 1) := by decide +kernel
theorem dX8_circlesNow_3 : decode cX8_circlesNow 3 = .ok (.istore_n 2, 1) := by decide +kernel
theorem dX8_circlesNow_4 : decode cX8_circlesNow 4 = .ok (.iload_n 2, 1) := by decide +kernel
theorem dX8_circlesNow_5 : decode cX8_circlesNow 5 = .ok (.aload_n 0, 1) := by decide +kernel
theorem dX8_circlesNow_6 : decode cX8_circlesNow 6 = .ok (.getfield 61, 3) := by decide +kernel
theorem dX8_circlesNow_9 : decode cX8_circlesNow 9 = .ok (.if_icmp .ge 127, 3) := by decide +kernel
theorem dX8_circlesNow_12 : decode cX8_circlesNow 12 = .ok (.iload_n 2, 1) := by decide +kernel
theorem dX8_circlesNow_13 : decode cX8_circlesNow 13 = .ok (.istore_n 3, 1) := by decide +kernel
theorem dX8_circlesNow_14 : decode cX8_circlesNow 14 = .ok (.iconst 1, 1) := by decide +kernel
theorem dX8_circlesNow_15 : decode cX8_circlesNow 15 = .ok (.istore 4, 2) := by decide +kernel
theorem dX8_circlesNow_17 : decode cX8_circlesNow 17 = .ok (.iconst 0, 1) := by decide +kernel
theorem dX8_circlesNow_18 : decode cX8_circlesNow 18 = .ok (.istore 5, 2) := by decide +kernel
theorem dX8_circlesNow_20 : decode cX8_circlesNow 20 = .ok (.iload 5, 2) := by decide +kernel
theorem dX8_circlesNow_22 : decode cX8_circlesNow 22 = .ok (.aload_n 0, 1) := by decide +kernel
theorem dX8_circlesNow_23 : decode cX8_circlesNow 23 = .ok (.getfield 61, 3) := by decide +kernel
theorem dX8_circlesNow_26 : decode cX8_circlesNow 26 = .ok (.if_icmp .ge 104, 3) := by decide +kernel
theorem dX8_circlesNow_29 : decode cX8_circlesNow 29 = .ok (.iload_n 3, 1) := by decide +kernel
theorem dX8_circlesNow_30 : decode cX8_circlesNow 30 = .ok (.iconst (-1), 1) := by decide +kernel
theorem dX8_circlesNow_31 : decode cX8_circlesNow 31 = .ok (.if_icmp .eq 99, 3) := by decide +kernel
theorem dX8_circlesNow_34 : decode cX8_circlesNow 34 = .ok (.iload 4, 2) := by decide +kernel
theorem dX8_circlesNow_36 : decode cX8_circlesNow 36 = .ok (.ifCond .eq 94, 3) := by decide +kernel
theorem dX8_circlesNow_39 : decode cX8_circlesNow 39 = .ok (.aload_n 0, 1) := by decide +kernel
theorem dX8_circlesNow_40 : decode cX8_circlesNow 40 = .ok (.getfield 32, 3) := by decide +kernel
theorem dX8_circlesNow_43 : decode cX8_circlesNow 43 = .ok (.iload_n 3, 1) := by decide +kernel
theorem dX8_circlesNow_44 : decode cX8_circlesNow 44 = .ok (.iaload, 1) := by decide +kernel
theorem dX8_circlesNow_45 : decode cX8_circlesNow 45 = .ok (.iconst (-1), 1) := by decide +kernel
theorem dX8_circlesNow_46 : decode cX8_circlesNow 46 = .ok (.if_icmp .eq 28, 3) := by decide +kernel
theorem dX8_circlesNow_49 : decode cX8_circlesNow 49 = .ok (.aload_n 0, 1) := by decide +kernel
theorem dX8_circlesNow_50 : decode cX8_circlesNow 50 = .ok (.getfield 29, 3) := by decide +kernel
theorem dX8_circlesNow_53 : decode cX8_circlesNow 53 = .ok (.iload_n 3, 1) := by decide +kernel
theorem dX8_circlesNow_54 : decode cX8_circlesNow 54 = .ok (.iaload, 1) := by decide +kernel
theorem dX8_circlesNow_55 : decode cX8_circlesNow 55 = .ok (.iconst (-1), 1) := by decide +kernel
theorem dX8_circlesNow_56 : decode cX8_circlesNow 56 = .ok (.if_icmp .eq 18, 3) := by decide +kernel
theorem dX8_circlesNow_59 : decode cX8_circlesNow 59 = .ok (.aload_n 0, 1) := by decide +kernel
theorem dX8_circlesNow_60 : decode cX8_circlesNow 60 = .ok (.getfield 32, 3) := by decide +kernel
theorem dX8_circlesNow_63 : decode cX8_circlesNow 63 = .ok (.iload_n 3, 1) := by decide +kernel
theorem dX8_circlesNow_64 : decode cX8_circlesNow 64 = .ok (.iaload, 1) := by decide +kernel
theorem dX8_circlesNow_65 : decode cX8_circlesNow 65 = .ok (.aload_n 0, 1) := by decide +kernel
theorem dX8_circlesNow_66 : decode cX8_circlesNow 66 = .ok (.getfield 29, 3) := by decide +kernel
theorem dX8_circlesNow_69 : decode cX8_circlesNow 69 = .ok (.iload_n 3, 1) := by decide +kernel
theorem dX8_circlesNow_70 : decode cX8_circlesNow 70 = .ok (.iaload, 1) := by decide +kernel
theorem dX8_circlesNow_71 : decode cX8_circlesNow 71 = .ok (.if_icmp .ne 7, 3) := by decide +kernel
theorem dX8_circlesNow_74 : decode cX8_circlesNow 74 = .ok (.iconst (-1), 1) := by decide +kernel
theorem dX8_circlesNow_75 : decode cX8_circlesNow 75 = .ok (.goto 13, 3) := by decide +kernel
theorem dX8_circlesNow_78 : decode cX8_circlesNow 78 = .ok (.aload_n 0, 1) := by decide +kernel
theorem dX8_circlesNow_79 : decode cX8_circlesNow 79 = .ok (.aload_n 0, 1) := by decide +kernel
theorem dX8_circlesNow_80 : decode cX8_circlesNow 80 = .ok (.getfield 32, 3) := by decide +kernel
theorem dX8_circlesNow_83 : decode cX8_circlesNow 83 = .ok (.iload_n 3, 1) := by decide +kernel
theorem dX8_circlesNow_84 : decode cX8_circlesNow 84 = .ok (.iaload, 1) := by decide +kernel
theorem dX8_circlesNow_85 : decode cX8_circlesNow 85 = .ok (.invokevirtual 86, 3) := by decide +kernel
theorem dX8_circlesNow_88 : decode cX8_circlesNow 88 = .ok (.istore 6, 2) := by decide +kernel
theorem dX8_circlesNow_90 : decode cX8_circlesNow 90 = .ok (.iload 6, 2) := by decide +kernel
theorem dX8_circlesNow_92 : decode cX8_circlesNow 92 = .ok (.iconst (-1), 1) := by decide +kernel
theorem dX8_circlesNow_93 : decode cX8_circlesNow 93 = .ok (.if_icmp .eq 9, 3) := by decide +kernel
theorem dX8_circlesNow_96 : decode cX8_circlesNow 96 = .ok (.iload 6, 2) := by decide +kernel
theorem dX8_circlesNow_98 : decode cX8_circlesNow 98 = .ok (.iload_n 2, 1) := by decide +kernel
theorem dX8_circlesNow_99 : decode cX8_circlesNow 99 = .ok (.if_icmp .lt 7, 3) := by decide +kernel
theorem dX8_circlesNow_102 : decode cX8_circlesNow 102 = .ok (.iconst 1, 1) := by decide +kernel
theorem dX8_circlesNow_103 : decode cX8_circlesNow 103 = .ok (.goto 4, 3) := by decide +kernel
theorem dX8_circlesNow_106 : decode cX8_circlesNow 106 = .ok (.iconst 0, 1) := by decide +kernel
theorem dX8_circlesNow_107 : decode cX8_circlesNow 107 = .ok (.istore 4, 2) := by decide +kernel
theorem dX8_circlesNow_109 : decode cX8_circlesNow 109 = .ok (.iload 6, 2) := by decide +kernel
theorem dX8_circlesNow_111 : decode cX8_circlesNow 111 = .ok (.iload_n 2, 1) := by decide +kernel
theorem dX8_circlesNow_112 : decode cX8_circlesNow 112 = .ok (.if_icmp .ne 9, 3) := by decide +kernel
theorem dX8_circlesNow_115 : decode cX8_circlesNow 115 = .ok (.iinc 1 1, 3) := by decide +kernel
theorem dX8_circlesNow_118 : decode cX8_circlesNow 118 = .ok (.iconst (-1), 1) := by decide +kernel
theorem dX8_circlesNow_119 : decode cX8_circlesNow 119 = .ok (.istore 6, 2) := by decide +kernel
theorem dX8_circlesNow_121 : decode cX8_circlesNow 121 = .ok (.iload 6, 2) := by decide +kernel
theorem dX8_circlesNow_123 : decode cX8_circlesNow 123 = .ok (.istore_n 3, 1) := by decide +kernel
theorem dX8_circlesNow_124 : decode cX8_circlesNow 124 = .ok (.iinc 5 1, 3) := by decide +kernel
theorem dX8_circlesNow_127 : decode cX8_circlesNow 127 = .ok (.goto (-107), 3) := by decide +kernel
theorem dX8_circlesNow_130 : decode cX8_circlesNow 130 = .ok (.iinc 2 1, 3) := by decide +kernel
theorem dX8_circlesNow_133 : decode cX8_circlesNow 133 = .ok (.goto (-129), 3) := by decide +kernel
theorem dX8_circlesNow_136 : decode cX8_circlesNow 136 = .ok (.iload_n 1, 1) := by decide +kernel
theorem dX8_circlesNow_137 : decode cX8_circlesNow 137 = .ok (.ireturn, 1) := by decide +kernel
theorem dX8_circles_0 : decode cX8_circles 0 = .ok (.aload_n 0, 1) := by decide +kernel
theorem dX8_circles_1 : decode cX8_circles 1 = .ok (.aload_n 0, 1) := by decide +kernel
theorem dX8_circles_2 : decode cX8_circles 2 = .ok (.invokevirtual 137, 3) := by decide +kernel
theorem dX8_circles_5 : decode cX8_circles 5 = .ok (.invokevirtual 134, 3) := by decide +kernel
theorem dX8_circles_8 : decode cX8_circles 8 = .ok (.ireturn, 1) := by decide +kernel
theorem dX8_moves_0 : decode cX8_moves 0 = .ok (.aload_n 0, 1) := by decide +kernel
theorem dX8_moves_1 : decode cX8_moves 1 = .ok (.invokevirtual 137, 3) := by decide +kernel
theorem dX8_moves_4 : decode cX8_moves 4 = .ok (.istore_n 1, 1) := by decide +kernel
theorem dX8_moves_5 : decode cX8_moves 5 = .ok (.iconst 0, 1) := by decide +kernel
theorem dX8_moves_6 : decode cX8_moves 6 = .ok (.istore_n 2, 1) := by decide +kernel
theorem dX8_moves_7 : decode cX8_moves 7 = .ok (.iload_n 2, 1) := by decide +kernel
theorem dX8_moves_8 : decode cX8_moves 8 = .ok (.aload_n 0, 1) := by decide +kernel
theorem dX8_moves_9 : decode cX8_moves 9 = .ok (.getfield 61, 3) := by decide +kernel
theorem dX8_moves_12 : decode cX8_moves 12 = .ok (.if_icmp .ge 32, 3) := by decide +kernel
theorem dX8_moves_15 : decode cX8_moves 15 = .ok (.iload_n 1, 1) := by decide +kernel
theorem dX8_moves_16 : decode cX8_moves 16 = .ok (.aload_n 0, 1) := by decide +kernel
theorem dX8_moves_17 : decode cX8_moves 17 = .ok (.getfield 32, 3) := by decide +kernel
theorem dX8_moves_20 : decode cX8_moves 20 = .ok (.iload_n 2, 1) := by decide +kernel
theorem dX8_moves_21 : decode cX8_moves 21 = .ok (.iaload, 1) := by decide +kernel
theorem dX8_moves_22 : decode cX8_moves 22 = .ok (.aload_n 0, 1) := by decide +kernel
theorem dX8_moves_23 : decode cX8_moves 23 = .ok (.getfield 29, 3) := by decide +kernel
theorem dX8_moves_26 : decode cX8_moves 26 = .ok (.iload_n 2, 1) := by decide +kernel
theorem dX8_moves_27 : decode cX8_moves 27 = .ok (.iaload, 1) := by decide +kernel
theorem dX8_moves_28 : decode cX8_moves 28 = .ok (.if_icmp .ne 7, 3) := by decide +kernel
theorem dX8_moves_31 : decode cX8_moves 31 = .ok (.iconst 0, 1) := by decide +kernel
theorem dX8_moves_32 : decode cX8_moves 32 = .ok (.goto 4, 3) := by decide +kernel
theorem dX8_moves_35 : decode cX8_moves 35 = .ok (.iconst 1, 1) := by decide +kernel
theorem dX8_moves_36 : decode cX8_moves 36 = .ok (.iadd, 1) := by decide +kernel
theorem dX8_moves_37 : decode cX8_moves 37 = .ok (.istore_n 1, 1) := by decide +kernel
theorem dX8_moves_38 : decode cX8_moves 38 = .ok (.iinc 2 1, 3) := by decide +kernel
theorem dX8_moves_41 : decode cX8_moves 41 = .ok (.goto (-34), 3) := by decide +kernel
theorem dX8_moves_44 : decode cX8_moves 44 = .ok (.aload_n 0, 1) := by decide +kernel
theorem dX8_moves_45 : decode cX8_moves 45 = .ok (.iload_n 1, 1) := by decide +kernel
theorem dX8_moves_46 : decode cX8_moves 46 = .ok (.invokevirtual 134, 3) := by decide +kernel
theorem dX8_moves_49 : decode cX8_moves 49 = .ok (.ireturn, 1) := by decide +kernel
