theorem dX5_lighter_14 : decode cX5_lighter 14 = .ok (.aconst_null, 1) := by decide +kernel
theorem dX5_lighter_15 : decode cX5_lighter 15 = .ok (.areturn, 1) := by decide +kernel
theorem dX5_lighter_16 : decode cX5_lighter 16 = .ok (.aload_n 0, 1) := by decide +kernel
theorem dX5_lighter_17 : decode cX5_lighter 17 = .ok (.getfield 23, 3) := by decide +kernel
theorem dX5_lighter_20 : decode cX5_lighter 20 = .ok (.getfield 9, 3) := by decide +kernel
theorem dX5_lighter_23 : decode cX5_lighter 23 = .ok (.getfield 36, 3) := by decide +kernel
theorem dX5_lighter_26 : decode cX5_lighter 26 = .ok (.aload_n 0, 1) := by decide +kernel
theorem dX5_lighter_27 : decode cX5_lighter 27 = .ok (.getfield 19, 3) := by decide +kernel
theorem dX5_lighter_30 : decode cX5_lighter 30 = .ok (.getfield 9, 3) := by decide +kernel
theorem dX5_lighter_33 : decode cX5_lighter 33 = .ok (.getfield 36, 3) := by decide +kernel
theorem dX5_lighter_36 : decode cX5_lighter 36 = .ok (.if_icmp .le 10, 3) := by decide +kernel
theorem dX5_lighter_39 : decode cX5_lighter 39 = .ok (.aload_n 0, 1) := by decide +kernel
theorem dX5_lighter_40 : decode cX5_lighter 40 = .ok (.getfield 19, 3) := by decide +kernel
theorem dX5_lighter_43 : decode cX5_lighter 43 = .ok (.goto 7, 3) := by decide +kernel
theorem dX5_lighter_46 : decode cX5_lighter 46 = .ok (.aload_n 0, 1) := by decide +kernel
theorem dX5_lighter_47 : decode cX5_lighter 47 = .ok (.getfield 23, 3) := by decide +kernel
theorem dX5_lighter_50 : decode cX5_lighter 50 = .ok (.areturn, 1) := by decide +kernel
theorem dX5_squareOfParts_0 : decode cX5_squareOfParts 0 = .ok (.aload_n 0, 1) := by decide +kernel
theorem dX5_squareOfParts_1 : decode cX5_squareOfParts 1 = .ok (.getfield 19, 3) := by decide +kernel
theorem dX5_squareOfParts_4 : decode cX5_squareOfParts 4 = .ok (.ifnull 10, 3) := by decide +kernel
theorem dX5_squareOfParts_7 : decode cX5_squareOfParts 7 = .ok (.aload_n 0, 1) := by decide +kernel
theorem dX5_squareOfParts_8 : decode cX5_squareOfParts 8 = .ok (.getfield 23, 3) := by decide +kernel
theorem dX5_squareOfParts_11 : decode cX5_squareOfParts 11 = .ok (.ifnonnull 7, 3) := by decide +kernel
theorem dX5_squareOfParts_14 : decode cX5_squareOfParts 14 = .ok (.iconst 0, 1) := by decide +kernel
theorem dX5_squareOfParts_15 : decode cX5_squareOfParts 15 = .ok (.goto 20, 3) := by decide +kernel
theorem dX5_squareOfParts_18 : decode cX5_squareOfParts 18 = .ok (.aload_n 0, 1) := by decide +kernel
theorem dX5_squareOfParts_19 : decode cX5_squareOfParts 19 = .ok (.getfield 19, 3) := by decide +kernel
theorem dX5_squareOfParts_22 : decode cX5_squareOfParts 22 = .ok (.getfield 9, 3) := by decide +kernel
theorem dX5_squareOfParts_25 : decode cX5_squareOfParts 25 = .ok (.aload_n 0, 1) := by decide +kernel
theorem dX5_squareOfParts_26 : decode cX5_squareOfParts 26 = .ok (.getfield 23, 3) := by decide +kernel
theorem dX5_squareOfParts_29 : decode cX5_squareOfParts 29 = .ok (.getfield 9, 3) := by decide +kernel
theorem dX5_squareOfParts_32 : decode cX5_squareOfParts 32 = .ok (.invokevirtual 41, 3) := by decide +kernel
theorem dX5_squareOfParts_35 : decode cX5_squareOfParts 35 = .ok (.ireturn, 1) := by decide +kernel
theorem dX6_init_0 : decode cX6_init 0 = .ok (.aload_n 0, 1) := by decide +kernel
theorem dX6_init_1 : decode cX6_init 1 = .ok (.invokespecial 3, 3) := by decide +kernel
theorem dX6_init_4 : decode cX6_init 4 = .ok (.aload_n 0, 1) := by decide +kernel
theorem dX6_init_5 : decode cX6_init 5 = .ok (.bipush 40, 2) := by decide +kernel
theorem dX6_init_7 : decode cX6_init 7 = .ok (.putfield 9, 3) := by decide +kernel
theorem dX6_init_10 : decode cX6_init 10 = .ok (.aload_n 0, 1) := by decide +kernel
theorem dX6_init_11 : decode cX6_init 11 = .ok (.iconst (-1), 1) := by decide +kernel
theorem dX6_init_12 : decode cX6_init 12 = .ok (.putfield 15, 3) := by decide +kernel
theorem dX6_init_15 : decode cX6_init 15 = .ok (.aload_n 0, 1) := by decide +kernel
theorem dX6_init_16 : decode cX6_init 16 = .ok (.iconst 0, 1) := by decide +kernel
theorem dX6_init_17 : decode cX6_init 17 = .ok (.putfield 18, 3) := by decide +kernel
theorem dX6_init_20 : decode cX6_init 20 = .ok (.aload_n 0, 1) := by decide +kernel
theorem dX6_init_21 : decode cX6_init 21 = .ok (.sipush 701, 3) := by decide +kernel
theorem dX6_init_24 : decode cX6_init 24 = .ok (.putfield 21, 3) := by decide +kernel
theorem dX6_init_27 : decode cX6_init 27 = .ok (.aload_n 0, 1) := by decide +kernel
theorem dX6_init_28 : decode cX6_init 28 = .ok (.iconst 0, 1) := by decide +kernel
theorem dX6_init_29 : decode cX6_init 29 = .ok (.putfield 24, 3) := by decide +kernel
theorem dX6_init_32 : decode cX6_init 32 = .ok (.aload_n 0, 1) := by decide +kernel
theorem dX6_init_33 : decode cX6_init 33 = .ok (.iconst 3, 1) := by decide +kernel
theorem dX6_init_34 : decode cX6_init 34 = .ok (.anewarray 27, 3) := by decide +kernel
theorem dX6_init_37 : decode cX6_init 37 = .ok (.putfield 29, 3) := by decide +kernel
theorem dX6_init_40 : decode cX6_init 40 = .ok (.iconst 0, 1) := by decide +kernel
theorem dX6_init_41 : decode cX6_init 41 = .ok (.istore_n 1, 1) := by decide +kernel
theorem dX6_init_42 : decode cX6_init 42 = .ok (.iload_n 1, 1) := by decide +kernel
theorem dX6_init_43 : decode cX6_init 43 = .ok (.iconst 3, 1) := by decide +kernel
theorem dX6_init_44 : decode cX6_init 44 = .ok (.if_icmp .ge 26, 3) := by decide +kernel
theorem dX6_init_47 : decode cX6_init 47 = .ok (.aload_n 0, 1) := by decide +kernel
theorem dX6_init_48 : decode cX6_init 48 = .ok (.getfield 29, 3) := by decide +kernel
theorem dX6_init_51 : decode cX6_init 51 = .ok (.iload_n 1, 1) := by decide +kernel
theorem dX6_init_52 : decode cX6_init 52 = .ok (.new 27, 3) := by decide +kernel
theorem dX6_init_55 : decode cX6_init 55 = .ok (.dup, 1) := by decide +kernel
theorem dX6_init_56 : decode cX6_init 56 = .ok (.iconst 0, 1) := by decide +kernel
theorem dX6_init_57 : decode cX6_init 57 = .ok (.anewarray 33, 3) := by decide +kernel
theorem dX6_init_60 : decode cX6_init 60 = .ok (.invokespecial 35, 3) := by decide +kernel
theorem dX6_init_63 : decode cX6_init 63 = .ok (.aastore, 1) := by decide +kernel
theorem dX6_init_64 : decode cX6_init 64 = .ok (.iinc 1 1, 3) := by decide +kernel
theorem dX6_init_67 : decode cX6_init 67 = .ok (.goto (-25), 3) := by decide +kernel
theorem dX6_init_70 : decode cX6_init 70 = .ok (.aload_n 0, 1) := by decide +kernel
theorem dX6_init_71 : decode cX6_init 71 = .ok (.iconst 4, 1) := by decide +kernel
theorem dX6_init_72 : decode cX6_init 72 = .ok (.anewarray 38, 3) := by decide +kernel
theorem dX6_init_75 : decode cX6_init 75 = .ok (.putfield 40, 3) := by decide +kernel
theorem dX6_init_78 : decode cX6_init 78 = .ok (.aload_n 0, 1) := by decide +kernel
theorem dX6_init_79 : decode cX6_init 79 = .ok (.iconst 4, 1) := by decide +kernel
theorem dX6_init_80 : decode cX6_init 80 = .ok (.anewarray 44, 3) := by decide +kernel
theorem dX6_init_83 : decode cX6_init 83 = .ok (.putfield 46, 3) := by decide +kernel
theorem dX6_init_86 : decode cX6_init 86 = .ok (.return_, 1) := by decide +kernel
theorem dX6_init__0 : decode cX6_init_ 0 = .ok (.aload_n 0, 1) := by decide +kernel
theorem dX6_init__1 : decode cX6_init_ 1 = .ok (.invokespecial 3, 3) := by decide +kernel
theorem dX6_init__4 : decode cX6_init_ 4 = .ok (.aload_n 0, 1) := by decide +kernel
theorem dX6_init__5 : decode cX6_init_ 5 = .ok (.aload_n 1, 1) := by decide +kernel
theorem dX6_init__6 : decode cX6_init_ 6 = .ok (.getfield 9, 3) := by decide +kernel
theorem dX6_init__9 : decode cX6_init_ 9 = .ok (.putfield 9, 3) := by decide +kernel
theorem dX6_init__12 : decode cX6_init_ 12 = .ok (.aload_n 0, 1) := by decide +kernel
theorem dX6_init__13 : decode cX6_init_ 13 = .ok (.aload_n 1, 1) := by decide +kernel
theorem dX6_init__14 : decode cX6_init_ 14 = .ok (.getfield 15, 3) := by decide +kernel
theorem dX6_init__17 : decode cX6_init_ 17 = .ok (.putfield 15, 3) := by decide +kernel
theorem dX6_init__20 : decode cX6_init_ 20 = .ok (.aload_n 0, 1) := by decide +kernel
theorem dX6_init__21 : decode cX6_init_ 21 = .ok (.aload_n 1, 1) := by decide +kernel
theorem dX6_init__22 : decode cX6_init_ 22 = .ok (.getfield 18, 3) := by decide +kernel
theorem dX6_init__25 : decode cX6_init_ 25 = .ok (.putfield 18, 3) := by decide +kernel
theorem dX6_init__28 : decode cX6_init_ 28 = .ok (.aload_n 0, 1) := by decide +kernel
theorem dX6_init__29 : decode cX6_init_ 29 = .ok (.aload_n 1, 1) := by decide +kernel
theorem dX6_init__30 : decode cX6_init_ 30 = .ok (.getfield 21, 3) := by decide +kernel
theorem dX6_init__33 : decode cX6_init_ 33 = .ok (.putfield 21, 3) := by decide +kernel
theorem dX6_init__36 : decode cX6_init_ 36 = .ok (.aload_n 0, 1) := by decide +kernel
theorem dX6_init__37 : decode cX6_init_ 37 = .ok (.aload_n 1, 1) := by decide +kernel
theorem dX6_init__38 : decode cX6_init_ 38 = .ok (.getfield 24, 3) := by decide +kernel
theorem dX6_init__41 : decode cX6_init_ 41 = .ok (.putfield 24, 3) := by decide +kernel
theorem dX6_init__44 : decode cX6_init_ 44 = .ok (.aload_n 0, 1) := by decide +kernel
theorem dX6_init__45 : decode cX6_init_ 45 = .ok (.iconst 3, 1) := by decide +kernel
theorem dX6_init__46 : decode cX6_init_ 46 = .ok (.anewarray 27, 3) := by decide +kernel
theorem dX6_init__49 : decode cX6_init_ 49 = .ok (.putfield 29, 3) := by decide +kernel
theorem dX6_init__52 : decode cX6_init_ 52 = .ok (.aload_n 1, 1) := by decide +kernel
theorem dX6_init__53 : decode cX6_init_ 53 = .ok (.getfield 29, 3) := by decide +kernel
theorem dX6_init__56 : decode cX6_init_ 56 = .ok (.iconst 0, 1) := by decide +kernel
theorem dX6_init__57 : decode cX6_init_ 57 = .ok (.aload_n 0, 1) := by decide +kernel
theorem dX6_init__58 : decode cX6_init_ 58 = .ok (.getfield 29, 3) := by decide +kernel
theorem dX6_init__61 : decode cX6_init_ 61 = .ok (.iconst 0, 1) := by decide +kernel
theorem dX6_init__62 : decode cX6_init_ 62 = .ok (.iconst 3, 1) := by decide +kernel
theorem dX6_init__63 : decode cX6_init_ 63 = .ok (.invokestatic 50, 3) := by decide +kernel
theorem dX6_init__66 : decode cX6_init_ 66 = .ok (.aload_n 0, 1) := by decide +kernel
theorem dX6_init__67 : decode cX6_init_ 67 = .ok (.iconst 4, 1) := by decide +kernel
theorem dX6_init__68 : decode cX6_init_ 68 = .ok (.anewarray 38, 3) := by decide +kernel
theorem dX6_init__71 : decode cX6_init_ 71 = .ok (.putfield 40, 3) := by decide +kernel
theorem dX6_init__74 : decode cX6_init_ 74 = .ok (.aload_n 1, 1) := by decide +kernel
theorem dX6_init__75 : decode cX6_init_ 75 = .ok (.getfield 40, 3) := by decide +kernel
theorem dX6_init__78 : decode cX6_init_ 78 = .ok (.iconst 0, 1) := by decide +kernel
theorem dX6_init__79 : decode cX6_init_ 79 = .ok (.aload_n 0, 1) := by decide +kernel
theorem dX6_init__80 : decode cX6_init_ 80 = .ok (.getfield 40, 3) := by decide +kernel
theorem dX6_init__83 : decode cX6_init_ 83 = .ok (.iconst 0, 1) := by decide +kernel
theorem dX6_init__84 : decode cX6_init_ 84 = .ok (.iconst 4, 1) := by decide +kernel
theorem dX6_init__85 : decode cX6_init_ 85 = .ok (.invokestatic 50, 3) := by decide +kernel
theorem dX6_init__88 : decode cX6_init_ 88 = .ok (.aload_n 0, 1) := by decide +kernel
theorem dX6_init__89 : decode cX6_init_ 89 = .ok (.iconst 4, 1) := by decide +kernel
theorem dX6_init__90 : decode cX6_init_ 90 = .ok (.anewarray 44, 3) := by decide +kernel
theorem dX6_init__93 : decode cX6_init_ 93 = .ok (.putfield 46, 3) := by decide +kernel
theorem dX6_init__96 : decode cX6_init_ 96 = .ok (.aload_n 1, 1) := by decide +kernel
theorem dX6_init__97 : decode cX6_init_ 97 = .ok (.getfield 46, 3) := by decide +kernel
theorem dX6_init__100 : decode cX6_init_ 100 = .ok (.iconst 0, 1) := by decide +kernel
theorem dX6_init__101 : decode cX6_init_ 101 = .ok (.aload_n 0, 1) := by decide +kernel
theorem dX6_init__102 : decode cX6_init_ 102 = .ok (.getfield 46, 3) := by decide +kernel
theorem dX6_init__105 : decode cX6_init_ 105 = .ok (.iconst 0, 1) := by decide +kernel
theorem dX6_init__106 : decode cX6_init_ 106 = .ok (.iconst 4, 1) := by decide +kernel
theorem dX6_init__107 : decode cX6_init_ 107 = .ok (.invokestatic 50, 3) := by decide +kernel
theorem dX6_init__110 : decode cX6_init_ 110 = .ok (.return_, 1) := by decide +kernel
theorem dX6_inHand_0 : decode cX6_inHand 0 = .ok (.aload_n 0, 1) := by decide +kernel
theorem dX6_inHand_1 : decode cX6_inHand 1 = .ok (.getfield 29, 3) := by decide +kernel
theorem dX6_inHand_4 : decode cX6_inHand 4 = .ok (.aload_n 0, 1) := by decide +kernel
theorem dX6_inHand_5 : decode cX6_inHand 5 = .ok (.getfield 24, 3) := by decide +kernel
theorem dX6_inHand_8 : decode cX6_inHand 8 = .ok (.aaload, 1) := by decide +kernel
theorem dX6_inHand_9 : decode cX6_inHand 9 = .ok (.areturn, 1) := by decide +kernel
theorem dX6_withTracks_0 : decode cX6_withTracks 0 = .ok (.new 10, 3) := by decide +kernel
theorem dX6_withTracks_3 : decode cX6_withTracks 3 = .ok (.dup, 1) := by decide +kernel
theorem dX6_withTracks_4 : decode cX6_withTracks 4 = .ok (.aload_n 0, 1) := by decide +kernel
theorem dX6_withTracks_5 : decode cX6_withTracks 5 = .ok (.invokespecial 56, 3) := by decide +kernel
theorem dX6_withTracks_8 : decode cX6_withTracks 8 = .ok (.astore_n 2, 1) := by decide +kernel
theorem dX6_withTracks_9 : decode cX6_withTracks 9 = .ok (.aload_n 2, 1) := by decide +kernel
theorem dX6_withTracks_10 : decode cX6_withTracks 10 = .ok (.getfield 29, 3) := by decide +kernel
theorem dX6_withTracks_13 : decode cX6_withTracks 13 = .ok (.aload_n 0, 1) := by decide +kernel
theorem dX6_withTracks_14 : decode cX6_withTracks 14 = .ok (.getfield 24, 3) := by decide +kernel
theorem dX6_withTracks_17 : decode cX6_withTracks 17 = .ok (.new 27, 3) := by decide +kernel
theorem dX6_withTracks_20 : decode cX6_withTracks 20 = .ok (.dup, 1) := by decide +kernel
theorem dX6_withTracks_21 : decode cX6_withTracks 21 = .ok (.aload_n 1, 1) := by decide +kernel
theorem dX6_withTracks_22 : decode cX6_withTracks 22 = .ok (.invokespecial 35, 3) := by decide +kernel
theorem dX6_withTracks_25 : decode cX6_withTracks 25 = .ok (.aastore, 1) := by decide +kernel
theorem dX6_withTracks_26 : decode cX6_withTracks 26 = .ok (.aload_n 2, 1) := by decide +kernel
theorem dX6_withTracks_27 : decode cX6_withTracks 27 = .ok (.areturn, 1) := by decide +kernel
theorem dX6_withTree_0 : decode cX6_withTree 0 = .ok (.new 10, 3) := by decide +kernel
theorem dX6_withTree_3 : decode cX6_withTree 3 = .ok (.dup, 1) := by decide +kernel
theorem dX6_withTree_4 : decode cX6_withTree 4 = .ok (.aload_n 0, 1) := by decide +kernel
theorem dX6_withTree_5 : decode cX6_withTree 5 = .ok (.invokespecial 56, 3) := by decide +kernel
theorem dX6_withTree_8 : decode cX6_withTree 8 = .ok (.astore_n 3, 1) := by decide +kernel
theorem dX6_withTree_9 : decode cX6_withTree 9 = .ok (.aload_n 3, 1) := by decide +kernel
theorem dX6_withTree_10 : decode cX6_withTree 10 = .ok (.getfield 40, 3) := by decide +kernel
theorem dX6_withTree_13 : decode cX6_withTree 13 = .ok (.iload_n 1, 1) := by decide +kernel
theorem dX6_withTree_14 : decode cX6_withTree 14 = .ok (.aload_n 2, 1) := by decide +kernel
theorem dX6_withTree_15 : decode cX6_withTree 15 = .ok (.aastore, 1) := by decide +kernel
theorem dX6_withTree_16 : decode cX6_withTree 16 = .ok (.aload_n 3, 1) := by decide +kernel
theorem dX6_withTree_17 : decode cX6_withTree 17 = .ok (.areturn, 1) := by decide +kernel
theorem dX7_init_0 : decode cX7_init 0 = .ok (.aload_n 0, 1) := by decide +kernel
theorem dX7_init_1 : decode cX7_init 1 = .ok (.invokespecial 3, 3) := by decide +kernel
theorem dX7_init_4 : decode cX7_init 4 = .ok (.lload 4, 2) := by decide +kernel
theorem dX7_init_6 : decode cX7_init 6 = .ok (.lload 6, 2) := by decide +kernel
theorem dX7_init_8 : decode cX7_init 8 = .ok (.invokestatic 9, 3) := by decide +kernel
theorem dX7_init_11 : decode cX7_init 11 = .ok (.lstore 8, 2) := by decide +kernel
theorem dX7_init_13 : decode cX7_init 13 = .ok (.aload_n 0, 1) := by decide +kernel
theorem dX7_init_14 : decode cX7_init 14 = .ok (.iload_n 1, 1) := by decide +kernel
theorem dX7_init_15 : decode cX7_init 15 = .ok (.putfield 15, 3) := by decide +kernel
theorem dX7_init_18 : decode cX7_init 18 = .ok (.aload_n 0, 1) := by decide +kernel
theorem dX7_init_19 : decode cX7_init 19 = .ok (.iload_n 2, 1) := by decide +kernel
theorem dX7_init_20 : decode cX7_init 20 = .ok (.putfield 19, 3) := by decide +kernel
theorem dX7_init_23 : decode cX7_init 23 = .ok (.aload_n 0, 1) := by decide +kernel
theorem dX7_init_24 : decode cX7_init 24 = .ok (.iload_n 3, 1) := by decide +kernel
theorem dX7_init_25 : decode cX7_init 25 = .ok (.putfield 22, 3) := by decide +kernel
theorem dX7_init_28 : decode cX7_init 28 = .ok (.aload_n 0, 1) := by decide +kernel
theorem dX7_init_29 : decode cX7_init 29 = .ok (.lload 8, 2) := by decide +kernel
theorem dX7_init_31 : decode cX7_init 31 = .ok (.lconst 0, 1) := by decide +kernel
theorem dX7_init_32 : decode cX7_init 32 = .ok (.lcmp, 1) := by decide +kernel
theorem dX7_init_33 : decode cX7_init 33 = .ok (.ifCond .ne 8, 3) := by decide +kernel
theorem dX7_init_36 : decode cX7_init 36 = .ok (.lload 4, 2) := by decide +kernel
theorem dX7_init_38 : decode cX7_init 38 = .ok (.goto 8, 3) := by decide +kernel
theorem dX7_init_41 : decode cX7_init 41 = .ok (.lload 4, 2) := by decide +kernel
theorem dX7_init_43 : decode cX7_init 43 = .ok (.lload 8, 2) := by decide +kernel
theorem dX7_init_45 : decode cX7_init 45 = .ok (.ldiv, 1) := by decide +kernel
theorem dX7_init_46 : decode cX7_init 46 = .ok (.putfield 25, 3) := by decide +kernel
theorem dX7_init_49 : decode cX7_init 49 = .ok (.aload_n 0, 1) := by decide +kernel
theorem dX7_init_50 : decode cX7_init 50 = .ok (.lload 8, 2) := by decide +kernel
theorem dX7_init_52 : decode cX7_init 52 = .ok (.lconst 0, 1) := by decide +kernel
theorem dX7_init_53 : decode cX7_init 53 = .ok (.lcmp, 1) := by decide +kernel
theorem dX7_init_54 : decode cX7_init 54 = .ok (.ifCond .ne 8, 3) := by decide +kernel
theorem dX7_init_57 : decode cX7_init 57 = .ok (.lload 6, 2) := by decide +kernel
theorem dX7_init_59 : decode cX7_init 59 = .ok (.goto 8, 3) := by decide +kernel
theorem dX7_init_62 : decode cX7_init 62 = .ok (.lload 6, 2) := by decide +kernel
theorem dX7_init_64 : decode cX7_init 64 = .ok (.lload 8, 2) := by decide +kernel
theorem dX7_init_66 : decode cX7_init 66 = .ok (.ldiv, 1) := by decide +kernel
theorem dX7_init_67 : decode cX7_init 67 = .ok (.putfield 29, 3) := by decide +kernel
theorem dX7_init_70 : decode cX7_init 70 = .ok (.return_, 1) := by decide +kernel
theorem dX7_isLike_0 : decode cX7_isLike 0 = .ok (.aload_n 0, 1) := by decide +kernel
theorem dX7_isLike_1 : decode cX7_isLike 1 = .ok (.getfield 15, 3) := by decide +kernel
theorem dX7_isLike_4 : decode cX7_isLike 4 = .ok (.aload_n 1, 1) := by decide +kernel
theorem dX7_isLike_5 : decode cX7_isLike 5 = .ok (.getfield 15, 3) := by decide +kernel
theorem dX7_isLike_8 : decode cX7_isLike 8 = .ok (.if_icmp .ne 53, 3) := by decide +kernel
theorem dX7_isLike_11 : decode cX7_isLike 11 = .ok (.aload_n 0, 1) := by decide +kernel
theorem dX7_isLike_12 : decode cX7_isLike 12 = .ok (.getfield 19, 3) := by decide +kernel
theorem dX7_isLike_15 : decode cX7_isLike 15 = .ok (.aload_n 1, 1) := by decide +kernel
theorem dX7_isLike_16 : decode cX7_isLike 16 = .ok (.getfield 19, 3) := by decide +kernel
theorem dX7_isLike_19 : decode cX7_isLike 19 = .ok (.if_icmp .ne 42, 3) := by decide +kernel
theorem dX7_isLike_22 : decode cX7_isLike 22 = .ok (.aload_n 0, 1) := by decide +kernel
theorem dX7_isLike_23 : decode cX7_isLike 23 = .ok (.getfield 22, 3) := by decide +kernel
theorem dX7_isLike_26 : decode cX7_isLike 26 = .ok (.aload_n 1, 1) := by decide +kernel
theorem dX7_isLike_27 : decode cX7_isLike 27 = .ok (.getfield 22, 3) := by decide +kernel
theorem dX7_isLike_30 : decode cX7_isLike 30 = .ok (.if_icmp .ne 31, 3) := by decide +kernel
theorem dX7_isLike_33 : decode cX7_isLike 33 = .ok (.aload_n 0, 1) := by decide +kernel
theorem dX7_isLike_34 : decode cX7_isLike 34 = .ok (.getfield 25, 3) := by decide +kernel
theorem dX7_isLike_37 : decode cX7_isLike 37 = .ok (.aload_n 1, 1) := by decide +kernel
theorem dX7_isLike_38 : decode cX7_isLike 38 = .ok (.getfield 25, 3) := by decide +kernel
theorem dX7_isLike_41 : decode cX7_isLike 41 = .ok (.lcmp, 1) := by decide +kernel
theorem dX7_isLike_42 : decode cX7_isLike 42 = .ok (.ifCond .ne 19, 3) := by decide +kernel
theorem dX7_isLike_45 : decode cX7_isLike 45 = .ok (.aload_n 0, 1) := by decide +kernel
theorem dX7_isLike_46 : decode cX7_isLike 46 = .ok (.getfield 29, 3) := by decide +kernel
theorem dX7_isLike_49 : decode cX7_isLike 49 = .ok (.aload_n 1, 1) := by decide +kernel
theorem dX7_isLike_50 : decode cX7_isLike 50 = .ok (.getfield 29, 3) := by decide +kernel
theorem dX7_isLike_53 : decode cX7_isLike 53 = .ok (.lcmp, 1) := by decide +kernel
theorem dX7_isLike_54 : decode cX7_isLike 54 = .ok (.ifCond .ne 7, 3) := by decide +kernel
theorem dX7_isLike_57 : decode cX7_isLike 57 = .ok (.iconst 1, 1) := by decide +kernel
theorem dX7_isLike_58 : decode cX7_isLike 58 = .ok (.goto 4, 3) := by decide +kernel
theorem dX7_isLike_61 : decode cX7_isLike 61 = .ok (.iconst 0, 1) := by decide +kernel
theorem dX7_isLike_62 : decode cX7_isLike 62 = .ok (.ireturn, 1) := by decide +kernel
theorem dX7_isAbove_0 : decode cX7_isAbove 0 = .ok (.aload_n 0, 1) := by decide +kernel
theorem dX7_isAbove_1 : decode cX7_isAbove 1 = .ok (.getfield 25, 3) := by decide +kernel
theorem dX7_isAbove_4 : decode cX7_isAbove 4 = .ok (.lstore 5, 2) := by decide +kernel
theorem dX7_isAbove_6 : decode cX7_isAbove 6 = .ok (.aload_n 0, 1) := by decide +kernel
theorem dX7_isAbove_7 : decode cX7_isAbove 7 = .ok (.getfield 29, 3) := by decide +kernel
theorem dX7_isAbove_10 : decode cX7_isAbove 10 = .ok (.lstore 7, 2) := by decide +kernel
theorem dX7_isAbove_12 : decode cX7_isAbove 12 = .ok (.lload_n 1, 1) := by decide +kernel
theorem dX7_isAbove_13 : decode cX7_isAbove 13 = .ok (.lstore 9, 2) := by decide +kernel
theorem dX7_isAbove_15 : decode cX7_isAbove 15 = .ok (.lload_n 3, 1) := by decide +kernel
theorem dX7_isAbove_16 : decode cX7_isAbove 16 = .ok (.lstore 11, 2) := by decide +kernel
theorem dX7_isAbove_18 : decode cX7_isAbove 18 = .ok (.iconst 0, 1) := by decide +kernel
theorem dX7_isAbove_19 : decode cX7_isAbove 19 = .ok (.istore 13, 2) := by decide +kernel
theorem dX7_isAbove_21 : decode cX7_isAbove 21 = .ok (.iconst 0, 1) := by decide +kernel
theorem dX7_isAbove_22 : decode cX7_isAbove 22 = .ok (.istore 14, 2) := by decide +kernel
theorem dX7_isAbove_24 : decode cX7_isAbove 24 = .ok (.iload 14, 2) := by decide +kernel
theorem dX7_isAbove_26 : decode cX7_isAbove 26 = .ok (.sipush 2000, 3) := by decide +kernel
theorem dX7_isAbove_29 : decode cX7_isAbove 29 = .ok (.if_icmp .ge 111, 3) := by decide +kernel
theorem dX7_isAbove_32 : decode cX7_isAbove 32 = .ok (.lload 7, 2) := by decide +kernel
theorem dX7_isAbove_34 : decode cX7_isAbove 34 = .ok (.lconst 0, 1) := by decide +kernel
theorem dX7_isAbove_35 : decode cX7_isAbove 35 = .ok (.lcmp, 1) := by decide +kernel
theorem dX7_isAbove_36 : decode cX7_isAbove 36 = .ok (.ifCond .eq 104, 3) := by decide +kernel
theorem dX7_isAbove_39 : decode cX7_isAbove 39 = .ok (.lload 11, 2) := by decide +kernel
theorem dX7_isAbove_41 : decode cX7_isAbove 41 = .ok (.lconst 0, 1) := by decide +kernel
theorem dX7_isAbove_42 : decode cX7_isAbove 42 = .ok (.lcmp, 1) := by decide +kernel
theorem dX7_isAbove_43 : decode cX7_isAbove 43 = .ok (.ifCond .eq 97, 3) := by decide +kernel
theorem dX7_isAbove_46 : decode cX7_isAbove 46 = .ok (.lload 5, 2) := by decide +kernel
theorem dX7_isAbove_48 : decode cX7_isAbove 48 = .ok (.lload 7, 2) := by decide +kernel
theorem dX7_isAbove_50 : decode cX7_isAbove 50 = .ok (.ldiv, 1) := by decide +kernel
theorem dX7_isAbove_51 : decode cX7_isAbove 51 = .ok (.lstore 15, 2) := by decide +kernel
theorem dX7_isAbove_53 : decode cX7_isAbove 53 = .ok (.lload 9, 2) := by decide +kernel
theorem dX7_isAbove_55 : decode cX7_isAbove 55 = .ok (.lload 11, 2) := by decide +kernel
theorem dX7_isAbove_57 : decode cX7_isAbove 57 = .ok (.ldiv, 1) := by decide +kernel
theorem dX7_isAbove_58 : decode cX7_isAbove 58 = .ok (.lstore 17, 2) := by decide +kernel
theorem dX7_isAbove_60 : decode cX7_isAbove 60 = .ok (.lload 15, 2) := by decide +kernel
theorem dX7_isAbove_62 : decode cX7_isAbove 62 = .ok (.lload 17, 2) := by decide +kernel
theorem dX7_isAbove_64 : decode cX7_isAbove 64 = .ok (.lcmp, 1) := by decide +kernel
theorem dX7_isAbove_65 : decode cX7_isAbove 65 = .ok (.ifCond .eq 27, 3) := by decide +kernel
theorem dX7_isAbove_68 : decode cX7_isAbove 68 = .ok (.lload 15, 2) := by decide +kernel
theorem dX7_isAbove_70 : decode cX7_isAbove 70 = .ok (.lload 17, 2) := by decide +kernel
theorem dX7_isAbove_72 : decode cX7_isAbove 72 = .ok (.lcmp, 1) := by decide +kernel
theorem dX7_isAbove_73 : decode cX7_isAbove 73 = .ok (.ifCond .le 7, 3) := by decide +kernel
theorem dX7_isAbove_76 : decode cX7_isAbove 76 = .ok (.iconst 1, 1) := by decide +kernel
theorem dX7_isAbove_77 : decode cX7_isAbove 77 = .ok (.goto 4, 3) := by decide +kernel
theorem dX7_isAbove_80 : decode cX7_isAbove 80 = .ok (.iconst 0, 1) := by decide +kernel
theorem dX7_isAbove_81 : decode cX7_isAbove 81 = .ok (.iload 13, 2) := by decide +kernel
theorem dX7_isAbove_83 : decode cX7_isAbove 83 = .ok (.if_icmp .eq 7, 3) := by decide +kernel
theorem dX7_isAbove_86 : decode cX7_isAbove 86 = .ok (.iconst 1, 1) := by decide +kernel
theorem dX7_isAbove_87 : decode cX7_isAbove 87 = .ok (.goto 4, 3) := by decide +kernel
theorem dX7_isAbove_90 : decode cX7_isAbove 90 = .ok (.iconst 0, 1) := by decide +kernel
theorem dX7_isAbove_91 : decode cX7_isAbove 91 = .ok (.ireturn, 1) := by decide +kernel
theorem dX7_isAbove_92 : decode cX7_isAbove 92 = .ok (.lload 5, 2) := by decide +kernel
theorem dX7_isAbove_94 : decode cX7_isAbove 94 = .ok (.lload 7, 2) := by decide +kernel
theorem dX7_isAbove_96 : decode cX7_isAbove 96 = .ok (.lrem, 1) := by decide +kernel
theorem dX7_isAbove_97 : decode cX7_isAbove 97 = .ok (.lstore 19, 2) := by decide +kernel
theorem dX7_isAbove_99 : decode cX7_isAbove 99 = .ok (.lload 9, 2) := by decide +kernel
theorem dX7_isAbove_101 : decode cX7_isAbove 101 = .ok (.lload 11, 2) := by decide +kernel
theorem dX7_isAbove_103 : decode cX7_isAbove 103 = .ok (.lrem, 1) := by decide +kernel
theorem dX7_isAbove_104 : decode cX7_isAbove 104 = .ok (.lstore 21, 2) := by decide +kernel
theorem dX7_isAbove_106 : decode cX7_isAbove 106 = .ok (.lload 7, 2) := by decide +kernel
theorem dX7_isAbove_108 : decode cX7_isAbove 108 = .ok (.lstore 5, 2) := by decide +kernel
theorem dX7_isAbove_110 : decode cX7_isAbove 110 = .ok (.lload 19, 2) := by decide +kernel
theorem dX7_isAbove_112 : decode cX7_isAbove 112 = .ok (.lstore 7, 2) := by decide +kernel
theorem dX7_isAbove_114 : decode cX7_isAbove 114 = .ok (.lload 11, 2) := by decide +kernel
theorem dX7_isAbove_116 : decode cX7_isAbove 116 = .ok (.lstore 9, 2) := by decide +kernel
theorem dX7_isAbove_118 : decode cX7_isAbove 118 = .ok (.lload 21, 2) := by decide +kernel
theorem dX7_isAbove_120 : decode cX7_isAbove 120 = .ok (.lstore 11, 2) := by decide +kernel
theorem dX7_isAbove_122 : decode cX7_isAbove 122 = .ok (.iload 13, 2) := by decide +kernel
theorem dX7_isAbove_124 : decode cX7_isAbove 124 = .ok (.ifCond .ne 7, 3) := by decide +kernel
theorem dX7_isAbove_127 : decode cX7_isAbove 127 = .ok (.iconst 1, 1) := by decide +kernel
theorem dX7_isAbove_128 : decode cX7_isAbove 128 = .ok (.goto 4, 3) := by decide +kernel
theorem dX7_isAbove_131 : decode cX7_isAbove 131 = .ok (.iconst 0, 1) := by decide +kernel
theorem dX7_isAbove_132 : decode cX7_isAbove 132 = .ok (.istore 13, 2) := by decide +kernel
theorem dX7_isAbove_134 : decode cX7_isAbove 134 = .ok (.iinc 14 1, 3) := by decide +kernel
theorem dX7_isAbove_137 : decode cX7_isAbove 137 = .ok (.goto (-113), 3) := by decide +kernel
theorem dX7_isAbove_140 : decode cX7_isAbove 140 = .ok (.lload 7, 2) := by decide +kernel
theorem dX7_isAbove_142 : decode cX7_isAbove 142 = .ok (.lconst 0, 1) := by decide +kernel
theorem dX7_isAbove_143 : decode cX7_isAbove 143 = .ok (.lcmp, 1) := by decide +kernel
theorem dX7_isAbove_144 : decode cX7_isAbove 144 = .ok (.ifCond .ne 12, 3) := by decide +kernel
theorem dX7_isAbove_147 : decode cX7_isAbove 147 = .ok (.lload 11, 2) := by decide +kernel
theorem dX7_isAbove_149 : decode cX7_isAbove 149 = .ok (.lconst 0, 1) := by decide +kernel
theorem dX7_isAbove_150 : decode cX7_isAbove 150 = .ok (.lcmp, 1) := by decide +kernel
theorem dX7_isAbove_151 : decode cX7_isAbove 151 = .ok (.ifCond .ne 5, 3) := by decide +kernel
theorem dX7_isAbove_154 : decode cX7_isAbove 154 = .ok (.iconst 0, 1) := by decide +kernel
theorem dX7_isAbove_155 : decode cX7_isAbove 155 = .ok (.ireturn, 1) := by decide +kernel
theorem dX7_isAbove_156 : decode cX7_isAbove 156 = .ok (.lload 7, 2) := by decide +kernel
theorem dX7_isAbove_158 : decode cX7_isAbove 158 = .ok (.lconst 0, 1) := by decide +kernel
theorem dX7_isAbove_159 : decode cX7_isAbove 159 = .ok (.lcmp, 1) := by decide +kernel
theorem dX7_isAbove_160 : decode cX7_isAbove 160 = .ok (.ifCond .ne 7, 3) := by decide +kernel
theorem dX7_isAbove_163 : decode cX7_isAbove 163 = .ok (.iconst 1, 1) := by decide +kernel
theorem dX7_isAbove_164 : decode cX7_isAbove 164 = .ok (.goto 4, 3) := by decide +kernel
theorem dX7_isAbove_167 : decode cX7_isAbove 167 = .ok (.iconst 0, 1) := by decide +kernel
theorem dX7_isAbove_168 : decode cX7_isAbove 168 = .ok (.iload 13, 2) := by decide +kernel
theorem dX7_isAbove_170 : decode cX7_isAbove 170 = .ok (.if_icmp .eq 7, 3) := by decide +kernel
theorem dX7_isAbove_173 : decode cX7_isAbove 173 = .ok (.iconst 1, 1) := by decide +kernel
theorem dX7_isAbove_174 : decode cX7_isAbove 174 = .ok (.goto 4, 3) := by decide +kernel
theorem dX7_isAbove_177 : decode cX7_isAbove 177 = .ok (.iconst 0, 1) := by decide +kernel
theorem dX7_isAbove_178 : decode cX7_isAbove 178 = .ok (.ireturn, 1) := by decide +kernel
theorem dX7_commonDivisor_0 : decode cX7_commonDivisor 0 = .ok (.lload_n 0, 1) := by decide +kernel
theorem dX7_commonDivisor_1 : decode cX7_commonDivisor 1 = .ok (.lstore 4, 2) := by decide +kernel
theorem dX7_commonDivisor_3 : decode cX7_commonDivisor 3 = .ok (.lload_n 2, 1) := by decide +kernel
theorem dX7_commonDivisor_4 : decode cX7_commonDivisor 4 = .ok (.lstore 6, 2) := by decide +kernel
theorem dX7_commonDivisor_6 : decode cX7_commonDivisor 6 = .ok (.iconst 0, 1) := by decide +kernel
theorem dX7_commonDivisor_7 : decode cX7_commonDivisor 7 = .ok (.istore 8, 2) := by decide +kernel
theorem dX7_commonDivisor_9 : decode cX7_commonDivisor 9 = .ok (.iload 8, 2) := by decide +kernel
theorem dX7_commonDivisor_11 : decode cX7_commonDivisor 11 = .ok (.sipush 2000, 3) := by decide +kernel
theorem dX7_commonDivisor_14 : decode cX7_commonDivisor 14 = .ok (.if_icmp .ge 31, 3) := by decide +kernel
theorem dX7_commonDivisor_17 : decode cX7_commonDivisor 17 = .ok (.lload 6, 2) := by decide +kernel
theorem dX7_commonDivisor_19 : decode cX7_commonDivisor 19 = .ok (.lconst 0, 1) := by decide +kernel
theorem dX7_commonDivisor_20 : decode cX7_commonDivisor 20 = .ok (.lcmp, 1) := by decide +kernel
theorem dX7_commonDivisor_21 : decode cX7_commonDivisor 21 = .ok (.ifCond .eq 24, 3) := by decide +kernel
theorem dX7_commonDivisor_24 : decode cX7_commonDivisor 24 = .ok (.lload 4, 2) := by decide +kernel
theorem dX7_commonDivisor_26 : decode cX7_commonDivisor 26 = .ok (.lload 6, 2) := by decide +kernel
theorem dX7_commonDivisor_28 : decode cX7_commonDivisor 28 = .ok (.lrem, 1) := by decide +kernel
theorem dX7_commonDivisor_29 : decode cX7_commonDivisor 29 = .ok (.lstore 9, 2) := by decide +kernel
theorem dX7_commonDivisor_31 : decode cX7_commonDivisor 31 = .ok (.lload 6, 2) := by decide +kernel
theorem dX7_commonDivisor_33 : decode cX7_commonDivisor 33 = .ok (.lstore 4, 2) := by decide +kernel
theorem dX7_commonDivisor_35 : decode cX7_commonDivisor 35 = .ok (.lload 9, 2) := by decide +kernel
theorem dX7_commonDivisor_37 : decode cX7_commonDivisor 37 = .ok (.lstore 6, 2) := by decide +kernel
theorem dX7_commonDivisor_39 : decode cX7_commonDivisor 39 = .ok (.iinc 8 1, 3) := by decide +kernel
theorem dX7_commonDivisor_42 : decode cX7_commonDivisor 42 = .ok (.goto (-33), 3) := by decide +kernel
theorem dX7_commonDivisor_45 : decode cX7_commonDivisor 45 = .ok (.lload 4, 2) := by decide +kernel
theorem dX7_commonDivisor_47 : decode cX7_commonDivisor 47 = .ok (.lreturn, 1) := by decide +kernel
theorem dX8_init_0 : decode cX8_init 0 = .ok (.aload_n 0, 1) := by decide +kernel
theorem dX8_init_1 : decode cX8_init 1 = .ok (.invokespecial 3, 3) := by decide +kernel
theorem dX8_init_4 : decode cX8_init 4 = .ok (.return_, 1) := by decide +kernel
theorem dX8_begin_0 : decode cX8_begin 0 = .ok (.aload_n 0, 1) := by decide +kernel
theorem dX8_begin_1 : decode cX8_begin 1 = .ok (.aload_n 1, 1) := by decide +kernel
theorem dX8_begin_2 : decode cX8_begin 2 = .ok (.getfield 9, 3) := by decide +kernel
theorem dX8_begin_5 : decode cX8_begin 5 = .ok (.putfield 15, 3) := by decide +kernel
theorem dX8_begin_8 : decode cX8_begin 8 = .ok (.aload_n 0, 1) := by decide +kernel
theorem dX8_begin_9 : decode cX8_begin 9 = .ok (.aload_n 1, 1) := by decide +kernel
theorem dX8_begin_10 : decode cX8_begin 10 = .ok (.getfield 18, 3) := by decide +kernel
theorem dX8_begin_13 : decode cX8_begin 13 = .ok (.putfield 21, 3) := by decide +kernel
theorem dX8_begin_16 : decode cX8_begin 16 = .ok (.aload_n 0, 1) := by decide +kernel
theorem dX8_begin_17 : decode cX8_begin 17 = .ok (.aload_n 1, 1) := by decide +kernel
theorem dX8_begin_18 : decode cX8_begin 18 = .ok (.getfield 22, 3) := by decide +kernel
theorem dX8_begin_21 : decode cX8_begin 21 = .ok (.putfield 25, 3) := by decide +kernel
theorem dX8_begin_24 : decode cX8_begin 24 = .ok (.return_, 1) := by decide +kernel
theorem dX8_add_0 : decode cX8_add 0 = .ok (.aload_n 0, 1) := by decide +kernel
theorem dX8_add_1 : decode cX8_add 1 = .ok (.getfield 25, 3) := by decide +kernel
theorem dX8_add_4 : decode cX8_add 4 = .ok (.aload_n 1, 1) := by decide +kernel
theorem dX8_add_5 : decode cX8_add 5 = .ok (.getfield 22, 3) := by decide +kernel
theorem dX8_add_8 : decode cX8_add 8 = .ok (.iadd, 1) := by decide +kernel
theorem dX8_add_9 : decode cX8_add 9 = .ok (.istore_n 2, 1) := by decide +kernel
theorem dX8_add_10 : decode cX8_add 10 = .ok (.aload_n 0, 1) := by decide +kernel
theorem dX8_add_11 : decode cX8_add 11 = .ok (.aload_n 0, 1) := by decide +kernel
theorem dX8_add_12 : decode cX8_add 12 = .ok (.getfield 25, 3) := by decide +kernel
theorem dX8_add_15 : decode cX8_add 15 = .ok (.aload_n 0, 1) := by decide +kernel
theorem dX8_add_16 : decode cX8_add 16 = .ok (.getfield 15, 3) := by decide +kernel
theorem dX8_add_19 : decode cX8_add 19 = .ok (.imul, 1) := by decide +kernel
theorem dX8_add_20 : decode cX8_add 20 = .ok (.aload_n 1, 1) := by decide +kernel
theorem dX8_add_21 : decode cX8_add 21 = .ok (.getfield 22, 3) := by decide +kernel
theorem dX8_add_24 : decode cX8_add 24 = .ok (.aload_n 1, 1) := by decide +kernel
theorem dX8_add_25 : decode cX8_add 25 = .ok (.getfield 9, 3) := by decide +kernel
theorem dX8_add_28 : decode cX8_add 28 = .ok (.imul, 1) := by decide +kernel
theorem dX8_add_29 : decode cX8_add 29 = .ok (.iadd, 1) := by decide +kernel
theorem dX8_add_30 : decode cX8_add 30 = .ok (.iload_n 2, 1) := by decide +kernel
theorem dX8_add_31 : decode cX8_add 31 = .ok (.invokestatic 26, 3) := by decide +kernel
theorem dX8_add_34 : decode cX8_add 34 = .ok (.putfield 15, 3) := by decide +kernel
theorem dX8_add_37 : decode cX8_add 37 = .ok (.aload_n 0, 1) := by decide +kernel
theorem dX8_add_38 : decode cX8_add 38 = .ok (.getfield 21, 3) := by decide +kernel
theorem dX8_add_41 : decode cX8_add 41 = .ok (.aload_n 1, 1) := by decide +kernel
theorem dX8_add_42 : decode cX8_add 42 = .ok (.getfield 18, 3) := by decide +kernel
theorem dX8_add_45 : decode cX8_add 45 = .ok (.invokestatic 30, 3) := by decide +kernel
theorem dX8_add_48 : decode cX8_add 48 = .ok (.istore_n 3, 1) := by decide +kernel
theorem dX8_add_49 : decode cX8_add 49 = .ok (.aload_n 0, 1) := by decide +kernel
theorem dX8_add_50 : decode cX8_add 50 = .ok (.aload_n 0, 1) := by decide +kernel
theorem dX8_add_51 : decode cX8_add 51 = .ok (.getfield 21, 3) := by decide +kernel
theorem dX8_add_54 : decode cX8_add 54 = .ok (.aload_n 1, 1) := by decide +kernel
theorem dX8_add_55 : decode cX8_add 55 = .ok (.getfield 22, 3) := by decide +kernel
theorem dX8_add_58 : decode cX8_add 58 = .ok (.iload_n 3, 1) := by decide +kernel
theorem dX8_add_59 : decode cX8_add 59 = .ok (.imul, 1) := by decide +kernel
theorem dX8_add_60 : decode cX8_add 60 = .ok (.iload_n 2, 1) := by decide +kernel
theorem dX8_add_61 : decode cX8_add 61 = .ok (.invokestatic 26, 3) := by decide +kernel
theorem dX8_add_64 : decode cX8_add 64 = .ok (.iadd, 1) := by decide +kernel
theorem dX8_add_65 : decode cX8_add 65 = .ok (.sipush 360, 3) := by decide +kernel
theorem dX8_add_68 : decode cX8_add 68 = .ok (.invokestatic 33, 3) := by decide +kernel
theorem dX8_add_71 : decode cX8_add 71 = .ok (.putfield 21, 3) := by decide +kernel
theorem dX8_add_74 : decode cX8_add 74 = .ok (.aload_n 0, 1) := by decide +kernel
theorem dX8_add_75 : decode cX8_add 75 = .ok (.iload_n 2, 1) := by decide +kernel
theorem dX8_add_76 : decode cX8_add 76 = .ok (.putfield 25, 3) := by decide +kernel
theorem dX8_add_79 : decode cX8_add 79 = .ok (.return_, 1) := by decide +kernel
theorem dX8_addAll_0 : decode cX8_addAll 0 = .ok (.iconst 0, 1) := by decide +kernel
theorem dX8_addAll_1 : decode cX8_addAll 1 = .ok (.istore 4, 2) := by decide +kernel
theorem dX8_addAll_3 : decode cX8_addAll 3 = .ok (.iconst 0, 1) := by decide +kernel
theorem dX8_addAll_4 : decode cX8_addAll 4 = .ok (.istore 5, 2) := by decide +kernel
theorem dX8_addAll_6 : decode cX8_addAll 6 = .ok (.iload 5, 2) := by decide +kernel
theorem dX8_addAll_8 : decode cX8_addAll 8 = .ok (.aload_n 1, 1) := by decide +kernel
theorem dX8_addAll_9 : decode cX8_addAll 9 = .ok (.arraylength, 1) := by decide +kernel
theorem dX8_addAll_10 : decode cX8_addAll 10 = .ok (.if_icmp .ge 54, 3) := by decide +kernel
theorem dX8_addAll_13 : decode cX8_addAll 13 = .ok (.lload_n 2, 1) := by decide +kernel
theorem dX8_addAll_14 : decode cX8_addAll 14 = .ok (.iload 5, 2) := by decide +kernel
theorem dX8_addAll_16 : decode cX8_addAll 16 = .ok (.invokestatic 38, 3) := by decide +kernel
theorem dX8_addAll_19 : decode cX8_addAll 19 = .ok (.ifCond .eq 19, 3) := by decide +kernel
theorem dX8_addAll_22 : decode cX8_addAll 22 = .ok (.iload 4, 2) := by decide +kernel
theorem dX8_addAll_24 : decode cX8_addAll 24 = .ok (.ifCond .eq 14, 3) := by decide +kernel
theorem dX8_addAll_27 : decode cX8_addAll 27 = .ok (.aload_n 0, 1) := by decide +kernel
theorem dX8_addAll_28 : decode cX8_addAll 28 = .ok (.aload_n 1, 1) := by decide +kernel
theorem dX8_addAll_29 : decode cX8_addAll 29 = .ok (.iload 5, 2) := by decide +kernel
theorem dX8_addAll_31 : decode cX8_addAll 31 = .ok (.aaload, 1) := by decide +kernel
theorem dX8_addAll_32 : decode cX8_addAll 32 = .ok (.invokevirtual 42, 3) := by decide +kernel
theorem dX8_addAll_35 : decode cX8_addAll 35 = .ok (.goto 23, 3) := by decide +kernel
theorem dX8_addAll_38 : decode cX8_addAll 38 = .ok (.lload_n 2, 1) := by decide +kernel
theorem dX8_addAll_39 : decode cX8_addAll 39 = .ok (.iload 5, 2) := by decide +kernel
theorem dX8_addAll_41 : decode cX8_addAll 41 = .ok (.invokestatic 38, 3) := by decide +kernel
theorem dX8_addAll_44 : decode cX8_addAll 44 = .ok (.ifCond .eq 14, 3) := by decide +kernel
theorem dX8_addAll_47 : decode cX8_addAll 47 = .ok (.aload_n 0, 1) := by decide +kernel
theorem dX8_addAll_48 : decode cX8_addAll 48 = .ok (.aload_n 1, 1) := by decide +kernel
theorem dX8_addAll_49 : decode cX8_addAll 49 = .ok (.iload 5, 2) := by decide +kernel
theorem dX8_addAll_51 : decode cX8_addAll 51 = .ok (.aaload, 1) := by decide +kernel
theorem dX8_addAll_52 : decode cX8_addAll 52 = .ok (.invokevirtual 46, 3) := by decide +kernel
theorem dX8_addAll_55 : decode cX8_addAll 55 = .ok (.iconst 1, 1) := by decide +kernel
theorem dX8_addAll_56 : decode cX8_addAll 56 = .ok (.istore 4, 2) := by decide +kernel
theorem dX8_addAll_58 : decode cX8_addAll 58 = .ok (.iinc 5 1, 3) := by decide +kernel
theorem dX8_addAll_61 : decode cX8_addAll 61 = .ok (.goto (-55), 3) := by decide +kernel
theorem dX8_addAll_64 : decode cX8_addAll 64 = .ok (.return_, 1) := by decide +kernel
theorem dX9_init_0 : decode cX9_init 0 = .ok (.aload_n 0, 1) := by decide +kernel
theorem dX9_init_1 : decode cX9_init 1 = .ok (.invokespecial 3, 3) := by decide +kernel
theorem dX9_init_4 : decode cX9_init 4 = .ok (.aload_n 0, 1) := by decide +kernel
theorem dX9_init_5 : decode cX9_init 5 = .ok (.iload_n 1, 1) := by decide +kernel
theorem dX9_init_6 : decode cX9_init 6 = .ok (.putfield 9, 3) := by decide +kernel
theorem dX9_init_9 : decode cX9_init 9 = .ok (.aload_n 0, 1) := by decide +kernel
theorem dX9_init_10 : decode cX9_init 10 = .ok (.bipush 40, 2) := by decide +kernel
theorem dX9_init_12 : decode cX9_init 12 = .ok (.newarray .int, 2) := by decide +kernel
theorem dX9_init_14 : decode cX9_init 14 = .ok (.putfield 15, 3) := by decide +kernel
theorem dX9_init_17 : decode cX9_init 17 = .ok (.aload_n 0, 1) := by decide +kernel
theorem dX9_init_18 : decode cX9_init 18 = .ok (.bipush 40, 2) := by decide +kernel
theorem dX9_init_20 : decode cX9_init 20 = .ok (.newarray .int, 2) := by decide +kernel
theorem dX9_init_22 : decode cX9_init 22 = .ok (.putfield 19, 3) := by decide +kernel
theorem dX9_init_25 : decode cX9_init 25 = .ok (.aload_n 0, 1) := by decide +kernel
theorem dX9_init_26 : decode cX9_init 26 = .ok (.bipush 40, 2) := by decide +kernel
theorem dX9_init_28 : decode cX9_init 28 = .ok (.newarray .int, 2) := by decide +kernel
theorem dX9_init_30 : decode cX9_init 30 = .ok (.putfield 22, 3) := by decide +kernel
theorem dX9_init_33 : decode cX9_init 33 = .ok (.aload_n 0, 1) := by decide +kernel
theorem dX9_init_34 : decode cX9_init 34 = .ok (.bipush 40, 2) := by decide +kernel
theorem dX9_init_36 : decode cX9_init 36 = .ok (.newarray .int, 2) := by decide +kernel
theorem dX9_init_38 : decode cX9_init 38 = .ok (.putfield 25, 3) := by decide +kernel
theorem dX9_init_41 : decode cX9_init 41 = .ok (.aload_n 0, 1) := by decide +kernel
theorem dX9_init_42 : decode cX9_init 42 = .ok (.iconst 0, 1) := by decide +kernel
theorem dX9_init_43 : decode cX9_init 43 = .ok (.putfield 28, 3) := by decide +kernel
theorem dX9_init_46 : decode cX9_init 46 = .ok (.return_, 1) := by decide +kernel
theorem dX9_add_0 : decode cX9_add 0 = .ok (.aload_n 1, 1) := by decide +kernel
theorem dX9_add_1 : decode cX9_add 1 = .ok (.getfield 31, 3) := by decide +kernel
theorem dX9_add_4 : decode cX9_add 4 = .ok (.aload_n 0, 1) := by decide +kernel
theorem dX9_add_5 : decode cX9_add 5 = .ok (.getfield 9, 3) := by decide +kernel
theorem dX9_add_8 : decode cX9_add 8 = .ok (.invokestatic 36, 3) := by decide +kernel
theorem dX9_add_11 : decode cX9_add 11 = .ok (.istore_n 2, 1) := by decide +kernel
theorem dX9_add_12 : decode cX9_add 12 = .ok (.aload_n 1, 1) := by decide +kernel
theorem dX9_add_13 : decode cX9_add 13 = .ok (.getfield 40, 3) := by decide +kernel
theorem dX9_add_16 : decode cX9_add 16 = .ok (.aload_n 0, 1) := by decide +kernel
theorem dX9_add_17 : decode cX9_add 17 = .ok (.getfield 9, 3) := by decide +kernel
theorem dX9_add_20 : decode cX9_add 20 = .ok (.invokestatic 36, 3) := by decide +kernel
theorem dX9_add_23 : decode cX9_add 23 = .ok (.istore_n 3, 1) := by decide +kernel
theorem dX9_add_24 : decode cX9_add 24 = .ok (.iconst 0, 1) := by decide +kernel
theorem dX9_add_25 : decode cX9_add 25 = .ok (.istore 4, 2) := by decide +kernel
theorem dX9_add_27 : decode cX9_add 27 = .ok (.iload 4, 2) := by decide +kernel
theorem dX9_add_29 : decode cX9_add 29 = .ok (.aload_n 0, 1) := by decide +kernel
theorem dX9_add_30 : decode cX9_add 30 = .ok (.getfield 28, 3) := by decide +kernel
theorem dX9_add_33 : decode cX9_add 33 = .ok (.if_icmp .ge 31, 3) := by decide +kernel
theorem dX9_add_36 : decode cX9_add 36 = .ok (.aload_n 0, 1) := by decide +kernel
theorem dX9_add_37 : decode cX9_add 37 = .ok (.getfield 15, 3) := by decide +kernel
theorem dX9_add_40 : decode cX9_add 40 = .ok (.iload 4, 2) := by decide +kernel
theorem dX9_add_42 : decode cX9_add 42 = .ok (.iaload, 1) := by decide +kernel
theorem dX9_add_43 : decode cX9_add 43 = .ok (.iload_n 2, 1) := by decide +kernel
theorem dX9_add_44 : decode cX9_add 44 = .ok (.if_icmp .ne 14, 3) := by decide +kernel
theorem dX9_add_47 : decode cX9_add 47 = .ok (.aload_n 0, 1) := by decide +kernel
theorem dX9_add_48 : decode cX9_add 48 = .ok (.getfield 19, 3) := by decide +kernel
theorem dX9_add_51 : decode cX9_add 51 = .ok (.iload 4, 2) := by decide +kernel
theorem dX9_add_53 : decode cX9_add 53 = .ok (.iaload, 1) := by decide +kernel
theorem dX9_add_54 : decode cX9_add 54 = .ok (.iload_n 3, 1) := by decide +kernel
theorem dX9_add_55 : decode cX9_add 55 = .ok (.if_icmp .eq 9, 3) := by decide +kernel
theorem dX9_add_58 : decode cX9_add 58 = .ok (.iinc 4 1, 3) := by decide +kernel
theorem dX9_add_61 : decode cX9_add 61 = .ok (.goto (-34), 3) := by decide +kernel
theorem dX9_add_64 : decode cX9_add 64 = .ok (.iload 4, 2) := by decide +kernel
theorem dX9_add_66 : decode cX9_add 66 = .ok (.bipush 40, 2) := by decide +kernel
theorem dX9_add_68 : decode cX9_add 68 = .ok (.if_icmp .lt 4, 3) := by decide +kernel
theorem dX9_add_71 : decode cX9_add 71 = .ok (.return_, 1) := by decide +kernel
theorem dX9_add_72 : decode cX9_add 72 = .ok (.iload 4, 2) := by decide +kernel
theorem dX9_add_74 : decode cX9_add 74 = .ok (.aload_n 0, 1) := by decide +kernel
theorem dX9_add_75 : decode cX9_add 75 = .ok (.getfield 28, 3) := by decide +kernel
theorem dX9_add_78 : decode cX9_add 78 = .ok (.if_icmp .ne 29, 3) := by decide +kernel
theorem dX9_add_81 : decode cX9_add 81 = .ok (.aload_n 0, 1) := by decide +kernel
theorem dX9_add_82 : decode cX9_add 82 = .ok (.getfield 15, 3) := by decide +kernel
theorem dX9_add_85 : decode cX9_add 85 = .ok (.iload 4, 2) := by decide +kernel
theorem dX9_add_87 : decode cX9_add 87 = .ok (.iload_n 2, 1) := by decide +kernel
theorem dX9_add_88 : decode cX9_add 88 = .ok (.iastore, 1) := by decide +kernel
theorem dX9_add_89 : decode cX9_add 89 = .ok (.aload_n 0, 1) := by decide +kernel
theorem dX9_add_90 : decode cX9_add 90 = .ok (.getfield 19, 3) := by decide +kernel
theorem dX9_add_93 : decode cX9_add 93 = .ok (.iload 4, 2) := by decide +kernel
theorem dX9_add_95 : decode cX9_add 95 = .ok (.iload_n 3, 1) := by decide +kernel
theorem dX9_add_96 : decode cX9_add 96 = .ok (.iastore, 1) := by decide +kernel
theorem dX9_add_97 : decode cX9_add 97 = .ok (.aload_n 0, 1) := by decide +kernel
theorem dX9_add_98 : decode cX9_add 98 = .ok (.dup, 1) := by decide +kernel
theorem dX9_add_99 : decode cX9_add 99 = .ok (.getfield 28, 3) := by decide +kernel
theorem dX9_add_102 : decode cX9_add 102 = .ok (.iconst 1, 1) := by decide +kernel
theorem dX9_add_103 : decode cX9_add 103 = .ok (.iadd, 1) := by decide +kernel
theorem dX9_add_104 : decode cX9_add 104 = .ok (.putfield 28, 3) := by decide +kernel
theorem dX9_add_107 : decode cX9_add 107 = .ok (.aload_n 0, 1) := by decide +kernel
theorem dX9_add_108 : decode cX9_add 108 = .ok (.getfield 22, 3) := by decide +kernel
theorem dX9_add_111 : decode cX9_add 111 = .ok (.iload 4, 2) := by decide +kernel
theorem dX9_add_113 : decode cX9_add 113 = .ok (.dup2, 1) := by decide +kernel
theorem dX9_add_114 : decode cX9_add 114 = .ok (.iaload, 1) := by decide +kernel
theorem dX9_add_115 : decode cX9_add 115 = .ok (.aload_n 1, 1) := by decide +kernel
theorem dX9_add_116 : decode cX9_add 116 = .ok (.getfield 43, 3) := by decide +kernel
theorem dX9_add_119 : decode cX9_add 119 = .ok (.iadd, 1) := by decide +kernel
theorem dX9_add_120 : decode cX9_add 120 = .ok (.iastore, 1) := by decide +kernel
theorem dX9_add_121 : decode cX9_add 121 = .ok (.aload_n 0, 1) := by decide +kernel
theorem dX9_add_122 : decode cX9_add 122 = .ok (.getfield 25, 3) := by decide +kernel
theorem dX9_add_125 : decode cX9_add 125 = .ok (.iload 4, 2) := by decide +kernel
theorem dX9_add_127 : decode cX9_add 127 = .ok (.dup2, 1) := by decide +kernel
theorem dX9_add_128 : decode cX9_add 128 = .ok (.iaload, 1) := by decide +kernel
theorem dX9_add_129 : decode cX9_add 129 = .ok (.iconst 1, 1) := by decide +kernel
theorem dX9_add_130 : decode cX9_add 130 = .ok (.iadd, 1) := by decide +kernel
theorem dX9_add_131 : decode cX9_add 131 = .ok (.iastore, 1) := by decide +kernel
theorem dX9_add_132 : decode cX9_add 132 = .ok (.return_, 1) := by decide +kernel
theorem dX9_mostTracks_0 : decode cX9_mostTracks 0 = .ok (.iconst 0, 1) := by decide +kernel
theorem dX9_mostTracks_1 : decode cX9_mostTracks 1 = .ok (.istore_n 1, 1) := by decide +kernel
theorem dX9_mostTracks_2 : decode cX9_mostTracks 2 = .ok (.iconst 0, 1) := by decide +kernel
theorem dX9_mostTracks_3 : decode cX9_mostTracks 3 = .ok (.istore_n 2, 1) := by decide +kernel
theorem dX9_mostTracks_4 : decode cX9_mostTracks 4 = .ok (.iload_n 2, 1) := by decide +kernel
theorem dX9_mostTracks_5 : decode cX9_mostTracks 5 = .ok (.aload_n 0, 1) := by decide +kernel
theorem dX9_mostTracks_6 : decode cX9_mostTracks 6 = .ok (.getfield 28, 3) := by decide +kernel
theorem dX9_mostTracks_9 : decode cX9_mostTracks 9 = .ok (.if_icmp .ge 20, 3) := by decide +kernel
theorem dX9_mostTracks_12 : decode cX9_mostTracks 12 = .ok (.iload_n 1, 1) := by decide +kernel
theorem dX9_mostTracks_13 : decode cX9_mostTracks 13 = .ok (.aload_n 0, 1) := by decide +kernel
theorem dX9_mostTracks_14 : decode cX9_mostTracks 14 = .ok (.getfield 25, 3) := by decide +kernel
theorem dX9_mostTracks_17 : decode cX9_mostTracks 17 = .ok (.iload_n 2, 1) := by decide +kernel
theorem dX9_mostTracks_18 : decode cX9_mostTracks 18 = .ok (.iaload, 1) := by decide +kernel
theorem dX9_mostTracks_19 : decode cX9_mostTracks 19 = .ok (.invokestatic 46, 3) := by decide +kernel
theorem dX9_mostTracks_22 : decode cX9_mostTracks 22 = .ok (.istore_n 1, 1) := by decide +kernel
theorem dX9_mostTracks_23 : decode cX9_mostTracks 23 = .ok (.iinc 2 1, 3) := by decide +kernel
theorem dX9_mostTracks_26 : decode cX9_mostTracks 26 = .ok (.goto (-22), 3) := by decide +kernel
theorem dX9_mostTracks_29 : decode cX9_mostTracks 29 = .ok (.iload_n 1, 1) := by decide +kernel
theorem dX9_mostTracks_30 : decode cX9_mostTracks 30 = .ok (.ireturn, 1) := by decide +kernel
theorem dX9_middleWeight_0 : decode cX9_middleWeight 0 = .ok (.sipush 200, 3) := by decide +kernel
theorem dX9_middleWeight_3 : decode cX9_middleWeight 3 = .ok (.aload_n 0, 1) := by decide +kernel
theorem dX9_middleWeight_4 : decode cX9_middleWeight 4 = .ok (.getfield 9, 3) := by decide +kernel
theorem dX9_middleWeight_7 : decode cX9_middleWeight 7 = .ok (.invokestatic 36, 3) := by decide +kernel
theorem dX9_middleWeight_10 : decode cX9_middleWeight 10 = .ok (.sipush (-200), 3) := by decide +kernel
theorem dX9_middleWeight_13 : decode cX9_middleWeight 13 = .ok (.aload_n 0, 1) := by decide +kernel
theorem dX9_middleWeight_14 : decode cX9_middleWeight 14 = .ok (.getfield 9, 3) := by decide +kernel
theorem dX9_middleWeight_17 : decode cX9_middleWeight 17 = .ok (.invokestatic 36, 3) := by decide +kernel
theorem dX9_middleWeight_20 : decode cX9_middleWeight 20 = .ok (.isub, 1) := by decide +kernel
theorem dX9_middleWeight_21 : decode cX9_middleWeight 21 = .ok (.iconst 1, 1) := by decide +kernel
theorem dX9_middleWeight_22 : decode cX9_middleWeight 22 = .ok (.iadd, 1) := by decide +kernel
theorem dX9_middleWeight_23 : decode cX9_middleWeight 23 = .ok (.istore_n 1, 1) := by decide +kernel
theorem dX9_middleWeight_24 : decode cX9_middleWeight 24 = .ok (.sipush 359, 3) := by decide +kernel
theorem dX9_middleWeight_27 : decode cX9_middleWeight 27 = .ok (.aload_n 0, 1) := by decide +kernel
theorem dX9_middleWeight_28 : decode cX9_middleWeight 28 = .ok (.getfield 9, 3) := by decide +kernel
theorem dX9_middleWeight_31 : decode cX9_middleWeight 31 = .ok (.invokestatic 36, 3) := by decide +kernel
theorem dX9_middleWeight_34 : decode cX9_middleWeight 34 = .ok (.iconst 1, 1) := by decide +kernel
theorem dX9_middleWeight_35 : decode cX9_middleWeight 35 = .ok (.iadd, 1) := by decide +kernel
theorem dX9_middleWeight_36 : decode cX9_middleWeight 36 = .ok (.istore_n 2, 1) := by decide +kernel
theorem dX9_middleWeight_37 : decode cX9_middleWeight 37 = .ok (.iload_n 1, 1) := by decide +kernel
theorem dX9_middleWeight_38 : decode cX9_middleWeight 38 = .ok (.iload_n 2, 1) := by decide +kernel
theorem dX9_middleWeight_39 : decode cX9_middleWeight 39 = .ok (.imul, 1) := by decide +kernel
theorem dX9_middleWeight_40 : decode cX9_middleWeight 40 = .ok (.istore_n 3, 1) := by decide +kernel
theorem dX9_middleWeight_41 : decode cX9_middleWeight 41 = .ok (.iload_n 3, 1) := by decide +kernel
theorem dX9_middleWeight_42 : decode cX9_middleWeight 42 = .ok (.iconst 1, 1) := by decide +kernel
theorem dX9_middleWeight_43 : decode cX9_middleWeight 43 = .ok (.isub, 1) := by decide +kernel
theorem dX9_middleWeight_44 : decode cX9_middleWeight 44 = .ok (.iconst 2, 1) := by decide +kernel
theorem dX9_middleWeight_45 : decode cX9_middleWeight 45 = .ok (.idiv, 1) := by decide +kernel
theorem dX9_middleWeight_46 : decode cX9_middleWeight 46 = .ok (.iload_n 3, 1) := by decide +kernel
theorem dX9_middleWeight_47 : decode cX9_middleWeight 47 = .ok (.aload_n 0, 1) := by decide +kernel
theorem dX9_middleWeight_48 : decode cX9_middleWeight 48 = .ok (.getfield 28, 3) := by decide +kernel
theorem dX9_middleWeight_51 : decode cX9_middleWeight 51 = .ok (.isub, 1) := by decide +kernel
theorem dX9_middleWeight_52 : decode cX9_middleWeight 52 = .ok (.isub, 1) := by decide +kernel
theorem dX9_middleWeight_53 : decode cX9_middleWeight 53 = .ok (.istore 4, 2) := by decide +kernel
theorem dX9_middleWeight_55 : decode cX9_middleWeight 55 = .ok (.iload 4, 2) := by decide +kernel
theorem dX9_middleWeight_57 : decode cX9_middleWeight 57 = .ok (.ifCond .ge 5, 3) := by decide +kernel
theorem dX9_middleWeight_60 : decode cX9_middleWeight 60 = .ok (.iconst 0, 1) := by decide +kernel
theorem dX9_middleWeight_61 : decode cX9_middleWeight 61 = .ok (.ireturn, 1) := by decide +kernel
theorem dX9_middleWeight_62 : decode cX9_middleWeight 62 = .ok (.iconst 0, 1) := by decide +kernel
theorem dX9_middleWeight_63 : decode cX9_middleWeight 63 = .ok (.istore 5, 2) := by decide +kernel
theorem dX9_middleWeight_65 : decode cX9_middleWeight 65 = .ok (.iload 5, 2) := by decide +kernel
theorem dX9_middleWeight_67 : decode cX9_middleWeight 67 = .ok (.aload_n 0, 1) := by decide +kernel
theorem dX9_middleWeight_68 : decode cX9_middleWeight 68 = .ok (.getfield 28, 3) := by decide +kernel
theorem dX9_middleWeight_71 : decode cX9_middleWeight 71 = .ok (.if_icmp .ge 28, 3) := by decide +kernel
theorem dX9_middleWeight_74 : decode cX9_middleWeight 74 = .ok (.aload_n 0, 1) := by decide +kernel
theorem dX9_middleWeight_75 : decode cX9_middleWeight 75 = .ok (.iload 5, 2) := by decide +kernel
theorem dX9_middleWeight_77 : decode cX9_middleWeight 77 = .ok (.invokevirtual 51, 3) := by decide +kernel
theorem dX9_middleWeight_80 : decode cX9_middleWeight 80 = .ok (.iload 4, 2) := by decide +kernel
theorem dX9_middleWeight_82 : decode cX9_middleWeight 82 = .ok (.if_icmp .ne 11, 3) := by decide +kernel
theorem dX9_middleWeight_85 : decode cX9_middleWeight 85 = .ok (.aload_n 0, 1) := by decide +kernel
theorem dX9_middleWeight_86 : decode cX9_middleWeight 86 = .ok (.getfield 22, 3) := by decide +kernel
theorem dX9_middleWeight_89 : decode cX9_middleWeight 89 = .ok (.iload 5, 2) := by decide +kernel
theorem dX9_middleWeight_91 : decode cX9_middleWeight 91 = .ok (.iaload, 1) := by decide +kernel
theorem dX9_middleWeight_92 : decode cX9_middleWeight 92 = .ok (.ireturn, 1) := by decide +kernel
theorem dX9_middleWeight_93 : decode cX9_middleWeight 93 = .ok (.iinc 5 1, 3) := by decide +kernel
theorem dX9_middleWeight_96 : decode cX9_middleWeight 96 = .ok (.goto (-31), 3) := by decide +kernel
theorem dX9_middleWeight_99 : decode cX9_middleWeight 99 = .ok (.iconst 0, 1) := by decide +kernel
theorem dX9_middleWeight_100 : decode cX9_middleWeight 100 = .ok (.ireturn, 1) := by decide +kernel
theorem dX9_lessThan_0 : decode cX9_lessThan 0 = .ok (.iconst 0, 1) := by decide +kernel
theorem dX9_lessThan_1 : decode cX9_lessThan 1 = .ok (.istore_n 2, 1) := by decide +kernel
theorem dX9_lessThan_2 : decode cX9_lessThan 2 = .ok (.iconst 0, 1) := by decide +kernel
theorem dX9_lessThan_3 : decode cX9_lessThan 3 = .ok (.istore_n 3, 1) := by decide +kernel
theorem dX9_lessThan_4 : decode cX9_lessThan 4 = .ok (.iload_n 3, 1) := by decide +kernel
theorem dX9_lessThan_5 : decode cX9_lessThan 5 = .ok (.aload_n 0, 1) := by decide +kernel
theorem dX9_lessThan_6 : decode cX9_lessThan 6 = .ok (.getfield 28, 3) := by decide +kernel
theorem dX9_lessThan_9 : decode cX9_lessThan 9 = .ok (.if_icmp .ge 59, 3) := by decide +kernel
theorem dX9_lessThan_12 : decode cX9_lessThan 12 = .ok (.aload_n 0, 1) := by decide +kernel
theorem dX9_lessThan_13 : decode cX9_lessThan 13 = .ok (.getfield 22, 3) := by decide +kernel
theorem dX9_lessThan_16 : decode cX9_lessThan 16 = .ok (.iload_n 3, 1) := by decide +kernel
theorem dX9_lessThan_17 : decode cX9_lessThan 17 = .ok (.iaload, 1) := by decide +kernel
theorem dX9_lessThan_18 : decode cX9_lessThan 18 = .ok (.aload_n 0, 1) := by decide +kernel
theorem dX9_lessThan_19 : decode cX9_lessThan 19 = .ok (.getfield 22, 3) := by decide +kernel
theorem dX9_lessThan_22 : decode cX9_lessThan 22 = .ok (.iload_n 1, 1) := by decide +kernel
theorem dX9_lessThan_23 : decode cX9_lessThan 23 = .ok (.iaload, 1) := by decide +kernel
theorem dX9_lessThan_24 : decode cX9_lessThan 24 = .ok (.if_icmp .lt 23, 3) := by decide +kernel
theorem dX9_lessThan_27 : decode cX9_lessThan 27 = .ok (.aload_n 0, 1) := by decide +kernel
theorem dX9_lessThan_28 : decode cX9_lessThan 28 = .ok (.getfield 22, 3) := by decide +kernel
theorem dX9_lessThan_31 : decode cX9_lessThan 31 = .ok (.iload_n 3, 1) := by decide +kernel
theorem dX9_lessThan_32 : decode cX9_lessThan 32 = .ok (.iaload, 1) := by decide +kernel
theorem dX9_lessThan_33 : decode cX9_lessThan 33 = .ok (.aload_n 0, 1) := by decide +kernel
theorem dX9_lessThan_34 : decode cX9_lessThan 34 = .ok (.getfield 22, 3) := by decide +kernel
theorem dX9_lessThan_37 : decode cX9_lessThan 37 = .ok (.iload_n 1, 1) := by decide +kernel
theorem dX9_lessThan_38 : decode cX9_lessThan 38 = .ok (.iaload, 1) := by decide +kernel
theorem dX9_lessThan_39 : decode cX9_lessThan 39 = .ok (.if_icmp .ne 12, 3) := by decide +kernel
theorem dX9_lessThan_42 : decode cX9_lessThan 42 = .ok (.iload_n 3, 1) := by decide +kernel
theorem dX9_lessThan_43 : decode cX9_lessThan 43 = .ok (.iload_n 1, 1) := by decide +kernel
theorem dX9_lessThan_44 : decode cX9_lessThan 44 = .ok (.if_icmp .ge 7, 3) := by decide +kernel
theorem dX9_lessThan_47 : decode cX9_lessThan 47 = .ok (.iconst 1, 1) := by decide +kernel
theorem dX9_lessThan_48 : decode cX9_lessThan 48 = .ok (.goto 4, 3) := by decide +kernel
theorem dX9_lessThan_51 : decode cX9_lessThan 51 = .ok (.iconst 0, 1) := by decide +kernel
theorem dX9_lessThan_52 : decode cX9_lessThan 52 = .ok (.istore 4, 2) := by decide +kernel
theorem dX9_lessThan_54 : decode cX9_lessThan 54 = .ok (.iload 4, 2) := by decide +kernel
theorem dX9_lessThan_56 : decode cX9_lessThan 56 = .ok (.ifCond .eq 6, 3) := by decide +kernel
theorem dX9_lessThan_59 : decode cX9_lessThan 59 = .ok (.iinc 2 1, 3) := by decide +kernel
theorem dX9_lessThan_62 : decode cX9_lessThan 62 = .ok (.iinc 3 1, 3) := by decide +kernel
theorem dX9_lessThan_65 : decode cX9_lessThan 65 = .ok (.goto (-61), 3) := by decide +kernel
theorem dX9_lessThan_68 : decode cX9_lessThan 68 = .ok (.iload_n 2, 1) := by decide +kernel
theorem dX9_lessThan_69 : decode cX9_lessThan 69 = .ok (.ireturn, 1) := by decide +kernel
theorem dX10_init_0 : decode cX10_init 0 = .ok (.aload_n 0, 1) := by decide +kernel
theorem dX10_init_1 : decode cX10_init 1 = .ok (.invokespecial 3, 3) := by decide +kernel
theorem dX10_init_4 : decode cX10_init 4 = .ok (.aload_n 0, 1) := by decide +kernel
theorem dX10_init_5 : decode cX10_init 5 = .ok (.iload_n 2, 1) := by decide +kernel
theorem dX10_init_6 : decode cX10_init 6 = .ok (.putfield 9, 3) := by decide +kernel
theorem dX10_init_9 : decode cX10_init 9 = .ok (.aload_n 0, 1) := by decide +kernel
theorem dX10_init_10 : decode cX10_init 10 = .ok (.iload_n 3, 1) := by decide +kernel
theorem dX10_init_11 : decode cX10_init 11 = .ok (.putfield 15, 3) := by decide +kernel
theorem dX10_init_14 : decode cX10_init 14 = .ok (.aload_n 0, 1) := by decide +kernel
theorem dX10_init_15 : decode cX10_init 15 = .ok (.iload 4, 2) := by decide +kernel
theorem dX10_init_17 : decode cX10_init 17 = .ok (.putfield 18, 3) := by decide +kernel
theorem dX10_init_20 : decode cX10_init 20 = .ok (.aload_n 0, 1) := by decide +kernel
theorem dX10_init_21 : decode cX10_init 21 = .ok (.iload_n 1, 1) := by decide +kernel
theorem dX10_init_22 : decode cX10_init 22 = .ok (.putfield 21, 3) := by decide +kernel
theorem dX10_init_25 : decode cX10_init 25 = .ok (.aload_n 0, 1) := by decide +kernel
theorem dX10_init_26 : decode cX10_init 26 = .ok (.iconst 2, 1) := by decide +kernel
theorem dX10_init_27 : decode cX10_init 27 = .ok (.iload_n 1, 1) := by decide +kernel
theorem dX10_init_28 : decode cX10_init 28 = .ok (.imul, 1) := by decide +kernel
theorem dX10_init_29 : decode cX10_init 29 = .ok (.anewarray 24, 3) := by decide +kernel
theorem dX10_init_32 : decode cX10_init 32 = .ok (.putfield 26, 3) := by decide +kernel
theorem dX10_init_35 : decode cX10_init 35 = .ok (.aload_n 0, 1) := by decide +kernel
theorem dX10_init_36 : decode cX10_init 36 = .ok (.iconst 0, 1) := by decide +kernel
theorem dX10_init_37 : decode cX10_init 37 = .ok (.putfield 30, 3) := by decide +kernel
theorem dX10_init_40 : decode cX10_init 40 = .ok (.aload_n 0, 1) := by decide +kernel
theorem dX10_init_41 : decode cX10_init 41 = .ok (.iload_n 1, 1) := by decide +kernel
theorem dX10_init_42 : decode cX10_init 42 = .ok (.anewarray 33, 3) := by decide +kernel
theorem dX10_init_45 : decode cX10_init 45 = .ok (.putfield 35, 3) := by decide +kernel
theorem dX10_init_48 : decode cX10_init 48 = .ok (.aload_n 0, 1) := by decide +kernel
theorem dX10_init_49 : decode cX10_init 49 = .ok (.iconst 0, 1) := by decide +kernel
theorem dX10_init_50 : decode cX10_init 50 = .ok (.putfield 39, 3) := by decide +kernel
theorem dX10_init_53 : decode cX10_init 53 = .ok (.aload_n 0, 1) := by decide +kernel
theorem dX10_init_54 : decode cX10_init 54 = .ok (.iload_n 1, 1) := by decide +kernel
theorem dX10_init_55 : decode cX10_init 55 = .ok (.anewarray 24, 3) := by decide +kernel
theorem dX10_init_58 : decode cX10_init 58 = .ok (.putfield 42, 3) := by decide +kernel
theorem dX10_init_61 : decode cX10_init 61 = .ok (.aload_n 0, 1) := by decide +kernel
theorem dX10_init_62 : decode cX10_init 62 = .ok (.iconst 0, 1) := by decide +kernel
theorem dX10_init_63 : decode cX10_init 63 = .ok (.putfield 45, 3) := by decide +kernel
theorem dX10_init_66 : decode cX10_init 66 = .ok (.aload_n 0, 1) := by decide +kernel
theorem dX10_init_67 : decode cX10_init 67 = .ok (.iconst 0, 1) := by decide +kernel
theorem dX10_init_68 : decode cX10_init 68 = .ok (.newarray .int, 2) := by decide +kernel
theorem dX10_init_70 : decode cX10_init 70 = .ok (.putfield 48, 3) := by decide +kernel
theorem dX10_init_73 : decode cX10_init 73 = .ok (.return_, 1) := by decide +kernel
theorem dX10_addKnot_0 : decode cX10_addKnot 0 = .ok (.aload_n 0, 1) := by decide +kernel
theorem dX10_addKnot_1 : decode cX10_addKnot 1 = .ok (.getfield 30, 3) := by decide +kernel
theorem dX10_addKnot_4 : decode cX10_addKnot 4 = .ok (.aload_n 0, 1) := by decide +kernel
theorem dX10_addKnot_5 : decode cX10_addKnot 5 = .ok (.getfield 26, 3) := by decide +kernel
theorem dX10_addKnot_8 : decode cX10_addKnot 8 = .ok (.arraylength, 1) := by decide +kernel
theorem dX10_addKnot_9 : decode cX10_addKnot 9 = .ok (.if_icmp .ge 23, 3) := by decide +kernel
theorem dX10_addKnot_12 : decode cX10_addKnot 12 = .ok (.aload_n 0, 1) := by decide +kernel
theorem dX10_addKnot_13 : decode cX10_addKnot 13 = .ok (.getfield 26, 3) := by decide +kernel
theorem dX10_addKnot_16 : decode cX10_addKnot 16 = .ok (.aload_n 0, 1) := by decide +kernel
theorem dX10_addKnot_17 : decode cX10_addKnot 17 = .ok (.getfield 30, 3) := by decide +kernel
theorem dX10_addKnot_20 : decode cX10_addKnot 20 = .ok (.aload_n 1, 1) := by decide +kernel
theorem dX10_addKnot_21 : decode cX10_addKnot 21 = .ok (.aastore, 1) := by decide +kernel
theorem dX10_addKnot_22 : decode cX10_addKnot 22 = .ok (.aload_n 0, 1) := by decide +kernel
theorem dX10_addKnot_23 : decode cX10_addKnot 23 = .ok (.dup, 1) := by decide +kernel
theorem dX10_addKnot_24 : decode cX10_addKnot 24 = .ok (.getfield 30, 3) := by decide +kernel
theorem dX10_addKnot_27 : decode cX10_addKnot 27 = .ok (.iconst 1, 1) := by decide +kernel
theorem dX10_addKnot_28 : decode cX10_addKnot 28 = .ok (.iadd, 1) := by decide +kernel
theorem dX10_addKnot_29 : decode cX10_addKnot 29 = .ok (.putfield 30, 3) := by decide +kernel
theorem dX10_addKnot_32 : decode cX10_addKnot 32 = .ok (.return_, 1) := by decide +kernel
theorem dX10_addStep_0 : decode cX10_addStep 0 = .ok (.aload_n 0, 1) := by decide +kernel
theorem dX10_addStep_1 : decode cX10_addStep 1 = .ok (.getfield 39, 3) := by decide +kernel
theorem dX10_addStep_4 : decode cX10_addStep 4 = .ok (.aload_n 0, 1) := by decide +kernel
theorem dX10_addStep_5 : decode cX10_addStep 5 = .ok (.getfield 35, 3) := by decide +kernel
theorem dX10_addStep_8 : decode cX10_addStep 8 = .ok (.arraylength, 1) := by decide +kernel
theorem dX10_addStep_9 : decode cX10_addStep 9 = .ok (.if_icmp .ge 23, 3) := by decide +kernel
theorem dX10_addStep_12 : decode cX10_addStep 12 = .ok (.aload_n 0, 1) := by decide +kernel
theorem dX10_addStep_13 : decode cX10_addStep 13 = .ok (.getfield 35, 3) := by decide +kernel
theorem dX10_addStep_16 : decode cX10_addStep 16 = .ok (.aload_n 0, 1) := by decide +kernel
theorem dX10_addStep_17 : decode cX10_addStep 17 = .ok (.getfield 39, 3) := by decide +kernel
theorem dX10_addStep_20 : decode cX10_addStep 20 = .ok (.aload_n 1, 1) := by decide +kernel
theorem dX10_addStep_21 : decode cX10_addStep 21 = .ok (.aastore, 1) := by decide +kernel
theorem dX10_addStep_22 : decode cX10_addStep 22 = .ok (.aload_n 0, 1) := by decide +kernel
theorem dX10_addStep_23 : decode cX10_addStep 23 = .ok (.dup, 1) := by decide +kernel
theorem dX10_addStep_24 : decode cX10_addStep 24 = .ok (.getfield 39, 3) := by decide +kernel
theorem dX10_addStep_27 : decode cX10_addStep 27 = .ok (.iconst 1, 1) := by decide +kernel
theorem dX10_addStep_28 : decode cX10_addStep 28 = .ok (.iadd, 1) := by decide +kernel
theorem dX10_addStep_29 : decode cX10_addStep 29 = .ok (.putfield 39, 3) := by decide +kernel
theorem dX10_addStep_32 : decode cX10_addStep 32 = .ok (.return_, 1) := by decide +kernel
theorem dX10_addJet_0 : decode cX10_addJet 0 = .ok (.aload_n 0, 1) := by decide +kernel
theorem dX10_addJet_1 : decode cX10_addJet 1 = .ok (.getfield 45, 3) := by decide +kernel
theorem dX10_addJet_4 : decode cX10_addJet 4 = .ok (.aload_n 0, 1) := by decide +kernel
theorem dX10_addJet_5 : decode cX10_addJet 5 = .ok (.getfield 42, 3) := by decide +kernel
theorem dX10_addJet_8 : decode cX10_addJet 8 = .ok (.arraylength, 1) := by decide +kernel
theorem dX10_addJet_9 : decode cX10_addJet 9 = .ok (.if_icmp .lt 4, 3) := by decide +kernel
theorem dX10_addJet_12 : decode cX10_addJet 12 = .ok (.return_, 1) := by decide +kernel
theorem dX10_addJet_13 : decode cX10_addJet 13 = .ok (.aload_n 0, 1) := by decide +kernel
theorem dX10_addJet_14 : decode cX10_addJet 14 = .ok (.getfield 45, 3) := by decide +kernel
theorem dX10_addJet_17 : decode cX10_addJet 17 = .ok (.istore_n 2, 1) := by decide +kernel
theorem dX10_addJet_18 : decode cX10_addJet 18 = .ok (.aload_n 0, 1) := by decide +kernel
theorem dX10_addJet_19 : decode cX10_addJet 19 = .ok (.getfield 45, 3) := by decide +kernel
theorem dX10_addJet_22 : decode cX10_addJet 22 = .ok (.istore_n 3, 1) := by decide +kernel
theorem dX10_addJet_23 : decode cX10_addJet 23 = .ok (.iload_n 3, 1) := by decide +kernel
theorem dX10_addJet_24 : decode cX10_addJet 24 = .ok (.ifCond .le 48, 3) := by decide +kernel
theorem dX10_addJet_27 : decode cX10_addJet 27 = .ok (.aload_n 1, 1) := by decide +kernel
theorem dX10_addJet_28 : decode cX10_addJet 28 = .ok (.getfield 52, 3) := by decide +kernel
theorem dX10_addJet_31 : decode cX10_addJet 31 = .ok (.aload_n 0, 1) := by decide +kernel
theorem dX10_addJet_32 : decode cX10_addJet 32 = .ok (.getfield 42, 3) := by decide +kernel
theorem dX10_addJet_35 : decode cX10_addJet 35 = .ok (.iload_n 3, 1) := by decide +kernel
theorem dX10_addJet_36 : decode cX10_addJet 36 = .ok (.iconst 1, 1) := by decide +kernel
theorem dX10_addJet_37 : decode cX10_addJet 37 = .ok (.isub, 1) := by decide +kernel
theorem dX10_addJet_38 : decode cX10_addJet 38 = .ok (.aaload, 1) := by decide +kernel
theorem dX10_addJet_39 : decode cX10_addJet 39 = .ok (.getfield 52, 3) := by decide +kernel
theorem dX10_addJet_42 : decode cX10_addJet 42 = .ok (.invokestatic 56, 3) := by decide +kernel
theorem dX10_addJet_45 : decode cX10_addJet 45 = .ok (.ifCond .eq 27, 3) := by decide +kernel
theorem dX10_addJet_48 : decode cX10_addJet 48 = .ok (.aload_n 0, 1) := by decide +kernel
theorem dX10_addJet_49 : decode cX10_addJet 49 = .ok (.getfield 42, 3) := by decide +kernel
theorem dX10_addJet_52 : decode cX10_addJet 52 = .ok (.iload_n 3, 1) := by decide +kernel
theorem dX10_addJet_53 : decode cX10_addJet 53 = .ok (.aload_n 0, 1) := by decide +kernel
theorem dX10_addJet_54 : decode cX10_addJet 54 = .ok (.getfield 42, 3) := by decide +kernel
theorem dX10_addJet_57 : decode cX10_addJet 57 = .ok (.iload_n 3, 1) := by decide +kernel
theorem dX10_addJet_58 : decode cX10_addJet 58 = .ok (.iconst 1, 1) := by decide +kernel
theorem dX10_addJet_59 : decode cX10_addJet 59 = .ok (.isub, 1) := by decide +kernel
theorem dX10_addJet_60 : decode cX10_addJet 60 = .ok (.aaload, 1) := by decide +kernel
theorem dX10_addJet_61 : decode cX10_addJet 61 = .ok (.aastore, 1) := by decide +kernel
theorem dX10_addJet_62 : decode cX10_addJet 62 = .ok (.iload_n 3, 1) := by decide +kernel
theorem dX10_addJet_63 : decode cX10_addJet 63 = .ok (.iconst 1, 1) := by decide +kernel
theorem dX10_addJet_64 : decode cX10_addJet 64 = .ok (.isub, 1) := by decide +kernel
theorem dX10_addJet_65 : decode cX10_addJet 65 = .ok (.istore_n 2, 1) := by decide +kernel
theorem dX10_addJet_66 : decode cX10_addJet 66 = .ok (.iinc 3 (-1), 3) := by decide +kernel
theorem dX10_addJet_69 : decode cX10_addJet 69 = .ok (.goto (-46), 3) := by decide +kernel
theorem dX10_addJet_72 : decode cX10_addJet 72 = .ok (.aload_n 0, 1) := by decide +kernel
theorem dX10_addJet_73 : decode cX10_addJet 73 = .ok (.getfield 42, 3) := by decide +kernel
theorem dX10_addJet_76 : decode cX10_addJet 76 = .ok (.iload_n 2, 1) := by decide +kernel
theorem dX10_addJet_77 : decode cX10_addJet 77 = .ok (.aload_n 1, 1) := by decide +kernel
theorem dX10_addJet_78 : decode cX10_addJet 78 = .ok (.aastore, 1) := by decide +kernel
theorem dX10_addJet_79 : decode cX10_addJet 79 = .ok (.aload_n 0, 1) := by decide +kernel
theorem dX10_addJet_80 : decode cX10_addJet 80 = .ok (.dup, 1) := by decide +kernel
theorem dX10_addJet_81 : decode cX10_addJet 81 = .ok (.getfield 45, 3) := by decide +kernel
theorem dX10_addJet_84 : decode cX10_addJet 84 = .ok (.iconst 1, 1) := by decide +kernel
theorem dX10_addJet_85 : decode cX10_addJet 85 = .ok (.iadd, 1) := by decide +kernel
theorem dX10_addJet_86 : decode cX10_addJet 86 = .ok (.putfield 45, 3) := by decide +kernel
theorem dX10_addJet_89 : decode cX10_addJet 89 = .ok (.return_, 1) := by decide +kernel
theorem dX10_isJetBefore_0 : decode cX10_isJetBefore 0 = .ok (.aload_n 0, 1) := by decide +kernel
theorem dX10_isJetBefore_1 : decode cX10_isJetBefore 1 = .ok (.getfield 60, 3) := by decide +kernel
theorem dX10_isJetBefore_4 : decode cX10_isJetBefore 4 = .ok (.aload_n 1, 1) := by decide +kernel
theorem dX10_isJetBefore_5 : decode cX10_isJetBefore 5 = .ok (.getfield 60, 3) := by decide +kernel
theorem dX10_isJetBefore_8 : decode cX10_isJetBefore 8 = .ok (.if_icmp .eq 22, 3) := by decide +kernel
theorem dX10_isJetBefore_11 : decode cX10_isJetBefore 11 = .ok (.aload_n 0, 1) := by decide +kernel
theorem dX10_isJetBefore_12 : decode cX10_isJetBefore 12 = .ok (.getfield 60, 3) := by decide +kernel
theorem dX10_isJetBefore_15 : decode cX10_isJetBefore 15 = .ok (.aload_n 1, 1) := by decide +kernel
theorem dX10_isJetBefore_16 : decode cX10_isJetBefore 16 = .ok (.getfield 60, 3) := by decide +kernel
theorem dX10_isJetBefore_19 : decode cX10_isJetBefore 19 = .ok (.if_icmp .le 7, 3) := by decide +kernel
theorem dX10_isJetBefore_22 : decode cX10_isJetBefore 22 = .ok (.iconst 1, 1) := by decide +kernel
theorem dX10_isJetBefore_23 : decode cX10_isJetBefore 23 = .ok (.goto 12, 3) := by decide +kernel
theorem dX10_isJetBefore_26 : decode cX10_isJetBefore 26 = .ok (.iconst 0, 1) := by decide +kernel
theorem dX10_isJetBefore_27 : decode cX10_isJetBefore 27 = .ok (.goto 8, 3) := by decide +kernel
theorem dX10_isJetBefore_30 : decode cX10_isJetBefore 30 = .ok (.aload_n 0, 1) := by decide +kernel
theorem dX10_isJetBefore_31 : decode cX10_isJetBefore 31 = .ok (.aload_n 1, 1) := by decide +kernel
theorem dX10_isJetBefore_32 : decode cX10_isJetBefore 32 = .ok (.invokevirtual 65, 3) := by decide +kernel
theorem dX10_isJetBefore_35 : decode cX10_isJetBefore 35 = .ok (.ireturn, 1) := by decide +kernel
theorem dX10_knotAt_0 : decode cX10_knotAt 0 = .ok (.iload_n 1, 1) := by decide +kernel
theorem dX10_knotAt_1 : decode cX10_knotAt 1 = .ok (.ifCond .lt 11, 3) := by decide +kernel
theorem dX10_knotAt_4 : decode cX10_knotAt 4 = .ok (.iload_n 1, 1) := by decide +kernel
theorem dX10_knotAt_5 : decode cX10_knotAt 5 = .ok (.aload_n 0, 1) := by decide +kernel
theorem dX10_knotAt_6 : decode cX10_knotAt 6 = .ok (.getfield 30, 3) := by decide +kernel
theorem dX10_knotAt_9 : decode cX10_knotAt 9 = .ok (.if_icmp .lt 7, 3) := by decide +kernel
theorem dX10_knotAt_12 : decode cX10_knotAt 12 = .ok (.aconst_null, 1) := by decide +kernel
theorem dX10_knotAt_13 : decode cX10_knotAt 13 = .ok (.goto 9, 3) := by decide +kernel
theorem dX10_knotAt_16 : decode cX10_knotAt 16 = .ok (.aload_n 0, 1) := by decide +kernel
theorem dX10_knotAt_17 : decode cX10_knotAt 17 = .ok (.getfield 26, 3) := by decide +kernel
theorem dX10_knotAt_20 : decode cX10_knotAt 20 = .ok (.iload_n 1, 1) := by decide +kernel
theorem dX10_knotAt_21 : decode cX10_knotAt 21 = .ok (.aaload, 1) := by decide +kernel
theorem dX10_knotAt_22 : decode cX10_knotAt 22 = .ok (.areturn, 1) := by decide +kernel
theorem dX10_trackAt_0 : decode cX10_trackAt 0 = .ok (.iload_n 1, 1) := by decide +kernel
theorem dX10_trackAt_1 : decode cX10_trackAt 1 = .ok (.ifCond .lt 11, 3) := by decide +kernel
theorem dX10_trackAt_4 : decode cX10_trackAt 4 = .ok (.iload_n 1, 1) := by decide +kernel
theorem dX10_trackAt_5 : decode cX10_trackAt 5 = .ok (.aload_n 0, 1) := by decide +kernel
theorem dX10_trackAt_6 : decode cX10_trackAt 6 = .ok (.getfield 21, 3) := by decide +kernel
theorem dX10_trackAt_9 : decode cX10_trackAt 9 = .ok (.if_icmp .lt 7, 3) := by decide +kernel
theorem dX10_trackAt_12 : decode cX10_trackAt 12 = .ok (.aconst_null, 1) := by decide +kernel
theorem dX10_trackAt_13 : decode cX10_trackAt 13 = .ok (.goto 9, 3) := by decide +kernel
theorem dX10_trackAt_16 : decode cX10_trackAt 16 = .ok (.aload_n 0, 1) := by decide +kernel
theorem dX10_trackAt_17 : decode cX10_trackAt 17 = .ok (.getfield 26, 3) := by decide +kernel
theorem dX10_trackAt_20 : decode cX10_trackAt 20 = .ok (.iload_n 1, 1) := by decide +kernel
theorem dX10_trackAt_21 : decode cX10_trackAt 21 = .ok (.aaload, 1) := by decide +kernel
theorem dX10_trackAt_22 : decode cX10_trackAt 22 = .ok (.areturn, 1) := by decide +kernel
theorem dX10_jetWith_0 : decode cX10_jetWith 0 = .ok (.iconst 0, 1) := by decide +kernel
theorem dX10_jetWith_1 : decode cX10_jetWith 1 = .ok (.istore_n 3, 1) := by decide +kernel
theorem dX10_jetWith_2 : decode cX10_jetWith 2 = .ok (.iload_n 3, 1) := by decide +kernel
theorem dX10_jetWith_3 : decode cX10_jetWith 3 = .ok (.aload_n 0, 1) := by decide +kernel
theorem dX10_jetWith_4 : decode cX10_jetWith 4 = .ok (.getfield 45, 3) := by decide +kernel
theorem dX10_jetWith_7 : decode cX10_jetWith 7 = .ok (.if_icmp .ge 32, 3) := by decide +kernel
theorem dX10_jetWith_10 : decode cX10_jetWith 10 = .ok (.aload_n 0, 1) := by decide +kernel
theorem dX10_jetWith_11 : decode cX10_jetWith 11 = .ok (.getfield 42, 3) := by decide +kernel
theorem dX10_jetWith_14 : decode cX10_jetWith 14 = .ok (.iload_n 3, 1) := by decide +kernel
theorem dX10_jetWith_15 : decode cX10_jetWith 15 = .ok (.aaload, 1) := by decide +kernel
theorem dX10_jetWith_16 : decode cX10_jetWith 16 = .ok (.getfield 69, 3) := by decide +kernel
theorem dX10_jetWith_19 : decode cX10_jetWith 19 = .ok (.lload_n 1, 1) := by decide +kernel
theorem dX10_jetWith_20 : decode cX10_jetWith 20 = .ok (.land, 1) := by decide +kernel
theorem dX10_jetWith_21 : decode cX10_jetWith 21 = .ok (.lconst 0, 1) := by decide +kernel
theorem dX10_jetWith_22 : decode cX10_jetWith 22 = .ok (.lcmp, 1) := by decide +kernel
theorem dX10_jetWith_23 : decode cX10_jetWith 23 = .ok (.ifCond .eq 10, 3) := by decide +kernel
theorem dX10_jetWith_26 : decode cX10_jetWith 26 = .ok (.aload_n 0, 1) := by decide +kernel
theorem dX10_jetWith_27 : decode cX10_jetWith 27 = .ok (.getfield 42, 3) := by decide +kernel
theorem dX10_jetWith_30 : decode cX10_jetWith 30 = .ok (.iload_n 3, 1) := by decide +kernel
theorem dX10_jetWith_31 : decode cX10_jetWith 31 = .ok (.aaload, 1) := by decide +kernel
theorem dX10_jetWith_32 : decode cX10_jetWith 32 = .ok (.areturn, 1) := by decide +kernel
theorem dX10_jetWith_33 : decode cX10_jetWith 33 = .ok (.iinc 3 1, 3) := by decide +kernel
theorem dX10_jetWith_36 : decode cX10_jetWith 36 = .ok (.goto (-34), 3) := by decide +kernel
theorem dX10_jetWith_39 : decode cX10_jetWith 39 = .ok (.aconst_null, 1) := by decide +kernel
theorem dX10_jetWith_40 : decode cX10_jetWith 40 = .ok (.areturn, 1) := by decide +kernel
theorem dX10_stepThatJoined_0 : decode cX10_stepThatJoined 0 = .ok (.aload_n 0, 1) := by decide +kernel
theorem dX10_stepThatJoined_1 : decode cX10_stepThatJoined 1 = .ok (.getfield 21, 3) := by decide +kernel
theorem dX10_stepThatJoined_4 : decode cX10_stepThatJoined 4 = .ok (.istore_n 3, 1) := by decide +kernel
theorem dX10_stepThatJoined_5 : decode cX10_stepThatJoined 5 = .ok (.iload_n 3, 1) := by decide +kernel
theorem dX10_stepThatJoined_6 : decode cX10_stepThatJoined 6 = .ok (.aload_n 0, 1) := by decide +kernel
theorem dX10_stepThatJoined_7 : decode cX10_stepThatJoined 7 = .ok (.getfield 30, 3) := by decide +kernel
theorem dX10_stepThatJoined_10 : decode cX10_stepThatJoined 10 = .ok (.if_icmp .ge 39, 3) := by decide +kernel
theorem dX10_stepThatJoined_13 : decode cX10_stepThatJoined 13 = .ok (.lload_n 1, 1) := by decide +kernel
theorem dX10_stepThatJoined_14 : decode cX10_stepThatJoined 14 = .ok (.aload_n 0, 1) := by decide +kernel
theorem dX10_stepThatJoined_15 : decode cX10_stepThatJoined 15 = .ok (.getfield 26, 3) := by decide +kernel
theorem dX10_stepThatJoined_18 : decode cX10_stepThatJoined 18 = .ok (.iload_n 3, 1) := by decide +kernel
theorem dX10_stepThatJoined_19 : decode cX10_stepThatJoined 19 = .ok (.aaload, 1) := by decide +kernel
theorem dX10_stepThatJoined_20 : decode cX10_stepThatJoined 20 = .ok (.getfield 69, 3) := by decide +kernel
theorem dX10_stepThatJoined_23 : decode cX10_stepThatJoined 23 = .ok (.ldc2_w 73, 3) := by decide +kernel
theorem dX10_stepThatJoined_26 : decode cX10_stepThatJoined 26 = .ok (.lxor, 1) := by decide +kernel
theorem dX10_stepThatJoined_27 : decode cX10_stepThatJoined 27 = .ok (.land, 1) := by decide +kernel
theorem dX10_stepThatJoined_28 : decode cX10_stepThatJoined 28 = .ok (.lconst 0, 1) := by decide +kernel
theorem dX10_stepThatJoined_29 : decode cX10_stepThatJoined 29 = .ok (.lcmp, 1) := by decide +kernel
theorem dX10_stepThatJoined_30 : decode cX10_stepThatJoined 30 = .ok (.ifCond .ne 13, 3) := by decide +kernel
theorem dX10_stepThatJoined_33 : decode cX10_stepThatJoined 33 = .ok (.aload_n 0, 1) := by decide +kernel
theorem dX10_stepThatJoined_34 : decode cX10_stepThatJoined 34 = .ok (.getfield 26, 3) := by decide +kernel
theorem dX10_stepThatJoined_37 : decode cX10_stepThatJoined 37 = .ok (.iload_n 3, 1) := by decide +kernel
theorem dX10_stepThatJoined_38 : decode cX10_stepThatJoined 38 = .ok (.aaload, 1) := by decide +kernel
theorem dX10_stepThatJoined_39 : decode cX10_stepThatJoined 39 = .ok (.getfield 75, 3) := by decide +kernel
theorem dX10_stepThatJoined_42 : decode cX10_stepThatJoined 42 = .ok (.ireturn, 1) := by decide +kernel
theorem dX10_stepThatJoined_43 : decode cX10_stepThatJoined 43 = .ok (.iinc 3 1, 3) := by decide +kernel
theorem dX10_stepThatJoined_46 : decode cX10_stepThatJoined 46 = .ok (.goto (-41), 3) := by decide +kernel
theorem dX10_stepThatJoined_49 : decode cX10_stepThatJoined 49 = .ok (.iconst (-1), 1) := by decide +kernel
theorem dX10_stepThatJoined_50 : decode cX10_stepThatJoined 50 = .ok (.ireturn, 1) := by decide +kernel
theorem dX10_weightOf_0 : decode cX10_weightOf 0 = .ok (.iconst 0, 1) := by decide +kernel
theorem dX10_weightOf_1 : decode cX10_weightOf 1 = .ok (.istore_n 3, 1) := by decide +kernel
theorem dX10_weightOf_2 : decode cX10_weightOf 2 = .ok (.iconst 0, 1) := by decide +kernel
theorem dX10_weightOf_3 : decode cX10_weightOf 3 = .ok (.istore 4, 2) := by decide +kernel
theorem dX10_weightOf_5 : decode cX10_weightOf 5 = .ok (.iload 4, 2) := by decide +kernel
theorem dX10_weightOf_7 : decode cX10_weightOf 7 = .ok (.aload_n 0, 1) := by decide +kernel
theorem dX10_weightOf_8 : decode cX10_weightOf 8 = .ok (.getfield 21, 3) := by decide +kernel
theorem dX10_weightOf_11 : decode cX10_weightOf 11 = .ok (.if_icmp .ge 34, 3) := by decide +kernel
theorem dX10_weightOf_14 : decode cX10_weightOf 14 = .ok (.lload_n 1, 1) := by decide +kernel
theorem dX10_weightOf_15 : decode cX10_weightOf 15 = .ok (.iload 4, 2) := by decide +kernel
theorem dX10_weightOf_17 : decode cX10_weightOf 17 = .ok (.invokestatic 78, 3) := by decide +kernel
theorem dX10_weightOf_20 : decode cX10_weightOf 20 = .ok (.ifCond .eq 19, 3) := by decide +kernel
theorem dX10_weightOf_23 : decode cX10_weightOf 23 = .ok (.iload_n 3, 1) := by decide +kernel
theorem dX10_weightOf_24 : decode cX10_weightOf 24 = .ok (.aload_n 0, 1) := by decide +kernel
theorem dX10_weightOf_25 : decode cX10_weightOf 25 = .ok (.getfield 26, 3) := by decide +kernel
theorem dX10_weightOf_28 : decode cX10_weightOf 28 = .ok (.iload 4, 2) := by decide +kernel
theorem dX10_weightOf_30 : decode cX10_weightOf 30 = .ok (.aaload, 1) := by decide +kernel
theorem dX10_weightOf_31 : decode cX10_weightOf 31 = .ok (.getfield 52, 3) := by decide +kernel
theorem dX10_weightOf_34 : decode cX10_weightOf 34 = .ok (.getfield 60, 3) := by decide +kernel
theorem dX10_weightOf_37 : decode cX10_weightOf 37 = .ok (.iadd, 1) := by decide +kernel
theorem dX10_weightOf_38 : decode cX10_weightOf 38 = .ok (.istore_n 3, 1) := by decide +kernel
theorem dX10_weightOf_39 : decode cX10_weightOf 39 = .ok (.iinc 4 1, 3) := by decide +kernel
theorem dX10_weightOf_42 : decode cX10_weightOf 42 = .ok (.goto (-37), 3) := by decide +kernel
theorem dX10_weightOf_45 : decode cX10_weightOf 45 = .ok (.iload_n 3, 1) := by decide +kernel
theorem dX10_weightOf_46 : decode cX10_weightOf 46 = .ok (.ireturn, 1) := by decide +kernel
theorem dX10_stepsToCount_0 : decode cX10_stepsToCount 0 = .ok (.iload_n 1, 1) := by decide +kernel
theorem dX10_stepsToCount_1 : decode cX10_stepsToCount 1 = .ok (.iconst 1, 1) := by decide +kernel
theorem dX10_stepsToCount_2 : decode cX10_stepsToCount 2 = .ok (.if_icmp .lt 9, 3) := by decide +kernel
theorem dX10_stepsToCount_5 : decode cX10_stepsToCount 5 = .ok (.iload_n 1, 1) := by decide +kernel
theorem dX10_stepsToCount_6 : decode cX10_stepsToCount 6 = .ok (.bipush 40, 2) := by decide +kernel
theorem dX10_stepsToCount_8 : decode cX10_stepsToCount 8 = .ok (.if_icmp .le 5, 3) := by decide +kernel
theorem dX10_stepsToCount_11 : decode cX10_stepsToCount 11 = .ok (.iconst (-1), 1) := by decide +kernel
theorem dX10_stepsToCount_12 : decode cX10_stepsToCount 12 = .ok (.ireturn, 1) := by decide +kernel
theorem dX10_stepsToCount_13 : decode cX10_stepsToCount 13 = .ok (.aload_n 0, 1) := by decide +kernel
theorem dX10_stepsToCount_14 : decode cX10_stepsToCount 14 = .ok (.getfield 21, 3) := by decide +kernel
theorem dX10_stepsToCount_17 : decode cX10_stepsToCount 17 = .ok (.istore_n 2, 1) := by decide +kernel
theorem dX10_stepsToCount_18 : decode cX10_stepsToCount 18 = .ok (.iconst 0, 1) := by decide +kernel
theorem dX10_stepsToCount_19 : decode cX10_stepsToCount 19 = .ok (.istore_n 3, 1) := by decide +kernel
theorem dX10_stepsToCount_20 : decode cX10_stepsToCount 20 = .ok (.iload_n 3, 1) := by decide +kernel
theorem dX10_stepsToCount_21 : decode cX10_stepsToCount 21 = .ok (.aload_n 0, 1) := by decide +kernel
theorem dX10_stepsToCount_22 : decode cX10_stepsToCount 22 = .ok (.getfield 39, 3) := by decide +kernel
theorem dX10_stepsToCount_25 : decode cX10_stepsToCount 25 = .ok (.if_icmp .ge 39, 3) := by decide +kernel
theorem dX10_stepsToCount_28 : decode cX10_stepsToCount 28 = .ok (.iload_n 2, 1) := by decide +kernel
theorem dX10_stepsToCount_29 : decode cX10_stepsToCount 29 = .ok (.iload_n 1, 1) := by decide +kernel
theorem dX10_stepsToCount_30 : decode cX10_stepsToCount 30 = .ok (.if_icmp .le 34, 3) := by decide +kernel
theorem dX10_stepsToCount_33 : decode cX10_stepsToCount 33 = .ok (.aload_n 0, 1) := by decide +kernel
theorem dX10_stepsToCount_34 : decode cX10_stepsToCount 34 = .ok (.getfield 35, 3) := by decide +kernel
theorem dX10_stepsToCount_37 : decode cX10_stepsToCount 37 = .ok (.iload_n 3, 1) := by decide +kernel
theorem dX10_stepsToCount_38 : decode cX10_stepsToCount 38 = .ok (.aaload, 1) := by decide +kernel
theorem dX10_stepsToCount_39 : decode cX10_stepsToCount 39 = .ok (.getfield 82, 3) := by decide +kernel
theorem dX10_stepsToCount_42 : decode cX10_stepsToCount 42 = .ok (.iconst (-1), 1) := by decide +kernel
theorem dX10_stepsToCount_43 : decode cX10_stepsToCount 43 = .ok (.if_icmp .eq 6, 3) := by decide +kernel
theorem dX10_stepsToCount_46 : decode cX10_stepsToCount 46 = .ok (.iinc 2 (-1), 3) := by decide +kernel
theorem dX10_stepsToCount_49 : decode cX10_stepsToCount 49 = .ok (.iload_n 2, 1) := by decide +kernel
theorem dX10_stepsToCount_50 : decode cX10_stepsToCount 50 = .ok (.iload_n 1, 1) := by decide +kernel
theorem dX10_stepsToCount_51 : decode cX10_stepsToCount 51 = .ok (.if_icmp .gt 7, 3) := by decide +kernel
theorem dX10_stepsToCount_54 : decode cX10_stepsToCount 54 = .ok (.iload_n 3, 1) := by decide +kernel
theorem dX10_stepsToCount_55 : decode cX10_stepsToCount 55 = .ok (.iconst 1, 1) := by decide +kernel
theorem dX10_stepsToCount_56 : decode cX10_stepsToCount 56 = .ok (.iadd, 1) := by decide +kernel
theorem dX10_stepsToCount_57 : decode cX10_stepsToCount 57 = .ok (.ireturn, 1) := by decide +kernel
theorem dX10_stepsToCount_58 : decode cX10_stepsToCount 58 = .ok (.iinc 3 1, 3) := by decide +kernel
theorem dX10_stepsToCount_61 : decode cX10_stepsToCount 61 = .ok (.goto (-41), 3) := by decide +kernel
theorem dX10_stepsToCount_64 : decode cX10_stepsToCount 64 = .ok (.iload_n 2, 1) := by decide +kernel
theorem dX10_stepsToCount_65 : decode cX10_stepsToCount 65 = .ok (.iload_n 1, 1) := by decide +kernel
theorem dX10_stepsToCount_66 : decode cX10_stepsToCount 66 = .ok (.if_icmp .gt 7, 3) := by decide +kernel
theorem dX10_stepsToCount_69 : decode cX10_stepsToCount 69 = .ok (.iconst 0, 1) := by decide +kernel
theorem dX10_stepsToCount_70 : decode cX10_stepsToCount 70 = .ok (.goto 4, 3) := by decide +kernel
theorem dX10_stepsToCount_73 : decode cX10_stepsToCount 73 = .ok (.iconst (-1), 1) := by decide +kernel
theorem dX10_stepsToCount_74 : decode cX10_stepsToCount 74 = .ok (.ireturn, 1) := by decide +kernel
theorem dX10_stepsToMark_0 : decode cX10_stepsToMark 0 = .ok (.iconst 0, 1) := by decide +kernel
theorem dX10_stepsToMark_1 : decode cX10_stepsToMark 1 = .ok (.istore 5, 2) := by decide +kernel
theorem dX10_stepsToMark_3 : decode cX10_stepsToMark 3 = .ok (.iload 5, 2) := by decide +kernel
theorem dX10_stepsToMark_5 : decode cX10_stepsToMark 5 = .ok (.aload_n 0, 1) := by decide +kernel
theorem dX10_stepsToMark_6 : decode cX10_stepsToMark 6 = .ok (.getfield 39, 3) := by decide +kernel
theorem dX10_stepsToMark_9 : decode cX10_stepsToMark 9 = .ok (.if_icmp .ge 27, 3) := by decide +kernel
theorem dX10_stepsToMark_12 : decode cX10_stepsToMark 12 = .ok (.aload_n 0, 1) := by decide +kernel
theorem dX10_stepsToMark_13 : decode cX10_stepsToMark 13 = .ok (.getfield 35, 3) := by decide +kernel
theorem dX10_stepsToMark_16 : decode cX10_stepsToMark 16 = .ok (.iload 5, 2) := by decide +kernel
theorem dX10_stepsToMark_18 : decode cX10_stepsToMark 18 = .ok (.aaload, 1) := by decide +kernel
theorem dX10_stepsToMark_19 : decode cX10_stepsToMark 19 = .ok (.lload_n 1, 1) := by decide +kernel
theorem dX10_stepsToMark_20 : decode cX10_stepsToMark 20 = .ok (.lload_n 3, 1) := by decide +kernel
theorem dX10_stepsToMark_21 : decode cX10_stepsToMark 21 = .ok (.invokevirtual 85, 3) := by decide +kernel
theorem dX10_stepsToMark_24 : decode cX10_stepsToMark 24 = .ok (.ifCond .eq 6, 3) := by decide +kernel
theorem dX10_stepsToMark_27 : decode cX10_stepsToMark 27 = .ok (.iload 5, 2) := by decide +kernel
theorem dX10_stepsToMark_29 : decode cX10_stepsToMark 29 = .ok (.ireturn, 1) := by decide +kernel
theorem dX10_stepsToMark_30 : decode cX10_stepsToMark 30 = .ok (.iinc 5 1, 3) := by decide +kernel
theorem dX10_stepsToMark_33 : decode cX10_stepsToMark 33 = .ok (.goto (-30), 3) := by decide +kernel
theorem dX10_stepsToMark_36 : decode cX10_stepsToMark 36 = .ok (.aload_n 0, 1) := by decide +kernel
theorem dX10_stepsToMark_37 : decode cX10_stepsToMark 37 = .ok (.getfield 39, 3) := by decide +kernel
theorem dX10_stepsToMark_40 : decode cX10_stepsToMark 40 = .ok (.ireturn, 1) := by decide +kernel
theorem dX10_isThereBehind_0 : decode cX10_isThereBehind 0 = .ok (.aload_n 1, 1) := by decide +kernel
theorem dX10_isThereBehind_1 : decode cX10_isThereBehind 1 = .ok (.getfield 75, 3) := by decide +kernel
theorem dX10_isThereBehind_4 : decode cX10_isThereBehind 4 = .ok (.iload_n 2, 1) := by decide +kernel
theorem dX10_isThereBehind_5 : decode cX10_isThereBehind 5 = .ok (.if_icmp .lt 5, 3) := by decide +kernel
theorem dX10_isThereBehind_8 : decode cX10_isThereBehind 8 = .ok (.iconst 0, 1) := by decide +kernel
theorem dX10_isThereBehind_9 : decode cX10_isThereBehind 9 = .ok (.ireturn, 1) := by decide +kernel
theorem dX10_isThereBehind_10 : decode cX10_isThereBehind 10 = .ok (.aload_n 1, 1) := by decide +kernel
theorem dX10_isThereBehind_11 : decode cX10_isThereBehind 11 = .ok (.getfield 89, 3) := by decide +kernel
theorem dX10_isThereBehind_14 : decode cX10_isThereBehind 14 = .ok (.iload_n 2, 1) := by decide +kernel
theorem dX10_isThereBehind_15 : decode cX10_isThereBehind 15 = .ok (.if_icmp .ge 14, 3) := by decide +kernel
theorem dX10_isThereBehind_18 : decode cX10_isThereBehind 18 = .ok (.iload_n 3, 1) := by decide +kernel
theorem dX10_isThereBehind_19 : decode cX10_isThereBehind 19 = .ok (.ifCond .eq 14, 3) := by decide +kernel
theorem dX10_isThereBehind_22 : decode cX10_isThereBehind 22 = .ok (.aload_n 1, 1) := by decide +kernel
theorem dX10_isThereBehind_23 : decode cX10_isThereBehind 23 = .ok (.getfield 92, 3) := by decide +kernel
theorem dX10_isThereBehind_26 : decode cX10_isThereBehind 26 = .ok (.ifnonnull 7, 3) := by decide +kernel
theorem dX10_isThereBehind_29 : decode cX10_isThereBehind 29 = .ok (.iconst 1, 1) := by decide +kernel
theorem dX10_isThereBehind_30 : decode cX10_isThereBehind 30 = .ok (.goto 4, 3) := by decide +kernel
theorem dX10_isThereBehind_33 : decode cX10_isThereBehind 33 = .ok (.iconst 0, 1) := by decide +kernel
theorem dX10_isThereBehind_34 : decode cX10_isThereBehind 34 = .ok (.ireturn, 1) := by decide +kernel
theorem dX10_ithBehind_0 : decode cX10_ithBehind 0 = .ok (.iconst 0, 1) := by decide +kernel
theorem dX10_ithBehind_1 : decode cX10_ithBehind 1 = .ok (.istore 4, 2) := by decide +kernel
theorem dX10_ithBehind_3 : decode cX10_ithBehind 3 = .ok (.iconst 0, 1) := by decide +kernel
theorem dX10_ithBehind_4 : decode cX10_ithBehind 4 = .ok (.istore 5, 2) := by decide +kernel
theorem dX10_ithBehind_6 : decode cX10_ithBehind 6 = .ok (.iload 5, 2) := by decide +kernel
theorem dX10_ithBehind_8 : decode cX10_ithBehind 8 = .ok (.aload_n 0, 1) := by decide +kernel
theorem dX10_ithBehind_9 : decode cX10_ithBehind 9 = .ok (.getfield 30, 3) := by decide +kernel
theorem dX10_ithBehind_12 : decode cX10_ithBehind 12 = .ok (.if_icmp .ge 37, 3) := by decide +kernel
theorem dX10_ithBehind_15 : decode cX10_ithBehind 15 = .ok (.aload_n 0, 1) := by decide +kernel
theorem dX10_ithBehind_16 : decode cX10_ithBehind 16 = .ok (.aload_n 0, 1) := by decide +kernel
theorem dX10_ithBehind_17 : decode cX10_ithBehind 17 = .ok (.getfield 26, 3) := by decide +kernel
theorem dX10_ithBehind_20 : decode cX10_ithBehind 20 = .ok (.iload 5, 2) := by decide +kernel
theorem dX10_ithBehind_22 : decode cX10_ithBehind 22 = .ok (.aaload, 1) := by decide +kernel
theorem dX10_ithBehind_23 : decode cX10_ithBehind 23 = .ok (.iload_n 1, 1) := by decide +kernel
theorem dX10_ithBehind_24 : decode cX10_ithBehind 24 = .ok (.iload_n 2, 1) := by decide +kernel
theorem dX10_ithBehind_25 : decode cX10_ithBehind 25 = .ok (.invokevirtual 96, 3) := by decide +kernel
theorem dX10_ithBehind_28 : decode cX10_ithBehind 28 = .ok (.ifCond .eq 15, 3) := by decide +kernel
theorem dX10_ithBehind_31 : decode cX10_ithBehind 31 = .ok (.iload 4, 2) := by decide +kernel
theorem dX10_ithBehind_33 : decode cX10_ithBehind 33 = .ok (.iload_n 3, 1) := by decide +kernel
theorem dX10_ithBehind_34 : decode cX10_ithBehind 34 = .ok (.if_icmp .ne 6, 3) := by decide +kernel
theorem dX10_ithBehind_37 : decode cX10_ithBehind 37 = .ok (.iload 5, 2) := by decide +kernel
theorem dX10_ithBehind_39 : decode cX10_ithBehind 39 = .ok (.ireturn, 1) := by decide +kernel
theorem dX10_ithBehind_40 : decode cX10_ithBehind 40 = .ok (.iinc 4 1, 3) := by decide +kernel
theorem dX10_ithBehind_43 : decode cX10_ithBehind 43 = .ok (.iinc 5 1, 3) := by decide +kernel
theorem dX10_ithBehind_46 : decode cX10_ithBehind 46 = .ok (.goto (-40), 3) := by decide +kernel
theorem dX10_ithBehind_49 : decode cX10_ithBehind 49 = .ok (.iload_n 3, 1) := by decide +kernel
theorem dX10_ithBehind_50 : decode cX10_ithBehind 50 = .ok (.iconst (-1), 1) := by decide +kernel
theorem dX10_ithBehind_51 : decode cX10_ithBehind 51 = .ok (.if_icmp .ne 8, 3) := by decide +kernel
theorem dX10_ithBehind_54 : decode cX10_ithBehind 54 = .ok (.iload 4, 2) := by decide +kernel
theorem dX10_ithBehind_56 : decode cX10_ithBehind 56 = .ok (.goto 4, 3) := by decide +kernel
theorem dX10_ithBehind_59 : decode cX10_ithBehind 59 = .ok (.iconst (-1), 1) := by decide +kernel
theorem dX10_ithBehind_60 : decode cX10_ithBehind 60 = .ok (.ireturn, 1) := by decide +kernel
theorem dX10_setsOfCut_0 : decode cX10_setsOfCut 0 = .ok (.iconst 0, 1) := by decide +kernel
theorem dX10_setsOfCut_1 : decode cX10_setsOfCut 1 = .ok (.aload_n 0, 1) := by decide +kernel
theorem dX10_setsOfCut_2 : decode cX10_setsOfCut 2 = .ok (.iload_n 1, 1) := by decide +kernel
theorem dX10_setsOfCut_3 : decode cX10_setsOfCut 3 = .ok (.iconst 1, 1) := by decide +kernel
theorem dX10_setsOfCut_4 : decode cX10_setsOfCut 4 = .ok (.iconst (-1), 1) := by decide +kernel
theorem dX10_setsOfCut_5 : decode cX10_setsOfCut 5 = .ok (.invokevirtual 100, 3) := by decide +kernel
theorem dX10_setsOfCut_8 : decode cX10_setsOfCut 8 = .ok (.invokestatic 104, 3) := by decide +kernel
theorem dX10_setsOfCut_11 : decode cX10_setsOfCut 11 = .ok (.istore_n 2, 1) := by decide +kernel
theorem dX10_setsOfCut_12 : decode cX10_setsOfCut 12 = .ok (.iload_n 2, 1) := by decide +kernel
theorem dX10_setsOfCut_13 : decode cX10_setsOfCut 13 = .ok (.newarray .long, 2) := by decide +kernel
theorem dX10_setsOfCut_15 : decode cX10_setsOfCut 15 = .ok (.astore_n 3, 1) := by decide +kernel
theorem dX10_setsOfCut_16 : decode cX10_setsOfCut 16 = .ok (.iconst 0, 1) := by decide +kernel
theorem dX10_setsOfCut_17 : decode cX10_setsOfCut 17 = .ok (.istore 4, 2) := by decide +kernel
theorem dX10_setsOfCut_19 : decode cX10_setsOfCut 19 = .ok (.iconst 0, 1) := by decide +kernel
theorem dX10_setsOfCut_20 : decode cX10_setsOfCut 20 = .ok (.istore 5, 2) := by decide +kernel
theorem dX10_setsOfCut_22 : decode cX10_setsOfCut 22 = .ok (.iload 5, 2) := by decide +kernel
theorem dX10_setsOfCut_24 : decode cX10_setsOfCut 24 = .ok (.aload_n 0, 1) := by decide +kernel
theorem dX10_setsOfCut_25 : decode cX10_setsOfCut 25 = .ok (.getfield 30, 3) := by decide +kernel
theorem dX10_setsOfCut_28 : decode cX10_setsOfCut 28 = .ok (.if_icmp .ge 48, 3) := by decide +kernel
theorem dX10_setsOfCut_31 : decode cX10_setsOfCut 31 = .ok (.iload 4, 2) := by decide +kernel
theorem dX10_setsOfCut_33 : decode cX10_setsOfCut 33 = .ok (.iload_n 2, 1) := by decide +kernel
theorem dX10_setsOfCut_34 : decode cX10_setsOfCut 34 = .ok (.if_icmp .ge 42, 3) := by decide +kernel
theorem dX10_setsOfCut_37 : decode cX10_setsOfCut 37 = .ok (.aload_n 0, 1) := by decide +kernel
theorem dX10_setsOfCut_38 : decode cX10_setsOfCut 38 = .ok (.aload_n 0, 1) := by decide +kernel
theorem dX10_setsOfCut_39 : decode cX10_setsOfCut 39 = .ok (.getfield 26, 3) := by decide +kernel
theorem dX10_setsOfCut_42 : decode cX10_setsOfCut 42 = .ok (.iload 5, 2) := by decide +kernel
theorem dX10_setsOfCut_44 : decode cX10_setsOfCut 44 = .ok (.aaload, 1) := by decide +kernel
theorem dX10_setsOfCut_45 : decode cX10_setsOfCut 45 = .ok (.iload_n 1, 1) := by decide +kernel
theorem dX10_setsOfCut_46 : decode cX10_setsOfCut 46 = .ok (.iconst 1, 1) := by decide +kernel
theorem dX10_setsOfCut_47 : decode cX10_setsOfCut 47 = .ok (.invokevirtual 96, 3) := by decide +kernel
theorem dX10_setsOfCut_50 : decode cX10_setsOfCut 50 = .ok (.ifCond .eq 20, 3) := by decide +kernel
theorem dX10_setsOfCut_53 : decode cX10_setsOfCut 53 = .ok (.aload_n 3, 1) := by decide +kernel
theorem dX10_setsOfCut_54 : decode cX10_setsOfCut 54 = .ok (.iload 4, 2) := by decide +kernel
theorem dX10_setsOfCut_56 : decode cX10_setsOfCut 56 = .ok (.aload_n 0, 1) := by decide +kernel
theorem dX10_setsOfCut_57 : decode cX10_setsOfCut 57 = .ok (.getfield 26, 3) := by decide +kernel
theorem dX10_setsOfCut_60 : decode cX10_setsOfCut 60 = .ok (.iload 5, 2) := by decide +kernel
theorem dX10_setsOfCut_62 : decode cX10_setsOfCut 62 = .ok (.aaload, 1) := by decide +kernel
theorem dX10_setsOfCut_63 : decode cX10_setsOfCut 63 = .ok (.getfield 69, 3) := by decide +kernel
theorem dX10_setsOfCut_66 : decode cX10_setsOfCut 66 = .ok (.lastore, 1) := by decide +kernel
theorem dX10_setsOfCut_67 : decode cX10_setsOfCut 67 = .ok (.iinc 4 1, 3) := by decide +kernel
theorem dX10_setsOfCut_70 : decode cX10_setsOfCut 70 = .ok (.iinc 5 1, 3) := by decide +kernel
theorem dX10_setsOfCut_73 : decode cX10_setsOfCut 73 = .ok (.goto (-51), 3) := by decide +kernel
theorem dX10_setsOfCut_76 : decode cX10_setsOfCut 76 = .ok (.aload_n 3, 1) := by decide +kernel
theorem dX10_setsOfCut_77 : decode cX10_setsOfCut 77 = .ok (.areturn, 1) := by decide +kernel
theorem dX10_jetsUnlike_0 : decode cX10_jetsUnlike 0 = .ok (.iconst 0, 1) := by decide +kernel
theorem dX10_jetsUnlike_1 : decode cX10_jetsUnlike 1 = .ok (.istore_n 2, 1) := by decide +kernel
theorem dX10_jetsUnlike_2 : decode cX10_jetsUnlike 2 = .ok (.iconst 0, 1) := by decide +kernel
theorem dX10_jetsUnlike_3 : decode cX10_jetsUnlike 3 = .ok (.istore_n 3, 1) := by decide +kernel
theorem dX10_jetsUnlike_4 : decode cX10_jetsUnlike 4 = .ok (.iload_n 3, 1) := by decide +kernel
theorem dX10_jetsUnlike_5 : decode cX10_jetsUnlike 5 = .ok (.aload_n 0, 1) := by decide +kernel
theorem dX10_jetsUnlike_6 : decode cX10_jetsUnlike 6 = .ok (.getfield 45, 3) := by decide +kernel
theorem dX10_jetsUnlike_9 : decode cX10_jetsUnlike 9 = .ok (.if_icmp .ge 50, 3) := by decide +kernel
theorem dX10_jetsUnlike_12 : decode cX10_jetsUnlike 12 = .ok (.aload_n 1, 1) := by decide +kernel
theorem dX10_jetsUnlike_13 : decode cX10_jetsUnlike 13 = .ok (.aload_n 0, 1) := by decide +kernel
theorem dX10_jetsUnlike_14 : decode cX10_jetsUnlike 14 = .ok (.getfield 42, 3) := by decide +kernel
theorem dX10_jetsUnlike_17 : decode cX10_jetsUnlike 17 = .ok (.iload_n 3, 1) := by decide +kernel
theorem dX10_jetsUnlike_18 : decode cX10_jetsUnlike 18 = .ok (.aaload, 1) := by decide +kernel
theorem dX10_jetsUnlike_19 : decode cX10_jetsUnlike 19 = .ok (.getfield 69, 3) := by decide +kernel
theorem dX10_jetsUnlike_22 : decode cX10_jetsUnlike 22 = .ok (.invokevirtual 110, 3) := by decide +kernel
theorem dX10_jetsUnlike_25 : decode cX10_jetsUnlike 25 = .ok (.astore 4, 2) := by decide +kernel
theorem dX10_jetsUnlike_27 : decode cX10_jetsUnlike 27 = .ok (.aload 4, 2) := by decide +kernel
theorem dX10_jetsUnlike_29 : decode cX10_jetsUnlike 29 = .ok (.ifnull 21, 3) := by decide +kernel
theorem dX10_jetsUnlike_32 : decode cX10_jetsUnlike 32 = .ok (.aload 4, 2) := by decide +kernel
theorem dX10_jetsUnlike_34 : decode cX10_jetsUnlike 34 = .ok (.getfield 69, 3) := by decide +kernel
theorem dX10_jetsUnlike_37 : decode cX10_jetsUnlike 37 = .ok (.aload_n 0, 1) := by decide +kernel
theorem dX10_jetsUnlike_38 : decode cX10_jetsUnlike 38 = .ok (.getfield 42, 3) := by decide +kernel
theorem dX10_jetsUnlike_41 : decode cX10_jetsUnlike 41 = .ok (.iload_n 3, 1) := by decide +kernel
theorem dX10_jetsUnlike_42 : decode cX10_jetsUnlike 42 = .ok (.aaload, 1) := by decide +kernel
theorem dX10_jetsUnlike_43 : decode cX10_jetsUnlike 43 = .ok (.getfield 69, 3) := by decide +kernel
theorem dX10_jetsUnlike_46 : decode cX10_jetsUnlike 46 = .ok (.lcmp, 1) := by decide +kernel
theorem dX10_jetsUnlike_47 : decode cX10_jetsUnlike 47 = .ok (.ifCond .eq 6, 3) := by decide +kernel
theorem dX10_jetsUnlike_50 : decode cX10_jetsUnlike 50 = .ok (.iinc 2 1, 3) := by decide +kernel
theorem dX10_jetsUnlike_53 : decode cX10_jetsUnlike 53 = .ok (.iinc 3 1, 3) := by decide +kernel
theorem dX10_jetsUnlike_56 : decode cX10_jetsUnlike 56 = .ok (.goto (-52), 3) := by decide +kernel
theorem dX10_jetsUnlike_59 : decode cX10_jetsUnlike 59 = .ok (.iload_n 2, 1) := by decide +kernel
theorem dX10_jetsUnlike_60 : decode cX10_jetsUnlike 60 = .ok (.ireturn, 1) := by decide +kernel
theorem dX10_joinedInCommon_0 : decode cX10_joinedInCommon 0 = .ok (.iconst 0, 1) := by decide +kernel
theorem dX10_joinedInCommon_1 : decode cX10_joinedInCommon 1 = .ok (.istore_n 2, 1) := by decide +kernel
theorem dX10_joinedInCommon_2 : decode cX10_joinedInCommon 2 = .ok (.aload_n 0, 1) := by decide +kernel
theorem dX10_joinedInCommon_3 : decode cX10_joinedInCommon 3 = .ok (.getfield 21, 3) := by decide +kernel
theorem dX10_joinedInCommon_6 : decode cX10_joinedInCommon 6 = .ok (.istore_n 3, 1) := by decide +kernel
theorem dX10_joinedInCommon_7 : decode cX10_joinedInCommon 7 = .ok (.iload_n 3, 1) := by decide +kernel
theorem dX10_joinedInCommon_8 : decode cX10_joinedInCommon 8 = .ok (.aload_n 0, 1) := by decide +kernel
theorem dX10_joinedInCommon_9 : decode cX10_joinedInCommon 9 = .ok (.getfield 30, 3) := by decide +kernel
theorem dX10_joinedInCommon_12 : decode cX10_joinedInCommon 12 = .ok (.if_icmp .ge 56, 3) := by decide +kernel
theorem dX10_joinedInCommon_15 : decode cX10_joinedInCommon 15 = .ok (.aload_n 1, 1) := by decide +kernel
theorem dX10_joinedInCommon_16 : decode cX10_joinedInCommon 16 = .ok (.getfield 21, 3) := by decide +kernel
theorem dX10_joinedInCommon_19 : decode cX10_joinedInCommon 19 = .ok (.istore 4, 2) := by decide +kernel
theorem dX10_joinedInCommon_21 : decode cX10_joinedInCommon 21 = .ok (.iload 4, 2) := by decide +kernel
theorem dX10_joinedInCommon_23 : decode cX10_joinedInCommon 23 = .ok (.aload_n 1, 1) := by decide +kernel
theorem dX10_joinedInCommon_24 : decode cX10_joinedInCommon 24 = .ok (.getfield 30, 3) := by decide +kernel
theorem dX10_joinedInCommon_27 : decode cX10_joinedInCommon 27 = .ok (.if_icmp .ge 35, 3) := by decide +kernel
theorem dX10_joinedInCommon_30 : decode cX10_joinedInCommon 30 = .ok (.aload_n 0, 1) := by decide +kernel
theorem dX10_joinedInCommon_31 : decode cX10_joinedInCommon 31 = .ok (.getfield 26, 3) := by decide +kernel
theorem dX10_joinedInCommon_34 : decode cX10_joinedInCommon 34 = .ok (.iload_n 3, 1) := by decide +kernel
theorem dX10_joinedInCommon_35 : decode cX10_joinedInCommon 35 = .ok (.aaload, 1) := by decide +kernel
theorem dX10_joinedInCommon_36 : decode cX10_joinedInCommon 36 = .ok (.getfield 69, 3) := by decide +kernel
theorem dX10_joinedInCommon_39 : decode cX10_joinedInCommon 39 = .ok (.aload_n 1, 1) := by decide +kernel
theorem dX10_joinedInCommon_40 : decode cX10_joinedInCommon 40 = .ok (.getfield 26, 3) := by decide +kernel
theorem dX10_joinedInCommon_43 : decode cX10_joinedInCommon 43 = .ok (.iload 4, 2) := by decide +kernel
theorem dX10_joinedInCommon_45 : decode cX10_joinedInCommon 45 = .ok (.aaload, 1) := by decide +kernel
theorem dX10_joinedInCommon_46 : decode cX10_joinedInCommon 46 = .ok (.getfield 69, 3) := by decide +kernel
theorem dX10_joinedInCommon_49 : decode cX10_joinedInCommon 49 = .ok (.lcmp, 1) := by decide +kernel
theorem dX10_joinedInCommon_50 : decode cX10_joinedInCommon 50 = .ok (.ifCond .ne 6, 3) := by decide +kernel
theorem dX10_joinedInCommon_53 : decode cX10_joinedInCommon 53 = .ok (.iinc 2 1, 3) := by decide +kernel
theorem dX10_joinedInCommon_56 : decode cX10_joinedInCommon 56 = .ok (.iinc 4 1, 3) := by decide +kernel
theorem dX10_joinedInCommon_59 : decode cX10_joinedInCommon 59 = .ok (.goto (-38), 3) := by decide +kernel
theorem dX10_joinedInCommon_62 : decode cX10_joinedInCommon 62 = .ok (.iinc 3 1, 3) := by decide +kernel
theorem dX10_joinedInCommon_65 : decode cX10_joinedInCommon 65 = .ok (.goto (-58), 3) := by decide +kernel
theorem dX10_joinedInCommon_68 : decode cX10_joinedInCommon 68 = .ok (.iload_n 2, 1) := by decide +kernel
theorem dX10_joinedInCommon_69 : decode cX10_joinedInCommon 69 = .ok (.ireturn, 1) := by decide +kernel
theorem dX10_hasStepsOf_0 : decode cX10_hasStepsOf 0 = .ok (.aload_n 0, 1) := by decide +kernel
theorem dX10_hasStepsOf_1 : decode cX10_hasStepsOf 1 = .ok (.getfield 39, 3) := by decide +kernel
theorem dX10_hasStepsOf_4 : decode cX10_hasStepsOf 4 = .ok (.aload_n 1, 1) := by decide +kernel
theorem dX10_hasStepsOf_5 : decode cX10_hasStepsOf 5 = .ok (.getfield 39, 3) := by decide +kernel
theorem dX10_hasStepsOf_8 : decode cX10_hasStepsOf 8 = .ok (.if_icmp .eq 5, 3) := by decide +kernel
theorem dX10_hasStepsOf_11 : decode cX10_hasStepsOf 11 = .ok (.iconst 0, 1) := by decide +kernel
theorem dX10_hasStepsOf_12 : decode cX10_hasStepsOf 12 = .ok (.ireturn, 1) := by decide +kernel
theorem dX10_hasStepsOf_13 : decode cX10_hasStepsOf 13 = .ok (.iconst 0, 1) := by decide +kernel
theorem dX10_hasStepsOf_14 : decode cX10_hasStepsOf 14 = .ok (.istore_n 2, 1) := by decide +kernel
theorem dX10_hasStepsOf_15 : decode cX10_hasStepsOf 15 = .ok (.iload_n 2, 1) := by decide +kernel
theorem dX10_hasStepsOf_16 : decode cX10_hasStepsOf 16 = .ok (.aload_n 0, 1) := by decide +kernel
theorem dX10_hasStepsOf_17 : decode cX10_hasStepsOf 17 = .ok (.getfield 39, 3) := by decide +kernel
theorem dX10_hasStepsOf_20 : decode cX10_hasStepsOf 20 = .ok (.if_icmp .ge 29, 3) := by decide +kernel
theorem dX10_hasStepsOf_23 : decode cX10_hasStepsOf 23 = .ok (.aload_n 0, 1) := by decide +kernel
theorem dX10_hasStepsOf_24 : decode cX10_hasStepsOf 24 = .ok (.getfield 35, 3) := by decide +kernel
theorem dX10_hasStepsOf_27 : decode cX10_hasStepsOf 27 = .ok (.iload_n 2, 1) := by decide +kernel
theorem dX10_hasStepsOf_28 : decode cX10_hasStepsOf 28 = .ok (.aaload, 1) := by decide +kernel
theorem dX10_hasStepsOf_29 : decode cX10_hasStepsOf 29 = .ok (.aload_n 1, 1) := by decide +kernel
theorem dX10_hasStepsOf_30 : decode cX10_hasStepsOf 30 = .ok (.getfield 35, 3) := by decide +kernel
theorem dX10_hasStepsOf_33 : decode cX10_hasStepsOf 33 = .ok (.iload_n 2, 1) := by decide +kernel
theorem dX10_hasStepsOf_34 : decode cX10_hasStepsOf 34 = .ok (.aaload, 1) := by decide +kernel
theorem dX10_hasStepsOf_35 : decode cX10_hasStepsOf 35 = .ok (.invokevirtual 114, 3) := by decide +kernel
theorem dX10_hasStepsOf_38 : decode cX10_hasStepsOf 38 = .ok (.ifCond .ne 5, 3) := by decide +kernel
theorem dX10_hasStepsOf_41 : decode cX10_hasStepsOf 41 = .ok (.iconst 0, 1) := by decide +kernel
theorem dX10_hasStepsOf_42 : decode cX10_hasStepsOf 42 = .ok (.ireturn, 1) := by decide +kernel
theorem dX10_hasStepsOf_43 : decode cX10_hasStepsOf 43 = .ok (.iinc 2 1, 3) := by decide +kernel
theorem dX10_hasStepsOf_46 : decode cX10_hasStepsOf 46 = .ok (.goto (-31), 3) := by decide +kernel
theorem dX10_hasStepsOf_49 : decode cX10_hasStepsOf 49 = .ok (.iconst 1, 1) := by decide +kernel
theorem dX10_hasStepsOf_50 : decode cX10_hasStepsOf 50 = .ok (.ireturn, 1) := by decide +kernel
theorem dX10_pairNearestTo_0 : decode cX10_pairNearestTo 0 = .ok (.iconst (-1), 1) := by decide +kernel
theorem dX10_pairNearestTo_1 : decode cX10_pairNearestTo 1 = .ok (.istore_n 3, 1) := by decide +kernel
theorem dX10_pairNearestTo_2 : decode cX10_pairNearestTo 2 = .ok (.lconst 0, 1) := by decide +kernel
theorem dX10_pairNearestTo_3 : decode cX10_pairNearestTo 3 = .ok (.lstore 4, 2) := by decide +kernel
theorem dX10_pairNearestTo_5 : decode cX10_pairNearestTo 5 = .ok (.iconst 0, 1) := by decide +kernel
theorem dX10_pairNearestTo_6 : decode cX10_pairNearestTo 6 = .ok (.istore 6, 2) := by decide +kernel
theorem dX10_pairNearestTo_8 : decode cX10_pairNearestTo 8 = .ok (.iload 6, 2) := by decide +kernel
theorem dX10_pairNearestTo_10 : decode cX10_pairNearestTo 10 = .ok (.aload_n 0, 1) := by decide +kernel
theorem dX10_pairNearestTo_11 : decode cX10_pairNearestTo 11 = .ok (.getfield 45, 3) := by decide +kernel
theorem dX10_pairNearestTo_14 : decode cX10_pairNearestTo 14 = .ok (.if_icmp .ge 86, 3) := by decide +kernel
theorem dX10_pairNearestTo_17 : decode cX10_pairNearestTo 17 = .ok (.iload 6, 2) := by decide +kernel
theorem dX10_pairNearestTo_19 : decode cX10_pairNearestTo 19 = .ok (.iconst 1, 1) := by decide +kernel
theorem dX10_pairNearestTo_20 : decode cX10_pairNearestTo 20 = .ok (.iadd, 1) := by decide +kernel
theorem dX10_pairNearestTo_21 : decode cX10_pairNearestTo 21 = .ok (.istore 7, 2) := by decide +kernel
theorem dX10_pairNearestTo_23 : decode cX10_pairNearestTo 23 = .ok (.iload 7, 2) := by decide +kernel
theorem dX10_pairNearestTo_25 : decode cX10_pairNearestTo 25 = .ok (.aload_n 0, 1) := by decide +kernel
theorem dX10_pairNearestTo_26 : decode cX10_pairNearestTo 26 = .ok (.getfield 45, 3) := by decide +kernel
theorem dX10_pairNearestTo_29 : decode cX10_pairNearestTo 29 = .ok (.if_icmp .ge 65, 3) := by decide +kernel
theorem dX10_pairNearestTo_32 : decode cX10_pairNearestTo 32 = .ok (.aload_n 0, 1) := by decide +kernel
theorem dX10_pairNearestTo_33 : decode cX10_pairNearestTo 33 = .ok (.getfield 42, 3) := by decide +kernel
theorem dX10_pairNearestTo_36 : decode cX10_pairNearestTo 36 = .ok (.iload 6, 2) := by decide +kernel
theorem dX10_pairNearestTo_38 : decode cX10_pairNearestTo 38 = .ok (.aaload, 1) := by decide +kernel
theorem dX10_pairNearestTo_39 : decode cX10_pairNearestTo 39 = .ok (.getfield 52, 3) := by decide +kernel
theorem dX10_pairNearestTo_42 : decode cX10_pairNearestTo 42 = .ok (.aload_n 0, 1) := by decide +kernel
theorem dX10_pairNearestTo_43 : decode cX10_pairNearestTo 43 = .ok (.getfield 42, 3) := by decide +kernel
theorem dX10_pairNearestTo_46 : decode cX10_pairNearestTo 46 = .ok (.iload 7, 2) := by decide +kernel
theorem dX10_pairNearestTo_48 : decode cX10_pairNearestTo 48 = .ok (.aaload, 1) := by decide +kernel
theorem dX10_pairNearestTo_49 : decode cX10_pairNearestTo 49 = .ok (.getfield 52, 3) := by decide +kernel
theorem dX10_pairNearestTo_52 : decode cX10_pairNearestTo 52 = .ok (.invokevirtual 118, 3) := by decide +kernel
theorem dX10_pairNearestTo_55 : decode cX10_pairNearestTo 55 = .ok (.lload_n 1, 1) := by decide +kernel
theorem dX10_pairNearestTo_56 : decode cX10_pairNearestTo 56 = .ok (.lsub, 1) := by decide +kernel
theorem dX10_pairNearestTo_57 : decode cX10_pairNearestTo 57 = .ok (.invokestatic 122, 3) := by decide +kernel
theorem dX10_pairNearestTo_60 : decode cX10_pairNearestTo 60 = .ok (.lstore 8, 2) := by decide +kernel
theorem dX10_pairNearestTo_62 : decode cX10_pairNearestTo 62 = .ok (.iload_n 3, 1) := by decide +kernel
theorem dX10_pairNearestTo_63 : decode cX10_pairNearestTo 63 = .ok (.iconst (-1), 1) := by decide +kernel
theorem dX10_pairNearestTo_64 : decode cX10_pairNearestTo 64 = .ok (.if_icmp .eq 11, 3) := by decide +kernel
theorem dX10_pairNearestTo_67 : decode cX10_pairNearestTo 67 = .ok (.lload 8, 2) := by decide +kernel
theorem dX10_pairNearestTo_69 : decode cX10_pairNearestTo 69 = .ok (.lload 4, 2) := by decide +kernel
theorem dX10_pairNearestTo_71 : decode cX10_pairNearestTo 71 = .ok (.lcmp, 1) := by decide +kernel
theorem dX10_pairNearestTo_72 : decode cX10_pairNearestTo 72 = .ok (.ifCond .ge 16, 3) := by decide +kernel
theorem dX10_pairNearestTo_75 : decode cX10_pairNearestTo 75 = .ok (.lload 8, 2) := by decide +kernel
theorem dX10_pairNearestTo_77 : decode cX10_pairNearestTo 77 = .ok (.lstore 4, 2) := by decide +kernel
theorem dX10_pairNearestTo_79 : decode cX10_pairNearestTo 79 = .ok (.bipush 40, 2) := by decide +kernel
theorem dX10_pairNearestTo_81 : decode cX10_pairNearestTo 81 = .ok (.iload 6, 2) := by decide +kernel
theorem dX10_pairNearestTo_83 : decode cX10_pairNearestTo 83 = .ok (.imul, 1) := by decide +kernel
theorem dX10_pairNearestTo_84 : decode cX10_pairNearestTo 84 = .ok (.iload 7, 2) := by decide +kernel
theorem dX10_pairNearestTo_86 : decode cX10_pairNearestTo 86 = .ok (.iadd, 1) := by decide +kernel
theorem dX10_pairNearestTo_87 : decode cX10_pairNearestTo 87 = .ok (.istore_n 3, 1) := by decide +kernel
theorem dX10_pairNearestTo_88 : decode cX10_pairNearestTo 88 = .ok (.iinc 7 1, 3) := by decide +kernel
theorem dX10_pairNearestTo_91 : decode cX10_pairNearestTo 91 = .ok (.goto (-68), 3) := by decide +kernel
theorem dX10_pairNearestTo_94 : decode cX10_pairNearestTo 94 = .ok (.iinc 6 1, 3) := by decide +kernel
theorem dX10_pairNearestTo_97 : decode cX10_pairNearestTo 97 = .ok (.goto (-89), 3) := by decide +kernel
theorem dX10_pairNearestTo_100 : decode cX10_pairNearestTo 100 = .ok (.iload_n 3, 1) := by decide +kernel
theorem dX10_pairNearestTo_101 : decode cX10_pairNearestTo 101 = .ok (.ireturn, 1) := by decide +kernel
theorem dX10_tilesOf_0 : decode cX10_tilesOf 0 = .ok (.new 126, 3) := by decide +kernel
theorem dX10_tilesOf_3 : decode cX10_tilesOf 3 = .ok (.dup, 1) := by decide +kernel
theorem dX10_tilesOf_4 : decode cX10_tilesOf 4 = .ok (.iload_n 2, 1) := by decide +kernel
theorem dX10_tilesOf_5 : decode cX10_tilesOf 5 = .ok (.invokespecial 128, 3) := by decide +kernel
theorem dX10_tilesOf_8 : decode cX10_tilesOf 8 = .ok (.astore_n 3, 1) := by decide +kernel
theorem dX10_tilesOf_9 : decode cX10_tilesOf 9 = .ok (.iconst 0, 1) := by decide +kernel
theorem dX10_tilesOf_10 : decode cX10_tilesOf 10 = .ok (.istore 4, 2) := by decide +kernel
theorem dX10_tilesOf_12 : decode cX10_tilesOf 12 = .ok (.iload 4, 2) := by decide +kernel
theorem dX10_tilesOf_14 : decode cX10_tilesOf 14 = .ok (.aload_n 0, 1) := by decide +kernel
theorem dX10_tilesOf_15 : decode cX10_tilesOf 15 = .ok (.getfield 21, 3) := by decide +kernel
theorem dX10_tilesOf_18 : decode cX10_tilesOf 18 = .ok (.if_icmp .ge 35, 3) := by decide +kernel
theorem dX10_tilesOf_21 : decode cX10_tilesOf 21 = .ok (.aload_n 1, 1) := by decide +kernel
theorem dX10_tilesOf_22 : decode cX10_tilesOf 22 = .ok (.getfield 69, 3) := by decide +kernel
theorem dX10_tilesOf_25 : decode cX10_tilesOf 25 = .ok (.iload 4, 2) := by decide +kernel
theorem dX10_tilesOf_27 : decode cX10_tilesOf 27 = .ok (.invokestatic 78, 3) := by decide +kernel
theorem dX10_tilesOf_30 : decode cX10_tilesOf 30 = .ok (.ifCond .eq 17, 3) := by decide +kernel
theorem dX10_tilesOf_33 : decode cX10_tilesOf 33 = .ok (.aload_n 3, 1) := by decide +kernel
theorem dX10_tilesOf_34 : decode cX10_tilesOf 34 = .ok (.aload_n 0, 1) := by decide +kernel
theorem dX10_tilesOf_35 : decode cX10_tilesOf 35 = .ok (.getfield 26, 3) := by decide +kernel
theorem dX10_tilesOf_38 : decode cX10_tilesOf 38 = .ok (.iload 4, 2) := by decide +kernel
theorem dX10_tilesOf_40 : decode cX10_tilesOf 40 = .ok (.aaload, 1) := by decide +kernel
theorem dX10_tilesOf_41 : decode cX10_tilesOf 41 = .ok (.getfield 52, 3) := by decide +kernel
theorem dX10_tilesOf_44 : decode cX10_tilesOf 44 = .ok (.invokevirtual 131, 3) := by decide +kernel
theorem dX10_tilesOf_47 : decode cX10_tilesOf 47 = .ok (.iinc 4 1, 3) := by decide +kernel
theorem dX10_tilesOf_50 : decode cX10_tilesOf 50 = .ok (.goto (-38), 3) := by decide +kernel
theorem dX10_tilesOf_53 : decode cX10_tilesOf 53 = .ok (.aload_n 3, 1) := by decide +kernel
theorem dX10_tilesOf_54 : decode cX10_tilesOf 54 = .ok (.getfield 135, 3) := by decide +kernel
theorem dX10_tilesOf_57 : decode cX10_tilesOf 57 = .ok (.ireturn, 1) := by decide +kernel
theorem dX11_init_0 : decode cX11_init 0 = .ok (.aload_n 0, 1) := by decide +kernel
theorem dX11_init_1 : decode cX11_init 1 = .ok (.invokespecial 1, 3) := by decide +kernel
theorem dX11_init_4 : decode cX11_init 4 = .ok (.aload_n 0, 1) := by decide +kernel
theorem dX11_init_5 : decode cX11_init 5 = .ok (.new 7, 3) := by decide +kernel
theorem dX11_init_8 : decode cX11_init 8 = .ok (.dup, 1) := by decide +kernel
theorem dX11_init_9 : decode cX11_init 9 = .ok (.invokespecial 9, 3) := by decide +kernel
theorem dX11_init_12 : decode cX11_init 12 = .ok (.putfield 10, 3) := by decide +kernel
theorem dX11_init_15 : decode cX11_init 15 = .ok (.aload_n 0, 1) := by decide +kernel
theorem dX11_init_16 : decode cX11_init 16 = .ok (.bipush 20, 2) := by decide +kernel
theorem dX11_init_18 : decode cX11_init 18 = .ok (.anewarray 7, 3) := by decide +kernel
theorem dX11_init_21 : decode cX11_init 21 = .ok (.putfield 16, 3) := by decide +kernel
theorem dX11_init_24 : decode cX11_init 24 = .ok (.aload_n 0, 1) := by decide +kernel
theorem dX11_init_25 : decode cX11_init 25 = .ok (.iconst 0, 1) := by decide +kernel
theorem dX11_init_26 : decode cX11_init 26 = .ok (.putfield 20, 3) := by decide +kernel
theorem dX11_init_29 : decode cX11_init 29 = .ok (.aload_n 0, 1) := by decide +kernel
theorem dX11_init_30 : decode cX11_init 30 = .ok (.aload_n 0, 1) := by decide +kernel
theorem dX11_init_31 : decode cX11_init 31 = .ok (.getfield 10, 3) := by decide +kernel
theorem dX11_init_34 : decode cX11_init 34 = .ok (.putfield 24, 3) := by decide +kernel
theorem dX11_init_37 : decode cX11_init 37 = .ok (.aload_n 0, 1) := by decide +kernel
theorem dX11_init_38 : decode cX11_init 38 = .ok (.bipush 20, 2) := by decide +kernel
theorem dX11_init_40 : decode cX11_init 40 = .ok (.anewarray 7, 3) := by decide +kernel
theorem dX11_init_43 : decode cX11_init 43 = .ok (.putfield 27, 3) := by decide +kernel
theorem dX11_init_46 : decode cX11_init 46 = .ok (.aload_n 0, 1) := by decide +kernel
theorem dX11_init_47 : decode cX11_init 47 = .ok (.iconst 0, 1) := by decide +kernel
theorem dX11_init_48 : decode cX11_init 48 = .ok (.putfield 30, 3) := by decide +kernel
theorem dX11_init_51 : decode cX11_init 51 = .ok (.return_, 1) := by decide +kernel
theorem dX11_track_0 : decode cX11_track 0 = .ok (.aload_n 0, 1) := by decide +kernel
theorem dX11_track_1 : decode cX11_track 1 = .ok (.getfield 10, 3) := by decide +kernel
theorem dX11_track_4 : decode cX11_track 4 = .ok (.invokevirtual 33, 3) := by decide +kernel
theorem dX11_track_7 : decode cX11_track 7 = .ok (.astore 4, 2) := by decide +kernel
theorem dX11_track_9 : decode cX11_track 9 = .ok (.aload 4, 2) := by decide +kernel
theorem dX11_track_11 : decode cX11_track 11 = .ok (.invokevirtual 37, 3) := by decide +kernel
theorem dX11_track_14 : decode cX11_track 14 = .ok (.istore 5, 2) := by decide +kernel
theorem dX11_track_16 : decode cX11_track 16 = .ok (.iload_n 1, 1) := by decide +kernel
theorem dX11_track_17 : decode cX11_track 17 = .ok (.iload_n 2, 1) := by decide +kernel
theorem dX11_track_18 : decode cX11_track 18 = .ok (.invokestatic 43, 3) := by decide +kernel
theorem dX11_track_21 : decode cX11_track 21 = .ok (.ifCond .eq 17, 3) := by decide +kernel
theorem dX11_track_24 : decode cX11_track 24 = .ok (.iload_n 3, 1) := by decide +kernel
theorem dX11_track_25 : decode cX11_track 25 = .ok (.invokestatic 47, 3) := by decide +kernel
theorem dX11_track_28 : decode cX11_track 28 = .ok (.ifCond .eq 10, 3) := by decide +kernel
theorem dX11_track_31 : decode cX11_track 31 = .ok (.iload 5, 2) := by decide +kernel
theorem dX11_track_33 : decode cX11_track 33 = .ok (.bipush 40, 2) := by decide +kernel
theorem dX11_track_35 : decode cX11_track 35 = .ok (.if_icmp .lt 5, 3) := by decide +kernel
theorem dX11_track_38 : decode cX11_track 38 = .ok (.iconst (-1), 1) := by decide +kernel
theorem dX11_track_39 : decode cX11_track 39 = .ok (.ireturn, 1) := by decide +kernel
theorem dX11_track_40 : decode cX11_track 40 = .ok (.aload 4, 2) := by decide +kernel
theorem dX11_track_42 : decode cX11_track 42 = .ok (.iload 5, 2) := by decide +kernel
theorem dX11_track_44 : decode cX11_track 44 = .ok (.iconst 1, 1) := by decide +kernel
theorem dX11_track_45 : decode cX11_track 45 = .ok (.iadd, 1) := by decide +kernel
theorem dX11_track_46 : decode cX11_track 46 = .ok (.invokevirtual 51, 3) := by decide +kernel
theorem dX11_track_49 : decode cX11_track 49 = .ok (.astore 6, 2) := by decide +kernel
theorem dX11_track_51 : decode cX11_track 51 = .ok (.aload 6, 2) := by decide +kernel
theorem dX11_track_53 : decode cX11_track 53 = .ok (.iload 5, 2) := by decide +kernel
theorem dX11_track_55 : decode cX11_track 55 = .ok (.new 55, 3) := by decide +kernel
theorem dX11_track_58 : decode cX11_track 58 = .ok (.dup, 1) := by decide +kernel
theorem dX11_track_59 : decode cX11_track 59 = .ok (.iload 5, 2) := by decide +kernel
theorem dX11_track_61 : decode cX11_track 61 = .ok (.iload_n 1, 1) := by decide +kernel
theorem dX11_track_62 : decode cX11_track 62 = .ok (.iload_n 2, 1) := by decide +kernel
theorem dX11_track_63 : decode cX11_track 63 = .ok (.iload_n 3, 1) := by decide +kernel
theorem dX11_track_64 : decode cX11_track 64 = .ok (.invokespecial 57, 3) := by decide +kernel
theorem dX11_track_67 : decode cX11_track 67 = .ok (.aastore, 1) := by decide +kernel
theorem dX11_track_68 : decode cX11_track 68 = .ok (.aload_n 0, 1) := by decide +kernel
theorem dX11_track_69 : decode cX11_track 69 = .ok (.aload_n 0, 1) := by decide +kernel
theorem dX11_track_70 : decode cX11_track 70 = .ok (.getfield 10, 3) := by decide +kernel
theorem dX11_track_73 : decode cX11_track 73 = .ok (.aload 6, 2) := by decide +kernel
theorem dX11_track_75 : decode cX11_track 75 = .ok (.invokevirtual 60, 3) := by decide +kernel
theorem dX11_track_78 : decode cX11_track 78 = .ok (.invokevirtual 64, 3) := by decide +kernel
theorem dX11_track_81 : decode cX11_track 81 = .ok (.iload 5, 2) := by decide +kernel
theorem dX11_track_83 : decode cX11_track 83 = .ok (.ireturn, 1) := by decide +kernel
theorem dX11_move_0 : decode cX11_move 0 = .ok (.aload_n 0, 1) := by decide +kernel
theorem dX11_move_1 : decode cX11_move 1 = .ok (.getfield 10, 3) := by decide +kernel
theorem dX11_move_4 : decode cX11_move 4 = .ok (.invokevirtual 33, 3) := by decide +kernel
theorem dX11_move_7 : decode cX11_move 7 = .ok (.iload_n 1, 1) := by decide +kernel
theorem dX11_move_8 : decode cX11_move 8 = .ok (.invokevirtual 68, 3) := by decide +kernel
theorem dX11_move_11 : decode cX11_move 11 = .ok (.astore 4, 2) := by decide +kernel
theorem dX11_move_13 : decode cX11_move 13 = .ok (.aload 4, 2) := by decide +kernel
theorem dX11_move_15 : decode cX11_move 15 = .ok (.ifnull 11, 3) := by decide +kernel
theorem dX11_move_18 : decode cX11_move 18 = .ok (.iload_n 2, 1) := by decide +kernel
theorem dX11_move_19 : decode cX11_move 19 = .ok (.iload_n 3, 1) := by decide +kernel
theorem dX11_move_20 : decode cX11_move 20 = .ok (.invokestatic 43, 3) := by decide +kernel
theorem dX11_move_23 : decode cX11_move 23 = .ok (.ifCond .ne 5, 3) := by decide +kernel
theorem dX11_move_26 : decode cX11_move 26 = .ok (.iconst 0, 1) := by decide +kernel
theorem dX11_move_27 : decode cX11_move 27 = .ok (.ireturn, 1) := by decide +kernel
theorem dX11_move_28 : decode cX11_move 28 = .ok (.aload_n 0, 1) := by decide +kernel
theorem dX11_move_29 : decode cX11_move 29 = .ok (.new 55, 3) := by decide +kernel
theorem dX11_move_32 : decode cX11_move 32 = .ok (.dup, 1) := by decide +kernel
theorem dX11_move_33 : decode cX11_move 33 = .ok (.iload_n 1, 1) := by decide +kernel
theorem dX11_move_34 : decode cX11_move 34 = .ok (.iload_n 2, 1) := by decide +kernel
theorem dX11_move_35 : decode cX11_move 35 = .ok (.iload_n 3, 1) := by decide +kernel
theorem dX11_move_36 : decode cX11_move 36 = .ok (.aload 4, 2) := by decide +kernel
theorem dX11_move_38 : decode cX11_move 38 = .ok (.getfield 72, 3) := by decide +kernel
theorem dX11_move_41 : decode cX11_move 41 = .ok (.invokespecial 57, 3) := by decide +kernel
theorem dX11_move_44 : decode cX11_move 44 = .ok (.invokevirtual 75, 3) := by decide +kernel
theorem dX11_move_47 : decode cX11_move 47 = .ok (.iconst 1, 1) := by decide +kernel
theorem dX11_move_48 : decode cX11_move 48 = .ok (.ireturn, 1) := by decide +kernel
theorem dX11_weigh_0 : decode cX11_weigh 0 = .ok (.aload_n 0, 1) := by decide +kernel
theorem dX11_weigh_1 : decode cX11_weigh 1 = .ok (.getfield 10, 3) := by decide +kernel
theorem dX11_weigh_4 : decode cX11_weigh 4 = .ok (.invokevirtual 33, 3) := by decide +kernel
theorem dX11_weigh_7 : decode cX11_weigh 7 = .ok (.iload_n 1, 1) := by decide +kernel
theorem dX11_weigh_8 : decode cX11_weigh 8 = .ok (.invokevirtual 68, 3) := by decide +kernel
theorem dX11_weigh_11 : decode cX11_weigh 11 = .ok (.astore_n 3, 1) := by decide +kernel
theorem dX11_weigh_12 : decode cX11_weigh 12 = .ok (.aload_n 3, 1) := by decide +kernel
theorem dX11_weigh_13 : decode cX11_weigh 13 = .ok (.ifnull 10, 3) := by decide +kernel
theorem dX11_weigh_16 : decode cX11_weigh 16 = .ok (.iload_n 2, 1) := by decide +kernel
theorem dX11_weigh_17 : decode cX11_weigh 17 = .ok (.invokestatic 47, 3) := by decide +kernel
theorem dX11_weigh_20 : decode cX11_weigh 20 = .ok (.ifCond .ne 5, 3) := by decide +kernel
theorem dX11_weigh_23 : decode cX11_weigh 23 = .ok (.iconst 0, 1) := by decide +kernel
theorem dX11_weigh_24 : decode cX11_weigh 24 = .ok (.ireturn, 1) := by decide +kernel
theorem dX11_weigh_25 : decode cX11_weigh 25 = .ok (.aload_n 0, 1) := by decide +kernel
theorem dX11_weigh_26 : decode cX11_weigh 26 = .ok (.new 55, 3) := by decide +kernel
theorem dX11_weigh_29 : decode cX11_weigh 29 = .ok (.dup, 1) := by decide +kernel
theorem dX11_weigh_30 : decode cX11_weigh 30 = .ok (.iload_n 1, 1) := by decide +kernel
theorem dX11_weigh_31 : decode cX11_weigh 31 = .ok (.aload_n 3, 1) := by decide +kernel
theorem dX11_weigh_32 : decode cX11_weigh 32 = .ok (.getfield 79, 3) := by decide +kernel
theorem dX11_weigh_35 : decode cX11_weigh 35 = .ok (.aload_n 3, 1) := by decide +kernel
theorem dX11_weigh_36 : decode cX11_weigh 36 = .ok (.getfield 82, 3) := by decide +kernel
theorem dX11_weigh_39 : decode cX11_weigh 39 = .ok (.iload_n 2, 1) := by decide +kernel
theorem dX11_weigh_40 : decode cX11_weigh 40 = .ok (.invokespecial 57, 3) := by decide +kernel
theorem dX11_weigh_43 : decode cX11_weigh 43 = .ok (.invokevirtual 75, 3) := by decide +kernel
theorem dX11_weigh_46 : decode cX11_weigh 46 = .ok (.iconst 1, 1) := by decide +kernel
theorem dX11_weigh_47 : decode cX11_weigh 47 = .ok (.ireturn, 1) := by decide +kernel
theorem dX11_drop_0 : decode cX11_drop 0 = .ok (.aload_n 0, 1) := by decide +kernel
theorem dX11_drop_1 : decode cX11_drop 1 = .ok (.getfield 10, 3) := by decide +kernel
theorem dX11_drop_4 : decode cX11_drop 4 = .ok (.invokevirtual 33, 3) := by decide +kernel
theorem dX11_drop_7 : decode cX11_drop 7 = .ok (.astore_n 2, 1) := by decide +kernel
theorem dX11_drop_8 : decode cX11_drop 8 = .ok (.aload_n 2, 1) := by decide +kernel
theorem dX11_drop_9 : decode cX11_drop 9 = .ok (.iload_n 1, 1) := by decide +kernel
theorem dX11_drop_10 : decode cX11_drop 10 = .ok (.invokevirtual 68, 3) := by decide +kernel
theorem dX11_drop_13 : decode cX11_drop 13 = .ok (.ifnonnull 5, 3) := by decide +kernel
theorem dX11_drop_16 : decode cX11_drop 16 = .ok (.iconst (-1), 1) := by decide +kernel
theorem dX11_drop_17 : decode cX11_drop 17 = .ok (.ireturn, 1) := by decide +kernel
theorem dX11_drop_18 : decode cX11_drop 18 = .ok (.aload_n 2, 1) := by decide +kernel
theorem dX11_drop_19 : decode cX11_drop 19 = .ok (.invokevirtual 37, 3) := by decide +kernel
theorem dX11_drop_22 : decode cX11_drop 22 = .ok (.iconst 1, 1) := by decide +kernel
theorem dX11_drop_23 : decode cX11_drop 23 = .ok (.isub, 1) := by decide +kernel
theorem dX11_drop_24 : decode cX11_drop 24 = .ok (.istore_n 3, 1) := by decide +kernel
theorem dX11_drop_25 : decode cX11_drop 25 = .ok (.aload_n 2, 1) := by decide +kernel
theorem dX11_drop_26 : decode cX11_drop 26 = .ok (.iload_n 3, 1) := by decide +kernel
theorem dX11_drop_27 : decode cX11_drop 27 = .ok (.invokevirtual 51, 3) := by decide +kernel
theorem dX11_drop_30 : decode cX11_drop 30 = .ok (.astore 4, 2) := by decide +kernel
theorem dX11_drop_32 : decode cX11_drop 32 = .ok (.iload_n 1, 1) := by decide +kernel
theorem dX11_drop_33 : decode cX11_drop 33 = .ok (.istore 5, 2) := by decide +kernel
theorem dX11_drop_35 : decode cX11_drop 35 = .ok (.iload 5, 2) := by decide +kernel
theorem dX11_drop_37 : decode cX11_drop 37 = .ok (.iload_n 3, 1) := by decide +kernel
theorem dX11_drop_38 : decode cX11_drop 38 = .ok (.if_icmp .ge 28, 3) := by decide +kernel
theorem dX11_drop_41 : decode cX11_drop 41 = .ok (.aload 4, 2) := by decide +kernel
theorem dX11_drop_43 : decode cX11_drop 43 = .ok (.iload 5, 2) := by decide +kernel
theorem dX11_drop_45 : decode cX11_drop 45 = .ok (.aload_n 2, 1) := by decide +kernel
theorem dX11_drop_46 : decode cX11_drop 46 = .ok (.getfield 85, 3) := by decide +kernel
theorem dX11_drop_49 : decode cX11_drop 49 = .ok (.iload 5, 2) := by decide +kernel
theorem dX11_drop_51 : decode cX11_drop 51 = .ok (.iconst 1, 1) := by decide +kernel
theorem dX11_drop_52 : decode cX11_drop 52 = .ok (.iadd, 1) := by decide +kernel
theorem dX11_drop_53 : decode cX11_drop 53 = .ok (.aaload, 1) := by decide +kernel
theorem dX11_drop_54 : decode cX11_drop 54 = .ok (.iload 5, 2) := by decide +kernel
theorem dX11_drop_56 : decode cX11_drop 56 = .ok (.invokevirtual 89, 3) := by decide +kernel
theorem dX11_drop_59 : decode cX11_drop 59 = .ok (.aastore, 1) := by decide +kernel
theorem dX11_drop_60 : decode cX11_drop 60 = .ok (.iinc 5 1, 3) := by decide +kernel
theorem dX11_drop_63 : decode cX11_drop 63 = .ok (.goto (-28), 3) := by decide +kernel
theorem dX11_drop_66 : decode cX11_drop 66 = .ok (.aload_n 0, 1) := by decide +kernel
theorem dX11_drop_67 : decode cX11_drop 67 = .ok (.aload_n 0, 1) := by decide +kernel
theorem dX11_drop_68 : decode cX11_drop 68 = .ok (.getfield 10, 3) := by decide +kernel
theorem dX11_drop_71 : decode cX11_drop 71 = .ok (.aload 4, 2) := by decide +kernel
theorem dX11_drop_73 : decode cX11_drop 73 = .ok (.invokevirtual 60, 3) := by decide +kernel
theorem dX11_drop_76 : decode cX11_drop 76 = .ok (.invokevirtual 64, 3) := by decide +kernel
theorem dX11_drop_79 : decode cX11_drop 79 = .ok (.iload_n 3, 1) := by decide +kernel
theorem dX11_drop_80 : decode cX11_drop 80 = .ok (.ireturn, 1) := by decide +kernel
theorem dX11_drawn_0 : decode cX11_drawn 0 = .ok (.iload_n 1, 1) := by decide +kernel
theorem dX11_drawn_1 : decode cX11_drawn 1 = .ok (.iload_n 2, 1) := by decide +kernel
theorem dX11_drawn_2 : decode cX11_drawn 2 = .ok (.invokestatic 43, 3) := by decide +kernel
theorem dX11_drawn_5 : decode cX11_drawn 5 = .ok (.ifCond .eq 26, 3) := by decide +kernel
theorem dX11_drawn_8 : decode cX11_drawn 8 = .ok (.iload_n 3, 1) := by decide +kernel
theorem dX11_drawn_9 : decode cX11_drawn 9 = .ok (.ifCond .lt 22, 3) := by decide +kernel
theorem dX11_drawn_12 : decode cX11_drawn 12 = .ok (.iload_n 3, 1) := by decide +kernel
theorem dX11_drawn_13 : decode cX11_drawn 13 = .ok (.bipush 60, 2) := by decide +kernel
theorem dX11_drawn_15 : decode cX11_drawn 15 = .ok (.if_icmp .gt 16, 3) := by decide +kernel
theorem dX11_drawn_18 : decode cX11_drawn 18 = .ok (.iload 4, 2) := by decide +kernel
theorem dX11_drawn_20 : decode cX11_drawn 20 = .ok (.iconst 1, 1) := by decide +kernel
theorem dX11_drawn_21 : decode cX11_drawn 21 = .ok (.if_icmp .lt 10, 3) := by decide +kernel
theorem dX11_drawn_24 : decode cX11_drawn 24 = .ok (.iload 4, 2) := by decide +kernel
theorem dX11_drawn_26 : decode cX11_drawn 26 = .ok (.bipush 20, 2) := by decide +kernel
theorem dX11_drawn_28 : decode cX11_drawn 28 = .ok (.if_icmp .le 5, 3) := by decide +kernel
theorem dX11_drawn_31 : decode cX11_drawn 31 = .ok (.iconst (-1), 1) := by decide +kernel
theorem dX11_drawn_32 : decode cX11_drawn 32 = .ok (.ireturn, 1) := by decide +kernel
theorem dX11_drawn_33 : decode cX11_drawn 33 = .ok (.aload_n 0, 1) := by decide +kernel
theorem dX11_drawn_34 : decode cX11_drawn 34 = .ok (.getfield 10, 3) := by decide +kernel
theorem dX11_drawn_37 : decode cX11_drawn 37 = .ok (.invokevirtual 33, 3) := by decide +kernel
theorem dX11_drawn_40 : decode cX11_drawn 40 = .ok (.astore 5, 2) := by decide +kernel
theorem dX11_drawn_42 : decode cX11_drawn 42 = .ok (.aload 5, 2) := by decide +kernel
theorem dX11_drawn_44 : decode cX11_drawn 44 = .ok (.invokevirtual 37, 3) := by decide +kernel
theorem dX11_drawn_47 : decode cX11_drawn 47 = .ok (.istore 6, 2) := by decide +kernel
theorem dX11_drawn_49 : decode cX11_drawn 49 = .ok (.iload 6, 2) := by decide +kernel
theorem dX11_drawn_51 : decode cX11_drawn 51 = .ok (.iload 4, 2) := by decide +kernel
theorem dX11_drawn_53 : decode cX11_drawn 53 = .ok (.iadd, 1) := by decide +kernel
theorem dX11_drawn_54 : decode cX11_drawn 54 = .ok (.istore 7, 2) := by decide +kernel
theorem dX11_drawn_56 : decode cX11_drawn 56 = .ok (.iload 7, 2) := by decide +kernel
theorem dX11_drawn_58 : decode cX11_drawn 58 = .ok (.bipush 40, 2) := by decide +kernel
theorem dX11_drawn_60 : decode cX11_drawn 60 = .ok (.if_icmp .le 5, 3) := by decide +kernel
theorem dX11_drawn_63 : decode cX11_drawn 63 = .ok (.iconst (-1), 1) := by decide +kernel
theorem dX11_drawn_64 : decode cX11_drawn 64 = .ok (.ireturn, 1) := by decide +kernel
theorem dX11_drawn_65 : decode cX11_drawn 65 = .ok (.aload 5, 2) := by decide +kernel
theorem dX11_drawn_67 : decode cX11_drawn 67 = .ok (.iload 7, 2) := by decide +kernel
theorem dX11_drawn_69 : decode cX11_drawn 69 = .ok (.invokevirtual 51, 3) := by decide +kernel
theorem dX11_drawn_72 : decode cX11_drawn 72 = .ok (.astore 8, 2) := by decide +kernel
theorem dX11_drawn_74 : decode cX11_drawn 74 = .ok (.aload_n 0, 1) := by decide +kernel
theorem dX11_drawn_75 : decode cX11_drawn 75 = .ok (.getfield 10, 3) := by decide +kernel
theorem dX11_drawn_78 : decode cX11_drawn 78 = .ok (.getfield 92, 3) := by decide +kernel
theorem dX11_drawn_81 : decode cX11_drawn 81 = .ok (.istore 9, 2) := by decide +kernel
theorem dX11_drawn_83 : decode cX11_drawn 83 = .ok (.iconst 2, 1) := by decide +kernel
theorem dX11_drawn_84 : decode cX11_drawn 84 = .ok (.iload_n 3, 1) := by decide +kernel
theorem dX11_drawn_85 : decode cX11_drawn 85 = .ok (.imul, 1) := by decide +kernel
theorem dX11_drawn_86 : decode cX11_drawn 86 = .ok (.iconst 1, 1) := by decide +kernel
theorem dX11_drawn_87 : decode cX11_drawn 87 = .ok (.iadd, 1) := by decide +kernel
theorem dX11_drawn_88 : decode cX11_drawn 88 = .ok (.istore 10, 2) := by decide +kernel
theorem dX11_drawn_90 : decode cX11_drawn 90 = .ok (.iload 6, 2) := by decide +kernel
theorem dX11_drawn_92 : decode cX11_drawn 92 = .ok (.istore 11, 2) := by decide +kernel
theorem dX11_drawn_94 : decode cX11_drawn 94 = .ok (.iload 11, 2) := by decide +kernel
theorem dX11_drawn_96 : decode cX11_drawn 96 = .ok (.iload 7, 2) := by decide +kernel
theorem dX11_drawn_98 : decode cX11_drawn 98 = .ok (.if_icmp .ge 104, 3) := by decide +kernel
theorem dX11_drawn_101 : decode cX11_drawn 101 = .ok (.iload 9, 2) := by decide +kernel
theorem dX11_drawn_103 : decode cX11_drawn 103 = .ok (.invokestatic 95, 3) := by decide +kernel
theorem dX11_drawn_106 : decode cX11_drawn 106 = .ok (.istore 9, 2) := by decide +kernel
theorem dX11_drawn_108 : decode cX11_drawn 108 = .ok (.iload_n 1, 1) := by decide +kernel
theorem dX11_drawn_109 : decode cX11_drawn 109 = .ok (.iload 9, 2) := by decide +kernel
theorem dX11_drawn_111 : decode cX11_drawn 111 = .ok (.iload 10, 2) := by decide +kernel
theorem dX11_drawn_113 : decode cX11_drawn 113 = .ok (.invokestatic 99, 3) := by decide +kernel
theorem dX11_drawn_116 : decode cX11_drawn 116 = .ok (.iadd, 1) := by decide +kernel
theorem dX11_drawn_117 : decode cX11_drawn 117 = .ok (.iload_n 3, 1) := by decide +kernel
theorem dX11_drawn_118 : decode cX11_drawn 118 = .ok (.isub, 1) := by decide +kernel
theorem dX11_drawn_119 : decode cX11_drawn 119 = .ok (.istore 12, 2) := by decide +kernel
theorem dX11_drawn_121 : decode cX11_drawn 121 = .ok (.iload 9, 2) := by decide +kernel
theorem dX11_drawn_123 : decode cX11_drawn 123 = .ok (.invokestatic 95, 3) := by decide +kernel
theorem dX11_drawn_126 : decode cX11_drawn 126 = .ok (.istore 9, 2) := by decide +kernel
theorem dX11_drawn_128 : decode cX11_drawn 128 = .ok (.iload_n 2, 1) := by decide +kernel
theorem dX11_drawn_129 : decode cX11_drawn 129 = .ok (.iload 9, 2) := by decide +kernel
theorem dX11_drawn_131 : decode cX11_drawn 131 = .ok (.iload 10, 2) := by decide +kernel
theorem dX11_drawn_133 : decode cX11_drawn 133 = .ok (.invokestatic 99, 3) := by decide +kernel
theorem dX11_drawn_136 : decode cX11_drawn 136 = .ok (.iadd, 1) := by decide +kernel
theorem dX11_drawn_137 : decode cX11_drawn 137 = .ok (.iload_n 3, 1) := by decide +kernel
theorem dX11_drawn_138 : decode cX11_drawn 138 = .ok (.isub, 1) := by decide +kernel
theorem dX11_drawn_139 : decode cX11_drawn 139 = .ok (.sipush 360, 3) := by decide +kernel
theorem dX11_drawn_142 : decode cX11_drawn 142 = .ok (.invokestatic 99, 3) := by decide +kernel
theorem dX11_drawn_145 : decode cX11_drawn 145 = .ok (.istore 13, 2) := by decide +kernel
theorem dX11_drawn_147 : decode cX11_drawn 147 = .ok (.iload 9, 2) := by decide +kernel
theorem dX11_drawn_149 : decode cX11_drawn 149 = .ok (.invokestatic 95, 3) := by decide +kernel
theorem dX11_drawn_152 : decode cX11_drawn 152 = .ok (.istore 9, 2) := by decide +kernel
theorem dX11_drawn_154 : decode cX11_drawn 154 = .ok (.sipush (-200), 3) := by decide +kernel
theorem dX11_drawn_157 : decode cX11_drawn 157 = .ok (.sipush 200, 3) := by decide +kernel
theorem dX11_drawn_160 : decode cX11_drawn 160 = .ok (.iload 12, 2) := by decide +kernel
theorem dX11_drawn_162 : decode cX11_drawn 162 = .ok (.invokestatic 105, 3) := by decide +kernel
theorem dX11_drawn_165 : decode cX11_drawn 165 = .ok (.invokestatic 108, 3) := by decide +kernel
theorem dX11_drawn_168 : decode cX11_drawn 168 = .ok (.istore 14, 2) := by decide +kernel
theorem dX11_drawn_170 : decode cX11_drawn 170 = .ok (.aload 8, 2) := by decide +kernel
theorem dX11_drawn_172 : decode cX11_drawn 172 = .ok (.iload 11, 2) := by decide +kernel
theorem dX11_drawn_174 : decode cX11_drawn 174 = .ok (.new 55, 3) := by decide +kernel
theorem dX11_drawn_177 : decode cX11_drawn 177 = .ok (.dup, 1) := by decide +kernel
theorem dX11_drawn_178 : decode cX11_drawn 178 = .ok (.iload 11, 2) := by decide +kernel
theorem dX11_drawn_180 : decode cX11_drawn 180 = .ok (.iload 14, 2) := by decide +kernel
theorem dX11_drawn_182 : decode cX11_drawn 182 = .ok (.iload 13, 2) := by decide +kernel
theorem dX11_drawn_184 : decode cX11_drawn 184 = .ok (.iload 9, 2) := by decide +kernel
theorem dX11_drawn_186 : decode cX11_drawn 186 = .ok (.sipush 500, 3) := by decide +kernel
theorem dX11_drawn_189 : decode cX11_drawn 189 = .ok (.irem, 1) := by decide +kernel
theorem dX11_drawn_190 : decode cX11_drawn 190 = .ok (.iconst 1, 1) := by decide +kernel
theorem dX11_drawn_191 : decode cX11_drawn 191 = .ok (.iadd, 1) := by decide +kernel
theorem dX11_drawn_192 : decode cX11_drawn 192 = .ok (.invokespecial 57, 3) := by decide +kernel
theorem dX11_drawn_195 : decode cX11_drawn 195 = .ok (.aastore, 1) := by decide +kernel
theorem dX11_drawn_196 : decode cX11_drawn 196 = .ok (.iinc 11 1, 3) := by decide +kernel
theorem dX11_drawn_199 : decode cX11_drawn 199 = .ok (.goto (-105), 3) := by decide +kernel
theorem dX11_drawn_202 : decode cX11_drawn 202 = .ok (.aload_n 0, 1) := by decide +kernel
theorem dX11_drawn_203 : decode cX11_drawn 203 = .ok (.getfield 10, 3) := by decide +kernel
theorem dX11_drawn_206 : decode cX11_drawn 206 = .ok (.aload 8, 2) := by decide +kernel
theorem dX11_drawn_208 : decode cX11_drawn 208 = .ok (.invokevirtual 60, 3) := by decide +kernel
theorem dX11_drawn_211 : decode cX11_drawn 211 = .ok (.astore 11, 2) := by decide +kernel
theorem dX11_drawn_213 : decode cX11_drawn 213 = .ok (.aload 11, 2) := by decide +kernel
theorem dX11_drawn_215 : decode cX11_drawn 215 = .ok (.iload 9, 2) := by decide +kernel
theorem dX11_drawn_217 : decode cX11_drawn 217 = .ok (.putfield 92, 3) := by decide +kernel
theorem dX11_drawn_220 : decode cX11_drawn 220 = .ok (.aload_n 0, 1) := by decide +kernel
theorem dX11_drawn_221 : decode cX11_drawn 221 = .ok (.aload 11, 2) := by decide +kernel
theorem dX11_drawn_223 : decode cX11_drawn 223 = .ok (.invokevirtual 64, 3) := by decide +kernel
theorem dX11_drawn_226 : decode cX11_drawn 226 = .ok (.iload 7, 2) := by decide +kernel
theorem dX11_drawn_228 : decode cX11_drawn 228 = .ok (.ireturn, 1) := by decide +kernel
theorem dX11_tell_0 : decode cX11_tell 0 = .ok (.iload_n 1, 1) := by decide +kernel
theorem dX11_tell_1 : decode cX11_tell 1 = .ok (.ifCond .lt 10, 3) := by decide +kernel
theorem dX11_tell_4 : decode cX11_tell 4 = .ok (.iload_n 1, 1) := by decide +kernel
theorem dX11_tell_5 : decode cX11_tell 5 = .ok (.sipush 30091, 3) := by decide +kernel
theorem dX11_tell_8 : decode cX11_tell 8 = .ok (.if_icmp .lt 5, 3) := by decide +kernel
theorem dX11_tell_11 : decode cX11_tell 11 = .ok (.iconst 0, 1) := by decide +kernel
theorem dX11_tell_12 : decode cX11_tell 12 = .ok (.ireturn, 1) := by decide +kernel
theorem dX11_tell_13 : decode cX11_tell 13 = .ok (.new 7, 3) := by decide +kernel
theorem dX11_tell_16 : decode cX11_tell 16 = .ok (.dup, 1) := by decide +kernel
theorem dX11_tell_17 : decode cX11_tell 17 = .ok (.aload_n 0, 1) := by decide +kernel
theorem dX11_tell_18 : decode cX11_tell 18 = .ok (.getfield 10, 3) := by decide +kernel
theorem dX11_tell_21 : decode cX11_tell 21 = .ok (.invokespecial 111, 3) := by decide +kernel
theorem dX11_tell_24 : decode cX11_tell 24 = .ok (.astore_n 2, 1) := by decide +kernel
theorem dX11_tell_25 : decode cX11_tell 25 = .ok (.aload_n 2, 1) := by decide +kernel
theorem dX11_tell_26 : decode cX11_tell 26 = .ok (.iload_n 1, 1) := by decide +kernel
theorem dX11_tell_27 : decode cX11_tell 27 = .ok (.putfield 92, 3) := by decide +kernel
theorem dX11_tell_30 : decode cX11_tell 30 = .ok (.aload_n 0, 1) := by decide +kernel
theorem dX11_tell_31 : decode cX11_tell 31 = .ok (.aload_n 2, 1) := by decide +kernel
theorem dX11_tell_32 : decode cX11_tell 32 = .ok (.putfield 10, 3) := by decide +kernel
theorem dX11_tell_35 : decode cX11_tell 35 = .ok (.iconst 1, 1) := by decide +kernel
theorem dX11_tell_36 : decode cX11_tell 36 = .ok (.ireturn, 1) := by decide +kernel
theorem dX11_set_0 : decode cX11_set 0 = .ok (.new 7, 3) := by decide +kernel
theorem dX11_set_3 : decode cX11_set 3 = .ok (.dup, 1) := by decide +kernel
theorem dX11_set_4 : decode cX11_set 4 = .ok (.aload_n 0, 1) := by decide +kernel
theorem dX11_set_5 : decode cX11_set 5 = .ok (.getfield 10, 3) := by decide +kernel
theorem dX11_set_8 : decode cX11_set 8 = .ok (.invokespecial 111, 3) := by decide +kernel
theorem dX11_set_11 : decode cX11_set 11 = .ok (.astore_n 3, 1) := by decide +kernel
theorem dX11_set_12 : decode cX11_set 12 = .ok (.iload_n 1, 1) := by decide +kernel
theorem dX11_set_13 : decode cX11_set 13 = .ok (.ifCond .ne 18, 3) := by decide +kernel
theorem dX11_set_16 : decode cX11_set 16 = .ok (.iload_n 2, 1) := by decide +kernel
theorem dX11_set_17 : decode cX11_set 17 = .ok (.invokestatic 113, 3) := by decide +kernel
theorem dX11_set_20 : decode cX11_set 20 = .ok (.ifCond .eq 11, 3) := by decide +kernel
theorem dX11_set_23 : decode cX11_set 23 = .ok (.aload_n 3, 1) := by decide +kernel
theorem dX11_set_24 : decode cX11_set 24 = .ok (.iload_n 2, 1) := by decide +kernel
theorem dX11_set_25 : decode cX11_set 25 = .ok (.putfield 116, 3) := by decide +kernel
theorem dX11_set_28 : decode cX11_set 28 = .ok (.goto 47, 3) := by decide +kernel
theorem dX11_set_31 : decode cX11_set 31 = .ok (.iload_n 1, 1) := by decide +kernel
theorem dX11_set_32 : decode cX11_set 32 = .ok (.iconst 1, 1) := by decide +kernel
theorem dX11_set_33 : decode cX11_set 33 = .ok (.if_icmp .ne 18, 3) := by decide +kernel
theorem dX11_set_36 : decode cX11_set 36 = .ok (.iload_n 2, 1) := by decide +kernel
theorem dX11_set_37 : decode cX11_set 37 = .ok (.invokestatic 119, 3) := by decide +kernel
theorem dX11_set_40 : decode cX11_set 40 = .ok (.ifCond .eq 11, 3) := by decide +kernel
theorem dX11_set_43 : decode cX11_set 43 = .ok (.aload_n 3, 1) := by decide +kernel
theorem dX11_set_44 : decode cX11_set 44 = .ok (.iload_n 2, 1) := by decide +kernel
theorem dX11_set_45 : decode cX11_set 45 = .ok (.putfield 122, 3) := by decide +kernel
theorem dX11_set_48 : decode cX11_set 48 = .ok (.goto 27, 3) := by decide +kernel
theorem dX11_set_51 : decode cX11_set 51 = .ok (.iload_n 1, 1) := by decide +kernel
theorem dX11_set_52 : decode cX11_set 52 = .ok (.iconst 2, 1) := by decide +kernel
theorem dX11_set_53 : decode cX11_set 53 = .ok (.if_icmp .ne 20, 3) := by decide +kernel
theorem dX11_set_56 : decode cX11_set 56 = .ok (.iload_n 2, 1) := by decide +kernel
theorem dX11_set_57 : decode cX11_set 57 = .ok (.ifCond .eq 8, 3) := by decide +kernel
theorem dX11_set_60 : decode cX11_set 60 = .ok (.iload_n 2, 1) := by decide +kernel
theorem dX11_set_61 : decode cX11_set 61 = .ok (.iconst 1, 1) := by decide +kernel
theorem dX11_set_62 : decode cX11_set 62 = .ok (.if_icmp .ne 11, 3) := by decide +kernel
theorem dX11_set_65 : decode cX11_set 65 = .ok (.aload_n 3, 1) := by decide +kernel
theorem dX11_set_66 : decode cX11_set 66 = .ok (.iload_n 2, 1) := by decide +kernel
theorem dX11_set_67 : decode cX11_set 67 = .ok (.putfield 125, 3) := by decide +kernel
theorem dX11_set_70 : decode cX11_set 70 = .ok (.goto 5, 3) := by decide +kernel
theorem dX11_set_73 : decode cX11_set 73 = .ok (.iconst 0, 1) := by decide +kernel
theorem dX11_set_74 : decode cX11_set 74 = .ok (.ireturn, 1) := by decide +kernel
theorem dX11_set_75 : decode cX11_set 75 = .ok (.aload_n 0, 1) := by decide +kernel
theorem dX11_set_76 : decode cX11_set 76 = .ok (.aload_n 3, 1) := by decide +kernel
theorem dX11_set_77 : decode cX11_set 77 = .ok (.invokevirtual 64, 3) := by decide +kernel
theorem dX11_set_80 : decode cX11_set 80 = .ok (.iconst 1, 1) := by decide +kernel
theorem dX11_set_81 : decode cX11_set 81 = .ok (.ireturn, 1) := by decide +kernel
theorem dX11_gather_0 : decode cX11_gather 0 = .ok (.iload_n 1, 1) := by decide +kernel
theorem dX11_gather_1 : decode cX11_gather 1 = .ok (.invokestatic 128, 3) := by decide +kernel
theorem dX11_gather_4 : decode cX11_gather 4 = .ok (.ifCond .eq 16, 3) := by decide +kernel
theorem dX11_gather_7 : decode cX11_gather 7 = .ok (.aload_n 0, 1) := by decide +kernel
theorem dX11_gather_8 : decode cX11_gather 8 = .ok (.getfield 10, 3) := by decide +kernel
theorem dX11_gather_11 : decode cX11_gather 11 = .ok (.invokevirtual 33, 3) := by decide +kernel
theorem dX11_gather_14 : decode cX11_gather 14 = .ok (.invokevirtual 37, 3) := by decide +kernel
theorem dX11_gather_17 : decode cX11_gather 17 = .ok (.ifCond .ne 5, 3) := by decide +kernel
theorem dX11_gather_20 : decode cX11_gather 20 = .ok (.iconst (-1), 1) := by decide +kernel
theorem dX11_gather_21 : decode cX11_gather 21 = .ok (.ireturn, 1) := by decide +kernel
theorem dX11_gather_22 : decode cX11_gather 22 = .ok (.aload_n 0, 1) := by decide +kernel
theorem dX11_gather_23 : decode cX11_gather 23 = .ok (.invokevirtual 131, 3) := by decide +kernel
theorem dX11_gather_26 : decode cX11_gather 26 = .ok (.astore_n 2, 1) := by decide +kernel
theorem dX11_gather_27 : decode cX11_gather 27 = .ok (.aload_n 0, 1) := by decide +kernel
theorem dX11_gather_28 : decode cX11_gather 28 = .ok (.aload_n 0, 1) := by decide +kernel
theorem dX11_gather_29 : decode cX11_gather 29 = .ok (.getfield 10, 3) := by decide +kernel
theorem dX11_gather_32 : decode cX11_gather 32 = .ok (.iload_n 1, 1) := by decide +kernel
theorem dX11_gather_33 : decode cX11_gather 33 = .ok (.aload_n 2, 1) := by decide +kernel
theorem dX11_gather_34 : decode cX11_gather 34 = .ok (.invokevirtual 135, 3) := by decide +kernel
theorem dX11_gather_37 : decode cX11_gather 37 = .ok (.invokevirtual 64, 3) := by decide +kernel
theorem dX11_gather_40 : decode cX11_gather 40 = .ok (.aload_n 2, 1) := by decide +kernel
theorem dX11_gather_41 : decode cX11_gather 41 = .ok (.getfield 139, 3) := by decide +kernel
theorem dX11_gather_44 : decode cX11_gather 44 = .ok (.ireturn, 1) := by decide +kernel
theorem dX11_keep_0 : decode cX11_keep 0 = .ok (.aload_n 0, 1) := by decide +kernel
theorem dX11_keep_1 : decode cX11_keep 1 = .ok (.iload_n 2, 1) := by decide +kernel
theorem dX11_keep_2 : decode cX11_keep 2 = .ok (.invokevirtual 144, 3) := by decide +kernel
theorem dX11_keep_5 : decode cX11_keep 5 = .ok (.astore 4, 2) := by decide +kernel
theorem dX11_keep_7 : decode cX11_keep 7 = .ok (.aload 4, 2) := by decide +kernel
theorem dX11_keep_9 : decode cX11_keep 9 = .ok (.ifnonnull 7, 3) := by decide +kernel
theorem dX11_keep_12 : decode cX11_keep 12 = .ok (.iconst (-1), 1) := by decide +kernel
theorem dX11_keep_13 : decode cX11_keep 13 = .ok (.goto 9, 3) := by decide +kernel
theorem dX11_keep_16 : decode cX11_keep 16 = .ok (.aload 4, 2) := by decide +kernel
theorem dX11_keep_18 : decode cX11_keep 18 = .ok (.iload_n 3, 1) := by decide +kernel
theorem dX11_keep_19 : decode cX11_keep 19 = .ok (.invokevirtual 148, 3) := by decide +kernel
theorem dX11_keep_22 : decode cX11_keep 22 = .ok (.istore 5, 2) := by decide +kernel
theorem dX11_keep_24 : decode cX11_keep 24 = .ok (.aload 4, 2) := by decide +kernel
theorem dX11_keep_26 : decode cX11_keep 26 = .ok (.ifnull 18, 3) := by decide +kernel
theorem dX11_keep_29 : decode cX11_keep 29 = .ok (.iload 5, 2) := by decide +kernel
theorem dX11_keep_31 : decode cX11_keep 31 = .ok (.iconst (-1), 1) := by decide +kernel
theorem dX11_keep_32 : decode cX11_keep 32 = .ok (.if_icmp .eq 12, 3) := by decide +kernel
theorem dX11_keep_35 : decode cX11_keep 35 = .ok (.iload_n 1, 1) := by decide +kernel
theorem dX11_keep_36 : decode cX11_keep 36 = .ok (.ifCond .lt 8, 3) := by decide +kernel
theorem dX11_keep_39 : decode cX11_keep 39 = .ok (.iload_n 1, 1) := by decide +kernel
theorem dX11_keep_40 : decode cX11_keep 40 = .ok (.iconst 4, 1) := by decide +kernel
theorem dX11_keep_41 : decode cX11_keep 41 = .ok (.if_icmp .lt 5, 3) := by decide +kernel
theorem dX11_keep_44 : decode cX11_keep 44 = .ok (.iconst (-1), 1) := by decide +kernel
theorem dX11_keep_45 : decode cX11_keep 45 = .ok (.ireturn, 1) := by decide +kernel
theorem dX11_keep_46 : decode cX11_keep 46 = .ok (.aload 4, 2) := by decide +kernel
theorem dX11_keep_48 : decode cX11_keep 48 = .ok (.iload 5, 2) := by decide +kernel
theorem dX11_keep_50 : decode cX11_keep 50 = .ok (.invokevirtual 151, 3) := by decide +kernel
theorem dX11_keep_53 : decode cX11_keep 53 = .ok (.astore 6, 2) := by decide +kernel
theorem dX11_keep_55 : decode cX11_keep 55 = .ok (.new 7, 3) := by decide +kernel
theorem dX11_keep_58 : decode cX11_keep 58 = .ok (.dup, 1) := by decide +kernel
theorem dX11_keep_59 : decode cX11_keep 59 = .ok (.aload_n 0, 1) := by decide +kernel
theorem dX11_keep_60 : decode cX11_keep 60 = .ok (.getfield 10, 3) := by decide +kernel
theorem dX11_keep_63 : decode cX11_keep 63 = .ok (.invokespecial 111, 3) := by decide +kernel
theorem dX11_keep_66 : decode cX11_keep 66 = .ok (.astore 7, 2) := by decide +kernel
theorem dX11_keep_68 : decode cX11_keep 68 = .ok (.aload 7, 2) := by decide +kernel
theorem dX11_keep_70 : decode cX11_keep 70 = .ok (.getfield 155, 3) := by decide +kernel
theorem dX11_keep_73 : decode cX11_keep 73 = .ok (.iload_n 1, 1) := by decide +kernel
theorem dX11_keep_74 : decode cX11_keep 74 = .ok (.aload 6, 2) := by decide +kernel
theorem dX11_keep_76 : decode cX11_keep 76 = .ok (.aastore, 1) := by decide +kernel
theorem dX11_keep_77 : decode cX11_keep 77 = .ok (.aload_n 0, 1) := by decide +kernel
theorem dX11_keep_78 : decode cX11_keep 78 = .ok (.aload 7, 2) := by decide +kernel
theorem dX11_keep_80 : decode cX11_keep 80 = .ok (.invokevirtual 64, 3) := by decide +kernel
theorem dX11_keep_83 : decode cX11_keep 83 = .ok (.aload 6, 2) := by decide +kernel
theorem dX11_keep_85 : decode cX11_keep 85 = .ok (.arraylength, 1) := by decide +kernel
theorem dX11_keep_86 : decode cX11_keep 86 = .ok (.ireturn, 1) := by decide +kernel
theorem dX11_apart_0 : decode cX11_apart 0 = .ok (.aload_n 0, 1) := by decide +kernel
theorem dX11_apart_1 : decode cX11_apart 1 = .ok (.iload_n 1, 1) := by decide +kernel
theorem dX11_apart_2 : decode cX11_apart 2 = .ok (.invokevirtual 144, 3) := by decide +kernel
theorem dX11_apart_5 : decode cX11_apart 5 = .ok (.astore 6, 2) := by decide +kernel
theorem dX11_apart_7 : decode cX11_apart 7 = .ok (.aload_n 0, 1) := by decide +kernel
theorem dX11_apart_8 : decode cX11_apart 8 = .ok (.iload_n 1, 1) := by decide +kernel
theorem dX11_apart_9 : decode cX11_apart 9 = .ok (.iload_n 2, 1) := by decide +kernel
theorem dX11_apart_10 : decode cX11_apart 10 = .ok (.invokevirtual 159, 3) := by decide +kernel
theorem dX11_apart_13 : decode cX11_apart 13 = .ok (.astore 7, 2) := by decide +kernel
theorem dX11_apart_15 : decode cX11_apart 15 = .ok (.aload 6, 2) := by decide +kernel
theorem dX11_apart_17 : decode cX11_apart 17 = .ok (.ifnull 31, 3) := by decide +kernel
theorem dX11_apart_20 : decode cX11_apart 20 = .ok (.aload 7, 2) := by decide +kernel
theorem dX11_apart_22 : decode cX11_apart 22 = .ok (.ifnull 26, 3) := by decide +kernel
theorem dX11_apart_25 : decode cX11_apart 25 = .ok (.iload_n 3, 1) := by decide +kernel
theorem dX11_apart_26 : decode cX11_apart 26 = .ok (.invokestatic 119, 3) := by decide +kernel
theorem dX11_apart_29 : decode cX11_apart 29 = .ok (.ifCond .eq 19, 3) := by decide +kernel
theorem dX11_apart_32 : decode cX11_apart 32 = .ok (.iload 4, 2) := by decide +kernel
theorem dX11_apart_34 : decode cX11_apart 34 = .ok (.invokestatic 113, 3) := by decide +kernel
theorem dX11_apart_37 : decode cX11_apart 37 = .ok (.ifCond .eq 11, 3) := by decide +kernel
theorem dX11_apart_40 : decode cX11_apart 40 = .ok (.iload 5, 2) := by decide +kernel
theorem dX11_apart_42 : decode cX11_apart 42 = .ok (.invokestatic 128, 3) := by decide +kernel
theorem dX11_apart_45 : decode cX11_apart 45 = .ok (.ifCond .ne 5, 3) := by decide +kernel
theorem dX11_apart_48 : decode cX11_apart 48 = .ok (.iconst (-1), 1) := by decide +kernel
theorem dX11_apart_49 : decode cX11_apart 49 = .ok (.ireturn, 1) := by decide +kernel
theorem dX11_apart_50 : decode cX11_apart 50 = .ok (.aload 6, 2) := by decide +kernel
theorem dX11_apart_52 : decode cX11_apart 52 = .ok (.aload 7, 2) := by decide +kernel
theorem dX11_apart_54 : decode cX11_apart 54 = .ok (.iload_n 3, 1) := by decide +kernel
theorem dX11_apart_55 : decode cX11_apart 55 = .ok (.iload 4, 2) := by decide +kernel
theorem dX11_apart_57 : decode cX11_apart 57 = .ok (.invokestatic 163, 3) := by decide +kernel
theorem dX11_apart_60 : decode cX11_apart 60 = .ok (.astore 8, 2) := by decide +kernel
theorem dX11_apart_62 : decode cX11_apart 62 = .ok (.aload_n 0, 1) := by decide +kernel
theorem dX11_apart_63 : decode cX11_apart 63 = .ok (.aload_n 0, 1) := by decide +kernel
theorem dX11_apart_64 : decode cX11_apart 64 = .ok (.getfield 10, 3) := by decide +kernel
theorem dX11_apart_67 : decode cX11_apart 67 = .ok (.iload 5, 2) := by decide +kernel
theorem dX11_apart_69 : decode cX11_apart 69 = .ok (.aload 8, 2) := by decide +kernel
theorem dX11_apart_71 : decode cX11_apart 71 = .ok (.invokevirtual 135, 3) := by decide +kernel
theorem dX11_apart_74 : decode cX11_apart 74 = .ok (.invokevirtual 64, 3) := by decide +kernel
theorem dX11_apart_77 : decode cX11_apart 77 = .ok (.aload 8, 2) := by decide +kernel
theorem dX11_apart_79 : decode cX11_apart 79 = .ok (.getfield 139, 3) := by decide +kernel
theorem dX11_apart_82 : decode cX11_apart 82 = .ok (.ireturn, 1) := by decide +kernel
theorem dX11_hand_0 : decode cX11_hand 0 = .ok (.iload_n 1, 1) := by decide +kernel
theorem dX11_hand_1 : decode cX11_hand 1 = .ok (.ifCond .lt 19, 3) := by decide +kernel
theorem dX11_hand_4 : decode cX11_hand 4 = .ok (.iload_n 1, 1) := by decide +kernel
theorem dX11_hand_5 : decode cX11_hand 5 = .ok (.iconst 3, 1) := by decide +kernel
theorem dX11_hand_6 : decode cX11_hand 6 = .ok (.if_icmp .ge 14, 3) := by decide +kernel
theorem dX11_hand_9 : decode cX11_hand 9 = .ok (.iload_n 1, 1) := by decide +kernel
theorem dX11_hand_10 : decode cX11_hand 10 = .ok (.aload_n 0, 1) := by decide +kernel
theorem dX11_hand_11 : decode cX11_hand 11 = .ok (.getfield 10, 3) := by decide +kernel
theorem dX11_hand_14 : decode cX11_hand 14 = .ok (.getfield 169, 3) := by decide +kernel
theorem dX11_hand_17 : decode cX11_hand 17 = .ok (.if_icmp .ne 5, 3) := by decide +kernel
theorem dX11_hand_20 : decode cX11_hand 20 = .ok (.iconst (-1), 1) := by decide +kernel
theorem dX11_hand_21 : decode cX11_hand 21 = .ok (.ireturn, 1) := by decide +kernel
theorem dX11_hand_22 : decode cX11_hand 22 = .ok (.new 7, 3) := by decide +kernel
theorem dX11_hand_25 : decode cX11_hand 25 = .ok (.dup, 1) := by decide +kernel
theorem dX11_hand_26 : decode cX11_hand 26 = .ok (.aload_n 0, 1) := by decide +kernel
theorem dX11_hand_27 : decode cX11_hand 27 = .ok (.getfield 10, 3) := by decide +kernel
theorem dX11_hand_30 : decode cX11_hand 30 = .ok (.invokespecial 111, 3) := by decide +kernel
theorem dX11_hand_33 : decode cX11_hand 33 = .ok (.astore_n 2, 1) := by decide +kernel
theorem dX11_hand_34 : decode cX11_hand 34 = .ok (.aload_n 2, 1) := by decide +kernel
theorem dX11_hand_35 : decode cX11_hand 35 = .ok (.iload_n 1, 1) := by decide +kernel
theorem dX11_hand_36 : decode cX11_hand 36 = .ok (.putfield 169, 3) := by decide +kernel
theorem dX11_hand_39 : decode cX11_hand 39 = .ok (.aload_n 0, 1) := by decide +kernel
theorem dX11_hand_40 : decode cX11_hand 40 = .ok (.aload_n 2, 1) := by decide +kernel
theorem dX11_hand_41 : decode cX11_hand 41 = .ok (.invokevirtual 64, 3) := by decide +kernel
theorem dX11_hand_44 : decode cX11_hand 44 = .ok (.aload_n 2, 1) := by decide +kernel
theorem dX11_hand_45 : decode cX11_hand 45 = .ok (.invokevirtual 33, 3) := by decide +kernel
theorem dX11_hand_48 : decode cX11_hand 48 = .ok (.invokevirtual 37, 3) := by decide +kernel
theorem dX11_hand_51 : decode cX11_hand 51 = .ok (.ireturn, 1) := by decide +kernel
theorem dX11_mix_0 : decode cX11_mix 0 = .ok (.iload_n 1, 1) := by decide +kernel
theorem dX11_mix_1 : decode cX11_mix 1 = .ok (.ifCond .lt 30, 3) := by decide +kernel
theorem dX11_mix_4 : decode cX11_mix 4 = .ok (.iload_n 1, 1) := by decide +kernel
theorem dX11_mix_5 : decode cX11_mix 5 = .ok (.iconst 3, 1) := by decide +kernel
theorem dX11_mix_6 : decode cX11_mix 6 = .ok (.if_icmp .ge 25, 3) := by decide +kernel
theorem dX11_mix_9 : decode cX11_mix 9 = .ok (.iload_n 1, 1) := by decide +kernel
theorem dX11_mix_10 : decode cX11_mix 10 = .ok (.aload_n 0, 1) := by decide +kernel
theorem dX11_mix_11 : decode cX11_mix 11 = .ok (.getfield 10, 3) := by decide +kernel
theorem dX11_mix_14 : decode cX11_mix 14 = .ok (.getfield 169, 3) := by decide +kernel
theorem dX11_mix_17 : decode cX11_mix 17 = .ok (.if_icmp .eq 14, 3) := by decide +kernel
theorem dX11_mix_20 : decode cX11_mix 20 = .ok (.iload_n 2, 1) := by decide +kernel
theorem dX11_mix_21 : decode cX11_mix 21 = .ok (.ifCond .lt 10, 3) := by decide +kernel
theorem dX11_mix_24 : decode cX11_mix 24 = .ok (.iload_n 2, 1) := by decide +kernel
theorem dX11_mix_25 : decode cX11_mix 25 = .ok (.sipush 360, 3) := by decide +kernel
theorem dX11_mix_28 : decode cX11_mix 28 = .ok (.if_icmp .lt 5, 3) := by decide +kernel
theorem dX11_mix_31 : decode cX11_mix 31 = .ok (.iconst (-1), 1) := by decide +kernel
theorem dX11_mix_32 : decode cX11_mix 32 = .ok (.ireturn, 1) := by decide +kernel
theorem dX11_mix_33 : decode cX11_mix 33 = .ok (.aload_n 0, 1) := by decide +kernel
theorem dX11_mix_34 : decode cX11_mix 34 = .ok (.getfield 10, 3) := by decide +kernel
theorem dX11_mix_37 : decode cX11_mix 37 = .ok (.getfield 172, 3) := by decide +kernel
theorem dX11_mix_40 : decode cX11_mix 40 = .ok (.iload_n 1, 1) := by decide +kernel
theorem dX11_mix_41 : decode cX11_mix 41 = .ok (.aaload, 1) := by decide +kernel
theorem dX11_mix_42 : decode cX11_mix 42 = .ok (.astore_n 3, 1) := by decide +kernel
theorem dX11_mix_43 : decode cX11_mix 43 = .ok (.aload_n 0, 1) := by decide +kernel
theorem dX11_mix_44 : decode cX11_mix 44 = .ok (.getfield 10, 3) := by decide +kernel
theorem dX11_mix_47 : decode cX11_mix 47 = .ok (.invokevirtual 33, 3) := by decide +kernel
theorem dX11_mix_50 : decode cX11_mix 50 = .ok (.invokevirtual 37, 3) := by decide +kernel
theorem dX11_mix_53 : decode cX11_mix 53 = .ok (.istore 4, 2) := by decide +kernel
theorem dX11_mix_55 : decode cX11_mix 55 = .ok (.iload 4, 2) := by decide +kernel
theorem dX11_mix_57 : decode cX11_mix 57 = .ok (.aload_n 3, 1) := by decide +kernel
theorem dX11_mix_58 : decode cX11_mix 58 = .ok (.invokevirtual 37, 3) := by decide +kernel
theorem dX11_mix_61 : decode cX11_mix 61 = .ok (.iadd, 1) := by decide +kernel
theorem dX11_mix_62 : decode cX11_mix 62 = .ok (.istore 5, 2) := by decide +kernel
theorem dX11_mix_64 : decode cX11_mix 64 = .ok (.iload 5, 2) := by decide +kernel
theorem dX11_mix_66 : decode cX11_mix 66 = .ok (.bipush 40, 2) := by decide +kernel
theorem dX11_mix_68 : decode cX11_mix 68 = .ok (.if_icmp .le 5, 3) := by decide +kernel
theorem dX11_mix_71 : decode cX11_mix 71 = .ok (.iconst (-1), 1) := by decide +kernel
theorem dX11_mix_72 : decode cX11_mix 72 = .ok (.ireturn, 1) := by decide +kernel
theorem dX11_mix_73 : decode cX11_mix 73 = .ok (.aload_n 0, 1) := by decide +kernel
theorem dX11_mix_74 : decode cX11_mix 74 = .ok (.getfield 10, 3) := by decide +kernel
theorem dX11_mix_77 : decode cX11_mix 77 = .ok (.invokevirtual 33, 3) := by decide +kernel
theorem dX11_mix_80 : decode cX11_mix 80 = .ok (.iload 5, 2) := by decide +kernel
theorem dX11_mix_82 : decode cX11_mix 82 = .ok (.invokevirtual 51, 3) := by decide +kernel
theorem dX11_mix_85 : decode cX11_mix 85 = .ok (.astore 6, 2) := by decide +kernel
theorem dX11_mix_87 : decode cX11_mix 87 = .ok (.iconst 0, 1) := by decide +kernel
theorem dX11_mix_88 : decode cX11_mix 88 = .ok (.istore 7, 2) := by decide +kernel
theorem dX11_mix_90 : decode cX11_mix 90 = .ok (.iload 7, 2) := by decide +kernel
theorem dX11_mix_92 : decode cX11_mix 92 = .ok (.aload_n 3, 1) := by decide +kernel
theorem dX11_mix_93 : decode cX11_mix 93 = .ok (.invokevirtual 37, 3) := by decide +kernel
theorem dX11_mix_96 : decode cX11_mix 96 = .ok (.if_icmp .ge 65, 3) := by decide +kernel
theorem dX11_mix_99 : decode cX11_mix 99 = .ok (.aload_n 3, 1) := by decide +kernel
theorem dX11_mix_100 : decode cX11_mix 100 = .ok (.getfield 85, 3) := by decide +kernel
theorem dX11_mix_103 : decode cX11_mix 103 = .ok (.iload 7, 2) := by decide +kernel
theorem dX11_mix_105 : decode cX11_mix 105 = .ok (.aaload, 1) := by decide +kernel
theorem dX11_mix_106 : decode cX11_mix 106 = .ok (.astore 8, 2) := by decide +kernel
theorem dX11_mix_108 : decode cX11_mix 108 = .ok (.aload 8, 2) := by decide +kernel
theorem dX11_mix_110 : decode cX11_mix 110 = .ok (.getfield 82, 3) := by decide +kernel
theorem dX11_mix_113 : decode cX11_mix 113 = .ok (.iload_n 2, 1) := by decide +kernel
theorem dX11_mix_114 : decode cX11_mix 114 = .ok (.iadd, 1) := by decide +kernel
theorem dX11_mix_115 : decode cX11_mix 115 = .ok (.sipush 360, 3) := by decide +kernel
theorem dX11_mix_118 : decode cX11_mix 118 = .ok (.invokestatic 99, 3) := by decide +kernel
theorem dX11_mix_121 : decode cX11_mix 121 = .ok (.istore 9, 2) := by decide +kernel
theorem dX11_mix_123 : decode cX11_mix 123 = .ok (.aload 6, 2) := by decide +kernel
theorem dX11_mix_125 : decode cX11_mix 125 = .ok (.iload 4, 2) := by decide +kernel
theorem dX11_mix_127 : decode cX11_mix 127 = .ok (.iload 7, 2) := by decide +kernel
theorem dX11_mix_129 : decode cX11_mix 129 = .ok (.iadd, 1) := by decide +kernel
theorem dX11_mix_130 : decode cX11_mix 130 = .ok (.new 55, 3) := by decide +kernel
theorem dX11_mix_133 : decode cX11_mix 133 = .ok (.dup, 1) := by decide +kernel
theorem dX11_mix_134 : decode cX11_mix 134 = .ok (.iload 4, 2) := by decide +kernel
theorem dX11_mix_136 : decode cX11_mix 136 = .ok (.iload 7, 2) := by decide +kernel
theorem dX11_mix_138 : decode cX11_mix 138 = .ok (.iadd, 1) := by decide +kernel
theorem dX11_mix_139 : decode cX11_mix 139 = .ok (.aload 8, 2) := by decide +kernel
theorem dX11_mix_141 : decode cX11_mix 141 = .ok (.getfield 79, 3) := by decide +kernel
theorem dX11_mix_144 : decode cX11_mix 144 = .ok (.iload 9, 2) := by decide +kernel
theorem dX11_mix_146 : decode cX11_mix 146 = .ok (.aload 8, 2) := by decide +kernel
theorem dX11_mix_148 : decode cX11_mix 148 = .ok (.getfield 72, 3) := by decide +kernel
theorem dX11_mix_151 : decode cX11_mix 151 = .ok (.invokespecial 57, 3) := by decide +kernel
theorem dX11_mix_154 : decode cX11_mix 154 = .ok (.aastore, 1) := by decide +kernel
theorem dX11_mix_155 : decode cX11_mix 155 = .ok (.iinc 7 1, 3) := by decide +kernel
theorem dX11_mix_158 : decode cX11_mix 158 = .ok (.goto (-68), 3) := by decide +kernel
theorem dX11_mix_161 : decode cX11_mix 161 = .ok (.aload_n 0, 1) := by decide +kernel
theorem dX11_mix_162 : decode cX11_mix 162 = .ok (.aload_n 0, 1) := by decide +kernel
theorem dX11_mix_163 : decode cX11_mix 163 = .ok (.getfield 10, 3) := by decide +kernel
theorem dX11_mix_166 : decode cX11_mix 166 = .ok (.aload 6, 2) := by decide +kernel
theorem dX11_mix_168 : decode cX11_mix 168 = .ok (.invokevirtual 60, 3) := by decide +kernel
theorem dX11_mix_171 : decode cX11_mix 171 = .ok (.invokevirtual 64, 3) := by decide +kernel
theorem dX11_mix_174 : decode cX11_mix 174 = .ok (.iload 5, 2) := by decide +kernel
theorem dX11_mix_176 : decode cX11_mix 176 = .ok (.ireturn, 1) := by decide +kernel
theorem dX11_free_0 : decode cX11_free 0 = .ok (.aload_n 0, 1) := by decide +kernel
theorem dX11_free_1 : decode cX11_free 1 = .ok (.iload_n 1, 1) := by decide +kernel
theorem dX11_free_2 : decode cX11_free 2 = .ok (.invokevirtual 144, 3) := by decide +kernel
theorem dX11_free_5 : decode cX11_free 5 = .ok (.ifnonnull 5, 3) := by decide +kernel
theorem dX11_free_8 : decode cX11_free 8 = .ok (.iconst 0, 1) := by decide +kernel
theorem dX11_free_9 : decode cX11_free 9 = .ok (.ireturn, 1) := by decide +kernel
theorem dX11_free_10 : decode cX11_free 10 = .ok (.aload_n 0, 1) := by decide +kernel
theorem dX11_free_11 : decode cX11_free 11 = .ok (.aload_n 0, 1) := by decide +kernel
theorem dX11_free_12 : decode cX11_free 12 = .ok (.getfield 10, 3) := by decide +kernel
theorem dX11_free_15 : decode cX11_free 15 = .ok (.iload_n 1, 1) := by decide +kernel
theorem dX11_free_16 : decode cX11_free 16 = .ok (.aconst_null, 1) := by decide +kernel
theorem dX11_free_17 : decode cX11_free 17 = .ok (.invokevirtual 135, 3) := by decide +kernel
theorem dX11_free_20 : decode cX11_free 20 = .ok (.invokevirtual 64, 3) := by decide +kernel
theorem dX11_free_23 : decode cX11_free 23 = .ok (.iconst 1, 1) := by decide +kernel
theorem dX11_free_24 : decode cX11_free 24 = .ok (.ireturn, 1) := by decide +kernel
theorem dX11_undo_0 : decode cX11_undo 0 = .ok (.aload_n 0, 1) := by decide +kernel
theorem dX11_undo_1 : decode cX11_undo 1 = .ok (.getfield 20, 3) := by decide +kernel
theorem dX11_undo_4 : decode cX11_undo 4 = .ok (.iconst 1, 1) := by decide +kernel
theorem dX11_undo_5 : decode cX11_undo 5 = .ok (.if_icmp .lt 15, 3) := by decide +kernel
theorem dX11_undo_8 : decode cX11_undo 8 = .ok (.aload_n 0, 1) := by decide +kernel
theorem dX11_undo_9 : decode cX11_undo 9 = .ok (.getfield 20, 3) := by decide +kernel
theorem dX11_undo_12 : decode cX11_undo 12 = .ok (.aload_n 0, 1) := by decide +kernel
theorem dX11_undo_13 : decode cX11_undo 13 = .ok (.getfield 16, 3) := by decide +kernel
theorem dX11_undo_16 : decode cX11_undo 16 = .ok (.arraylength, 1) := by decide +kernel
theorem dX11_undo_17 : decode cX11_undo 17 = .ok (.if_icmp .le 5, 3) := by decide +kernel
theorem dX11_undo_20 : decode cX11_undo 20 = .ok (.iconst (-1), 1) := by decide +kernel
theorem dX11_undo_21 : decode cX11_undo 21 = .ok (.ireturn, 1) := by decide +kernel
theorem dX11_undo_22 : decode cX11_undo 22 = .ok (.aload_n 0, 1) := by decide +kernel
theorem dX11_undo_23 : decode cX11_undo 23 = .ok (.dup, 1) := by decide +kernel
theorem dX11_undo_24 : decode cX11_undo 24 = .ok (.getfield 20, 3) := by decide +kernel
theorem dX11_undo_27 : decode cX11_undo 27 = .ok (.iconst 1, 1) := by decide +kernel
theorem dX11_undo_28 : decode cX11_undo 28 = .ok (.isub, 1) := by decide +kernel
theorem dX11_undo_29 : decode cX11_undo 29 = .ok (.putfield 20, 3) := by decide +kernel
theorem dX11_undo_32 : decode cX11_undo 32 = .ok (.aload_n 0, 1) := by decide +kernel
theorem dX11_undo_33 : decode cX11_undo 33 = .ok (.aload_n 0, 1) := by decide +kernel
theorem dX11_undo_34 : decode cX11_undo 34 = .ok (.getfield 16, 3) := by decide +kernel
theorem dX11_undo_37 : decode cX11_undo 37 = .ok (.aload_n 0, 1) := by decide +kernel
theorem dX11_undo_38 : decode cX11_undo 38 = .ok (.getfield 20, 3) := by decide +kernel
theorem dX11_undo_41 : decode cX11_undo 41 = .ok (.aaload, 1) := by decide +kernel
theorem dX11_undo_42 : decode cX11_undo 42 = .ok (.putfield 10, 3) := by decide +kernel
theorem dX11_undo_45 : decode cX11_undo 45 = .ok (.aload_n 0, 1) := by decide +kernel
theorem dX11_undo_46 : decode cX11_undo 46 = .ok (.getfield 16, 3) := by decide +kernel
theorem dX11_undo_49 : decode cX11_undo 49 = .ok (.aload_n 0, 1) := by decide +kernel
theorem dX11_undo_50 : decode cX11_undo 50 = .ok (.getfield 20, 3) := by decide +kernel
theorem dX11_undo_53 : decode cX11_undo 53 = .ok (.aconst_null, 1) := by decide +kernel
theorem dX11_undo_54 : decode cX11_undo 54 = .ok (.aastore, 1) := by decide +kernel
theorem dX11_undo_55 : decode cX11_undo 55 = .ok (.aload_n 0, 1) := by decide +kernel
theorem dX11_undo_56 : decode cX11_undo 56 = .ok (.getfield 20, 3) := by decide +kernel
theorem dX11_undo_59 : decode cX11_undo 59 = .ok (.ireturn, 1) := by decide +kernel
theorem dX11_is_0 : decode cX11_is 0 = .ok (.iload_n 1, 1) := by decide +kernel
theorem dX11_is_1 : decode cX11_is 1 = .ok (.tableswitch 114 0 7 #[47, 55, 63, 71, 82, 90, 95, 106], 47) := by decide +kernel
theorem dX11_is_48 : decode cX11_is 48 = .ok (.aload_n 0, 1) := by decide +kernel
theorem dX11_is_49 : decode cX11_is 49 = .ok (.getfield 10, 3) := by decide +kernel
theorem dX11_is_52 : decode cX11_is 52 = .ok (.getfield 116, 3) := by decide +kernel
theorem dX11_is_55 : decode cX11_is 55 = .ok (.ireturn, 1) := by decide +kernel
theorem dX11_is_56 : decode cX11_is 56 = .ok (.aload_n 0, 1) := by decide +kernel
theorem dX11_is_57 : decode cX11_is 57 = .ok (.getfield 10, 3) := by decide +kernel
theorem dX11_is_60 : decode cX11_is 60 = .ok (.getfield 122, 3) := by decide +kernel
theorem dX11_is_63 : decode cX11_is 63 = .ok (.ireturn, 1) := by decide +kernel
theorem dX11_is_64 : decode cX11_is 64 = .ok (.aload_n 0, 1) := by decide +kernel
theorem dX11_is_65 : decode cX11_is 65 = .ok (.getfield 10, 3) := by decide +kernel
theorem dX11_is_68 : decode cX11_is 68 = .ok (.getfield 125, 3) := by decide +kernel
theorem dX11_is_71 : decode cX11_is 71 = .ok (.ireturn, 1) := by decide +kernel
theorem dX11_is_72 : decode cX11_is 72 = .ok (.aload_n 0, 1) := by decide +kernel
theorem dX11_is_73 : decode cX11_is 73 = .ok (.getfield 10, 3) := by decide +kernel
theorem dX11_is_76 : decode cX11_is 76 = .ok (.invokevirtual 33, 3) := by decide +kernel
theorem dX11_is_79 : decode cX11_is 79 = .ok (.invokevirtual 37, 3) := by decide +kernel
theorem dX11_is_82 : decode cX11_is 82 = .ok (.ireturn, 1) := by decide +kernel
theorem dX11_is_83 : decode cX11_is 83 = .ok (.aload_n 0, 1) := by decide +kernel
theorem dX11_is_84 : decode cX11_is 84 = .ok (.getfield 10, 3) := by decide +kernel
theorem dX11_is_87 : decode cX11_is 87 = .ok (.getfield 92, 3) := by decide +kernel
theorem dX11_is_90 : decode cX11_is 90 = .ok (.ireturn, 1) := by decide +kernel
theorem dX11_is_91 : decode cX11_is 91 = .ok (.aload_n 0, 1) := by decide +kernel
theorem dX11_is_92 : decode cX11_is 92 = .ok (.invokevirtual 176, 3) := by decide +kernel
theorem dX11_is_95 : decode cX11_is 95 = .ok (.ireturn, 1) := by decide +kernel
theorem dX11_is_96 : decode cX11_is 96 = .ok (.aload_n 0, 1) := by decide +kernel
theorem dX11_is_97 : decode cX11_is 97 = .ok (.getfield 10, 3) := by decide +kernel
theorem dX11_is_100 : decode cX11_is 100 = .ok (.invokevirtual 33, 3) := by decide +kernel
theorem dX11_is_103 : decode cX11_is 103 = .ok (.invokevirtual 179, 3) := by decide +kernel
theorem dX11_is_106 : decode cX11_is 106 = .ok (.ireturn, 1) := by decide +kernel
theorem dX11_is_107 : decode cX11_is 107 = .ok (.aload_n 0, 1) := by decide +kernel
theorem dX11_is_108 : decode cX11_is 108 = .ok (.getfield 10, 3) := by decide +kernel
theorem dX11_is_111 : decode cX11_is 111 = .ok (.getfield 169, 3) := by decide +kernel
theorem dX11_is_114 : decode cX11_is 114 = .ok (.ireturn, 1) := by decide +kernel
theorem dX11_is_115 : decode cX11_is 115 = .ok (.bipush (-2), 2) := by decide +kernel
theorem dX11_is_117 : decode cX11_is 117 = .ok (.ireturn, 1) := by decide +kernel
theorem dX11_of_0 : decode cX11_of 0 = .ok (.aload_n 0, 1) := by decide +kernel
theorem dX11_of_1 : decode cX11_of 1 = .ok (.getfield 10, 3) := by decide +kernel
theorem dX11_of_4 : decode cX11_of 4 = .ok (.invokevirtual 33, 3) := by decide +kernel
theorem dX11_of_7 : decode cX11_of 7 = .ok (.iload_n 1, 1) := by decide +kernel
theorem dX11_of_8 : decode cX11_of 8 = .ok (.invokevirtual 68, 3) := by decide +kernel
theorem dX11_of_11 : decode cX11_of 11 = .ok (.astore_n 3, 1) := by decide +kernel
theorem dX11_of_12 : decode cX11_of 12 = .ok (.aload_n 3, 1) := by decide +kernel
theorem dX11_of_13 : decode cX11_of 13 = .ok (.ifnonnull 7, 3) := by decide +kernel
theorem dX11_of_16 : decode cX11_of 16 = .ok (.sipush (-1000), 3) := by decide +kernel
theorem dX11_of_19 : decode cX11_of 19 = .ok (.ireturn, 1) := by decide +kernel
theorem dX11_of_20 : decode cX11_of 20 = .ok (.iload_n 2, 1) := by decide +kernel
theorem dX11_of_21 : decode cX11_of 21 = .ok (.tableswitch 42 0 2 #[27, 32, 37], 27) := by decide +kernel
theorem dX11_of_48 : decode cX11_of 48 = .ok (.aload_n 3, 1) := by decide +kernel
theorem dX11_of_49 : decode cX11_of 49 = .ok (.getfield 79, 3) := by decide +kernel
theorem dX11_of_52 : decode cX11_of 52 = .ok (.ireturn, 1) := by decide +kernel
theorem dX11_of_53 : decode cX11_of 53 = .ok (.aload_n 3, 1) := by decide +kernel
theorem dX11_of_54 : decode cX11_of 54 = .ok (.getfield 82, 3) := by decide +kernel
theorem dX11_of_57 : decode cX11_of 57 = .ok (.ireturn, 1) := by decide +kernel
theorem dX11_of_58 : decode cX11_of 58 = .ok (.aload_n 3, 1) := by decide +kernel
theorem dX11_of_59 : decode cX11_of 59 = .ok (.getfield 72, 3) := by decide +kernel
theorem dX11_of_62 : decode cX11_of 62 = .ok (.ireturn, 1) := by decide +kernel
theorem dX11_of_63 : decode cX11_of 63 = .ok (.sipush (-1000), 3) := by decide +kernel
theorem dX11_of_66 : decode cX11_of 66 = .ok (.ireturn, 1) := by decide +kernel
theorem dX11_square_0 : decode cX11_square 0 = .ok (.aload_n 0, 1) := by decide +kernel
theorem dX11_square_1 : decode cX11_square 1 = .ok (.getfield 10, 3) := by decide +kernel
theorem dX11_square_4 : decode cX11_square 4 = .ok (.invokevirtual 33, 3) := by decide +kernel
theorem dX11_square_7 : decode cX11_square 7 = .ok (.iload_n 1, 1) := by decide +kernel
theorem dX11_square_8 : decode cX11_square 8 = .ok (.invokevirtual 68, 3) := by decide +kernel
theorem dX11_square_11 : decode cX11_square 11 = .ok (.astore_n 3, 1) := by decide +kernel
theorem dX11_square_12 : decode cX11_square 12 = .ok (.aload_n 0, 1) := by decide +kernel
theorem dX11_square_13 : decode cX11_square 13 = .ok (.getfield 10, 3) := by decide +kernel
theorem dX11_square_16 : decode cX11_square 16 = .ok (.invokevirtual 33, 3) := by decide +kernel
theorem dX11_square_19 : decode cX11_square 19 = .ok (.iload_n 2, 1) := by decide +kernel
theorem dX11_square_20 : decode cX11_square 20 = .ok (.invokevirtual 68, 3) := by decide +kernel
theorem dX11_square_23 : decode cX11_square 23 = .ok (.astore 4, 2) := by decide +kernel
theorem dX11_square_25 : decode cX11_square 25 = .ok (.aload_n 3, 1) := by decide +kernel
theorem dX11_square_26 : decode cX11_square 26 = .ok (.ifnull 8, 3) := by decide +kernel
theorem dX11_square_29 : decode cX11_square 29 = .ok (.aload 4, 2) := by decide +kernel
theorem dX11_square_31 : decode cX11_square 31 = .ok (.ifnonnull 7, 3) := by decide +kernel
theorem dX11_square_34 : decode cX11_square 34 = .ok (.iconst (-1), 1) := by decide +kernel
theorem dX11_square_35 : decode cX11_square 35 = .ok (.goto 9, 3) := by decide +kernel
theorem dX11_square_38 : decode cX11_square 38 = .ok (.aload_n 3, 1) := by decide +kernel
theorem dX11_square_39 : decode cX11_square 39 = .ok (.aload 4, 2) := by decide +kernel
theorem dX11_square_41 : decode cX11_square 41 = .ok (.invokevirtual 182, 3) := by decide +kernel
theorem dX11_square_44 : decode cX11_square 44 = .ok (.ireturn, 1) := by decide +kernel
theorem dX11_nearest_0 : decode cX11_nearest 0 = .ok (.aload_n 0, 1) := by decide +kernel
theorem dX11_nearest_1 : decode cX11_nearest 1 = .ok (.getfield 10, 3) := by decide +kernel
theorem dX11_nearest_4 : decode cX11_nearest 4 = .ok (.invokevirtual 33, 3) := by decide +kernel
theorem dX11_nearest_7 : decode cX11_nearest 7 = .ok (.iload_n 1, 1) := by decide +kernel
theorem dX11_nearest_8 : decode cX11_nearest 8 = .ok (.invokevirtual 68, 3) := by decide +kernel
theorem dX11_nearest_11 : decode cX11_nearest 11 = .ok (.astore_n 2, 1) := by decide +kernel
theorem dX11_nearest_12 : decode cX11_nearest 12 = .ok (.aload_n 2, 1) := by decide +kernel
theorem dX11_nearest_13 : decode cX11_nearest 13 = .ok (.ifnonnull 7, 3) := by decide +kernel
theorem dX11_nearest_16 : decode cX11_nearest 16 = .ok (.iconst (-1), 1) := by decide +kernel
theorem dX11_nearest_17 : decode cX11_nearest 17 = .ok (.goto 14, 3) := by decide +kernel
theorem dX11_nearest_20 : decode cX11_nearest 20 = .ok (.aload_n 0, 1) := by decide +kernel
theorem dX11_nearest_21 : decode cX11_nearest 21 = .ok (.getfield 10, 3) := by decide +kernel
theorem dX11_nearest_24 : decode cX11_nearest 24 = .ok (.invokevirtual 33, 3) := by decide +kernel
theorem dX11_nearest_27 : decode cX11_nearest 27 = .ok (.aload_n 2, 1) := by decide +kernel
theorem dX11_nearest_28 : decode cX11_nearest 28 = .ok (.invokevirtual 186, 3) := by decide +kernel
theorem dX11_nearest_31 : decode cX11_nearest 31 = .ok (.ireturn, 1) := by decide +kernel
theorem dX11_tree_0 : decode cX11_tree 0 = .ok (.aload_n 0, 1) := by decide +kernel
theorem dX11_tree_1 : decode cX11_tree 1 = .ok (.iload_n 1, 1) := by decide +kernel
theorem dX11_tree_2 : decode cX11_tree 2 = .ok (.invokevirtual 144, 3) := by decide +kernel
theorem dX11_tree_5 : decode cX11_tree 5 = .ok (.astore_n 3, 1) := by decide +kernel
theorem dX11_tree_6 : decode cX11_tree 6 = .ok (.aload_n 3, 1) := by decide +kernel
theorem dX11_tree_7 : decode cX11_tree 7 = .ok (.ifnonnull 6, 3) := by decide +kernel
theorem dX11_tree_10 : decode cX11_tree 10 = .ok (.bipush (-2), 2) := by decide +kernel
theorem dX11_tree_12 : decode cX11_tree 12 = .ok (.ireturn, 1) := by decide +kernel
theorem dX11_tree_13 : decode cX11_tree 13 = .ok (.iload_n 2, 1) := by decide +kernel
theorem dX11_tree_14 : decode cX11_tree 14 = .ok (.tableswitch 77 0 6 #[42, 47, 52, 57, 62, 67, 72], 42) := by decide +kernel
theorem dX11_tree_56 : decode cX11_tree 56 = .ok (.aload_n 3, 1) := by decide +kernel
theorem dX11_tree_57 : decode cX11_tree 57 = .ok (.getfield 189, 3) := by decide +kernel
theorem dX11_tree_60 : decode cX11_tree 60 = .ok (.ireturn, 1) := by decide +kernel
theorem dX11_tree_61 : decode cX11_tree 61 = .ok (.aload_n 3, 1) := by decide +kernel
theorem dX11_tree_62 : decode cX11_tree 62 = .ok (.getfield 192, 3) := by decide +kernel
theorem dX11_tree_65 : decode cX11_tree 65 = .ok (.ireturn, 1) := by decide +kernel
theorem dX11_tree_66 : decode cX11_tree 66 = .ok (.aload_n 3, 1) := by decide +kernel
theorem dX11_tree_67 : decode cX11_tree 67 = .ok (.getfield 139, 3) := by decide +kernel
theorem dX11_tree_70 : decode cX11_tree 70 = .ok (.ireturn, 1) := by decide +kernel
theorem dX11_tree_71 : decode cX11_tree 71 = .ok (.aload_n 3, 1) := by decide +kernel
theorem dX11_tree_72 : decode cX11_tree 72 = .ok (.getfield 195, 3) := by decide +kernel
theorem dX11_tree_75 : decode cX11_tree 75 = .ok (.ireturn, 1) := by decide +kernel
theorem dX11_tree_76 : decode cX11_tree 76 = .ok (.aload_n 3, 1) := by decide +kernel
theorem dX11_tree_77 : decode cX11_tree 77 = .ok (.getfield 198, 3) := by decide +kernel
theorem dX11_tree_80 : decode cX11_tree 80 = .ok (.ireturn, 1) := by decide +kernel
theorem dX11_tree_81 : decode cX11_tree 81 = .ok (.aload_n 3, 1) := by decide +kernel
theorem dX11_tree_82 : decode cX11_tree 82 = .ok (.getfield 199, 3) := by decide +kernel
theorem dX11_tree_85 : decode cX11_tree 85 = .ok (.ireturn, 1) := by decide +kernel
theorem dX11_tree_86 : decode cX11_tree 86 = .ok (.aload_n 3, 1) := by decide +kernel
theorem dX11_tree_87 : decode cX11_tree 87 = .ok (.getfield 200, 3) := by decide +kernel
theorem dX11_tree_90 : decode cX11_tree 90 = .ok (.ireturn, 1) := by decide +kernel
theorem dX11_tree_91 : decode cX11_tree 91 = .ok (.bipush (-2), 2) := by decide +kernel
theorem dX11_tree_93 : decode cX11_tree 93 = .ok (.ireturn, 1) := by decide +kernel
theorem dX11_knot_0 : decode cX11_knot 0 = .ok (.aload_n 0, 1) := by decide +kernel
theorem dX11_knot_1 : decode cX11_knot 1 = .ok (.iload_n 1, 1) := by decide +kernel
theorem dX11_knot_2 : decode cX11_knot 2 = .ok (.iload_n 2, 1) := by decide +kernel
theorem dX11_knot_3 : decode cX11_knot 3 = .ok (.invokevirtual 159, 3) := by decide +kernel
theorem dX11_knot_6 : decode cX11_knot 6 = .ok (.astore 4, 2) := by decide +kernel
theorem dX11_knot_8 : decode cX11_knot 8 = .ok (.aload 4, 2) := by decide +kernel
theorem dX11_knot_10 : decode cX11_knot 10 = .ok (.ifnonnull 7, 3) := by decide +kernel
theorem dX11_knot_13 : decode cX11_knot 13 = .ok (.sipush (-1000), 3) := by decide +kernel
theorem dX11_knot_16 : decode cX11_knot 16 = .ok (.ireturn, 1) := by decide +kernel
theorem dX11_knot_17 : decode cX11_knot 17 = .ok (.iload_n 3, 1) := by decide +kernel
theorem dX11_knot_18 : decode cX11_knot 18 = .ok (.tableswitch 112 0 7 #[46, 55, 64, 73, 82, 91, 100, 106], 46) := by decide +kernel
theorem dX11_knot_64 : decode cX11_knot 64 = .ok (.aload 4, 2) := by decide +kernel
theorem dX11_knot_66 : decode cX11_knot 66 = .ok (.getfield 201, 3) := by decide +kernel
theorem dX11_knot_69 : decode cX11_knot 69 = .ok (.getfield 79, 3) := by decide +kernel
theorem dX11_knot_72 : decode cX11_knot 72 = .ok (.ireturn, 1) := by decide +kernel
theorem dX11_knot_73 : decode cX11_knot 73 = .ok (.aload 4, 2) := by decide +kernel
theorem dX11_knot_75 : decode cX11_knot 75 = .ok (.getfield 201, 3) := by decide +kernel
theorem dX11_knot_78 : decode cX11_knot 78 = .ok (.getfield 82, 3) := by decide +kernel
theorem dX11_knot_81 : decode cX11_knot 81 = .ok (.ireturn, 1) := by decide +kernel
theorem dX11_knot_82 : decode cX11_knot 82 = .ok (.aload 4, 2) := by decide +kernel
theorem dX11_knot_84 : decode cX11_knot 84 = .ok (.getfield 201, 3) := by decide +kernel
theorem dX11_knot_87 : decode cX11_knot 87 = .ok (.getfield 72, 3) := by decide +kernel
theorem dX11_knot_90 : decode cX11_knot 90 = .ok (.ireturn, 1) := by decide +kernel
theorem dX11_knot_91 : decode cX11_knot 91 = .ok (.aload 4, 2) := by decide +kernel
theorem dX11_knot_93 : decode cX11_knot 93 = .ok (.getfield 207, 3) := by decide +kernel
theorem dX11_knot_96 : decode cX11_knot 96 = .ok (.invokestatic 211, 3) := by decide +kernel
theorem dX11_knot_99 : decode cX11_knot 99 = .ok (.ireturn, 1) := by decide +kernel
theorem dX11_knot_100 : decode cX11_knot 100 = .ok (.aload 4, 2) := by decide +kernel
theorem dX11_knot_102 : decode cX11_knot 102 = .ok (.getfield 215, 3) := by decide +kernel
theorem dX11_knot_105 : decode cX11_knot 105 = .ok (.invokestatic 211, 3) := by decide +kernel
theorem dX11_knot_108 : decode cX11_knot 108 = .ok (.ireturn, 1) := by decide +kernel
theorem dX11_knot_109 : decode cX11_knot 109 = .ok (.aload 4, 2) := by decide +kernel
theorem dX11_knot_111 : decode cX11_knot 111 = .ok (.getfield 218, 3) := by decide +kernel
theorem dX11_knot_114 : decode cX11_knot 114 = .ok (.invokestatic 211, 3) := by decide +kernel
theorem dX11_knot_117 : decode cX11_knot 117 = .ok (.ireturn, 1) := by decide +kernel
theorem dX11_knot_118 : decode cX11_knot 118 = .ok (.aload 4, 2) := by decide +kernel
theorem dX11_knot_120 : decode cX11_knot 120 = .ok (.getfield 221, 3) := by decide +kernel
theorem dX11_knot_123 : decode cX11_knot 123 = .ok (.ireturn, 1) := by decide +kernel
theorem dX11_knot_124 : decode cX11_knot 124 = .ok (.aload 4, 2) := by decide +kernel
theorem dX11_knot_126 : decode cX11_knot 126 = .ok (.getfield 224, 3) := by decide +kernel
theorem dX11_knot_129 : decode cX11_knot 129 = .ok (.ireturn, 1) := by decide +kernel
theorem dX11_knot_130 : decode cX11_knot 130 = .ok (.sipush (-1000), 3) := by decide +kernel
theorem dX11_knot_133 : decode cX11_knot 133 = .ok (.ireturn, 1) := by decide +kernel
theorem dX11_origin_0 : decode cX11_origin 0 = .ok (.aload_n 0, 1) := by decide +kernel
theorem dX11_origin_1 : decode cX11_origin 1 = .ok (.iload_n 1, 1) := by decide +kernel
theorem dX11_origin_2 : decode cX11_origin 2 = .ok (.invokevirtual 144, 3) := by decide +kernel
theorem dX11_origin_5 : decode cX11_origin 5 = .ok (.astore_n 3, 1) := by decide +kernel
theorem dX11_origin_6 : decode cX11_origin 6 = .ok (.aload_n 3, 1) := by decide +kernel
theorem dX11_origin_7 : decode cX11_origin 7 = .ok (.ifnull 16, 3) := by decide +kernel
theorem dX11_origin_10 : decode cX11_origin 10 = .ok (.iload_n 2, 1) := by decide +kernel
theorem dX11_origin_11 : decode cX11_origin 11 = .ok (.ifCond .lt 12, 3) := by decide +kernel
theorem dX11_origin_14 : decode cX11_origin 14 = .ok (.iload_n 2, 1) := by decide +kernel
theorem dX11_origin_15 : decode cX11_origin 15 = .ok (.aload_n 3, 1) := by decide +kernel
theorem dX11_origin_16 : decode cX11_origin 16 = .ok (.getfield 227, 3) := by decide +kernel
theorem dX11_origin_19 : decode cX11_origin 19 = .ok (.arraylength, 1) := by decide +kernel
theorem dX11_origin_20 : decode cX11_origin 20 = .ok (.if_icmp .lt 5, 3) := by decide +kernel
theorem dX11_origin_23 : decode cX11_origin 23 = .ok (.iconst (-1), 1) := by decide +kernel
theorem dX11_origin_24 : decode cX11_origin 24 = .ok (.ireturn, 1) := by decide +kernel
theorem dX11_origin_25 : decode cX11_origin 25 = .ok (.aload_n 3, 1) := by decide +kernel
theorem dX11_origin_26 : decode cX11_origin 26 = .ok (.getfield 227, 3) := by decide +kernel
theorem dX11_origin_29 : decode cX11_origin 29 = .ok (.iload_n 2, 1) := by decide +kernel
theorem dX11_origin_30 : decode cX11_origin 30 = .ok (.iaload, 1) := by decide +kernel
theorem dX11_origin_31 : decode cX11_origin 31 = .ok (.ireturn, 1) := by decide +kernel
theorem dX11_step_0 : decode cX11_step 0 = .ok (.aload_n 0, 1) := by decide +kernel
theorem dX11_step_1 : decode cX11_step 1 = .ok (.iload_n 1, 1) := by decide +kernel
theorem dX11_step_2 : decode cX11_step 2 = .ok (.iload_n 2, 1) := by decide +kernel
theorem dX11_step_3 : decode cX11_step 3 = .ok (.invokevirtual 231, 3) := by decide +kernel
theorem dX11_step_6 : decode cX11_step 6 = .ok (.astore 4, 2) := by decide +kernel
theorem dX11_step_8 : decode cX11_step 8 = .ok (.aload 4, 2) := by decide +kernel
theorem dX11_step_10 : decode cX11_step 10 = .ok (.ifnonnull 6, 3) := by decide +kernel
theorem dX11_step_13 : decode cX11_step 13 = .ok (.bipush (-2), 2) := by decide +kernel
theorem dX11_step_15 : decode cX11_step 15 = .ok (.ireturn, 1) := by decide +kernel
theorem dX11_step_16 : decode cX11_step 16 = .ok (.iload_n 3, 1) := by decide +kernel
theorem dX11_step_17 : decode cX11_step 17 = .ok (.tableswitch 45 0 2 #[27, 33, 39], 27) := by decide +kernel
theorem dX11_step_44 : decode cX11_step 44 = .ok (.aload 4, 2) := by decide +kernel
theorem dX11_step_46 : decode cX11_step 46 = .ok (.getfield 235, 3) := by decide +kernel
theorem dX11_step_49 : decode cX11_step 49 = .ok (.ireturn, 1) := by decide +kernel
theorem dX11_step_50 : decode cX11_step 50 = .ok (.aload 4, 2) := by decide +kernel
theorem dX11_step_52 : decode cX11_step 52 = .ok (.getfield 239, 3) := by decide +kernel
theorem dX11_step_55 : decode cX11_step 55 = .ok (.ireturn, 1) := by decide +kernel
theorem dX11_step_56 : decode cX11_step 56 = .ok (.aload 4, 2) := by decide +kernel
theorem dX11_step_58 : decode cX11_step 58 = .ok (.getfield 241, 3) := by decide +kernel
theorem dX11_step_61 : decode cX11_step 61 = .ok (.ireturn, 1) := by decide +kernel
theorem dX11_step_62 : decode cX11_step 62 = .ok (.bipush (-2), 2) := by decide +kernel
theorem dX11_step_64 : decode cX11_step 64 = .ok (.ireturn, 1) := by decide +kernel
theorem dX11_up_0 : decode cX11_up 0 = .ok (.aload_n 0, 1) := by decide +kernel
theorem dX11_up_1 : decode cX11_up 1 = .ok (.iload_n 1, 1) := by decide +kernel
theorem dX11_up_2 : decode cX11_up 2 = .ok (.iload_n 2, 1) := by decide +kernel
theorem dX11_up_3 : decode cX11_up 3 = .ok (.invokevirtual 231, 3) := by decide +kernel
theorem dX11_up_6 : decode cX11_up 6 = .ok (.astore_n 3, 1) := by decide +kernel
theorem dX11_up_7 : decode cX11_up 7 = .ok (.aload_n 3, 1) := by decide +kernel
theorem dX11_up_8 : decode cX11_up 8 = .ok (.ifnonnull 9, 3) := by decide +kernel
theorem dX11_up_11 : decode cX11_up 11 = .ok (.ldc2_w 244, 3) := by decide +kernel
theorem dX11_up_14 : decode cX11_up 14 = .ok (.goto 7, 3) := by decide +kernel
theorem dX11_up_17 : decode cX11_up 17 = .ok (.aload_n 3, 1) := by decide +kernel
theorem dX11_up_18 : decode cX11_up 18 = .ok (.getfield 246, 3) := by decide +kernel
theorem dX11_up_21 : decode cX11_up 21 = .ok (.lreturn, 1) := by decide +kernel
theorem dX11_down_0 : decode cX11_down 0 = .ok (.aload_n 0, 1) := by decide +kernel
theorem dX11_down_1 : decode cX11_down 1 = .ok (.iload_n 1, 1) := by decide +kernel
theorem dX11_down_2 : decode cX11_down 2 = .ok (.iload_n 2, 1) := by decide +kernel
theorem dX11_down_3 : decode cX11_down 3 = .ok (.invokevirtual 231, 3) := by decide +kernel
theorem dX11_down_6 : decode cX11_down 6 = .ok (.astore_n 3, 1) := by decide +kernel
theorem dX11_down_7 : decode cX11_down 7 = .ok (.aload_n 3, 1) := by decide +kernel
theorem dX11_down_8 : decode cX11_down 8 = .ok (.ifnonnull 9, 3) := by decide +kernel
theorem dX11_down_11 : decode cX11_down 11 = .ok (.ldc2_w 244, 3) := by decide +kernel
theorem dX11_down_14 : decode cX11_down 14 = .ok (.goto 7, 3) := by decide +kernel
theorem dX11_down_17 : decode cX11_down 17 = .ok (.aload_n 3, 1) := by decide +kernel
theorem dX11_down_18 : decode cX11_down 18 = .ok (.getfield 250, 3) := by decide +kernel
theorem dX11_down_21 : decode cX11_down 21 = .ok (.lreturn, 1) := by decide +kernel
theorem dX11_leaves_0 : decode cX11_leaves 0 = .ok (.aload_n 0, 1) := by decide +kernel
theorem dX11_leaves_1 : decode cX11_leaves 1 = .ok (.iload_n 1, 1) := by decide +kernel
theorem dX11_leaves_2 : decode cX11_leaves 2 = .ok (.iload_n 2, 1) := by decide +kernel
theorem dX11_leaves_3 : decode cX11_leaves 3 = .ok (.invokevirtual 159, 3) := by decide +kernel
theorem dX11_leaves_6 : decode cX11_leaves 6 = .ok (.astore_n 3, 1) := by decide +kernel
theorem dX11_leaves_7 : decode cX11_leaves 7 = .ok (.aload_n 3, 1) := by decide +kernel
theorem dX11_leaves_8 : decode cX11_leaves 8 = .ok (.ifnonnull 7, 3) := by decide +kernel
theorem dX11_leaves_11 : decode cX11_leaves 11 = .ok (.lconst 0, 1) := by decide +kernel
theorem dX11_leaves_12 : decode cX11_leaves 12 = .ok (.goto 7, 3) := by decide +kernel
theorem dX11_leaves_15 : decode cX11_leaves 15 = .ok (.aload_n 3, 1) := by decide +kernel
theorem dX11_leaves_16 : decode cX11_leaves 16 = .ok (.getfield 253, 3) := by decide +kernel
theorem dX11_leaves_19 : decode cX11_leaves 19 = .ok (.lreturn, 1) := by decide +kernel
theorem dX11_jet_0 : decode cX11_jet 0 = .ok (.aload_n 0, 1) := by decide +kernel
theorem dX11_jet_1 : decode cX11_jet 1 = .ok (.iload_n 1, 1) := by decide +kernel
theorem dX11_jet_2 : decode cX11_jet 2 = .ok (.iload_n 2, 1) := by decide +kernel
theorem dX11_jet_3 : decode cX11_jet 3 = .ok (.invokevirtual 256, 3) := by decide +kernel
theorem dX11_jet_6 : decode cX11_jet 6 = .ok (.invokestatic 211, 3) := by decide +kernel
theorem dX11_jet_9 : decode cX11_jet 9 = .ok (.ireturn, 1) := by decide +kernel
theorem dX11_jetOf_0 : decode cX11_jetOf 0 = .ok (.aload_n 0, 1) := by decide +kernel
theorem dX11_jetOf_1 : decode cX11_jetOf 1 = .ok (.iload_n 1, 1) := by decide +kernel
theorem dX11_jetOf_2 : decode cX11_jetOf 2 = .ok (.invokevirtual 144, 3) := by decide +kernel
theorem dX11_jetOf_5 : decode cX11_jetOf 5 = .ok (.astore_n 3, 1) := by decide +kernel
theorem dX11_jetOf_6 : decode cX11_jetOf 6 = .ok (.aload_n 3, 1) := by decide +kernel
theorem dX11_jetOf_7 : decode cX11_jetOf 7 = .ok (.ifnonnull 5, 3) := by decide +kernel
theorem dX11_jetOf_10 : decode cX11_jetOf 10 = .ok (.iconst (-1), 1) := by decide +kernel
theorem dX11_jetOf_11 : decode cX11_jetOf 11 = .ok (.ireturn, 1) := by decide +kernel
theorem dX11_jetOf_12 : decode cX11_jetOf 12 = .ok (.aload_n 3, 1) := by decide +kernel
theorem dX11_jetOf_13 : decode cX11_jetOf 13 = .ok (.iload_n 2, 1) := by decide +kernel
theorem dX11_jetOf_14 : decode cX11_jetOf 14 = .ok (.invokevirtual 259, 3) := by decide +kernel
theorem dX11_jetOf_17 : decode cX11_jetOf 17 = .ok (.astore 4, 2) := by decide +kernel
theorem dX11_jetOf_19 : decode cX11_jetOf 19 = .ok (.aload 4, 2) := by decide +kernel
theorem dX11_jetOf_21 : decode cX11_jetOf 21 = .ok (.ifnonnull 7, 3) := by decide +kernel
theorem dX11_jetOf_24 : decode cX11_jetOf 24 = .ok (.iconst (-1), 1) := by decide +kernel
theorem dX11_jetOf_25 : decode cX11_jetOf 25 = .ok (.goto 15, 3) := by decide +kernel
theorem dX11_jetOf_28 : decode cX11_jetOf 28 = .ok (.aload_n 3, 1) := by decide +kernel
theorem dX11_jetOf_29 : decode cX11_jetOf 29 = .ok (.aload 4, 2) := by decide +kernel
theorem dX11_jetOf_31 : decode cX11_jetOf 31 = .ok (.getfield 253, 3) := by decide +kernel
theorem dX11_jetOf_34 : decode cX11_jetOf 34 = .ok (.invokevirtual 262, 3) := by decide +kernel
theorem dX11_jetOf_37 : decode cX11_jetOf 37 = .ok (.invokestatic 211, 3) := by decide +kernel
theorem dX11_jetOf_40 : decode cX11_jetOf 40 = .ok (.ireturn, 1) := by decide +kernel
theorem dX11_left_0 : decode cX11_left 0 = .ok (.aload_n 0, 1) := by decide +kernel
theorem dX11_left_1 : decode cX11_left 1 = .ok (.iload_n 1, 1) := by decide +kernel
theorem dX11_left_2 : decode cX11_left 2 = .ok (.invokevirtual 144, 3) := by decide +kernel
theorem dX11_left_5 : decode cX11_left 5 = .ok (.astore 4, 2) := by decide +kernel
theorem dX11_left_7 : decode cX11_left 7 = .ok (.aload 4, 2) := by decide +kernel
theorem dX11_left_9 : decode cX11_left 9 = .ok (.ifnull 16, 3) := by decide +kernel
theorem dX11_left_12 : decode cX11_left 12 = .ok (.iload_n 2, 1) := by decide +kernel
theorem dX11_left_13 : decode cX11_left 13 = .ok (.ifCond .lt 12, 3) := by decide +kernel
theorem dX11_left_16 : decode cX11_left 16 = .ok (.iload_n 2, 1) := by decide +kernel
theorem dX11_left_17 : decode cX11_left 17 = .ok (.aload 4, 2) := by decide +kernel
theorem dX11_left_19 : decode cX11_left 19 = .ok (.getfield 192, 3) := by decide +kernel
theorem dX11_left_22 : decode cX11_left 22 = .ok (.if_icmp .le 5, 3) := by decide +kernel
theorem dX11_left_25 : decode cX11_left 25 = .ok (.iconst (-1), 1) := by decide +kernel
theorem dX11_left_26 : decode cX11_left 26 = .ok (.ireturn, 1) := by decide +kernel
theorem dX11_left_27 : decode cX11_left 27 = .ok (.aload 4, 2) := by decide +kernel
theorem dX11_left_29 : decode cX11_left 29 = .ok (.iload_n 2, 1) := by decide +kernel
theorem dX11_left_30 : decode cX11_left 30 = .ok (.iconst 0, 1) := by decide +kernel
theorem dX11_left_31 : decode cX11_left 31 = .ok (.iload_n 3, 1) := by decide +kernel
theorem dX11_left_32 : decode cX11_left 32 = .ok (.invokevirtual 266, 3) := by decide +kernel
theorem dX11_left_35 : decode cX11_left 35 = .ok (.ireturn, 1) := by decide +kernel
theorem dX11_cut_0 : decode cX11_cut 0 = .ok (.aload_n 0, 1) := by decide +kernel
theorem dX11_cut_1 : decode cX11_cut 1 = .ok (.iload_n 1, 1) := by decide +kernel
theorem dX11_cut_2 : decode cX11_cut 2 = .ok (.invokevirtual 144, 3) := by decide +kernel
theorem dX11_cut_5 : decode cX11_cut 5 = .ok (.astore 4, 2) := by decide +kernel
theorem dX11_cut_7 : decode cX11_cut 7 = .ok (.aload 4, 2) := by decide +kernel
theorem dX11_cut_9 : decode cX11_cut 9 = .ok (.ifnonnull 7, 3) := by decide +kernel
theorem dX11_cut_12 : decode cX11_cut 12 = .ok (.iconst (-1), 1) := by decide +kernel
theorem dX11_cut_13 : decode cX11_cut 13 = .ok (.goto 9, 3) := by decide +kernel
theorem dX11_cut_16 : decode cX11_cut 16 = .ok (.aload 4, 2) := by decide +kernel
theorem dX11_cut_18 : decode cX11_cut 18 = .ok (.iload_n 2, 1) := by decide +kernel
theorem dX11_cut_19 : decode cX11_cut 19 = .ok (.invokevirtual 148, 3) := by decide +kernel
theorem dX11_cut_22 : decode cX11_cut 22 = .ok (.istore 5, 2) := by decide +kernel
theorem dX11_cut_24 : decode cX11_cut 24 = .ok (.aload 4, 2) := by decide +kernel
theorem dX11_cut_26 : decode cX11_cut 26 = .ok (.ifnull 9, 3) := by decide +kernel
theorem dX11_cut_29 : decode cX11_cut 29 = .ok (.iload 5, 2) := by decide +kernel
theorem dX11_cut_31 : decode cX11_cut 31 = .ok (.iconst (-1), 1) := by decide +kernel
theorem dX11_cut_32 : decode cX11_cut 32 = .ok (.if_icmp .ne 7, 3) := by decide +kernel
theorem dX11_cut_35 : decode cX11_cut 35 = .ok (.iconst (-1), 1) := by decide +kernel
theorem dX11_cut_36 : decode cX11_cut 36 = .ok (.goto 12, 3) := by decide +kernel
theorem dX11_cut_39 : decode cX11_cut 39 = .ok (.aload 4, 2) := by decide +kernel
theorem dX11_cut_41 : decode cX11_cut 41 = .ok (.iload 5, 2) := by decide +kernel
theorem dX11_cut_43 : decode cX11_cut 43 = .ok (.iconst 1, 1) := by decide +kernel
theorem dX11_cut_44 : decode cX11_cut 44 = .ok (.iload_n 3, 1) := by decide +kernel
theorem dX11_cut_45 : decode cX11_cut 45 = .ok (.invokevirtual 266, 3) := by decide +kernel
theorem dX11_cut_48 : decode cX11_cut 48 = .ok (.ireturn, 1) := by decide +kernel
theorem dX11_cutBy_0 : decode cX11_cutBy 0 = .ok (.aload_n 0, 1) := by decide +kernel
theorem dX11_cutBy_1 : decode cX11_cutBy 1 = .ok (.iload_n 1, 1) := by decide +kernel
theorem dX11_cutBy_2 : decode cX11_cutBy 2 = .ok (.invokevirtual 144, 3) := by decide +kernel
theorem dX11_cutBy_5 : decode cX11_cutBy 5 = .ok (.astore 5, 2) := by decide +kernel
theorem dX11_cutBy_7 : decode cX11_cutBy 7 = .ok (.aload 5, 2) := by decide +kernel
theorem dX11_cutBy_9 : decode cX11_cutBy 9 = .ok (.ifnull 12, 3) := by decide +kernel
theorem dX11_cutBy_12 : decode cX11_cutBy 12 = .ok (.iload_n 2, 1) := by decide +kernel
theorem dX11_cutBy_13 : decode cX11_cutBy 13 = .ok (.ifCond .lt 8, 3) := by decide +kernel
theorem dX11_cutBy_16 : decode cX11_cutBy 16 = .ok (.iload_n 3, 1) := by decide +kernel
theorem dX11_cutBy_17 : decode cX11_cutBy 17 = .ok (.iconst 1, 1) := by decide +kernel
theorem dX11_cutBy_18 : decode cX11_cutBy 18 = .ok (.if_icmp .ge 5, 3) := by decide +kernel
theorem dX11_cutBy_21 : decode cX11_cutBy 21 = .ok (.iconst (-1), 1) := by decide +kernel
theorem dX11_cutBy_22 : decode cX11_cutBy 22 = .ok (.ireturn, 1) := by decide +kernel
theorem dX11_cutBy_23 : decode cX11_cutBy 23 = .ok (.aload 5, 2) := by decide +kernel
theorem dX11_cutBy_25 : decode cX11_cutBy 25 = .ok (.aload 5, 2) := by decide +kernel
theorem dX11_cutBy_27 : decode cX11_cutBy 27 = .ok (.iload_n 2, 1) := by decide +kernel
theorem dX11_cutBy_28 : decode cX11_cutBy 28 = .ok (.i2l, 1) := by decide +kernel
theorem dX11_cutBy_29 : decode cX11_cutBy 29 = .ok (.iload_n 3, 1) := by decide +kernel
theorem dX11_cutBy_30 : decode cX11_cutBy 30 = .ok (.i2l, 1) := by decide +kernel
theorem dX11_cutBy_31 : decode cX11_cutBy 31 = .ok (.invokevirtual 270, 3) := by decide +kernel
theorem dX11_cutBy_34 : decode cX11_cutBy 34 = .ok (.iconst 1, 1) := by decide +kernel
theorem dX11_cutBy_35 : decode cX11_cutBy 35 = .ok (.iload 4, 2) := by decide +kernel
theorem dX11_cutBy_37 : decode cX11_cutBy 37 = .ok (.invokevirtual 266, 3) := by decide +kernel
theorem dX11_cutBy_40 : decode cX11_cutBy 40 = .ok (.ireturn, 1) := by decide +kernel
theorem dX11_together_0 : decode cX11_together 0 = .ok (.aload_n 0, 1) := by decide +kernel
theorem dX11_together_1 : decode cX11_together 1 = .ok (.iload_n 1, 1) := by decide +kernel
theorem dX11_together_2 : decode cX11_together 2 = .ok (.invokevirtual 144, 3) := by decide +kernel
theorem dX11_together_5 : decode cX11_together 5 = .ok (.astore 4, 2) := by decide +kernel
theorem dX11_together_7 : decode cX11_together 7 = .ok (.aload 4, 2) := by decide +kernel
theorem dX11_together_9 : decode cX11_together 9 = .ok (.ifnull 8, 3) := by decide +kernel
theorem dX11_together_12 : decode cX11_together 12 = .ok (.iload_n 2, 1) := by decide +kernel
theorem dX11_together_13 : decode cX11_together 13 = .ok (.iload_n 3, 1) := by decide +kernel
theorem dX11_together_14 : decode cX11_together 14 = .ok (.if_icmp .ne 5, 3) := by decide +kernel
theorem dX11_together_17 : decode cX11_together 17 = .ok (.iconst (-1), 1) := by decide +kernel
theorem dX11_together_18 : decode cX11_together 18 = .ok (.ireturn, 1) := by decide +kernel
theorem dX11_together_19 : decode cX11_together 19 = .ok (.aload 4, 2) := by decide +kernel
theorem dX11_together_21 : decode cX11_together 21 = .ok (.iload_n 2, 1) := by decide +kernel
theorem dX11_together_22 : decode cX11_together 22 = .ok (.invokevirtual 259, 3) := by decide +kernel
theorem dX11_together_25 : decode cX11_together 25 = .ok (.astore 5, 2) := by decide +kernel
theorem dX11_together_27 : decode cX11_together 27 = .ok (.aload 4, 2) := by decide +kernel
theorem dX11_together_29 : decode cX11_together 29 = .ok (.iload_n 3, 1) := by decide +kernel
theorem dX11_together_30 : decode cX11_together 30 = .ok (.invokevirtual 259, 3) := by decide +kernel
theorem dX11_together_33 : decode cX11_together 33 = .ok (.astore 6, 2) := by decide +kernel
theorem dX11_together_35 : decode cX11_together 35 = .ok (.aload 5, 2) := by decide +kernel
theorem dX11_together_37 : decode cX11_together 37 = .ok (.ifnull 8, 3) := by decide +kernel
theorem dX11_together_40 : decode cX11_together 40 = .ok (.aload 6, 2) := by decide +kernel
theorem dX11_together_42 : decode cX11_together 42 = .ok (.ifnonnull 7, 3) := by decide +kernel
theorem dX11_together_45 : decode cX11_together 45 = .ok (.iconst (-1), 1) := by decide +kernel
theorem dX11_together_46 : decode cX11_together 46 = .ok (.goto 19, 3) := by decide +kernel
theorem dX11_together_49 : decode cX11_together 49 = .ok (.aload 4, 2) := by decide +kernel
theorem dX11_together_51 : decode cX11_together 51 = .ok (.aload 5, 2) := by decide +kernel
theorem dX11_together_53 : decode cX11_together 53 = .ok (.getfield 253, 3) := by decide +kernel
theorem dX11_together_56 : decode cX11_together 56 = .ok (.aload 6, 2) := by decide +kernel
theorem dX11_together_58 : decode cX11_together 58 = .ok (.getfield 253, 3) := by decide +kernel
theorem dX11_together_61 : decode cX11_together 61 = .ok (.lor, 1) := by decide +kernel
theorem dX11_together_62 : decode cX11_together 62 = .ok (.invokevirtual 274, 3) := by decide +kernel
theorem dX11_together_65 : decode cX11_together 65 = .ok (.ireturn, 1) := by decide +kernel
theorem dX11_groom_0 : decode cX11_groom 0 = .ok (.aload_n 0, 1) := by decide +kernel
theorem dX11_groom_1 : decode cX11_groom 1 = .ok (.iload_n 1, 1) := by decide +kernel
theorem dX11_groom_2 : decode cX11_groom 2 = .ok (.invokevirtual 144, 3) := by decide +kernel
theorem dX11_groom_5 : decode cX11_groom 5 = .ok (.astore 5, 2) := by decide +kernel
theorem dX11_groom_7 : decode cX11_groom 7 = .ok (.aload_n 0, 1) := by decide +kernel
theorem dX11_groom_8 : decode cX11_groom 8 = .ok (.iload_n 1, 1) := by decide +kernel
theorem dX11_groom_9 : decode cX11_groom 9 = .ok (.iload_n 2, 1) := by decide +kernel
theorem dX11_groom_10 : decode cX11_groom 10 = .ok (.invokevirtual 159, 3) := by decide +kernel
theorem dX11_groom_13 : decode cX11_groom 13 = .ok (.astore 6, 2) := by decide +kernel
theorem dX11_groom_15 : decode cX11_groom 15 = .ok (.aload 5, 2) := by decide +kernel
theorem dX11_groom_17 : decode cX11_groom 17 = .ok (.ifnull 26, 3) := by decide +kernel
theorem dX11_groom_20 : decode cX11_groom 20 = .ok (.aload 6, 2) := by decide +kernel
theorem dX11_groom_22 : decode cX11_groom 22 = .ok (.ifnull 21, 3) := by decide +kernel
theorem dX11_groom_25 : decode cX11_groom 25 = .ok (.iload_n 3, 1) := by decide +kernel
theorem dX11_groom_26 : decode cX11_groom 26 = .ok (.invokestatic 278, 3) := by decide +kernel
theorem dX11_groom_29 : decode cX11_groom 29 = .ok (.ifCond .eq 14, 3) := by decide +kernel
theorem dX11_groom_32 : decode cX11_groom 32 = .ok (.iload 4, 2) := by decide +kernel
theorem dX11_groom_34 : decode cX11_groom 34 = .ok (.ifCond .lt 9, 3) := by decide +kernel
theorem dX11_groom_37 : decode cX11_groom 37 = .ok (.iload 4, 2) := by decide +kernel
theorem dX11_groom_39 : decode cX11_groom 39 = .ok (.iconst 1, 1) := by decide +kernel
theorem dX11_groom_40 : decode cX11_groom 40 = .ok (.if_icmp .le 5, 3) := by decide +kernel
theorem dX11_groom_43 : decode cX11_groom 43 = .ok (.iconst (-1), 1) := by decide +kernel
theorem dX11_groom_44 : decode cX11_groom 44 = .ok (.ireturn, 1) := by decide +kernel
theorem dX11_groom_45 : decode cX11_groom 45 = .ok (.aload 6, 2) := by decide +kernel
theorem dX11_groom_47 : decode cX11_groom 47 = .ok (.iload_n 3, 1) := by decide +kernel
theorem dX11_groom_48 : decode cX11_groom 48 = .ok (.iload 4, 2) := by decide +kernel
theorem dX11_groom_50 : decode cX11_groom 50 = .ok (.iconst 1, 1) := by decide +kernel
theorem dX11_groom_51 : decode cX11_groom 51 = .ok (.if_icmp .ne 7, 3) := by decide +kernel
theorem dX11_groom_54 : decode cX11_groom 54 = .ok (.iconst 1, 1) := by decide +kernel
theorem dX11_groom_55 : decode cX11_groom 55 = .ok (.goto 4, 3) := by decide +kernel
theorem dX11_groom_58 : decode cX11_groom 58 = .ok (.iconst 0, 1) := by decide +kernel
theorem dX11_groom_59 : decode cX11_groom 59 = .ok (.aload 5, 2) := by decide +kernel
theorem dX11_groom_61 : decode cX11_groom 61 = .ok (.getfield 198, 3) := by decide +kernel
theorem dX11_groom_64 : decode cX11_groom 64 = .ok (.invokestatic 281, 3) := by decide +kernel
theorem dX11_groom_67 : decode cX11_groom 67 = .ok (.invokestatic 211, 3) := by decide +kernel
theorem dX11_groom_70 : decode cX11_groom 70 = .ok (.ireturn, 1) := by decide +kernel
theorem dX11_trim_0 : decode cX11_trim 0 = .ok (.aload_n 0, 1) := by decide +kernel
theorem dX11_trim_1 : decode cX11_trim 1 = .ok (.iload_n 1, 1) := by decide +kernel
theorem dX11_trim_2 : decode cX11_trim 2 = .ok (.invokevirtual 144, 3) := by decide +kernel
theorem dX11_trim_5 : decode cX11_trim 5 = .ok (.astore 5, 2) := by decide +kernel
theorem dX11_trim_7 : decode cX11_trim 7 = .ok (.aload_n 0, 1) := by decide +kernel
theorem dX11_trim_8 : decode cX11_trim 8 = .ok (.iload_n 1, 1) := by decide +kernel
theorem dX11_trim_9 : decode cX11_trim 9 = .ok (.iload_n 2, 1) := by decide +kernel
theorem dX11_trim_10 : decode cX11_trim 10 = .ok (.invokevirtual 159, 3) := by decide +kernel
theorem dX11_trim_13 : decode cX11_trim 13 = .ok (.astore 6, 2) := by decide +kernel
theorem dX11_trim_15 : decode cX11_trim 15 = .ok (.aload 5, 2) := by decide +kernel
theorem dX11_trim_17 : decode cX11_trim 17 = .ok (.ifnull 23, 3) := by decide +kernel
theorem dX11_trim_20 : decode cX11_trim 20 = .ok (.aload 6, 2) := by decide +kernel
theorem dX11_trim_22 : decode cX11_trim 22 = .ok (.ifnull 18, 3) := by decide +kernel
theorem dX11_trim_25 : decode cX11_trim 25 = .ok (.iload_n 3, 1) := by decide +kernel
theorem dX11_trim_26 : decode cX11_trim 26 = .ok (.invokestatic 113, 3) := by decide +kernel
theorem dX11_trim_29 : decode cX11_trim 29 = .ok (.ifCond .eq 11, 3) := by decide +kernel
theorem dX11_trim_32 : decode cX11_trim 32 = .ok (.iload 4, 2) := by decide +kernel
theorem dX11_trim_34 : decode cX11_trim 34 = .ok (.invokestatic 278, 3) := by decide +kernel
theorem dX11_trim_37 : decode cX11_trim 37 = .ok (.ifCond .ne 5, 3) := by decide +kernel
theorem dX11_trim_40 : decode cX11_trim 40 = .ok (.lconst 0, 1) := by decide +kernel
theorem dX11_trim_41 : decode cX11_trim 41 = .ok (.lreturn, 1) := by decide +kernel
theorem dX11_trim_42 : decode cX11_trim 42 = .ok (.aload 5, 2) := by decide +kernel
theorem dX11_trim_44 : decode cX11_trim 44 = .ok (.aload 6, 2) := by decide +kernel
theorem dX11_trim_46 : decode cX11_trim 46 = .ok (.aload 5, 2) := by decide +kernel
theorem dX11_trim_48 : decode cX11_trim 48 = .ok (.getfield 199, 3) := by decide +kernel
theorem dX11_trim_51 : decode cX11_trim 51 = .ok (.iload_n 3, 1) := by decide +kernel
theorem dX11_trim_52 : decode cX11_trim 52 = .ok (.invokestatic 163, 3) := by decide +kernel
theorem dX11_trim_55 : decode cX11_trim 55 = .ok (.astore 7, 2) := by decide +kernel
theorem dX11_trim_57 : decode cX11_trim 57 = .ok (.aload 7, 2) := by decide +kernel
theorem dX11_trim_59 : decode cX11_trim 59 = .ok (.aload 6, 2) := by decide +kernel
theorem dX11_trim_61 : decode cX11_trim 61 = .ok (.iload 4, 2) := by decide +kernel
theorem dX11_trim_63 : decode cX11_trim 63 = .ok (.invokestatic 285, 3) := by decide +kernel
theorem dX11_trim_66 : decode cX11_trim 66 = .ok (.lreturn, 1) := by decide +kernel
theorem dX11_prune_0 : decode cX11_prune 0 = .ok (.aload_n 0, 1) := by decide +kernel
theorem dX11_prune_1 : decode cX11_prune 1 = .ok (.iload_n 1, 1) := by decide +kernel
theorem dX11_prune_2 : decode cX11_prune 2 = .ok (.invokevirtual 144, 3) := by decide +kernel
theorem dX11_prune_5 : decode cX11_prune 5 = .ok (.astore 5, 2) := by decide +kernel
theorem dX11_prune_7 : decode cX11_prune 7 = .ok (.aload_n 0, 1) := by decide +kernel
theorem dX11_prune_8 : decode cX11_prune 8 = .ok (.iload_n 1, 1) := by decide +kernel
theorem dX11_prune_9 : decode cX11_prune 9 = .ok (.iload_n 2, 1) := by decide +kernel
theorem dX11_prune_10 : decode cX11_prune 10 = .ok (.invokevirtual 159, 3) := by decide +kernel
theorem dX11_prune_13 : decode cX11_prune 13 = .ok (.astore 6, 2) := by decide +kernel
theorem dX11_prune_15 : decode cX11_prune 15 = .ok (.aload 5, 2) := by decide +kernel
theorem dX11_prune_17 : decode cX11_prune 17 = .ok (.ifnull 23, 3) := by decide +kernel
theorem dX11_prune_20 : decode cX11_prune 20 = .ok (.aload 6, 2) := by decide +kernel
theorem dX11_prune_22 : decode cX11_prune 22 = .ok (.ifnull 18, 3) := by decide +kernel
theorem dX11_prune_25 : decode cX11_prune 25 = .ok (.iload_n 3, 1) := by decide +kernel
theorem dX11_prune_26 : decode cX11_prune 26 = .ok (.invokestatic 278, 3) := by decide +kernel
theorem dX11_prune_29 : decode cX11_prune 29 = .ok (.ifCond .eq 11, 3) := by decide +kernel
theorem dX11_prune_32 : decode cX11_prune 32 = .ok (.iload 4, 2) := by decide +kernel
theorem dX11_prune_34 : decode cX11_prune 34 = .ok (.invokestatic 113, 3) := by decide +kernel
theorem dX11_prune_37 : decode cX11_prune 37 = .ok (.ifCond .ne 5, 3) := by decide +kernel
theorem dX11_prune_40 : decode cX11_prune 40 = .ok (.lconst 0, 1) := by decide +kernel
theorem dX11_prune_41 : decode cX11_prune 41 = .ok (.lreturn, 1) := by decide +kernel
theorem dX11_prune_42 : decode cX11_prune 42 = .ok (.aload 5, 2) := by decide +kernel
theorem dX11_prune_44 : decode cX11_prune 44 = .ok (.aload 6, 2) := by decide +kernel
theorem dX11_prune_46 : decode cX11_prune 46 = .ok (.iload_n 3, 1) := by decide +kernel
theorem dX11_prune_47 : decode cX11_prune 47 = .ok (.iload 4, 2) := by decide +kernel
theorem dX11_prune_49 : decode cX11_prune 49 = .ok (.invokestatic 289, 3) := by decide +kernel
theorem dX11_prune_52 : decode cX11_prune 52 = .ok (.lreturn, 1) := by decide +kernel
theorem dX11_split_0 : decode cX11_split 0 = .ok (.aload_n 0, 1) := by decide +kernel
theorem dX11_split_1 : decode cX11_split 1 = .ok (.iload_n 1, 1) := by decide +kernel
theorem dX11_split_2 : decode cX11_split 2 = .ok (.iload_n 2, 1) := by decide +kernel
theorem dX11_split_3 : decode cX11_split 3 = .ok (.invokevirtual 159, 3) := by decide +kernel
theorem dX11_split_6 : decode cX11_split 6 = .ok (.astore 5, 2) := by decide +kernel
theorem dX11_split_8 : decode cX11_split 8 = .ok (.aload 5, 2) := by decide +kernel
theorem dX11_split_10 : decode cX11_split 10 = .ok (.ifnonnull 5, 3) := by decide +kernel
theorem dX11_split_13 : decode cX11_split 13 = .ok (.iconst (-1), 1) := by decide +kernel
theorem dX11_split_14 : decode cX11_split 14 = .ok (.ireturn, 1) := by decide +kernel
theorem dX11_split_15 : decode cX11_split 15 = .ok (.iload_n 3, 1) := by decide +kernel
theorem dX11_split_16 : decode cX11_split 16 = .ok (.iconst (-1), 1) := by decide +kernel
theorem dX11_split_17 : decode cX11_split 17 = .ok (.if_icmp .ne 9, 3) := by decide +kernel
theorem dX11_split_20 : decode cX11_split 20 = .ok (.aload 5, 2) := by decide +kernel
theorem dX11_split_22 : decode cX11_split 22 = .ok (.invokestatic 293, 3) := by decide +kernel
theorem dX11_split_25 : decode cX11_split 25 = .ok (.ireturn, 1) := by decide +kernel
theorem dX11_split_26 : decode cX11_split 26 = .ok (.aload 5, 2) := by decide +kernel
theorem dX11_split_28 : decode cX11_split 28 = .ok (.iload_n 3, 1) := by decide +kernel
theorem dX11_split_29 : decode cX11_split 29 = .ok (.invokestatic 296, 3) := by decide +kernel
theorem dX11_split_32 : decode cX11_split 32 = .ok (.astore 6, 2) := by decide +kernel
theorem dX11_split_34 : decode cX11_split 34 = .ok (.aload 6, 2) := by decide +kernel
theorem dX11_split_36 : decode cX11_split 36 = .ok (.ifnonnull 5, 3) := by decide +kernel
theorem dX11_split_39 : decode cX11_split 39 = .ok (.iconst (-1), 1) := by decide +kernel
theorem dX11_split_40 : decode cX11_split 40 = .ok (.ireturn, 1) := by decide +kernel
theorem dX11_split_41 : decode cX11_split 41 = .ok (.iload 4, 2) := by decide +kernel
theorem dX11_split_43 : decode cX11_split 43 = .ok (.tableswitch 46 0 2 #[25, 34, 40], 25) := by decide +kernel
theorem dX11_split_68 : decode cX11_split 68 = .ok (.aload 6, 2) := by decide +kernel
theorem dX11_split_70 : decode cX11_split 70 = .ok (.getfield 201, 3) := by decide +kernel
theorem dX11_split_73 : decode cX11_split 73 = .ok (.getfield 300, 3) := by decide +kernel
theorem dX11_split_76 : decode cX11_split 76 = .ok (.ireturn, 1) := by decide +kernel
theorem dX11_split_77 : decode cX11_split 77 = .ok (.aload 6, 2) := by decide +kernel
theorem dX11_split_79 : decode cX11_split 79 = .ok (.invokestatic 303, 3) := by decide +kernel
theorem dX11_split_82 : decode cX11_split 82 = .ok (.ireturn, 1) := by decide +kernel
theorem dX11_split_83 : decode cX11_split 83 = .ok (.aload 6, 2) := by decide +kernel
theorem dX11_split_85 : decode cX11_split 85 = .ok (.invokevirtual 306, 3) := by decide +kernel
theorem dX11_split_88 : decode cX11_split 88 = .ok (.ireturn, 1) := by decide +kernel
theorem dX11_split_89 : decode cX11_split 89 = .ok (.iconst (-1), 1) := by decide +kernel
