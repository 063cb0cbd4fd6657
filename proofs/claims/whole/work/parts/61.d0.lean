theorem dX0_init_0 : decode cX0_init 0 = .ok (.aload_n 0, 1) := by decide +kernel
theorem dX0_init_1 : decode cX0_init 1 = .ok (.invokespecial 3, 3) := by decide +kernel
theorem dX0_init_4 : decode cX0_init 4 = .ok (.aload_n 0, 1) := by decide +kernel
theorem dX0_init_5 : decode cX0_init 5 = .ok (.iload_n 1, 1) := by decide +kernel
theorem dX0_init_6 : decode cX0_init 6 = .ok (.putfield 9, 3) := by decide +kernel
theorem dX0_init_9 : decode cX0_init 9 = .ok (.aload_n 0, 1) := by decide +kernel
theorem dX0_init_10 : decode cX0_init 10 = .ok (.iload_n 2, 1) := by decide +kernel
theorem dX0_init_11 : decode cX0_init 11 = .ok (.putfield 15, 3) := by decide +kernel
theorem dX0_init_14 : decode cX0_init 14 = .ok (.aload_n 0, 1) := by decide +kernel
theorem dX0_init_15 : decode cX0_init 15 = .ok (.iload_n 3, 1) := by decide +kernel
theorem dX0_init_16 : decode cX0_init 16 = .ok (.putfield 18, 3) := by decide +kernel
theorem dX0_init_19 : decode cX0_init 19 = .ok (.aload_n 0, 1) := by decide +kernel
theorem dX0_init_20 : decode cX0_init 20 = .ok (.iload 4, 2) := by decide +kernel
theorem dX0_init_22 : decode cX0_init 22 = .ok (.putfield 21, 3) := by decide +kernel
theorem dX0_init_25 : decode cX0_init 25 = .ok (.return_, 1) := by decide +kernel
theorem dX0_numbered_0 : decode cX0_numbered 0 = .ok (.new 10, 3) := by decide +kernel
theorem dX0_numbered_3 : decode cX0_numbered 3 = .ok (.dup, 1) := by decide +kernel
theorem dX0_numbered_4 : decode cX0_numbered 4 = .ok (.iload_n 1, 1) := by decide +kernel
theorem dX0_numbered_5 : decode cX0_numbered 5 = .ok (.aload_n 0, 1) := by decide +kernel
theorem dX0_numbered_6 : decode cX0_numbered 6 = .ok (.getfield 15, 3) := by decide +kernel
theorem dX0_numbered_9 : decode cX0_numbered 9 = .ok (.aload_n 0, 1) := by decide +kernel
theorem dX0_numbered_10 : decode cX0_numbered 10 = .ok (.getfield 18, 3) := by decide +kernel
theorem dX0_numbered_13 : decode cX0_numbered 13 = .ok (.aload_n 0, 1) := by decide +kernel
theorem dX0_numbered_14 : decode cX0_numbered 14 = .ok (.getfield 21, 3) := by decide +kernel
theorem dX0_numbered_17 : decode cX0_numbered 17 = .ok (.invokespecial 24, 3) := by decide +kernel
theorem dX0_numbered_20 : decode cX0_numbered 20 = .ok (.areturn, 1) := by decide +kernel
theorem dX0_isAheadOf_0 : decode cX0_isAheadOf 0 = .ok (.aload_n 0, 1) := by decide +kernel
theorem dX0_isAheadOf_1 : decode cX0_isAheadOf 1 = .ok (.getfield 15, 3) := by decide +kernel
theorem dX0_isAheadOf_4 : decode cX0_isAheadOf 4 = .ok (.aload_n 1, 1) := by decide +kernel
theorem dX0_isAheadOf_5 : decode cX0_isAheadOf 5 = .ok (.getfield 15, 3) := by decide +kernel
theorem dX0_isAheadOf_8 : decode cX0_isAheadOf 8 = .ok (.if_icmp .eq 20, 3) := by decide +kernel
theorem dX0_isAheadOf_11 : decode cX0_isAheadOf 11 = .ok (.aload_n 0, 1) := by decide +kernel
theorem dX0_isAheadOf_12 : decode cX0_isAheadOf 12 = .ok (.getfield 15, 3) := by decide +kernel
theorem dX0_isAheadOf_15 : decode cX0_isAheadOf 15 = .ok (.aload_n 1, 1) := by decide +kernel
theorem dX0_isAheadOf_16 : decode cX0_isAheadOf 16 = .ok (.getfield 15, 3) := by decide +kernel
theorem dX0_isAheadOf_19 : decode cX0_isAheadOf 19 = .ok (.if_icmp .ge 7, 3) := by decide +kernel
theorem dX0_isAheadOf_22 : decode cX0_isAheadOf 22 = .ok (.iconst 1, 1) := by decide +kernel
theorem dX0_isAheadOf_23 : decode cX0_isAheadOf 23 = .ok (.goto 4, 3) := by decide +kernel
theorem dX0_isAheadOf_26 : decode cX0_isAheadOf 26 = .ok (.iconst 0, 1) := by decide +kernel
theorem dX0_isAheadOf_27 : decode cX0_isAheadOf 27 = .ok (.ireturn, 1) := by decide +kernel
theorem dX0_isAheadOf_28 : decode cX0_isAheadOf 28 = .ok (.aload_n 0, 1) := by decide +kernel
theorem dX0_isAheadOf_29 : decode cX0_isAheadOf 29 = .ok (.getfield 18, 3) := by decide +kernel
theorem dX0_isAheadOf_32 : decode cX0_isAheadOf 32 = .ok (.aload_n 1, 1) := by decide +kernel
theorem dX0_isAheadOf_33 : decode cX0_isAheadOf 33 = .ok (.getfield 18, 3) := by decide +kernel
theorem dX0_isAheadOf_36 : decode cX0_isAheadOf 36 = .ok (.if_icmp .eq 20, 3) := by decide +kernel
theorem dX0_isAheadOf_39 : decode cX0_isAheadOf 39 = .ok (.aload_n 0, 1) := by decide +kernel
theorem dX0_isAheadOf_40 : decode cX0_isAheadOf 40 = .ok (.getfield 18, 3) := by decide +kernel
theorem dX0_isAheadOf_43 : decode cX0_isAheadOf 43 = .ok (.aload_n 1, 1) := by decide +kernel
theorem dX0_isAheadOf_44 : decode cX0_isAheadOf 44 = .ok (.getfield 18, 3) := by decide +kernel
theorem dX0_isAheadOf_47 : decode cX0_isAheadOf 47 = .ok (.if_icmp .ge 7, 3) := by decide +kernel
theorem dX0_isAheadOf_50 : decode cX0_isAheadOf 50 = .ok (.iconst 1, 1) := by decide +kernel
theorem dX0_isAheadOf_51 : decode cX0_isAheadOf 51 = .ok (.goto 4, 3) := by decide +kernel
theorem dX0_isAheadOf_54 : decode cX0_isAheadOf 54 = .ok (.iconst 0, 1) := by decide +kernel
theorem dX0_isAheadOf_55 : decode cX0_isAheadOf 55 = .ok (.ireturn, 1) := by decide +kernel
theorem dX0_isAheadOf_56 : decode cX0_isAheadOf 56 = .ok (.aload_n 0, 1) := by decide +kernel
theorem dX0_isAheadOf_57 : decode cX0_isAheadOf 57 = .ok (.getfield 21, 3) := by decide +kernel
theorem dX0_isAheadOf_60 : decode cX0_isAheadOf 60 = .ok (.aload_n 1, 1) := by decide +kernel
theorem dX0_isAheadOf_61 : decode cX0_isAheadOf 61 = .ok (.getfield 21, 3) := by decide +kernel
theorem dX0_isAheadOf_64 : decode cX0_isAheadOf 64 = .ok (.if_icmp .eq 20, 3) := by decide +kernel
theorem dX0_isAheadOf_67 : decode cX0_isAheadOf 67 = .ok (.aload_n 0, 1) := by decide +kernel
theorem dX0_isAheadOf_68 : decode cX0_isAheadOf 68 = .ok (.getfield 21, 3) := by decide +kernel
theorem dX0_isAheadOf_71 : decode cX0_isAheadOf 71 = .ok (.aload_n 1, 1) := by decide +kernel
theorem dX0_isAheadOf_72 : decode cX0_isAheadOf 72 = .ok (.getfield 21, 3) := by decide +kernel
theorem dX0_isAheadOf_75 : decode cX0_isAheadOf 75 = .ok (.if_icmp .ge 7, 3) := by decide +kernel
theorem dX0_isAheadOf_78 : decode cX0_isAheadOf 78 = .ok (.iconst 1, 1) := by decide +kernel
theorem dX0_isAheadOf_79 : decode cX0_isAheadOf 79 = .ok (.goto 4, 3) := by decide +kernel
theorem dX0_isAheadOf_82 : decode cX0_isAheadOf 82 = .ok (.iconst 0, 1) := by decide +kernel
theorem dX0_isAheadOf_83 : decode cX0_isAheadOf 83 = .ok (.ireturn, 1) := by decide +kernel
theorem dX0_isAheadOf_84 : decode cX0_isAheadOf 84 = .ok (.aload_n 0, 1) := by decide +kernel
theorem dX0_isAheadOf_85 : decode cX0_isAheadOf 85 = .ok (.getfield 9, 3) := by decide +kernel
theorem dX0_isAheadOf_88 : decode cX0_isAheadOf 88 = .ok (.aload_n 1, 1) := by decide +kernel
theorem dX0_isAheadOf_89 : decode cX0_isAheadOf 89 = .ok (.getfield 9, 3) := by decide +kernel
theorem dX0_isAheadOf_92 : decode cX0_isAheadOf 92 = .ok (.if_icmp .ge 7, 3) := by decide +kernel
theorem dX0_isAheadOf_95 : decode cX0_isAheadOf 95 = .ok (.iconst 1, 1) := by decide +kernel
theorem dX0_isAheadOf_96 : decode cX0_isAheadOf 96 = .ok (.goto 4, 3) := by decide +kernel
theorem dX0_isAheadOf_99 : decode cX0_isAheadOf 99 = .ok (.iconst 0, 1) := by decide +kernel
theorem dX0_isAheadOf_100 : decode cX0_isAheadOf 100 = .ok (.ireturn, 1) := by decide +kernel
theorem dX0_squareTo_0 : decode cX0_squareTo 0 = .ok (.aload_n 0, 1) := by decide +kernel
theorem dX0_squareTo_1 : decode cX0_squareTo 1 = .ok (.aload_n 1, 1) := by decide +kernel
theorem dX0_squareTo_2 : decode cX0_squareTo 2 = .ok (.getfield 15, 3) := by decide +kernel
theorem dX0_squareTo_5 : decode cX0_squareTo 5 = .ok (.aload_n 1, 1) := by decide +kernel
theorem dX0_squareTo_6 : decode cX0_squareTo 6 = .ok (.getfield 18, 3) := by decide +kernel
theorem dX0_squareTo_9 : decode cX0_squareTo 9 = .ok (.invokevirtual 27, 3) := by decide +kernel
theorem dX0_squareTo_12 : decode cX0_squareTo 12 = .ok (.ireturn, 1) := by decide +kernel
theorem dX0_squareTo__0 : decode cX0_squareTo_ 0 = .ok (.aload_n 0, 1) := by decide +kernel
theorem dX0_squareTo__1 : decode cX0_squareTo_ 1 = .ok (.getfield 15, 3) := by decide +kernel
theorem dX0_squareTo__4 : decode cX0_squareTo_ 4 = .ok (.iload_n 1, 1) := by decide +kernel
theorem dX0_squareTo__5 : decode cX0_squareTo_ 5 = .ok (.isub, 1) := by decide +kernel
theorem dX0_squareTo__6 : decode cX0_squareTo_ 6 = .ok (.istore_n 3, 1) := by decide +kernel
theorem dX0_squareTo__7 : decode cX0_squareTo_ 7 = .ok (.aload_n 0, 1) := by decide +kernel
theorem dX0_squareTo__8 : decode cX0_squareTo_ 8 = .ok (.getfield 18, 3) := by decide +kernel
theorem dX0_squareTo__11 : decode cX0_squareTo_ 11 = .ok (.iload_n 2, 1) := by decide +kernel
theorem dX0_squareTo__12 : decode cX0_squareTo_ 12 = .ok (.invokestatic 31, 3) := by decide +kernel
theorem dX0_squareTo__15 : decode cX0_squareTo_ 15 = .ok (.istore 4, 2) := by decide +kernel
theorem dX0_squareTo__17 : decode cX0_squareTo_ 17 = .ok (.iload_n 3, 1) := by decide +kernel
theorem dX0_squareTo__18 : decode cX0_squareTo_ 18 = .ok (.iload_n 3, 1) := by decide +kernel
theorem dX0_squareTo__19 : decode cX0_squareTo_ 19 = .ok (.imul, 1) := by decide +kernel
theorem dX0_squareTo__20 : decode cX0_squareTo_ 20 = .ok (.iload 4, 2) := by decide +kernel
theorem dX0_squareTo__22 : decode cX0_squareTo_ 22 = .ok (.iload 4, 2) := by decide +kernel
theorem dX0_squareTo__24 : decode cX0_squareTo_ 24 = .ok (.imul, 1) := by decide +kernel
theorem dX0_squareTo__25 : decode cX0_squareTo_ 25 = .ok (.iadd, 1) := by decide +kernel
theorem dX0_squareTo__26 : decode cX0_squareTo_ 26 = .ok (.ireturn, 1) := by decide +kernel
theorem dX0_pairedWith_0 : decode cX0_pairedWith 0 = .ok (.aload_n 0, 1) := by decide +kernel
theorem dX0_pairedWith_1 : decode cX0_pairedWith 1 = .ok (.getfield 21, 3) := by decide +kernel
theorem dX0_pairedWith_4 : decode cX0_pairedWith 4 = .ok (.i2l, 1) := by decide +kernel
theorem dX0_pairedWith_5 : decode cX0_pairedWith 5 = .ok (.aload_n 1, 1) := by decide +kernel
theorem dX0_pairedWith_6 : decode cX0_pairedWith 6 = .ok (.getfield 21, 3) := by decide +kernel
theorem dX0_pairedWith_9 : decode cX0_pairedWith 9 = .ok (.i2l, 1) := by decide +kernel
theorem dX0_pairedWith_10 : decode cX0_pairedWith 10 = .ok (.lmul, 1) := by decide +kernel
theorem dX0_pairedWith_11 : decode cX0_pairedWith 11 = .ok (.aload_n 0, 1) := by decide +kernel
theorem dX0_pairedWith_12 : decode cX0_pairedWith 12 = .ok (.aload_n 1, 1) := by decide +kernel
theorem dX0_pairedWith_13 : decode cX0_pairedWith 13 = .ok (.invokevirtual 34, 3) := by decide +kernel
theorem dX0_pairedWith_16 : decode cX0_pairedWith 16 = .ok (.i2l, 1) := by decide +kernel
theorem dX0_pairedWith_17 : decode cX0_pairedWith 17 = .ok (.lmul, 1) := by decide +kernel
theorem dX0_pairedWith_18 : decode cX0_pairedWith 18 = .ok (.lreturn, 1) := by decide +kernel
theorem dX0_lesserWay_0 : decode cX0_lesserWay 0 = .ok (.iload_n 0, 1) := by decide +kernel
theorem dX0_lesserWay_1 : decode cX0_lesserWay 1 = .ok (.iload_n 1, 1) := by decide +kernel
theorem dX0_lesserWay_2 : decode cX0_lesserWay 2 = .ok (.isub, 1) := by decide +kernel
theorem dX0_lesserWay_3 : decode cX0_lesserWay 3 = .ok (.invokestatic 37, 3) := by decide +kernel
theorem dX0_lesserWay_6 : decode cX0_lesserWay 6 = .ok (.istore_n 2, 1) := by decide +kernel
theorem dX0_lesserWay_7 : decode cX0_lesserWay 7 = .ok (.iload_n 2, 1) := by decide +kernel
theorem dX0_lesserWay_8 : decode cX0_lesserWay 8 = .ok (.sipush 360, 3) := by decide +kernel
theorem dX0_lesserWay_11 : decode cX0_lesserWay 11 = .ok (.iload_n 2, 1) := by decide +kernel
theorem dX0_lesserWay_12 : decode cX0_lesserWay 12 = .ok (.isub, 1) := by decide +kernel
theorem dX0_lesserWay_13 : decode cX0_lesserWay 13 = .ok (.invokestatic 43, 3) := by decide +kernel
theorem dX0_lesserWay_16 : decode cX0_lesserWay 16 = .ok (.ireturn, 1) := by decide +kernel
theorem dX0_wayFromTo_0 : decode cX0_wayFromTo 0 = .ok (.iload_n 1, 1) := by decide +kernel
theorem dX0_wayFromTo_1 : decode cX0_wayFromTo 1 = .ok (.iload_n 0, 1) := by decide +kernel
theorem dX0_wayFromTo_2 : decode cX0_wayFromTo 2 = .ok (.isub, 1) := by decide +kernel
theorem dX0_wayFromTo_3 : decode cX0_wayFromTo 3 = .ok (.sipush 360, 3) := by decide +kernel
theorem dX0_wayFromTo_6 : decode cX0_wayFromTo 6 = .ok (.invokestatic 46, 3) := by decide +kernel
theorem dX0_wayFromTo_9 : decode cX0_wayFromTo 9 = .ok (.istore_n 2, 1) := by decide +kernel
theorem dX0_wayFromTo_10 : decode cX0_wayFromTo 10 = .ok (.iload_n 2, 1) := by decide +kernel
theorem dX0_wayFromTo_11 : decode cX0_wayFromTo 11 = .ok (.sipush 180, 3) := by decide +kernel
theorem dX0_wayFromTo_14 : decode cX0_wayFromTo 14 = .ok (.if_icmp .le 11, 3) := by decide +kernel
theorem dX0_wayFromTo_17 : decode cX0_wayFromTo 17 = .ok (.iload_n 2, 1) := by decide +kernel
theorem dX0_wayFromTo_18 : decode cX0_wayFromTo 18 = .ok (.sipush 360, 3) := by decide +kernel
theorem dX0_wayFromTo_21 : decode cX0_wayFromTo 21 = .ok (.isub, 1) := by decide +kernel
theorem dX0_wayFromTo_22 : decode cX0_wayFromTo 22 = .ok (.goto 4, 3) := by decide +kernel
theorem dX0_wayFromTo_25 : decode cX0_wayFromTo 25 = .ok (.iload_n 2, 1) := by decide +kernel
theorem dX0_wayFromTo_26 : decode cX0_wayFromTo 26 = .ok (.ireturn, 1) := by decide +kernel
theorem dX1_gatheredApart_0 : decode cX1_gatheredApart 0 = .ok (.aload_n 1, 1) := by decide +kernel
theorem dX1_gatheredApart_1 : decode cX1_gatheredApart 1 = .ok (.getfield 9, 3) := by decide +kernel
theorem dX1_gatheredApart_4 : decode cX1_gatheredApart 4 = .ok (.invokestatic 15, 3) := by decide +kernel
theorem dX1_gatheredApart_7 : decode cX1_gatheredApart 7 = .ok (.istore 4, 2) := by decide +kernel
theorem dX1_gatheredApart_9 : decode cX1_gatheredApart 9 = .ok (.iload 4, 2) := by decide +kernel
theorem dX1_gatheredApart_11 : decode cX1_gatheredApart 11 = .ok (.anewarray 21, 3) := by decide +kernel
theorem dX1_gatheredApart_14 : decode cX1_gatheredApart 14 = .ok (.astore 5, 2) := by decide +kernel
theorem dX1_gatheredApart_16 : decode cX1_gatheredApart 16 = .ok (.iload 4, 2) := by decide +kernel
theorem dX1_gatheredApart_18 : decode cX1_gatheredApart 18 = .ok (.newarray .int, 2) := by decide +kernel
theorem dX1_gatheredApart_20 : decode cX1_gatheredApart 20 = .ok (.astore 6, 2) := by decide +kernel
theorem dX1_gatheredApart_22 : decode cX1_gatheredApart 22 = .ok (.iconst 0, 1) := by decide +kernel
theorem dX1_gatheredApart_23 : decode cX1_gatheredApart 23 = .ok (.istore 7, 2) := by decide +kernel
theorem dX1_gatheredApart_25 : decode cX1_gatheredApart 25 = .ok (.iconst 0, 1) := by decide +kernel
theorem dX1_gatheredApart_26 : decode cX1_gatheredApart 26 = .ok (.istore 8, 2) := by decide +kernel
theorem dX1_gatheredApart_28 : decode cX1_gatheredApart 28 = .ok (.iload 8, 2) := by decide +kernel
theorem dX1_gatheredApart_30 : decode cX1_gatheredApart 30 = .ok (.aload_n 0, 1) := by decide +kernel
theorem dX1_gatheredApart_31 : decode cX1_gatheredApart 31 = .ok (.getfield 23, 3) := by decide +kernel
theorem dX1_gatheredApart_34 : decode cX1_gatheredApart 34 = .ok (.if_icmp .ge 58, 3) := by decide +kernel
theorem dX1_gatheredApart_37 : decode cX1_gatheredApart 37 = .ok (.iload 7, 2) := by decide +kernel
theorem dX1_gatheredApart_39 : decode cX1_gatheredApart 39 = .ok (.iload 4, 2) := by decide +kernel
theorem dX1_gatheredApart_41 : decode cX1_gatheredApart 41 = .ok (.if_icmp .ge 51, 3) := by decide +kernel
theorem dX1_gatheredApart_44 : decode cX1_gatheredApart 44 = .ok (.aload_n 1, 1) := by decide +kernel
theorem dX1_gatheredApart_45 : decode cX1_gatheredApart 45 = .ok (.getfield 9, 3) := by decide +kernel
theorem dX1_gatheredApart_48 : decode cX1_gatheredApart 48 = .ok (.iload 8, 2) := by decide +kernel
theorem dX1_gatheredApart_50 : decode cX1_gatheredApart 50 = .ok (.invokestatic 29, 3) := by decide +kernel
theorem dX1_gatheredApart_53 : decode cX1_gatheredApart 53 = .ok (.ifCond .eq 33, 3) := by decide +kernel
theorem dX1_gatheredApart_56 : decode cX1_gatheredApart 56 = .ok (.aload 5, 2) := by decide +kernel
theorem dX1_gatheredApart_58 : decode cX1_gatheredApart 58 = .ok (.iload 7, 2) := by decide +kernel
theorem dX1_gatheredApart_60 : decode cX1_gatheredApart 60 = .ok (.aload_n 0, 1) := by decide +kernel
theorem dX1_gatheredApart_61 : decode cX1_gatheredApart 61 = .ok (.getfield 33, 3) := by decide +kernel
theorem dX1_gatheredApart_64 : decode cX1_gatheredApart 64 = .ok (.iload 8, 2) := by decide +kernel
theorem dX1_gatheredApart_66 : decode cX1_gatheredApart 66 = .ok (.aaload, 1) := by decide +kernel
theorem dX1_gatheredApart_67 : decode cX1_gatheredApart 67 = .ok (.getfield 37, 3) := by decide +kernel
theorem dX1_gatheredApart_70 : decode cX1_gatheredApart 70 = .ok (.iload 7, 2) := by decide +kernel
theorem dX1_gatheredApart_72 : decode cX1_gatheredApart 72 = .ok (.invokevirtual 41, 3) := by decide +kernel
theorem dX1_gatheredApart_75 : decode cX1_gatheredApart 75 = .ok (.aastore, 1) := by decide +kernel
theorem dX1_gatheredApart_76 : decode cX1_gatheredApart 76 = .ok (.aload 6, 2) := by decide +kernel
theorem dX1_gatheredApart_78 : decode cX1_gatheredApart 78 = .ok (.iload 7, 2) := by decide +kernel
theorem dX1_gatheredApart_80 : decode cX1_gatheredApart 80 = .ok (.iload 8, 2) := by decide +kernel
theorem dX1_gatheredApart_82 : decode cX1_gatheredApart 82 = .ok (.iastore, 1) := by decide +kernel
theorem dX1_gatheredApart_83 : decode cX1_gatheredApart 83 = .ok (.iinc 7 1, 3) := by decide +kernel
theorem dX1_gatheredApart_86 : decode cX1_gatheredApart 86 = .ok (.iinc 8 1, 3) := by decide +kernel
theorem dX1_gatheredApart_89 : decode cX1_gatheredApart 89 = .ok (.goto (-61), 3) := by decide +kernel
theorem dX1_gatheredApart_92 : decode cX1_gatheredApart 92 = .ok (.new 45, 3) := by decide +kernel
theorem dX1_gatheredApart_95 : decode cX1_gatheredApart 95 = .ok (.dup, 1) := by decide +kernel
theorem dX1_gatheredApart_96 : decode cX1_gatheredApart 96 = .ok (.aload 5, 2) := by decide +kernel
theorem dX1_gatheredApart_98 : decode cX1_gatheredApart 98 = .ok (.iload_n 3, 1) := by decide +kernel
theorem dX1_gatheredApart_99 : decode cX1_gatheredApart 99 = .ok (.iload_n 2, 1) := by decide +kernel
theorem dX1_gatheredApart_100 : decode cX1_gatheredApart 100 = .ok (.aload_n 0, 1) := by decide +kernel
theorem dX1_gatheredApart_101 : decode cX1_gatheredApart 101 = .ok (.getfield 47, 3) := by decide +kernel
theorem dX1_gatheredApart_104 : decode cX1_gatheredApart 104 = .ok (.invokespecial 50, 3) := by decide +kernel
theorem dX1_gatheredApart_107 : decode cX1_gatheredApart 107 = .ok (.invokevirtual 53, 3) := by decide +kernel
theorem dX1_gatheredApart_110 : decode cX1_gatheredApart 110 = .ok (.astore 8, 2) := by decide +kernel
theorem dX1_gatheredApart_112 : decode cX1_gatheredApart 112 = .ok (.aload 8, 2) := by decide +kernel
theorem dX1_gatheredApart_114 : decode cX1_gatheredApart 114 = .ok (.aload 6, 2) := by decide +kernel
theorem dX1_gatheredApart_116 : decode cX1_gatheredApart 116 = .ok (.putfield 57, 3) := by decide +kernel
theorem dX1_gatheredApart_119 : decode cX1_gatheredApart 119 = .ok (.aload 8, 2) := by decide +kernel
theorem dX1_gatheredApart_121 : decode cX1_gatheredApart 121 = .ok (.areturn, 1) := by decide +kernel
theorem dX1_groomed_0 : decode cX1_groomed 0 = .ok (.aload_n 0, 1) := by decide +kernel
theorem dX1_groomed_1 : decode cX1_groomed 1 = .ok (.astore 4, 2) := by decide +kernel
theorem dX1_groomed_3 : decode cX1_groomed 3 = .ok (.iconst 0, 1) := by decide +kernel
theorem dX1_groomed_4 : decode cX1_groomed 4 = .ok (.istore 5, 2) := by decide +kernel
theorem dX1_groomed_6 : decode cX1_groomed 6 = .ok (.iload 5, 2) := by decide +kernel
theorem dX1_groomed_8 : decode cX1_groomed 8 = .ok (.bipush 40, 2) := by decide +kernel
theorem dX1_groomed_10 : decode cX1_groomed 10 = .ok (.if_icmp .ge 105, 3) := by decide +kernel
theorem dX1_groomed_13 : decode cX1_groomed 13 = .ok (.aload 4, 2) := by decide +kernel
theorem dX1_groomed_15 : decode cX1_groomed 15 = .ok (.invokevirtual 61, 3) := by decide +kernel
theorem dX1_groomed_18 : decode cX1_groomed 18 = .ok (.astore 6, 2) := by decide +kernel
theorem dX1_groomed_20 : decode cX1_groomed 20 = .ok (.aload 4, 2) := by decide +kernel
theorem dX1_groomed_22 : decode cX1_groomed 22 = .ok (.invokevirtual 65, 3) := by decide +kernel
theorem dX1_groomed_25 : decode cX1_groomed 25 = .ok (.astore 7, 2) := by decide +kernel
theorem dX1_groomed_27 : decode cX1_groomed 27 = .ok (.aload 6, 2) := by decide +kernel
theorem dX1_groomed_29 : decode cX1_groomed 29 = .ok (.ifnull 8, 3) := by decide +kernel
theorem dX1_groomed_32 : decode cX1_groomed 32 = .ok (.aload 7, 2) := by decide +kernel
theorem dX1_groomed_34 : decode cX1_groomed 34 = .ok (.ifnonnull 6, 3) := by decide +kernel
theorem dX1_groomed_37 : decode cX1_groomed 37 = .ok (.aload 4, 2) := by decide +kernel
theorem dX1_groomed_39 : decode cX1_groomed 39 = .ok (.areturn, 1) := by decide +kernel
theorem dX1_groomed_40 : decode cX1_groomed 40 = .ok (.aload 6, 2) := by decide +kernel
theorem dX1_groomed_42 : decode cX1_groomed 42 = .ok (.getfield 37, 3) := by decide +kernel
theorem dX1_groomed_45 : decode cX1_groomed 45 = .ok (.getfield 68, 3) := by decide +kernel
theorem dX1_groomed_48 : decode cX1_groomed 48 = .ok (.i2l, 1) := by decide +kernel
theorem dX1_groomed_49 : decode cX1_groomed 49 = .ok (.ldc2_w 71, 3) := by decide +kernel
theorem dX1_groomed_52 : decode cX1_groomed 52 = .ok (.lmul, 1) := by decide +kernel
theorem dX1_groomed_53 : decode cX1_groomed 53 = .ok (.lstore 8, 2) := by decide +kernel
theorem dX1_groomed_55 : decode cX1_groomed 55 = .ok (.iload_n 1, 1) := by decide +kernel
theorem dX1_groomed_56 : decode cX1_groomed 56 = .ok (.i2l, 1) := by decide +kernel
theorem dX1_groomed_57 : decode cX1_groomed 57 = .ok (.aload 4, 2) := by decide +kernel
theorem dX1_groomed_59 : decode cX1_groomed 59 = .ok (.getfield 37, 3) := by decide +kernel
theorem dX1_groomed_62 : decode cX1_groomed 62 = .ok (.getfield 68, 3) := by decide +kernel
theorem dX1_groomed_65 : decode cX1_groomed 65 = .ok (.i2l, 1) := by decide +kernel
theorem dX1_groomed_66 : decode cX1_groomed 66 = .ok (.lmul, 1) := by decide +kernel
theorem dX1_groomed_67 : decode cX1_groomed 67 = .ok (.lstore 10, 2) := by decide +kernel
theorem dX1_groomed_69 : decode cX1_groomed 69 = .ok (.iload_n 2, 1) := by decide +kernel
theorem dX1_groomed_70 : decode cX1_groomed 70 = .ok (.ifCond .eq 24, 3) := by decide +kernel
theorem dX1_groomed_73 : decode cX1_groomed 73 = .ok (.lload 8, 2) := by decide +kernel
theorem dX1_groomed_75 : decode cX1_groomed 75 = .ok (.iload_n 3, 1) := by decide +kernel
theorem dX1_groomed_76 : decode cX1_groomed 76 = .ok (.i2l, 1) := by decide +kernel
theorem dX1_groomed_77 : decode cX1_groomed 77 = .ok (.lmul, 1) := by decide +kernel
theorem dX1_groomed_78 : decode cX1_groomed 78 = .ok (.iload_n 3, 1) := by decide +kernel
theorem dX1_groomed_79 : decode cX1_groomed 79 = .ok (.i2l, 1) := by decide +kernel
theorem dX1_groomed_80 : decode cX1_groomed 80 = .ok (.lmul, 1) := by decide +kernel
theorem dX1_groomed_81 : decode cX1_groomed 81 = .ok (.lstore 8, 2) := by decide +kernel
theorem dX1_groomed_83 : decode cX1_groomed 83 = .ok (.lload 10, 2) := by decide +kernel
theorem dX1_groomed_85 : decode cX1_groomed 85 = .ok (.aload 4, 2) := by decide +kernel
theorem dX1_groomed_87 : decode cX1_groomed 87 = .ok (.invokevirtual 73, 3) := by decide +kernel
theorem dX1_groomed_90 : decode cX1_groomed 90 = .ok (.i2l, 1) := by decide +kernel
theorem dX1_groomed_91 : decode cX1_groomed 91 = .ok (.lmul, 1) := by decide +kernel
theorem dX1_groomed_92 : decode cX1_groomed 92 = .ok (.lstore 10, 2) := by decide +kernel
theorem dX1_groomed_94 : decode cX1_groomed 94 = .ok (.lload 8, 2) := by decide +kernel
theorem dX1_groomed_96 : decode cX1_groomed 96 = .ok (.lload 10, 2) := by decide +kernel
theorem dX1_groomed_98 : decode cX1_groomed 98 = .ok (.lcmp, 1) := by decide +kernel
theorem dX1_groomed_99 : decode cX1_groomed 99 = .ok (.ifCond .lt 6, 3) := by decide +kernel
theorem dX1_groomed_102 : decode cX1_groomed 102 = .ok (.aload 4, 2) := by decide +kernel
theorem dX1_groomed_104 : decode cX1_groomed 104 = .ok (.areturn, 1) := by decide +kernel
theorem dX1_groomed_105 : decode cX1_groomed 105 = .ok (.aload 7, 2) := by decide +kernel
theorem dX1_groomed_107 : decode cX1_groomed 107 = .ok (.astore 4, 2) := by decide +kernel
theorem dX1_groomed_109 : decode cX1_groomed 109 = .ok (.iinc 5 1, 3) := by decide +kernel
theorem dX1_groomed_112 : decode cX1_groomed 112 = .ok (.goto (-106), 3) := by decide +kernel
theorem dX1_groomed_115 : decode cX1_groomed 115 = .ok (.aload 4, 2) := by decide +kernel
theorem dX1_groomed_117 : decode cX1_groomed 117 = .ok (.areturn, 1) := by decide +kernel
theorem dX1_trimmed_0 : decode cX1_trimmed 0 = .ok (.lconst 0, 1) := by decide +kernel
theorem dX1_trimmed_1 : decode cX1_trimmed 1 = .ok (.lstore_n 3, 1) := by decide +kernel
theorem dX1_trimmed_2 : decode cX1_trimmed 2 = .ok (.iconst 0, 1) := by decide +kernel
theorem dX1_trimmed_3 : decode cX1_trimmed 3 = .ok (.istore 5, 2) := by decide +kernel
theorem dX1_trimmed_5 : decode cX1_trimmed 5 = .ok (.iload 5, 2) := by decide +kernel
theorem dX1_trimmed_7 : decode cX1_trimmed 7 = .ok (.aload_n 0, 1) := by decide +kernel
theorem dX1_trimmed_8 : decode cX1_trimmed 8 = .ok (.getfield 77, 3) := by decide +kernel
theorem dX1_trimmed_11 : decode cX1_trimmed 11 = .ok (.if_icmp .ge 54, 3) := by decide +kernel
theorem dX1_trimmed_14 : decode cX1_trimmed 14 = .ok (.aload_n 0, 1) := by decide +kernel
theorem dX1_trimmed_15 : decode cX1_trimmed 15 = .ok (.getfield 80, 3) := by decide +kernel
theorem dX1_trimmed_18 : decode cX1_trimmed 18 = .ok (.iload 5, 2) := by decide +kernel
theorem dX1_trimmed_20 : decode cX1_trimmed 20 = .ok (.aaload, 1) := by decide +kernel
theorem dX1_trimmed_21 : decode cX1_trimmed 21 = .ok (.astore 6, 2) := by decide +kernel
theorem dX1_trimmed_23 : decode cX1_trimmed 23 = .ok (.aload 6, 2) := by decide +kernel
theorem dX1_trimmed_25 : decode cX1_trimmed 25 = .ok (.getfield 37, 3) := by decide +kernel
theorem dX1_trimmed_28 : decode cX1_trimmed 28 = .ok (.getfield 68, 3) := by decide +kernel
theorem dX1_trimmed_31 : decode cX1_trimmed 31 = .ok (.i2l, 1) := by decide +kernel
theorem dX1_trimmed_32 : decode cX1_trimmed 32 = .ok (.ldc2_w 71, 3) := by decide +kernel
theorem dX1_trimmed_35 : decode cX1_trimmed 35 = .ok (.lmul, 1) := by decide +kernel
theorem dX1_trimmed_36 : decode cX1_trimmed 36 = .ok (.iload_n 2, 1) := by decide +kernel
theorem dX1_trimmed_37 : decode cX1_trimmed 37 = .ok (.i2l, 1) := by decide +kernel
theorem dX1_trimmed_38 : decode cX1_trimmed 38 = .ok (.aload_n 1, 1) := by decide +kernel
theorem dX1_trimmed_39 : decode cX1_trimmed 39 = .ok (.getfield 37, 3) := by decide +kernel
theorem dX1_trimmed_42 : decode cX1_trimmed 42 = .ok (.getfield 68, 3) := by decide +kernel
theorem dX1_trimmed_45 : decode cX1_trimmed 45 = .ok (.i2l, 1) := by decide +kernel
theorem dX1_trimmed_46 : decode cX1_trimmed 46 = .ok (.lmul, 1) := by decide +kernel
theorem dX1_trimmed_47 : decode cX1_trimmed 47 = .ok (.lcmp, 1) := by decide +kernel
theorem dX1_trimmed_48 : decode cX1_trimmed 48 = .ok (.ifCond .lt 11, 3) := by decide +kernel
theorem dX1_trimmed_51 : decode cX1_trimmed 51 = .ok (.lload_n 3, 1) := by decide +kernel
theorem dX1_trimmed_52 : decode cX1_trimmed 52 = .ok (.aload 6, 2) := by decide +kernel
theorem dX1_trimmed_54 : decode cX1_trimmed 54 = .ok (.getfield 9, 3) := by decide +kernel
theorem dX1_trimmed_57 : decode cX1_trimmed 57 = .ok (.lor, 1) := by decide +kernel
theorem dX1_trimmed_58 : decode cX1_trimmed 58 = .ok (.lstore_n 3, 1) := by decide +kernel
theorem dX1_trimmed_59 : decode cX1_trimmed 59 = .ok (.iinc 5 1, 3) := by decide +kernel
theorem dX1_trimmed_62 : decode cX1_trimmed 62 = .ok (.goto (-57), 3) := by decide +kernel
theorem dX1_trimmed_65 : decode cX1_trimmed 65 = .ok (.lconst 0, 1) := by decide +kernel
theorem dX1_trimmed_66 : decode cX1_trimmed 66 = .ok (.lstore 5, 2) := by decide +kernel
theorem dX1_trimmed_68 : decode cX1_trimmed 68 = .ok (.iconst 0, 1) := by decide +kernel
theorem dX1_trimmed_69 : decode cX1_trimmed 69 = .ok (.istore 7, 2) := by decide +kernel
theorem dX1_trimmed_71 : decode cX1_trimmed 71 = .ok (.iload 7, 2) := by decide +kernel
theorem dX1_trimmed_73 : decode cX1_trimmed 73 = .ok (.aload_n 0, 1) := by decide +kernel
theorem dX1_trimmed_74 : decode cX1_trimmed 74 = .ok (.getfield 57, 3) := by decide +kernel
theorem dX1_trimmed_77 : decode cX1_trimmed 77 = .ok (.arraylength, 1) := by decide +kernel
theorem dX1_trimmed_78 : decode cX1_trimmed 78 = .ok (.if_icmp .ge 33, 3) := by decide +kernel
theorem dX1_trimmed_81 : decode cX1_trimmed 81 = .ok (.lload_n 3, 1) := by decide +kernel
theorem dX1_trimmed_82 : decode cX1_trimmed 82 = .ok (.iload 7, 2) := by decide +kernel
theorem dX1_trimmed_84 : decode cX1_trimmed 84 = .ok (.invokestatic 29, 3) := by decide +kernel
theorem dX1_trimmed_87 : decode cX1_trimmed 87 = .ok (.ifCond .eq 18, 3) := by decide +kernel
theorem dX1_trimmed_90 : decode cX1_trimmed 90 = .ok (.lload 5, 2) := by decide +kernel
theorem dX1_trimmed_92 : decode cX1_trimmed 92 = .ok (.aload_n 0, 1) := by decide +kernel
theorem dX1_trimmed_93 : decode cX1_trimmed 93 = .ok (.getfield 57, 3) := by decide +kernel
theorem dX1_trimmed_96 : decode cX1_trimmed 96 = .ok (.iload 7, 2) := by decide +kernel
theorem dX1_trimmed_98 : decode cX1_trimmed 98 = .ok (.iaload, 1) := by decide +kernel
theorem dX1_trimmed_99 : decode cX1_trimmed 99 = .ok (.invokestatic 83, 3) := by decide +kernel
theorem dX1_trimmed_102 : decode cX1_trimmed 102 = .ok (.lor, 1) := by decide +kernel
theorem dX1_trimmed_103 : decode cX1_trimmed 103 = .ok (.lstore 5, 2) := by decide +kernel
theorem dX1_trimmed_105 : decode cX1_trimmed 105 = .ok (.iinc 7 1, 3) := by decide +kernel
theorem dX1_trimmed_108 : decode cX1_trimmed 108 = .ok (.goto (-37), 3) := by decide +kernel
theorem dX1_trimmed_111 : decode cX1_trimmed 111 = .ok (.lload 5, 2) := by decide +kernel
theorem dX1_trimmed_113 : decode cX1_trimmed 113 = .ok (.lreturn, 1) := by decide +kernel
theorem dX1_pruned_0 : decode cX1_pruned 0 = .ok (.aload_n 0, 1) := by decide +kernel
theorem dX1_pruned_1 : decode cX1_pruned 1 = .ok (.getfield 87, 3) := by decide +kernel
theorem dX1_pruned_4 : decode cX1_pruned 4 = .ok (.newarray .boolean, 2) := by decide +kernel
theorem dX1_pruned_6 : decode cX1_pruned 6 = .ok (.astore 4, 2) := by decide +kernel
theorem dX1_pruned_8 : decode cX1_pruned 8 = .ok (.aload_n 1, 1) := by decide +kernel
theorem dX1_pruned_9 : decode cX1_pruned 9 = .ok (.getfield 37, 3) := by decide +kernel
theorem dX1_pruned_12 : decode cX1_pruned 12 = .ok (.getfield 90, 3) := by decide +kernel
theorem dX1_pruned_15 : decode cX1_pruned 15 = .ok (.istore 5, 2) := by decide +kernel
theorem dX1_pruned_17 : decode cX1_pruned 17 = .ok (.iload 5, 2) := by decide +kernel
theorem dX1_pruned_19 : decode cX1_pruned 19 = .ok (.ifCond .lt 11, 3) := by decide +kernel
theorem dX1_pruned_22 : decode cX1_pruned 22 = .ok (.iload 5, 2) := by decide +kernel
theorem dX1_pruned_24 : decode cX1_pruned 24 = .ok (.aload 4, 2) := by decide +kernel
theorem dX1_pruned_26 : decode cX1_pruned 26 = .ok (.arraylength, 1) := by decide +kernel
theorem dX1_pruned_27 : decode cX1_pruned 27 = .ok (.if_icmp .lt 5, 3) := by decide +kernel
theorem dX1_pruned_30 : decode cX1_pruned 30 = .ok (.lconst 0, 1) := by decide +kernel
theorem dX1_pruned_31 : decode cX1_pruned 31 = .ok (.lreturn, 1) := by decide +kernel
theorem dX1_pruned_32 : decode cX1_pruned 32 = .ok (.aload 4, 2) := by decide +kernel
theorem dX1_pruned_34 : decode cX1_pruned 34 = .ok (.iload 5, 2) := by decide +kernel
theorem dX1_pruned_36 : decode cX1_pruned 36 = .ok (.iconst 1, 1) := by decide +kernel
theorem dX1_pruned_37 : decode cX1_pruned 37 = .ok (.bastore, 1) := by decide +kernel
theorem dX1_pruned_38 : decode cX1_pruned 38 = .ok (.iload 5, 2) := by decide +kernel
theorem dX1_pruned_40 : decode cX1_pruned 40 = .ok (.istore 6, 2) := by decide +kernel
theorem dX1_pruned_42 : decode cX1_pruned 42 = .ok (.iload 6, 2) := by decide +kernel
theorem dX1_pruned_44 : decode cX1_pruned 44 = .ok (.aload_n 0, 1) := by decide +kernel
theorem dX1_pruned_45 : decode cX1_pruned 45 = .ok (.getfield 23, 3) := by decide +kernel
theorem dX1_pruned_48 : decode cX1_pruned 48 = .ok (.if_icmp .lt 141, 3) := by decide +kernel
theorem dX1_pruned_51 : decode cX1_pruned 51 = .ok (.aload_n 0, 1) := by decide +kernel
theorem dX1_pruned_52 : decode cX1_pruned 52 = .ok (.getfield 33, 3) := by decide +kernel
theorem dX1_pruned_55 : decode cX1_pruned 55 = .ok (.iload 6, 2) := by decide +kernel
theorem dX1_pruned_57 : decode cX1_pruned 57 = .ok (.aaload, 1) := by decide +kernel
theorem dX1_pruned_58 : decode cX1_pruned 58 = .ok (.invokevirtual 61, 3) := by decide +kernel
theorem dX1_pruned_61 : decode cX1_pruned 61 = .ok (.astore 7, 2) := by decide +kernel
theorem dX1_pruned_63 : decode cX1_pruned 63 = .ok (.aload_n 0, 1) := by decide +kernel
theorem dX1_pruned_64 : decode cX1_pruned 64 = .ok (.getfield 33, 3) := by decide +kernel
theorem dX1_pruned_67 : decode cX1_pruned 67 = .ok (.iload 6, 2) := by decide +kernel
theorem dX1_pruned_69 : decode cX1_pruned 69 = .ok (.aaload, 1) := by decide +kernel
theorem dX1_pruned_70 : decode cX1_pruned 70 = .ok (.invokevirtual 65, 3) := by decide +kernel
theorem dX1_pruned_73 : decode cX1_pruned 73 = .ok (.astore 8, 2) := by decide +kernel
theorem dX1_pruned_75 : decode cX1_pruned 75 = .ok (.aload 4, 2) := by decide +kernel
theorem dX1_pruned_77 : decode cX1_pruned 77 = .ok (.iload 6, 2) := by decide +kernel
theorem dX1_pruned_79 : decode cX1_pruned 79 = .ok (.baload, 1) := by decide +kernel
theorem dX1_pruned_80 : decode cX1_pruned 80 = .ok (.ifCond .eq 103, 3) := by decide +kernel
theorem dX1_pruned_83 : decode cX1_pruned 83 = .ok (.aload 7, 2) := by decide +kernel
theorem dX1_pruned_85 : decode cX1_pruned 85 = .ok (.ifnull 98, 3) := by decide +kernel
theorem dX1_pruned_88 : decode cX1_pruned 88 = .ok (.aload 8, 2) := by decide +kernel
theorem dX1_pruned_90 : decode cX1_pruned 90 = .ok (.ifnull 93, 3) := by decide +kernel
theorem dX1_pruned_93 : decode cX1_pruned 93 = .ok (.aload 7, 2) := by decide +kernel
theorem dX1_pruned_95 : decode cX1_pruned 95 = .ok (.getfield 37, 3) := by decide +kernel
theorem dX1_pruned_98 : decode cX1_pruned 98 = .ok (.getfield 68, 3) := by decide +kernel
theorem dX1_pruned_101 : decode cX1_pruned 101 = .ok (.i2l, 1) := by decide +kernel
theorem dX1_pruned_102 : decode cX1_pruned 102 = .ok (.ldc2_w 71, 3) := by decide +kernel
theorem dX1_pruned_105 : decode cX1_pruned 105 = .ok (.lmul, 1) := by decide +kernel
theorem dX1_pruned_106 : decode cX1_pruned 106 = .ok (.iload_n 2, 1) := by decide +kernel
theorem dX1_pruned_107 : decode cX1_pruned 107 = .ok (.i2l, 1) := by decide +kernel
theorem dX1_pruned_108 : decode cX1_pruned 108 = .ok (.aload_n 0, 1) := by decide +kernel
theorem dX1_pruned_109 : decode cX1_pruned 109 = .ok (.getfield 33, 3) := by decide +kernel
theorem dX1_pruned_112 : decode cX1_pruned 112 = .ok (.iload 6, 2) := by decide +kernel
theorem dX1_pruned_114 : decode cX1_pruned 114 = .ok (.aaload, 1) := by decide +kernel
theorem dX1_pruned_115 : decode cX1_pruned 115 = .ok (.getfield 37, 3) := by decide +kernel
theorem dX1_pruned_118 : decode cX1_pruned 118 = .ok (.getfield 68, 3) := by decide +kernel
theorem dX1_pruned_121 : decode cX1_pruned 121 = .ok (.i2l, 1) := by decide +kernel
theorem dX1_pruned_122 : decode cX1_pruned 122 = .ok (.lmul, 1) := by decide +kernel
theorem dX1_pruned_123 : decode cX1_pruned 123 = .ok (.lcmp, 1) := by decide +kernel
theorem dX1_pruned_124 : decode cX1_pruned 124 = .ok (.ifCond .ge 7, 3) := by decide +kernel
theorem dX1_pruned_127 : decode cX1_pruned 127 = .ok (.iconst 1, 1) := by decide +kernel
theorem dX1_pruned_128 : decode cX1_pruned 128 = .ok (.goto 4, 3) := by decide +kernel
theorem dX1_pruned_131 : decode cX1_pruned 131 = .ok (.iconst 0, 1) := by decide +kernel
theorem dX1_pruned_132 : decode cX1_pruned 132 = .ok (.istore 9, 2) := by decide +kernel
theorem dX1_pruned_134 : decode cX1_pruned 134 = .ok (.aload 4, 2) := by decide +kernel
theorem dX1_pruned_136 : decode cX1_pruned 136 = .ok (.aload 8, 2) := by decide +kernel
theorem dX1_pruned_138 : decode cX1_pruned 138 = .ok (.getfield 37, 3) := by decide +kernel
theorem dX1_pruned_141 : decode cX1_pruned 141 = .ok (.getfield 90, 3) := by decide +kernel
theorem dX1_pruned_144 : decode cX1_pruned 144 = .ok (.iconst 1, 1) := by decide +kernel
theorem dX1_pruned_145 : decode cX1_pruned 145 = .ok (.bastore, 1) := by decide +kernel
theorem dX1_pruned_146 : decode cX1_pruned 146 = .ok (.aload 4, 2) := by decide +kernel
theorem dX1_pruned_148 : decode cX1_pruned 148 = .ok (.aload 7, 2) := by decide +kernel
theorem dX1_pruned_150 : decode cX1_pruned 150 = .ok (.getfield 37, 3) := by decide +kernel
theorem dX1_pruned_153 : decode cX1_pruned 153 = .ok (.getfield 90, 3) := by decide +kernel
theorem dX1_pruned_156 : decode cX1_pruned 156 = .ok (.iload 9, 2) := by decide +kernel
theorem dX1_pruned_158 : decode cX1_pruned 158 = .ok (.ifCond .eq 19, 3) := by decide +kernel
theorem dX1_pruned_161 : decode cX1_pruned 161 = .ok (.aload_n 0, 1) := by decide +kernel
theorem dX1_pruned_162 : decode cX1_pruned 162 = .ok (.getfield 33, 3) := by decide +kernel
theorem dX1_pruned_165 : decode cX1_pruned 165 = .ok (.iload 6, 2) := by decide +kernel
theorem dX1_pruned_167 : decode cX1_pruned 167 = .ok (.aaload, 1) := by decide +kernel
theorem dX1_pruned_168 : decode cX1_pruned 168 = .ok (.invokevirtual 73, 3) := by decide +kernel
theorem dX1_pruned_171 : decode cX1_pruned 171 = .ok (.iload_n 3, 1) := by decide +kernel
theorem dX1_pruned_172 : decode cX1_pruned 172 = .ok (.iload_n 3, 1) := by decide +kernel
theorem dX1_pruned_173 : decode cX1_pruned 173 = .ok (.imul, 1) := by decide +kernel
theorem dX1_pruned_174 : decode cX1_pruned 174 = .ok (.if_icmp .gt 7, 3) := by decide +kernel
theorem dX1_pruned_177 : decode cX1_pruned 177 = .ok (.iconst 1, 1) := by decide +kernel
theorem dX1_pruned_178 : decode cX1_pruned 178 = .ok (.goto 4, 3) := by decide +kernel
theorem dX1_pruned_181 : decode cX1_pruned 181 = .ok (.iconst 0, 1) := by decide +kernel
theorem dX1_pruned_182 : decode cX1_pruned 182 = .ok (.bastore, 1) := by decide +kernel
theorem dX1_pruned_183 : decode cX1_pruned 183 = .ok (.iinc 6 (-1), 3) := by decide +kernel
theorem dX1_pruned_186 : decode cX1_pruned 186 = .ok (.goto (-144), 3) := by decide +kernel
theorem dX1_pruned_189 : decode cX1_pruned 189 = .ok (.lconst 0, 1) := by decide +kernel
theorem dX1_pruned_190 : decode cX1_pruned 190 = .ok (.lstore 6, 2) := by decide +kernel
theorem dX1_pruned_192 : decode cX1_pruned 192 = .ok (.iconst 0, 1) := by decide +kernel
theorem dX1_pruned_193 : decode cX1_pruned 193 = .ok (.istore 8, 2) := by decide +kernel
theorem dX1_pruned_195 : decode cX1_pruned 195 = .ok (.iload 8, 2) := by decide +kernel
theorem dX1_pruned_197 : decode cX1_pruned 197 = .ok (.aload_n 0, 1) := by decide +kernel
theorem dX1_pruned_198 : decode cX1_pruned 198 = .ok (.getfield 23, 3) := by decide +kernel
theorem dX1_pruned_201 : decode cX1_pruned 201 = .ok (.if_icmp .ge 27, 3) := by decide +kernel
theorem dX1_pruned_204 : decode cX1_pruned 204 = .ok (.aload 4, 2) := by decide +kernel
theorem dX1_pruned_206 : decode cX1_pruned 206 = .ok (.iload 8, 2) := by decide +kernel
theorem dX1_pruned_208 : decode cX1_pruned 208 = .ok (.baload, 1) := by decide +kernel
theorem dX1_pruned_209 : decode cX1_pruned 209 = .ok (.ifCond .eq 13, 3) := by decide +kernel
theorem dX1_pruned_212 : decode cX1_pruned 212 = .ok (.lload 6, 2) := by decide +kernel
theorem dX1_pruned_214 : decode cX1_pruned 214 = .ok (.iload 8, 2) := by decide +kernel
theorem dX1_pruned_216 : decode cX1_pruned 216 = .ok (.invokestatic 83, 3) := by decide +kernel
theorem dX1_pruned_219 : decode cX1_pruned 219 = .ok (.lor, 1) := by decide +kernel
theorem dX1_pruned_220 : decode cX1_pruned 220 = .ok (.lstore 6, 2) := by decide +kernel
theorem dX1_pruned_222 : decode cX1_pruned 222 = .ok (.iinc 8 1, 3) := by decide +kernel
theorem dX1_pruned_225 : decode cX1_pruned 225 = .ok (.goto (-30), 3) := by decide +kernel
theorem dX1_pruned_228 : decode cX1_pruned 228 = .ok (.lload 6, 2) := by decide +kernel
theorem dX1_pruned_230 : decode cX1_pruned 230 = .ok (.lreturn, 1) := by decide +kernel
theorem dX1_splitsOf_0 : decode cX1_splitsOf 0 = .ok (.aload_n 0, 1) := by decide +kernel
theorem dX1_splitsOf_1 : decode cX1_splitsOf 1 = .ok (.astore_n 1, 1) := by decide +kernel
theorem dX1_splitsOf_2 : decode cX1_splitsOf 2 = .ok (.iconst 0, 1) := by decide +kernel
theorem dX1_splitsOf_3 : decode cX1_splitsOf 3 = .ok (.istore_n 2, 1) := by decide +kernel
theorem dX1_splitsOf_4 : decode cX1_splitsOf 4 = .ok (.iload_n 2, 1) := by decide +kernel
theorem dX1_splitsOf_5 : decode cX1_splitsOf 5 = .ok (.bipush 40, 2) := by decide +kernel
theorem dX1_splitsOf_7 : decode cX1_splitsOf 7 = .ok (.if_icmp .ge 22, 3) := by decide +kernel
theorem dX1_splitsOf_10 : decode cX1_splitsOf 10 = .ok (.aload_n 1, 1) := by decide +kernel
theorem dX1_splitsOf_11 : decode cX1_splitsOf 11 = .ok (.invokevirtual 65, 3) := by decide +kernel
theorem dX1_splitsOf_14 : decode cX1_splitsOf 14 = .ok (.astore_n 3, 1) := by decide +kernel
theorem dX1_splitsOf_15 : decode cX1_splitsOf 15 = .ok (.aload_n 3, 1) := by decide +kernel
theorem dX1_splitsOf_16 : decode cX1_splitsOf 16 = .ok (.ifnonnull 5, 3) := by decide +kernel
theorem dX1_splitsOf_19 : decode cX1_splitsOf 19 = .ok (.iload_n 2, 1) := by decide +kernel
theorem dX1_splitsOf_20 : decode cX1_splitsOf 20 = .ok (.ireturn, 1) := by decide +kernel
theorem dX1_splitsOf_21 : decode cX1_splitsOf 21 = .ok (.aload_n 3, 1) := by decide +kernel
theorem dX1_splitsOf_22 : decode cX1_splitsOf 22 = .ok (.astore_n 1, 1) := by decide +kernel
theorem dX1_splitsOf_23 : decode cX1_splitsOf 23 = .ok (.iinc 2 1, 3) := by decide +kernel
theorem dX1_splitsOf_26 : decode cX1_splitsOf 26 = .ok (.goto (-22), 3) := by decide +kernel
theorem dX1_splitsOf_29 : decode cX1_splitsOf 29 = .ok (.bipush 40, 2) := by decide +kernel
theorem dX1_splitsOf_31 : decode cX1_splitsOf 31 = .ok (.ireturn, 1) := by decide +kernel
theorem dX1_splitAt_0 : decode cX1_splitAt 0 = .ok (.iload_n 1, 1) := by decide +kernel
theorem dX1_splitAt_1 : decode cX1_splitAt 1 = .ok (.ifCond .lt 11, 3) := by decide +kernel
theorem dX1_splitAt_4 : decode cX1_splitAt 4 = .ok (.iload_n 1, 1) := by decide +kernel
theorem dX1_splitAt_5 : decode cX1_splitAt 5 = .ok (.aload_n 0, 1) := by decide +kernel
theorem dX1_splitAt_6 : decode cX1_splitAt 6 = .ok (.invokestatic 93, 3) := by decide +kernel
theorem dX1_splitAt_9 : decode cX1_splitAt 9 = .ok (.if_icmp .lt 5, 3) := by decide +kernel
theorem dX1_splitAt_12 : decode cX1_splitAt 12 = .ok (.aconst_null, 1) := by decide +kernel
theorem dX1_splitAt_13 : decode cX1_splitAt 13 = .ok (.areturn, 1) := by decide +kernel
theorem dX1_splitAt_14 : decode cX1_splitAt 14 = .ok (.aload_n 0, 1) := by decide +kernel
theorem dX1_splitAt_15 : decode cX1_splitAt 15 = .ok (.astore_n 2, 1) := by decide +kernel
theorem dX1_splitAt_16 : decode cX1_splitAt 16 = .ok (.iconst 0, 1) := by decide +kernel
theorem dX1_splitAt_17 : decode cX1_splitAt 17 = .ok (.istore_n 3, 1) := by decide +kernel
theorem dX1_splitAt_18 : decode cX1_splitAt 18 = .ok (.iload_n 3, 1) := by decide +kernel
theorem dX1_splitAt_19 : decode cX1_splitAt 19 = .ok (.iload_n 1, 1) := by decide +kernel
theorem dX1_splitAt_20 : decode cX1_splitAt 20 = .ok (.if_icmp .ge 18, 3) := by decide +kernel
theorem dX1_splitAt_23 : decode cX1_splitAt 23 = .ok (.aload_n 2, 1) := by decide +kernel
theorem dX1_splitAt_24 : decode cX1_splitAt 24 = .ok (.ifnull 14, 3) := by decide +kernel
theorem dX1_splitAt_27 : decode cX1_splitAt 27 = .ok (.aload_n 2, 1) := by decide +kernel
theorem dX1_splitAt_28 : decode cX1_splitAt 28 = .ok (.invokevirtual 65, 3) := by decide +kernel
theorem dX1_splitAt_31 : decode cX1_splitAt 31 = .ok (.astore_n 2, 1) := by decide +kernel
theorem dX1_splitAt_32 : decode cX1_splitAt 32 = .ok (.iinc 3 1, 3) := by decide +kernel
theorem dX1_splitAt_35 : decode cX1_splitAt 35 = .ok (.goto (-17), 3) := by decide +kernel
theorem dX1_splitAt_38 : decode cX1_splitAt 38 = .ok (.aload_n 2, 1) := by decide +kernel
theorem dX1_splitAt_39 : decode cX1_splitAt 39 = .ok (.areturn, 1) := by decide +kernel
theorem dX1_lightShare_0 : decode cX1_lightShare 0 = .ok (.aload_n 0, 1) := by decide +kernel
theorem dX1_lightShare_1 : decode cX1_lightShare 1 = .ok (.invokevirtual 61, 3) := by decide +kernel
theorem dX1_lightShare_4 : decode cX1_lightShare 4 = .ok (.astore_n 1, 1) := by decide +kernel
theorem dX1_lightShare_5 : decode cX1_lightShare 5 = .ok (.aload_n 1, 1) := by decide +kernel
theorem dX1_lightShare_6 : decode cX1_lightShare 6 = .ok (.ifnonnull 7, 3) := by decide +kernel
theorem dX1_lightShare_9 : decode cX1_lightShare 9 = .ok (.iconst 0, 1) := by decide +kernel
theorem dX1_lightShare_10 : decode cX1_lightShare 10 = .ok (.goto 24, 3) := by decide +kernel
theorem dX1_lightShare_13 : decode cX1_lightShare 13 = .ok (.aload_n 1, 1) := by decide +kernel
theorem dX1_lightShare_14 : decode cX1_lightShare 14 = .ok (.getfield 37, 3) := by decide +kernel
theorem dX1_lightShare_17 : decode cX1_lightShare 17 = .ok (.getfield 68, 3) := by decide +kernel
theorem dX1_lightShare_20 : decode cX1_lightShare 20 = .ok (.sipush 1000, 3) := by decide +kernel
theorem dX1_lightShare_23 : decode cX1_lightShare 23 = .ok (.imul, 1) := by decide +kernel
theorem dX1_lightShare_24 : decode cX1_lightShare 24 = .ok (.aload_n 0, 1) := by decide +kernel
theorem dX1_lightShare_25 : decode cX1_lightShare 25 = .ok (.getfield 37, 3) := by decide +kernel
theorem dX1_lightShare_28 : decode cX1_lightShare 28 = .ok (.getfield 68, 3) := by decide +kernel
theorem dX1_lightShare_31 : decode cX1_lightShare 31 = .ok (.invokestatic 99, 3) := by decide +kernel
theorem dX1_lightShare_34 : decode cX1_lightShare 34 = .ok (.ireturn, 1) := by decide +kernel
theorem dX1_widthBits_0 : decode cX1_widthBits 0 = .ok (.lconst 0, 1) := by decide +kernel
theorem dX1_widthBits_1 : decode cX1_widthBits 1 = .ok (.lstore_n 2, 1) := by decide +kernel
theorem dX1_widthBits_2 : decode cX1_widthBits 2 = .ok (.iconst 0, 1) := by decide +kernel
theorem dX1_widthBits_3 : decode cX1_widthBits 3 = .ok (.istore 4, 2) := by decide +kernel
theorem dX1_widthBits_5 : decode cX1_widthBits 5 = .ok (.iload 4, 2) := by decide +kernel
theorem dX1_widthBits_7 : decode cX1_widthBits 7 = .ok (.aload_n 0, 1) := by decide +kernel
theorem dX1_widthBits_8 : decode cX1_widthBits 8 = .ok (.getfield 23, 3) := by decide +kernel
theorem dX1_widthBits_11 : decode cX1_widthBits 11 = .ok (.if_icmp .ge 53, 3) := by decide +kernel
theorem dX1_widthBits_14 : decode cX1_widthBits 14 = .ok (.aload_n 1, 1) := by decide +kernel
theorem dX1_widthBits_15 : decode cX1_widthBits 15 = .ok (.getfield 9, 3) := by decide +kernel
theorem dX1_widthBits_18 : decode cX1_widthBits 18 = .ok (.iload 4, 2) := by decide +kernel
theorem dX1_widthBits_20 : decode cX1_widthBits 20 = .ok (.invokestatic 29, 3) := by decide +kernel
theorem dX1_widthBits_23 : decode cX1_widthBits 23 = .ok (.ifCond .eq 35, 3) := by decide +kernel
theorem dX1_widthBits_26 : decode cX1_widthBits 26 = .ok (.aload_n 0, 1) := by decide +kernel
theorem dX1_widthBits_27 : decode cX1_widthBits 27 = .ok (.getfield 33, 3) := by decide +kernel
theorem dX1_widthBits_30 : decode cX1_widthBits 30 = .ok (.iload 4, 2) := by decide +kernel
theorem dX1_widthBits_32 : decode cX1_widthBits 32 = .ok (.aaload, 1) := by decide +kernel
theorem dX1_widthBits_33 : decode cX1_widthBits 33 = .ok (.getfield 37, 3) := by decide +kernel
theorem dX1_widthBits_36 : decode cX1_widthBits 36 = .ok (.astore 5, 2) := by decide +kernel
theorem dX1_widthBits_38 : decode cX1_widthBits 38 = .ok (.lload_n 2, 1) := by decide +kernel
theorem dX1_widthBits_39 : decode cX1_widthBits 39 = .ok (.aload 5, 2) := by decide +kernel
theorem dX1_widthBits_41 : decode cX1_widthBits 41 = .ok (.getfield 68, 3) := by decide +kernel
theorem dX1_widthBits_44 : decode cX1_widthBits 44 = .ok (.i2l, 1) := by decide +kernel
theorem dX1_widthBits_45 : decode cX1_widthBits 45 = .ok (.aload 5, 2) := by decide +kernel
theorem dX1_widthBits_47 : decode cX1_widthBits 47 = .ok (.aload_n 1, 1) := by decide +kernel
theorem dX1_widthBits_48 : decode cX1_widthBits 48 = .ok (.getfield 37, 3) := by decide +kernel
theorem dX1_widthBits_51 : decode cX1_widthBits 51 = .ok (.invokevirtual 103, 3) := by decide +kernel
theorem dX1_widthBits_54 : decode cX1_widthBits 54 = .ok (.i2l, 1) := by decide +kernel
theorem dX1_widthBits_55 : decode cX1_widthBits 55 = .ok (.lmul, 1) := by decide +kernel
theorem dX1_widthBits_56 : decode cX1_widthBits 56 = .ok (.ladd, 1) := by decide +kernel
theorem dX1_widthBits_57 : decode cX1_widthBits 57 = .ok (.lstore_n 2, 1) := by decide +kernel
theorem dX1_widthBits_58 : decode cX1_widthBits 58 = .ok (.iinc 4 1, 3) := by decide +kernel
theorem dX1_widthBits_61 : decode cX1_widthBits 61 = .ok (.goto (-56), 3) := by decide +kernel
theorem dX1_widthBits_64 : decode cX1_widthBits 64 = .ok (.lload_n 2, 1) := by decide +kernel
theorem dX1_widthBits_65 : decode cX1_widthBits 65 = .ok (.aload_n 1, 1) := by decide +kernel
theorem dX1_widthBits_66 : decode cX1_widthBits 66 = .ok (.getfield 37, 3) := by decide +kernel
theorem dX1_widthBits_69 : decode cX1_widthBits 69 = .ok (.getfield 68, 3) := by decide +kernel
theorem dX1_widthBits_72 : decode cX1_widthBits 72 = .ok (.i2l, 1) := by decide +kernel
theorem dX1_widthBits_73 : decode cX1_widthBits 73 = .ok (.invokestatic 107, 3) := by decide +kernel
theorem dX1_widthBits_76 : decode cX1_widthBits 76 = .ok (.lreturn, 1) := by decide +kernel
theorem dX1_closenessBits_0 : decode cX1_closenessBits 0 = .ok (.lconst 0, 1) := by decide +kernel
theorem dX1_closenessBits_1 : decode cX1_closenessBits 1 = .ok (.lstore_n 2, 1) := by decide +kernel
theorem dX1_closenessBits_2 : decode cX1_closenessBits 2 = .ok (.iconst 0, 1) := by decide +kernel
theorem dX1_closenessBits_3 : decode cX1_closenessBits 3 = .ok (.istore 4, 2) := by decide +kernel
theorem dX1_closenessBits_5 : decode cX1_closenessBits 5 = .ok (.iload 4, 2) := by decide +kernel
theorem dX1_closenessBits_7 : decode cX1_closenessBits 7 = .ok (.aload_n 0, 1) := by decide +kernel
theorem dX1_closenessBits_8 : decode cX1_closenessBits 8 = .ok (.getfield 23, 3) := by decide +kernel
theorem dX1_closenessBits_11 : decode cX1_closenessBits 11 = .ok (.if_icmp .ge 80, 3) := by decide +kernel
theorem dX1_closenessBits_14 : decode cX1_closenessBits 14 = .ok (.iload 4, 2) := by decide +kernel
theorem dX1_closenessBits_16 : decode cX1_closenessBits 16 = .ok (.iconst 1, 1) := by decide +kernel
theorem dX1_closenessBits_17 : decode cX1_closenessBits 17 = .ok (.iadd, 1) := by decide +kernel
theorem dX1_closenessBits_18 : decode cX1_closenessBits 18 = .ok (.istore 5, 2) := by decide +kernel
theorem dX1_closenessBits_20 : decode cX1_closenessBits 20 = .ok (.iload 5, 2) := by decide +kernel
theorem dX1_closenessBits_22 : decode cX1_closenessBits 22 = .ok (.aload_n 0, 1) := by decide +kernel
theorem dX1_closenessBits_23 : decode cX1_closenessBits 23 = .ok (.getfield 23, 3) := by decide +kernel
theorem dX1_closenessBits_26 : decode cX1_closenessBits 26 = .ok (.if_icmp .ge 59, 3) := by decide +kernel
theorem dX1_closenessBits_29 : decode cX1_closenessBits 29 = .ok (.aload_n 1, 1) := by decide +kernel
theorem dX1_closenessBits_30 : decode cX1_closenessBits 30 = .ok (.getfield 9, 3) := by decide +kernel
theorem dX1_closenessBits_33 : decode cX1_closenessBits 33 = .ok (.iload 4, 2) := by decide +kernel
theorem dX1_closenessBits_35 : decode cX1_closenessBits 35 = .ok (.invokestatic 29, 3) := by decide +kernel
theorem dX1_closenessBits_38 : decode cX1_closenessBits 38 = .ok (.ifCond .eq 41, 3) := by decide +kernel
theorem dX1_closenessBits_41 : decode cX1_closenessBits 41 = .ok (.aload_n 1, 1) := by decide +kernel
theorem dX1_closenessBits_42 : decode cX1_closenessBits 42 = .ok (.getfield 9, 3) := by decide +kernel
theorem dX1_closenessBits_45 : decode cX1_closenessBits 45 = .ok (.iload 5, 2) := by decide +kernel
theorem dX1_closenessBits_47 : decode cX1_closenessBits 47 = .ok (.invokestatic 29, 3) := by decide +kernel
theorem dX1_closenessBits_50 : decode cX1_closenessBits 50 = .ok (.ifCond .eq 29, 3) := by decide +kernel
theorem dX1_closenessBits_53 : decode cX1_closenessBits 53 = .ok (.lload_n 2, 1) := by decide +kernel
theorem dX1_closenessBits_54 : decode cX1_closenessBits 54 = .ok (.aload_n 0, 1) := by decide +kernel
theorem dX1_closenessBits_55 : decode cX1_closenessBits 55 = .ok (.getfield 33, 3) := by decide +kernel
theorem dX1_closenessBits_58 : decode cX1_closenessBits 58 = .ok (.iload 4, 2) := by decide +kernel
theorem dX1_closenessBits_60 : decode cX1_closenessBits 60 = .ok (.aaload, 1) := by decide +kernel
theorem dX1_closenessBits_61 : decode cX1_closenessBits 61 = .ok (.getfield 37, 3) := by decide +kernel
theorem dX1_closenessBits_64 : decode cX1_closenessBits 64 = .ok (.aload_n 0, 1) := by decide +kernel
theorem dX1_closenessBits_65 : decode cX1_closenessBits 65 = .ok (.getfield 33, 3) := by decide +kernel
theorem dX1_closenessBits_68 : decode cX1_closenessBits 68 = .ok (.iload 5, 2) := by decide +kernel
theorem dX1_closenessBits_70 : decode cX1_closenessBits 70 = .ok (.aaload, 1) := by decide +kernel
theorem dX1_closenessBits_71 : decode cX1_closenessBits 71 = .ok (.getfield 37, 3) := by decide +kernel
theorem dX1_closenessBits_74 : decode cX1_closenessBits 74 = .ok (.invokevirtual 111, 3) := by decide +kernel
theorem dX1_closenessBits_77 : decode cX1_closenessBits 77 = .ok (.ladd, 1) := by decide +kernel
theorem dX1_closenessBits_78 : decode cX1_closenessBits 78 = .ok (.lstore_n 2, 1) := by decide +kernel
theorem dX1_closenessBits_79 : decode cX1_closenessBits 79 = .ok (.iinc 5 1, 3) := by decide +kernel
theorem dX1_closenessBits_82 : decode cX1_closenessBits 82 = .ok (.goto (-62), 3) := by decide +kernel
theorem dX1_closenessBits_85 : decode cX1_closenessBits 85 = .ok (.iinc 4 1, 3) := by decide +kernel
theorem dX1_closenessBits_88 : decode cX1_closenessBits 88 = .ok (.goto (-83), 3) := by decide +kernel
theorem dX1_closenessBits_91 : decode cX1_closenessBits 91 = .ok (.lload_n 2, 1) := by decide +kernel
theorem dX1_closenessBits_92 : decode cX1_closenessBits 92 = .ok (.aload_n 1, 1) := by decide +kernel
theorem dX1_closenessBits_93 : decode cX1_closenessBits 93 = .ok (.getfield 37, 3) := by decide +kernel
theorem dX1_closenessBits_96 : decode cX1_closenessBits 96 = .ok (.getfield 68, 3) := by decide +kernel
theorem dX1_closenessBits_99 : decode cX1_closenessBits 99 = .ok (.i2l, 1) := by decide +kernel
theorem dX1_closenessBits_100 : decode cX1_closenessBits 100 = .ok (.aload_n 1, 1) := by decide +kernel
theorem dX1_closenessBits_101 : decode cX1_closenessBits 101 = .ok (.getfield 37, 3) := by decide +kernel
theorem dX1_closenessBits_104 : decode cX1_closenessBits 104 = .ok (.getfield 68, 3) := by decide +kernel
theorem dX1_closenessBits_107 : decode cX1_closenessBits 107 = .ok (.i2l, 1) := by decide +kernel
theorem dX1_closenessBits_108 : decode cX1_closenessBits 108 = .ok (.lmul, 1) := by decide +kernel
theorem dX1_closenessBits_109 : decode cX1_closenessBits 109 = .ok (.invokestatic 107, 3) := by decide +kernel
theorem dX1_closenessBits_112 : decode cX1_closenessBits 112 = .ok (.lreturn, 1) := by decide +kernel
theorem dX1_tauBits_0 : decode cX1_tauBits 0 = .ok (.bipush 9, 2) := by decide +kernel
theorem dX1_tauBits_2 : decode cX1_tauBits 2 = .ok (.anewarray 10, 3) := by decide +kernel
theorem dX1_tauBits_5 : decode cX1_tauBits 5 = .ok (.astore_n 3, 1) := by decide +kernel
theorem dX1_tauBits_6 : decode cX1_tauBits 6 = .ok (.aload_n 3, 1) := by decide +kernel
theorem dX1_tauBits_7 : decode cX1_tauBits 7 = .ok (.iconst 0, 1) := by decide +kernel
theorem dX1_tauBits_8 : decode cX1_tauBits 8 = .ok (.aload_n 1, 1) := by decide +kernel
theorem dX1_tauBits_9 : decode cX1_tauBits 9 = .ok (.aastore, 1) := by decide +kernel
theorem dX1_tauBits_10 : decode cX1_tauBits 10 = .ok (.iconst 1, 1) := by decide +kernel
theorem dX1_tauBits_11 : decode cX1_tauBits 11 = .ok (.istore 4, 2) := by decide +kernel
theorem dX1_tauBits_13 : decode cX1_tauBits 13 = .ok (.iconst 1, 1) := by decide +kernel
theorem dX1_tauBits_14 : decode cX1_tauBits 14 = .ok (.istore 5, 2) := by decide +kernel
theorem dX1_tauBits_16 : decode cX1_tauBits 16 = .ok (.iload 5, 2) := by decide +kernel
theorem dX1_tauBits_18 : decode cX1_tauBits 18 = .ok (.iload_n 2, 1) := by decide +kernel
theorem dX1_tauBits_19 : decode cX1_tauBits 19 = .ok (.if_icmp .ge 60, 3) := by decide +kernel
theorem dX1_tauBits_22 : decode cX1_tauBits 22 = .ok (.iload 4, 2) := by decide +kernel
theorem dX1_tauBits_24 : decode cX1_tauBits 24 = .ok (.aload_n 3, 1) := by decide +kernel
theorem dX1_tauBits_25 : decode cX1_tauBits 25 = .ok (.arraylength, 1) := by decide +kernel
theorem dX1_tauBits_26 : decode cX1_tauBits 26 = .ok (.if_icmp .ge 53, 3) := by decide +kernel
theorem dX1_tauBits_29 : decode cX1_tauBits 29 = .ok (.aload_n 3, 1) := by decide +kernel
theorem dX1_tauBits_30 : decode cX1_tauBits 30 = .ok (.iload 4, 2) := by decide +kernel
theorem dX1_tauBits_32 : decode cX1_tauBits 32 = .ok (.invokestatic 115, 3) := by decide +kernel
theorem dX1_tauBits_35 : decode cX1_tauBits 35 = .ok (.istore 6, 2) := by decide +kernel
theorem dX1_tauBits_37 : decode cX1_tauBits 37 = .ok (.iload 6, 2) := by decide +kernel
theorem dX1_tauBits_39 : decode cX1_tauBits 39 = .ok (.iconst (-1), 1) := by decide +kernel
theorem dX1_tauBits_40 : decode cX1_tauBits 40 = .ok (.if_icmp .ne 6, 3) := by decide +kernel
theorem dX1_tauBits_43 : decode cX1_tauBits 43 = .ok (.goto 36, 3) := by decide +kernel
theorem dX1_tauBits_46 : decode cX1_tauBits 46 = .ok (.aload_n 3, 1) := by decide +kernel
theorem dX1_tauBits_47 : decode cX1_tauBits 47 = .ok (.iload 6, 2) := by decide +kernel
theorem dX1_tauBits_49 : decode cX1_tauBits 49 = .ok (.aaload, 1) := by decide +kernel
theorem dX1_tauBits_50 : decode cX1_tauBits 50 = .ok (.astore 7, 2) := by decide +kernel
theorem dX1_tauBits_52 : decode cX1_tauBits 52 = .ok (.aload_n 3, 1) := by decide +kernel
theorem dX1_tauBits_53 : decode cX1_tauBits 53 = .ok (.iload 6, 2) := by decide +kernel
theorem dX1_tauBits_55 : decode cX1_tauBits 55 = .ok (.aload 7, 2) := by decide +kernel
theorem dX1_tauBits_57 : decode cX1_tauBits 57 = .ok (.getfield 119, 3) := by decide +kernel
theorem dX1_tauBits_60 : decode cX1_tauBits 60 = .ok (.aastore, 1) := by decide +kernel
theorem dX1_tauBits_61 : decode cX1_tauBits 61 = .ok (.aload_n 3, 1) := by decide +kernel
theorem dX1_tauBits_62 : decode cX1_tauBits 62 = .ok (.iload 4, 2) := by decide +kernel
theorem dX1_tauBits_64 : decode cX1_tauBits 64 = .ok (.aload 7, 2) := by decide +kernel
theorem dX1_tauBits_66 : decode cX1_tauBits 66 = .ok (.getfield 123, 3) := by decide +kernel
theorem dX1_tauBits_69 : decode cX1_tauBits 69 = .ok (.aastore, 1) := by decide +kernel
theorem dX1_tauBits_70 : decode cX1_tauBits 70 = .ok (.iinc 4 1, 3) := by decide +kernel
theorem dX1_tauBits_73 : decode cX1_tauBits 73 = .ok (.iinc 5 1, 3) := by decide +kernel
theorem dX1_tauBits_76 : decode cX1_tauBits 76 = .ok (.goto (-60), 3) := by decide +kernel
theorem dX1_tauBits_79 : decode cX1_tauBits 79 = .ok (.lconst 0, 1) := by decide +kernel
theorem dX1_tauBits_80 : decode cX1_tauBits 80 = .ok (.lstore 5, 2) := by decide +kernel
theorem dX1_tauBits_82 : decode cX1_tauBits 82 = .ok (.iconst 0, 1) := by decide +kernel
theorem dX1_tauBits_83 : decode cX1_tauBits 83 = .ok (.istore 7, 2) := by decide +kernel
theorem dX1_tauBits_85 : decode cX1_tauBits 85 = .ok (.iload 7, 2) := by decide +kernel
theorem dX1_tauBits_87 : decode cX1_tauBits 87 = .ok (.aload_n 0, 1) := by decide +kernel
theorem dX1_tauBits_88 : decode cX1_tauBits 88 = .ok (.getfield 23, 3) := by decide +kernel
theorem dX1_tauBits_91 : decode cX1_tauBits 91 = .ok (.if_icmp .ge 54, 3) := by decide +kernel
theorem dX1_tauBits_94 : decode cX1_tauBits 94 = .ok (.aload_n 1, 1) := by decide +kernel
theorem dX1_tauBits_95 : decode cX1_tauBits 95 = .ok (.getfield 9, 3) := by decide +kernel
theorem dX1_tauBits_98 : decode cX1_tauBits 98 = .ok (.iload 7, 2) := by decide +kernel
theorem dX1_tauBits_100 : decode cX1_tauBits 100 = .ok (.invokestatic 29, 3) := by decide +kernel
theorem dX1_tauBits_103 : decode cX1_tauBits 103 = .ok (.ifCond .eq 36, 3) := by decide +kernel
theorem dX1_tauBits_106 : decode cX1_tauBits 106 = .ok (.aload_n 0, 1) := by decide +kernel
theorem dX1_tauBits_107 : decode cX1_tauBits 107 = .ok (.getfield 33, 3) := by decide +kernel
theorem dX1_tauBits_110 : decode cX1_tauBits 110 = .ok (.iload 7, 2) := by decide +kernel
theorem dX1_tauBits_112 : decode cX1_tauBits 112 = .ok (.aaload, 1) := by decide +kernel
theorem dX1_tauBits_113 : decode cX1_tauBits 113 = .ok (.getfield 37, 3) := by decide +kernel
theorem dX1_tauBits_116 : decode cX1_tauBits 116 = .ok (.astore 8, 2) := by decide +kernel
theorem dX1_tauBits_118 : decode cX1_tauBits 118 = .ok (.lload 5, 2) := by decide +kernel
theorem dX1_tauBits_120 : decode cX1_tauBits 120 = .ok (.aload 8, 2) := by decide +kernel
theorem dX1_tauBits_122 : decode cX1_tauBits 122 = .ok (.getfield 68, 3) := by decide +kernel
theorem dX1_tauBits_125 : decode cX1_tauBits 125 = .ok (.i2l, 1) := by decide +kernel
theorem dX1_tauBits_126 : decode cX1_tauBits 126 = .ok (.aload 8, 2) := by decide +kernel
theorem dX1_tauBits_128 : decode cX1_tauBits 128 = .ok (.aload_n 3, 1) := by decide +kernel
theorem dX1_tauBits_129 : decode cX1_tauBits 129 = .ok (.iload 4, 2) := by decide +kernel
theorem dX1_tauBits_131 : decode cX1_tauBits 131 = .ok (.invokestatic 126, 3) := by decide +kernel
theorem dX1_tauBits_134 : decode cX1_tauBits 134 = .ok (.i2l, 1) := by decide +kernel
theorem dX1_tauBits_135 : decode cX1_tauBits 135 = .ok (.lmul, 1) := by decide +kernel
theorem dX1_tauBits_136 : decode cX1_tauBits 136 = .ok (.ladd, 1) := by decide +kernel
theorem dX1_tauBits_137 : decode cX1_tauBits 137 = .ok (.lstore 5, 2) := by decide +kernel
theorem dX1_tauBits_139 : decode cX1_tauBits 139 = .ok (.iinc 7 1, 3) := by decide +kernel
theorem dX1_tauBits_142 : decode cX1_tauBits 142 = .ok (.goto (-57), 3) := by decide +kernel
theorem dX1_tauBits_145 : decode cX1_tauBits 145 = .ok (.lload 5, 2) := by decide +kernel
theorem dX1_tauBits_147 : decode cX1_tauBits 147 = .ok (.aload_n 1, 1) := by decide +kernel
theorem dX1_tauBits_148 : decode cX1_tauBits 148 = .ok (.getfield 37, 3) := by decide +kernel
theorem dX1_tauBits_151 : decode cX1_tauBits 151 = .ok (.getfield 68, 3) := by decide +kernel
theorem dX1_tauBits_154 : decode cX1_tauBits 154 = .ok (.i2l, 1) := by decide +kernel
theorem dX1_tauBits_155 : decode cX1_tauBits 155 = .ok (.invokestatic 107, 3) := by decide +kernel
theorem dX1_tauBits_158 : decode cX1_tauBits 158 = .ok (.lreturn, 1) := by decide +kernel
theorem dX1_latestJoined_0 : decode cX1_latestJoined 0 = .ok (.iconst (-1), 1) := by decide +kernel
theorem dX1_latestJoined_1 : decode cX1_latestJoined 1 = .ok (.istore_n 2, 1) := by decide +kernel
theorem dX1_latestJoined_2 : decode cX1_latestJoined 2 = .ok (.iconst 0, 1) := by decide +kernel
theorem dX1_latestJoined_3 : decode cX1_latestJoined 3 = .ok (.istore_n 3, 1) := by decide +kernel
theorem dX1_latestJoined_4 : decode cX1_latestJoined 4 = .ok (.iload_n 3, 1) := by decide +kernel
theorem dX1_latestJoined_5 : decode cX1_latestJoined 5 = .ok (.iload_n 1, 1) := by decide +kernel
theorem dX1_latestJoined_6 : decode cX1_latestJoined 6 = .ok (.if_icmp .ge 40, 3) := by decide +kernel
theorem dX1_latestJoined_9 : decode cX1_latestJoined 9 = .ok (.aload_n 0, 1) := by decide +kernel
theorem dX1_latestJoined_10 : decode cX1_latestJoined 10 = .ok (.iload_n 3, 1) := by decide +kernel
theorem dX1_latestJoined_11 : decode cX1_latestJoined 11 = .ok (.aaload, 1) := by decide +kernel
theorem dX1_latestJoined_12 : decode cX1_latestJoined 12 = .ok (.invokevirtual 130, 3) := by decide +kernel
theorem dX1_latestJoined_15 : decode cX1_latestJoined 15 = .ok (.ifCond .eq 25, 3) := by decide +kernel
theorem dX1_latestJoined_18 : decode cX1_latestJoined 18 = .ok (.iload_n 2, 1) := by decide +kernel
theorem dX1_latestJoined_19 : decode cX1_latestJoined 19 = .ok (.iconst (-1), 1) := by decide +kernel
theorem dX1_latestJoined_20 : decode cX1_latestJoined 20 = .ok (.if_icmp .eq 18, 3) := by decide +kernel
theorem dX1_latestJoined_23 : decode cX1_latestJoined 23 = .ok (.aload_n 0, 1) := by decide +kernel
theorem dX1_latestJoined_24 : decode cX1_latestJoined 24 = .ok (.iload_n 3, 1) := by decide +kernel
theorem dX1_latestJoined_25 : decode cX1_latestJoined 25 = .ok (.aaload, 1) := by decide +kernel
theorem dX1_latestJoined_26 : decode cX1_latestJoined 26 = .ok (.getfield 134, 3) := by decide +kernel
theorem dX1_latestJoined_29 : decode cX1_latestJoined 29 = .ok (.aload_n 0, 1) := by decide +kernel
theorem dX1_latestJoined_30 : decode cX1_latestJoined 30 = .ok (.iload_n 2, 1) := by decide +kernel
theorem dX1_latestJoined_31 : decode cX1_latestJoined 31 = .ok (.aaload, 1) := by decide +kernel
theorem dX1_latestJoined_32 : decode cX1_latestJoined 32 = .ok (.getfield 134, 3) := by decide +kernel
theorem dX1_latestJoined_35 : decode cX1_latestJoined 35 = .ok (.if_icmp .le 5, 3) := by decide +kernel
theorem dX1_latestJoined_38 : decode cX1_latestJoined 38 = .ok (.iload_n 3, 1) := by decide +kernel
theorem dX1_latestJoined_39 : decode cX1_latestJoined 39 = .ok (.istore_n 2, 1) := by decide +kernel
theorem dX1_latestJoined_40 : decode cX1_latestJoined 40 = .ok (.iinc 3 1, 3) := by decide +kernel
theorem dX1_latestJoined_43 : decode cX1_latestJoined 43 = .ok (.goto (-39), 3) := by decide +kernel
theorem dX1_latestJoined_46 : decode cX1_latestJoined 46 = .ok (.iload_n 2, 1) := by decide +kernel
theorem dX1_latestJoined_47 : decode cX1_latestJoined 47 = .ok (.ireturn, 1) := by decide +kernel
theorem dX1_leastSquare_0 : decode cX1_leastSquare 0 = .ok (.aload_n 0, 1) := by decide +kernel
theorem dX1_leastSquare_1 : decode cX1_leastSquare 1 = .ok (.aload_n 1, 1) := by decide +kernel
theorem dX1_leastSquare_2 : decode cX1_leastSquare 2 = .ok (.iconst 0, 1) := by decide +kernel
theorem dX1_leastSquare_3 : decode cX1_leastSquare 3 = .ok (.aaload, 1) := by decide +kernel
theorem dX1_leastSquare_4 : decode cX1_leastSquare 4 = .ok (.getfield 37, 3) := by decide +kernel
theorem dX1_leastSquare_7 : decode cX1_leastSquare 7 = .ok (.invokevirtual 103, 3) := by decide +kernel
theorem dX1_leastSquare_10 : decode cX1_leastSquare 10 = .ok (.istore_n 3, 1) := by decide +kernel
theorem dX1_leastSquare_11 : decode cX1_leastSquare 11 = .ok (.iconst 1, 1) := by decide +kernel
theorem dX1_leastSquare_12 : decode cX1_leastSquare 12 = .ok (.istore 4, 2) := by decide +kernel
theorem dX1_leastSquare_14 : decode cX1_leastSquare 14 = .ok (.iload 4, 2) := by decide +kernel
theorem dX1_leastSquare_16 : decode cX1_leastSquare 16 = .ok (.iload_n 2, 1) := by decide +kernel
theorem dX1_leastSquare_17 : decode cX1_leastSquare 17 = .ok (.if_icmp .ge 25, 3) := by decide +kernel
theorem dX1_leastSquare_20 : decode cX1_leastSquare 20 = .ok (.iload_n 3, 1) := by decide +kernel
theorem dX1_leastSquare_21 : decode cX1_leastSquare 21 = .ok (.aload_n 0, 1) := by decide +kernel
theorem dX1_leastSquare_22 : decode cX1_leastSquare 22 = .ok (.aload_n 1, 1) := by decide +kernel
theorem dX1_leastSquare_23 : decode cX1_leastSquare 23 = .ok (.iload 4, 2) := by decide +kernel
theorem dX1_leastSquare_25 : decode cX1_leastSquare 25 = .ok (.aaload, 1) := by decide +kernel
theorem dX1_leastSquare_26 : decode cX1_leastSquare 26 = .ok (.getfield 37, 3) := by decide +kernel
theorem dX1_leastSquare_29 : decode cX1_leastSquare 29 = .ok (.invokevirtual 103, 3) := by decide +kernel
theorem dX1_leastSquare_32 : decode cX1_leastSquare 32 = .ok (.invokestatic 137, 3) := by decide +kernel
theorem dX1_leastSquare_35 : decode cX1_leastSquare 35 = .ok (.istore_n 3, 1) := by decide +kernel
theorem dX1_leastSquare_36 : decode cX1_leastSquare 36 = .ok (.iinc 4 1, 3) := by decide +kernel
theorem dX1_leastSquare_39 : decode cX1_leastSquare 39 = .ok (.goto (-25), 3) := by decide +kernel
theorem dX1_leastSquare_42 : decode cX1_leastSquare 42 = .ok (.iload_n 3, 1) := by decide +kernel
theorem dX1_leastSquare_43 : decode cX1_leastSquare 43 = .ok (.ireturn, 1) := by decide +kernel
theorem dX1_quotientBits_0 : decode cX1_quotientBits 0 = .ok (.lload_n 0, 1) := by decide +kernel
theorem dX1_quotientBits_1 : decode cX1_quotientBits 1 = .ok (.lconst 0, 1) := by decide +kernel
theorem dX1_quotientBits_2 : decode cX1_quotientBits 2 = .ok (.lcmp, 1) := by decide +kernel
theorem dX1_quotientBits_3 : decode cX1_quotientBits 3 = .ok (.ifCond .le 9, 3) := by decide +kernel
theorem dX1_quotientBits_6 : decode cX1_quotientBits 6 = .ok (.lload_n 2, 1) := by decide +kernel
theorem dX1_quotientBits_7 : decode cX1_quotientBits 7 = .ok (.lconst 0, 1) := by decide +kernel
theorem dX1_quotientBits_8 : decode cX1_quotientBits 8 = .ok (.lcmp, 1) := by decide +kernel
theorem dX1_quotientBits_9 : decode cX1_quotientBits 9 = .ok (.ifCond .gt 5, 3) := by decide +kernel
theorem dX1_quotientBits_12 : decode cX1_quotientBits 12 = .ok (.lconst 0, 1) := by decide +kernel
theorem dX1_quotientBits_13 : decode cX1_quotientBits 13 = .ok (.lreturn, 1) := by decide +kernel
theorem dX1_quotientBits_14 : decode cX1_quotientBits 14 = .ok (.lload_n 0, 1) := by decide +kernel
theorem dX1_quotientBits_15 : decode cX1_quotientBits 15 = .ok (.l2d, 1) := by decide +kernel
theorem dX1_quotientBits_16 : decode cX1_quotientBits 16 = .ok (.lload_n 2, 1) := by decide +kernel
theorem dX1_quotientBits_17 : decode cX1_quotientBits 17 = .ok (.l2d, 1) := by decide +kernel
theorem dX1_quotientBits_18 : decode cX1_quotientBits 18 = .ok (.ddiv, 1) := by decide +kernel
theorem dX1_quotientBits_19 : decode cX1_quotientBits 19 = .ok (.dstore 4, 2) := by decide +kernel
theorem dX1_quotientBits_21 : decode cX1_quotientBits 21 = .ok (.ldc2_w 142, 3) := by decide +kernel
theorem dX1_quotientBits_24 : decode cX1_quotientBits 24 = .ok (.dstore 6, 2) := by decide +kernel
theorem dX1_quotientBits_26 : decode cX1_quotientBits 26 = .ok (.bipush 52, 2) := by decide +kernel
theorem dX1_quotientBits_28 : decode cX1_quotientBits 28 = .ok (.istore 8, 2) := by decide +kernel
theorem dX1_quotientBits_30 : decode cX1_quotientBits 30 = .ok (.iconst 0, 1) := by decide +kernel
theorem dX1_quotientBits_31 : decode cX1_quotientBits 31 = .ok (.istore 9, 2) := by decide +kernel
theorem dX1_quotientBits_33 : decode cX1_quotientBits 33 = .ok (.iload 9, 2) := by decide +kernel
theorem dX1_quotientBits_35 : decode cX1_quotientBits 35 = .ok (.sipush 2000, 3) := by decide +kernel
theorem dX1_quotientBits_38 : decode cX1_quotientBits 38 = .ok (.if_icmp .ge 28, 3) := by decide +kernel
theorem dX1_quotientBits_41 : decode cX1_quotientBits 41 = .ok (.dload 4, 2) := by decide +kernel
theorem dX1_quotientBits_43 : decode cX1_quotientBits 43 = .ok (.dload 6, 2) := by decide +kernel
theorem dX1_quotientBits_45 : decode cX1_quotientBits 45 = .ok (.dcmp .g, 1) := by decide +kernel
theorem dX1_quotientBits_46 : decode cX1_quotientBits 46 = .ok (.ifCond .ge 20, 3) := by decide +kernel
theorem dX1_quotientBits_49 : decode cX1_quotientBits 49 = .ok (.dload 4, 2) := by decide +kernel
theorem dX1_quotientBits_51 : decode cX1_quotientBits 51 = .ok (.ldc2_w 144, 3) := by decide +kernel
theorem dX1_quotientBits_54 : decode cX1_quotientBits 54 = .ok (.dmul, 1) := by decide +kernel
theorem dX1_quotientBits_55 : decode cX1_quotientBits 55 = .ok (.dstore 4, 2) := by decide +kernel
theorem dX1_quotientBits_57 : decode cX1_quotientBits 57 = .ok (.iinc 8 (-1), 3) := by decide +kernel
theorem dX1_quotientBits_60 : decode cX1_quotientBits 60 = .ok (.iinc 9 1, 3) := by decide +kernel
theorem dX1_quotientBits_63 : decode cX1_quotientBits 63 = .ok (.goto (-30), 3) := by decide +kernel
theorem dX1_quotientBits_66 : decode cX1_quotientBits 66 = .ok (.iconst 0, 1) := by decide +kernel
theorem dX1_quotientBits_67 : decode cX1_quotientBits 67 = .ok (.istore 9, 2) := by decide +kernel
theorem dX1_quotientBits_69 : decode cX1_quotientBits 69 = .ok (.iload 9, 2) := by decide +kernel
theorem dX1_quotientBits_71 : decode cX1_quotientBits 71 = .ok (.sipush 2000, 3) := by decide +kernel
theorem dX1_quotientBits_74 : decode cX1_quotientBits 74 = .ok (.if_icmp .ge 32, 3) := by decide +kernel
theorem dX1_quotientBits_77 : decode cX1_quotientBits 77 = .ok (.dload 4, 2) := by decide +kernel
theorem dX1_quotientBits_79 : decode cX1_quotientBits 79 = .ok (.dload 6, 2) := by decide +kernel
theorem dX1_quotientBits_81 : decode cX1_quotientBits 81 = .ok (.ldc2_w 144, 3) := by decide +kernel
theorem dX1_quotientBits_84 : decode cX1_quotientBits 84 = .ok (.dmul, 1) := by decide +kernel
theorem dX1_quotientBits_85 : decode cX1_quotientBits 85 = .ok (.dcmp .l, 1) := by decide +kernel
theorem dX1_quotientBits_86 : decode cX1_quotientBits 86 = .ok (.ifCond .lt 20, 3) := by decide +kernel
theorem dX1_quotientBits_89 : decode cX1_quotientBits 89 = .ok (.dload 4, 2) := by decide +kernel
theorem dX1_quotientBits_91 : decode cX1_quotientBits 91 = .ok (.ldc2_w 144, 3) := by decide +kernel
theorem dX1_quotientBits_94 : decode cX1_quotientBits 94 = .ok (.ddiv, 1) := by decide +kernel
theorem dX1_quotientBits_95 : decode cX1_quotientBits 95 = .ok (.dstore 4, 2) := by decide +kernel
theorem dX1_quotientBits_97 : decode cX1_quotientBits 97 = .ok (.iinc 8 1, 3) := by decide +kernel
theorem dX1_quotientBits_100 : decode cX1_quotientBits 100 = .ok (.iinc 9 1, 3) := by decide +kernel
theorem dX1_quotientBits_103 : decode cX1_quotientBits 103 = .ok (.goto (-34), 3) := by decide +kernel
theorem dX1_quotientBits_106 : decode cX1_quotientBits 106 = .ok (.iload 8, 2) := by decide +kernel
theorem dX1_quotientBits_108 : decode cX1_quotientBits 108 = .ok (.sipush 1023, 3) := by decide +kernel
theorem dX1_quotientBits_111 : decode cX1_quotientBits 111 = .ok (.iadd, 1) := by decide +kernel
theorem dX1_quotientBits_112 : decode cX1_quotientBits 112 = .ok (.i2l, 1) := by decide +kernel
theorem dX1_quotientBits_113 : decode cX1_quotientBits 113 = .ok (.bipush 52, 2) := by decide +kernel
theorem dX1_quotientBits_115 : decode cX1_quotientBits 115 = .ok (.lshl, 1) := by decide +kernel
theorem dX1_quotientBits_116 : decode cX1_quotientBits 116 = .ok (.dload 4, 2) := by decide +kernel
theorem dX1_quotientBits_118 : decode cX1_quotientBits 118 = .ok (.d2l, 1) := by decide +kernel
theorem dX1_quotientBits_119 : decode cX1_quotientBits 119 = .ok (.ldc2_w 146, 3) := by decide +kernel
theorem dX1_quotientBits_122 : decode cX1_quotientBits 122 = .ok (.land, 1) := by decide +kernel
theorem dX1_quotientBits_123 : decode cX1_quotientBits 123 = .ok (.lor, 1) := by decide +kernel
theorem dX1_quotientBits_124 : decode cX1_quotientBits 124 = .ok (.lreturn, 1) := by decide +kernel
theorem dX2_init_0 : decode cX2_init 0 = .ok (.aload_n 0, 1) := by decide +kernel
theorem dX2_init_1 : decode cX2_init 1 = .ok (.invokespecial 3, 3) := by decide +kernel
theorem dX2_init_4 : decode cX2_init 4 = .ok (.aload_n 0, 1) := by decide +kernel
theorem dX2_init_5 : decode cX2_init 5 = .ok (.aload_n 1, 1) := by decide +kernel
theorem dX2_init_6 : decode cX2_init 6 = .ok (.putfield 9, 3) := by decide +kernel
theorem dX2_init_9 : decode cX2_init 9 = .ok (.aload_n 0, 1) := by decide +kernel
theorem dX2_init_10 : decode cX2_init 10 = .ok (.new 15, 3) := by decide +kernel
theorem dX2_init_13 : decode cX2_init 13 = .ok (.dup, 1) := by decide +kernel
theorem dX2_init_14 : decode cX2_init 14 = .ok (.invokespecial 17, 3) := by decide +kernel
theorem dX2_init_17 : decode cX2_init 17 = .ok (.putfield 18, 3) := by decide +kernel
theorem dX2_init_20 : decode cX2_init 20 = .ok (.aload_n 0, 1) := by decide +kernel
theorem dX2_init_21 : decode cX2_init 21 = .ok (.new 15, 3) := by decide +kernel
theorem dX2_init_24 : decode cX2_init 24 = .ok (.dup, 1) := by decide +kernel
theorem dX2_init_25 : decode cX2_init 25 = .ok (.invokespecial 17, 3) := by decide +kernel
theorem dX2_init_28 : decode cX2_init 28 = .ok (.putfield 22, 3) := by decide +kernel
theorem dX2_init_31 : decode cX2_init 31 = .ok (.aload_n 0, 1) := by decide +kernel
theorem dX2_init_32 : decode cX2_init 32 = .ok (.aload_n 1, 1) := by decide +kernel
theorem dX2_init_33 : decode cX2_init 33 = .ok (.arraylength, 1) := by decide +kernel
theorem dX2_init_34 : decode cX2_init 34 = .ok (.newarray .long, 2) := by decide +kernel
theorem dX2_init_36 : decode cX2_init 36 = .ok (.putfield 25, 3) := by decide +kernel
theorem dX2_init_39 : decode cX2_init 39 = .ok (.aload_n 0, 1) := by decide +kernel
theorem dX2_init_40 : decode cX2_init 40 = .ok (.iconst 0, 1) := by decide +kernel
theorem dX2_init_41 : decode cX2_init 41 = .ok (.putfield 29, 3) := by decide +kernel
theorem dX2_init_44 : decode cX2_init 44 = .ok (.aload_n 0, 1) := by decide +kernel
theorem dX2_init_45 : decode cX2_init 45 = .ok (.aload_n 1, 1) := by decide +kernel
theorem dX2_init_46 : decode cX2_init 46 = .ok (.arraylength, 1) := by decide +kernel
theorem dX2_init_47 : decode cX2_init 47 = .ok (.newarray .long, 2) := by decide +kernel
theorem dX2_init_49 : decode cX2_init 49 = .ok (.putfield 33, 3) := by decide +kernel
theorem dX2_init_52 : decode cX2_init 52 = .ok (.aload_n 0, 1) := by decide +kernel
theorem dX2_init_53 : decode cX2_init 53 = .ok (.iconst 0, 1) := by decide +kernel
theorem dX2_init_54 : decode cX2_init 54 = .ok (.putfield 36, 3) := by decide +kernel
theorem dX2_init_57 : decode cX2_init 57 = .ok (.return_, 1) := by decide +kernel
theorem dX2_tracksAbout_0 : decode cX2_tracksAbout 0 = .ok (.lconst 0, 1) := by decide +kernel
theorem dX2_tracksAbout_1 : decode cX2_tracksAbout 1 = .ok (.lstore 4, 2) := by decide +kernel
theorem dX2_tracksAbout_3 : decode cX2_tracksAbout 3 = .ok (.iconst 0, 1) := by decide +kernel
theorem dX2_tracksAbout_4 : decode cX2_tracksAbout 4 = .ok (.istore 6, 2) := by decide +kernel
theorem dX2_tracksAbout_6 : decode cX2_tracksAbout 6 = .ok (.iload 6, 2) := by decide +kernel
theorem dX2_tracksAbout_8 : decode cX2_tracksAbout 8 = .ok (.aload_n 0, 1) := by decide +kernel
theorem dX2_tracksAbout_9 : decode cX2_tracksAbout 9 = .ok (.getfield 9, 3) := by decide +kernel
theorem dX2_tracksAbout_12 : decode cX2_tracksAbout 12 = .ok (.arraylength, 1) := by decide +kernel
theorem dX2_tracksAbout_13 : decode cX2_tracksAbout 13 = .ok (.if_icmp .ge 37, 3) := by decide +kernel
theorem dX2_tracksAbout_16 : decode cX2_tracksAbout 16 = .ok (.aload_n 0, 1) := by decide +kernel
theorem dX2_tracksAbout_17 : decode cX2_tracksAbout 17 = .ok (.getfield 9, 3) := by decide +kernel
theorem dX2_tracksAbout_20 : decode cX2_tracksAbout 20 = .ok (.iload 6, 2) := by decide +kernel
theorem dX2_tracksAbout_22 : decode cX2_tracksAbout 22 = .ok (.aaload, 1) := by decide +kernel
theorem dX2_tracksAbout_23 : decode cX2_tracksAbout 23 = .ok (.iload_n 1, 1) := by decide +kernel
theorem dX2_tracksAbout_24 : decode cX2_tracksAbout 24 = .ok (.iload_n 2, 1) := by decide +kernel
theorem dX2_tracksAbout_25 : decode cX2_tracksAbout 25 = .ok (.invokevirtual 39, 3) := by decide +kernel
theorem dX2_tracksAbout_28 : decode cX2_tracksAbout 28 = .ok (.iload_n 3, 1) := by decide +kernel
theorem dX2_tracksAbout_29 : decode cX2_tracksAbout 29 = .ok (.iload_n 3, 1) := by decide +kernel
theorem dX2_tracksAbout_30 : decode cX2_tracksAbout 30 = .ok (.imul, 1) := by decide +kernel
theorem dX2_tracksAbout_31 : decode cX2_tracksAbout 31 = .ok (.if_icmp .gt 13, 3) := by decide +kernel
theorem dX2_tracksAbout_34 : decode cX2_tracksAbout 34 = .ok (.lload 4, 2) := by decide +kernel
theorem dX2_tracksAbout_36 : decode cX2_tracksAbout 36 = .ok (.iload 6, 2) := by decide +kernel
theorem dX2_tracksAbout_38 : decode cX2_tracksAbout 38 = .ok (.invokestatic 45, 3) := by decide +kernel
theorem dX2_tracksAbout_41 : decode cX2_tracksAbout 41 = .ok (.lor, 1) := by decide +kernel
theorem dX2_tracksAbout_42 : decode cX2_tracksAbout 42 = .ok (.lstore 4, 2) := by decide +kernel
theorem dX2_tracksAbout_44 : decode cX2_tracksAbout 44 = .ok (.iinc 6 1, 3) := by decide +kernel
theorem dX2_tracksAbout_47 : decode cX2_tracksAbout 47 = .ok (.goto (-41), 3) := by decide +kernel
theorem dX2_tracksAbout_50 : decode cX2_tracksAbout 50 = .ok (.lload 4, 2) := by decide +kernel
theorem dX2_tracksAbout_52 : decode cX2_tracksAbout 52 = .ok (.lreturn, 1) := by decide +kernel
theorem dX2_weightOf_0 : decode cX2_weightOf 0 = .ok (.iconst 0, 1) := by decide +kernel
theorem dX2_weightOf_1 : decode cX2_weightOf 1 = .ok (.istore_n 3, 1) := by decide +kernel
theorem dX2_weightOf_2 : decode cX2_weightOf 2 = .ok (.iconst 0, 1) := by decide +kernel
theorem dX2_weightOf_3 : decode cX2_weightOf 3 = .ok (.istore 4, 2) := by decide +kernel
theorem dX2_weightOf_5 : decode cX2_weightOf 5 = .ok (.iload 4, 2) := by decide +kernel
theorem dX2_weightOf_7 : decode cX2_weightOf 7 = .ok (.aload_n 0, 1) := by decide +kernel
theorem dX2_weightOf_8 : decode cX2_weightOf 8 = .ok (.getfield 9, 3) := by decide +kernel
theorem dX2_weightOf_11 : decode cX2_weightOf 11 = .ok (.arraylength, 1) := by decide +kernel
theorem dX2_weightOf_12 : decode cX2_weightOf 12 = .ok (.if_icmp .ge 31, 3) := by decide +kernel
theorem dX2_weightOf_15 : decode cX2_weightOf 15 = .ok (.lload_n 1, 1) := by decide +kernel
theorem dX2_weightOf_16 : decode cX2_weightOf 16 = .ok (.iload 4, 2) := by decide +kernel
theorem dX2_weightOf_18 : decode cX2_weightOf 18 = .ok (.invokestatic 49, 3) := by decide +kernel
theorem dX2_weightOf_21 : decode cX2_weightOf 21 = .ok (.ifCond .eq 16, 3) := by decide +kernel
theorem dX2_weightOf_24 : decode cX2_weightOf 24 = .ok (.iload_n 3, 1) := by decide +kernel
theorem dX2_weightOf_25 : decode cX2_weightOf 25 = .ok (.aload_n 0, 1) := by decide +kernel
theorem dX2_weightOf_26 : decode cX2_weightOf 26 = .ok (.getfield 9, 3) := by decide +kernel
theorem dX2_weightOf_29 : decode cX2_weightOf 29 = .ok (.iload 4, 2) := by decide +kernel
theorem dX2_weightOf_31 : decode cX2_weightOf 31 = .ok (.aaload, 1) := by decide +kernel
theorem dX2_weightOf_32 : decode cX2_weightOf 32 = .ok (.getfield 53, 3) := by decide +kernel
theorem dX2_weightOf_35 : decode cX2_weightOf 35 = .ok (.iadd, 1) := by decide +kernel
theorem dX2_weightOf_36 : decode cX2_weightOf 36 = .ok (.istore_n 3, 1) := by decide +kernel
theorem dX2_weightOf_37 : decode cX2_weightOf 37 = .ok (.iinc 4 1, 3) := by decide +kernel
theorem dX2_weightOf_40 : decode cX2_weightOf 40 = .ok (.goto (-35), 3) := by decide +kernel
theorem dX2_weightOf_43 : decode cX2_weightOf 43 = .ok (.iload_n 3, 1) := by decide +kernel
theorem dX2_weightOf_44 : decode cX2_weightOf 44 = .ok (.ireturn, 1) := by decide +kernel
theorem dX2_isSteady_0 : decode cX2_isSteady 0 = .ok (.lload_n 3, 1) := by decide +kernel
theorem dX2_isSteady_1 : decode cX2_isSteady 1 = .ok (.lconst 0, 1) := by decide +kernel
theorem dX2_isSteady_2 : decode cX2_isSteady 2 = .ok (.lcmp, 1) := by decide +kernel
theorem dX2_isSteady_3 : decode cX2_isSteady 3 = .ok (.ifCond .ne 5, 3) := by decide +kernel
theorem dX2_isSteady_6 : decode cX2_isSteady 6 = .ok (.iconst 0, 1) := by decide +kernel
theorem dX2_isSteady_7 : decode cX2_isSteady 7 = .ok (.ireturn, 1) := by decide +kernel
theorem dX2_isSteady_8 : decode cX2_isSteady 8 = .ok (.aload_n 0, 1) := by decide +kernel
theorem dX2_isSteady_9 : decode cX2_isSteady 9 = .ok (.getfield 18, 3) := by decide +kernel
theorem dX2_isSteady_12 : decode cX2_isSteady 12 = .ok (.aload_n 0, 1) := by decide +kernel
theorem dX2_isSteady_13 : decode cX2_isSteady 13 = .ok (.getfield 9, 3) := by decide +kernel
theorem dX2_isSteady_16 : decode cX2_isSteady 16 = .ok (.lload_n 3, 1) := by decide +kernel
theorem dX2_isSteady_17 : decode cX2_isSteady 17 = .ok (.invokevirtual 56, 3) := by decide +kernel
theorem dX2_isSteady_20 : decode cX2_isSteady 20 = .ok (.aload_n 0, 1) := by decide +kernel
theorem dX2_isSteady_21 : decode cX2_isSteady 21 = .ok (.getfield 18, 3) := by decide +kernel
theorem dX2_isSteady_24 : decode cX2_isSteady 24 = .ok (.getfield 60, 3) := by decide +kernel
theorem dX2_isSteady_27 : decode cX2_isSteady 27 = .ok (.iload_n 1, 1) := by decide +kernel
theorem dX2_isSteady_28 : decode cX2_isSteady 28 = .ok (.if_icmp .ne 18, 3) := by decide +kernel
theorem dX2_isSteady_31 : decode cX2_isSteady 31 = .ok (.aload_n 0, 1) := by decide +kernel
theorem dX2_isSteady_32 : decode cX2_isSteady 32 = .ok (.getfield 18, 3) := by decide +kernel
theorem dX2_isSteady_35 : decode cX2_isSteady 35 = .ok (.getfield 63, 3) := by decide +kernel
theorem dX2_isSteady_38 : decode cX2_isSteady 38 = .ok (.iload_n 2, 1) := by decide +kernel
theorem dX2_isSteady_39 : decode cX2_isSteady 39 = .ok (.if_icmp .ne 7, 3) := by decide +kernel
theorem dX2_isSteady_42 : decode cX2_isSteady 42 = .ok (.iconst 1, 1) := by decide +kernel
theorem dX2_isSteady_43 : decode cX2_isSteady 43 = .ok (.goto 4, 3) := by decide +kernel
theorem dX2_isSteady_46 : decode cX2_isSteady 46 = .ok (.iconst 0, 1) := by decide +kernel
theorem dX2_isSteady_47 : decode cX2_isSteady 47 = .ok (.ireturn, 1) := by decide +kernel
theorem dX2_findStill_0 : decode cX2_findStill 0 = .ok (.iconst 0, 1) := by decide +kernel
theorem dX2_findStill_1 : decode cX2_findStill 1 = .ok (.istore_n 2, 1) := by decide +kernel
theorem dX2_findStill_2 : decode cX2_findStill 2 = .ok (.iload_n 2, 1) := by decide +kernel
theorem dX2_findStill_3 : decode cX2_findStill 3 = .ok (.aload_n 0, 1) := by decide +kernel
theorem dX2_findStill_4 : decode cX2_findStill 4 = .ok (.getfield 9, 3) := by decide +kernel
theorem dX2_findStill_7 : decode cX2_findStill 7 = .ok (.arraylength, 1) := by decide +kernel
theorem dX2_findStill_8 : decode cX2_findStill 8 = .ok (.if_icmp .ge 67, 3) := by decide +kernel
theorem dX2_findStill_11 : decode cX2_findStill 11 = .ok (.aload_n 0, 1) := by decide +kernel
theorem dX2_findStill_12 : decode cX2_findStill 12 = .ok (.aload_n 0, 1) := by decide +kernel
theorem dX2_findStill_13 : decode cX2_findStill 13 = .ok (.getfield 9, 3) := by decide +kernel
theorem dX2_findStill_16 : decode cX2_findStill 16 = .ok (.iload_n 2, 1) := by decide +kernel
theorem dX2_findStill_17 : decode cX2_findStill 17 = .ok (.aaload, 1) := by decide +kernel
theorem dX2_findStill_18 : decode cX2_findStill 18 = .ok (.iload_n 1, 1) := by decide +kernel
theorem dX2_findStill_19 : decode cX2_findStill 19 = .ok (.invokevirtual 66, 3) := by decide +kernel
theorem dX2_findStill_22 : decode cX2_findStill 22 = .ok (.lstore_n 3, 1) := by decide +kernel
theorem dX2_findStill_23 : decode cX2_findStill 23 = .ok (.lload_n 3, 1) := by decide +kernel
theorem dX2_findStill_24 : decode cX2_findStill 24 = .ok (.lconst 0, 1) := by decide +kernel
theorem dX2_findStill_25 : decode cX2_findStill 25 = .ok (.lcmp, 1) := by decide +kernel
theorem dX2_findStill_26 : decode cX2_findStill 26 = .ok (.ifCond .eq 43, 3) := by decide +kernel
theorem dX2_findStill_29 : decode cX2_findStill 29 = .ok (.aload_n 0, 1) := by decide +kernel
theorem dX2_findStill_30 : decode cX2_findStill 30 = .ok (.lload_n 3, 1) := by decide +kernel
theorem dX2_findStill_31 : decode cX2_findStill 31 = .ok (.invokevirtual 70, 3) := by decide +kernel
theorem dX2_findStill_34 : decode cX2_findStill 34 = .ok (.ifCond .ne 35, 3) := by decide +kernel
theorem dX2_findStill_37 : decode cX2_findStill 37 = .ok (.aload_n 0, 1) := by decide +kernel
theorem dX2_findStill_38 : decode cX2_findStill 38 = .ok (.getfield 29, 3) := by decide +kernel
theorem dX2_findStill_41 : decode cX2_findStill 41 = .ok (.aload_n 0, 1) := by decide +kernel
theorem dX2_findStill_42 : decode cX2_findStill 42 = .ok (.getfield 25, 3) := by decide +kernel
theorem dX2_findStill_45 : decode cX2_findStill 45 = .ok (.arraylength, 1) := by decide +kernel
theorem dX2_findStill_46 : decode cX2_findStill 46 = .ok (.if_icmp .ge 23, 3) := by decide +kernel
theorem dX2_findStill_49 : decode cX2_findStill 49 = .ok (.aload_n 0, 1) := by decide +kernel
theorem dX2_findStill_50 : decode cX2_findStill 50 = .ok (.getfield 25, 3) := by decide +kernel
theorem dX2_findStill_53 : decode cX2_findStill 53 = .ok (.aload_n 0, 1) := by decide +kernel
theorem dX2_findStill_54 : decode cX2_findStill 54 = .ok (.getfield 29, 3) := by decide +kernel
theorem dX2_findStill_57 : decode cX2_findStill 57 = .ok (.lload_n 3, 1) := by decide +kernel
theorem dX2_findStill_58 : decode cX2_findStill 58 = .ok (.lastore, 1) := by decide +kernel
theorem dX2_findStill_59 : decode cX2_findStill 59 = .ok (.aload_n 0, 1) := by decide +kernel
theorem dX2_findStill_60 : decode cX2_findStill 60 = .ok (.dup, 1) := by decide +kernel
theorem dX2_findStill_61 : decode cX2_findStill 61 = .ok (.getfield 29, 3) := by decide +kernel
theorem dX2_findStill_64 : decode cX2_findStill 64 = .ok (.iconst 1, 1) := by decide +kernel
theorem dX2_findStill_65 : decode cX2_findStill 65 = .ok (.iadd, 1) := by decide +kernel
theorem dX2_findStill_66 : decode cX2_findStill 66 = .ok (.putfield 29, 3) := by decide +kernel
theorem dX2_findStill_69 : decode cX2_findStill 69 = .ok (.iinc 2 1, 3) := by decide +kernel
theorem dX2_findStill_72 : decode cX2_findStill 72 = .ok (.goto (-70), 3) := by decide +kernel
theorem dX2_findStill_75 : decode cX2_findStill 75 = .ok (.return_, 1) := by decide +kernel
theorem dX2_isFound_0 : decode cX2_isFound 0 = .ok (.iconst 0, 1) := by decide +kernel
theorem dX2_isFound_1 : decode cX2_isFound 1 = .ok (.istore_n 3, 1) := by decide +kernel
theorem dX2_isFound_2 : decode cX2_isFound 2 = .ok (.iload_n 3, 1) := by decide +kernel
theorem dX2_isFound_3 : decode cX2_isFound 3 = .ok (.aload_n 0, 1) := by decide +kernel
theorem dX2_isFound_4 : decode cX2_isFound 4 = .ok (.getfield 29, 3) := by decide +kernel
theorem dX2_isFound_7 : decode cX2_isFound 7 = .ok (.if_icmp .ge 22, 3) := by decide +kernel
theorem dX2_isFound_10 : decode cX2_isFound 10 = .ok (.aload_n 0, 1) := by decide +kernel
theorem dX2_isFound_11 : decode cX2_isFound 11 = .ok (.getfield 25, 3) := by decide +kernel
theorem dX2_isFound_14 : decode cX2_isFound 14 = .ok (.iload_n 3, 1) := by decide +kernel
theorem dX2_isFound_15 : decode cX2_isFound 15 = .ok (.laload, 1) := by decide +kernel
theorem dX2_isFound_16 : decode cX2_isFound 16 = .ok (.lload_n 1, 1) := by decide +kernel
theorem dX2_isFound_17 : decode cX2_isFound 17 = .ok (.lcmp, 1) := by decide +kernel
theorem dX2_isFound_18 : decode cX2_isFound 18 = .ok (.ifCond .ne 5, 3) := by decide +kernel
theorem dX2_isFound_21 : decode cX2_isFound 21 = .ok (.iconst 1, 1) := by decide +kernel
theorem dX2_isFound_22 : decode cX2_isFound 22 = .ok (.ireturn, 1) := by decide +kernel
theorem dX2_isFound_23 : decode cX2_isFound 23 = .ok (.iinc 3 1, 3) := by decide +kernel
theorem dX2_isFound_26 : decode cX2_isFound 26 = .ok (.goto (-24), 3) := by decide +kernel
theorem dX2_isFound_29 : decode cX2_isFound 29 = .ok (.iconst 0, 1) := by decide +kernel
theorem dX2_isFound_30 : decode cX2_isFound 30 = .ok (.ireturn, 1) := by decide +kernel
theorem dX2_stillFrom_0 : decode cX2_stillFrom 0 = .ok (.aload_n 1, 1) := by decide +kernel
theorem dX2_stillFrom_1 : decode cX2_stillFrom 1 = .ok (.getfield 74, 3) := by decide +kernel
theorem dX2_stillFrom_4 : decode cX2_stillFrom 4 = .ok (.istore_n 3, 1) := by decide +kernel
theorem dX2_stillFrom_5 : decode cX2_stillFrom 5 = .ok (.aload_n 1, 1) := by decide +kernel
theorem dX2_stillFrom_6 : decode cX2_stillFrom 6 = .ok (.getfield 75, 3) := by decide +kernel
theorem dX2_stillFrom_9 : decode cX2_stillFrom 9 = .ok (.istore 4, 2) := by decide +kernel
theorem dX2_stillFrom_11 : decode cX2_stillFrom 11 = .ok (.iconst 0, 1) := by decide +kernel
theorem dX2_stillFrom_12 : decode cX2_stillFrom 12 = .ok (.istore 5, 2) := by decide +kernel
theorem dX2_stillFrom_14 : decode cX2_stillFrom 14 = .ok (.iload 5, 2) := by decide +kernel
theorem dX2_stillFrom_16 : decode cX2_stillFrom 16 = .ok (.bipush 20, 2) := by decide +kernel
theorem dX2_stillFrom_18 : decode cX2_stillFrom 18 = .ok (.if_icmp .gt 60, 3) := by decide +kernel
theorem dX2_stillFrom_21 : decode cX2_stillFrom 21 = .ok (.aload_n 0, 1) := by decide +kernel
theorem dX2_stillFrom_22 : decode cX2_stillFrom 22 = .ok (.iload_n 3, 1) := by decide +kernel
theorem dX2_stillFrom_23 : decode cX2_stillFrom 23 = .ok (.iload 4, 2) := by decide +kernel
theorem dX2_stillFrom_25 : decode cX2_stillFrom 25 = .ok (.iload_n 2, 1) := by decide +kernel
theorem dX2_stillFrom_26 : decode cX2_stillFrom 26 = .ok (.invokevirtual 76, 3) := by decide +kernel
theorem dX2_stillFrom_29 : decode cX2_stillFrom 29 = .ok (.lstore 6, 2) := by decide +kernel
theorem dX2_stillFrom_31 : decode cX2_stillFrom 31 = .ok (.lload 6, 2) := by decide +kernel
theorem dX2_stillFrom_33 : decode cX2_stillFrom 33 = .ok (.lconst 0, 1) := by decide +kernel
theorem dX2_stillFrom_34 : decode cX2_stillFrom 34 = .ok (.lcmp, 1) := by decide +kernel
theorem dX2_stillFrom_35 : decode cX2_stillFrom 35 = .ok (.ifCond .ne 5, 3) := by decide +kernel
theorem dX2_stillFrom_38 : decode cX2_stillFrom 38 = .ok (.lconst 0, 1) := by decide +kernel
theorem dX2_stillFrom_39 : decode cX2_stillFrom 39 = .ok (.lreturn, 1) := by decide +kernel
theorem dX2_stillFrom_40 : decode cX2_stillFrom 40 = .ok (.aload_n 0, 1) := by decide +kernel
theorem dX2_stillFrom_41 : decode cX2_stillFrom 41 = .ok (.iload_n 3, 1) := by decide +kernel
theorem dX2_stillFrom_42 : decode cX2_stillFrom 42 = .ok (.iload 4, 2) := by decide +kernel
theorem dX2_stillFrom_44 : decode cX2_stillFrom 44 = .ok (.lload 6, 2) := by decide +kernel
theorem dX2_stillFrom_46 : decode cX2_stillFrom 46 = .ok (.invokevirtual 80, 3) := by decide +kernel
theorem dX2_stillFrom_49 : decode cX2_stillFrom 49 = .ok (.ifCond .eq 6, 3) := by decide +kernel
theorem dX2_stillFrom_52 : decode cX2_stillFrom 52 = .ok (.lload 6, 2) := by decide +kernel
theorem dX2_stillFrom_54 : decode cX2_stillFrom 54 = .ok (.lreturn, 1) := by decide +kernel
theorem dX2_stillFrom_55 : decode cX2_stillFrom 55 = .ok (.aload_n 0, 1) := by decide +kernel
theorem dX2_stillFrom_56 : decode cX2_stillFrom 56 = .ok (.getfield 18, 3) := by decide +kernel
theorem dX2_stillFrom_59 : decode cX2_stillFrom 59 = .ok (.getfield 60, 3) := by decide +kernel
theorem dX2_stillFrom_62 : decode cX2_stillFrom 62 = .ok (.istore_n 3, 1) := by decide +kernel
theorem dX2_stillFrom_63 : decode cX2_stillFrom 63 = .ok (.aload_n 0, 1) := by decide +kernel
theorem dX2_stillFrom_64 : decode cX2_stillFrom 64 = .ok (.getfield 18, 3) := by decide +kernel
theorem dX2_stillFrom_67 : decode cX2_stillFrom 67 = .ok (.getfield 63, 3) := by decide +kernel
theorem dX2_stillFrom_70 : decode cX2_stillFrom 70 = .ok (.istore 4, 2) := by decide +kernel
theorem dX2_stillFrom_72 : decode cX2_stillFrom 72 = .ok (.iinc 5 1, 3) := by decide +kernel
theorem dX2_stillFrom_75 : decode cX2_stillFrom 75 = .ok (.goto (-61), 3) := by decide +kernel
theorem dX2_stillFrom_78 : decode cX2_stillFrom 78 = .ok (.lconst 0, 1) := by decide +kernel
theorem dX2_stillFrom_79 : decode cX2_stillFrom 79 = .ok (.lreturn, 1) := by decide +kernel
theorem dX2_stillAt_0 : decode cX2_stillAt 0 = .ok (.iload_n 1, 1) := by decide +kernel
theorem dX2_stillAt_1 : decode cX2_stillAt 1 = .ok (.iconst (-1), 1) := by decide +kernel
theorem dX2_stillAt_2 : decode cX2_stillAt 2 = .ok (.if_icmp .ne 9, 3) := by decide +kernel
theorem dX2_stillAt_5 : decode cX2_stillAt 5 = .ok (.aload_n 0, 1) := by decide +kernel
theorem dX2_stillAt_6 : decode cX2_stillAt 6 = .ok (.getfield 29, 3) := by decide +kernel
theorem dX2_stillAt_9 : decode cX2_stillAt 9 = .ok (.i2l, 1) := by decide +kernel
theorem dX2_stillAt_10 : decode cX2_stillAt 10 = .ok (.lreturn, 1) := by decide +kernel
theorem dX2_stillAt_11 : decode cX2_stillAt 11 = .ok (.iload_n 1, 1) := by decide +kernel
theorem dX2_stillAt_12 : decode cX2_stillAt 12 = .ok (.ifCond .lt 11, 3) := by decide +kernel
theorem dX2_stillAt_15 : decode cX2_stillAt 15 = .ok (.iload_n 1, 1) := by decide +kernel
theorem dX2_stillAt_16 : decode cX2_stillAt 16 = .ok (.aload_n 0, 1) := by decide +kernel
theorem dX2_stillAt_17 : decode cX2_stillAt 17 = .ok (.getfield 29, 3) := by decide +kernel
theorem dX2_stillAt_20 : decode cX2_stillAt 20 = .ok (.if_icmp .lt 9, 3) := by decide +kernel
theorem dX2_stillAt_23 : decode cX2_stillAt 23 = .ok (.ldc2_w 84, 3) := by decide +kernel
theorem dX2_stillAt_26 : decode cX2_stillAt 26 = .ok (.goto 9, 3) := by decide +kernel
theorem dX2_stillAt_29 : decode cX2_stillAt 29 = .ok (.aload_n 0, 1) := by decide +kernel
theorem dX2_stillAt_30 : decode cX2_stillAt 30 = .ok (.getfield 25, 3) := by decide +kernel
theorem dX2_stillAt_33 : decode cX2_stillAt 33 = .ok (.iload_n 1, 1) := by decide +kernel
theorem dX2_stillAt_34 : decode cX2_stillAt 34 = .ok (.laload, 1) := by decide +kernel
theorem dX2_stillAt_35 : decode cX2_stillAt 35 = .ok (.lreturn, 1) := by decide +kernel
theorem dX2_patchAt_0 : decode cX2_patchAt 0 = .ok (.iload_n 1, 1) := by decide +kernel
theorem dX2_patchAt_1 : decode cX2_patchAt 1 = .ok (.iconst (-1), 1) := by decide +kernel
theorem dX2_patchAt_2 : decode cX2_patchAt 2 = .ok (.if_icmp .ne 9, 3) := by decide +kernel
theorem dX2_patchAt_5 : decode cX2_patchAt 5 = .ok (.aload_n 0, 1) := by decide +kernel
theorem dX2_patchAt_6 : decode cX2_patchAt 6 = .ok (.getfield 36, 3) := by decide +kernel
theorem dX2_patchAt_9 : decode cX2_patchAt 9 = .ok (.i2l, 1) := by decide +kernel
theorem dX2_patchAt_10 : decode cX2_patchAt 10 = .ok (.lreturn, 1) := by decide +kernel
theorem dX2_patchAt_11 : decode cX2_patchAt 11 = .ok (.iload_n 1, 1) := by decide +kernel
theorem dX2_patchAt_12 : decode cX2_patchAt 12 = .ok (.ifCond .lt 11, 3) := by decide +kernel
theorem dX2_patchAt_15 : decode cX2_patchAt 15 = .ok (.iload_n 1, 1) := by decide +kernel
theorem dX2_patchAt_16 : decode cX2_patchAt 16 = .ok (.aload_n 0, 1) := by decide +kernel
theorem dX2_patchAt_17 : decode cX2_patchAt 17 = .ok (.getfield 36, 3) := by decide +kernel
theorem dX2_patchAt_20 : decode cX2_patchAt 20 = .ok (.if_icmp .lt 9, 3) := by decide +kernel
theorem dX2_patchAt_23 : decode cX2_patchAt 23 = .ok (.ldc2_w 84, 3) := by decide +kernel
theorem dX2_patchAt_26 : decode cX2_patchAt 26 = .ok (.goto 9, 3) := by decide +kernel
theorem dX2_patchAt_29 : decode cX2_patchAt 29 = .ok (.aload_n 0, 1) := by decide +kernel
theorem dX2_patchAt_30 : decode cX2_patchAt 30 = .ok (.getfield 33, 3) := by decide +kernel
theorem dX2_patchAt_33 : decode cX2_patchAt 33 = .ok (.iload_n 1, 1) := by decide +kernel
theorem dX2_patchAt_34 : decode cX2_patchAt 34 = .ok (.laload, 1) := by decide +kernel
theorem dX2_patchAt_35 : decode cX2_patchAt 35 = .ok (.lreturn, 1) := by decide +kernel
theorem dX2_shareOut_0 : decode cX2_shareOut 0 = .ok (.iconst 0, 1) := by decide +kernel
theorem dX2_shareOut_1 : decode cX2_shareOut 1 = .ok (.istore_n 2, 1) := by decide +kernel
theorem dX2_shareOut_2 : decode cX2_shareOut 2 = .ok (.iload_n 2, 1) := by decide +kernel
theorem dX2_shareOut_3 : decode cX2_shareOut 3 = .ok (.ldc 86, 2) := by decide +kernel
theorem dX2_shareOut_5 : decode cX2_shareOut 5 = .ok (.if_icmp .ge 57, 3) := by decide +kernel
theorem dX2_shareOut_8 : decode cX2_shareOut 8 = .ok (.aload_n 0, 1) := by decide +kernel
theorem dX2_shareOut_9 : decode cX2_shareOut 9 = .ok (.getfield 29, 3) := by decide +kernel
theorem dX2_shareOut_12 : decode cX2_shareOut 12 = .ok (.ifCond .le 50, 3) := by decide +kernel
theorem dX2_shareOut_15 : decode cX2_shareOut 15 = .ok (.aload_n 0, 1) := by decide +kernel
theorem dX2_shareOut_16 : decode cX2_shareOut 16 = .ok (.iconst (-1), 1) := by decide +kernel
theorem dX2_shareOut_17 : decode cX2_shareOut 17 = .ok (.invokevirtual 87, 3) := by decide +kernel
theorem dX2_shareOut_20 : decode cX2_shareOut 20 = .ok (.istore_n 3, 1) := by decide +kernel
theorem dX2_shareOut_21 : decode cX2_shareOut 21 = .ok (.iload_n 3, 1) := by decide +kernel
theorem dX2_shareOut_22 : decode cX2_shareOut 22 = .ok (.iconst (-1), 1) := by decide +kernel
theorem dX2_shareOut_23 : decode cX2_shareOut 23 = .ok (.if_icmp .ne 4, 3) := by decide +kernel
theorem dX2_shareOut_26 : decode cX2_shareOut 26 = .ok (.return_, 1) := by decide +kernel
theorem dX2_shareOut_27 : decode cX2_shareOut 27 = .ok (.aload_n 0, 1) := by decide +kernel
theorem dX2_shareOut_28 : decode cX2_shareOut 28 = .ok (.iload_n 3, 1) := by decide +kernel
theorem dX2_shareOut_29 : decode cX2_shareOut 29 = .ok (.invokevirtual 87, 3) := by decide +kernel
theorem dX2_shareOut_32 : decode cX2_shareOut 32 = .ok (.istore 4, 2) := by decide +kernel
theorem dX2_shareOut_34 : decode cX2_shareOut 34 = .ok (.iload 4, 2) := by decide +kernel
theorem dX2_shareOut_36 : decode cX2_shareOut 36 = .ok (.iconst (-1), 1) := by decide +kernel
theorem dX2_shareOut_37 : decode cX2_shareOut 37 = .ok (.if_icmp .ne 11, 3) := by decide +kernel
theorem dX2_shareOut_40 : decode cX2_shareOut 40 = .ok (.aload_n 0, 1) := by decide +kernel
theorem dX2_shareOut_41 : decode cX2_shareOut 41 = .ok (.iload_n 3, 1) := by decide +kernel
theorem dX2_shareOut_42 : decode cX2_shareOut 42 = .ok (.invokevirtual 91, 3) := by decide +kernel
theorem dX2_shareOut_45 : decode cX2_shareOut 45 = .ok (.goto 11, 3) := by decide +kernel
theorem dX2_shareOut_48 : decode cX2_shareOut 48 = .ok (.aload_n 0, 1) := by decide +kernel
theorem dX2_shareOut_49 : decode cX2_shareOut 49 = .ok (.iload_n 3, 1) := by decide +kernel
theorem dX2_shareOut_50 : decode cX2_shareOut 50 = .ok (.iload 4, 2) := by decide +kernel
theorem dX2_shareOut_52 : decode cX2_shareOut 52 = .ok (.iload_n 1, 1) := by decide +kernel
theorem dX2_shareOut_53 : decode cX2_shareOut 53 = .ok (.invokevirtual 95, 3) := by decide +kernel
theorem dX2_shareOut_56 : decode cX2_shareOut 56 = .ok (.iinc 2 1, 3) := by decide +kernel
theorem dX2_shareOut_59 : decode cX2_shareOut 59 = .ok (.goto (-57), 3) := by decide +kernel
theorem dX2_shareOut_62 : decode cX2_shareOut 62 = .ok (.return_, 1) := by decide +kernel
theorem dX2_heaviest_0 : decode cX2_heaviest 0 = .ok (.iconst (-1), 1) := by decide +kernel
theorem dX2_heaviest_1 : decode cX2_heaviest 1 = .ok (.istore_n 2, 1) := by decide +kernel
theorem dX2_heaviest_2 : decode cX2_heaviest 2 = .ok (.iconst 0, 1) := by decide +kernel
theorem dX2_heaviest_3 : decode cX2_heaviest 3 = .ok (.istore_n 3, 1) := by decide +kernel
theorem dX2_heaviest_4 : decode cX2_heaviest 4 = .ok (.iconst 0, 1) := by decide +kernel
theorem dX2_heaviest_5 : decode cX2_heaviest 5 = .ok (.istore 4, 2) := by decide +kernel
theorem dX2_heaviest_7 : decode cX2_heaviest 7 = .ok (.iload 4, 2) := by decide +kernel
theorem dX2_heaviest_9 : decode cX2_heaviest 9 = .ok (.aload_n 0, 1) := by decide +kernel
theorem dX2_heaviest_10 : decode cX2_heaviest 10 = .ok (.getfield 29, 3) := by decide +kernel
theorem dX2_heaviest_13 : decode cX2_heaviest 13 = .ok (.if_icmp .ge 81, 3) := by decide +kernel
theorem dX2_heaviest_16 : decode cX2_heaviest 16 = .ok (.iload_n 1, 1) := by decide +kernel
theorem dX2_heaviest_17 : decode cX2_heaviest 17 = .ok (.iconst (-1), 1) := by decide +kernel
theorem dX2_heaviest_18 : decode cX2_heaviest 18 = .ok (.if_icmp .eq 28, 3) := by decide +kernel
theorem dX2_heaviest_21 : decode cX2_heaviest 21 = .ok (.iload 4, 2) := by decide +kernel
theorem dX2_heaviest_23 : decode cX2_heaviest 23 = .ok (.iload_n 1, 1) := by decide +kernel
theorem dX2_heaviest_24 : decode cX2_heaviest 24 = .ok (.if_icmp .eq 26, 3) := by decide +kernel
theorem dX2_heaviest_27 : decode cX2_heaviest 27 = .ok (.aload_n 0, 1) := by decide +kernel
theorem dX2_heaviest_28 : decode cX2_heaviest 28 = .ok (.getfield 25, 3) := by decide +kernel
theorem dX2_heaviest_31 : decode cX2_heaviest 31 = .ok (.iload 4, 2) := by decide +kernel
theorem dX2_heaviest_33 : decode cX2_heaviest 33 = .ok (.laload, 1) := by decide +kernel
theorem dX2_heaviest_34 : decode cX2_heaviest 34 = .ok (.aload_n 0, 1) := by decide +kernel
theorem dX2_heaviest_35 : decode cX2_heaviest 35 = .ok (.getfield 25, 3) := by decide +kernel
theorem dX2_heaviest_38 : decode cX2_heaviest 38 = .ok (.iload_n 1, 1) := by decide +kernel
theorem dX2_heaviest_39 : decode cX2_heaviest 39 = .ok (.laload, 1) := by decide +kernel
theorem dX2_heaviest_40 : decode cX2_heaviest 40 = .ok (.land, 1) := by decide +kernel
theorem dX2_heaviest_41 : decode cX2_heaviest 41 = .ok (.lconst 0, 1) := by decide +kernel
theorem dX2_heaviest_42 : decode cX2_heaviest 42 = .ok (.lcmp, 1) := by decide +kernel
theorem dX2_heaviest_43 : decode cX2_heaviest 43 = .ok (.ifCond .eq 7, 3) := by decide +kernel
theorem dX2_heaviest_46 : decode cX2_heaviest 46 = .ok (.iconst 1, 1) := by decide +kernel
theorem dX2_heaviest_47 : decode cX2_heaviest 47 = .ok (.goto 4, 3) := by decide +kernel
theorem dX2_heaviest_50 : decode cX2_heaviest 50 = .ok (.iconst 0, 1) := by decide +kernel
theorem dX2_heaviest_51 : decode cX2_heaviest 51 = .ok (.istore 5, 2) := by decide +kernel
theorem dX2_heaviest_53 : decode cX2_heaviest 53 = .ok (.aload_n 0, 1) := by decide +kernel
theorem dX2_heaviest_54 : decode cX2_heaviest 54 = .ok (.aload_n 0, 1) := by decide +kernel
theorem dX2_heaviest_55 : decode cX2_heaviest 55 = .ok (.getfield 25, 3) := by decide +kernel
theorem dX2_heaviest_58 : decode cX2_heaviest 58 = .ok (.iload 4, 2) := by decide +kernel
theorem dX2_heaviest_60 : decode cX2_heaviest 60 = .ok (.laload, 1) := by decide +kernel
theorem dX2_heaviest_61 : decode cX2_heaviest 61 = .ok (.invokevirtual 99, 3) := by decide +kernel
theorem dX2_heaviest_64 : decode cX2_heaviest 64 = .ok (.istore 6, 2) := by decide +kernel
theorem dX2_heaviest_66 : decode cX2_heaviest 66 = .ok (.iload 5, 2) := by decide +kernel
theorem dX2_heaviest_68 : decode cX2_heaviest 68 = .ok (.ifCond .eq 20, 3) := by decide +kernel
theorem dX2_heaviest_71 : decode cX2_heaviest 71 = .ok (.iload_n 2, 1) := by decide +kernel
theorem dX2_heaviest_72 : decode cX2_heaviest 72 = .ok (.iconst (-1), 1) := by decide +kernel
theorem dX2_heaviest_73 : decode cX2_heaviest 73 = .ok (.if_icmp .eq 9, 3) := by decide +kernel
theorem dX2_heaviest_76 : decode cX2_heaviest 76 = .ok (.iload 6, 2) := by decide +kernel
theorem dX2_heaviest_78 : decode cX2_heaviest 78 = .ok (.iload_n 3, 1) := by decide +kernel
theorem dX2_heaviest_79 : decode cX2_heaviest 79 = .ok (.if_icmp .le 9, 3) := by decide +kernel
theorem dX2_heaviest_82 : decode cX2_heaviest 82 = .ok (.iload 4, 2) := by decide +kernel
theorem dX2_heaviest_84 : decode cX2_heaviest 84 = .ok (.istore_n 2, 1) := by decide +kernel
theorem dX2_heaviest_85 : decode cX2_heaviest 85 = .ok (.iload 6, 2) := by decide +kernel
theorem dX2_heaviest_87 : decode cX2_heaviest 87 = .ok (.istore_n 3, 1) := by decide +kernel
theorem dX2_heaviest_88 : decode cX2_heaviest 88 = .ok (.iinc 4 1, 3) := by decide +kernel
theorem dX2_heaviest_91 : decode cX2_heaviest 91 = .ok (.goto (-84), 3) := by decide +kernel
theorem dX2_heaviest_94 : decode cX2_heaviest 94 = .ok (.iload_n 2, 1) := by decide +kernel
theorem dX2_heaviest_95 : decode cX2_heaviest 95 = .ok (.ireturn, 1) := by decide +kernel
theorem dX2_makePatch_0 : decode cX2_makePatch 0 = .ok (.aload_n 0, 1) := by decide +kernel
theorem dX2_makePatch_1 : decode cX2_makePatch 1 = .ok (.getfield 36, 3) := by decide +kernel
theorem dX2_makePatch_4 : decode cX2_makePatch 4 = .ok (.aload_n 0, 1) := by decide +kernel
theorem dX2_makePatch_5 : decode cX2_makePatch 5 = .ok (.getfield 33, 3) := by decide +kernel
theorem dX2_makePatch_8 : decode cX2_makePatch 8 = .ok (.arraylength, 1) := by decide +kernel
theorem dX2_makePatch_9 : decode cX2_makePatch 9 = .ok (.if_icmp .ge 28, 3) := by decide +kernel
theorem dX2_makePatch_12 : decode cX2_makePatch 12 = .ok (.aload_n 0, 1) := by decide +kernel
theorem dX2_makePatch_13 : decode cX2_makePatch 13 = .ok (.getfield 33, 3) := by decide +kernel
theorem dX2_makePatch_16 : decode cX2_makePatch 16 = .ok (.aload_n 0, 1) := by decide +kernel
theorem dX2_makePatch_17 : decode cX2_makePatch 17 = .ok (.getfield 36, 3) := by decide +kernel
theorem dX2_makePatch_20 : decode cX2_makePatch 20 = .ok (.aload_n 0, 1) := by decide +kernel
theorem dX2_makePatch_21 : decode cX2_makePatch 21 = .ok (.getfield 25, 3) := by decide +kernel
theorem dX2_makePatch_24 : decode cX2_makePatch 24 = .ok (.iload_n 1, 1) := by decide +kernel
theorem dX2_makePatch_25 : decode cX2_makePatch 25 = .ok (.laload, 1) := by decide +kernel
theorem dX2_makePatch_26 : decode cX2_makePatch 26 = .ok (.lastore, 1) := by decide +kernel
theorem dX2_makePatch_27 : decode cX2_makePatch 27 = .ok (.aload_n 0, 1) := by decide +kernel
theorem dX2_makePatch_28 : decode cX2_makePatch 28 = .ok (.dup, 1) := by decide +kernel
theorem dX2_makePatch_29 : decode cX2_makePatch 29 = .ok (.getfield 36, 3) := by decide +kernel
theorem dX2_makePatch_32 : decode cX2_makePatch 32 = .ok (.iconst 1, 1) := by decide +kernel
theorem dX2_makePatch_33 : decode cX2_makePatch 33 = .ok (.iadd, 1) := by decide +kernel
theorem dX2_makePatch_34 : decode cX2_makePatch 34 = .ok (.putfield 36, 3) := by decide +kernel
theorem dX2_makePatch_37 : decode cX2_makePatch 37 = .ok (.aload_n 0, 1) := by decide +kernel
theorem dX2_makePatch_38 : decode cX2_makePatch 38 = .ok (.iload_n 1, 1) := by decide +kernel
theorem dX2_makePatch_39 : decode cX2_makePatch 39 = .ok (.invokevirtual 103, 3) := by decide +kernel
theorem dX2_makePatch_42 : decode cX2_makePatch 42 = .ok (.return_, 1) := by decide +kernel
theorem dX2_removeSet_0 : decode cX2_removeSet 0 = .ok (.iload_n 1, 1) := by decide +kernel
theorem dX2_removeSet_1 : decode cX2_removeSet 1 = .ok (.istore_n 2, 1) := by decide +kernel
theorem dX2_removeSet_2 : decode cX2_removeSet 2 = .ok (.iload_n 2, 1) := by decide +kernel
theorem dX2_removeSet_3 : decode cX2_removeSet 3 = .ok (.iconst 1, 1) := by decide +kernel
theorem dX2_removeSet_4 : decode cX2_removeSet 4 = .ok (.iadd, 1) := by decide +kernel
theorem dX2_removeSet_5 : decode cX2_removeSet 5 = .ok (.aload_n 0, 1) := by decide +kernel
theorem dX2_removeSet_6 : decode cX2_removeSet 6 = .ok (.getfield 29, 3) := by decide +kernel
theorem dX2_removeSet_9 : decode cX2_removeSet 9 = .ok (.if_icmp .ge 23, 3) := by decide +kernel
theorem dX2_removeSet_12 : decode cX2_removeSet 12 = .ok (.aload_n 0, 1) := by decide +kernel
theorem dX2_removeSet_13 : decode cX2_removeSet 13 = .ok (.getfield 25, 3) := by decide +kernel
theorem dX2_removeSet_16 : decode cX2_removeSet 16 = .ok (.iload_n 2, 1) := by decide +kernel
theorem dX2_removeSet_17 : decode cX2_removeSet 17 = .ok (.aload_n 0, 1) := by decide +kernel
theorem dX2_removeSet_18 : decode cX2_removeSet 18 = .ok (.getfield 25, 3) := by decide +kernel
theorem dX2_removeSet_21 : decode cX2_removeSet 21 = .ok (.iload_n 2, 1) := by decide +kernel
theorem dX2_removeSet_22 : decode cX2_removeSet 22 = .ok (.iconst 1, 1) := by decide +kernel
theorem dX2_removeSet_23 : decode cX2_removeSet 23 = .ok (.iadd, 1) := by decide +kernel
theorem dX2_removeSet_24 : decode cX2_removeSet 24 = .ok (.laload, 1) := by decide +kernel
theorem dX2_removeSet_25 : decode cX2_removeSet 25 = .ok (.lastore, 1) := by decide +kernel
theorem dX2_removeSet_26 : decode cX2_removeSet 26 = .ok (.iinc 2 1, 3) := by decide +kernel
theorem dX2_removeSet_29 : decode cX2_removeSet 29 = .ok (.goto (-27), 3) := by decide +kernel
theorem dX2_removeSet_32 : decode cX2_removeSet 32 = .ok (.aload_n 0, 1) := by decide +kernel
theorem dX2_removeSet_33 : decode cX2_removeSet 33 = .ok (.dup, 1) := by decide +kernel
theorem dX2_removeSet_34 : decode cX2_removeSet 34 = .ok (.getfield 29, 3) := by decide +kernel
theorem dX2_removeSet_37 : decode cX2_removeSet 37 = .ok (.iconst 1, 1) := by decide +kernel
theorem dX2_removeSet_38 : decode cX2_removeSet 38 = .ok (.isub, 1) := by decide +kernel
theorem dX2_removeSet_39 : decode cX2_removeSet 39 = .ok (.putfield 29, 3) := by decide +kernel
theorem dX2_removeSet_42 : decode cX2_removeSet 42 = .ok (.return_, 1) := by decide +kernel
theorem dX2_settle_0 : decode cX2_settle 0 = .ok (.aload_n 0, 1) := by decide +kernel
theorem dX2_settle_1 : decode cX2_settle 1 = .ok (.getfield 25, 3) := by decide +kernel
theorem dX2_settle_4 : decode cX2_settle 4 = .ok (.iload_n 1, 1) := by decide +kernel
theorem dX2_settle_5 : decode cX2_settle 5 = .ok (.laload, 1) := by decide +kernel
theorem dX2_settle_6 : decode cX2_settle 6 = .ok (.aload_n 0, 1) := by decide +kernel
theorem dX2_settle_7 : decode cX2_settle 7 = .ok (.getfield 25, 3) := by decide +kernel
theorem dX2_settle_10 : decode cX2_settle 10 = .ok (.iload_n 2, 1) := by decide +kernel
theorem dX2_settle_11 : decode cX2_settle 11 = .ok (.laload, 1) := by decide +kernel
theorem dX2_settle_12 : decode cX2_settle 12 = .ok (.land, 1) := by decide +kernel
theorem dX2_settle_13 : decode cX2_settle 13 = .ok (.lstore 4, 2) := by decide +kernel
theorem dX2_settle_15 : decode cX2_settle 15 = .ok (.aload_n 0, 1) := by decide +kernel
theorem dX2_settle_16 : decode cX2_settle 16 = .ok (.aload_n 0, 1) := by decide +kernel
theorem dX2_settle_17 : decode cX2_settle 17 = .ok (.getfield 25, 3) := by decide +kernel
theorem dX2_settle_20 : decode cX2_settle 20 = .ok (.iload_n 1, 1) := by decide +kernel
theorem dX2_settle_21 : decode cX2_settle 21 = .ok (.laload, 1) := by decide +kernel
theorem dX2_settle_22 : decode cX2_settle 22 = .ok (.invokevirtual 99, 3) := by decide +kernel
theorem dX2_settle_25 : decode cX2_settle 25 = .ok (.aload_n 0, 1) := by decide +kernel
theorem dX2_settle_26 : decode cX2_settle 26 = .ok (.aload_n 0, 1) := by decide +kernel
theorem dX2_settle_27 : decode cX2_settle 27 = .ok (.getfield 25, 3) := by decide +kernel
theorem dX2_settle_30 : decode cX2_settle 30 = .ok (.iload_n 2, 1) := by decide +kernel
theorem dX2_settle_31 : decode cX2_settle 31 = .ok (.laload, 1) := by decide +kernel
theorem dX2_settle_32 : decode cX2_settle 32 = .ok (.invokevirtual 99, 3) := by decide +kernel
theorem dX2_settle_35 : decode cX2_settle 35 = .ok (.invokestatic 106, 3) := by decide +kernel
theorem dX2_settle_38 : decode cX2_settle 38 = .ok (.i2l, 1) := by decide +kernel
theorem dX2_settle_39 : decode cX2_settle 39 = .ok (.lstore 6, 2) := by decide +kernel
theorem dX2_settle_41 : decode cX2_settle 41 = .ok (.aload_n 0, 1) := by decide +kernel
theorem dX2_settle_42 : decode cX2_settle 42 = .ok (.lload 4, 2) := by decide +kernel
theorem dX2_settle_44 : decode cX2_settle 44 = .ok (.invokevirtual 99, 3) := by decide +kernel
theorem dX2_settle_47 : decode cX2_settle 47 = .ok (.i2l, 1) := by decide +kernel
theorem dX2_settle_48 : decode cX2_settle 48 = .ok (.ldc2_w 111, 3) := by decide +kernel
theorem dX2_settle_51 : decode cX2_settle 51 = .ok (.lmul, 1) := by decide +kernel
theorem dX2_settle_52 : decode cX2_settle 52 = .ok (.iload_n 3, 1) := by decide +kernel
theorem dX2_settle_53 : decode cX2_settle 53 = .ok (.i2l, 1) := by decide +kernel
theorem dX2_settle_54 : decode cX2_settle 54 = .ok (.lload 6, 2) := by decide +kernel
theorem dX2_settle_56 : decode cX2_settle 56 = .ok (.lmul, 1) := by decide +kernel
theorem dX2_settle_57 : decode cX2_settle 57 = .ok (.lcmp, 1) := by decide +kernel
theorem dX2_settle_58 : decode cX2_settle 58 = .ok (.ifCond .lt 24, 3) := by decide +kernel
theorem dX2_settle_61 : decode cX2_settle 61 = .ok (.aload_n 0, 1) := by decide +kernel
theorem dX2_settle_62 : decode cX2_settle 62 = .ok (.getfield 25, 3) := by decide +kernel
theorem dX2_settle_65 : decode cX2_settle 65 = .ok (.iload_n 1, 1) := by decide +kernel
theorem dX2_settle_66 : decode cX2_settle 66 = .ok (.dup2, 1) := by decide +kernel
theorem dX2_settle_67 : decode cX2_settle 67 = .ok (.laload, 1) := by decide +kernel
theorem dX2_settle_68 : decode cX2_settle 68 = .ok (.aload_n 0, 1) := by decide +kernel
theorem dX2_settle_69 : decode cX2_settle 69 = .ok (.getfield 25, 3) := by decide +kernel
theorem dX2_settle_72 : decode cX2_settle 72 = .ok (.iload_n 2, 1) := by decide +kernel
theorem dX2_settle_73 : decode cX2_settle 73 = .ok (.laload, 1) := by decide +kernel
theorem dX2_settle_74 : decode cX2_settle 74 = .ok (.lor, 1) := by decide +kernel
theorem dX2_settle_75 : decode cX2_settle 75 = .ok (.lastore, 1) := by decide +kernel
theorem dX2_settle_76 : decode cX2_settle 76 = .ok (.aload_n 0, 1) := by decide +kernel
theorem dX2_settle_77 : decode cX2_settle 77 = .ok (.iload_n 2, 1) := by decide +kernel
theorem dX2_settle_78 : decode cX2_settle 78 = .ok (.invokevirtual 103, 3) := by decide +kernel
theorem dX2_settle_81 : decode cX2_settle 81 = .ok (.return_, 1) := by decide +kernel
theorem dX2_settle_82 : decode cX2_settle 82 = .ok (.aload_n 0, 1) := by decide +kernel
theorem dX2_settle_83 : decode cX2_settle 83 = .ok (.iload_n 1, 1) := by decide +kernel
theorem dX2_settle_84 : decode cX2_settle 84 = .ok (.iload_n 2, 1) := by decide +kernel
theorem dX2_settle_85 : decode cX2_settle 85 = .ok (.lload 4, 2) := by decide +kernel
theorem dX2_settle_87 : decode cX2_settle 87 = .ok (.invokevirtual 113, 3) := by decide +kernel
theorem dX2_settle_90 : decode cX2_settle 90 = .ok (.iload_n 1, 1) := by decide +kernel
theorem dX2_settle_91 : decode cX2_settle 91 = .ok (.iload_n 2, 1) := by decide +kernel
theorem dX2_settle_92 : decode cX2_settle 92 = .ok (.invokestatic 117, 3) := by decide +kernel
theorem dX2_settle_95 : decode cX2_settle 95 = .ok (.istore 8, 2) := by decide +kernel
theorem dX2_settle_97 : decode cX2_settle 97 = .ok (.iload_n 1, 1) := by decide +kernel
theorem dX2_settle_98 : decode cX2_settle 98 = .ok (.iload_n 2, 1) := by decide +kernel
theorem dX2_settle_99 : decode cX2_settle 99 = .ok (.invokestatic 106, 3) := by decide +kernel
theorem dX2_settle_102 : decode cX2_settle 102 = .ok (.istore 9, 2) := by decide +kernel
theorem dX2_settle_104 : decode cX2_settle 104 = .ok (.aload_n 0, 1) := by decide +kernel
theorem dX2_settle_105 : decode cX2_settle 105 = .ok (.getfield 25, 3) := by decide +kernel
theorem dX2_settle_108 : decode cX2_settle 108 = .ok (.iload 8, 2) := by decide +kernel
theorem dX2_settle_110 : decode cX2_settle 110 = .ok (.laload, 1) := by decide +kernel
theorem dX2_settle_111 : decode cX2_settle 111 = .ok (.lconst 0, 1) := by decide +kernel
theorem dX2_settle_112 : decode cX2_settle 112 = .ok (.lcmp, 1) := by decide +kernel
theorem dX2_settle_113 : decode cX2_settle 113 = .ok (.ifCond .ne 9, 3) := by decide +kernel
theorem dX2_settle_116 : decode cX2_settle 116 = .ok (.aload_n 0, 1) := by decide +kernel
theorem dX2_settle_117 : decode cX2_settle 117 = .ok (.iload 8, 2) := by decide +kernel
theorem dX2_settle_119 : decode cX2_settle 119 = .ok (.invokevirtual 103, 3) := by decide +kernel
theorem dX2_settle_122 : decode cX2_settle 122 = .ok (.aload_n 0, 1) := by decide +kernel
theorem dX2_settle_123 : decode cX2_settle 123 = .ok (.getfield 25, 3) := by decide +kernel
theorem dX2_settle_126 : decode cX2_settle 126 = .ok (.iload 9, 2) := by decide +kernel
theorem dX2_settle_128 : decode cX2_settle 128 = .ok (.laload, 1) := by decide +kernel
theorem dX2_settle_129 : decode cX2_settle 129 = .ok (.lconst 0, 1) := by decide +kernel
theorem dX2_settle_130 : decode cX2_settle 130 = .ok (.lcmp, 1) := by decide +kernel
theorem dX2_settle_131 : decode cX2_settle 131 = .ok (.ifCond .ne 9, 3) := by decide +kernel
theorem dX2_settle_134 : decode cX2_settle 134 = .ok (.aload_n 0, 1) := by decide +kernel
theorem dX2_settle_135 : decode cX2_settle 135 = .ok (.iload 9, 2) := by decide +kernel
theorem dX2_settle_137 : decode cX2_settle 137 = .ok (.invokevirtual 103, 3) := by decide +kernel
theorem dX2_settle_140 : decode cX2_settle 140 = .ok (.return_, 1) := by decide +kernel
theorem dX2_divide_0 : decode cX2_divide 0 = .ok (.aload_n 0, 1) := by decide +kernel
theorem dX2_divide_1 : decode cX2_divide 1 = .ok (.getfield 18, 3) := by decide +kernel
theorem dX2_divide_4 : decode cX2_divide 4 = .ok (.aload_n 0, 1) := by decide +kernel
theorem dX2_divide_5 : decode cX2_divide 5 = .ok (.getfield 9, 3) := by decide +kernel
theorem dX2_divide_8 : decode cX2_divide 8 = .ok (.aload_n 0, 1) := by decide +kernel
theorem dX2_divide_9 : decode cX2_divide 9 = .ok (.getfield 25, 3) := by decide +kernel
theorem dX2_divide_12 : decode cX2_divide 12 = .ok (.iload_n 1, 1) := by decide +kernel
theorem dX2_divide_13 : decode cX2_divide 13 = .ok (.laload, 1) := by decide +kernel
theorem dX2_divide_14 : decode cX2_divide 14 = .ok (.invokevirtual 56, 3) := by decide +kernel
theorem dX2_divide_17 : decode cX2_divide 17 = .ok (.aload_n 0, 1) := by decide +kernel
theorem dX2_divide_18 : decode cX2_divide 18 = .ok (.getfield 22, 3) := by decide +kernel
theorem dX2_divide_21 : decode cX2_divide 21 = .ok (.aload_n 0, 1) := by decide +kernel
theorem dX2_divide_22 : decode cX2_divide 22 = .ok (.getfield 9, 3) := by decide +kernel
theorem dX2_divide_25 : decode cX2_divide 25 = .ok (.aload_n 0, 1) := by decide +kernel
theorem dX2_divide_26 : decode cX2_divide 26 = .ok (.getfield 25, 3) := by decide +kernel
theorem dX2_divide_29 : decode cX2_divide 29 = .ok (.iload_n 2, 1) := by decide +kernel
theorem dX2_divide_30 : decode cX2_divide 30 = .ok (.laload, 1) := by decide +kernel
theorem dX2_divide_31 : decode cX2_divide 31 = .ok (.invokevirtual 56, 3) := by decide +kernel
theorem dX2_divide_34 : decode cX2_divide 34 = .ok (.iconst 0, 1) := by decide +kernel
theorem dX2_divide_35 : decode cX2_divide 35 = .ok (.istore 5, 2) := by decide +kernel
theorem dX2_divide_37 : decode cX2_divide 37 = .ok (.iload 5, 2) := by decide +kernel
theorem dX2_divide_39 : decode cX2_divide 39 = .ok (.aload_n 0, 1) := by decide +kernel
theorem dX2_divide_40 : decode cX2_divide 40 = .ok (.getfield 9, 3) := by decide +kernel
theorem dX2_divide_43 : decode cX2_divide 43 = .ok (.arraylength, 1) := by decide +kernel
theorem dX2_divide_44 : decode cX2_divide 44 = .ok (.if_icmp .ge 116, 3) := by decide +kernel
theorem dX2_divide_47 : decode cX2_divide 47 = .ok (.lload_n 3, 1) := by decide +kernel
theorem dX2_divide_48 : decode cX2_divide 48 = .ok (.iload 5, 2) := by decide +kernel
theorem dX2_divide_50 : decode cX2_divide 50 = .ok (.invokestatic 49, 3) := by decide +kernel
theorem dX2_divide_53 : decode cX2_divide 53 = .ok (.ifCond .eq 101, 3) := by decide +kernel
theorem dX2_divide_56 : decode cX2_divide 56 = .ok (.aload_n 0, 1) := by decide +kernel
theorem dX2_divide_57 : decode cX2_divide 57 = .ok (.getfield 9, 3) := by decide +kernel
theorem dX2_divide_60 : decode cX2_divide 60 = .ok (.iload 5, 2) := by decide +kernel
theorem dX2_divide_62 : decode cX2_divide 62 = .ok (.aaload, 1) := by decide +kernel
theorem dX2_divide_63 : decode cX2_divide 63 = .ok (.aload_n 0, 1) := by decide +kernel
theorem dX2_divide_64 : decode cX2_divide 64 = .ok (.getfield 18, 3) := by decide +kernel
theorem dX2_divide_67 : decode cX2_divide 67 = .ok (.getfield 60, 3) := by decide +kernel
theorem dX2_divide_70 : decode cX2_divide 70 = .ok (.aload_n 0, 1) := by decide +kernel
theorem dX2_divide_71 : decode cX2_divide 71 = .ok (.getfield 18, 3) := by decide +kernel
theorem dX2_divide_74 : decode cX2_divide 74 = .ok (.getfield 63, 3) := by decide +kernel
theorem dX2_divide_77 : decode cX2_divide 77 = .ok (.invokevirtual 39, 3) := by decide +kernel
theorem dX2_divide_80 : decode cX2_divide 80 = .ok (.istore 6, 2) := by decide +kernel
theorem dX2_divide_82 : decode cX2_divide 82 = .ok (.aload_n 0, 1) := by decide +kernel
theorem dX2_divide_83 : decode cX2_divide 83 = .ok (.getfield 9, 3) := by decide +kernel
theorem dX2_divide_86 : decode cX2_divide 86 = .ok (.iload 5, 2) := by decide +kernel
theorem dX2_divide_88 : decode cX2_divide 88 = .ok (.aaload, 1) := by decide +kernel
theorem dX2_divide_89 : decode cX2_divide 89 = .ok (.aload_n 0, 1) := by decide +kernel
theorem dX2_divide_90 : decode cX2_divide 90 = .ok (.getfield 22, 3) := by decide +kernel
theorem dX2_divide_93 : decode cX2_divide 93 = .ok (.getfield 60, 3) := by decide +kernel
theorem dX2_divide_96 : decode cX2_divide 96 = .ok (.aload_n 0, 1) := by decide +kernel
theorem dX2_divide_97 : decode cX2_divide 97 = .ok (.getfield 22, 3) := by decide +kernel
theorem dX2_divide_100 : decode cX2_divide 100 = .ok (.getfield 63, 3) := by decide +kernel
theorem dX2_divide_103 : decode cX2_divide 103 = .ok (.invokevirtual 39, 3) := by decide +kernel
theorem dX2_divide_106 : decode cX2_divide 106 = .ok (.istore 7, 2) := by decide +kernel
theorem dX2_divide_108 : decode cX2_divide 108 = .ok (.iload 7, 2) := by decide +kernel
theorem dX2_divide_110 : decode cX2_divide 110 = .ok (.iload 6, 2) := by decide +kernel
theorem dX2_divide_112 : decode cX2_divide 112 = .ok (.if_icmp .ge 24, 3) := by decide +kernel
theorem dX2_divide_115 : decode cX2_divide 115 = .ok (.aload_n 0, 1) := by decide +kernel
theorem dX2_divide_116 : decode cX2_divide 116 = .ok (.getfield 25, 3) := by decide +kernel
theorem dX2_divide_119 : decode cX2_divide 119 = .ok (.iload_n 1, 1) := by decide +kernel
theorem dX2_divide_120 : decode cX2_divide 120 = .ok (.dup2, 1) := by decide +kernel
theorem dX2_divide_121 : decode cX2_divide 121 = .ok (.laload, 1) := by decide +kernel
theorem dX2_divide_122 : decode cX2_divide 122 = .ok (.iload 5, 2) := by decide +kernel
theorem dX2_divide_124 : decode cX2_divide 124 = .ok (.invokestatic 45, 3) := by decide +kernel
theorem dX2_divide_127 : decode cX2_divide 127 = .ok (.ldc2_w 84, 3) := by decide +kernel
theorem dX2_divide_130 : decode cX2_divide 130 = .ok (.lxor, 1) := by decide +kernel
theorem dX2_divide_131 : decode cX2_divide 131 = .ok (.land, 1) := by decide +kernel
theorem dX2_divide_132 : decode cX2_divide 132 = .ok (.lastore, 1) := by decide +kernel
theorem dX2_divide_133 : decode cX2_divide 133 = .ok (.goto 21, 3) := by decide +kernel
theorem dX2_divide_136 : decode cX2_divide 136 = .ok (.aload_n 0, 1) := by decide +kernel
theorem dX2_divide_137 : decode cX2_divide 137 = .ok (.getfield 25, 3) := by decide +kernel
theorem dX2_divide_140 : decode cX2_divide 140 = .ok (.iload_n 2, 1) := by decide +kernel
theorem dX2_divide_141 : decode cX2_divide 141 = .ok (.dup2, 1) := by decide +kernel
theorem dX2_divide_142 : decode cX2_divide 142 = .ok (.laload, 1) := by decide +kernel
theorem dX2_divide_143 : decode cX2_divide 143 = .ok (.iload 5, 2) := by decide +kernel
theorem dX2_divide_145 : decode cX2_divide 145 = .ok (.invokestatic 45, 3) := by decide +kernel
theorem dX2_divide_148 : decode cX2_divide 148 = .ok (.ldc2_w 84, 3) := by decide +kernel
theorem dX2_divide_151 : decode cX2_divide 151 = .ok (.lxor, 1) := by decide +kernel
theorem dX2_divide_152 : decode cX2_divide 152 = .ok (.land, 1) := by decide +kernel
theorem dX2_divide_153 : decode cX2_divide 153 = .ok (.lastore, 1) := by decide +kernel
theorem dX2_divide_154 : decode cX2_divide 154 = .ok (.iinc 5 1, 3) := by decide +kernel
theorem dX2_divide_157 : decode cX2_divide 157 = .ok (.goto (-120), 3) := by decide +kernel
theorem dX2_divide_160 : decode cX2_divide 160 = .ok (.return_, 1) := by decide +kernel
theorem dX3_init_0 : decode cX3_init 0 = .ok (.aload_n 0, 1) := by decide +kernel
theorem dX3_init_1 : decode cX3_init 1 = .ok (.invokespecial 3, 3) := by decide +kernel
theorem dX3_init_4 : decode cX3_init 4 = .ok (.aload_n 0, 1) := by decide +kernel
theorem dX3_init_5 : decode cX3_init 5 = .ok (.aload_n 1, 1) := by decide +kernel
theorem dX3_init_6 : decode cX3_init 6 = .ok (.putfield 9, 3) := by decide +kernel
theorem dX3_init_9 : decode cX3_init 9 = .ok (.return_, 1) := by decide +kernel
theorem dX3_size_0 : decode cX3_size 0 = .ok (.aload_n 0, 1) := by decide +kernel
theorem dX3_size_1 : decode cX3_size 1 = .ok (.getfield 9, 3) := by decide +kernel
theorem dX3_size_4 : decode cX3_size 4 = .ok (.arraylength, 1) := by decide +kernel
theorem dX3_size_5 : decode cX3_size 5 = .ok (.ireturn, 1) := by decide +kernel
theorem dX3_trackAt_0 : decode cX3_trackAt 0 = .ok (.iload_n 1, 1) := by decide +kernel
theorem dX3_trackAt_1 : decode cX3_trackAt 1 = .ok (.ifCond .lt 12, 3) := by decide +kernel
theorem dX3_trackAt_4 : decode cX3_trackAt 4 = .ok (.iload_n 1, 1) := by decide +kernel
theorem dX3_trackAt_5 : decode cX3_trackAt 5 = .ok (.aload_n 0, 1) := by decide +kernel
theorem dX3_trackAt_6 : decode cX3_trackAt 6 = .ok (.getfield 9, 3) := by decide +kernel
theorem dX3_trackAt_9 : decode cX3_trackAt 9 = .ok (.arraylength, 1) := by decide +kernel
theorem dX3_trackAt_10 : decode cX3_trackAt 10 = .ok (.if_icmp .lt 7, 3) := by decide +kernel
theorem dX3_trackAt_13 : decode cX3_trackAt 13 = .ok (.aconst_null, 1) := by decide +kernel
theorem dX3_trackAt_14 : decode cX3_trackAt 14 = .ok (.goto 9, 3) := by decide +kernel
theorem dX3_trackAt_17 : decode cX3_trackAt 17 = .ok (.aload_n 0, 1) := by decide +kernel
theorem dX3_trackAt_18 : decode cX3_trackAt 18 = .ok (.getfield 9, 3) := by decide +kernel
theorem dX3_trackAt_21 : decode cX3_trackAt 21 = .ok (.iload_n 1, 1) := by decide +kernel
theorem dX3_trackAt_22 : decode cX3_trackAt 22 = .ok (.aaload, 1) := by decide +kernel
theorem dX3_trackAt_23 : decode cX3_trackAt 23 = .ok (.areturn, 1) := by decide +kernel
theorem dX3_copiedTo_0 : decode cX3_copiedTo 0 = .ok (.iconst 0, 1) := by decide +kernel
theorem dX3_copiedTo_1 : decode cX3_copiedTo 1 = .ok (.iload_n 1, 1) := by decide +kernel
theorem dX3_copiedTo_2 : decode cX3_copiedTo 2 = .ok (.invokestatic 15, 3) := by decide +kernel
theorem dX3_copiedTo_5 : decode cX3_copiedTo 5 = .ok (.anewarray 21, 3) := by decide +kernel
theorem dX3_copiedTo_8 : decode cX3_copiedTo 8 = .ok (.astore_n 2, 1) := by decide +kernel
theorem dX3_copiedTo_9 : decode cX3_copiedTo 9 = .ok (.aload_n 0, 1) := by decide +kernel
theorem dX3_copiedTo_10 : decode cX3_copiedTo 10 = .ok (.getfield 9, 3) := by decide +kernel
theorem dX3_copiedTo_13 : decode cX3_copiedTo 13 = .ok (.iconst 0, 1) := by decide +kernel
theorem dX3_copiedTo_14 : decode cX3_copiedTo 14 = .ok (.aload_n 2, 1) := by decide +kernel
theorem dX3_copiedTo_15 : decode cX3_copiedTo 15 = .ok (.iconst 0, 1) := by decide +kernel
theorem dX3_copiedTo_16 : decode cX3_copiedTo 16 = .ok (.aload_n 0, 1) := by decide +kernel
theorem dX3_copiedTo_17 : decode cX3_copiedTo 17 = .ok (.getfield 9, 3) := by decide +kernel
theorem dX3_copiedTo_20 : decode cX3_copiedTo 20 = .ok (.arraylength, 1) := by decide +kernel
theorem dX3_copiedTo_21 : decode cX3_copiedTo 21 = .ok (.aload_n 2, 1) := by decide +kernel
theorem dX3_copiedTo_22 : decode cX3_copiedTo 22 = .ok (.arraylength, 1) := by decide +kernel
theorem dX3_copiedTo_23 : decode cX3_copiedTo 23 = .ok (.invokestatic 23, 3) := by decide +kernel
theorem dX3_copiedTo_26 : decode cX3_copiedTo 26 = .ok (.invokestatic 26, 3) := by decide +kernel
theorem dX3_copiedTo_29 : decode cX3_copiedTo 29 = .ok (.aload_n 2, 1) := by decide +kernel
theorem dX3_copiedTo_30 : decode cX3_copiedTo 30 = .ok (.areturn, 1) := by decide +kernel
theorem dX3_weightOfAll_0 : decode cX3_weightOfAll 0 = .ok (.iconst 0, 1) := by decide +kernel
theorem dX3_weightOfAll_1 : decode cX3_weightOfAll 1 = .ok (.istore_n 1, 1) := by decide +kernel
theorem dX3_weightOfAll_2 : decode cX3_weightOfAll 2 = .ok (.iconst 0, 1) := by decide +kernel
theorem dX3_weightOfAll_3 : decode cX3_weightOfAll 3 = .ok (.istore_n 2, 1) := by decide +kernel
theorem dX3_weightOfAll_4 : decode cX3_weightOfAll 4 = .ok (.iload_n 2, 1) := by decide +kernel
theorem dX3_weightOfAll_5 : decode cX3_weightOfAll 5 = .ok (.aload_n 0, 1) := by decide +kernel
theorem dX3_weightOfAll_6 : decode cX3_weightOfAll 6 = .ok (.getfield 9, 3) := by decide +kernel
theorem dX3_weightOfAll_9 : decode cX3_weightOfAll 9 = .ok (.arraylength, 1) := by decide +kernel
theorem dX3_weightOfAll_10 : decode cX3_weightOfAll 10 = .ok (.if_icmp .ge 21, 3) := by decide +kernel
theorem dX3_weightOfAll_13 : decode cX3_weightOfAll 13 = .ok (.iload_n 1, 1) := by decide +kernel
theorem dX3_weightOfAll_14 : decode cX3_weightOfAll 14 = .ok (.aload_n 0, 1) := by decide +kernel
theorem dX3_weightOfAll_15 : decode cX3_weightOfAll 15 = .ok (.getfield 9, 3) := by decide +kernel
theorem dX3_weightOfAll_18 : decode cX3_weightOfAll 18 = .ok (.iload_n 2, 1) := by decide +kernel
theorem dX3_weightOfAll_19 : decode cX3_weightOfAll 19 = .ok (.aaload, 1) := by decide +kernel
theorem dX3_weightOfAll_20 : decode cX3_weightOfAll 20 = .ok (.getfield 32, 3) := by decide +kernel
theorem dX3_weightOfAll_23 : decode cX3_weightOfAll 23 = .ok (.iadd, 1) := by decide +kernel
theorem dX3_weightOfAll_24 : decode cX3_weightOfAll 24 = .ok (.istore_n 1, 1) := by decide +kernel
theorem dX3_weightOfAll_25 : decode cX3_weightOfAll 25 = .ok (.iinc 2 1, 3) := by decide +kernel
theorem dX3_weightOfAll_28 : decode cX3_weightOfAll 28 = .ok (.goto (-24), 3) := by decide +kernel
theorem dX3_weightOfAll_31 : decode cX3_weightOfAll 31 = .ok (.iload_n 1, 1) := by decide +kernel
theorem dX3_weightOfAll_32 : decode cX3_weightOfAll 32 = .ok (.ireturn, 1) := by decide +kernel
theorem dX3_nearestTo_0 : decode cX3_nearestTo 0 = .ok (.aconst_null, 1) := by decide +kernel
theorem dX3_nearestTo_1 : decode cX3_nearestTo 1 = .ok (.astore_n 2, 1) := by decide +kernel
theorem dX3_nearestTo_2 : decode cX3_nearestTo 2 = .ok (.iconst 0, 1) := by decide +kernel
theorem dX3_nearestTo_3 : decode cX3_nearestTo 3 = .ok (.istore_n 3, 1) := by decide +kernel
theorem dX3_nearestTo_4 : decode cX3_nearestTo 4 = .ok (.iconst 0, 1) := by decide +kernel
theorem dX3_nearestTo_5 : decode cX3_nearestTo 5 = .ok (.istore 4, 2) := by decide +kernel
theorem dX3_nearestTo_7 : decode cX3_nearestTo 7 = .ok (.iload 4, 2) := by decide +kernel
theorem dX3_nearestTo_9 : decode cX3_nearestTo 9 = .ok (.aload_n 0, 1) := by decide +kernel
theorem dX3_nearestTo_10 : decode cX3_nearestTo 10 = .ok (.getfield 9, 3) := by decide +kernel
theorem dX3_nearestTo_13 : decode cX3_nearestTo 13 = .ok (.arraylength, 1) := by decide +kernel
theorem dX3_nearestTo_14 : decode cX3_nearestTo 14 = .ok (.if_icmp .ge 84, 3) := by decide +kernel
theorem dX3_nearestTo_17 : decode cX3_nearestTo 17 = .ok (.aload_n 1, 1) := by decide +kernel
theorem dX3_nearestTo_18 : decode cX3_nearestTo 18 = .ok (.aload_n 0, 1) := by decide +kernel
theorem dX3_nearestTo_19 : decode cX3_nearestTo 19 = .ok (.getfield 9, 3) := by decide +kernel
theorem dX3_nearestTo_22 : decode cX3_nearestTo 22 = .ok (.iload 4, 2) := by decide +kernel
theorem dX3_nearestTo_24 : decode cX3_nearestTo 24 = .ok (.aaload, 1) := by decide +kernel
theorem dX3_nearestTo_25 : decode cX3_nearestTo 25 = .ok (.invokevirtual 36, 3) := by decide +kernel
theorem dX3_nearestTo_28 : decode cX3_nearestTo 28 = .ok (.istore 5, 2) := by decide +kernel
theorem dX3_nearestTo_30 : decode cX3_nearestTo 30 = .ok (.aload_n 2, 1) := by decide +kernel
theorem dX3_nearestTo_31 : decode cX3_nearestTo 31 = .ok (.ifnull 29, 3) := by decide +kernel
theorem dX3_nearestTo_34 : decode cX3_nearestTo 34 = .ok (.iload 5, 2) := by decide +kernel
theorem dX3_nearestTo_36 : decode cX3_nearestTo 36 = .ok (.iload_n 3, 1) := by decide +kernel
theorem dX3_nearestTo_37 : decode cX3_nearestTo 37 = .ok (.if_icmp .lt 23, 3) := by decide +kernel
theorem dX3_nearestTo_40 : decode cX3_nearestTo 40 = .ok (.iload 5, 2) := by decide +kernel
theorem dX3_nearestTo_42 : decode cX3_nearestTo 42 = .ok (.iload_n 3, 1) := by decide +kernel
theorem dX3_nearestTo_43 : decode cX3_nearestTo 43 = .ok (.if_icmp .ne 21, 3) := by decide +kernel
theorem dX3_nearestTo_46 : decode cX3_nearestTo 46 = .ok (.aload_n 0, 1) := by decide +kernel
theorem dX3_nearestTo_47 : decode cX3_nearestTo 47 = .ok (.getfield 9, 3) := by decide +kernel
theorem dX3_nearestTo_50 : decode cX3_nearestTo 50 = .ok (.iload 4, 2) := by decide +kernel
theorem dX3_nearestTo_52 : decode cX3_nearestTo 52 = .ok (.aaload, 1) := by decide +kernel
theorem dX3_nearestTo_53 : decode cX3_nearestTo 53 = .ok (.aload_n 2, 1) := by decide +kernel
theorem dX3_nearestTo_54 : decode cX3_nearestTo 54 = .ok (.invokevirtual 40, 3) := by decide +kernel
theorem dX3_nearestTo_57 : decode cX3_nearestTo 57 = .ok (.ifCond .eq 7, 3) := by decide +kernel
theorem dX3_nearestTo_60 : decode cX3_nearestTo 60 = .ok (.iconst 1, 1) := by decide +kernel
theorem dX3_nearestTo_61 : decode cX3_nearestTo 61 = .ok (.goto 4, 3) := by decide +kernel
theorem dX3_nearestTo_64 : decode cX3_nearestTo 64 = .ok (.iconst 0, 1) := by decide +kernel
theorem dX3_nearestTo_65 : decode cX3_nearestTo 65 = .ok (.istore 6, 2) := by decide +kernel
theorem dX3_nearestTo_67 : decode cX3_nearestTo 67 = .ok (.iload 4, 2) := by decide +kernel
theorem dX3_nearestTo_69 : decode cX3_nearestTo 69 = .ok (.aload_n 1, 1) := by decide +kernel
theorem dX3_nearestTo_70 : decode cX3_nearestTo 70 = .ok (.getfield 44, 3) := by decide +kernel
theorem dX3_nearestTo_73 : decode cX3_nearestTo 73 = .ok (.if_icmp .eq 19, 3) := by decide +kernel
theorem dX3_nearestTo_76 : decode cX3_nearestTo 76 = .ok (.iload 6, 2) := by decide +kernel
theorem dX3_nearestTo_78 : decode cX3_nearestTo 78 = .ok (.ifCond .eq 14, 3) := by decide +kernel
theorem dX3_nearestTo_81 : decode cX3_nearestTo 81 = .ok (.aload_n 0, 1) := by decide +kernel
theorem dX3_nearestTo_82 : decode cX3_nearestTo 82 = .ok (.getfield 9, 3) := by decide +kernel
theorem dX3_nearestTo_85 : decode cX3_nearestTo 85 = .ok (.iload 4, 2) := by decide +kernel
theorem dX3_nearestTo_87 : decode cX3_nearestTo 87 = .ok (.aaload, 1) := by decide +kernel
theorem dX3_nearestTo_88 : decode cX3_nearestTo 88 = .ok (.astore_n 2, 1) := by decide +kernel
theorem dX3_nearestTo_89 : decode cX3_nearestTo 89 = .ok (.iload 5, 2) := by decide +kernel
theorem dX3_nearestTo_91 : decode cX3_nearestTo 91 = .ok (.istore_n 3, 1) := by decide +kernel
theorem dX3_nearestTo_92 : decode cX3_nearestTo 92 = .ok (.iinc 4 1, 3) := by decide +kernel
theorem dX3_nearestTo_95 : decode cX3_nearestTo 95 = .ok (.goto (-88), 3) := by decide +kernel
theorem dX3_nearestTo_98 : decode cX3_nearestTo 98 = .ok (.aload_n 2, 1) := by decide +kernel
theorem dX3_nearestTo_99 : decode cX3_nearestTo 99 = .ok (.ifnonnull 7, 3) := by decide +kernel
theorem dX3_nearestTo_102 : decode cX3_nearestTo 102 = .ok (.iconst (-1), 1) := by decide +kernel
theorem dX3_nearestTo_103 : decode cX3_nearestTo 103 = .ok (.goto 7, 3) := by decide +kernel
theorem dX3_nearestTo_106 : decode cX3_nearestTo 106 = .ok (.aload_n 2, 1) := by decide +kernel
theorem dX3_nearestTo_107 : decode cX3_nearestTo 107 = .ok (.getfield 44, 3) := by decide +kernel
theorem dX3_nearestTo_110 : decode cX3_nearestTo 110 = .ok (.ireturn, 1) := by decide +kernel
theorem dX3_asTheyComeAhead_0 : decode cX3_asTheyComeAhead 0 = .ok (.aload_n 0, 1) := by decide +kernel
theorem dX3_asTheyComeAhead_1 : decode cX3_asTheyComeAhead 1 = .ok (.aload_n 0, 1) := by decide +kernel
theorem dX3_asTheyComeAhead_2 : decode cX3_asTheyComeAhead 2 = .ok (.getfield 9, 3) := by decide +kernel
theorem dX3_asTheyComeAhead_5 : decode cX3_asTheyComeAhead 5 = .ok (.arraylength, 1) := by decide +kernel
theorem dX3_asTheyComeAhead_6 : decode cX3_asTheyComeAhead 6 = .ok (.invokevirtual 47, 3) := by decide +kernel
theorem dX3_asTheyComeAhead_9 : decode cX3_asTheyComeAhead 9 = .ok (.astore_n 1, 1) := by decide +kernel
theorem dX3_asTheyComeAhead_10 : decode cX3_asTheyComeAhead 10 = .ok (.iconst 1, 1) := by decide +kernel
theorem dX3_asTheyComeAhead_11 : decode cX3_asTheyComeAhead 11 = .ok (.istore_n 2, 1) := by decide +kernel
theorem dX3_asTheyComeAhead_12 : decode cX3_asTheyComeAhead 12 = .ok (.iload_n 2, 1) := by decide +kernel
theorem dX3_asTheyComeAhead_13 : decode cX3_asTheyComeAhead 13 = .ok (.aload_n 1, 1) := by decide +kernel
theorem dX3_asTheyComeAhead_14 : decode cX3_asTheyComeAhead 14 = .ok (.arraylength, 1) := by decide +kernel
theorem dX3_asTheyComeAhead_15 : decode cX3_asTheyComeAhead 15 = .ok (.if_icmp .ge 64, 3) := by decide +kernel
theorem dX3_asTheyComeAhead_18 : decode cX3_asTheyComeAhead 18 = .ok (.aload_n 1, 1) := by decide +kernel
theorem dX3_asTheyComeAhead_19 : decode cX3_asTheyComeAhead 19 = .ok (.iload_n 2, 1) := by decide +kernel
theorem dX3_asTheyComeAhead_20 : decode cX3_asTheyComeAhead 20 = .ok (.aaload, 1) := by decide +kernel
theorem dX3_asTheyComeAhead_21 : decode cX3_asTheyComeAhead 21 = .ok (.astore_n 3, 1) := by decide +kernel
theorem dX3_asTheyComeAhead_22 : decode cX3_asTheyComeAhead 22 = .ok (.iload_n 2, 1) := by decide +kernel
theorem dX3_asTheyComeAhead_23 : decode cX3_asTheyComeAhead 23 = .ok (.istore 4, 2) := by decide +kernel
theorem dX3_asTheyComeAhead_25 : decode cX3_asTheyComeAhead 25 = .ok (.iload_n 2, 1) := by decide +kernel
theorem dX3_asTheyComeAhead_26 : decode cX3_asTheyComeAhead 26 = .ok (.istore 5, 2) := by decide +kernel
theorem dX3_asTheyComeAhead_28 : decode cX3_asTheyComeAhead 28 = .ok (.iload 5, 2) := by decide +kernel
theorem dX3_asTheyComeAhead_30 : decode cX3_asTheyComeAhead 30 = .ok (.ifCond .le 38, 3) := by decide +kernel
theorem dX3_asTheyComeAhead_33 : decode cX3_asTheyComeAhead 33 = .ok (.aload_n 3, 1) := by decide +kernel
theorem dX3_asTheyComeAhead_34 : decode cX3_asTheyComeAhead 34 = .ok (.aload_n 1, 1) := by decide +kernel
theorem dX3_asTheyComeAhead_35 : decode cX3_asTheyComeAhead 35 = .ok (.iload 5, 2) := by decide +kernel
theorem dX3_asTheyComeAhead_37 : decode cX3_asTheyComeAhead 37 = .ok (.iconst 1, 1) := by decide +kernel
theorem dX3_asTheyComeAhead_38 : decode cX3_asTheyComeAhead 38 = .ok (.isub, 1) := by decide +kernel
theorem dX3_asTheyComeAhead_39 : decode cX3_asTheyComeAhead 39 = .ok (.aaload, 1) := by decide +kernel
theorem dX3_asTheyComeAhead_40 : decode cX3_asTheyComeAhead 40 = .ok (.invokevirtual 40, 3) := by decide +kernel
theorem dX3_asTheyComeAhead_43 : decode cX3_asTheyComeAhead 43 = .ok (.ifCond .eq 25, 3) := by decide +kernel
theorem dX3_asTheyComeAhead_46 : decode cX3_asTheyComeAhead 46 = .ok (.aload_n 1, 1) := by decide +kernel
theorem dX3_asTheyComeAhead_47 : decode cX3_asTheyComeAhead 47 = .ok (.iload 5, 2) := by decide +kernel
theorem dX3_asTheyComeAhead_49 : decode cX3_asTheyComeAhead 49 = .ok (.aload_n 1, 1) := by decide +kernel
theorem dX3_asTheyComeAhead_50 : decode cX3_asTheyComeAhead 50 = .ok (.iload 5, 2) := by decide +kernel
theorem dX3_asTheyComeAhead_52 : decode cX3_asTheyComeAhead 52 = .ok (.iconst 1, 1) := by decide +kernel
theorem dX3_asTheyComeAhead_53 : decode cX3_asTheyComeAhead 53 = .ok (.isub, 1) := by decide +kernel
theorem dX3_asTheyComeAhead_54 : decode cX3_asTheyComeAhead 54 = .ok (.aaload, 1) := by decide +kernel
theorem dX3_asTheyComeAhead_55 : decode cX3_asTheyComeAhead 55 = .ok (.aastore, 1) := by decide +kernel
theorem dX3_asTheyComeAhead_56 : decode cX3_asTheyComeAhead 56 = .ok (.iload 5, 2) := by decide +kernel
theorem dX3_asTheyComeAhead_58 : decode cX3_asTheyComeAhead 58 = .ok (.iconst 1, 1) := by decide +kernel
theorem dX3_asTheyComeAhead_59 : decode cX3_asTheyComeAhead 59 = .ok (.isub, 1) := by decide +kernel
theorem dX3_asTheyComeAhead_60 : decode cX3_asTheyComeAhead 60 = .ok (.istore 4, 2) := by decide +kernel
theorem dX3_asTheyComeAhead_62 : decode cX3_asTheyComeAhead 62 = .ok (.iinc 5 (-1), 3) := by decide +kernel
theorem dX3_asTheyComeAhead_65 : decode cX3_asTheyComeAhead 65 = .ok (.goto (-37), 3) := by decide +kernel
theorem dX3_asTheyComeAhead_68 : decode cX3_asTheyComeAhead 68 = .ok (.aload_n 1, 1) := by decide +kernel
theorem dX3_asTheyComeAhead_69 : decode cX3_asTheyComeAhead 69 = .ok (.iload 4, 2) := by decide +kernel
theorem dX3_asTheyComeAhead_71 : decode cX3_asTheyComeAhead 71 = .ok (.aload_n 3, 1) := by decide +kernel
theorem dX3_asTheyComeAhead_72 : decode cX3_asTheyComeAhead 72 = .ok (.aastore, 1) := by decide +kernel
theorem dX3_asTheyComeAhead_73 : decode cX3_asTheyComeAhead 73 = .ok (.iinc 2 1, 3) := by decide +kernel
theorem dX3_asTheyComeAhead_76 : decode cX3_asTheyComeAhead 76 = .ok (.goto (-64), 3) := by decide +kernel
theorem dX3_asTheyComeAhead_79 : decode cX3_asTheyComeAhead 79 = .ok (.aload_n 1, 1) := by decide +kernel
theorem dX3_asTheyComeAhead_80 : decode cX3_asTheyComeAhead 80 = .ok (.areturn, 1) := by decide +kernel
theorem dX3_spanned_0 : decode cX3_spanned 0 = .ok (.aload_n 0, 1) := by decide +kernel
theorem dX3_spanned_1 : decode cX3_spanned 1 = .ok (.invokevirtual 51, 3) := by decide +kernel
theorem dX3_spanned_4 : decode cX3_spanned 4 = .ok (.astore_n 3, 1) := by decide +kernel
theorem dX3_spanned_5 : decode cX3_spanned 5 = .ok (.aload_n 3, 1) := by decide +kernel
theorem dX3_spanned_6 : decode cX3_spanned 6 = .ok (.arraylength, 1) := by decide +kernel
theorem dX3_spanned_7 : decode cX3_spanned 7 = .ok (.newarray .int, 2) := by decide +kernel
theorem dX3_spanned_9 : decode cX3_spanned 9 = .ok (.astore 4, 2) := by decide +kernel
theorem dX3_spanned_11 : decode cX3_spanned 11 = .ok (.iconst 0, 1) := by decide +kernel
theorem dX3_spanned_12 : decode cX3_spanned 12 = .ok (.istore 5, 2) := by decide +kernel
theorem dX3_spanned_14 : decode cX3_spanned 14 = .ok (.iload 5, 2) := by decide +kernel
theorem dX3_spanned_16 : decode cX3_spanned 16 = .ok (.aload_n 3, 1) := by decide +kernel
theorem dX3_spanned_17 : decode cX3_spanned 17 = .ok (.arraylength, 1) := by decide +kernel
theorem dX3_spanned_18 : decode cX3_spanned 18 = .ok (.if_icmp .ge 16, 3) := by decide +kernel
theorem dX3_spanned_21 : decode cX3_spanned 21 = .ok (.aload 4, 2) := by decide +kernel
theorem dX3_spanned_23 : decode cX3_spanned 23 = .ok (.iload 5, 2) := by decide +kernel
theorem dX3_spanned_25 : decode cX3_spanned 25 = .ok (.iload 5, 2) := by decide +kernel
theorem dX3_spanned_27 : decode cX3_spanned 27 = .ok (.iastore, 1) := by decide +kernel
theorem dX3_spanned_28 : decode cX3_spanned 28 = .ok (.iinc 5 1, 3) := by decide +kernel
theorem dX3_spanned_31 : decode cX3_spanned 31 = .ok (.goto (-17), 3) := by decide +kernel
theorem dX3_spanned_34 : decode cX3_spanned 34 = .ok (.iconst 0, 1) := by decide +kernel
theorem dX3_spanned_35 : decode cX3_spanned 35 = .ok (.istore 5, 2) := by decide +kernel
theorem dX3_spanned_37 : decode cX3_spanned 37 = .ok (.iload 5, 2) := by decide +kernel
theorem dX3_spanned_39 : decode cX3_spanned 39 = .ok (.aload_n 3, 1) := by decide +kernel
theorem dX3_spanned_40 : decode cX3_spanned 40 = .ok (.arraylength, 1) := by decide +kernel
theorem dX3_spanned_41 : decode cX3_spanned 41 = .ok (.if_icmp .ge 108, 3) := by decide +kernel
theorem dX3_spanned_44 : decode cX3_spanned 44 = .ok (.aload_n 3, 1) := by decide +kernel
theorem dX3_spanned_45 : decode cX3_spanned 45 = .ok (.aload 4, 2) := by decide +kernel
theorem dX3_spanned_47 : decode cX3_spanned 47 = .ok (.invokestatic 55, 3) := by decide +kernel
theorem dX3_spanned_50 : decode cX3_spanned 50 = .ok (.istore 6, 2) := by decide +kernel
theorem dX3_spanned_52 : decode cX3_spanned 52 = .ok (.iload 6, 2) := by decide +kernel
theorem dX3_spanned_54 : decode cX3_spanned 54 = .ok (.iconst (-1), 1) := by decide +kernel
theorem dX3_spanned_55 : decode cX3_spanned 55 = .ok (.if_icmp .eq 8, 3) := by decide +kernel
theorem dX3_spanned_58 : decode cX3_spanned 58 = .ok (.aload_n 3, 1) := by decide +kernel
theorem dX3_spanned_59 : decode cX3_spanned 59 = .ok (.arraylength, 1) := by decide +kernel
theorem dX3_spanned_60 : decode cX3_spanned 60 = .ok (.ifCond .ne 5, 3) := by decide +kernel
theorem dX3_spanned_63 : decode cX3_spanned 63 = .ok (.iconst (-1), 1) := by decide +kernel
theorem dX3_spanned_64 : decode cX3_spanned 64 = .ok (.ireturn, 1) := by decide +kernel
theorem dX3_spanned_65 : decode cX3_spanned 65 = .ok (.aload_n 3, 1) := by decide +kernel
theorem dX3_spanned_66 : decode cX3_spanned 66 = .ok (.iload 6, 2) := by decide +kernel
theorem dX3_spanned_68 : decode cX3_spanned 68 = .ok (.aload_n 3, 1) := by decide +kernel
theorem dX3_spanned_69 : decode cX3_spanned 69 = .ok (.arraylength, 1) := by decide +kernel
theorem dX3_spanned_70 : decode cX3_spanned 70 = .ok (.idiv, 1) := by decide +kernel
theorem dX3_spanned_71 : decode cX3_spanned 71 = .ok (.aaload, 1) := by decide +kernel
theorem dX3_spanned_72 : decode cX3_spanned 72 = .ok (.astore 7, 2) := by decide +kernel
theorem dX3_spanned_74 : decode cX3_spanned 74 = .ok (.aload_n 3, 1) := by decide +kernel
theorem dX3_spanned_75 : decode cX3_spanned 75 = .ok (.iload 6, 2) := by decide +kernel
theorem dX3_spanned_77 : decode cX3_spanned 77 = .ok (.aload_n 3, 1) := by decide +kernel
theorem dX3_spanned_78 : decode cX3_spanned 78 = .ok (.arraylength, 1) := by decide +kernel
theorem dX3_spanned_79 : decode cX3_spanned 79 = .ok (.irem, 1) := by decide +kernel
theorem dX3_spanned_80 : decode cX3_spanned 80 = .ok (.aaload, 1) := by decide +kernel
theorem dX3_spanned_81 : decode cX3_spanned 81 = .ok (.astore 8, 2) := by decide +kernel
theorem dX3_spanned_83 : decode cX3_spanned 83 = .ok (.iload 5, 2) := by decide +kernel
theorem dX3_spanned_85 : decode cX3_spanned 85 = .ok (.iload_n 1, 1) := by decide +kernel
theorem dX3_spanned_86 : decode cX3_spanned 86 = .ok (.if_icmp .ne 36, 3) := by decide +kernel
theorem dX3_spanned_89 : decode cX3_spanned 89 = .ok (.iload_n 2, 1) := by decide +kernel
theorem dX3_spanned_90 : decode cX3_spanned 90 = .ok (.ifCond .ne 11, 3) := by decide +kernel
theorem dX3_spanned_93 : decode cX3_spanned 93 = .ok (.aload 7, 2) := by decide +kernel
theorem dX3_spanned_95 : decode cX3_spanned 95 = .ok (.getfield 44, 3) := by decide +kernel
theorem dX3_spanned_98 : decode cX3_spanned 98 = .ok (.goto 23, 3) := by decide +kernel
theorem dX3_spanned_101 : decode cX3_spanned 101 = .ok (.iload_n 2, 1) := by decide +kernel
theorem dX3_spanned_102 : decode cX3_spanned 102 = .ok (.iconst 1, 1) := by decide +kernel
theorem dX3_spanned_103 : decode cX3_spanned 103 = .ok (.if_icmp .ne 11, 3) := by decide +kernel
theorem dX3_spanned_106 : decode cX3_spanned 106 = .ok (.aload 8, 2) := by decide +kernel
theorem dX3_spanned_108 : decode cX3_spanned 108 = .ok (.getfield 44, 3) := by decide +kernel
theorem dX3_spanned_111 : decode cX3_spanned 111 = .ok (.goto 10, 3) := by decide +kernel
theorem dX3_spanned_114 : decode cX3_spanned 114 = .ok (.aload 7, 2) := by decide +kernel
theorem dX3_spanned_116 : decode cX3_spanned 116 = .ok (.aload 8, 2) := by decide +kernel
theorem dX3_spanned_118 : decode cX3_spanned 118 = .ok (.invokevirtual 36, 3) := by decide +kernel
theorem dX3_spanned_121 : decode cX3_spanned 121 = .ok (.ireturn, 1) := by decide +kernel
theorem dX3_spanned_122 : decode cX3_spanned 122 = .ok (.aload 4, 2) := by decide +kernel
theorem dX3_spanned_124 : decode cX3_spanned 124 = .ok (.aload 4, 2) := by decide +kernel
theorem dX3_spanned_126 : decode cX3_spanned 126 = .ok (.iload 6, 2) := by decide +kernel
theorem dX3_spanned_128 : decode cX3_spanned 128 = .ok (.aload_n 3, 1) := by decide +kernel
theorem dX3_spanned_129 : decode cX3_spanned 129 = .ok (.arraylength, 1) := by decide +kernel
theorem dX3_spanned_130 : decode cX3_spanned 130 = .ok (.idiv, 1) := by decide +kernel
theorem dX3_spanned_131 : decode cX3_spanned 131 = .ok (.iaload, 1) := by decide +kernel
theorem dX3_spanned_132 : decode cX3_spanned 132 = .ok (.aload 4, 2) := by decide +kernel
theorem dX3_spanned_134 : decode cX3_spanned 134 = .ok (.iload 6, 2) := by decide +kernel
theorem dX3_spanned_136 : decode cX3_spanned 136 = .ok (.aload_n 3, 1) := by decide +kernel
theorem dX3_spanned_137 : decode cX3_spanned 137 = .ok (.arraylength, 1) := by decide +kernel
theorem dX3_spanned_138 : decode cX3_spanned 138 = .ok (.irem, 1) := by decide +kernel
theorem dX3_spanned_139 : decode cX3_spanned 139 = .ok (.iaload, 1) := by decide +kernel
theorem dX3_spanned_140 : decode cX3_spanned 140 = .ok (.invokestatic 59, 3) := by decide +kernel
theorem dX3_spanned_143 : decode cX3_spanned 143 = .ok (.iinc 5 1, 3) := by decide +kernel
theorem dX3_spanned_146 : decode cX3_spanned 146 = .ok (.goto (-109), 3) := by decide +kernel
theorem dX3_spanned_149 : decode cX3_spanned 149 = .ok (.iconst (-1), 1) := by decide +kernel
theorem dX3_spanned_150 : decode cX3_spanned 150 = .ok (.ireturn, 1) := by decide +kernel
theorem dX3_leastWithoutWay_0 : decode cX3_leastWithoutWay 0 = .ok (.iconst (-1), 1) := by decide +kernel
theorem dX3_leastWithoutWay_1 : decode cX3_leastWithoutWay 1 = .ok (.istore_n 2, 1) := by decide +kernel
theorem dX3_leastWithoutWay_2 : decode cX3_leastWithoutWay 2 = .ok (.iconst 0, 1) := by decide +kernel
theorem dX3_leastWithoutWay_3 : decode cX3_leastWithoutWay 3 = .ok (.istore_n 3, 1) := by decide +kernel
theorem dX3_leastWithoutWay_4 : decode cX3_leastWithoutWay 4 = .ok (.iconst 0, 1) := by decide +kernel
theorem dX3_leastWithoutWay_5 : decode cX3_leastWithoutWay 5 = .ok (.istore 4, 2) := by decide +kernel
theorem dX3_leastWithoutWay_7 : decode cX3_leastWithoutWay 7 = .ok (.iload 4, 2) := by decide +kernel
theorem dX3_leastWithoutWay_9 : decode cX3_leastWithoutWay 9 = .ok (.aload_n 0, 1) := by decide +kernel
theorem dX3_leastWithoutWay_10 : decode cX3_leastWithoutWay 10 = .ok (.arraylength, 1) := by decide +kernel
theorem dX3_leastWithoutWay_11 : decode cX3_leastWithoutWay 11 = .ok (.if_icmp .ge 75, 3) := by decide +kernel
theorem dX3_leastWithoutWay_14 : decode cX3_leastWithoutWay 14 = .ok (.iload 4, 2) := by decide +kernel
theorem dX3_leastWithoutWay_16 : decode cX3_leastWithoutWay 16 = .ok (.iconst 1, 1) := by decide +kernel
theorem dX3_leastWithoutWay_17 : decode cX3_leastWithoutWay 17 = .ok (.iadd, 1) := by decide +kernel
theorem dX3_leastWithoutWay_18 : decode cX3_leastWithoutWay 18 = .ok (.istore 5, 2) := by decide +kernel
theorem dX3_leastWithoutWay_20 : decode cX3_leastWithoutWay 20 = .ok (.iload 5, 2) := by decide +kernel
theorem dX3_leastWithoutWay_22 : decode cX3_leastWithoutWay 22 = .ok (.aload_n 0, 1) := by decide +kernel
theorem dX3_leastWithoutWay_23 : decode cX3_leastWithoutWay 23 = .ok (.arraylength, 1) := by decide +kernel
theorem dX3_leastWithoutWay_24 : decode cX3_leastWithoutWay 24 = .ok (.if_icmp .ge 56, 3) := by decide +kernel
theorem dX3_leastWithoutWay_27 : decode cX3_leastWithoutWay 27 = .ok (.aload_n 0, 1) := by decide +kernel
theorem dX3_leastWithoutWay_28 : decode cX3_leastWithoutWay 28 = .ok (.iload 4, 2) := by decide +kernel
theorem dX3_leastWithoutWay_30 : decode cX3_leastWithoutWay 30 = .ok (.aaload, 1) := by decide +kernel
theorem dX3_leastWithoutWay_31 : decode cX3_leastWithoutWay 31 = .ok (.aload_n 0, 1) := by decide +kernel
theorem dX3_leastWithoutWay_32 : decode cX3_leastWithoutWay 32 = .ok (.iload 5, 2) := by decide +kernel
theorem dX3_leastWithoutWay_34 : decode cX3_leastWithoutWay 34 = .ok (.aaload, 1) := by decide +kernel
theorem dX3_leastWithoutWay_35 : decode cX3_leastWithoutWay 35 = .ok (.invokevirtual 36, 3) := by decide +kernel
theorem dX3_leastWithoutWay_38 : decode cX3_leastWithoutWay 38 = .ok (.istore 6, 2) := by decide +kernel
theorem dX3_leastWithoutWay_40 : decode cX3_leastWithoutWay 40 = .ok (.aload_n 1, 1) := by decide +kernel
theorem dX3_leastWithoutWay_41 : decode cX3_leastWithoutWay 41 = .ok (.iload 4, 2) := by decide +kernel
theorem dX3_leastWithoutWay_43 : decode cX3_leastWithoutWay 43 = .ok (.iaload, 1) := by decide +kernel
theorem dX3_leastWithoutWay_44 : decode cX3_leastWithoutWay 44 = .ok (.aload_n 1, 1) := by decide +kernel
theorem dX3_leastWithoutWay_45 : decode cX3_leastWithoutWay 45 = .ok (.iload 5, 2) := by decide +kernel
theorem dX3_leastWithoutWay_47 : decode cX3_leastWithoutWay 47 = .ok (.iaload, 1) := by decide +kernel
theorem dX3_leastWithoutWay_48 : decode cX3_leastWithoutWay 48 = .ok (.if_icmp .eq 26, 3) := by decide +kernel
theorem dX3_leastWithoutWay_51 : decode cX3_leastWithoutWay 51 = .ok (.iload_n 2, 1) := by decide +kernel
theorem dX3_leastWithoutWay_52 : decode cX3_leastWithoutWay 52 = .ok (.iconst (-1), 1) := by decide +kernel
theorem dX3_leastWithoutWay_53 : decode cX3_leastWithoutWay 53 = .ok (.if_icmp .eq 9, 3) := by decide +kernel
theorem dX3_leastWithoutWay_56 : decode cX3_leastWithoutWay 56 = .ok (.iload 6, 2) := by decide +kernel
theorem dX3_leastWithoutWay_58 : decode cX3_leastWithoutWay 58 = .ok (.iload_n 3, 1) := by decide +kernel
theorem dX3_leastWithoutWay_59 : decode cX3_leastWithoutWay 59 = .ok (.if_icmp .ge 15, 3) := by decide +kernel
theorem dX3_leastWithoutWay_62 : decode cX3_leastWithoutWay 62 = .ok (.iload 6, 2) := by decide +kernel
theorem dX3_leastWithoutWay_64 : decode cX3_leastWithoutWay 64 = .ok (.istore_n 3, 1) := by decide +kernel
theorem dX3_leastWithoutWay_65 : decode cX3_leastWithoutWay 65 = .ok (.iload 4, 2) := by decide +kernel
theorem dX3_leastWithoutWay_67 : decode cX3_leastWithoutWay 67 = .ok (.aload_n 0, 1) := by decide +kernel
theorem dX3_leastWithoutWay_68 : decode cX3_leastWithoutWay 68 = .ok (.arraylength, 1) := by decide +kernel
theorem dX3_leastWithoutWay_69 : decode cX3_leastWithoutWay 69 = .ok (.imul, 1) := by decide +kernel
theorem dX3_leastWithoutWay_70 : decode cX3_leastWithoutWay 70 = .ok (.iload 5, 2) := by decide +kernel
theorem dX3_leastWithoutWay_72 : decode cX3_leastWithoutWay 72 = .ok (.iadd, 1) := by decide +kernel
theorem dX3_leastWithoutWay_73 : decode cX3_leastWithoutWay 73 = .ok (.istore_n 2, 1) := by decide +kernel
theorem dX3_leastWithoutWay_74 : decode cX3_leastWithoutWay 74 = .ok (.iinc 5 1, 3) := by decide +kernel
theorem dX3_leastWithoutWay_77 : decode cX3_leastWithoutWay 77 = .ok (.goto (-57), 3) := by decide +kernel
theorem dX3_leastWithoutWay_80 : decode cX3_leastWithoutWay 80 = .ok (.iinc 4 1, 3) := by decide +kernel
theorem dX3_leastWithoutWay_83 : decode cX3_leastWithoutWay 83 = .ok (.goto (-76), 3) := by decide +kernel
theorem dX3_leastWithoutWay_86 : decode cX3_leastWithoutWay 86 = .ok (.iload_n 2, 1) := by decide +kernel
theorem dX3_leastWithoutWay_87 : decode cX3_leastWithoutWay 87 = .ok (.ireturn, 1) := by decide +kernel
theorem dX3_putTogether_0 : decode cX3_putTogether 0 = .ok (.iconst 0, 1) := by decide +kernel
theorem dX3_putTogether_1 : decode cX3_putTogether 1 = .ok (.istore_n 3, 1) := by decide +kernel
theorem dX3_putTogether_2 : decode cX3_putTogether 2 = .ok (.iload_n 3, 1) := by decide +kernel
theorem dX3_putTogether_3 : decode cX3_putTogether 3 = .ok (.aload_n 0, 1) := by decide +kernel
theorem dX3_putTogether_4 : decode cX3_putTogether 4 = .ok (.arraylength, 1) := by decide +kernel
theorem dX3_putTogether_5 : decode cX3_putTogether 5 = .ok (.if_icmp .ge 20, 3) := by decide +kernel
theorem dX3_putTogether_8 : decode cX3_putTogether 8 = .ok (.aload_n 0, 1) := by decide +kernel
theorem dX3_putTogether_9 : decode cX3_putTogether 9 = .ok (.iload_n 3, 1) := by decide +kernel
theorem dX3_putTogether_10 : decode cX3_putTogether 10 = .ok (.iaload, 1) := by decide +kernel
theorem dX3_putTogether_11 : decode cX3_putTogether 11 = .ok (.iload_n 2, 1) := by decide +kernel
theorem dX3_putTogether_12 : decode cX3_putTogether 12 = .ok (.if_icmp .ne 7, 3) := by decide +kernel
theorem dX3_putTogether_15 : decode cX3_putTogether 15 = .ok (.aload_n 0, 1) := by decide +kernel
theorem dX3_putTogether_16 : decode cX3_putTogether 16 = .ok (.iload_n 3, 1) := by decide +kernel
theorem dX3_putTogether_17 : decode cX3_putTogether 17 = .ok (.iload_n 1, 1) := by decide +kernel
theorem dX3_putTogether_18 : decode cX3_putTogether 18 = .ok (.iastore, 1) := by decide +kernel
theorem dX3_putTogether_19 : decode cX3_putTogether 19 = .ok (.iinc 3 1, 3) := by decide +kernel
theorem dX3_putTogether_22 : decode cX3_putTogether 22 = .ok (.goto (-20), 3) := by decide +kernel
theorem dX3_putTogether_25 : decode cX3_putTogether 25 = .ok (.return_, 1) := by decide +kernel
theorem dX3_greatestGap_0 : decode cX3_greatestGap 0 = .ok (.iconst (-1), 1) := by decide +kernel
theorem dX3_greatestGap_1 : decode cX3_greatestGap 1 = .ok (.istore_n 2, 1) := by decide +kernel
theorem dX3_greatestGap_2 : decode cX3_greatestGap 2 = .ok (.iconst (-1), 1) := by decide +kernel
theorem dX3_greatestGap_3 : decode cX3_greatestGap 3 = .ok (.istore_n 3, 1) := by decide +kernel
theorem dX3_greatestGap_4 : decode cX3_greatestGap 4 = .ok (.iconst 0, 1) := by decide +kernel
theorem dX3_greatestGap_5 : decode cX3_greatestGap 5 = .ok (.istore 4, 2) := by decide +kernel
theorem dX3_greatestGap_7 : decode cX3_greatestGap 7 = .ok (.iload 4, 2) := by decide +kernel
theorem dX3_greatestGap_9 : decode cX3_greatestGap 9 = .ok (.aload_n 0, 1) := by decide +kernel
theorem dX3_greatestGap_10 : decode cX3_greatestGap 10 = .ok (.getfield 9, 3) := by decide +kernel
theorem dX3_greatestGap_13 : decode cX3_greatestGap 13 = .ok (.arraylength, 1) := by decide +kernel
theorem dX3_greatestGap_14 : decode cX3_greatestGap 14 = .ok (.if_icmp .ge 53, 3) := by decide +kernel
theorem dX3_greatestGap_17 : decode cX3_greatestGap 17 = .ok (.aload_n 0, 1) := by decide +kernel
theorem dX3_greatestGap_18 : decode cX3_greatestGap 18 = .ok (.getfield 9, 3) := by decide +kernel
theorem dX3_greatestGap_21 : decode cX3_greatestGap 21 = .ok (.iload 4, 2) := by decide +kernel
theorem dX3_greatestGap_23 : decode cX3_greatestGap 23 = .ok (.aaload, 1) := by decide +kernel
theorem dX3_greatestGap_24 : decode cX3_greatestGap 24 = .ok (.getfield 63, 3) := by decide +kernel
theorem dX3_greatestGap_27 : decode cX3_greatestGap 27 = .ok (.istore 5, 2) := by decide +kernel
theorem dX3_greatestGap_29 : decode cX3_greatestGap 29 = .ok (.aload_n 0, 1) := by decide +kernel
theorem dX3_greatestGap_30 : decode cX3_greatestGap 30 = .ok (.iload 5, 2) := by decide +kernel
theorem dX3_greatestGap_32 : decode cX3_greatestGap 32 = .ok (.invokevirtual 66, 3) := by decide +kernel
theorem dX3_greatestGap_35 : decode cX3_greatestGap 35 = .ok (.istore 6, 2) := by decide +kernel
theorem dX3_greatestGap_37 : decode cX3_greatestGap 37 = .ok (.iload 6, 2) := by decide +kernel
theorem dX3_greatestGap_39 : decode cX3_greatestGap 39 = .ok (.iload_n 2, 1) := by decide +kernel
theorem dX3_greatestGap_40 : decode cX3_greatestGap 40 = .ok (.if_icmp .gt 15, 3) := by decide +kernel
theorem dX3_greatestGap_43 : decode cX3_greatestGap 43 = .ok (.iload 6, 2) := by decide +kernel
theorem dX3_greatestGap_45 : decode cX3_greatestGap 45 = .ok (.iload_n 2, 1) := by decide +kernel
theorem dX3_greatestGap_46 : decode cX3_greatestGap 46 = .ok (.if_icmp .ne 15, 3) := by decide +kernel
theorem dX3_greatestGap_49 : decode cX3_greatestGap 49 = .ok (.iload 5, 2) := by decide +kernel
theorem dX3_greatestGap_51 : decode cX3_greatestGap 51 = .ok (.iload_n 3, 1) := by decide +kernel
theorem dX3_greatestGap_52 : decode cX3_greatestGap 52 = .ok (.if_icmp .ge 9, 3) := by decide +kernel
theorem dX3_greatestGap_55 : decode cX3_greatestGap 55 = .ok (.iload 6, 2) := by decide +kernel
theorem dX3_greatestGap_57 : decode cX3_greatestGap 57 = .ok (.istore_n 2, 1) := by decide +kernel
theorem dX3_greatestGap_58 : decode cX3_greatestGap 58 = .ok (.iload 5, 2) := by decide +kernel
theorem dX3_greatestGap_60 : decode cX3_greatestGap 60 = .ok (.istore_n 3, 1) := by decide +kernel
theorem dX3_greatestGap_61 : decode cX3_greatestGap 61 = .ok (.iinc 4 1, 3) := by decide +kernel
theorem dX3_greatestGap_64 : decode cX3_greatestGap 64 = .ok (.goto (-57), 3) := by decide +kernel
theorem dX3_greatestGap_67 : decode cX3_greatestGap 67 = .ok (.iload_n 1, 1) := by decide +kernel
theorem dX3_greatestGap_68 : decode cX3_greatestGap 68 = .ok (.ifCond .eq 7, 3) := by decide +kernel
theorem dX3_greatestGap_71 : decode cX3_greatestGap 71 = .ok (.iload_n 3, 1) := by decide +kernel
theorem dX3_greatestGap_72 : decode cX3_greatestGap 72 = .ok (.goto 4, 3) := by decide +kernel
theorem dX3_greatestGap_75 : decode cX3_greatestGap 75 = .ok (.iload_n 2, 1) := by decide +kernel
theorem dX3_greatestGap_76 : decode cX3_greatestGap 76 = .ok (.ireturn, 1) := by decide +kernel
theorem dX3_wayToNext_0 : decode cX3_wayToNext 0 = .ok (.sipush 360, 3) := by decide +kernel
theorem dX3_wayToNext_3 : decode cX3_wayToNext 3 = .ok (.istore_n 2, 1) := by decide +kernel
theorem dX3_wayToNext_4 : decode cX3_wayToNext 4 = .ok (.iconst 0, 1) := by decide +kernel
theorem dX3_wayToNext_5 : decode cX3_wayToNext 5 = .ok (.istore_n 3, 1) := by decide +kernel
theorem dX3_wayToNext_6 : decode cX3_wayToNext 6 = .ok (.iload_n 3, 1) := by decide +kernel
theorem dX3_wayToNext_7 : decode cX3_wayToNext 7 = .ok (.aload_n 0, 1) := by decide +kernel
theorem dX3_wayToNext_8 : decode cX3_wayToNext 8 = .ok (.getfield 9, 3) := by decide +kernel
theorem dX3_wayToNext_11 : decode cX3_wayToNext 11 = .ok (.arraylength, 1) := by decide +kernel
theorem dX3_wayToNext_12 : decode cX3_wayToNext 12 = .ok (.if_icmp .ge 42, 3) := by decide +kernel
theorem dX3_wayToNext_15 : decode cX3_wayToNext 15 = .ok (.aload_n 0, 1) := by decide +kernel
theorem dX3_wayToNext_16 : decode cX3_wayToNext 16 = .ok (.getfield 9, 3) := by decide +kernel
theorem dX3_wayToNext_19 : decode cX3_wayToNext 19 = .ok (.iload_n 3, 1) := by decide +kernel
theorem dX3_wayToNext_20 : decode cX3_wayToNext 20 = .ok (.aaload, 1) := by decide +kernel
theorem dX3_wayToNext_21 : decode cX3_wayToNext 21 = .ok (.getfield 63, 3) := by decide +kernel
theorem dX3_wayToNext_24 : decode cX3_wayToNext 24 = .ok (.iload_n 1, 1) := by decide +kernel
theorem dX3_wayToNext_25 : decode cX3_wayToNext 25 = .ok (.isub, 1) := by decide +kernel
theorem dX3_wayToNext_26 : decode cX3_wayToNext 26 = .ok (.sipush 360, 3) := by decide +kernel
theorem dX3_wayToNext_29 : decode cX3_wayToNext 29 = .ok (.invokestatic 70, 3) := by decide +kernel
theorem dX3_wayToNext_32 : decode cX3_wayToNext 32 = .ok (.istore 4, 2) := by decide +kernel
theorem dX3_wayToNext_34 : decode cX3_wayToNext 34 = .ok (.iload 4, 2) := by decide +kernel
theorem dX3_wayToNext_36 : decode cX3_wayToNext 36 = .ok (.ifCond .le 12, 3) := by decide +kernel
theorem dX3_wayToNext_39 : decode cX3_wayToNext 39 = .ok (.iload 4, 2) := by decide +kernel
theorem dX3_wayToNext_41 : decode cX3_wayToNext 41 = .ok (.iload_n 2, 1) := by decide +kernel
theorem dX3_wayToNext_42 : decode cX3_wayToNext 42 = .ok (.if_icmp .ge 6, 3) := by decide +kernel
theorem dX3_wayToNext_45 : decode cX3_wayToNext 45 = .ok (.iload 4, 2) := by decide +kernel
theorem dX3_wayToNext_47 : decode cX3_wayToNext 47 = .ok (.istore_n 2, 1) := by decide +kernel
theorem dX3_wayToNext_48 : decode cX3_wayToNext 48 = .ok (.iinc 3 1, 3) := by decide +kernel
theorem dX3_wayToNext_51 : decode cX3_wayToNext 51 = .ok (.goto (-45), 3) := by decide +kernel
theorem dX3_wayToNext_54 : decode cX3_wayToNext 54 = .ok (.iload_n 2, 1) := by decide +kernel
theorem dX3_wayToNext_55 : decode cX3_wayToNext 55 = .ok (.ireturn, 1) := by decide +kernel
theorem dX3_tiledBy_0 : decode cX3_tiledBy 0 = .ok (.new 73, 3) := by decide +kernel
theorem dX3_tiledBy_3 : decode cX3_tiledBy 3 = .ok (.dup, 1) := by decide +kernel
theorem dX3_tiledBy_4 : decode cX3_tiledBy 4 = .ok (.iload_n 1, 1) := by decide +kernel
theorem dX3_tiledBy_5 : decode cX3_tiledBy 5 = .ok (.invokespecial 75, 3) := by decide +kernel
theorem dX3_tiledBy_8 : decode cX3_tiledBy 8 = .ok (.astore_n 2, 1) := by decide +kernel
theorem dX3_tiledBy_9 : decode cX3_tiledBy 9 = .ok (.iconst 0, 1) := by decide +kernel
theorem dX3_tiledBy_10 : decode cX3_tiledBy 10 = .ok (.istore_n 3, 1) := by decide +kernel
theorem dX3_tiledBy_11 : decode cX3_tiledBy 11 = .ok (.iload_n 3, 1) := by decide +kernel
theorem dX3_tiledBy_12 : decode cX3_tiledBy 12 = .ok (.aload_n 0, 1) := by decide +kernel
theorem dX3_tiledBy_13 : decode cX3_tiledBy 13 = .ok (.getfield 9, 3) := by decide +kernel
theorem dX3_tiledBy_16 : decode cX3_tiledBy 16 = .ok (.arraylength, 1) := by decide +kernel
theorem dX3_tiledBy_17 : decode cX3_tiledBy 17 = .ok (.if_icmp .ge 19, 3) := by decide +kernel
theorem dX3_tiledBy_20 : decode cX3_tiledBy 20 = .ok (.aload_n 2, 1) := by decide +kernel
theorem dX3_tiledBy_21 : decode cX3_tiledBy 21 = .ok (.aload_n 0, 1) := by decide +kernel
theorem dX3_tiledBy_22 : decode cX3_tiledBy 22 = .ok (.getfield 9, 3) := by decide +kernel
theorem dX3_tiledBy_25 : decode cX3_tiledBy 25 = .ok (.iload_n 3, 1) := by decide +kernel
theorem dX3_tiledBy_26 : decode cX3_tiledBy 26 = .ok (.aaload, 1) := by decide +kernel
theorem dX3_tiledBy_27 : decode cX3_tiledBy 27 = .ok (.invokevirtual 78, 3) := by decide +kernel
theorem dX3_tiledBy_30 : decode cX3_tiledBy 30 = .ok (.iinc 3 1, 3) := by decide +kernel
theorem dX3_tiledBy_33 : decode cX3_tiledBy 33 = .ok (.goto (-22), 3) := by decide +kernel
theorem dX3_tiledBy_36 : decode cX3_tiledBy 36 = .ok (.aload_n 2, 1) := by decide +kernel
theorem dX3_tiledBy_37 : decode cX3_tiledBy 37 = .ok (.areturn, 1) := by decide +kernel
theorem dX3_balanceAbout_0 : decode cX3_balanceAbout 0 = .ok (.iconst 0, 1) := by decide +kernel
theorem dX3_balanceAbout_1 : decode cX3_balanceAbout 1 = .ok (.istore_n 2, 1) := by decide +kernel
theorem dX3_balanceAbout_2 : decode cX3_balanceAbout 2 = .ok (.iconst 0, 1) := by decide +kernel
theorem dX3_balanceAbout_3 : decode cX3_balanceAbout 3 = .ok (.istore_n 3, 1) := by decide +kernel
theorem dX3_balanceAbout_4 : decode cX3_balanceAbout 4 = .ok (.iload_n 3, 1) := by decide +kernel
theorem dX3_balanceAbout_5 : decode cX3_balanceAbout 5 = .ok (.aload_n 0, 1) := by decide +kernel
theorem dX3_balanceAbout_6 : decode cX3_balanceAbout 6 = .ok (.getfield 9, 3) := by decide +kernel
theorem dX3_balanceAbout_9 : decode cX3_balanceAbout 9 = .ok (.arraylength, 1) := by decide +kernel
theorem dX3_balanceAbout_10 : decode cX3_balanceAbout 10 = .ok (.if_icmp .ge 64, 3) := by decide +kernel
theorem dX3_balanceAbout_13 : decode cX3_balanceAbout 13 = .ok (.iload_n 1, 1) := by decide +kernel
theorem dX3_balanceAbout_14 : decode cX3_balanceAbout 14 = .ok (.aload_n 0, 1) := by decide +kernel
theorem dX3_balanceAbout_15 : decode cX3_balanceAbout 15 = .ok (.getfield 9, 3) := by decide +kernel
theorem dX3_balanceAbout_18 : decode cX3_balanceAbout 18 = .ok (.iload_n 3, 1) := by decide +kernel
theorem dX3_balanceAbout_19 : decode cX3_balanceAbout 19 = .ok (.aaload, 1) := by decide +kernel
theorem dX3_balanceAbout_20 : decode cX3_balanceAbout 20 = .ok (.getfield 63, 3) := by decide +kernel
theorem dX3_balanceAbout_23 : decode cX3_balanceAbout 23 = .ok (.invokestatic 82, 3) := by decide +kernel
theorem dX3_balanceAbout_26 : decode cX3_balanceAbout 26 = .ok (.bipush 90, 2) := by decide +kernel
theorem dX3_balanceAbout_28 : decode cX3_balanceAbout 28 = .ok (.if_icmp .ge 7, 3) := by decide +kernel
theorem dX3_balanceAbout_31 : decode cX3_balanceAbout 31 = .ok (.iconst 1, 1) := by decide +kernel
theorem dX3_balanceAbout_32 : decode cX3_balanceAbout 32 = .ok (.goto 4, 3) := by decide +kernel
theorem dX3_balanceAbout_35 : decode cX3_balanceAbout 35 = .ok (.iconst 0, 1) := by decide +kernel
theorem dX3_balanceAbout_36 : decode cX3_balanceAbout 36 = .ok (.istore 4, 2) := by decide +kernel
theorem dX3_balanceAbout_38 : decode cX3_balanceAbout 38 = .ok (.iload_n 2, 1) := by decide +kernel
theorem dX3_balanceAbout_39 : decode cX3_balanceAbout 39 = .ok (.iload 4, 2) := by decide +kernel
theorem dX3_balanceAbout_41 : decode cX3_balanceAbout 41 = .ok (.ifCond .eq 15, 3) := by decide +kernel
theorem dX3_balanceAbout_44 : decode cX3_balanceAbout 44 = .ok (.aload_n 0, 1) := by decide +kernel
theorem dX3_balanceAbout_45 : decode cX3_balanceAbout 45 = .ok (.getfield 9, 3) := by decide +kernel
theorem dX3_balanceAbout_48 : decode cX3_balanceAbout 48 = .ok (.iload_n 3, 1) := by decide +kernel
theorem dX3_balanceAbout_49 : decode cX3_balanceAbout 49 = .ok (.aaload, 1) := by decide +kernel
theorem dX3_balanceAbout_50 : decode cX3_balanceAbout 50 = .ok (.getfield 32, 3) := by decide +kernel
theorem dX3_balanceAbout_53 : decode cX3_balanceAbout 53 = .ok (.goto 13, 3) := by decide +kernel
theorem dX3_balanceAbout_56 : decode cX3_balanceAbout 56 = .ok (.aload_n 0, 1) := by decide +kernel
theorem dX3_balanceAbout_57 : decode cX3_balanceAbout 57 = .ok (.getfield 9, 3) := by decide +kernel
theorem dX3_balanceAbout_60 : decode cX3_balanceAbout 60 = .ok (.iload_n 3, 1) := by decide +kernel
theorem dX3_balanceAbout_61 : decode cX3_balanceAbout 61 = .ok (.aaload, 1) := by decide +kernel
theorem dX3_balanceAbout_62 : decode cX3_balanceAbout 62 = .ok (.getfield 32, 3) := by decide +kernel
theorem dX3_balanceAbout_65 : decode cX3_balanceAbout 65 = .ok (.ineg, 1) := by decide +kernel
theorem dX3_balanceAbout_66 : decode cX3_balanceAbout 66 = .ok (.iadd, 1) := by decide +kernel
theorem dX3_balanceAbout_67 : decode cX3_balanceAbout 67 = .ok (.istore_n 2, 1) := by decide +kernel
theorem dX3_balanceAbout_68 : decode cX3_balanceAbout 68 = .ok (.iinc 3 1, 3) := by decide +kernel
theorem dX3_balanceAbout_71 : decode cX3_balanceAbout 71 = .ok (.goto (-67), 3) := by decide +kernel
theorem dX3_balanceAbout_74 : decode cX3_balanceAbout 74 = .ok (.iload_n 2, 1) := by decide +kernel
theorem dX3_balanceAbout_75 : decode cX3_balanceAbout 75 = .ok (.ireturn, 1) := by decide +kernel
theorem dX4_init_0 : decode cX4_init 0 = .ok (.aload_n 0, 1) := by decide +kernel
theorem dX4_init_1 : decode cX4_init 1 = .ok (.invokespecial 3, 3) := by decide +kernel
theorem dX4_init_4 : decode cX4_init 4 = .ok (.aload_n 0, 1) := by decide +kernel
theorem dX4_init_5 : decode cX4_init 5 = .ok (.aload_n 1, 1) := by decide +kernel
theorem dX4_init_6 : decode cX4_init 6 = .ok (.putfield 9, 3) := by decide +kernel
theorem dX4_init_9 : decode cX4_init 9 = .ok (.aload_n 0, 1) := by decide +kernel
theorem dX4_init_10 : decode cX4_init 10 = .ok (.new 15, 3) := by decide +kernel
theorem dX4_init_13 : decode cX4_init 13 = .ok (.dup, 1) := by decide +kernel
theorem dX4_init_14 : decode cX4_init 14 = .ok (.aload_n 1, 1) := by decide +kernel
theorem dX4_init_15 : decode cX4_init 15 = .ok (.arraylength, 1) := by decide +kernel
theorem dX4_init_16 : decode cX4_init 16 = .ok (.iload_n 2, 1) := by decide +kernel
theorem dX4_init_17 : decode cX4_init 17 = .ok (.iload_n 3, 1) := by decide +kernel
theorem dX4_init_18 : decode cX4_init 18 = .ok (.iload 4, 2) := by decide +kernel
theorem dX4_init_20 : decode cX4_init 20 = .ok (.invokespecial 17, 3) := by decide +kernel
theorem dX4_init_23 : decode cX4_init 23 = .ok (.putfield 20, 3) := by decide +kernel
theorem dX4_init_26 : decode cX4_init 26 = .ok (.aload_n 0, 1) := by decide +kernel
theorem dX4_init_27 : decode cX4_init 27 = .ok (.new 24, 3) := by decide +kernel
theorem dX4_init_30 : decode cX4_init 30 = .ok (.dup, 1) := by decide +kernel
theorem dX4_init_31 : decode cX4_init 31 = .ok (.invokespecial 26, 3) := by decide +kernel
theorem dX4_init_34 : decode cX4_init 34 = .ok (.putfield 27, 3) := by decide +kernel
theorem dX4_init_37 : decode cX4_init 37 = .ok (.aload_n 0, 1) := by decide +kernel
theorem dX4_init_38 : decode cX4_init 38 = .ok (.aload_n 1, 1) := by decide +kernel
theorem dX4_init_39 : decode cX4_init 39 = .ok (.arraylength, 1) := by decide +kernel
theorem dX4_init_40 : decode cX4_init 40 = .ok (.anewarray 31, 3) := by decide +kernel
theorem dX4_init_43 : decode cX4_init 43 = .ok (.putfield 33, 3) := by decide +kernel
theorem dX4_init_46 : decode cX4_init 46 = .ok (.aload_n 0, 1) := by decide +kernel
theorem dX4_init_47 : decode cX4_init 47 = .ok (.iconst 0, 1) := by decide +kernel
theorem dX4_init_48 : decode cX4_init 48 = .ok (.putfield 37, 3) := by decide +kernel
theorem dX4_init_51 : decode cX4_init 51 = .ok (.aload_n 0, 1) := by decide +kernel
theorem dX4_init_52 : decode cX4_init 52 = .ok (.iconst (-1), 1) := by decide +kernel
theorem dX4_init_53 : decode cX4_init 53 = .ok (.putfield 41, 3) := by decide +kernel
theorem dX4_init_56 : decode cX4_init 56 = .ok (.aload_n 0, 1) := by decide +kernel
theorem dX4_init_57 : decode cX4_init 57 = .ok (.iconst (-1), 1) := by decide +kernel
theorem dX4_init_58 : decode cX4_init 58 = .ok (.putfield 44, 3) := by decide +kernel
theorem dX4_init_61 : decode cX4_init 61 = .ok (.aload_n 0, 1) := by decide +kernel
theorem dX4_init_62 : decode cX4_init 62 = .ok (.lconst 0, 1) := by decide +kernel
theorem dX4_init_63 : decode cX4_init 63 = .ok (.putfield 47, 3) := by decide +kernel
theorem dX4_init_66 : decode cX4_init 66 = .ok (.aload_n 0, 1) := by decide +kernel
theorem dX4_init_67 : decode cX4_init 67 = .ok (.lconst 1, 1) := by decide +kernel
theorem dX4_init_68 : decode cX4_init 68 = .ok (.putfield 51, 3) := by decide +kernel
theorem dX4_init_71 : decode cX4_init 71 = .ok (.return_, 1) := by decide +kernel
theorem dX4_gathered_0 : decode cX4_gathered 0 = .ok (.iconst 0, 1) := by decide +kernel
theorem dX4_gathered_1 : decode cX4_gathered 1 = .ok (.istore_n 1, 1) := by decide +kernel
theorem dX4_gathered_2 : decode cX4_gathered 2 = .ok (.iload_n 1, 1) := by decide +kernel
theorem dX4_gathered_3 : decode cX4_gathered 3 = .ok (.aload_n 0, 1) := by decide +kernel
theorem dX4_gathered_4 : decode cX4_gathered 4 = .ok (.getfield 9, 3) := by decide +kernel
theorem dX4_gathered_7 : decode cX4_gathered 7 = .ok (.arraylength, 1) := by decide +kernel
theorem dX4_gathered_8 : decode cX4_gathered 8 = .ok (.if_icmp .ge 33, 3) := by decide +kernel
theorem dX4_gathered_11 : decode cX4_gathered 11 = .ok (.aload_n 0, 1) := by decide +kernel
theorem dX4_gathered_12 : decode cX4_gathered 12 = .ok (.new 31, 3) := by decide +kernel
theorem dX4_gathered_15 : decode cX4_gathered 15 = .ok (.dup, 1) := by decide +kernel
theorem dX4_gathered_16 : decode cX4_gathered 16 = .ok (.aload_n 0, 1) := by decide +kernel
theorem dX4_gathered_17 : decode cX4_gathered 17 = .ok (.getfield 9, 3) := by decide +kernel
theorem dX4_gathered_20 : decode cX4_gathered 20 = .ok (.iload_n 1, 1) := by decide +kernel
theorem dX4_gathered_21 : decode cX4_gathered 21 = .ok (.aaload, 1) := by decide +kernel
theorem dX4_gathered_22 : decode cX4_gathered 22 = .ok (.iload_n 1, 1) := by decide +kernel
theorem dX4_gathered_23 : decode cX4_gathered 23 = .ok (.invokestatic 54, 3) := by decide +kernel
theorem dX4_gathered_26 : decode cX4_gathered 26 = .ok (.aconst_null, 1) := by decide +kernel
theorem dX4_gathered_27 : decode cX4_gathered 27 = .ok (.aconst_null, 1) := by decide +kernel
theorem dX4_gathered_28 : decode cX4_gathered 28 = .ok (.iconst (-1), 1) := by decide +kernel
theorem dX4_gathered_29 : decode cX4_gathered 29 = .ok (.invokespecial 58, 3) := by decide +kernel
theorem dX4_gathered_32 : decode cX4_gathered 32 = .ok (.invokevirtual 61, 3) := by decide +kernel
theorem dX4_gathered_35 : decode cX4_gathered 35 = .ok (.iinc 1 1, 3) := by decide +kernel
theorem dX4_gathered_38 : decode cX4_gathered 38 = .ok (.goto (-36), 3) := by decide +kernel
theorem dX4_gathered_41 : decode cX4_gathered 41 = .ok (.iconst 0, 1) := by decide +kernel
theorem dX4_gathered_42 : decode cX4_gathered 42 = .ok (.istore_n 1, 1) := by decide +kernel
theorem dX4_gathered_43 : decode cX4_gathered 43 = .ok (.iload_n 1, 1) := by decide +kernel
theorem dX4_gathered_44 : decode cX4_gathered 44 = .ok (.aload_n 0, 1) := by decide +kernel
theorem dX4_gathered_45 : decode cX4_gathered 45 = .ok (.getfield 9, 3) := by decide +kernel
theorem dX4_gathered_48 : decode cX4_gathered 48 = .ok (.arraylength, 1) := by decide +kernel
theorem dX4_gathered_49 : decode cX4_gathered 49 = .ok (.if_icmp .ge 52, 3) := by decide +kernel
theorem dX4_gathered_52 : decode cX4_gathered 52 = .ok (.aload_n 0, 1) := by decide +kernel
theorem dX4_gathered_53 : decode cX4_gathered 53 = .ok (.getfield 37, 3) := by decide +kernel
theorem dX4_gathered_56 : decode cX4_gathered 56 = .ok (.ifCond .le 45, 3) := by decide +kernel
theorem dX4_gathered_59 : decode cX4_gathered 59 = .ok (.aload_n 0, 1) := by decide +kernel
theorem dX4_gathered_60 : decode cX4_gathered 60 = .ok (.invokevirtual 65, 3) := by decide +kernel
theorem dX4_gathered_63 : decode cX4_gathered 63 = .ok (.aload_n 0, 1) := by decide +kernel
theorem dX4_gathered_64 : decode cX4_gathered 64 = .ok (.getfield 41, 3) := by decide +kernel
theorem dX4_gathered_67 : decode cX4_gathered 67 = .ok (.iconst (-1), 1) := by decide +kernel
theorem dX4_gathered_68 : decode cX4_gathered 68 = .ok (.if_icmp .ne 6, 3) := by decide +kernel
theorem dX4_gathered_71 : decode cX4_gathered 71 = .ok (.goto 30, 3) := by decide +kernel
theorem dX4_gathered_74 : decode cX4_gathered 74 = .ok (.aload_n 0, 1) := by decide +kernel
theorem dX4_gathered_75 : decode cX4_gathered 75 = .ok (.getfield 44, 3) := by decide +kernel
theorem dX4_gathered_78 : decode cX4_gathered 78 = .ok (.iconst (-1), 1) := by decide +kernel
theorem dX4_gathered_79 : decode cX4_gathered 79 = .ok (.if_icmp .ne 11, 3) := by decide +kernel
theorem dX4_gathered_82 : decode cX4_gathered 82 = .ok (.aload_n 0, 1) := by decide +kernel
theorem dX4_gathered_83 : decode cX4_gathered 83 = .ok (.iload_n 1, 1) := by decide +kernel
theorem dX4_gathered_84 : decode cX4_gathered 84 = .ok (.invokevirtual 68, 3) := by decide +kernel
theorem dX4_gathered_87 : decode cX4_gathered 87 = .ok (.goto 8, 3) := by decide +kernel
theorem dX4_gathered_90 : decode cX4_gathered 90 = .ok (.aload_n 0, 1) := by decide +kernel
theorem dX4_gathered_91 : decode cX4_gathered 91 = .ok (.iload_n 1, 1) := by decide +kernel
theorem dX4_gathered_92 : decode cX4_gathered 92 = .ok (.invokevirtual 72, 3) := by decide +kernel
theorem dX4_gathered_95 : decode cX4_gathered 95 = .ok (.iinc 1 1, 3) := by decide +kernel
theorem dX4_gathered_98 : decode cX4_gathered 98 = .ok (.goto (-55), 3) := by decide +kernel
theorem dX4_gathered_101 : decode cX4_gathered 101 = .ok (.aload_n 0, 1) := by decide +kernel
theorem dX4_gathered_102 : decode cX4_gathered 102 = .ok (.getfield 20, 3) := by decide +kernel
theorem dX4_gathered_105 : decode cX4_gathered 105 = .ok (.areturn, 1) := by decide +kernel
theorem dX4_putIn_0 : decode cX4_putIn 0 = .ok (.aload_n 0, 1) := by decide +kernel
theorem dX4_putIn_1 : decode cX4_putIn 1 = .ok (.getfield 20, 3) := by decide +kernel
theorem dX4_putIn_4 : decode cX4_putIn 4 = .ok (.aload_n 1, 1) := by decide +kernel
theorem dX4_putIn_5 : decode cX4_putIn 5 = .ok (.invokevirtual 75, 3) := by decide +kernel
theorem dX4_putIn_8 : decode cX4_putIn 8 = .ok (.aload_n 0, 1) := by decide +kernel
theorem dX4_putIn_9 : decode cX4_putIn 9 = .ok (.getfield 37, 3) := by decide +kernel
theorem dX4_putIn_12 : decode cX4_putIn 12 = .ok (.aload_n 0, 1) := by decide +kernel
theorem dX4_putIn_13 : decode cX4_putIn 13 = .ok (.getfield 33, 3) := by decide +kernel
theorem dX4_putIn_16 : decode cX4_putIn 16 = .ok (.arraylength, 1) := by decide +kernel
theorem dX4_putIn_17 : decode cX4_putIn 17 = .ok (.if_icmp .lt 4, 3) := by decide +kernel
theorem dX4_putIn_20 : decode cX4_putIn 20 = .ok (.return_, 1) := by decide +kernel
theorem dX4_putIn_21 : decode cX4_putIn 21 = .ok (.aload_n 0, 1) := by decide +kernel
theorem dX4_putIn_22 : decode cX4_putIn 22 = .ok (.getfield 37, 3) := by decide +kernel
theorem dX4_putIn_25 : decode cX4_putIn 25 = .ok (.istore_n 2, 1) := by decide +kernel
theorem dX4_putIn_26 : decode cX4_putIn 26 = .ok (.aload_n 0, 1) := by decide +kernel
theorem dX4_putIn_27 : decode cX4_putIn 27 = .ok (.getfield 37, 3) := by decide +kernel
theorem dX4_putIn_30 : decode cX4_putIn 30 = .ok (.istore_n 3, 1) := by decide +kernel
theorem dX4_putIn_31 : decode cX4_putIn 31 = .ok (.iload_n 3, 1) := by decide +kernel
theorem dX4_putIn_32 : decode cX4_putIn 32 = .ok (.ifCond .le 48, 3) := by decide +kernel
theorem dX4_putIn_35 : decode cX4_putIn 35 = .ok (.aload_n 1, 1) := by decide +kernel
theorem dX4_putIn_36 : decode cX4_putIn 36 = .ok (.getfield 78, 3) := by decide +kernel
theorem dX4_putIn_39 : decode cX4_putIn 39 = .ok (.aload_n 0, 1) := by decide +kernel
theorem dX4_putIn_40 : decode cX4_putIn 40 = .ok (.getfield 33, 3) := by decide +kernel
theorem dX4_putIn_43 : decode cX4_putIn 43 = .ok (.iload_n 3, 1) := by decide +kernel
theorem dX4_putIn_44 : decode cX4_putIn 44 = .ok (.iconst 1, 1) := by decide +kernel
theorem dX4_putIn_45 : decode cX4_putIn 45 = .ok (.isub, 1) := by decide +kernel
theorem dX4_putIn_46 : decode cX4_putIn 46 = .ok (.aaload, 1) := by decide +kernel
theorem dX4_putIn_47 : decode cX4_putIn 47 = .ok (.getfield 78, 3) := by decide +kernel
theorem dX4_putIn_50 : decode cX4_putIn 50 = .ok (.invokevirtual 82, 3) := by decide +kernel
theorem dX4_putIn_53 : decode cX4_putIn 53 = .ok (.ifCond .eq 27, 3) := by decide +kernel
theorem dX4_putIn_56 : decode cX4_putIn 56 = .ok (.aload_n 0, 1) := by decide +kernel
theorem dX4_putIn_57 : decode cX4_putIn 57 = .ok (.getfield 33, 3) := by decide +kernel
theorem dX4_putIn_60 : decode cX4_putIn 60 = .ok (.iload_n 3, 1) := by decide +kernel
theorem dX4_putIn_61 : decode cX4_putIn 61 = .ok (.aload_n 0, 1) := by decide +kernel
theorem dX4_putIn_62 : decode cX4_putIn 62 = .ok (.getfield 33, 3) := by decide +kernel
theorem dX4_putIn_65 : decode cX4_putIn 65 = .ok (.iload_n 3, 1) := by decide +kernel
theorem dX4_putIn_66 : decode cX4_putIn 66 = .ok (.iconst 1, 1) := by decide +kernel
theorem dX4_putIn_67 : decode cX4_putIn 67 = .ok (.isub, 1) := by decide +kernel
theorem dX4_putIn_68 : decode cX4_putIn 68 = .ok (.aaload, 1) := by decide +kernel
theorem dX4_putIn_69 : decode cX4_putIn 69 = .ok (.aastore, 1) := by decide +kernel
theorem dX4_putIn_70 : decode cX4_putIn 70 = .ok (.iload_n 3, 1) := by decide +kernel
theorem dX4_putIn_71 : decode cX4_putIn 71 = .ok (.iconst 1, 1) := by decide +kernel
theorem dX4_putIn_72 : decode cX4_putIn 72 = .ok (.isub, 1) := by decide +kernel
theorem dX4_putIn_73 : decode cX4_putIn 73 = .ok (.istore_n 2, 1) := by decide +kernel
theorem dX4_putIn_74 : decode cX4_putIn 74 = .ok (.iinc 3 (-1), 3) := by decide +kernel
theorem dX4_putIn_77 : decode cX4_putIn 77 = .ok (.goto (-46), 3) := by decide +kernel
theorem dX4_putIn_80 : decode cX4_putIn 80 = .ok (.aload_n 0, 1) := by decide +kernel
theorem dX4_putIn_81 : decode cX4_putIn 81 = .ok (.getfield 33, 3) := by decide +kernel
theorem dX4_putIn_84 : decode cX4_putIn 84 = .ok (.iload_n 2, 1) := by decide +kernel
theorem dX4_putIn_85 : decode cX4_putIn 85 = .ok (.aload_n 1, 1) := by decide +kernel
theorem dX4_putIn_86 : decode cX4_putIn 86 = .ok (.aastore, 1) := by decide +kernel
theorem dX4_putIn_87 : decode cX4_putIn 87 = .ok (.aload_n 0, 1) := by decide +kernel
theorem dX4_putIn_88 : decode cX4_putIn 88 = .ok (.dup, 1) := by decide +kernel
theorem dX4_putIn_89 : decode cX4_putIn 89 = .ok (.getfield 37, 3) := by decide +kernel
theorem dX4_putIn_92 : decode cX4_putIn 92 = .ok (.iconst 1, 1) := by decide +kernel
theorem dX4_putIn_93 : decode cX4_putIn 93 = .ok (.iadd, 1) := by decide +kernel
theorem dX4_putIn_94 : decode cX4_putIn 94 = .ok (.putfield 37, 3) := by decide +kernel
theorem dX4_putIn_97 : decode cX4_putIn 97 = .ok (.return_, 1) := by decide +kernel
theorem dX4_takeOut_0 : decode cX4_takeOut 0 = .ok (.iload_n 1, 1) := by decide +kernel
theorem dX4_takeOut_1 : decode cX4_takeOut 1 = .ok (.istore_n 2, 1) := by decide +kernel
theorem dX4_takeOut_2 : decode cX4_takeOut 2 = .ok (.iload_n 2, 1) := by decide +kernel
theorem dX4_takeOut_3 : decode cX4_takeOut 3 = .ok (.iconst 1, 1) := by decide +kernel
theorem dX4_takeOut_4 : decode cX4_takeOut 4 = .ok (.iadd, 1) := by decide +kernel
theorem dX4_takeOut_5 : decode cX4_takeOut 5 = .ok (.aload_n 0, 1) := by decide +kernel
theorem dX4_takeOut_6 : decode cX4_takeOut 6 = .ok (.getfield 37, 3) := by decide +kernel
theorem dX4_takeOut_9 : decode cX4_takeOut 9 = .ok (.if_icmp .ge 23, 3) := by decide +kernel
theorem dX4_takeOut_12 : decode cX4_takeOut 12 = .ok (.aload_n 0, 1) := by decide +kernel
theorem dX4_takeOut_13 : decode cX4_takeOut 13 = .ok (.getfield 33, 3) := by decide +kernel
theorem dX4_takeOut_16 : decode cX4_takeOut 16 = .ok (.iload_n 2, 1) := by decide +kernel
theorem dX4_takeOut_17 : decode cX4_takeOut 17 = .ok (.aload_n 0, 1) := by decide +kernel
theorem dX4_takeOut_18 : decode cX4_takeOut 18 = .ok (.getfield 33, 3) := by decide +kernel
theorem dX4_takeOut_21 : decode cX4_takeOut 21 = .ok (.iload_n 2, 1) := by decide +kernel
theorem dX4_takeOut_22 : decode cX4_takeOut 22 = .ok (.iconst 1, 1) := by decide +kernel
theorem dX4_takeOut_23 : decode cX4_takeOut 23 = .ok (.iadd, 1) := by decide +kernel
theorem dX4_takeOut_24 : decode cX4_takeOut 24 = .ok (.aaload, 1) := by decide +kernel
theorem dX4_takeOut_25 : decode cX4_takeOut 25 = .ok (.aastore, 1) := by decide +kernel
theorem dX4_takeOut_26 : decode cX4_takeOut 26 = .ok (.iinc 2 1, 3) := by decide +kernel
theorem dX4_takeOut_29 : decode cX4_takeOut 29 = .ok (.goto (-27), 3) := by decide +kernel
theorem dX4_takeOut_32 : decode cX4_takeOut 32 = .ok (.aload_n 0, 1) := by decide +kernel
theorem dX4_takeOut_33 : decode cX4_takeOut 33 = .ok (.dup, 1) := by decide +kernel
theorem dX4_takeOut_34 : decode cX4_takeOut 34 = .ok (.getfield 37, 3) := by decide +kernel
theorem dX4_takeOut_37 : decode cX4_takeOut 37 = .ok (.iconst 1, 1) := by decide +kernel
theorem dX4_takeOut_38 : decode cX4_takeOut 38 = .ok (.isub, 1) := by decide +kernel
theorem dX4_takeOut_39 : decode cX4_takeOut 39 = .ok (.putfield 37, 3) := by decide +kernel
theorem dX4_takeOut_42 : decode cX4_takeOut 42 = .ok (.aload_n 0, 1) := by decide +kernel
theorem dX4_takeOut_43 : decode cX4_takeOut 43 = .ok (.getfield 33, 3) := by decide +kernel
theorem dX4_takeOut_46 : decode cX4_takeOut 46 = .ok (.aload_n 0, 1) := by decide +kernel
theorem dX4_takeOut_47 : decode cX4_takeOut 47 = .ok (.getfield 37, 3) := by decide +kernel
theorem dX4_takeOut_50 : decode cX4_takeOut 50 = .ok (.aconst_null, 1) := by decide +kernel
theorem dX4_takeOut_51 : decode cX4_takeOut 51 = .ok (.aastore, 1) := by decide +kernel
theorem dX4_takeOut_52 : decode cX4_takeOut 52 = .ok (.return_, 1) := by decide +kernel
theorem dX4_findLeast_0 : decode cX4_findLeast 0 = .ok (.aload_n 0, 1) := by decide +kernel
theorem dX4_findLeast_1 : decode cX4_findLeast 1 = .ok (.iconst (-1), 1) := by decide +kernel
theorem dX4_findLeast_2 : decode cX4_findLeast 2 = .ok (.putfield 41, 3) := by decide +kernel
theorem dX4_findLeast_5 : decode cX4_findLeast 5 = .ok (.aload_n 0, 1) := by decide +kernel
theorem dX4_findLeast_6 : decode cX4_findLeast 6 = .ok (.iconst (-1), 1) := by decide +kernel
theorem dX4_findLeast_7 : decode cX4_findLeast 7 = .ok (.putfield 44, 3) := by decide +kernel
theorem dX4_findLeast_10 : decode cX4_findLeast 10 = .ok (.iconst 0, 1) := by decide +kernel
theorem dX4_findLeast_11 : decode cX4_findLeast 11 = .ok (.istore_n 1, 1) := by decide +kernel
theorem dX4_findLeast_12 : decode cX4_findLeast 12 = .ok (.iload_n 1, 1) := by decide +kernel
theorem dX4_findLeast_13 : decode cX4_findLeast 13 = .ok (.aload_n 0, 1) := by decide +kernel
theorem dX4_findLeast_14 : decode cX4_findLeast 14 = .ok (.getfield 37, 3) := by decide +kernel
theorem dX4_findLeast_17 : decode cX4_findLeast 17 = .ok (.if_icmp .ge 14, 3) := by decide +kernel
theorem dX4_findLeast_20 : decode cX4_findLeast 20 = .ok (.aload_n 0, 1) := by decide +kernel
theorem dX4_findLeast_21 : decode cX4_findLeast 21 = .ok (.iload_n 1, 1) := by decide +kernel
theorem dX4_findLeast_22 : decode cX4_findLeast 22 = .ok (.invokevirtual 88, 3) := by decide +kernel
theorem dX4_findLeast_25 : decode cX4_findLeast 25 = .ok (.iinc 1 1, 3) := by decide +kernel
theorem dX4_findLeast_28 : decode cX4_findLeast 28 = .ok (.goto (-16), 3) := by decide +kernel
theorem dX4_findLeast_31 : decode cX4_findLeast 31 = .ok (.iconst 0, 1) := by decide +kernel
theorem dX4_findLeast_32 : decode cX4_findLeast 32 = .ok (.istore_n 1, 1) := by decide +kernel
theorem dX4_findLeast_33 : decode cX4_findLeast 33 = .ok (.iload_n 1, 1) := by decide +kernel
theorem dX4_findLeast_34 : decode cX4_findLeast 34 = .ok (.aload_n 0, 1) := by decide +kernel
theorem dX4_findLeast_35 : decode cX4_findLeast 35 = .ok (.getfield 37, 3) := by decide +kernel
theorem dX4_findLeast_38 : decode cX4_findLeast 38 = .ok (.if_icmp .ge 33, 3) := by decide +kernel
theorem dX4_findLeast_41 : decode cX4_findLeast 41 = .ok (.iload_n 1, 1) := by decide +kernel
theorem dX4_findLeast_42 : decode cX4_findLeast 42 = .ok (.iconst 1, 1) := by decide +kernel
theorem dX4_findLeast_43 : decode cX4_findLeast 43 = .ok (.iadd, 1) := by decide +kernel
theorem dX4_findLeast_44 : decode cX4_findLeast 44 = .ok (.istore_n 2, 1) := by decide +kernel
theorem dX4_findLeast_45 : decode cX4_findLeast 45 = .ok (.iload_n 2, 1) := by decide +kernel
theorem dX4_findLeast_46 : decode cX4_findLeast 46 = .ok (.aload_n 0, 1) := by decide +kernel
theorem dX4_findLeast_47 : decode cX4_findLeast 47 = .ok (.getfield 37, 3) := by decide +kernel
theorem dX4_findLeast_50 : decode cX4_findLeast 50 = .ok (.if_icmp .ge 15, 3) := by decide +kernel
theorem dX4_findLeast_53 : decode cX4_findLeast 53 = .ok (.aload_n 0, 1) := by decide +kernel
theorem dX4_findLeast_54 : decode cX4_findLeast 54 = .ok (.iload_n 1, 1) := by decide +kernel
theorem dX4_findLeast_55 : decode cX4_findLeast 55 = .ok (.iload_n 2, 1) := by decide +kernel
theorem dX4_findLeast_56 : decode cX4_findLeast 56 = .ok (.invokevirtual 91, 3) := by decide +kernel
theorem dX4_findLeast_59 : decode cX4_findLeast 59 = .ok (.iinc 2 1, 3) := by decide +kernel
theorem dX4_findLeast_62 : decode cX4_findLeast 62 = .ok (.goto (-17), 3) := by decide +kernel
theorem dX4_findLeast_65 : decode cX4_findLeast 65 = .ok (.iinc 1 1, 3) := by decide +kernel
theorem dX4_findLeast_68 : decode cX4_findLeast 68 = .ok (.goto (-35), 3) := by decide +kernel
theorem dX4_findLeast_71 : decode cX4_findLeast 71 = .ok (.return_, 1) := by decide +kernel
theorem dX4_offerAlone_0 : decode cX4_offerAlone 0 = .ok (.aload_n 0, 1) := by decide +kernel
theorem dX4_offerAlone_1 : decode cX4_offerAlone 1 = .ok (.getfield 33, 3) := by decide +kernel
theorem dX4_offerAlone_4 : decode cX4_offerAlone 4 = .ok (.iload_n 1, 1) := by decide +kernel
theorem dX4_offerAlone_5 : decode cX4_offerAlone 5 = .ok (.aaload, 1) := by decide +kernel
theorem dX4_offerAlone_6 : decode cX4_offerAlone 6 = .ok (.getfield 78, 3) := by decide +kernel
theorem dX4_offerAlone_9 : decode cX4_offerAlone 9 = .ok (.getfield 95, 3) := by decide +kernel
theorem dX4_offerAlone_12 : decode cX4_offerAlone 12 = .ok (.i2l, 1) := by decide +kernel
theorem dX4_offerAlone_13 : decode cX4_offerAlone 13 = .ok (.lstore_n 2, 1) := by decide +kernel
theorem dX4_offerAlone_14 : decode cX4_offerAlone 14 = .ok (.aload_n 0, 1) := by decide +kernel
theorem dX4_offerAlone_15 : decode cX4_offerAlone 15 = .ok (.iload_n 1, 1) := by decide +kernel
theorem dX4_offerAlone_16 : decode cX4_offerAlone 16 = .ok (.iconst (-1), 1) := by decide +kernel
theorem dX4_offerAlone_17 : decode cX4_offerAlone 17 = .ok (.aload_n 0, 1) := by decide +kernel
theorem dX4_offerAlone_18 : decode cX4_offerAlone 18 = .ok (.getfield 20, 3) := by decide +kernel
theorem dX4_offerAlone_21 : decode cX4_offerAlone 21 = .ok (.getfield 98, 3) := by decide +kernel
theorem dX4_offerAlone_24 : decode cX4_offerAlone 24 = .ok (.i2l, 1) := by decide +kernel
theorem dX4_offerAlone_25 : decode cX4_offerAlone 25 = .ok (.aload_n 0, 1) := by decide +kernel
theorem dX4_offerAlone_26 : decode cX4_offerAlone 26 = .ok (.getfield 20, 3) := by decide +kernel
theorem dX4_offerAlone_29 : decode cX4_offerAlone 29 = .ok (.getfield 98, 3) := by decide +kernel
theorem dX4_offerAlone_32 : decode cX4_offerAlone 32 = .ok (.i2l, 1) := by decide +kernel
theorem dX4_offerAlone_33 : decode cX4_offerAlone 33 = .ok (.lmul, 1) := by decide +kernel
theorem dX4_offerAlone_34 : decode cX4_offerAlone 34 = .ok (.lload_n 2, 1) := by decide +kernel
theorem dX4_offerAlone_35 : decode cX4_offerAlone 35 = .ok (.lload_n 2, 1) := by decide +kernel
theorem dX4_offerAlone_36 : decode cX4_offerAlone 36 = .ok (.lmul, 1) := by decide +kernel
theorem dX4_offerAlone_37 : decode cX4_offerAlone 37 = .ok (.invokevirtual 101, 3) := by decide +kernel
theorem dX4_offerAlone_40 : decode cX4_offerAlone 40 = .ok (.return_, 1) := by decide +kernel
theorem dX4_offerTwo_0 : decode cX4_offerTwo 0 = .ok (.aload_n 0, 1) := by decide +kernel
theorem dX4_offerTwo_1 : decode cX4_offerTwo 1 = .ok (.getfield 33, 3) := by decide +kernel
theorem dX4_offerTwo_4 : decode cX4_offerTwo 4 = .ok (.iload_n 1, 1) := by decide +kernel
theorem dX4_offerTwo_5 : decode cX4_offerTwo 5 = .ok (.aaload, 1) := by decide +kernel
theorem dX4_offerTwo_6 : decode cX4_offerTwo 6 = .ok (.getfield 78, 3) := by decide +kernel
theorem dX4_offerTwo_9 : decode cX4_offerTwo 9 = .ok (.astore_n 3, 1) := by decide +kernel
theorem dX4_offerTwo_10 : decode cX4_offerTwo 10 = .ok (.aload_n 0, 1) := by decide +kernel
theorem dX4_offerTwo_11 : decode cX4_offerTwo 11 = .ok (.getfield 33, 3) := by decide +kernel
theorem dX4_offerTwo_14 : decode cX4_offerTwo 14 = .ok (.iload_n 2, 1) := by decide +kernel
theorem dX4_offerTwo_15 : decode cX4_offerTwo 15 = .ok (.aaload, 1) := by decide +kernel
theorem dX4_offerTwo_16 : decode cX4_offerTwo 16 = .ok (.getfield 78, 3) := by decide +kernel
theorem dX4_offerTwo_19 : decode cX4_offerTwo 19 = .ok (.astore 4, 2) := by decide +kernel
theorem dX4_offerTwo_21 : decode cX4_offerTwo 21 = .ok (.aload_n 0, 1) := by decide +kernel
theorem dX4_offerTwo_22 : decode cX4_offerTwo 22 = .ok (.getfield 20, 3) := by decide +kernel
theorem dX4_offerTwo_25 : decode cX4_offerTwo 25 = .ok (.getfield 105, 3) := by decide +kernel
theorem dX4_offerTwo_28 : decode cX4_offerTwo 28 = .ok (.ifCond .le 19, 3) := by decide +kernel
theorem dX4_offerTwo_31 : decode cX4_offerTwo 31 = .ok (.aload_n 3, 1) := by decide +kernel
theorem dX4_offerTwo_32 : decode cX4_offerTwo 32 = .ok (.getfield 95, 3) := by decide +kernel
theorem dX4_offerTwo_35 : decode cX4_offerTwo 35 = .ok (.aload 4, 2) := by decide +kernel
theorem dX4_offerTwo_37 : decode cX4_offerTwo 37 = .ok (.getfield 95, 3) := by decide +kernel
theorem dX4_offerTwo_40 : decode cX4_offerTwo 40 = .ok (.invokestatic 108, 3) := by decide +kernel
theorem dX4_offerTwo_43 : decode cX4_offerTwo 43 = .ok (.i2l, 1) := by decide +kernel
theorem dX4_offerTwo_44 : decode cX4_offerTwo 44 = .ok (.goto 16, 3) := by decide +kernel
theorem dX4_offerTwo_47 : decode cX4_offerTwo 47 = .ok (.aload_n 3, 1) := by decide +kernel
theorem dX4_offerTwo_48 : decode cX4_offerTwo 48 = .ok (.getfield 95, 3) := by decide +kernel
theorem dX4_offerTwo_51 : decode cX4_offerTwo 51 = .ok (.aload 4, 2) := by decide +kernel
theorem dX4_offerTwo_53 : decode cX4_offerTwo 53 = .ok (.getfield 95, 3) := by decide +kernel
theorem dX4_offerTwo_56 : decode cX4_offerTwo 56 = .ok (.invokestatic 114, 3) := by decide +kernel
theorem dX4_offerTwo_59 : decode cX4_offerTwo 59 = .ok (.i2l, 1) := by decide +kernel
theorem dX4_offerTwo_60 : decode cX4_offerTwo 60 = .ok (.lstore 5, 2) := by decide +kernel
theorem dX4_offerTwo_62 : decode cX4_offerTwo 62 = .ok (.aload_n 0, 1) := by decide +kernel
theorem dX4_offerTwo_63 : decode cX4_offerTwo 63 = .ok (.iload_n 1, 1) := by decide +kernel
theorem dX4_offerTwo_64 : decode cX4_offerTwo 64 = .ok (.iload_n 2, 1) := by decide +kernel
theorem dX4_offerTwo_65 : decode cX4_offerTwo 65 = .ok (.aload_n 3, 1) := by decide +kernel
theorem dX4_offerTwo_66 : decode cX4_offerTwo 66 = .ok (.aload 4, 2) := by decide +kernel
theorem dX4_offerTwo_68 : decode cX4_offerTwo 68 = .ok (.invokevirtual 117, 3) := by decide +kernel
theorem dX4_offerTwo_71 : decode cX4_offerTwo 71 = .ok (.i2l, 1) := by decide +kernel
theorem dX4_offerTwo_72 : decode cX4_offerTwo 72 = .ok (.lload 5, 2) := by decide +kernel
theorem dX4_offerTwo_74 : decode cX4_offerTwo 74 = .ok (.lload 5, 2) := by decide +kernel
theorem dX4_offerTwo_76 : decode cX4_offerTwo 76 = .ok (.lmul, 1) := by decide +kernel
theorem dX4_offerTwo_77 : decode cX4_offerTwo 77 = .ok (.invokevirtual 101, 3) := by decide +kernel
theorem dX4_offerTwo_80 : decode cX4_offerTwo 80 = .ok (.return_, 1) := by decide +kernel
theorem dX4_offer_0 : decode cX4_offer 0 = .ok (.aload_n 0, 1) := by decide +kernel
theorem dX4_offer_1 : decode cX4_offer 1 = .ok (.getfield 20, 3) := by decide +kernel
theorem dX4_offer_4 : decode cX4_offer 4 = .ok (.getfield 105, 3) := by decide +kernel
theorem dX4_offer_7 : decode cX4_offer 7 = .ok (.ifCond .le 10, 3) := by decide +kernel
theorem dX4_offer_10 : decode cX4_offer 10 = .ok (.lload_n 3, 1) := by decide +kernel
theorem dX4_offer_11 : decode cX4_offer 11 = .ok (.lload 5, 2) := by decide +kernel
theorem dX4_offer_13 : decode cX4_offer 13 = .ok (.lmul, 1) := by decide +kernel
theorem dX4_offer_14 : decode cX4_offer 14 = .ok (.goto 4, 3) := by decide +kernel
theorem dX4_offer_17 : decode cX4_offer 17 = .ok (.lload_n 3, 1) := by decide +kernel
theorem dX4_offer_18 : decode cX4_offer 18 = .ok (.lstore 7, 2) := by decide +kernel
theorem dX4_offer_20 : decode cX4_offer 20 = .ok (.aload_n 0, 1) := by decide +kernel
theorem dX4_offer_21 : decode cX4_offer 21 = .ok (.getfield 20, 3) := by decide +kernel
theorem dX4_offer_24 : decode cX4_offer 24 = .ok (.getfield 105, 3) := by decide +kernel
theorem dX4_offer_27 : decode cX4_offer 27 = .ok (.ifCond .ge 8, 3) := by decide +kernel
theorem dX4_offer_30 : decode cX4_offer 30 = .ok (.lload 5, 2) := by decide +kernel
theorem dX4_offer_32 : decode cX4_offer 32 = .ok (.goto 4, 3) := by decide +kernel
theorem dX4_offer_35 : decode cX4_offer 35 = .ok (.lconst 1, 1) := by decide +kernel
theorem dX4_offer_36 : decode cX4_offer 36 = .ok (.lstore 9, 2) := by decide +kernel
theorem dX4_offer_38 : decode cX4_offer 38 = .ok (.aload_n 0, 1) := by decide +kernel
theorem dX4_offer_39 : decode cX4_offer 39 = .ok (.getfield 41, 3) := by decide +kernel
theorem dX4_offer_42 : decode cX4_offer 42 = .ok (.iconst (-1), 1) := by decide +kernel
theorem dX4_offer_43 : decode cX4_offer 43 = .ok (.if_icmp .eq 21, 3) := by decide +kernel
theorem dX4_offer_46 : decode cX4_offer 46 = .ok (.lload 7, 2) := by decide +kernel
theorem dX4_offer_48 : decode cX4_offer 48 = .ok (.aload_n 0, 1) := by decide +kernel
theorem dX4_offer_49 : decode cX4_offer 49 = .ok (.getfield 51, 3) := by decide +kernel
theorem dX4_offer_52 : decode cX4_offer 52 = .ok (.lmul, 1) := by decide +kernel
theorem dX4_offer_53 : decode cX4_offer 53 = .ok (.aload_n 0, 1) := by decide +kernel
theorem dX4_offer_54 : decode cX4_offer 54 = .ok (.getfield 47, 3) := by decide +kernel
theorem dX4_offer_57 : decode cX4_offer 57 = .ok (.lload 9, 2) := by decide +kernel
theorem dX4_offer_59 : decode cX4_offer 59 = .ok (.lmul, 1) := by decide +kernel
theorem dX4_offer_60 : decode cX4_offer 60 = .ok (.lcmp, 1) := by decide +kernel
theorem dX4_offer_61 : decode cX4_offer 61 = .ok (.ifCond .ge 25, 3) := by decide +kernel
theorem dX4_offer_64 : decode cX4_offer 64 = .ok (.aload_n 0, 1) := by decide +kernel
theorem dX4_offer_65 : decode cX4_offer 65 = .ok (.iload_n 1, 1) := by decide +kernel
theorem dX4_offer_66 : decode cX4_offer 66 = .ok (.putfield 41, 3) := by decide +kernel
theorem dX4_offer_69 : decode cX4_offer 69 = .ok (.aload_n 0, 1) := by decide +kernel
theorem dX4_offer_70 : decode cX4_offer 70 = .ok (.iload_n 2, 1) := by decide +kernel
theorem dX4_offer_71 : decode cX4_offer 71 = .ok (.putfield 44, 3) := by decide +kernel
theorem dX4_offer_74 : decode cX4_offer 74 = .ok (.aload_n 0, 1) := by decide +kernel
theorem dX4_offer_75 : decode cX4_offer 75 = .ok (.lload 7, 2) := by decide +kernel
theorem dX4_offer_77 : decode cX4_offer 77 = .ok (.putfield 47, 3) := by decide +kernel
theorem dX4_offer_80 : decode cX4_offer 80 = .ok (.aload_n 0, 1) := by decide +kernel
theorem dX4_offer_81 : decode cX4_offer 81 = .ok (.lload 9, 2) := by decide +kernel
theorem dX4_offer_83 : decode cX4_offer 83 = .ok (.putfield 51, 3) := by decide +kernel
theorem dX4_offer_86 : decode cX4_offer 86 = .ok (.return_, 1) := by decide +kernel
theorem dX4_goToBeam_0 : decode cX4_goToBeam 0 = .ok (.aload_n 0, 1) := by decide +kernel
theorem dX4_goToBeam_1 : decode cX4_goToBeam 1 = .ok (.getfield 33, 3) := by decide +kernel
theorem dX4_goToBeam_4 : decode cX4_goToBeam 4 = .ok (.aload_n 0, 1) := by decide +kernel
theorem dX4_goToBeam_5 : decode cX4_goToBeam 5 = .ok (.getfield 41, 3) := by decide +kernel
theorem dX4_goToBeam_8 : decode cX4_goToBeam 8 = .ok (.aaload, 1) := by decide +kernel
theorem dX4_goToBeam_9 : decode cX4_goToBeam 9 = .ok (.astore_n 2, 1) := by decide +kernel
theorem dX4_goToBeam_10 : decode cX4_goToBeam 10 = .ok (.aload_n 2, 1) := by decide +kernel
theorem dX4_goToBeam_11 : decode cX4_goToBeam 11 = .ok (.iload_n 1, 1) := by decide +kernel
theorem dX4_goToBeam_12 : decode cX4_goToBeam 12 = .ok (.putfield 121, 3) := by decide +kernel
theorem dX4_goToBeam_15 : decode cX4_goToBeam 15 = .ok (.aload_n 0, 1) := by decide +kernel
theorem dX4_goToBeam_16 : decode cX4_goToBeam 16 = .ok (.getfield 20, 3) := by decide +kernel
theorem dX4_goToBeam_19 : decode cX4_goToBeam 19 = .ok (.new 124, 3) := by decide +kernel
theorem dX4_goToBeam_22 : decode cX4_goToBeam 22 = .ok (.dup, 1) := by decide +kernel
theorem dX4_goToBeam_23 : decode cX4_goToBeam 23 = .ok (.aload_n 2, 1) := by decide +kernel
theorem dX4_goToBeam_24 : decode cX4_goToBeam 24 = .ok (.getfield 78, 3) := by decide +kernel
theorem dX4_goToBeam_27 : decode cX4_goToBeam 27 = .ok (.getfield 126, 3) := by decide +kernel
theorem dX4_goToBeam_30 : decode cX4_goToBeam 30 = .ok (.iconst (-1), 1) := by decide +kernel
theorem dX4_goToBeam_31 : decode cX4_goToBeam 31 = .ok (.iconst (-1), 1) := by decide +kernel
theorem dX4_goToBeam_32 : decode cX4_goToBeam 32 = .ok (.aload_n 0, 1) := by decide +kernel
theorem dX4_goToBeam_33 : decode cX4_goToBeam 33 = .ok (.getfield 47, 3) := by decide +kernel
theorem dX4_goToBeam_36 : decode cX4_goToBeam 36 = .ok (.aload_n 0, 1) := by decide +kernel
theorem dX4_goToBeam_37 : decode cX4_goToBeam 37 = .ok (.getfield 51, 3) := by decide +kernel
theorem dX4_goToBeam_40 : decode cX4_goToBeam 40 = .ok (.invokespecial 129, 3) := by decide +kernel
theorem dX4_goToBeam_43 : decode cX4_goToBeam 43 = .ok (.invokevirtual 132, 3) := by decide +kernel
theorem dX4_goToBeam_46 : decode cX4_goToBeam 46 = .ok (.aload_n 0, 1) := by decide +kernel
theorem dX4_goToBeam_47 : decode cX4_goToBeam 47 = .ok (.getfield 20, 3) := by decide +kernel
theorem dX4_goToBeam_50 : decode cX4_goToBeam 50 = .ok (.aload_n 2, 1) := by decide +kernel
theorem dX4_goToBeam_51 : decode cX4_goToBeam 51 = .ok (.invokevirtual 136, 3) := by decide +kernel
theorem dX4_goToBeam_54 : decode cX4_goToBeam 54 = .ok (.aload_n 0, 1) := by decide +kernel
theorem dX4_goToBeam_55 : decode cX4_goToBeam 55 = .ok (.aload_n 0, 1) := by decide +kernel
theorem dX4_goToBeam_56 : decode cX4_goToBeam 56 = .ok (.getfield 41, 3) := by decide +kernel
theorem dX4_goToBeam_59 : decode cX4_goToBeam 59 = .ok (.invokevirtual 139, 3) := by decide +kernel
theorem dX4_goToBeam_62 : decode cX4_goToBeam 62 = .ok (.return_, 1) := by decide +kernel
theorem dX4_joinBest_0 : decode cX4_joinBest 0 = .ok (.aload_n 0, 1) := by decide +kernel
theorem dX4_joinBest_1 : decode cX4_joinBest 1 = .ok (.getfield 33, 3) := by decide +kernel
theorem dX4_joinBest_4 : decode cX4_joinBest 4 = .ok (.aload_n 0, 1) := by decide +kernel
theorem dX4_joinBest_5 : decode cX4_joinBest 5 = .ok (.getfield 41, 3) := by decide +kernel
theorem dX4_joinBest_8 : decode cX4_joinBest 8 = .ok (.aaload, 1) := by decide +kernel
theorem dX4_joinBest_9 : decode cX4_joinBest 9 = .ok (.astore_n 2, 1) := by decide +kernel
theorem dX4_joinBest_10 : decode cX4_joinBest 10 = .ok (.aload_n 0, 1) := by decide +kernel
theorem dX4_joinBest_11 : decode cX4_joinBest 11 = .ok (.getfield 33, 3) := by decide +kernel
theorem dX4_joinBest_14 : decode cX4_joinBest 14 = .ok (.aload_n 0, 1) := by decide +kernel
theorem dX4_joinBest_15 : decode cX4_joinBest 15 = .ok (.getfield 44, 3) := by decide +kernel
theorem dX4_joinBest_18 : decode cX4_joinBest 18 = .ok (.aaload, 1) := by decide +kernel
theorem dX4_joinBest_19 : decode cX4_joinBest 19 = .ok (.astore_n 3, 1) := by decide +kernel
theorem dX4_joinBest_20 : decode cX4_joinBest 20 = .ok (.aload_n 0, 1) := by decide +kernel
theorem dX4_joinBest_21 : decode cX4_joinBest 21 = .ok (.aload_n 2, 1) := by decide +kernel
theorem dX4_joinBest_22 : decode cX4_joinBest 22 = .ok (.getfield 78, 3) := by decide +kernel
theorem dX4_joinBest_25 : decode cX4_joinBest 25 = .ok (.aload_n 3, 1) := by decide +kernel
theorem dX4_joinBest_26 : decode cX4_joinBest 26 = .ok (.getfield 78, 3) := by decide +kernel
theorem dX4_joinBest_29 : decode cX4_joinBest 29 = .ok (.invokevirtual 142, 3) := by decide +kernel
theorem dX4_joinBest_32 : decode cX4_joinBest 32 = .ok (.astore 4, 2) := by decide +kernel
theorem dX4_joinBest_34 : decode cX4_joinBest 34 = .ok (.new 31, 3) := by decide +kernel
theorem dX4_joinBest_37 : decode cX4_joinBest 37 = .ok (.dup, 1) := by decide +kernel
theorem dX4_joinBest_38 : decode cX4_joinBest 38 = .ok (.aload 4, 2) := by decide +kernel
theorem dX4_joinBest_40 : decode cX4_joinBest 40 = .ok (.aload_n 2, 1) := by decide +kernel
theorem dX4_joinBest_41 : decode cX4_joinBest 41 = .ok (.getfield 146, 3) := by decide +kernel
theorem dX4_joinBest_44 : decode cX4_joinBest 44 = .ok (.aload_n 3, 1) := by decide +kernel
theorem dX4_joinBest_45 : decode cX4_joinBest 45 = .ok (.getfield 146, 3) := by decide +kernel
theorem dX4_joinBest_48 : decode cX4_joinBest 48 = .ok (.lor, 1) := by decide +kernel
theorem dX4_joinBest_49 : decode cX4_joinBest 49 = .ok (.aload_n 2, 1) := by decide +kernel
theorem dX4_joinBest_50 : decode cX4_joinBest 50 = .ok (.aload_n 3, 1) := by decide +kernel
theorem dX4_joinBest_51 : decode cX4_joinBest 51 = .ok (.iload_n 1, 1) := by decide +kernel
theorem dX4_joinBest_52 : decode cX4_joinBest 52 = .ok (.invokespecial 58, 3) := by decide +kernel
theorem dX4_joinBest_55 : decode cX4_joinBest 55 = .ok (.astore 5, 2) := by decide +kernel
theorem dX4_joinBest_57 : decode cX4_joinBest 57 = .ok (.aload_n 2, 1) := by decide +kernel
theorem dX4_joinBest_58 : decode cX4_joinBest 58 = .ok (.aload 5, 2) := by decide +kernel
theorem dX4_joinBest_60 : decode cX4_joinBest 60 = .ok (.putfield 149, 3) := by decide +kernel
theorem dX4_joinBest_63 : decode cX4_joinBest 63 = .ok (.aload_n 2, 1) := by decide +kernel
theorem dX4_joinBest_64 : decode cX4_joinBest 64 = .ok (.iload_n 1, 1) := by decide +kernel
theorem dX4_joinBest_65 : decode cX4_joinBest 65 = .ok (.putfield 121, 3) := by decide +kernel
theorem dX4_joinBest_68 : decode cX4_joinBest 68 = .ok (.aload_n 3, 1) := by decide +kernel
theorem dX4_joinBest_69 : decode cX4_joinBest 69 = .ok (.aload 5, 2) := by decide +kernel
theorem dX4_joinBest_71 : decode cX4_joinBest 71 = .ok (.putfield 149, 3) := by decide +kernel
theorem dX4_joinBest_74 : decode cX4_joinBest 74 = .ok (.aload_n 3, 1) := by decide +kernel
theorem dX4_joinBest_75 : decode cX4_joinBest 75 = .ok (.iload_n 1, 1) := by decide +kernel
theorem dX4_joinBest_76 : decode cX4_joinBest 76 = .ok (.putfield 121, 3) := by decide +kernel
theorem dX4_joinBest_79 : decode cX4_joinBest 79 = .ok (.aload_n 0, 1) := by decide +kernel
theorem dX4_joinBest_80 : decode cX4_joinBest 80 = .ok (.getfield 20, 3) := by decide +kernel
theorem dX4_joinBest_83 : decode cX4_joinBest 83 = .ok (.new 124, 3) := by decide +kernel
theorem dX4_joinBest_86 : decode cX4_joinBest 86 = .ok (.dup, 1) := by decide +kernel
theorem dX4_joinBest_87 : decode cX4_joinBest 87 = .ok (.aload_n 2, 1) := by decide +kernel
theorem dX4_joinBest_88 : decode cX4_joinBest 88 = .ok (.getfield 78, 3) := by decide +kernel
theorem dX4_joinBest_91 : decode cX4_joinBest 91 = .ok (.getfield 126, 3) := by decide +kernel
theorem dX4_joinBest_94 : decode cX4_joinBest 94 = .ok (.aload_n 3, 1) := by decide +kernel
theorem dX4_joinBest_95 : decode cX4_joinBest 95 = .ok (.getfield 78, 3) := by decide +kernel
theorem dX4_joinBest_98 : decode cX4_joinBest 98 = .ok (.getfield 126, 3) := by decide +kernel
theorem dX4_joinBest_101 : decode cX4_joinBest 101 = .ok (.aload 4, 2) := by decide +kernel
theorem dX4_joinBest_103 : decode cX4_joinBest 103 = .ok (.getfield 126, 3) := by decide +kernel
theorem dX4_joinBest_106 : decode cX4_joinBest 106 = .ok (.aload_n 0, 1) := by decide +kernel
theorem dX4_joinBest_107 : decode cX4_joinBest 107 = .ok (.getfield 47, 3) := by decide +kernel
theorem dX4_joinBest_110 : decode cX4_joinBest 110 = .ok (.aload_n 0, 1) := by decide +kernel
theorem dX4_joinBest_111 : decode cX4_joinBest 111 = .ok (.getfield 51, 3) := by decide +kernel
theorem dX4_joinBest_114 : decode cX4_joinBest 114 = .ok (.invokespecial 129, 3) := by decide +kernel
theorem dX4_joinBest_117 : decode cX4_joinBest 117 = .ok (.invokevirtual 132, 3) := by decide +kernel
theorem dX4_joinBest_120 : decode cX4_joinBest 120 = .ok (.aload_n 0, 1) := by decide +kernel
theorem dX4_joinBest_121 : decode cX4_joinBest 121 = .ok (.aload_n 0, 1) := by decide +kernel
theorem dX4_joinBest_122 : decode cX4_joinBest 122 = .ok (.getfield 44, 3) := by decide +kernel
theorem dX4_joinBest_125 : decode cX4_joinBest 125 = .ok (.invokevirtual 139, 3) := by decide +kernel
theorem dX4_joinBest_128 : decode cX4_joinBest 128 = .ok (.aload_n 0, 1) := by decide +kernel
theorem dX4_joinBest_129 : decode cX4_joinBest 129 = .ok (.aload_n 0, 1) := by decide +kernel
theorem dX4_joinBest_130 : decode cX4_joinBest 130 = .ok (.getfield 41, 3) := by decide +kernel
theorem dX4_joinBest_133 : decode cX4_joinBest 133 = .ok (.invokevirtual 139, 3) := by decide +kernel
theorem dX4_joinBest_136 : decode cX4_joinBest 136 = .ok (.aload_n 0, 1) := by decide +kernel
theorem dX4_joinBest_137 : decode cX4_joinBest 137 = .ok (.aload 5, 2) := by decide +kernel
theorem dX4_joinBest_139 : decode cX4_joinBest 139 = .ok (.invokevirtual 61, 3) := by decide +kernel
theorem dX4_joinBest_142 : decode cX4_joinBest 142 = .ok (.return_, 1) := by decide +kernel
theorem dX4_joinedBody_0 : decode cX4_joinedBody 0 = .ok (.aload_n 0, 1) := by decide +kernel
theorem dX4_joinedBody_1 : decode cX4_joinedBody 1 = .ok (.getfield 20, 3) := by decide +kernel
theorem dX4_joinedBody_4 : decode cX4_joinedBody 4 = .ok (.getfield 153, 3) := by decide +kernel
theorem dX4_joinedBody_7 : decode cX4_joinedBody 7 = .ok (.istore_n 3, 1) := by decide +kernel
theorem dX4_joinedBody_8 : decode cX4_joinedBody 8 = .ok (.aload_n 0, 1) := by decide +kernel
theorem dX4_joinedBody_9 : decode cX4_joinedBody 9 = .ok (.getfield 20, 3) := by decide +kernel
theorem dX4_joinedBody_12 : decode cX4_joinedBody 12 = .ok (.getfield 156, 3) := by decide +kernel
theorem dX4_joinedBody_15 : decode cX4_joinedBody 15 = .ok (.ifCond .ne 49, 3) := by decide +kernel
theorem dX4_joinedBody_18 : decode cX4_joinedBody 18 = .ok (.aload_n 0, 1) := by decide +kernel
theorem dX4_joinedBody_19 : decode cX4_joinedBody 19 = .ok (.getfield 27, 3) := by decide +kernel
theorem dX4_joinedBody_22 : decode cX4_joinedBody 22 = .ok (.aload_n 1, 1) := by decide +kernel
theorem dX4_joinedBody_23 : decode cX4_joinedBody 23 = .ok (.invokevirtual 159, 3) := by decide +kernel
theorem dX4_joinedBody_26 : decode cX4_joinedBody 26 = .ok (.aload_n 0, 1) := by decide +kernel
theorem dX4_joinedBody_27 : decode cX4_joinedBody 27 = .ok (.getfield 27, 3) := by decide +kernel
theorem dX4_joinedBody_30 : decode cX4_joinedBody 30 = .ok (.aload_n 2, 1) := by decide +kernel
theorem dX4_joinedBody_31 : decode cX4_joinedBody 31 = .ok (.invokevirtual 163, 3) := by decide +kernel
theorem dX4_joinedBody_34 : decode cX4_joinedBody 34 = .ok (.new 83, 3) := by decide +kernel
theorem dX4_joinedBody_37 : decode cX4_joinedBody 37 = .ok (.dup, 1) := by decide +kernel
theorem dX4_joinedBody_38 : decode cX4_joinedBody 38 = .ok (.iload_n 3, 1) := by decide +kernel
theorem dX4_joinedBody_39 : decode cX4_joinedBody 39 = .ok (.aload_n 0, 1) := by decide +kernel
theorem dX4_joinedBody_40 : decode cX4_joinedBody 40 = .ok (.getfield 27, 3) := by decide +kernel
theorem dX4_joinedBody_43 : decode cX4_joinedBody 43 = .ok (.getfield 166, 3) := by decide +kernel
theorem dX4_joinedBody_46 : decode cX4_joinedBody 46 = .ok (.aload_n 0, 1) := by decide +kernel
theorem dX4_joinedBody_47 : decode cX4_joinedBody 47 = .ok (.getfield 27, 3) := by decide +kernel
theorem dX4_joinedBody_50 : decode cX4_joinedBody 50 = .ok (.getfield 169, 3) := by decide +kernel
theorem dX4_joinedBody_53 : decode cX4_joinedBody 53 = .ok (.aload_n 0, 1) := by decide +kernel
theorem dX4_joinedBody_54 : decode cX4_joinedBody 54 = .ok (.getfield 27, 3) := by decide +kernel
theorem dX4_joinedBody_57 : decode cX4_joinedBody 57 = .ok (.getfield 172, 3) := by decide +kernel
theorem dX4_joinedBody_60 : decode cX4_joinedBody 60 = .ok (.invokespecial 173, 3) := by decide +kernel
theorem dX4_joinedBody_63 : decode cX4_joinedBody 63 = .ok (.areturn, 1) := by decide +kernel
theorem dX4_joinedBody_64 : decode cX4_joinedBody 64 = .ok (.aload_n 2, 1) := by decide +kernel
theorem dX4_joinedBody_65 : decode cX4_joinedBody 65 = .ok (.getfield 95, 3) := by decide +kernel
theorem dX4_joinedBody_68 : decode cX4_joinedBody 68 = .ok (.aload_n 1, 1) := by decide +kernel
theorem dX4_joinedBody_69 : decode cX4_joinedBody 69 = .ok (.getfield 95, 3) := by decide +kernel
theorem dX4_joinedBody_72 : decode cX4_joinedBody 72 = .ok (.if_icmp .le 7, 3) := by decide +kernel
theorem dX4_joinedBody_75 : decode cX4_joinedBody 75 = .ok (.aload_n 2, 1) := by decide +kernel
theorem dX4_joinedBody_76 : decode cX4_joinedBody 76 = .ok (.goto 4, 3) := by decide +kernel
theorem dX4_joinedBody_79 : decode cX4_joinedBody 79 = .ok (.aload_n 1, 1) := by decide +kernel
theorem dX4_joinedBody_80 : decode cX4_joinedBody 80 = .ok (.astore 4, 2) := by decide +kernel
theorem dX4_joinedBody_82 : decode cX4_joinedBody 82 = .ok (.new 83, 3) := by decide +kernel
theorem dX4_joinedBody_85 : decode cX4_joinedBody 85 = .ok (.dup, 1) := by decide +kernel
theorem dX4_joinedBody_86 : decode cX4_joinedBody 86 = .ok (.iload_n 3, 1) := by decide +kernel
theorem dX4_joinedBody_87 : decode cX4_joinedBody 87 = .ok (.aload 4, 2) := by decide +kernel
theorem dX4_joinedBody_89 : decode cX4_joinedBody 89 = .ok (.getfield 174, 3) := by decide +kernel
theorem dX4_joinedBody_92 : decode cX4_joinedBody 92 = .ok (.aload 4, 2) := by decide +kernel
theorem dX4_joinedBody_94 : decode cX4_joinedBody 94 = .ok (.getfield 175, 3) := by decide +kernel
theorem dX4_joinedBody_97 : decode cX4_joinedBody 97 = .ok (.aload_n 1, 1) := by decide +kernel
theorem dX4_joinedBody_98 : decode cX4_joinedBody 98 = .ok (.getfield 95, 3) := by decide +kernel
theorem dX4_joinedBody_101 : decode cX4_joinedBody 101 = .ok (.aload_n 2, 1) := by decide +kernel
theorem dX4_joinedBody_102 : decode cX4_joinedBody 102 = .ok (.getfield 95, 3) := by decide +kernel
theorem dX4_joinedBody_105 : decode cX4_joinedBody 105 = .ok (.iadd, 1) := by decide +kernel
theorem dX4_joinedBody_106 : decode cX4_joinedBody 106 = .ok (.invokespecial 173, 3) := by decide +kernel
theorem dX4_joinedBody_109 : decode cX4_joinedBody 109 = .ok (.areturn, 1) := by decide +kernel
theorem dX5_init_0 : decode cX5_init 0 = .ok (.aload_n 0, 1) := by decide +kernel
theorem dX5_init_1 : decode cX5_init 1 = .ok (.invokespecial 3, 3) := by decide +kernel
theorem dX5_init_4 : decode cX5_init 4 = .ok (.aload_n 0, 1) := by decide +kernel
theorem dX5_init_5 : decode cX5_init 5 = .ok (.aload_n 1, 1) := by decide +kernel
theorem dX5_init_6 : decode cX5_init 6 = .ok (.putfield 9, 3) := by decide +kernel
theorem dX5_init_9 : decode cX5_init 9 = .ok (.aload_n 0, 1) := by decide +kernel
theorem dX5_init_10 : decode cX5_init 10 = .ok (.lload_n 2, 1) := by decide +kernel
theorem dX5_init_11 : decode cX5_init 11 = .ok (.putfield 15, 3) := by decide +kernel
theorem dX5_init_14 : decode cX5_init 14 = .ok (.aload_n 0, 1) := by decide +kernel
theorem dX5_init_15 : decode cX5_init 15 = .ok (.aload 4, 2) := by decide +kernel
theorem dX5_init_17 : decode cX5_init 17 = .ok (.putfield 19, 3) := by decide +kernel
theorem dX5_init_20 : decode cX5_init 20 = .ok (.aload_n 0, 1) := by decide +kernel
theorem dX5_init_21 : decode cX5_init 21 = .ok (.aload 5, 2) := by decide +kernel
theorem dX5_init_23 : decode cX5_init 23 = .ok (.putfield 23, 3) := by decide +kernel
theorem dX5_init_26 : decode cX5_init 26 = .ok (.aload_n 0, 1) := by decide +kernel
theorem dX5_init_27 : decode cX5_init 27 = .ok (.iload 6, 2) := by decide +kernel
theorem dX5_init_29 : decode cX5_init 29 = .ok (.putfield 26, 3) := by decide +kernel
theorem dX5_init_32 : decode cX5_init 32 = .ok (.aload_n 0, 1) := by decide +kernel
theorem dX5_init_33 : decode cX5_init 33 = .ok (.aconst_null, 1) := by decide +kernel
theorem dX5_init_34 : decode cX5_init 34 = .ok (.putfield 30, 3) := by decide +kernel
theorem dX5_init_37 : decode cX5_init 37 = .ok (.aload_n 0, 1) := by decide +kernel
theorem dX5_init_38 : decode cX5_init 38 = .ok (.iconst (-1), 1) := by decide +kernel
theorem dX5_init_39 : decode cX5_init 39 = .ok (.putfield 33, 3) := by decide +kernel
theorem dX5_init_42 : decode cX5_init 42 = .ok (.return_, 1) := by decide +kernel
theorem dX5_wasJoined_0 : decode cX5_wasJoined 0 = .ok (.aload_n 0, 1) := by decide +kernel
theorem dX5_wasJoined_1 : decode cX5_wasJoined 1 = .ok (.getfield 19, 3) := by decide +kernel
theorem dX5_wasJoined_4 : decode cX5_wasJoined 4 = .ok (.ifnull 14, 3) := by decide +kernel
theorem dX5_wasJoined_7 : decode cX5_wasJoined 7 = .ok (.aload_n 0, 1) := by decide +kernel
theorem dX5_wasJoined_8 : decode cX5_wasJoined 8 = .ok (.getfield 23, 3) := by decide +kernel
theorem dX5_wasJoined_11 : decode cX5_wasJoined 11 = .ok (.ifnull 7, 3) := by decide +kernel
theorem dX5_wasJoined_14 : decode cX5_wasJoined 14 = .ok (.iconst 1, 1) := by decide +kernel
theorem dX5_wasJoined_15 : decode cX5_wasJoined 15 = .ok (.goto 4, 3) := by decide +kernel
theorem dX5_wasJoined_18 : decode cX5_wasJoined 18 = .ok (.iconst 0, 1) := by decide +kernel
theorem dX5_wasJoined_19 : decode cX5_wasJoined 19 = .ok (.ireturn, 1) := by decide +kernel
theorem dX5_heavier_0 : decode cX5_heavier 0 = .ok (.aload_n 0, 1) := by decide +kernel
theorem dX5_heavier_1 : decode cX5_heavier 1 = .ok (.getfield 19, 3) := by decide +kernel
theorem dX5_heavier_4 : decode cX5_heavier 4 = .ok (.ifnull 10, 3) := by decide +kernel
theorem dX5_heavier_7 : decode cX5_heavier 7 = .ok (.aload_n 0, 1) := by decide +kernel
theorem dX5_heavier_8 : decode cX5_heavier 8 = .ok (.getfield 23, 3) := by decide +kernel
theorem dX5_heavier_11 : decode cX5_heavier 11 = .ok (.ifnonnull 5, 3) := by decide +kernel
theorem dX5_heavier_14 : decode cX5_heavier 14 = .ok (.aconst_null, 1) := by decide +kernel
theorem dX5_heavier_15 : decode cX5_heavier 15 = .ok (.areturn, 1) := by decide +kernel
theorem dX5_heavier_16 : decode cX5_heavier 16 = .ok (.aload_n 0, 1) := by decide +kernel
theorem dX5_heavier_17 : decode cX5_heavier 17 = .ok (.getfield 23, 3) := by decide +kernel
theorem dX5_heavier_20 : decode cX5_heavier 20 = .ok (.getfield 9, 3) := by decide +kernel
theorem dX5_heavier_23 : decode cX5_heavier 23 = .ok (.getfield 36, 3) := by decide +kernel
theorem dX5_heavier_26 : decode cX5_heavier 26 = .ok (.aload_n 0, 1) := by decide +kernel
theorem dX5_heavier_27 : decode cX5_heavier 27 = .ok (.getfield 19, 3) := by decide +kernel
theorem dX5_heavier_30 : decode cX5_heavier 30 = .ok (.getfield 9, 3) := by decide +kernel
theorem dX5_heavier_33 : decode cX5_heavier 33 = .ok (.getfield 36, 3) := by decide +kernel
theorem dX5_heavier_36 : decode cX5_heavier 36 = .ok (.if_icmp .le 10, 3) := by decide +kernel
theorem dX5_heavier_39 : decode cX5_heavier 39 = .ok (.aload_n 0, 1) := by decide +kernel
theorem dX5_heavier_40 : decode cX5_heavier 40 = .ok (.getfield 23, 3) := by decide +kernel
theorem dX5_heavier_43 : decode cX5_heavier 43 = .ok (.goto 7, 3) := by decide +kernel
theorem dX5_heavier_46 : decode cX5_heavier 46 = .ok (.aload_n 0, 1) := by decide +kernel
theorem dX5_heavier_47 : decode cX5_heavier 47 = .ok (.getfield 19, 3) := by decide +kernel
theorem dX5_heavier_50 : decode cX5_heavier 50 = .ok (.areturn, 1) := by decide +kernel
theorem dX5_lighter_0 : decode cX5_lighter 0 = .ok (.aload_n 0, 1) := by decide +kernel
theorem dX5_lighter_1 : decode cX5_lighter 1 = .ok (.getfield 19, 3) := by decide +kernel
theorem dX5_lighter_4 : decode cX5_lighter 4 = .ok (.ifnull 10, 3) := by decide +kernel
theorem dX5_lighter_7 : decode cX5_lighter 7 = .ok (.aload_n 0, 1) := by decide +kernel
theorem dX5_lighter_8 : decode cX5_lighter 8 = .ok (.getfield 23, 3) := by decide +kernel
theorem dX5_lighter_11 : decode cX5_lighter 11 = .ok (.ifnonnull 5, 3) := by decide +kernel
