theorem dX11_split_90 : decode cX11_split 90 = .ok (.ireturn, 1) := by decide +kernel
theorem dX11_width_0 : decode cX11_width 0 = .ok (.aload_n 0, 1) := by decide +kernel
theorem dX11_width_1 : decode cX11_width 1 = .ok (.iload_n 1, 1) := by decide +kernel
theorem dX11_width_2 : decode cX11_width 2 = .ok (.invokevirtual 144, 3) := by decide +kernel
theorem dX11_width_5 : decode cX11_width 5 = .ok (.astore_n 3, 1) := by decide +kernel
theorem dX11_width_6 : decode cX11_width 6 = .ok (.aload_n 0, 1) := by decide +kernel
theorem dX11_width_7 : decode cX11_width 7 = .ok (.iload_n 1, 1) := by decide +kernel
theorem dX11_width_8 : decode cX11_width 8 = .ok (.iload_n 2, 1) := by decide +kernel
theorem dX11_width_9 : decode cX11_width 9 = .ok (.invokevirtual 159, 3) := by decide +kernel
theorem dX11_width_12 : decode cX11_width 12 = .ok (.astore 4, 2) := by decide +kernel
theorem dX11_width_14 : decode cX11_width 14 = .ok (.aload_n 3, 1) := by decide +kernel
theorem dX11_width_15 : decode cX11_width 15 = .ok (.ifnull 8, 3) := by decide +kernel
theorem dX11_width_18 : decode cX11_width 18 = .ok (.aload 4, 2) := by decide +kernel
theorem dX11_width_20 : decode cX11_width 20 = .ok (.ifnonnull 7, 3) := by decide +kernel
theorem dX11_width_23 : decode cX11_width 23 = .ok (.lconst 0, 1) := by decide +kernel
theorem dX11_width_24 : decode cX11_width 24 = .ok (.goto 9, 3) := by decide +kernel
theorem dX11_width_27 : decode cX11_width 27 = .ok (.aload_n 3, 1) := by decide +kernel
theorem dX11_width_28 : decode cX11_width 28 = .ok (.aload 4, 2) := by decide +kernel
theorem dX11_width_30 : decode cX11_width 30 = .ok (.invokestatic 309, 3) := by decide +kernel
theorem dX11_width_33 : decode cX11_width 33 = .ok (.lreturn, 1) := by decide +kernel
theorem dX11_closeness_0 : decode cX11_closeness 0 = .ok (.aload_n 0, 1) := by decide +kernel
theorem dX11_closeness_1 : decode cX11_closeness 1 = .ok (.iload_n 1, 1) := by decide +kernel
theorem dX11_closeness_2 : decode cX11_closeness 2 = .ok (.invokevirtual 144, 3) := by decide +kernel
theorem dX11_closeness_5 : decode cX11_closeness 5 = .ok (.astore_n 3, 1) := by decide +kernel
theorem dX11_closeness_6 : decode cX11_closeness 6 = .ok (.aload_n 0, 1) := by decide +kernel
theorem dX11_closeness_7 : decode cX11_closeness 7 = .ok (.iload_n 1, 1) := by decide +kernel
theorem dX11_closeness_8 : decode cX11_closeness 8 = .ok (.iload_n 2, 1) := by decide +kernel
theorem dX11_closeness_9 : decode cX11_closeness 9 = .ok (.invokevirtual 159, 3) := by decide +kernel
theorem dX11_closeness_12 : decode cX11_closeness 12 = .ok (.astore 4, 2) := by decide +kernel
theorem dX11_closeness_14 : decode cX11_closeness 14 = .ok (.aload_n 3, 1) := by decide +kernel
theorem dX11_closeness_15 : decode cX11_closeness 15 = .ok (.ifnull 8, 3) := by decide +kernel
theorem dX11_closeness_18 : decode cX11_closeness 18 = .ok (.aload 4, 2) := by decide +kernel
theorem dX11_closeness_20 : decode cX11_closeness 20 = .ok (.ifnonnull 7, 3) := by decide +kernel
theorem dX11_closeness_23 : decode cX11_closeness 23 = .ok (.lconst 0, 1) := by decide +kernel
theorem dX11_closeness_24 : decode cX11_closeness 24 = .ok (.goto 9, 3) := by decide +kernel
theorem dX11_closeness_27 : decode cX11_closeness 27 = .ok (.aload_n 3, 1) := by decide +kernel
theorem dX11_closeness_28 : decode cX11_closeness 28 = .ok (.aload 4, 2) := by decide +kernel
theorem dX11_closeness_30 : decode cX11_closeness 30 = .ok (.invokestatic 313, 3) := by decide +kernel
theorem dX11_closeness_33 : decode cX11_closeness 33 = .ok (.lreturn, 1) := by decide +kernel
theorem dX11_kept_0 : decode cX11_kept 0 = .ok (.aload_n 0, 1) := by decide +kernel
theorem dX11_kept_1 : decode cX11_kept 1 = .ok (.iload_n 1, 1) := by decide +kernel
theorem dX11_kept_2 : decode cX11_kept 2 = .ok (.invokevirtual 316, 3) := by decide +kernel
theorem dX11_kept_5 : decode cX11_kept 5 = .ok (.astore_n 3, 1) := by decide +kernel
theorem dX11_kept_6 : decode cX11_kept 6 = .ok (.aload_n 3, 1) := by decide +kernel
theorem dX11_kept_7 : decode cX11_kept 7 = .ok (.ifnonnull 7, 3) := by decide +kernel
theorem dX11_kept_10 : decode cX11_kept 10 = .ok (.ldc2_w 244, 3) := by decide +kernel
theorem dX11_kept_13 : decode cX11_kept 13 = .ok (.lreturn, 1) := by decide +kernel
theorem dX11_kept_14 : decode cX11_kept 14 = .ok (.iload_n 2, 1) := by decide +kernel
theorem dX11_kept_15 : decode cX11_kept 15 = .ok (.iconst (-1), 1) := by decide +kernel
theorem dX11_kept_16 : decode cX11_kept 16 = .ok (.if_icmp .ne 7, 3) := by decide +kernel
theorem dX11_kept_19 : decode cX11_kept 19 = .ok (.aload_n 3, 1) := by decide +kernel
theorem dX11_kept_20 : decode cX11_kept 20 = .ok (.arraylength, 1) := by decide +kernel
theorem dX11_kept_21 : decode cX11_kept 21 = .ok (.i2l, 1) := by decide +kernel
theorem dX11_kept_22 : decode cX11_kept 22 = .ok (.lreturn, 1) := by decide +kernel
theorem dX11_kept_23 : decode cX11_kept 23 = .ok (.iload_n 2, 1) := by decide +kernel
theorem dX11_kept_24 : decode cX11_kept 24 = .ok (.ifCond .lt 9, 3) := by decide +kernel
theorem dX11_kept_27 : decode cX11_kept 27 = .ok (.iload_n 2, 1) := by decide +kernel
theorem dX11_kept_28 : decode cX11_kept 28 = .ok (.aload_n 3, 1) := by decide +kernel
theorem dX11_kept_29 : decode cX11_kept 29 = .ok (.arraylength, 1) := by decide +kernel
theorem dX11_kept_30 : decode cX11_kept 30 = .ok (.if_icmp .lt 9, 3) := by decide +kernel
theorem dX11_kept_33 : decode cX11_kept 33 = .ok (.ldc2_w 244, 3) := by decide +kernel
theorem dX11_kept_36 : decode cX11_kept 36 = .ok (.goto 6, 3) := by decide +kernel
theorem dX11_kept_39 : decode cX11_kept 39 = .ok (.aload_n 3, 1) := by decide +kernel
theorem dX11_kept_40 : decode cX11_kept 40 = .ok (.iload_n 2, 1) := by decide +kernel
theorem dX11_kept_41 : decode cX11_kept 41 = .ok (.laload, 1) := by decide +kernel
theorem dX11_kept_42 : decode cX11_kept 42 = .ok (.lreturn, 1) := by decide +kernel
theorem dX11_within_0 : decode cX11_within 0 = .ok (.aload_n 0, 1) := by decide +kernel
theorem dX11_within_1 : decode cX11_within 1 = .ok (.iload_n 1, 1) := by decide +kernel
theorem dX11_within_2 : decode cX11_within 2 = .ok (.invokevirtual 316, 3) := by decide +kernel
theorem dX11_within_5 : decode cX11_within 5 = .ok (.astore_n 3, 1) := by decide +kernel
theorem dX11_within_6 : decode cX11_within 6 = .ok (.aload_n 0, 1) := by decide +kernel
theorem dX11_within_7 : decode cX11_within 7 = .ok (.iload_n 2, 1) := by decide +kernel
theorem dX11_within_8 : decode cX11_within 8 = .ok (.invokevirtual 316, 3) := by decide +kernel
theorem dX11_within_11 : decode cX11_within 11 = .ok (.astore 4, 2) := by decide +kernel
theorem dX11_within_13 : decode cX11_within 13 = .ok (.aload_n 3, 1) := by decide +kernel
theorem dX11_within_14 : decode cX11_within 14 = .ok (.ifnull 8, 3) := by decide +kernel
theorem dX11_within_17 : decode cX11_within 17 = .ok (.aload 4, 2) := by decide +kernel
theorem dX11_within_19 : decode cX11_within 19 = .ok (.ifnonnull 5, 3) := by decide +kernel
theorem dX11_within_22 : decode cX11_within 22 = .ok (.iconst 0, 1) := by decide +kernel
theorem dX11_within_23 : decode cX11_within 23 = .ok (.ireturn, 1) := by decide +kernel
theorem dX11_within_24 : decode cX11_within 24 = .ok (.iconst 0, 1) := by decide +kernel
theorem dX11_within_25 : decode cX11_within 25 = .ok (.istore 5, 2) := by decide +kernel
theorem dX11_within_27 : decode cX11_within 27 = .ok (.iload 5, 2) := by decide +kernel
theorem dX11_within_29 : decode cX11_within 29 = .ok (.aload_n 3, 1) := by decide +kernel
theorem dX11_within_30 : decode cX11_within 30 = .ok (.arraylength, 1) := by decide +kernel
theorem dX11_within_31 : decode cX11_within 31 = .ok (.if_icmp .ge 23, 3) := by decide +kernel
theorem dX11_within_34 : decode cX11_within 34 = .ok (.aload_n 3, 1) := by decide +kernel
theorem dX11_within_35 : decode cX11_within 35 = .ok (.iload 5, 2) := by decide +kernel
theorem dX11_within_37 : decode cX11_within 37 = .ok (.laload, 1) := by decide +kernel
theorem dX11_within_38 : decode cX11_within 38 = .ok (.aload 4, 2) := by decide +kernel
theorem dX11_within_40 : decode cX11_within 40 = .ok (.invokestatic 319, 3) := by decide +kernel
theorem dX11_within_43 : decode cX11_within 43 = .ok (.ifCond .ne 5, 3) := by decide +kernel
theorem dX11_within_46 : decode cX11_within 46 = .ok (.iconst 0, 1) := by decide +kernel
theorem dX11_within_47 : decode cX11_within 47 = .ok (.ireturn, 1) := by decide +kernel
theorem dX11_within_48 : decode cX11_within 48 = .ok (.iinc 5 1, 3) := by decide +kernel
theorem dX11_within_51 : decode cX11_within 51 = .ok (.goto (-24), 3) := by decide +kernel
theorem dX11_within_54 : decode cX11_within 54 = .ok (.iconst 1, 1) := by decide +kernel
theorem dX11_within_55 : decode cX11_within 55 = .ok (.ireturn, 1) := by decide +kernel
theorem dX11_tau_0 : decode cX11_tau 0 = .ok (.aload_n 0, 1) := by decide +kernel
theorem dX11_tau_1 : decode cX11_tau 1 = .ok (.iload_n 1, 1) := by decide +kernel
theorem dX11_tau_2 : decode cX11_tau 2 = .ok (.invokevirtual 144, 3) := by decide +kernel
theorem dX11_tau_5 : decode cX11_tau 5 = .ok (.astore 4, 2) := by decide +kernel
theorem dX11_tau_7 : decode cX11_tau 7 = .ok (.aload_n 0, 1) := by decide +kernel
theorem dX11_tau_8 : decode cX11_tau 8 = .ok (.iload_n 1, 1) := by decide +kernel
theorem dX11_tau_9 : decode cX11_tau 9 = .ok (.iload_n 2, 1) := by decide +kernel
theorem dX11_tau_10 : decode cX11_tau 10 = .ok (.invokevirtual 159, 3) := by decide +kernel
theorem dX11_tau_13 : decode cX11_tau 13 = .ok (.astore 5, 2) := by decide +kernel
theorem dX11_tau_15 : decode cX11_tau 15 = .ok (.aload 4, 2) := by decide +kernel
theorem dX11_tau_17 : decode cX11_tau 17 = .ok (.ifnull 19, 3) := by decide +kernel
theorem dX11_tau_20 : decode cX11_tau 20 = .ok (.aload 5, 2) := by decide +kernel
theorem dX11_tau_22 : decode cX11_tau 22 = .ok (.ifnull 14, 3) := by decide +kernel
theorem dX11_tau_25 : decode cX11_tau 25 = .ok (.iload_n 3, 1) := by decide +kernel
theorem dX11_tau_26 : decode cX11_tau 26 = .ok (.iconst 1, 1) := by decide +kernel
theorem dX11_tau_27 : decode cX11_tau 27 = .ok (.if_icmp .lt 9, 3) := by decide +kernel
theorem dX11_tau_30 : decode cX11_tau 30 = .ok (.iload_n 3, 1) := by decide +kernel
theorem dX11_tau_31 : decode cX11_tau 31 = .ok (.bipush 9, 2) := by decide +kernel
theorem dX11_tau_33 : decode cX11_tau 33 = .ok (.if_icmp .le 5, 3) := by decide +kernel
theorem dX11_tau_36 : decode cX11_tau 36 = .ok (.lconst 0, 1) := by decide +kernel
theorem dX11_tau_37 : decode cX11_tau 37 = .ok (.lreturn, 1) := by decide +kernel
theorem dX11_tau_38 : decode cX11_tau 38 = .ok (.aload 4, 2) := by decide +kernel
theorem dX11_tau_40 : decode cX11_tau 40 = .ok (.aload 5, 2) := by decide +kernel
theorem dX11_tau_42 : decode cX11_tau 42 = .ok (.iload_n 3, 1) := by decide +kernel
theorem dX11_tau_43 : decode cX11_tau 43 = .ok (.invokestatic 323, 3) := by decide +kernel
theorem dX11_tau_46 : decode cX11_tau 46 = .ok (.lreturn, 1) := by decide +kernel
theorem dX11_matched_0 : decode cX11_matched 0 = .ok (.aload_n 0, 1) := by decide +kernel
theorem dX11_matched_1 : decode cX11_matched 1 = .ok (.iload_n 1, 1) := by decide +kernel
theorem dX11_matched_2 : decode cX11_matched 2 = .ok (.invokevirtual 144, 3) := by decide +kernel
theorem dX11_matched_5 : decode cX11_matched 5 = .ok (.astore 4, 2) := by decide +kernel
theorem dX11_matched_7 : decode cX11_matched 7 = .ok (.aload_n 0, 1) := by decide +kernel
theorem dX11_matched_8 : decode cX11_matched 8 = .ok (.iload_n 3, 1) := by decide +kernel
theorem dX11_matched_9 : decode cX11_matched 9 = .ok (.invokevirtual 144, 3) := by decide +kernel
theorem dX11_matched_12 : decode cX11_matched 12 = .ok (.astore 5, 2) := by decide +kernel
theorem dX11_matched_14 : decode cX11_matched 14 = .ok (.aload_n 0, 1) := by decide +kernel
theorem dX11_matched_15 : decode cX11_matched 15 = .ok (.iload_n 1, 1) := by decide +kernel
theorem dX11_matched_16 : decode cX11_matched 16 = .ok (.iload_n 2, 1) := by decide +kernel
theorem dX11_matched_17 : decode cX11_matched 17 = .ok (.invokevirtual 159, 3) := by decide +kernel
theorem dX11_matched_20 : decode cX11_matched 20 = .ok (.astore 6, 2) := by decide +kernel
theorem dX11_matched_22 : decode cX11_matched 22 = .ok (.aload 4, 2) := by decide +kernel
theorem dX11_matched_24 : decode cX11_matched 24 = .ok (.ifnull 21, 3) := by decide +kernel
theorem dX11_matched_27 : decode cX11_matched 27 = .ok (.aload 5, 2) := by decide +kernel
theorem dX11_matched_29 : decode cX11_matched 29 = .ok (.ifnull 16, 3) := by decide +kernel
theorem dX11_matched_32 : decode cX11_matched 32 = .ok (.aload 6, 2) := by decide +kernel
theorem dX11_matched_34 : decode cX11_matched 34 = .ok (.ifnull 11, 3) := by decide +kernel
theorem dX11_matched_37 : decode cX11_matched 37 = .ok (.aload 6, 2) := by decide +kernel
theorem dX11_matched_39 : decode cX11_matched 39 = .ok (.getfield 218, 3) := by decide +kernel
theorem dX11_matched_42 : decode cX11_matched 42 = .ok (.ifnull 5, 3) := by decide +kernel
theorem dX11_matched_45 : decode cX11_matched 45 = .ok (.iconst (-1), 1) := by decide +kernel
theorem dX11_matched_46 : decode cX11_matched 46 = .ok (.ireturn, 1) := by decide +kernel
theorem dX11_matched_47 : decode cX11_matched 47 = .ok (.aconst_null, 1) := by decide +kernel
theorem dX11_matched_48 : decode cX11_matched 48 = .ok (.astore 7, 2) := by decide +kernel
theorem dX11_matched_50 : decode cX11_matched 50 = .ok (.iconst 0, 1) := by decide +kernel
theorem dX11_matched_51 : decode cX11_matched 51 = .ok (.istore 8, 2) := by decide +kernel
theorem dX11_matched_53 : decode cX11_matched 53 = .ok (.iconst 0, 1) := by decide +kernel
theorem dX11_matched_54 : decode cX11_matched 54 = .ok (.istore 9, 2) := by decide +kernel
theorem dX11_matched_56 : decode cX11_matched 56 = .ok (.iload 9, 2) := by decide +kernel
theorem dX11_matched_58 : decode cX11_matched 58 = .ok (.aload 5, 2) := by decide +kernel
theorem dX11_matched_60 : decode cX11_matched 60 = .ok (.getfield 139, 3) := by decide +kernel
theorem dX11_matched_63 : decode cX11_matched 63 = .ok (.if_icmp .ge 54, 3) := by decide +kernel
theorem dX11_matched_66 : decode cX11_matched 66 = .ok (.aload 4, 2) := by decide +kernel
theorem dX11_matched_68 : decode cX11_matched 68 = .ok (.aload 6, 2) := by decide +kernel
theorem dX11_matched_70 : decode cX11_matched 70 = .ok (.getfield 253, 3) := by decide +kernel
theorem dX11_matched_73 : decode cX11_matched 73 = .ok (.aload 5, 2) := by decide +kernel
theorem dX11_matched_75 : decode cX11_matched 75 = .ok (.getfield 326, 3) := by decide +kernel
theorem dX11_matched_78 : decode cX11_matched 78 = .ok (.iload 9, 2) := by decide +kernel
theorem dX11_matched_80 : decode cX11_matched 80 = .ok (.aaload, 1) := by decide +kernel
theorem dX11_matched_81 : decode cX11_matched 81 = .ok (.getfield 253, 3) := by decide +kernel
theorem dX11_matched_84 : decode cX11_matched 84 = .ok (.land, 1) := by decide +kernel
theorem dX11_matched_85 : decode cX11_matched 85 = .ok (.invokevirtual 330, 3) := by decide +kernel
theorem dX11_matched_88 : decode cX11_matched 88 = .ok (.istore 10, 2) := by decide +kernel
theorem dX11_matched_90 : decode cX11_matched 90 = .ok (.iload 10, 2) := by decide +kernel
theorem dX11_matched_92 : decode cX11_matched 92 = .ok (.iload 8, 2) := by decide +kernel
theorem dX11_matched_94 : decode cX11_matched 94 = .ok (.if_icmp .le 17, 3) := by decide +kernel
theorem dX11_matched_97 : decode cX11_matched 97 = .ok (.iload 10, 2) := by decide +kernel
theorem dX11_matched_99 : decode cX11_matched 99 = .ok (.istore 8, 2) := by decide +kernel
theorem dX11_matched_101 : decode cX11_matched 101 = .ok (.aload 5, 2) := by decide +kernel
theorem dX11_matched_103 : decode cX11_matched 103 = .ok (.getfield 326, 3) := by decide +kernel
theorem dX11_matched_106 : decode cX11_matched 106 = .ok (.iload 9, 2) := by decide +kernel
theorem dX11_matched_108 : decode cX11_matched 108 = .ok (.aaload, 1) := by decide +kernel
theorem dX11_matched_109 : decode cX11_matched 109 = .ok (.astore 7, 2) := by decide +kernel
theorem dX11_matched_111 : decode cX11_matched 111 = .ok (.iinc 9 1, 3) := by decide +kernel
theorem dX11_matched_114 : decode cX11_matched 114 = .ok (.goto (-58), 3) := by decide +kernel
theorem dX11_matched_117 : decode cX11_matched 117 = .ok (.aload 7, 2) := by decide +kernel
theorem dX11_matched_119 : decode cX11_matched 119 = .ok (.invokestatic 211, 3) := by decide +kernel
theorem dX11_matched_122 : decode cX11_matched 122 = .ok (.ireturn, 1) := by decide +kernel
theorem dX11_alike_0 : decode cX11_alike 0 = .ok (.aload_n 0, 1) := by decide +kernel
theorem dX11_alike_1 : decode cX11_alike 1 = .ok (.iload_n 1, 1) := by decide +kernel
theorem dX11_alike_2 : decode cX11_alike 2 = .ok (.invokevirtual 144, 3) := by decide +kernel
theorem dX11_alike_5 : decode cX11_alike 5 = .ok (.astore_n 3, 1) := by decide +kernel
theorem dX11_alike_6 : decode cX11_alike 6 = .ok (.aload_n 0, 1) := by decide +kernel
theorem dX11_alike_7 : decode cX11_alike 7 = .ok (.iload_n 2, 1) := by decide +kernel
theorem dX11_alike_8 : decode cX11_alike 8 = .ok (.invokevirtual 144, 3) := by decide +kernel
theorem dX11_alike_11 : decode cX11_alike 11 = .ok (.astore 4, 2) := by decide +kernel
theorem dX11_alike_13 : decode cX11_alike 13 = .ok (.aload_n 3, 1) := by decide +kernel
theorem dX11_alike_14 : decode cX11_alike 14 = .ok (.ifnull 8, 3) := by decide +kernel
theorem dX11_alike_17 : decode cX11_alike 17 = .ok (.aload 4, 2) := by decide +kernel
theorem dX11_alike_19 : decode cX11_alike 19 = .ok (.ifnonnull 5, 3) := by decide +kernel
theorem dX11_alike_22 : decode cX11_alike 22 = .ok (.iconst 0, 1) := by decide +kernel
theorem dX11_alike_23 : decode cX11_alike 23 = .ok (.ireturn, 1) := by decide +kernel
theorem dX11_alike_24 : decode cX11_alike 24 = .ok (.aload_n 3, 1) := by decide +kernel
theorem dX11_alike_25 : decode cX11_alike 25 = .ok (.aload 4, 2) := by decide +kernel
theorem dX11_alike_27 : decode cX11_alike 27 = .ok (.invokevirtual 333, 3) := by decide +kernel
theorem dX11_alike_30 : decode cX11_alike 30 = .ok (.ifCond .ne 16, 3) := by decide +kernel
theorem dX11_alike_33 : decode cX11_alike 33 = .ok (.aload 4, 2) := by decide +kernel
theorem dX11_alike_35 : decode cX11_alike 35 = .ok (.aload_n 3, 1) := by decide +kernel
theorem dX11_alike_36 : decode cX11_alike 36 = .ok (.invokevirtual 333, 3) := by decide +kernel
theorem dX11_alike_39 : decode cX11_alike 39 = .ok (.ifCond .ne 7, 3) := by decide +kernel
theorem dX11_alike_42 : decode cX11_alike 42 = .ok (.iconst 1, 1) := by decide +kernel
theorem dX11_alike_43 : decode cX11_alike 43 = .ok (.goto 4, 3) := by decide +kernel
theorem dX11_alike_46 : decode cX11_alike 46 = .ok (.iconst 0, 1) := by decide +kernel
theorem dX11_alike_47 : decode cX11_alike 47 = .ok (.ireturn, 1) := by decide +kernel
theorem dX11_unlike_0 : decode cX11_unlike 0 = .ok (.aload_n 0, 1) := by decide +kernel
theorem dX11_unlike_1 : decode cX11_unlike 1 = .ok (.iload_n 1, 1) := by decide +kernel
theorem dX11_unlike_2 : decode cX11_unlike 2 = .ok (.invokevirtual 144, 3) := by decide +kernel
theorem dX11_unlike_5 : decode cX11_unlike 5 = .ok (.astore_n 3, 1) := by decide +kernel
theorem dX11_unlike_6 : decode cX11_unlike 6 = .ok (.aload_n 0, 1) := by decide +kernel
theorem dX11_unlike_7 : decode cX11_unlike 7 = .ok (.iload_n 2, 1) := by decide +kernel
theorem dX11_unlike_8 : decode cX11_unlike 8 = .ok (.invokevirtual 144, 3) := by decide +kernel
theorem dX11_unlike_11 : decode cX11_unlike 11 = .ok (.astore 4, 2) := by decide +kernel
theorem dX11_unlike_13 : decode cX11_unlike 13 = .ok (.aload_n 3, 1) := by decide +kernel
theorem dX11_unlike_14 : decode cX11_unlike 14 = .ok (.ifnull 8, 3) := by decide +kernel
theorem dX11_unlike_17 : decode cX11_unlike 17 = .ok (.aload 4, 2) := by decide +kernel
theorem dX11_unlike_19 : decode cX11_unlike 19 = .ok (.ifnonnull 7, 3) := by decide +kernel
theorem dX11_unlike_22 : decode cX11_unlike 22 = .ok (.iconst (-1), 1) := by decide +kernel
theorem dX11_unlike_23 : decode cX11_unlike 23 = .ok (.goto 9, 3) := by decide +kernel
theorem dX11_unlike_26 : decode cX11_unlike 26 = .ok (.aload_n 3, 1) := by decide +kernel
theorem dX11_unlike_27 : decode cX11_unlike 27 = .ok (.aload 4, 2) := by decide +kernel
theorem dX11_unlike_29 : decode cX11_unlike 29 = .ok (.invokevirtual 333, 3) := by decide +kernel
theorem dX11_unlike_32 : decode cX11_unlike 32 = .ok (.ireturn, 1) := by decide +kernel
theorem dX11_backToBack_0 : decode cX11_backToBack 0 = .ok (.aload_n 0, 1) := by decide +kernel
theorem dX11_backToBack_1 : decode cX11_backToBack 1 = .ok (.iload_n 1, 1) := by decide +kernel
theorem dX11_backToBack_2 : decode cX11_backToBack 2 = .ok (.iconst 0, 1) := by decide +kernel
theorem dX11_backToBack_3 : decode cX11_backToBack 3 = .ok (.invokevirtual 256, 3) := by decide +kernel
theorem dX11_backToBack_6 : decode cX11_backToBack 6 = .ok (.astore_n 2, 1) := by decide +kernel
theorem dX11_backToBack_7 : decode cX11_backToBack 7 = .ok (.aload_n 0, 1) := by decide +kernel
theorem dX11_backToBack_8 : decode cX11_backToBack 8 = .ok (.iload_n 1, 1) := by decide +kernel
theorem dX11_backToBack_9 : decode cX11_backToBack 9 = .ok (.iconst 1, 1) := by decide +kernel
theorem dX11_backToBack_10 : decode cX11_backToBack 10 = .ok (.invokevirtual 256, 3) := by decide +kernel
theorem dX11_backToBack_13 : decode cX11_backToBack 13 = .ok (.astore_n 3, 1) := by decide +kernel
theorem dX11_backToBack_14 : decode cX11_backToBack 14 = .ok (.aload_n 2, 1) := by decide +kernel
theorem dX11_backToBack_15 : decode cX11_backToBack 15 = .ok (.ifnull 7, 3) := by decide +kernel
theorem dX11_backToBack_18 : decode cX11_backToBack 18 = .ok (.aload_n 3, 1) := by decide +kernel
theorem dX11_backToBack_19 : decode cX11_backToBack 19 = .ok (.ifnonnull 5, 3) := by decide +kernel
theorem dX11_backToBack_22 : decode cX11_backToBack 22 = .ok (.iconst (-1), 1) := by decide +kernel
theorem dX11_backToBack_23 : decode cX11_backToBack 23 = .ok (.ireturn, 1) := by decide +kernel
theorem dX11_backToBack_24 : decode cX11_backToBack 24 = .ok (.aload_n 2, 1) := by decide +kernel
theorem dX11_backToBack_25 : decode cX11_backToBack 25 = .ok (.getfield 201, 3) := by decide +kernel
theorem dX11_backToBack_28 : decode cX11_backToBack 28 = .ok (.getfield 82, 3) := by decide +kernel
theorem dX11_backToBack_31 : decode cX11_backToBack 31 = .ok (.aload_n 3, 1) := by decide +kernel
theorem dX11_backToBack_32 : decode cX11_backToBack 32 = .ok (.getfield 201, 3) := by decide +kernel
theorem dX11_backToBack_35 : decode cX11_backToBack 35 = .ok (.getfield 82, 3) := by decide +kernel
theorem dX11_backToBack_38 : decode cX11_backToBack 38 = .ok (.invokestatic 337, 3) := by decide +kernel
theorem dX11_backToBack_41 : decode cX11_backToBack 41 = .ok (.ireturn, 1) := by decide +kernel
theorem dX11_fresh_0 : decode cX11_fresh 0 = .ok (.aload_n 0, 1) := by decide +kernel
theorem dX11_fresh_1 : decode cX11_fresh 1 = .ok (.iload_n 1, 1) := by decide +kernel
theorem dX11_fresh_2 : decode cX11_fresh 2 = .ok (.invokevirtual 144, 3) := by decide +kernel
theorem dX11_fresh_5 : decode cX11_fresh 5 = .ok (.astore_n 2, 1) := by decide +kernel
theorem dX11_fresh_6 : decode cX11_fresh 6 = .ok (.aload_n 2, 1) := by decide +kernel
theorem dX11_fresh_7 : decode cX11_fresh 7 = .ok (.ifnull 20, 3) := by decide +kernel
theorem dX11_fresh_10 : decode cX11_fresh 10 = .ok (.aload_n 0, 1) := by decide +kernel
theorem dX11_fresh_11 : decode cX11_fresh 11 = .ok (.getfield 10, 3) := by decide +kernel
theorem dX11_fresh_14 : decode cX11_fresh 14 = .ok (.invokevirtual 33, 3) := by decide +kernel
theorem dX11_fresh_17 : decode cX11_fresh 17 = .ok (.invokevirtual 37, 3) := by decide +kernel
theorem dX11_fresh_20 : decode cX11_fresh 20 = .ok (.aload_n 2, 1) := by decide +kernel
theorem dX11_fresh_21 : decode cX11_fresh 21 = .ok (.getfield 195, 3) := by decide +kernel
theorem dX11_fresh_24 : decode cX11_fresh 24 = .ok (.if_icmp .eq 5, 3) := by decide +kernel
theorem dX11_fresh_27 : decode cX11_fresh 27 = .ok (.iconst 0, 1) := by decide +kernel
theorem dX11_fresh_28 : decode cX11_fresh 28 = .ok (.ireturn, 1) := by decide +kernel
theorem dX11_fresh_29 : decode cX11_fresh 29 = .ok (.aload_n 0, 1) := by decide +kernel
theorem dX11_fresh_30 : decode cX11_fresh 30 = .ok (.invokevirtual 131, 3) := by decide +kernel
theorem dX11_fresh_33 : decode cX11_fresh 33 = .ok (.aload_n 2, 1) := by decide +kernel
theorem dX11_fresh_34 : decode cX11_fresh 34 = .ok (.invokevirtual 340, 3) := by decide +kernel
theorem dX11_fresh_37 : decode cX11_fresh 37 = .ok (.ireturn, 1) := by decide +kernel
theorem dX11_pair_0 : decode cX11_pair 0 = .ok (.aload_n 0, 1) := by decide +kernel
theorem dX11_pair_1 : decode cX11_pair 1 = .ok (.iload_n 1, 1) := by decide +kernel
theorem dX11_pair_2 : decode cX11_pair 2 = .ok (.iload_n 2, 1) := by decide +kernel
theorem dX11_pair_3 : decode cX11_pair 3 = .ok (.invokevirtual 256, 3) := by decide +kernel
theorem dX11_pair_6 : decode cX11_pair 6 = .ok (.astore 4, 2) := by decide +kernel
theorem dX11_pair_8 : decode cX11_pair 8 = .ok (.aload_n 0, 1) := by decide +kernel
theorem dX11_pair_9 : decode cX11_pair 9 = .ok (.iload_n 1, 1) := by decide +kernel
theorem dX11_pair_10 : decode cX11_pair 10 = .ok (.iload_n 3, 1) := by decide +kernel
theorem dX11_pair_11 : decode cX11_pair 11 = .ok (.invokevirtual 256, 3) := by decide +kernel
theorem dX11_pair_14 : decode cX11_pair 14 = .ok (.astore 5, 2) := by decide +kernel
theorem dX11_pair_16 : decode cX11_pair 16 = .ok (.aload 4, 2) := by decide +kernel
theorem dX11_pair_18 : decode cX11_pair 18 = .ok (.ifnull 13, 3) := by decide +kernel
theorem dX11_pair_21 : decode cX11_pair 21 = .ok (.aload 5, 2) := by decide +kernel
theorem dX11_pair_23 : decode cX11_pair 23 = .ok (.ifnull 8, 3) := by decide +kernel
theorem dX11_pair_26 : decode cX11_pair 26 = .ok (.iload_n 2, 1) := by decide +kernel
theorem dX11_pair_27 : decode cX11_pair 27 = .ok (.iload_n 3, 1) := by decide +kernel
theorem dX11_pair_28 : decode cX11_pair 28 = .ok (.if_icmp .lt 7, 3) := by decide +kernel
theorem dX11_pair_31 : decode cX11_pair 31 = .ok (.ldc2_w 244, 3) := by decide +kernel
theorem dX11_pair_34 : decode cX11_pair 34 = .ok (.lreturn, 1) := by decide +kernel
theorem dX11_pair_35 : decode cX11_pair 35 = .ok (.aload 4, 2) := by decide +kernel
theorem dX11_pair_37 : decode cX11_pair 37 = .ok (.getfield 201, 3) := by decide +kernel
theorem dX11_pair_40 : decode cX11_pair 40 = .ok (.aload 5, 2) := by decide +kernel
theorem dX11_pair_42 : decode cX11_pair 42 = .ok (.getfield 201, 3) := by decide +kernel
theorem dX11_pair_45 : decode cX11_pair 45 = .ok (.invokevirtual 344, 3) := by decide +kernel
theorem dX11_pair_48 : decode cX11_pair 48 = .ok (.lreturn, 1) := by decide +kernel
theorem dX11_nearestPair_0 : decode cX11_nearestPair 0 = .ok (.aload_n 0, 1) := by decide +kernel
theorem dX11_nearestPair_1 : decode cX11_nearestPair 1 = .ok (.iload_n 1, 1) := by decide +kernel
theorem dX11_nearestPair_2 : decode cX11_nearestPair 2 = .ok (.invokevirtual 144, 3) := by decide +kernel
theorem dX11_nearestPair_5 : decode cX11_nearestPair 5 = .ok (.astore 4, 2) := by decide +kernel
theorem dX11_nearestPair_7 : decode cX11_nearestPair 7 = .ok (.aload 4, 2) := by decide +kernel
theorem dX11_nearestPair_9 : decode cX11_nearestPair 9 = .ok (.ifnull 9, 3) := by decide +kernel
theorem dX11_nearestPair_12 : decode cX11_nearestPair 12 = .ok (.lload_n 2, 1) := by decide +kernel
theorem dX11_nearestPair_13 : decode cX11_nearestPair 13 = .ok (.lconst 0, 1) := by decide +kernel
theorem dX11_nearestPair_14 : decode cX11_nearestPair 14 = .ok (.lcmp, 1) := by decide +kernel
theorem dX11_nearestPair_15 : decode cX11_nearestPair 15 = .ok (.ifCond .ge 5, 3) := by decide +kernel
theorem dX11_nearestPair_18 : decode cX11_nearestPair 18 = .ok (.iconst (-1), 1) := by decide +kernel
theorem dX11_nearestPair_19 : decode cX11_nearestPair 19 = .ok (.ireturn, 1) := by decide +kernel
theorem dX11_nearestPair_20 : decode cX11_nearestPair 20 = .ok (.aload 4, 2) := by decide +kernel
theorem dX11_nearestPair_22 : decode cX11_nearestPair 22 = .ok (.lload_n 2, 1) := by decide +kernel
theorem dX11_nearestPair_23 : decode cX11_nearestPair 23 = .ok (.invokevirtual 348, 3) := by decide +kernel
theorem dX11_nearestPair_26 : decode cX11_nearestPair 26 = .ok (.ireturn, 1) := by decide +kernel
theorem dX11_count_0 : decode cX11_count 0 = .ok (.aload_n 0, 1) := by decide +kernel
theorem dX11_count_1 : decode cX11_count 1 = .ok (.iload_n 1, 1) := by decide +kernel
theorem dX11_count_2 : decode cX11_count 2 = .ok (.invokevirtual 144, 3) := by decide +kernel
theorem dX11_count_5 : decode cX11_count 5 = .ok (.astore 4, 2) := by decide +kernel
theorem dX11_count_7 : decode cX11_count 7 = .ok (.aload 4, 2) := by decide +kernel
theorem dX11_count_9 : decode cX11_count 9 = .ok (.ifnull 18, 3) := by decide +kernel
theorem dX11_count_12 : decode cX11_count 12 = .ok (.iload_n 2, 1) := by decide +kernel
theorem dX11_count_13 : decode cX11_count 13 = .ok (.ifCond .lt 14, 3) := by decide +kernel
theorem dX11_count_16 : decode cX11_count 16 = .ok (.iload_n 3, 1) := by decide +kernel
theorem dX11_count_17 : decode cX11_count 17 = .ok (.ifCond .lt 10, 3) := by decide +kernel
theorem dX11_count_20 : decode cX11_count 20 = .ok (.iload_n 3, 1) := by decide +kernel
theorem dX11_count_21 : decode cX11_count 21 = .ok (.sipush 200, 3) := by decide +kernel
theorem dX11_count_24 : decode cX11_count 24 = .ok (.if_icmp .le 5, 3) := by decide +kernel
theorem dX11_count_27 : decode cX11_count 27 = .ok (.iconst (-1), 1) := by decide +kernel
theorem dX11_count_28 : decode cX11_count 28 = .ok (.ireturn, 1) := by decide +kernel
theorem dX11_count_29 : decode cX11_count 29 = .ok (.iconst 0, 1) := by decide +kernel
theorem dX11_count_30 : decode cX11_count 30 = .ok (.istore 5, 2) := by decide +kernel
theorem dX11_count_32 : decode cX11_count 32 = .ok (.iconst 0, 1) := by decide +kernel
theorem dX11_count_33 : decode cX11_count 33 = .ok (.istore 6, 2) := by decide +kernel
theorem dX11_count_35 : decode cX11_count 35 = .ok (.iload 6, 2) := by decide +kernel
theorem dX11_count_37 : decode cX11_count 37 = .ok (.aload 4, 2) := by decide +kernel
theorem dX11_count_39 : decode cX11_count 39 = .ok (.getfield 139, 3) := by decide +kernel
theorem dX11_count_42 : decode cX11_count 42 = .ok (.if_icmp .ge 46, 3) := by decide +kernel
theorem dX11_count_45 : decode cX11_count 45 = .ok (.aload 4, 2) := by decide +kernel
theorem dX11_count_47 : decode cX11_count 47 = .ok (.getfield 326, 3) := by decide +kernel
theorem dX11_count_50 : decode cX11_count 50 = .ok (.iload 6, 2) := by decide +kernel
theorem dX11_count_52 : decode cX11_count 52 = .ok (.aaload, 1) := by decide +kernel
theorem dX11_count_53 : decode cX11_count 53 = .ok (.getfield 201, 3) := by decide +kernel
theorem dX11_count_56 : decode cX11_count 56 = .ok (.astore 7, 2) := by decide +kernel
theorem dX11_count_58 : decode cX11_count 58 = .ok (.aload 7, 2) := by decide +kernel
theorem dX11_count_60 : decode cX11_count 60 = .ok (.getfield 72, 3) := by decide +kernel
theorem dX11_count_63 : decode cX11_count 63 = .ok (.iload_n 2, 1) := by decide +kernel
theorem dX11_count_64 : decode cX11_count 64 = .ok (.if_icmp .lt 18, 3) := by decide +kernel
theorem dX11_count_67 : decode cX11_count 67 = .ok (.aload 7, 2) := by decide +kernel
theorem dX11_count_69 : decode cX11_count 69 = .ok (.getfield 79, 3) := by decide +kernel
theorem dX11_count_72 : decode cX11_count 72 = .ok (.invokestatic 351, 3) := by decide +kernel
theorem dX11_count_75 : decode cX11_count 75 = .ok (.iload_n 3, 1) := by decide +kernel
theorem dX11_count_76 : decode cX11_count 76 = .ok (.if_icmp .gt 6, 3) := by decide +kernel
theorem dX11_count_79 : decode cX11_count 79 = .ok (.iinc 5 1, 3) := by decide +kernel
theorem dX11_count_82 : decode cX11_count 82 = .ok (.iinc 6 1, 3) := by decide +kernel
theorem dX11_count_85 : decode cX11_count 85 = .ok (.goto (-50), 3) := by decide +kernel
theorem dX11_count_88 : decode cX11_count 88 = .ok (.iload 5, 2) := by decide +kernel
theorem dX11_count_90 : decode cX11_count 90 = .ok (.ireturn, 1) := by decide +kernel
theorem dX11_common_0 : decode cX11_common 0 = .ok (.aload_n 0, 1) := by decide +kernel
theorem dX11_common_1 : decode cX11_common 1 = .ok (.iload_n 1, 1) := by decide +kernel
theorem dX11_common_2 : decode cX11_common 2 = .ok (.invokevirtual 144, 3) := by decide +kernel
theorem dX11_common_5 : decode cX11_common 5 = .ok (.astore_n 3, 1) := by decide +kernel
theorem dX11_common_6 : decode cX11_common 6 = .ok (.aload_n 0, 1) := by decide +kernel
theorem dX11_common_7 : decode cX11_common 7 = .ok (.iload_n 2, 1) := by decide +kernel
theorem dX11_common_8 : decode cX11_common 8 = .ok (.invokevirtual 144, 3) := by decide +kernel
theorem dX11_common_11 : decode cX11_common 11 = .ok (.astore 4, 2) := by decide +kernel
theorem dX11_common_13 : decode cX11_common 13 = .ok (.aload_n 3, 1) := by decide +kernel
theorem dX11_common_14 : decode cX11_common 14 = .ok (.ifnull 8, 3) := by decide +kernel
theorem dX11_common_17 : decode cX11_common 17 = .ok (.aload 4, 2) := by decide +kernel
theorem dX11_common_19 : decode cX11_common 19 = .ok (.ifnonnull 7, 3) := by decide +kernel
theorem dX11_common_22 : decode cX11_common 22 = .ok (.iconst (-1), 1) := by decide +kernel
theorem dX11_common_23 : decode cX11_common 23 = .ok (.goto 9, 3) := by decide +kernel
theorem dX11_common_26 : decode cX11_common 26 = .ok (.aload_n 3, 1) := by decide +kernel
theorem dX11_common_27 : decode cX11_common 27 = .ok (.aload 4, 2) := by decide +kernel
theorem dX11_common_29 : decode cX11_common 29 = .ok (.invokevirtual 354, 3) := by decide +kernel
theorem dX11_common_32 : decode cX11_common 32 = .ok (.ireturn, 1) := by decide +kernel
theorem dX11_span_0 : decode cX11_span 0 = .ok (.iload_n 1, 1) := by decide +kernel
theorem dX11_span_1 : decode cX11_span 1 = .ok (.iconst (-1), 1) := by decide +kernel
theorem dX11_span_2 : decode cX11_span 2 = .ok (.if_icmp .ne 28, 3) := by decide +kernel
theorem dX11_span_5 : decode cX11_span 5 = .ok (.iload_n 2, 1) := by decide +kernel
theorem dX11_span_6 : decode cX11_span 6 = .ok (.ifCond .ne 22, 3) := by decide +kernel
theorem dX11_span_9 : decode cX11_span 9 = .ok (.iconst 0, 1) := by decide +kernel
theorem dX11_span_10 : decode cX11_span 10 = .ok (.aload_n 0, 1) := by decide +kernel
theorem dX11_span_11 : decode cX11_span 11 = .ok (.getfield 10, 3) := by decide +kernel
theorem dX11_span_14 : decode cX11_span 14 = .ok (.invokevirtual 33, 3) := by decide +kernel
theorem dX11_span_17 : decode cX11_span 17 = .ok (.invokevirtual 37, 3) := by decide +kernel
theorem dX11_span_20 : decode cX11_span 20 = .ok (.iconst 1, 1) := by decide +kernel
theorem dX11_span_21 : decode cX11_span 21 = .ok (.isub, 1) := by decide +kernel
theorem dX11_span_22 : decode cX11_span 22 = .ok (.invokestatic 108, 3) := by decide +kernel
theorem dX11_span_25 : decode cX11_span 25 = .ok (.goto 4, 3) := by decide +kernel
theorem dX11_span_28 : decode cX11_span 28 = .ok (.iconst (-1), 1) := by decide +kernel
theorem dX11_span_29 : decode cX11_span 29 = .ok (.ireturn, 1) := by decide +kernel
theorem dX11_span_30 : decode cX11_span 30 = .ok (.iload_n 1, 1) := by decide +kernel
theorem dX11_span_31 : decode cX11_span 31 = .ok (.ifCond .lt 28, 3) := by decide +kernel
theorem dX11_span_34 : decode cX11_span 34 = .ok (.iload_n 1, 1) := by decide +kernel
theorem dX11_span_35 : decode cX11_span 35 = .ok (.aload_n 0, 1) := by decide +kernel
theorem dX11_span_36 : decode cX11_span 36 = .ok (.getfield 10, 3) := by decide +kernel
theorem dX11_span_39 : decode cX11_span 39 = .ok (.invokevirtual 33, 3) := by decide +kernel
theorem dX11_span_42 : decode cX11_span 42 = .ok (.invokevirtual 37, 3) := by decide +kernel
theorem dX11_span_45 : decode cX11_span 45 = .ok (.iconst 1, 1) := by decide +kernel
theorem dX11_span_46 : decode cX11_span 46 = .ok (.isub, 1) := by decide +kernel
theorem dX11_span_47 : decode cX11_span 47 = .ok (.if_icmp .ge 12, 3) := by decide +kernel
theorem dX11_span_50 : decode cX11_span 50 = .ok (.iload_n 2, 1) := by decide +kernel
theorem dX11_span_51 : decode cX11_span 51 = .ok (.ifCond .lt 8, 3) := by decide +kernel
theorem dX11_span_54 : decode cX11_span 54 = .ok (.iload_n 2, 1) := by decide +kernel
theorem dX11_span_55 : decode cX11_span 55 = .ok (.iconst 2, 1) := by decide +kernel
theorem dX11_span_56 : decode cX11_span 56 = .ok (.if_icmp .le 5, 3) := by decide +kernel
theorem dX11_span_59 : decode cX11_span 59 = .ok (.iconst (-1), 1) := by decide +kernel
theorem dX11_span_60 : decode cX11_span 60 = .ok (.ireturn, 1) := by decide +kernel
theorem dX11_span_61 : decode cX11_span 61 = .ok (.aload_n 0, 1) := by decide +kernel
theorem dX11_span_62 : decode cX11_span 62 = .ok (.getfield 10, 3) := by decide +kernel
theorem dX11_span_65 : decode cX11_span 65 = .ok (.invokevirtual 33, 3) := by decide +kernel
theorem dX11_span_68 : decode cX11_span 68 = .ok (.iload_n 1, 1) := by decide +kernel
theorem dX11_span_69 : decode cX11_span 69 = .ok (.iload_n 2, 1) := by decide +kernel
theorem dX11_span_70 : decode cX11_span 70 = .ok (.invokevirtual 357, 3) := by decide +kernel
theorem dX11_span_73 : decode cX11_span 73 = .ok (.ireturn, 1) := by decide +kernel
theorem dX11_gap_0 : decode cX11_gap 0 = .ok (.iload_n 1, 1) := by decide +kernel
theorem dX11_gap_1 : decode cX11_gap 1 = .ok (.ifCond .lt 8, 3) := by decide +kernel
theorem dX11_gap_4 : decode cX11_gap 4 = .ok (.iload_n 1, 1) := by decide +kernel
theorem dX11_gap_5 : decode cX11_gap 5 = .ok (.iconst 1, 1) := by decide +kernel
theorem dX11_gap_6 : decode cX11_gap 6 = .ok (.if_icmp .le 5, 3) := by decide +kernel
theorem dX11_gap_9 : decode cX11_gap 9 = .ok (.iconst (-1), 1) := by decide +kernel
theorem dX11_gap_10 : decode cX11_gap 10 = .ok (.ireturn, 1) := by decide +kernel
theorem dX11_gap_11 : decode cX11_gap 11 = .ok (.aload_n 0, 1) := by decide +kernel
theorem dX11_gap_12 : decode cX11_gap 12 = .ok (.getfield 10, 3) := by decide +kernel
theorem dX11_gap_15 : decode cX11_gap 15 = .ok (.invokevirtual 33, 3) := by decide +kernel
theorem dX11_gap_18 : decode cX11_gap 18 = .ok (.iload_n 1, 1) := by decide +kernel
theorem dX11_gap_19 : decode cX11_gap 19 = .ok (.iconst 1, 1) := by decide +kernel
theorem dX11_gap_20 : decode cX11_gap 20 = .ok (.if_icmp .ne 7, 3) := by decide +kernel
theorem dX11_gap_23 : decode cX11_gap 23 = .ok (.iconst 1, 1) := by decide +kernel
theorem dX11_gap_24 : decode cX11_gap 24 = .ok (.goto 4, 3) := by decide +kernel
theorem dX11_gap_27 : decode cX11_gap 27 = .ok (.iconst 0, 1) := by decide +kernel
theorem dX11_gap_28 : decode cX11_gap 28 = .ok (.invokevirtual 360, 3) := by decide +kernel
theorem dX11_gap_31 : decode cX11_gap 31 = .ok (.ireturn, 1) := by decide +kernel
theorem dX11_tiles_0 : decode cX11_tiles 0 = .ok (.iload_n 1, 1) := by decide +kernel
theorem dX11_tiles_1 : decode cX11_tiles 1 = .ok (.invokestatic 364, 3) := by decide +kernel
theorem dX11_tiles_4 : decode cX11_tiles 4 = .ok (.ifCond .eq 12, 3) := by decide +kernel
theorem dX11_tiles_7 : decode cX11_tiles 7 = .ok (.iload_n 2, 1) := by decide +kernel
theorem dX11_tiles_8 : decode cX11_tiles 8 = .ok (.ifCond .lt 8, 3) := by decide +kernel
theorem dX11_tiles_11 : decode cX11_tiles 11 = .ok (.iload_n 2, 1) := by decide +kernel
theorem dX11_tiles_12 : decode cX11_tiles 12 = .ok (.iconst 1, 1) := by decide +kernel
theorem dX11_tiles_13 : decode cX11_tiles 13 = .ok (.if_icmp .le 5, 3) := by decide +kernel
theorem dX11_tiles_16 : decode cX11_tiles 16 = .ok (.iconst (-1), 1) := by decide +kernel
theorem dX11_tiles_17 : decode cX11_tiles 17 = .ok (.ireturn, 1) := by decide +kernel
theorem dX11_tiles_18 : decode cX11_tiles 18 = .ok (.aload_n 0, 1) := by decide +kernel
theorem dX11_tiles_19 : decode cX11_tiles 19 = .ok (.getfield 10, 3) := by decide +kernel
theorem dX11_tiles_22 : decode cX11_tiles 22 = .ok (.invokevirtual 33, 3) := by decide +kernel
theorem dX11_tiles_25 : decode cX11_tiles 25 = .ok (.iload_n 1, 1) := by decide +kernel
theorem dX11_tiles_26 : decode cX11_tiles 26 = .ok (.invokevirtual 367, 3) := by decide +kernel
theorem dX11_tiles_29 : decode cX11_tiles 29 = .ok (.astore_n 3, 1) := by decide +kernel
theorem dX11_tiles_30 : decode cX11_tiles 30 = .ok (.iload_n 2, 1) := by decide +kernel
theorem dX11_tiles_31 : decode cX11_tiles 31 = .ok (.ifCond .ne 10, 3) := by decide +kernel
theorem dX11_tiles_34 : decode cX11_tiles 34 = .ok (.aload_n 3, 1) := by decide +kernel
theorem dX11_tiles_35 : decode cX11_tiles 35 = .ok (.getfield 371, 3) := by decide +kernel
theorem dX11_tiles_38 : decode cX11_tiles 38 = .ok (.goto 7, 3) := by decide +kernel
theorem dX11_tiles_41 : decode cX11_tiles 41 = .ok (.aload_n 3, 1) := by decide +kernel
theorem dX11_tiles_42 : decode cX11_tiles 42 = .ok (.invokevirtual 376, 3) := by decide +kernel
theorem dX11_tiles_45 : decode cX11_tiles 45 = .ok (.ireturn, 1) := by decide +kernel
theorem dX11_cone_0 : decode cX11_cone 0 = .ok (.iload_n 1, 1) := by decide +kernel
theorem dX11_cone_1 : decode cX11_cone 1 = .ok (.iload_n 2, 1) := by decide +kernel
theorem dX11_cone_2 : decode cX11_cone 2 = .ok (.invokestatic 43, 3) := by decide +kernel
theorem dX11_cone_5 : decode cX11_cone 5 = .ok (.ifCond .eq 10, 3) := by decide +kernel
theorem dX11_cone_8 : decode cX11_cone 8 = .ok (.iload_n 3, 1) := by decide +kernel
theorem dX11_cone_9 : decode cX11_cone 9 = .ok (.invokestatic 113, 3) := by decide +kernel
theorem dX11_cone_12 : decode cX11_cone 12 = .ok (.ifCond .ne 5, 3) := by decide +kernel
theorem dX11_cone_15 : decode cX11_cone 15 = .ok (.iconst (-1), 1) := by decide +kernel
theorem dX11_cone_16 : decode cX11_cone 16 = .ok (.ireturn, 1) := by decide +kernel
theorem dX11_cone_17 : decode cX11_cone 17 = .ok (.new 379, 3) := by decide +kernel
theorem dX11_cone_20 : decode cX11_cone 20 = .ok (.dup, 1) := by decide +kernel
theorem dX11_cone_21 : decode cX11_cone 21 = .ok (.aload_n 0, 1) := by decide +kernel
theorem dX11_cone_22 : decode cX11_cone 22 = .ok (.getfield 10, 3) := by decide +kernel
theorem dX11_cone_25 : decode cX11_cone 25 = .ok (.invokevirtual 33, 3) := by decide +kernel
theorem dX11_cone_28 : decode cX11_cone 28 = .ok (.getfield 85, 3) := by decide +kernel
theorem dX11_cone_31 : decode cX11_cone 31 = .ok (.invokespecial 381, 3) := by decide +kernel
theorem dX11_cone_34 : decode cX11_cone 34 = .ok (.astore 5, 2) := by decide +kernel
theorem dX11_cone_36 : decode cX11_cone 36 = .ok (.aload 5, 2) := by decide +kernel
theorem dX11_cone_38 : decode cX11_cone 38 = .ok (.iload_n 1, 1) := by decide +kernel
theorem dX11_cone_39 : decode cX11_cone 39 = .ok (.iload_n 2, 1) := by decide +kernel
theorem dX11_cone_40 : decode cX11_cone 40 = .ok (.iload_n 3, 1) := by decide +kernel
theorem dX11_cone_41 : decode cX11_cone 41 = .ok (.invokevirtual 384, 3) := by decide +kernel
theorem dX11_cone_44 : decode cX11_cone 44 = .ok (.lstore 6, 2) := by decide +kernel
theorem dX11_cone_46 : decode cX11_cone 46 = .ok (.iload 4, 2) := by decide +kernel
theorem dX11_cone_48 : decode cX11_cone 48 = .ok (.tableswitch 60 0 2 #[28, 34, 42], 28) := by decide +kernel
theorem dX11_cone_76 : decode cX11_cone 76 = .ok (.lload 6, 2) := by decide +kernel
theorem dX11_cone_78 : decode cX11_cone 78 = .ok (.invokestatic 388, 3) := by decide +kernel
theorem dX11_cone_81 : decode cX11_cone 81 = .ok (.ireturn, 1) := by decide +kernel
theorem dX11_cone_82 : decode cX11_cone 82 = .ok (.aload 5, 2) := by decide +kernel
theorem dX11_cone_84 : decode cX11_cone 84 = .ok (.lload 6, 2) := by decide +kernel
theorem dX11_cone_86 : decode cX11_cone 86 = .ok (.invokevirtual 393, 3) := by decide +kernel
theorem dX11_cone_89 : decode cX11_cone 89 = .ok (.ireturn, 1) := by decide +kernel
theorem dX11_cone_90 : decode cX11_cone 90 = .ok (.aload 5, 2) := by decide +kernel
theorem dX11_cone_92 : decode cX11_cone 92 = .ok (.iload_n 1, 1) := by decide +kernel
theorem dX11_cone_93 : decode cX11_cone 93 = .ok (.iload_n 2, 1) := by decide +kernel
theorem dX11_cone_94 : decode cX11_cone 94 = .ok (.lload 6, 2) := by decide +kernel
theorem dX11_cone_96 : decode cX11_cone 96 = .ok (.invokevirtual 394, 3) := by decide +kernel
theorem dX11_cone_99 : decode cX11_cone 99 = .ok (.ifCond .eq 7, 3) := by decide +kernel
theorem dX11_cone_102 : decode cX11_cone 102 = .ok (.iconst 1, 1) := by decide +kernel
theorem dX11_cone_103 : decode cX11_cone 103 = .ok (.goto 4, 3) := by decide +kernel
theorem dX11_cone_106 : decode cX11_cone 106 = .ok (.iconst 0, 1) := by decide +kernel
theorem dX11_cone_107 : decode cX11_cone 107 = .ok (.ireturn, 1) := by decide +kernel
theorem dX11_cone_108 : decode cX11_cone 108 = .ok (.iconst (-1), 1) := by decide +kernel
theorem dX11_cone_109 : decode cX11_cone 109 = .ok (.ireturn, 1) := by decide +kernel
theorem dX11_still_0 : decode cX11_still 0 = .ok (.iload_n 1, 1) := by decide +kernel
theorem dX11_still_1 : decode cX11_still 1 = .ok (.invokestatic 113, 3) := by decide +kernel
theorem dX11_still_4 : decode cX11_still 4 = .ok (.ifCond .ne 7, 3) := by decide +kernel
theorem dX11_still_7 : decode cX11_still 7 = .ok (.ldc2_w 244, 3) := by decide +kernel
theorem dX11_still_10 : decode cX11_still 10 = .ok (.lreturn, 1) := by decide +kernel
theorem dX11_still_11 : decode cX11_still 11 = .ok (.new 379, 3) := by decide +kernel
theorem dX11_still_14 : decode cX11_still 14 = .ok (.dup, 1) := by decide +kernel
theorem dX11_still_15 : decode cX11_still 15 = .ok (.aload_n 0, 1) := by decide +kernel
theorem dX11_still_16 : decode cX11_still 16 = .ok (.getfield 10, 3) := by decide +kernel
theorem dX11_still_19 : decode cX11_still 19 = .ok (.invokevirtual 33, 3) := by decide +kernel
theorem dX11_still_22 : decode cX11_still 22 = .ok (.getfield 85, 3) := by decide +kernel
theorem dX11_still_25 : decode cX11_still 25 = .ok (.invokespecial 381, 3) := by decide +kernel
theorem dX11_still_28 : decode cX11_still 28 = .ok (.astore_n 3, 1) := by decide +kernel
theorem dX11_still_29 : decode cX11_still 29 = .ok (.aload_n 3, 1) := by decide +kernel
theorem dX11_still_30 : decode cX11_still 30 = .ok (.iload_n 1, 1) := by decide +kernel
theorem dX11_still_31 : decode cX11_still 31 = .ok (.invokevirtual 398, 3) := by decide +kernel
theorem dX11_still_34 : decode cX11_still 34 = .ok (.aload_n 3, 1) := by decide +kernel
theorem dX11_still_35 : decode cX11_still 35 = .ok (.iload_n 2, 1) := by decide +kernel
theorem dX11_still_36 : decode cX11_still 36 = .ok (.invokevirtual 402, 3) := by decide +kernel
theorem dX11_still_39 : decode cX11_still 39 = .ok (.lreturn, 1) := by decide +kernel
theorem dX11_patch_0 : decode cX11_patch 0 = .ok (.iload_n 1, 1) := by decide +kernel
theorem dX11_patch_1 : decode cX11_patch 1 = .ok (.invokestatic 113, 3) := by decide +kernel
theorem dX11_patch_4 : decode cX11_patch 4 = .ok (.ifCond .eq 10, 3) := by decide +kernel
theorem dX11_patch_7 : decode cX11_patch 7 = .ok (.iload_n 2, 1) := by decide +kernel
theorem dX11_patch_8 : decode cX11_patch 8 = .ok (.invokestatic 278, 3) := by decide +kernel
theorem dX11_patch_11 : decode cX11_patch 11 = .ok (.ifCond .ne 7, 3) := by decide +kernel
theorem dX11_patch_14 : decode cX11_patch 14 = .ok (.ldc2_w 244, 3) := by decide +kernel
theorem dX11_patch_17 : decode cX11_patch 17 = .ok (.lreturn, 1) := by decide +kernel
theorem dX11_patch_18 : decode cX11_patch 18 = .ok (.new 379, 3) := by decide +kernel
theorem dX11_patch_21 : decode cX11_patch 21 = .ok (.dup, 1) := by decide +kernel
theorem dX11_patch_22 : decode cX11_patch 22 = .ok (.aload_n 0, 1) := by decide +kernel
theorem dX11_patch_23 : decode cX11_patch 23 = .ok (.getfield 10, 3) := by decide +kernel
theorem dX11_patch_26 : decode cX11_patch 26 = .ok (.invokevirtual 33, 3) := by decide +kernel
theorem dX11_patch_29 : decode cX11_patch 29 = .ok (.getfield 85, 3) := by decide +kernel
theorem dX11_patch_32 : decode cX11_patch 32 = .ok (.invokespecial 381, 3) := by decide +kernel
theorem dX11_patch_35 : decode cX11_patch 35 = .ok (.astore 4, 2) := by decide +kernel
theorem dX11_patch_37 : decode cX11_patch 37 = .ok (.aload 4, 2) := by decide +kernel
theorem dX11_patch_39 : decode cX11_patch 39 = .ok (.iload_n 1, 1) := by decide +kernel
theorem dX11_patch_40 : decode cX11_patch 40 = .ok (.invokevirtual 398, 3) := by decide +kernel
theorem dX11_patch_43 : decode cX11_patch 43 = .ok (.aload 4, 2) := by decide +kernel
theorem dX11_patch_45 : decode cX11_patch 45 = .ok (.iload_n 2, 1) := by decide +kernel
theorem dX11_patch_46 : decode cX11_patch 46 = .ok (.invokevirtual 406, 3) := by decide +kernel
theorem dX11_patch_49 : decode cX11_patch 49 = .ok (.aload 4, 2) := by decide +kernel
theorem dX11_patch_51 : decode cX11_patch 51 = .ok (.iload_n 3, 1) := by decide +kernel
theorem dX11_patch_52 : decode cX11_patch 52 = .ok (.invokevirtual 409, 3) := by decide +kernel
theorem dX11_patch_55 : decode cX11_patch 55 = .ok (.lreturn, 1) := by decide +kernel
theorem dX11_pedestal_0 : decode cX11_pedestal 0 = .ok (.iload_n 1, 1) := by decide +kernel
theorem dX11_pedestal_1 : decode cX11_pedestal 1 = .ok (.invokestatic 364, 3) := by decide +kernel
theorem dX11_pedestal_4 : decode cX11_pedestal 4 = .ok (.ifCond .eq 20, 3) := by decide +kernel
theorem dX11_pedestal_7 : decode cX11_pedestal 7 = .ok (.aload_n 0, 1) := by decide +kernel
theorem dX11_pedestal_8 : decode cX11_pedestal 8 = .ok (.getfield 10, 3) := by decide +kernel
theorem dX11_pedestal_11 : decode cX11_pedestal 11 = .ok (.invokevirtual 33, 3) := by decide +kernel
theorem dX11_pedestal_14 : decode cX11_pedestal 14 = .ok (.iload_n 1, 1) := by decide +kernel
theorem dX11_pedestal_15 : decode cX11_pedestal 15 = .ok (.invokevirtual 367, 3) := by decide +kernel
theorem dX11_pedestal_18 : decode cX11_pedestal 18 = .ok (.invokevirtual 412, 3) := by decide +kernel
theorem dX11_pedestal_21 : decode cX11_pedestal 21 = .ok (.goto 4, 3) := by decide +kernel
theorem dX11_pedestal_24 : decode cX11_pedestal 24 = .ok (.iconst (-1), 1) := by decide +kernel
theorem dX11_pedestal_25 : decode cX11_pedestal 25 = .ok (.ireturn, 1) := by decide +kernel
theorem dX11_clean_0 : decode cX11_clean 0 = .ok (.aload_n 0, 1) := by decide +kernel
theorem dX11_clean_1 : decode cX11_clean 1 = .ok (.iload_n 1, 1) := by decide +kernel
theorem dX11_clean_2 : decode cX11_clean 2 = .ok (.invokevirtual 144, 3) := by decide +kernel
theorem dX11_clean_5 : decode cX11_clean 5 = .ok (.astore 4, 2) := by decide +kernel
theorem dX11_clean_7 : decode cX11_clean 7 = .ok (.aload_n 0, 1) := by decide +kernel
theorem dX11_clean_8 : decode cX11_clean 8 = .ok (.iload_n 1, 1) := by decide +kernel
theorem dX11_clean_9 : decode cX11_clean 9 = .ok (.iload_n 2, 1) := by decide +kernel
theorem dX11_clean_10 : decode cX11_clean 10 = .ok (.invokevirtual 159, 3) := by decide +kernel
theorem dX11_clean_13 : decode cX11_clean 13 = .ok (.astore 5, 2) := by decide +kernel
theorem dX11_clean_15 : decode cX11_clean 15 = .ok (.aload 4, 2) := by decide +kernel
theorem dX11_clean_17 : decode cX11_clean 17 = .ok (.ifnull 23, 3) := by decide +kernel
theorem dX11_clean_20 : decode cX11_clean 20 = .ok (.aload 5, 2) := by decide +kernel
theorem dX11_clean_22 : decode cX11_clean 22 = .ok (.ifnull 18, 3) := by decide +kernel
theorem dX11_clean_25 : decode cX11_clean 25 = .ok (.aload 5, 2) := by decide +kernel
theorem dX11_clean_27 : decode cX11_clean 27 = .ok (.getfield 218, 3) := by decide +kernel
theorem dX11_clean_30 : decode cX11_clean 30 = .ok (.ifnonnull 10, 3) := by decide +kernel
theorem dX11_clean_33 : decode cX11_clean 33 = .ok (.iload_n 3, 1) := by decide +kernel
theorem dX11_clean_34 : decode cX11_clean 34 = .ok (.invokestatic 364, 3) := by decide +kernel
theorem dX11_clean_37 : decode cX11_clean 37 = .ok (.ifCond .ne 5, 3) := by decide +kernel
theorem dX11_clean_40 : decode cX11_clean 40 = .ok (.iconst (-1), 1) := by decide +kernel
theorem dX11_clean_41 : decode cX11_clean 41 = .ok (.ireturn, 1) := by decide +kernel
theorem dX11_clean_42 : decode cX11_clean 42 = .ok (.aload_n 0, 1) := by decide +kernel
theorem dX11_clean_43 : decode cX11_clean 43 = .ok (.getfield 10, 3) := by decide +kernel
theorem dX11_clean_46 : decode cX11_clean 46 = .ok (.invokevirtual 33, 3) := by decide +kernel
theorem dX11_clean_49 : decode cX11_clean 49 = .ok (.iload_n 3, 1) := by decide +kernel
theorem dX11_clean_50 : decode cX11_clean 50 = .ok (.invokevirtual 367, 3) := by decide +kernel
theorem dX11_clean_53 : decode cX11_clean 53 = .ok (.invokevirtual 412, 3) := by decide +kernel
theorem dX11_clean_56 : decode cX11_clean 56 = .ok (.istore 6, 2) := by decide +kernel
theorem dX11_clean_58 : decode cX11_clean 58 = .ok (.iconst 0, 1) := by decide +kernel
theorem dX11_clean_59 : decode cX11_clean 59 = .ok (.aload 5, 2) := by decide +kernel
theorem dX11_clean_61 : decode cX11_clean 61 = .ok (.getfield 201, 3) := by decide +kernel
theorem dX11_clean_64 : decode cX11_clean 64 = .ok (.getfield 72, 3) := by decide +kernel
theorem dX11_clean_67 : decode cX11_clean 67 = .ok (.iload 6, 2) := by decide +kernel
theorem dX11_clean_69 : decode cX11_clean 69 = .ok (.aload 4, 2) := by decide +kernel
theorem dX11_clean_71 : decode cX11_clean 71 = .ok (.aload 5, 2) := by decide +kernel
theorem dX11_clean_73 : decode cX11_clean 73 = .ok (.iload_n 3, 1) := by decide +kernel
theorem dX11_clean_74 : decode cX11_clean 74 = .ok (.invokevirtual 415, 3) := by decide +kernel
theorem dX11_clean_77 : decode cX11_clean 77 = .ok (.imul, 1) := by decide +kernel
theorem dX11_clean_78 : decode cX11_clean 78 = .ok (.isub, 1) := by decide +kernel
theorem dX11_clean_79 : decode cX11_clean 79 = .ok (.invokestatic 108, 3) := by decide +kernel
theorem dX11_clean_82 : decode cX11_clean 82 = .ok (.ireturn, 1) := by decide +kernel
theorem dX11_balance_0 : decode cX11_balance 0 = .ok (.iload_n 1, 1) := by decide +kernel
theorem dX11_balance_1 : decode cX11_balance 1 = .ok (.invokestatic 419, 3) := by decide +kernel
theorem dX11_balance_4 : decode cX11_balance 4 = .ok (.ifCond .eq 17, 3) := by decide +kernel
theorem dX11_balance_7 : decode cX11_balance 7 = .ok (.aload_n 0, 1) := by decide +kernel
theorem dX11_balance_8 : decode cX11_balance 8 = .ok (.getfield 10, 3) := by decide +kernel
theorem dX11_balance_11 : decode cX11_balance 11 = .ok (.invokevirtual 33, 3) := by decide +kernel
theorem dX11_balance_14 : decode cX11_balance 14 = .ok (.iload_n 1, 1) := by decide +kernel
theorem dX11_balance_15 : decode cX11_balance 15 = .ok (.invokevirtual 422, 3) := by decide +kernel
theorem dX11_balance_18 : decode cX11_balance 18 = .ok (.goto 4, 3) := by decide +kernel
theorem dX11_balance_21 : decode cX11_balance 21 = .ok (.iconst 0, 1) := by decide +kernel
theorem dX11_balance_22 : decode cX11_balance 22 = .ok (.ireturn, 1) := by decide +kernel
theorem dX11_axis_0 : decode cX11_axis 0 = .ok (.iconst 0, 1) := by decide +kernel
theorem dX11_axis_1 : decode cX11_axis 1 = .ok (.istore_n 1, 1) := by decide +kernel
theorem dX11_axis_2 : decode cX11_axis 2 = .ok (.aload_n 0, 1) := by decide +kernel
theorem dX11_axis_3 : decode cX11_axis 3 = .ok (.getfield 10, 3) := by decide +kernel
theorem dX11_axis_6 : decode cX11_axis 6 = .ok (.invokevirtual 33, 3) := by decide +kernel
theorem dX11_axis_9 : decode cX11_axis 9 = .ok (.iconst 0, 1) := by decide +kernel
theorem dX11_axis_10 : decode cX11_axis 10 = .ok (.invokevirtual 422, 3) := by decide +kernel
theorem dX11_axis_13 : decode cX11_axis 13 = .ok (.istore_n 2, 1) := by decide +kernel
theorem dX11_axis_14 : decode cX11_axis 14 = .ok (.iconst 1, 1) := by decide +kernel
theorem dX11_axis_15 : decode cX11_axis 15 = .ok (.istore_n 3, 1) := by decide +kernel
theorem dX11_axis_16 : decode cX11_axis 16 = .ok (.iload_n 3, 1) := by decide +kernel
theorem dX11_axis_17 : decode cX11_axis 17 = .ok (.sipush 360, 3) := by decide +kernel
theorem dX11_axis_20 : decode cX11_axis 20 = .ok (.if_icmp .ge 33, 3) := by decide +kernel
theorem dX11_axis_23 : decode cX11_axis 23 = .ok (.aload_n 0, 1) := by decide +kernel
theorem dX11_axis_24 : decode cX11_axis 24 = .ok (.getfield 10, 3) := by decide +kernel
theorem dX11_axis_27 : decode cX11_axis 27 = .ok (.invokevirtual 33, 3) := by decide +kernel
theorem dX11_axis_30 : decode cX11_axis 30 = .ok (.iload_n 3, 1) := by decide +kernel
theorem dX11_axis_31 : decode cX11_axis 31 = .ok (.invokevirtual 422, 3) := by decide +kernel
theorem dX11_axis_34 : decode cX11_axis 34 = .ok (.istore 4, 2) := by decide +kernel
theorem dX11_axis_36 : decode cX11_axis 36 = .ok (.iload 4, 2) := by decide +kernel
theorem dX11_axis_38 : decode cX11_axis 38 = .ok (.iload_n 2, 1) := by decide +kernel
theorem dX11_axis_39 : decode cX11_axis 39 = .ok (.if_icmp .le 8, 3) := by decide +kernel
theorem dX11_axis_42 : decode cX11_axis 42 = .ok (.iload 4, 2) := by decide +kernel
theorem dX11_axis_44 : decode cX11_axis 44 = .ok (.istore_n 2, 1) := by decide +kernel
theorem dX11_axis_45 : decode cX11_axis 45 = .ok (.iload_n 3, 1) := by decide +kernel
theorem dX11_axis_46 : decode cX11_axis 46 = .ok (.istore_n 1, 1) := by decide +kernel
theorem dX11_axis_47 : decode cX11_axis 47 = .ok (.iinc 3 1, 3) := by decide +kernel
theorem dX11_axis_50 : decode cX11_axis 50 = .ok (.goto (-34), 3) := by decide +kernel
theorem dX11_axis_53 : decode cX11_axis 53 = .ok (.iload_n 1, 1) := by decide +kernel
theorem dX11_axis_54 : decode cX11_axis 54 = .ok (.ireturn, 1) := by decide +kernel
theorem dX11_image_0 : decode cX11_image 0 = .ok (.aload_n 0, 1) := by decide +kernel
theorem dX11_image_1 : decode cX11_image 1 = .ok (.aload_n 0, 1) := by decide +kernel
theorem dX11_image_2 : decode cX11_image 2 = .ok (.getfield 10, 3) := by decide +kernel
theorem dX11_image_5 : decode cX11_image 5 = .ok (.putfield 24, 3) := by decide +kernel
theorem dX11_image_8 : decode cX11_image 8 = .ok (.aload_n 0, 1) := by decide +kernel
theorem dX11_image_9 : decode cX11_image 9 = .ok (.getfield 16, 3) := by decide +kernel
theorem dX11_image_12 : decode cX11_image 12 = .ok (.iconst 0, 1) := by decide +kernel
theorem dX11_image_13 : decode cX11_image 13 = .ok (.aload_n 0, 1) := by decide +kernel
theorem dX11_image_14 : decode cX11_image 14 = .ok (.getfield 27, 3) := by decide +kernel
theorem dX11_image_17 : decode cX11_image 17 = .ok (.iconst 0, 1) := by decide +kernel
theorem dX11_image_18 : decode cX11_image 18 = .ok (.bipush 20, 2) := by decide +kernel
theorem dX11_image_20 : decode cX11_image 20 = .ok (.invokestatic 425, 3) := by decide +kernel
theorem dX11_image_23 : decode cX11_image 23 = .ok (.aload_n 0, 1) := by decide +kernel
theorem dX11_image_24 : decode cX11_image 24 = .ok (.aload_n 0, 1) := by decide +kernel
theorem dX11_image_25 : decode cX11_image 25 = .ok (.getfield 20, 3) := by decide +kernel
theorem dX11_image_28 : decode cX11_image 28 = .ok (.putfield 30, 3) := by decide +kernel
theorem dX11_image_31 : decode cX11_image 31 = .ok (.aload_n 0, 1) := by decide +kernel
theorem dX11_image_32 : decode cX11_image 32 = .ok (.getfield 10, 3) := by decide +kernel
theorem dX11_image_35 : decode cX11_image 35 = .ok (.invokevirtual 33, 3) := by decide +kernel
theorem dX11_image_38 : decode cX11_image 38 = .ok (.invokevirtual 37, 3) := by decide +kernel
theorem dX11_image_41 : decode cX11_image 41 = .ok (.ireturn, 1) := by decide +kernel
theorem dX11_back_0 : decode cX11_back 0 = .ok (.aload_n 0, 1) := by decide +kernel
theorem dX11_back_1 : decode cX11_back 1 = .ok (.aload_n 0, 1) := by decide +kernel
theorem dX11_back_2 : decode cX11_back 2 = .ok (.getfield 24, 3) := by decide +kernel
theorem dX11_back_5 : decode cX11_back 5 = .ok (.putfield 10, 3) := by decide +kernel
theorem dX11_back_8 : decode cX11_back 8 = .ok (.aload_n 0, 1) := by decide +kernel
theorem dX11_back_9 : decode cX11_back 9 = .ok (.getfield 27, 3) := by decide +kernel
theorem dX11_back_12 : decode cX11_back 12 = .ok (.iconst 0, 1) := by decide +kernel
theorem dX11_back_13 : decode cX11_back 13 = .ok (.aload_n 0, 1) := by decide +kernel
theorem dX11_back_14 : decode cX11_back 14 = .ok (.getfield 16, 3) := by decide +kernel
theorem dX11_back_17 : decode cX11_back 17 = .ok (.iconst 0, 1) := by decide +kernel
theorem dX11_back_18 : decode cX11_back 18 = .ok (.bipush 20, 2) := by decide +kernel
theorem dX11_back_20 : decode cX11_back 20 = .ok (.invokestatic 425, 3) := by decide +kernel
theorem dX11_back_23 : decode cX11_back 23 = .ok (.aload_n 0, 1) := by decide +kernel
theorem dX11_back_24 : decode cX11_back 24 = .ok (.aload_n 0, 1) := by decide +kernel
theorem dX11_back_25 : decode cX11_back 25 = .ok (.getfield 30, 3) := by decide +kernel
theorem dX11_back_28 : decode cX11_back 28 = .ok (.putfield 20, 3) := by decide +kernel
theorem dX11_back_31 : decode cX11_back 31 = .ok (.aload_n 0, 1) := by decide +kernel
theorem dX11_back_32 : decode cX11_back 32 = .ok (.getfield 10, 3) := by decide +kernel
theorem dX11_back_35 : decode cX11_back 35 = .ok (.invokevirtual 33, 3) := by decide +kernel
theorem dX11_back_38 : decode cX11_back 38 = .ok (.invokevirtual 37, 3) := by decide +kernel
theorem dX11_back_41 : decode cX11_back 41 = .ok (.ireturn, 1) := by decide +kernel
theorem dX11_steps_0 : decode cX11_steps 0 = .ok (.aload_n 0, 1) := by decide +kernel
theorem dX11_steps_1 : decode cX11_steps 1 = .ok (.getfield 20, 3) := by decide +kernel
theorem dX11_steps_4 : decode cX11_steps 4 = .ok (.ireturn, 1) := by decide +kernel
theorem dX11_takeStep_0 : decode cX11_takeStep 0 = .ok (.aload_n 0, 1) := by decide +kernel
theorem dX11_takeStep_1 : decode cX11_takeStep 1 = .ok (.getfield 20, 3) := by decide +kernel
theorem dX11_takeStep_4 : decode cX11_takeStep 4 = .ok (.bipush 20, 2) := by decide +kernel
theorem dX11_takeStep_6 : decode cX11_takeStep 6 = .ok (.if_icmp .lt 24, 3) := by decide +kernel
theorem dX11_takeStep_9 : decode cX11_takeStep 9 = .ok (.aload_n 0, 1) := by decide +kernel
theorem dX11_takeStep_10 : decode cX11_takeStep 10 = .ok (.getfield 16, 3) := by decide +kernel
theorem dX11_takeStep_13 : decode cX11_takeStep 13 = .ok (.iconst 1, 1) := by decide +kernel
theorem dX11_takeStep_14 : decode cX11_takeStep 14 = .ok (.aload_n 0, 1) := by decide +kernel
theorem dX11_takeStep_15 : decode cX11_takeStep 15 = .ok (.getfield 16, 3) := by decide +kernel
theorem dX11_takeStep_18 : decode cX11_takeStep 18 = .ok (.iconst 0, 1) := by decide +kernel
theorem dX11_takeStep_19 : decode cX11_takeStep 19 = .ok (.bipush 19, 2) := by decide +kernel
theorem dX11_takeStep_21 : decode cX11_takeStep 21 = .ok (.invokestatic 425, 3) := by decide +kernel
theorem dX11_takeStep_24 : decode cX11_takeStep 24 = .ok (.aload_n 0, 1) := by decide +kernel
theorem dX11_takeStep_25 : decode cX11_takeStep 25 = .ok (.bipush 19, 2) := by decide +kernel
theorem dX11_takeStep_27 : decode cX11_takeStep 27 = .ok (.putfield 20, 3) := by decide +kernel
theorem dX11_takeStep_30 : decode cX11_takeStep 30 = .ok (.aload_n 0, 1) := by decide +kernel
theorem dX11_takeStep_31 : decode cX11_takeStep 31 = .ok (.getfield 16, 3) := by decide +kernel
theorem dX11_takeStep_34 : decode cX11_takeStep 34 = .ok (.aload_n 0, 1) := by decide +kernel
theorem dX11_takeStep_35 : decode cX11_takeStep 35 = .ok (.getfield 20, 3) := by decide +kernel
theorem dX11_takeStep_38 : decode cX11_takeStep 38 = .ok (.aload_n 0, 1) := by decide +kernel
theorem dX11_takeStep_39 : decode cX11_takeStep 39 = .ok (.getfield 10, 3) := by decide +kernel
theorem dX11_takeStep_42 : decode cX11_takeStep 42 = .ok (.aastore, 1) := by decide +kernel
theorem dX11_takeStep_43 : decode cX11_takeStep 43 = .ok (.aload_n 0, 1) := by decide +kernel
theorem dX11_takeStep_44 : decode cX11_takeStep 44 = .ok (.dup, 1) := by decide +kernel
theorem dX11_takeStep_45 : decode cX11_takeStep 45 = .ok (.getfield 20, 3) := by decide +kernel
theorem dX11_takeStep_48 : decode cX11_takeStep 48 = .ok (.iconst 1, 1) := by decide +kernel
theorem dX11_takeStep_49 : decode cX11_takeStep 49 = .ok (.iadd, 1) := by decide +kernel
theorem dX11_takeStep_50 : decode cX11_takeStep 50 = .ok (.putfield 20, 3) := by decide +kernel
theorem dX11_takeStep_53 : decode cX11_takeStep 53 = .ok (.aload_n 0, 1) := by decide +kernel
theorem dX11_takeStep_54 : decode cX11_takeStep 54 = .ok (.aload_n 1, 1) := by decide +kernel
theorem dX11_takeStep_55 : decode cX11_takeStep 55 = .ok (.putfield 10, 3) := by decide +kernel
theorem dX11_takeStep_58 : decode cX11_takeStep 58 = .ok (.return_, 1) := by decide +kernel
theorem dX11_replaceTrack_0 : decode cX11_replaceTrack 0 = .ok (.aload_n 0, 1) := by decide +kernel
theorem dX11_replaceTrack_1 : decode cX11_replaceTrack 1 = .ok (.getfield 10, 3) := by decide +kernel
theorem dX11_replaceTrack_4 : decode cX11_replaceTrack 4 = .ok (.invokevirtual 33, 3) := by decide +kernel
theorem dX11_replaceTrack_7 : decode cX11_replaceTrack 7 = .ok (.aload_n 0, 1) := by decide +kernel
theorem dX11_replaceTrack_8 : decode cX11_replaceTrack 8 = .ok (.getfield 10, 3) := by decide +kernel
theorem dX11_replaceTrack_11 : decode cX11_replaceTrack 11 = .ok (.invokevirtual 33, 3) := by decide +kernel
theorem dX11_replaceTrack_14 : decode cX11_replaceTrack 14 = .ok (.invokevirtual 37, 3) := by decide +kernel
theorem dX11_replaceTrack_17 : decode cX11_replaceTrack 17 = .ok (.invokevirtual 51, 3) := by decide +kernel
theorem dX11_replaceTrack_20 : decode cX11_replaceTrack 20 = .ok (.astore_n 2, 1) := by decide +kernel
theorem dX11_replaceTrack_21 : decode cX11_replaceTrack 21 = .ok (.aload_n 2, 1) := by decide +kernel
theorem dX11_replaceTrack_22 : decode cX11_replaceTrack 22 = .ok (.aload_n 1, 1) := by decide +kernel
theorem dX11_replaceTrack_23 : decode cX11_replaceTrack 23 = .ok (.getfield 300, 3) := by decide +kernel
theorem dX11_replaceTrack_26 : decode cX11_replaceTrack 26 = .ok (.aload_n 1, 1) := by decide +kernel
theorem dX11_replaceTrack_27 : decode cX11_replaceTrack 27 = .ok (.aastore, 1) := by decide +kernel
theorem dX11_replaceTrack_28 : decode cX11_replaceTrack 28 = .ok (.aload_n 0, 1) := by decide +kernel
theorem dX11_replaceTrack_29 : decode cX11_replaceTrack 29 = .ok (.aload_n 0, 1) := by decide +kernel
theorem dX11_replaceTrack_30 : decode cX11_replaceTrack 30 = .ok (.getfield 10, 3) := by decide +kernel
theorem dX11_replaceTrack_33 : decode cX11_replaceTrack 33 = .ok (.aload_n 2, 1) := by decide +kernel
theorem dX11_replaceTrack_34 : decode cX11_replaceTrack 34 = .ok (.invokevirtual 60, 3) := by decide +kernel
theorem dX11_replaceTrack_37 : decode cX11_replaceTrack 37 = .ok (.invokevirtual 64, 3) := by decide +kernel
theorem dX11_replaceTrack_40 : decode cX11_replaceTrack 40 = .ok (.return_, 1) := by decide +kernel
theorem dX11_gatheredNow_0 : decode cX11_gatheredNow 0 = .ok (.new 431, 3) := by decide +kernel
theorem dX11_gatheredNow_3 : decode cX11_gatheredNow 3 = .ok (.dup, 1) := by decide +kernel
theorem dX11_gatheredNow_4 : decode cX11_gatheredNow 4 = .ok (.aload_n 0, 1) := by decide +kernel
theorem dX11_gatheredNow_5 : decode cX11_gatheredNow 5 = .ok (.getfield 10, 3) := by decide +kernel
theorem dX11_gatheredNow_8 : decode cX11_gatheredNow 8 = .ok (.invokevirtual 33, 3) := by decide +kernel
theorem dX11_gatheredNow_11 : decode cX11_gatheredNow 11 = .ok (.getfield 85, 3) := by decide +kernel
theorem dX11_gatheredNow_14 : decode cX11_gatheredNow 14 = .ok (.aload_n 0, 1) := by decide +kernel
theorem dX11_gatheredNow_15 : decode cX11_gatheredNow 15 = .ok (.getfield 10, 3) := by decide +kernel
theorem dX11_gatheredNow_18 : decode cX11_gatheredNow 18 = .ok (.getfield 116, 3) := by decide +kernel
theorem dX11_gatheredNow_21 : decode cX11_gatheredNow 21 = .ok (.aload_n 0, 1) := by decide +kernel
theorem dX11_gatheredNow_22 : decode cX11_gatheredNow 22 = .ok (.getfield 10, 3) := by decide +kernel
theorem dX11_gatheredNow_25 : decode cX11_gatheredNow 25 = .ok (.getfield 122, 3) := by decide +kernel
theorem dX11_gatheredNow_28 : decode cX11_gatheredNow 28 = .ok (.aload_n 0, 1) := by decide +kernel
theorem dX11_gatheredNow_29 : decode cX11_gatheredNow 29 = .ok (.getfield 10, 3) := by decide +kernel
theorem dX11_gatheredNow_32 : decode cX11_gatheredNow 32 = .ok (.getfield 125, 3) := by decide +kernel
theorem dX11_gatheredNow_35 : decode cX11_gatheredNow 35 = .ok (.invokespecial 433, 3) := by decide +kernel
theorem dX11_gatheredNow_38 : decode cX11_gatheredNow 38 = .ok (.invokevirtual 436, 3) := by decide +kernel
theorem dX11_gatheredNow_41 : decode cX11_gatheredNow 41 = .ok (.areturn, 1) := by decide +kernel
theorem dX11_treeAt_0 : decode cX11_treeAt 0 = .ok (.iload_n 1, 1) := by decide +kernel
theorem dX11_treeAt_1 : decode cX11_treeAt 1 = .ok (.invokestatic 128, 3) := by decide +kernel
theorem dX11_treeAt_4 : decode cX11_treeAt 4 = .ok (.ifCond .eq 15, 3) := by decide +kernel
theorem dX11_treeAt_7 : decode cX11_treeAt 7 = .ok (.aload_n 0, 1) := by decide +kernel
theorem dX11_treeAt_8 : decode cX11_treeAt 8 = .ok (.getfield 10, 3) := by decide +kernel
theorem dX11_treeAt_11 : decode cX11_treeAt 11 = .ok (.getfield 439, 3) := by decide +kernel
theorem dX11_treeAt_14 : decode cX11_treeAt 14 = .ok (.iload_n 1, 1) := by decide +kernel
theorem dX11_treeAt_15 : decode cX11_treeAt 15 = .ok (.aaload, 1) := by decide +kernel
theorem dX11_treeAt_16 : decode cX11_treeAt 16 = .ok (.goto 4, 3) := by decide +kernel
theorem dX11_treeAt_19 : decode cX11_treeAt 19 = .ok (.aconst_null, 1) := by decide +kernel
theorem dX11_treeAt_20 : decode cX11_treeAt 20 = .ok (.areturn, 1) := by decide +kernel
theorem dX11_knotAt_0 : decode cX11_knotAt 0 = .ok (.aload_n 0, 1) := by decide +kernel
theorem dX11_knotAt_1 : decode cX11_knotAt 1 = .ok (.iload_n 1, 1) := by decide +kernel
theorem dX11_knotAt_2 : decode cX11_knotAt 2 = .ok (.invokevirtual 144, 3) := by decide +kernel
theorem dX11_knotAt_5 : decode cX11_knotAt 5 = .ok (.astore_n 3, 1) := by decide +kernel
theorem dX11_knotAt_6 : decode cX11_knotAt 6 = .ok (.aload_n 3, 1) := by decide +kernel
theorem dX11_knotAt_7 : decode cX11_knotAt 7 = .ok (.ifnonnull 7, 3) := by decide +kernel
theorem dX11_knotAt_10 : decode cX11_knotAt 10 = .ok (.aconst_null, 1) := by decide +kernel
theorem dX11_knotAt_11 : decode cX11_knotAt 11 = .ok (.goto 8, 3) := by decide +kernel
theorem dX11_knotAt_14 : decode cX11_knotAt 14 = .ok (.aload_n 3, 1) := by decide +kernel
theorem dX11_knotAt_15 : decode cX11_knotAt 15 = .ok (.iload_n 2, 1) := by decide +kernel
theorem dX11_knotAt_16 : decode cX11_knotAt 16 = .ok (.invokevirtual 443, 3) := by decide +kernel
theorem dX11_knotAt_19 : decode cX11_knotAt 19 = .ok (.areturn, 1) := by decide +kernel
theorem dX11_stepAt_0 : decode cX11_stepAt 0 = .ok (.aload_n 0, 1) := by decide +kernel
theorem dX11_stepAt_1 : decode cX11_stepAt 1 = .ok (.iload_n 1, 1) := by decide +kernel
theorem dX11_stepAt_2 : decode cX11_stepAt 2 = .ok (.invokevirtual 144, 3) := by decide +kernel
theorem dX11_stepAt_5 : decode cX11_stepAt 5 = .ok (.astore_n 3, 1) := by decide +kernel
theorem dX11_stepAt_6 : decode cX11_stepAt 6 = .ok (.aload_n 3, 1) := by decide +kernel
theorem dX11_stepAt_7 : decode cX11_stepAt 7 = .ok (.ifnull 15, 3) := by decide +kernel
theorem dX11_stepAt_10 : decode cX11_stepAt 10 = .ok (.iload_n 2, 1) := by decide +kernel
theorem dX11_stepAt_11 : decode cX11_stepAt 11 = .ok (.ifCond .lt 11, 3) := by decide +kernel
theorem dX11_stepAt_14 : decode cX11_stepAt 14 = .ok (.iload_n 2, 1) := by decide +kernel
theorem dX11_stepAt_15 : decode cX11_stepAt 15 = .ok (.aload_n 3, 1) := by decide +kernel
theorem dX11_stepAt_16 : decode cX11_stepAt 16 = .ok (.getfield 192, 3) := by decide +kernel
theorem dX11_stepAt_19 : decode cX11_stepAt 19 = .ok (.if_icmp .lt 7, 3) := by decide +kernel
theorem dX11_stepAt_22 : decode cX11_stepAt 22 = .ok (.aconst_null, 1) := by decide +kernel
theorem dX11_stepAt_23 : decode cX11_stepAt 23 = .ok (.goto 9, 3) := by decide +kernel
theorem dX11_stepAt_26 : decode cX11_stepAt 26 = .ok (.aload_n 3, 1) := by decide +kernel
theorem dX11_stepAt_27 : decode cX11_stepAt 27 = .ok (.getfield 445, 3) := by decide +kernel
theorem dX11_stepAt_30 : decode cX11_stepAt 30 = .ok (.iload_n 2, 1) := by decide +kernel
theorem dX11_stepAt_31 : decode cX11_stepAt 31 = .ok (.aaload, 1) := by decide +kernel
theorem dX11_stepAt_32 : decode cX11_stepAt 32 = .ok (.areturn, 1) := by decide +kernel
theorem dX11_jetByWeight_0 : decode cX11_jetByWeight 0 = .ok (.aload_n 0, 1) := by decide +kernel
theorem dX11_jetByWeight_1 : decode cX11_jetByWeight 1 = .ok (.iload_n 1, 1) := by decide +kernel
theorem dX11_jetByWeight_2 : decode cX11_jetByWeight 2 = .ok (.invokevirtual 144, 3) := by decide +kernel
theorem dX11_jetByWeight_5 : decode cX11_jetByWeight 5 = .ok (.astore_n 3, 1) := by decide +kernel
theorem dX11_jetByWeight_6 : decode cX11_jetByWeight 6 = .ok (.aload_n 3, 1) := by decide +kernel
theorem dX11_jetByWeight_7 : decode cX11_jetByWeight 7 = .ok (.ifnull 15, 3) := by decide +kernel
theorem dX11_jetByWeight_10 : decode cX11_jetByWeight 10 = .ok (.iload_n 2, 1) := by decide +kernel
theorem dX11_jetByWeight_11 : decode cX11_jetByWeight 11 = .ok (.ifCond .lt 11, 3) := by decide +kernel
theorem dX11_jetByWeight_14 : decode cX11_jetByWeight 14 = .ok (.iload_n 2, 1) := by decide +kernel
theorem dX11_jetByWeight_15 : decode cX11_jetByWeight 15 = .ok (.aload_n 3, 1) := by decide +kernel
theorem dX11_jetByWeight_16 : decode cX11_jetByWeight 16 = .ok (.getfield 139, 3) := by decide +kernel
theorem dX11_jetByWeight_19 : decode cX11_jetByWeight 19 = .ok (.if_icmp .lt 7, 3) := by decide +kernel
theorem dX11_jetByWeight_22 : decode cX11_jetByWeight 22 = .ok (.aconst_null, 1) := by decide +kernel
theorem dX11_jetByWeight_23 : decode cX11_jetByWeight 23 = .ok (.goto 9, 3) := by decide +kernel
theorem dX11_jetByWeight_26 : decode cX11_jetByWeight 26 = .ok (.aload_n 3, 1) := by decide +kernel
theorem dX11_jetByWeight_27 : decode cX11_jetByWeight 27 = .ok (.getfield 326, 3) := by decide +kernel
theorem dX11_jetByWeight_30 : decode cX11_jetByWeight 30 = .ok (.iload_n 2, 1) := by decide +kernel
theorem dX11_jetByWeight_31 : decode cX11_jetByWeight 31 = .ok (.aaload, 1) := by decide +kernel
theorem dX11_jetByWeight_32 : decode cX11_jetByWeight 32 = .ok (.areturn, 1) := by decide +kernel
theorem dX11_keptAt_0 : decode cX11_keptAt 0 = .ok (.iload_n 1, 1) := by decide +kernel
theorem dX11_keptAt_1 : decode cX11_keptAt 1 = .ok (.ifCond .lt 8, 3) := by decide +kernel
theorem dX11_keptAt_4 : decode cX11_keptAt 4 = .ok (.iload_n 1, 1) := by decide +kernel
theorem dX11_keptAt_5 : decode cX11_keptAt 5 = .ok (.iconst 4, 1) := by decide +kernel
theorem dX11_keptAt_6 : decode cX11_keptAt 6 = .ok (.if_icmp .lt 7, 3) := by decide +kernel
theorem dX11_keptAt_9 : decode cX11_keptAt 9 = .ok (.aconst_null, 1) := by decide +kernel
theorem dX11_keptAt_10 : decode cX11_keptAt 10 = .ok (.goto 12, 3) := by decide +kernel
theorem dX11_keptAt_13 : decode cX11_keptAt 13 = .ok (.aload_n 0, 1) := by decide +kernel
theorem dX11_keptAt_14 : decode cX11_keptAt 14 = .ok (.getfield 10, 3) := by decide +kernel
theorem dX11_keptAt_17 : decode cX11_keptAt 17 = .ok (.getfield 155, 3) := by decide +kernel
theorem dX11_keptAt_20 : decode cX11_keptAt 20 = .ok (.iload_n 1, 1) := by decide +kernel
theorem dX11_keptAt_21 : decode cX11_keptAt 21 = .ok (.aaload, 1) := by decide +kernel
theorem dX11_keptAt_22 : decode cX11_keptAt 22 = .ok (.areturn, 1) := by decide +kernel
theorem dX11_treeBits_0 : decode cX11_treeBits 0 = .ok (.iconst 0, 1) := by decide +kernel
theorem dX11_treeBits_1 : decode cX11_treeBits 1 = .ok (.istore_n 1, 1) := by decide +kernel
theorem dX11_treeBits_2 : decode cX11_treeBits 2 = .ok (.iconst 0, 1) := by decide +kernel
theorem dX11_treeBits_3 : decode cX11_treeBits 3 = .ok (.istore_n 2, 1) := by decide +kernel
theorem dX11_treeBits_4 : decode cX11_treeBits 4 = .ok (.iload_n 2, 1) := by decide +kernel
theorem dX11_treeBits_5 : decode cX11_treeBits 5 = .ok (.iconst 4, 1) := by decide +kernel
theorem dX11_treeBits_6 : decode cX11_treeBits 6 = .ok (.if_icmp .ge 27, 3) := by decide +kernel
theorem dX11_treeBits_9 : decode cX11_treeBits 9 = .ok (.aload_n 0, 1) := by decide +kernel
theorem dX11_treeBits_10 : decode cX11_treeBits 10 = .ok (.getfield 10, 3) := by decide +kernel
theorem dX11_treeBits_13 : decode cX11_treeBits 13 = .ok (.getfield 439, 3) := by decide +kernel
theorem dX11_treeBits_16 : decode cX11_treeBits 16 = .ok (.iload_n 2, 1) := by decide +kernel
theorem dX11_treeBits_17 : decode cX11_treeBits 17 = .ok (.aaload, 1) := by decide +kernel
theorem dX11_treeBits_18 : decode cX11_treeBits 18 = .ok (.ifnull 9, 3) := by decide +kernel
theorem dX11_treeBits_21 : decode cX11_treeBits 21 = .ok (.iload_n 1, 1) := by decide +kernel
theorem dX11_treeBits_22 : decode cX11_treeBits 22 = .ok (.iconst 1, 1) := by decide +kernel
theorem dX11_treeBits_23 : decode cX11_treeBits 23 = .ok (.iload_n 2, 1) := by decide +kernel
theorem dX11_treeBits_24 : decode cX11_treeBits 24 = .ok (.ishl, 1) := by decide +kernel
theorem dX11_treeBits_25 : decode cX11_treeBits 25 = .ok (.ior, 1) := by decide +kernel
theorem dX11_treeBits_26 : decode cX11_treeBits 26 = .ok (.istore_n 1, 1) := by decide +kernel
theorem dX11_treeBits_27 : decode cX11_treeBits 27 = .ok (.iinc 2 1, 3) := by decide +kernel
theorem dX11_treeBits_30 : decode cX11_treeBits 30 = .ok (.goto (-26), 3) := by decide +kernel
theorem dX11_treeBits_33 : decode cX11_treeBits 33 = .ok (.iload_n 1, 1) := by decide +kernel
theorem dX11_treeBits_34 : decode cX11_treeBits 34 = .ok (.ireturn, 1) := by decide +kernel
theorem dX11_numberOf_0 : decode cX11_numberOf 0 = .ok (.aload_n 0, 1) := by decide +kernel
theorem dX11_numberOf_1 : decode cX11_numberOf 1 = .ok (.ifnonnull 7, 3) := by decide +kernel
theorem dX11_numberOf_4 : decode cX11_numberOf 4 = .ok (.iconst (-1), 1) := by decide +kernel
theorem dX11_numberOf_5 : decode cX11_numberOf 5 = .ok (.goto 10, 3) := by decide +kernel
theorem dX11_numberOf_8 : decode cX11_numberOf 8 = .ok (.aload_n 0, 1) := by decide +kernel
theorem dX11_numberOf_9 : decode cX11_numberOf 9 = .ok (.getfield 201, 3) := by decide +kernel
theorem dX11_numberOf_12 : decode cX11_numberOf 12 = .ok (.getfield 300, 3) := by decide +kernel
theorem dX11_numberOf_15 : decode cX11_numberOf 15 = .ok (.ireturn, 1) := by decide +kernel
theorem dX11_nextX_0 : decode cX11_nextX 0 = .ok (.iload_n 0, 1) := by decide +kernel
theorem dX11_nextX_1 : decode cX11_nextX 1 = .ok (.sipush 821, 3) := by decide +kernel
theorem dX11_nextX_4 : decode cX11_nextX 4 = .ok (.imul, 1) := by decide +kernel
theorem dX11_nextX_5 : decode cX11_nextX 5 = .ok (.sipush 631, 3) := by decide +kernel
theorem dX11_nextX_8 : decode cX11_nextX 8 = .ok (.iadd, 1) := by decide +kernel
theorem dX11_nextX_9 : decode cX11_nextX 9 = .ok (.sipush 30091, 3) := by decide +kernel
theorem dX11_nextX_12 : decode cX11_nextX 12 = .ok (.irem, 1) := by decide +kernel
theorem dX11_nextX_13 : decode cX11_nextX 13 = .ok (.ireturn, 1) := by decide +kernel
theorem dX11_isInOneOf_0 : decode cX11_isInOneOf 0 = .ok (.iconst 0, 1) := by decide +kernel
theorem dX11_isInOneOf_1 : decode cX11_isInOneOf 1 = .ok (.istore_n 3, 1) := by decide +kernel
theorem dX11_isInOneOf_2 : decode cX11_isInOneOf 2 = .ok (.iload_n 3, 1) := by decide +kernel
theorem dX11_isInOneOf_3 : decode cX11_isInOneOf 3 = .ok (.aload_n 2, 1) := by decide +kernel
theorem dX11_isInOneOf_4 : decode cX11_isInOneOf 4 = .ok (.arraylength, 1) := by decide +kernel
theorem dX11_isInOneOf_5 : decode cX11_isInOneOf 5 = .ok (.if_icmp .ge 25, 3) := by decide +kernel
theorem dX11_isInOneOf_8 : decode cX11_isInOneOf 8 = .ok (.lload_n 0, 1) := by decide +kernel
theorem dX11_isInOneOf_9 : decode cX11_isInOneOf 9 = .ok (.aload_n 2, 1) := by decide +kernel
theorem dX11_isInOneOf_10 : decode cX11_isInOneOf 10 = .ok (.iload_n 3, 1) := by decide +kernel
theorem dX11_isInOneOf_11 : decode cX11_isInOneOf 11 = .ok (.laload, 1) := by decide +kernel
theorem dX11_isInOneOf_12 : decode cX11_isInOneOf 12 = .ok (.ldc2_w 244, 3) := by decide +kernel
theorem dX11_isInOneOf_15 : decode cX11_isInOneOf 15 = .ok (.lxor, 1) := by decide +kernel
theorem dX11_isInOneOf_16 : decode cX11_isInOneOf 16 = .ok (.land, 1) := by decide +kernel
theorem dX11_isInOneOf_17 : decode cX11_isInOneOf 17 = .ok (.lconst 0, 1) := by decide +kernel
theorem dX11_isInOneOf_18 : decode cX11_isInOneOf 18 = .ok (.lcmp, 1) := by decide +kernel
theorem dX11_isInOneOf_19 : decode cX11_isInOneOf 19 = .ok (.ifCond .ne 5, 3) := by decide +kernel
theorem dX11_isInOneOf_22 : decode cX11_isInOneOf 22 = .ok (.iconst 1, 1) := by decide +kernel
theorem dX11_isInOneOf_23 : decode cX11_isInOneOf 23 = .ok (.ireturn, 1) := by decide +kernel
theorem dX11_isInOneOf_24 : decode cX11_isInOneOf 24 = .ok (.iinc 3 1, 3) := by decide +kernel
theorem dX11_isInOneOf_27 : decode cX11_isInOneOf 27 = .ok (.goto (-25), 3) := by decide +kernel
theorem dX11_isInOneOf_30 : decode cX11_isInOneOf 30 = .ok (.iconst 0, 1) := by decide +kernel
theorem dX11_isInOneOf_31 : decode cX11_isInOneOf 31 = .ok (.ireturn, 1) := by decide +kernel
theorem dX11_isPlace_0 : decode cX11_isPlace 0 = .ok (.iload_n 0, 1) := by decide +kernel
theorem dX11_isPlace_1 : decode cX11_isPlace 1 = .ok (.sipush (-200), 3) := by decide +kernel
theorem dX11_isPlace_4 : decode cX11_isPlace 4 = .ok (.if_icmp .lt 21, 3) := by decide +kernel
theorem dX11_isPlace_7 : decode cX11_isPlace 7 = .ok (.iload_n 0, 1) := by decide +kernel
theorem dX11_isPlace_8 : decode cX11_isPlace 8 = .ok (.sipush 200, 3) := by decide +kernel
theorem dX11_isPlace_11 : decode cX11_isPlace 11 = .ok (.if_icmp .gt 14, 3) := by decide +kernel
theorem dX11_isPlace_14 : decode cX11_isPlace 14 = .ok (.iload_n 1, 1) := by decide +kernel
theorem dX11_isPlace_15 : decode cX11_isPlace 15 = .ok (.invokestatic 419, 3) := by decide +kernel
theorem dX11_isPlace_18 : decode cX11_isPlace 18 = .ok (.ifCond .eq 7, 3) := by decide +kernel
theorem dX11_isPlace_21 : decode cX11_isPlace 21 = .ok (.iconst 1, 1) := by decide +kernel
theorem dX11_isPlace_22 : decode cX11_isPlace 22 = .ok (.goto 4, 3) := by decide +kernel
theorem dX11_isPlace_25 : decode cX11_isPlace 25 = .ok (.iconst 0, 1) := by decide +kernel
theorem dX11_isPlace_26 : decode cX11_isPlace 26 = .ok (.ireturn, 1) := by decide +kernel
theorem dX11_isRound_0 : decode cX11_isRound 0 = .ok (.iload_n 0, 1) := by decide +kernel
theorem dX11_isRound_1 : decode cX11_isRound 1 = .ok (.ifCond .lt 14, 3) := by decide +kernel
theorem dX11_isRound_4 : decode cX11_isRound 4 = .ok (.iload_n 0, 1) := by decide +kernel
theorem dX11_isRound_5 : decode cX11_isRound 5 = .ok (.sipush 360, 3) := by decide +kernel
theorem dX11_isRound_8 : decode cX11_isRound 8 = .ok (.if_icmp .ge 7, 3) := by decide +kernel
theorem dX11_isRound_11 : decode cX11_isRound 11 = .ok (.iconst 1, 1) := by decide +kernel
theorem dX11_isRound_12 : decode cX11_isRound 12 = .ok (.goto 4, 3) := by decide +kernel
theorem dX11_isRound_15 : decode cX11_isRound 15 = .ok (.iconst 0, 1) := by decide +kernel
theorem dX11_isRound_16 : decode cX11_isRound 16 = .ok (.ireturn, 1) := by decide +kernel
theorem dX11_isWeight_0 : decode cX11_isWeight 0 = .ok (.iload_n 0, 1) := by decide +kernel
theorem dX11_isWeight_1 : decode cX11_isWeight 1 = .ok (.iconst 1, 1) := by decide +kernel
theorem dX11_isWeight_2 : decode cX11_isWeight 2 = .ok (.if_icmp .lt 14, 3) := by decide +kernel
theorem dX11_isWeight_5 : decode cX11_isWeight 5 = .ok (.iload_n 0, 1) := by decide +kernel
theorem dX11_isWeight_6 : decode cX11_isWeight 6 = .ok (.sipush 9999, 3) := by decide +kernel
theorem dX11_isWeight_9 : decode cX11_isWeight 9 = .ok (.if_icmp .gt 7, 3) := by decide +kernel
theorem dX11_isWeight_12 : decode cX11_isWeight 12 = .ok (.iconst 1, 1) := by decide +kernel
theorem dX11_isWeight_13 : decode cX11_isWeight 13 = .ok (.goto 4, 3) := by decide +kernel
theorem dX11_isWeight_16 : decode cX11_isWeight 16 = .ok (.iconst 0, 1) := by decide +kernel
theorem dX11_isWeight_17 : decode cX11_isWeight 17 = .ok (.ireturn, 1) := by decide +kernel
theorem dX11_isRadius_0 : decode cX11_isRadius 0 = .ok (.iload_n 0, 1) := by decide +kernel
theorem dX11_isRadius_1 : decode cX11_isRadius 1 = .ok (.iconst 1, 1) := by decide +kernel
theorem dX11_isRadius_2 : decode cX11_isRadius 2 = .ok (.if_icmp .lt 14, 3) := by decide +kernel
theorem dX11_isRadius_5 : decode cX11_isRadius 5 = .ok (.iload_n 0, 1) := by decide +kernel
theorem dX11_isRadius_6 : decode cX11_isRadius 6 = .ok (.sipush 200, 3) := by decide +kernel
theorem dX11_isRadius_9 : decode cX11_isRadius 9 = .ok (.if_icmp .gt 7, 3) := by decide +kernel
theorem dX11_isRadius_12 : decode cX11_isRadius 12 = .ok (.iconst 1, 1) := by decide +kernel
theorem dX11_isRadius_13 : decode cX11_isRadius 13 = .ok (.goto 4, 3) := by decide +kernel
theorem dX11_isRadius_16 : decode cX11_isRadius 16 = .ok (.iconst 0, 1) := by decide +kernel
theorem dX11_isRadius_17 : decode cX11_isRadius 17 = .ok (.ireturn, 1) := by decide +kernel
theorem dX11_isPower_0 : decode cX11_isPower 0 = .ok (.iload_n 0, 1) := by decide +kernel
theorem dX11_isPower_1 : decode cX11_isPower 1 = .ok (.iconst (-1), 1) := by decide +kernel
theorem dX11_isPower_2 : decode cX11_isPower 2 = .ok (.if_icmp .lt 12, 3) := by decide +kernel
theorem dX11_isPower_5 : decode cX11_isPower 5 = .ok (.iload_n 0, 1) := by decide +kernel
theorem dX11_isPower_6 : decode cX11_isPower 6 = .ok (.iconst 1, 1) := by decide +kernel
theorem dX11_isPower_7 : decode cX11_isPower 7 = .ok (.if_icmp .gt 7, 3) := by decide +kernel
theorem dX11_isPower_10 : decode cX11_isPower 10 = .ok (.iconst 1, 1) := by decide +kernel
theorem dX11_isPower_11 : decode cX11_isPower 11 = .ok (.goto 4, 3) := by decide +kernel
theorem dX11_isPower_14 : decode cX11_isPower 14 = .ok (.iconst 0, 1) := by decide +kernel
theorem dX11_isPower_15 : decode cX11_isPower 15 = .ok (.ireturn, 1) := by decide +kernel
theorem dX11_isTree_0 : decode cX11_isTree 0 = .ok (.iload_n 0, 1) := by decide +kernel
theorem dX11_isTree_1 : decode cX11_isTree 1 = .ok (.ifCond .lt 12, 3) := by decide +kernel
theorem dX11_isTree_4 : decode cX11_isTree 4 = .ok (.iload_n 0, 1) := by decide +kernel
theorem dX11_isTree_5 : decode cX11_isTree 5 = .ok (.iconst 4, 1) := by decide +kernel
theorem dX11_isTree_6 : decode cX11_isTree 6 = .ok (.if_icmp .ge 7, 3) := by decide +kernel
theorem dX11_isTree_9 : decode cX11_isTree 9 = .ok (.iconst 1, 1) := by decide +kernel
theorem dX11_isTree_10 : decode cX11_isTree 10 = .ok (.goto 4, 3) := by decide +kernel
theorem dX11_isTree_13 : decode cX11_isTree 13 = .ok (.iconst 0, 1) := by decide +kernel
theorem dX11_isTree_14 : decode cX11_isTree 14 = .ok (.ireturn, 1) := by decide +kernel
theorem dX11_isTile_0 : decode cX11_isTile 0 = .ok (.iload_n 0, 1) := by decide +kernel
theorem dX11_isTile_1 : decode cX11_isTile 1 = .ok (.iconst 1, 1) := by decide +kernel
theorem dX11_isTile_2 : decode cX11_isTile 2 = .ok (.if_icmp .lt 13, 3) := by decide +kernel
theorem dX11_isTile_5 : decode cX11_isTile 5 = .ok (.iload_n 0, 1) := by decide +kernel
theorem dX11_isTile_6 : decode cX11_isTile 6 = .ok (.bipush 100, 2) := by decide +kernel
theorem dX11_isTile_8 : decode cX11_isTile 8 = .ok (.if_icmp .gt 7, 3) := by decide +kernel
theorem dX11_isTile_11 : decode cX11_isTile 11 = .ok (.iconst 1, 1) := by decide +kernel
theorem dX11_isTile_12 : decode cX11_isTile 12 = .ok (.goto 4, 3) := by decide +kernel
theorem dX11_isTile_15 : decode cX11_isTile 15 = .ok (.iconst 0, 1) := by decide +kernel
theorem dX11_isTile_16 : decode cX11_isTile 16 = .ok (.ireturn, 1) := by decide +kernel
theorem dX11_isOfThousand_0 : decode cX11_isOfThousand 0 = .ok (.iload_n 0, 1) := by decide +kernel
theorem dX11_isOfThousand_1 : decode cX11_isOfThousand 1 = .ok (.ifCond .lt 14, 3) := by decide +kernel
theorem dX11_isOfThousand_4 : decode cX11_isOfThousand 4 = .ok (.iload_n 0, 1) := by decide +kernel
theorem dX11_isOfThousand_5 : decode cX11_isOfThousand 5 = .ok (.sipush 1000, 3) := by decide +kernel
theorem dX11_isOfThousand_8 : decode cX11_isOfThousand 8 = .ok (.if_icmp .gt 7, 3) := by decide +kernel
theorem dX11_isOfThousand_11 : decode cX11_isOfThousand 11 = .ok (.iconst 1, 1) := by decide +kernel
theorem dX11_isOfThousand_12 : decode cX11_isOfThousand 12 = .ok (.goto 4, 3) := by decide +kernel
theorem dX11_isOfThousand_15 : decode cX11_isOfThousand 15 = .ok (.iconst 0, 1) := by decide +kernel
theorem dX11_isOfThousand_16 : decode cX11_isOfThousand 16 = .ok (.ireturn, 1) := by decide +kernel
theorem dX11_bitOf_0 : decode cX11_bitOf 0 = .ok (.lconst 1, 1) := by decide +kernel
theorem dX11_bitOf_1 : decode cX11_bitOf 1 = .ok (.iload_n 0, 1) := by decide +kernel
theorem dX11_bitOf_2 : decode cX11_bitOf 2 = .ok (.lshl, 1) := by decide +kernel
theorem dX11_bitOf_3 : decode cX11_bitOf 3 = .ok (.lreturn, 1) := by decide +kernel
theorem dX11_isIn_0 : decode cX11_isIn 0 = .ok (.lload_n 0, 1) := by decide +kernel
theorem dX11_isIn_1 : decode cX11_isIn 1 = .ok (.iload_n 2, 1) := by decide +kernel
theorem dX11_isIn_2 : decode cX11_isIn 2 = .ok (.invokestatic 449, 3) := by decide +kernel
theorem dX11_isIn_5 : decode cX11_isIn 5 = .ok (.land, 1) := by decide +kernel
theorem dX11_isIn_6 : decode cX11_isIn 6 = .ok (.lconst 0, 1) := by decide +kernel
theorem dX11_isIn_7 : decode cX11_isIn 7 = .ok (.lcmp, 1) := by decide +kernel
theorem dX11_isIn_8 : decode cX11_isIn 8 = .ok (.ifCond .eq 7, 3) := by decide +kernel
theorem dX11_isIn_11 : decode cX11_isIn 11 = .ok (.iconst 1, 1) := by decide +kernel
theorem dX11_isIn_12 : decode cX11_isIn 12 = .ok (.goto 4, 3) := by decide +kernel
theorem dX11_isIn_15 : decode cX11_isIn 15 = .ok (.iconst 0, 1) := by decide +kernel
theorem dX11_isIn_16 : decode cX11_isIn 16 = .ok (.ireturn, 1) := by decide +kernel
theorem dX11_downward_0 : decode cX11_downward 0 = .ok (.iload_n 1, 1) := by decide +kernel
theorem dX11_downward_1 : decode cX11_downward 1 = .ok (.ifCond .ne 7, 3) := by decide +kernel
theorem dX11_downward_4 : decode cX11_downward 4 = .ok (.iconst 0, 1) := by decide +kernel
theorem dX11_downward_5 : decode cX11_downward 5 = .ok (.goto 8, 3) := by decide +kernel
theorem dX11_downward_8 : decode cX11_downward 8 = .ok (.iload_n 0, 1) := by decide +kernel
theorem dX11_downward_9 : decode cX11_downward 9 = .ok (.iload_n 1, 1) := by decide +kernel
theorem dX11_downward_10 : decode cX11_downward 10 = .ok (.invokestatic 452, 3) := by decide +kernel
theorem dX11_downward_13 : decode cX11_downward 13 = .ok (.ireturn, 1) := by decide +kernel
theorem dX12_init_0 : decode cX12_init 0 = .ok (.aload_n 0, 1) := by decide +kernel
theorem dX12_init_1 : decode cX12_init 1 = .ok (.invokespecial 1, 3) := by decide +kernel
theorem dX12_init_4 : decode cX12_init 4 = .ok (.aload_n 0, 1) := by decide +kernel
theorem dX12_init_5 : decode cX12_init 5 = .ok (.ldc 7, 2) := by decide +kernel
theorem dX12_init_7 : decode cX12_init 7 = .ok (.newarray .int, 2) := by decide +kernel
theorem dX12_init_9 : decode cX12_init 9 = .ok (.putfield 8, 3) := by decide +kernel
theorem dX12_init_12 : decode cX12_init 12 = .ok (.aload_n 0, 1) := by decide +kernel
theorem dX12_init_13 : decode cX12_init 13 = .ok (.ldc 7, 2) := by decide +kernel
theorem dX12_init_15 : decode cX12_init 15 = .ok (.newarray .int, 2) := by decide +kernel
theorem dX12_init_17 : decode cX12_init 17 = .ok (.putfield 14, 3) := by decide +kernel
theorem dX12_init_20 : decode cX12_init 20 = .ok (.aload_n 0, 1) := by decide +kernel
theorem dX12_init_21 : decode cX12_init 21 = .ok (.bipush 79, 2) := by decide +kernel
theorem dX12_init_23 : decode cX12_init 23 = .ok (.newarray .int, 2) := by decide +kernel
theorem dX12_init_25 : decode cX12_init 25 = .ok (.putfield 17, 3) := by decide +kernel
theorem dX12_init_28 : decode cX12_init 28 = .ok (.aload_n 0, 1) := by decide +kernel
theorem dX12_init_29 : decode cX12_init 29 = .ok (.bipush 79, 2) := by decide +kernel
theorem dX12_init_31 : decode cX12_init 31 = .ok (.newarray .int, 2) := by decide +kernel
theorem dX12_init_33 : decode cX12_init 33 = .ok (.putfield 20, 3) := by decide +kernel
theorem dX12_init_36 : decode cX12_init 36 = .ok (.aload_n 0, 1) := by decide +kernel
theorem dX12_init_37 : decode cX12_init 37 = .ok (.bipush 79, 2) := by decide +kernel
theorem dX12_init_39 : decode cX12_init 39 = .ok (.newarray .int, 2) := by decide +kernel
theorem dX12_init_41 : decode cX12_init 41 = .ok (.putfield 23, 3) := by decide +kernel
theorem dX12_init_44 : decode cX12_init 44 = .ok (.aload_n 0, 1) := by decide +kernel
theorem dX12_init_45 : decode cX12_init 45 = .ok (.bipush 79, 2) := by decide +kernel
theorem dX12_init_47 : decode cX12_init 47 = .ok (.newarray .int, 2) := by decide +kernel
theorem dX12_init_49 : decode cX12_init 49 = .ok (.putfield 26, 3) := by decide +kernel
theorem dX12_init_52 : decode cX12_init 52 = .ok (.aload_n 0, 1) := by decide +kernel
theorem dX12_init_53 : decode cX12_init 53 = .ok (.bipush 79, 2) := by decide +kernel
theorem dX12_init_55 : decode cX12_init 55 = .ok (.newarray .int, 2) := by decide +kernel
theorem dX12_init_57 : decode cX12_init 57 = .ok (.putfield 29, 3) := by decide +kernel
theorem dX12_init_60 : decode cX12_init 60 = .ok (.aload_n 0, 1) := by decide +kernel
theorem dX12_init_61 : decode cX12_init 61 = .ok (.bipush 79, 2) := by decide +kernel
theorem dX12_init_63 : decode cX12_init 63 = .ok (.newarray .boolean, 2) := by decide +kernel
theorem dX12_init_65 : decode cX12_init 65 = .ok (.putfield 32, 3) := by decide +kernel
theorem dX12_init_68 : decode cX12_init 68 = .ok (.aload_n 0, 1) := by decide +kernel
theorem dX12_init_69 : decode cX12_init 69 = .ok (.bipush 40, 2) := by decide +kernel
theorem dX12_init_71 : decode cX12_init 71 = .ok (.newarray .int, 2) := by decide +kernel
theorem dX12_init_73 : decode cX12_init 73 = .ok (.putfield 36, 3) := by decide +kernel
theorem dX12_init_76 : decode cX12_init 76 = .ok (.aload_n 0, 1) := by decide +kernel
theorem dX12_init_77 : decode cX12_init 77 = .ok (.bipush 40, 2) := by decide +kernel
theorem dX12_init_79 : decode cX12_init 79 = .ok (.newarray .int, 2) := by decide +kernel
theorem dX12_init_81 : decode cX12_init 81 = .ok (.putfield 39, 3) := by decide +kernel
theorem dX12_init_84 : decode cX12_init 84 = .ok (.aload_n 0, 1) := by decide +kernel
theorem dX12_init_85 : decode cX12_init 85 = .ok (.bipush 40, 2) := by decide +kernel
theorem dX12_init_87 : decode cX12_init 87 = .ok (.newarray .int, 2) := by decide +kernel
theorem dX12_init_89 : decode cX12_init 89 = .ok (.putfield 42, 3) := by decide +kernel
theorem dX12_init_92 : decode cX12_init 92 = .ok (.aload_n 0, 1) := by decide +kernel
theorem dX12_init_93 : decode cX12_init 93 = .ok (.bipush 79, 2) := by decide +kernel
theorem dX12_init_95 : decode cX12_init 95 = .ok (.newarray .int, 2) := by decide +kernel
theorem dX12_init_97 : decode cX12_init 97 = .ok (.putfield 45, 3) := by decide +kernel
theorem dX12_init_100 : decode cX12_init 100 = .ok (.aload_n 0, 1) := by decide +kernel
theorem dX12_init_101 : decode cX12_init 101 = .ok (.bipush 79, 2) := by decide +kernel
theorem dX12_init_103 : decode cX12_init 103 = .ok (.newarray .int, 2) := by decide +kernel
theorem dX12_init_105 : decode cX12_init 105 = .ok (.putfield 48, 3) := by decide +kernel
theorem dX12_init_108 : decode cX12_init 108 = .ok (.aload_n 0, 1) := by decide +kernel
theorem dX12_init_109 : decode cX12_init 109 = .ok (.bipush 40, 2) := by decide +kernel
theorem dX12_init_111 : decode cX12_init 111 = .ok (.newarray .int, 2) := by decide +kernel
theorem dX12_init_113 : decode cX12_init 113 = .ok (.putfield 51, 3) := by decide +kernel
theorem dX12_init_116 : decode cX12_init 116 = .ok (.aload_n 0, 1) := by decide +kernel
theorem dX12_init_117 : decode cX12_init 117 = .ok (.bipush 40, 2) := by decide +kernel
theorem dX12_init_119 : decode cX12_init 119 = .ok (.newarray .int, 2) := by decide +kernel
theorem dX12_init_121 : decode cX12_init 121 = .ok (.putfield 54, 3) := by decide +kernel
theorem dX12_init_124 : decode cX12_init 124 = .ok (.aload_n 0, 1) := by decide +kernel
theorem dX12_init_125 : decode cX12_init 125 = .ok (.bipush 40, 2) := by decide +kernel
theorem dX12_init_127 : decode cX12_init 127 = .ok (.newarray .long, 2) := by decide +kernel
theorem dX12_init_129 : decode cX12_init 129 = .ok (.putfield 57, 3) := by decide +kernel
theorem dX12_init_132 : decode cX12_init 132 = .ok (.aload_n 0, 1) := by decide +kernel
theorem dX12_init_133 : decode cX12_init 133 = .ok (.getfield 8, 3) := by decide +kernel
theorem dX12_init_136 : decode cX12_init 136 = .ok (.iconst 2, 1) := by decide +kernel
theorem dX12_init_137 : decode cX12_init 137 = .ok (.bipush 40, 2) := by decide +kernel
theorem dX12_init_139 : decode cX12_init 139 = .ok (.iastore, 1) := by decide +kernel
theorem dX12_init_140 : decode cX12_init 140 = .ok (.aload_n 0, 1) := by decide +kernel
theorem dX12_init_141 : decode cX12_init 141 = .ok (.getfield 8, 3) := by decide +kernel
theorem dX12_init_144 : decode cX12_init 144 = .ok (.iconst 3, 1) := by decide +kernel
theorem dX12_init_145 : decode cX12_init 145 = .ok (.iconst (-1), 1) := by decide +kernel
theorem dX12_init_146 : decode cX12_init 146 = .ok (.iastore, 1) := by decide +kernel
theorem dX12_init_147 : decode cX12_init 147 = .ok (.aload_n 0, 1) := by decide +kernel
theorem dX12_init_148 : decode cX12_init 148 = .ok (.getfield 8, 3) := by decide +kernel
theorem dX12_init_151 : decode cX12_init 151 = .ok (.bipush 6, 2) := by decide +kernel
theorem dX12_init_153 : decode cX12_init 153 = .ok (.sipush 701, 3) := by decide +kernel
theorem dX12_init_156 : decode cX12_init 156 = .ok (.iastore, 1) := by decide +kernel
theorem dX12_init_157 : decode cX12_init 157 = .ok (.aload_n 0, 1) := by decide +kernel
theorem dX12_init_158 : decode cX12_init 158 = .ok (.getfield 8, 3) := by decide +kernel
theorem dX12_init_161 : decode cX12_init 161 = .ok (.aload_n 0, 1) := by decide +kernel
theorem dX12_init_162 : decode cX12_init 162 = .ok (.getfield 14, 3) := by decide +kernel
theorem dX12_init_165 : decode cX12_init 165 = .ok (.invokestatic 61, 3) := by decide +kernel
theorem dX12_init_168 : decode cX12_init 168 = .ok (.return_, 1) := by decide +kernel
theorem dX12_copy_0 : decode cX12_copy 0 = .ok (.iconst 0, 1) := by decide +kernel
theorem dX12_copy_1 : decode cX12_copy 1 = .ok (.istore_n 2, 1) := by decide +kernel
theorem dX12_copy_2 : decode cX12_copy 2 = .ok (.iload_n 2, 1) := by decide +kernel
theorem dX12_copy_3 : decode cX12_copy 3 = .ok (.ldc 7, 2) := by decide +kernel
theorem dX12_copy_5 : decode cX12_copy 5 = .ok (.if_icmp .ge 15, 3) := by decide +kernel
theorem dX12_copy_8 : decode cX12_copy 8 = .ok (.aload_n 1, 1) := by decide +kernel
theorem dX12_copy_9 : decode cX12_copy 9 = .ok (.iload_n 2, 1) := by decide +kernel
theorem dX12_copy_10 : decode cX12_copy 10 = .ok (.aload_n 0, 1) := by decide +kernel
theorem dX12_copy_11 : decode cX12_copy 11 = .ok (.iload_n 2, 1) := by decide +kernel
theorem dX12_copy_12 : decode cX12_copy 12 = .ok (.iaload, 1) := by decide +kernel
theorem dX12_copy_13 : decode cX12_copy 13 = .ok (.iastore, 1) := by decide +kernel
theorem dX12_copy_14 : decode cX12_copy 14 = .ok (.iinc 2 1, 3) := by decide +kernel
theorem dX12_copy_17 : decode cX12_copy 17 = .ok (.goto (-15), 3) := by decide +kernel
theorem dX12_copy_20 : decode cX12_copy 20 = .ok (.return_, 1) := by decide +kernel
theorem dX12_isIn_0 : decode cX12_isIn 0 = .ok (.iload_n 0, 1) := by decide +kernel
theorem dX12_isIn_1 : decode cX12_isIn 1 = .ok (.iload_n 1, 1) := by decide +kernel
theorem dX12_isIn_2 : decode cX12_isIn 2 = .ok (.if_icmp .lt 12, 3) := by decide +kernel
theorem dX12_isIn_5 : decode cX12_isIn 5 = .ok (.iload_n 0, 1) := by decide +kernel
theorem dX12_isIn_6 : decode cX12_isIn 6 = .ok (.iload_n 2, 1) := by decide +kernel
theorem dX12_isIn_7 : decode cX12_isIn 7 = .ok (.if_icmp .gt 7, 3) := by decide +kernel
theorem dX12_isIn_10 : decode cX12_isIn 10 = .ok (.iconst 1, 1) := by decide +kernel
theorem dX12_isIn_11 : decode cX12_isIn 11 = .ok (.goto 4, 3) := by decide +kernel
theorem dX12_isIn_14 : decode cX12_isIn 14 = .ok (.iconst 0, 1) := by decide +kernel
theorem dX12_isIn_15 : decode cX12_isIn 15 = .ok (.ireturn, 1) := by decide +kernel
theorem dX12_has_0 : decode cX12_has 0 = .ok (.lload_n 0, 1) := by decide +kernel
theorem dX12_has_1 : decode cX12_has 1 = .ok (.iload_n 2, 1) := by decide +kernel
theorem dX12_has_2 : decode cX12_has 2 = .ok (.lshr, 1) := by decide +kernel
theorem dX12_has_3 : decode cX12_has 3 = .ok (.lconst 1, 1) := by decide +kernel
theorem dX12_has_4 : decode cX12_has 4 = .ok (.land, 1) := by decide +kernel
theorem dX12_has_5 : decode cX12_has 5 = .ok (.lconst 1, 1) := by decide +kernel
theorem dX12_has_6 : decode cX12_has 6 = .ok (.lcmp, 1) := by decide +kernel
theorem dX12_has_7 : decode cX12_has 7 = .ok (.ifCond .ne 7, 3) := by decide +kernel
theorem dX12_has_10 : decode cX12_has 10 = .ok (.iconst 1, 1) := by decide +kernel
theorem dX12_has_11 : decode cX12_has 11 = .ok (.goto 4, 3) := by decide +kernel
theorem dX12_has_14 : decode cX12_has 14 = .ok (.iconst 0, 1) := by decide +kernel
theorem dX12_has_15 : decode cX12_has 15 = .ok (.ireturn, 1) := by decide +kernel
theorem dX12_many_0 : decode cX12_many 0 = .ok (.iconst 0, 1) := by decide +kernel
theorem dX12_many_1 : decode cX12_many 1 = .ok (.istore_n 2, 1) := by decide +kernel
theorem dX12_many_2 : decode cX12_many 2 = .ok (.lload_n 0, 1) := by decide +kernel
theorem dX12_many_3 : decode cX12_many 3 = .ok (.lstore_n 3, 1) := by decide +kernel
theorem dX12_many_4 : decode cX12_many 4 = .ok (.lload_n 3, 1) := by decide +kernel
theorem dX12_many_5 : decode cX12_many 5 = .ok (.lconst 0, 1) := by decide +kernel
theorem dX12_many_6 : decode cX12_many 6 = .ok (.lcmp, 1) := by decide +kernel
theorem dX12_many_7 : decode cX12_many 7 = .ok (.ifCond .eq 15, 3) := by decide +kernel
theorem dX12_many_10 : decode cX12_many 10 = .ok (.iinc 2 1, 3) := by decide +kernel
theorem dX12_many_13 : decode cX12_many 13 = .ok (.lload_n 3, 1) := by decide +kernel
theorem dX12_many_14 : decode cX12_many 14 = .ok (.lload_n 3, 1) := by decide +kernel
theorem dX12_many_15 : decode cX12_many 15 = .ok (.lconst 1, 1) := by decide +kernel
theorem dX12_many_16 : decode cX12_many 16 = .ok (.lsub, 1) := by decide +kernel
theorem dX12_many_17 : decode cX12_many 17 = .ok (.land, 1) := by decide +kernel
theorem dX12_many_18 : decode cX12_many 18 = .ok (.lstore_n 3, 1) := by decide +kernel
theorem dX12_many_19 : decode cX12_many 19 = .ok (.goto (-15), 3) := by decide +kernel
theorem dX12_many_22 : decode cX12_many 22 = .ok (.iload_n 2, 1) := by decide +kernel
theorem dX12_many_23 : decode cX12_many 23 = .ok (.ireturn, 1) := by decide +kernel
theorem dX12_floor_0 : decode cX12_floor 0 = .ok (.iload_n 0, 1) := by decide +kernel
theorem dX12_floor_1 : decode cX12_floor 1 = .ok (.ifCond .lt 9, 3) := by decide +kernel
theorem dX12_floor_4 : decode cX12_floor 4 = .ok (.iload_n 0, 1) := by decide +kernel
theorem dX12_floor_5 : decode cX12_floor 5 = .ok (.iload_n 1, 1) := by decide +kernel
theorem dX12_floor_6 : decode cX12_floor 6 = .ok (.idiv, 1) := by decide +kernel
theorem dX12_floor_7 : decode cX12_floor 7 = .ok (.goto 11, 3) := by decide +kernel
theorem dX12_floor_10 : decode cX12_floor 10 = .ok (.iload_n 1, 1) := by decide +kernel
theorem dX12_floor_11 : decode cX12_floor 11 = .ok (.iconst 1, 1) := by decide +kernel
theorem dX12_floor_12 : decode cX12_floor 12 = .ok (.isub, 1) := by decide +kernel
theorem dX12_floor_13 : decode cX12_floor 13 = .ok (.iload_n 0, 1) := by decide +kernel
theorem dX12_floor_14 : decode cX12_floor 14 = .ok (.isub, 1) := by decide +kernel
theorem dX12_floor_15 : decode cX12_floor 15 = .ok (.iload_n 1, 1) := by decide +kernel
theorem dX12_floor_16 : decode cX12_floor 16 = .ok (.idiv, 1) := by decide +kernel
theorem dX12_floor_17 : decode cX12_floor 17 = .ok (.ineg, 1) := by decide +kernel
theorem dX12_floor_18 : decode cX12_floor 18 = .ok (.ireturn, 1) := by decide +kernel
theorem dX12_wayOf_0 : decode cX12_wayOf 0 = .ok (.iload_n 1, 1) := by decide +kernel
theorem dX12_wayOf_1 : decode cX12_wayOf 1 = .ok (.iload_n 0, 1) := by decide +kernel
theorem dX12_wayOf_2 : decode cX12_wayOf 2 = .ok (.isub, 1) := by decide +kernel
theorem dX12_wayOf_3 : decode cX12_wayOf 3 = .ok (.sipush 360, 3) := by decide +kernel
theorem dX12_wayOf_6 : decode cX12_wayOf 6 = .ok (.iadd, 1) := by decide +kernel
theorem dX12_wayOf_7 : decode cX12_wayOf 7 = .ok (.sipush 360, 3) := by decide +kernel
theorem dX12_wayOf_10 : decode cX12_wayOf 10 = .ok (.irem, 1) := by decide +kernel
theorem dX12_wayOf_11 : decode cX12_wayOf 11 = .ok (.istore_n 2, 1) := by decide +kernel
theorem dX12_wayOf_12 : decode cX12_wayOf 12 = .ok (.iload_n 2, 1) := by decide +kernel
theorem dX12_wayOf_13 : decode cX12_wayOf 13 = .ok (.sipush 180, 3) := by decide +kernel
theorem dX12_wayOf_16 : decode cX12_wayOf 16 = .ok (.if_icmp .le 11, 3) := by decide +kernel
theorem dX12_wayOf_19 : decode cX12_wayOf 19 = .ok (.iload_n 2, 1) := by decide +kernel
theorem dX12_wayOf_20 : decode cX12_wayOf 20 = .ok (.sipush 360, 3) := by decide +kernel
theorem dX12_wayOf_23 : decode cX12_wayOf 23 = .ok (.isub, 1) := by decide +kernel
theorem dX12_wayOf_24 : decode cX12_wayOf 24 = .ok (.goto 4, 3) := by decide +kernel
theorem dX12_wayOf_27 : decode cX12_wayOf 27 = .ok (.iload_n 2, 1) := by decide +kernel
theorem dX12_wayOf_28 : decode cX12_wayOf 28 = .ok (.ireturn, 1) := by decide +kernel
theorem dX12_squareOf_0 : decode cX12_squareOf 0 = .ok (.iload_n 1, 1) := by decide +kernel
theorem dX12_squareOf_1 : decode cX12_squareOf 1 = .ok (.iload_n 3, 1) := by decide +kernel
theorem dX12_squareOf_2 : decode cX12_squareOf 2 = .ok (.invokestatic 65, 3) := by decide +kernel
theorem dX12_squareOf_5 : decode cX12_squareOf 5 = .ok (.istore 4, 2) := by decide +kernel
theorem dX12_squareOf_7 : decode cX12_squareOf 7 = .ok (.iload_n 0, 1) := by decide +kernel
theorem dX12_squareOf_8 : decode cX12_squareOf 8 = .ok (.iload_n 2, 1) := by decide +kernel
theorem dX12_squareOf_9 : decode cX12_squareOf 9 = .ok (.isub, 1) := by decide +kernel
theorem dX12_squareOf_10 : decode cX12_squareOf 10 = .ok (.iload_n 0, 1) := by decide +kernel
theorem dX12_squareOf_11 : decode cX12_squareOf 11 = .ok (.iload_n 2, 1) := by decide +kernel
theorem dX12_squareOf_12 : decode cX12_squareOf 12 = .ok (.isub, 1) := by decide +kernel
theorem dX12_squareOf_13 : decode cX12_squareOf 13 = .ok (.imul, 1) := by decide +kernel
theorem dX12_squareOf_14 : decode cX12_squareOf 14 = .ok (.iload 4, 2) := by decide +kernel
theorem dX12_squareOf_16 : decode cX12_squareOf 16 = .ok (.iload 4, 2) := by decide +kernel
theorem dX12_squareOf_18 : decode cX12_squareOf 18 = .ok (.imul, 1) := by decide +kernel
theorem dX12_squareOf_19 : decode cX12_squareOf 19 = .ok (.iadd, 1) := by decide +kernel
theorem dX12_squareOf_20 : decode cX12_squareOf 20 = .ok (.ireturn, 1) := by decide +kernel
theorem dX12_isPlace_0 : decode cX12_isPlace 0 = .ok (.iload_n 0, 1) := by decide +kernel
theorem dX12_isPlace_1 : decode cX12_isPlace 1 = .ok (.sipush (-200), 3) := by decide +kernel
theorem dX12_isPlace_4 : decode cX12_isPlace 4 = .ok (.sipush 200, 3) := by decide +kernel
theorem dX12_isPlace_7 : decode cX12_isPlace 7 = .ok (.invokestatic 69, 3) := by decide +kernel
theorem dX12_isPlace_10 : decode cX12_isPlace 10 = .ok (.ifCond .eq 18, 3) := by decide +kernel
theorem dX12_isPlace_13 : decode cX12_isPlace 13 = .ok (.iload_n 1, 1) := by decide +kernel
theorem dX12_isPlace_14 : decode cX12_isPlace 14 = .ok (.iconst 0, 1) := by decide +kernel
theorem dX12_isPlace_15 : decode cX12_isPlace 15 = .ok (.sipush 359, 3) := by decide +kernel
theorem dX12_isPlace_18 : decode cX12_isPlace 18 = .ok (.invokestatic 69, 3) := by decide +kernel
theorem dX12_isPlace_21 : decode cX12_isPlace 21 = .ok (.ifCond .eq 7, 3) := by decide +kernel
theorem dX12_isPlace_24 : decode cX12_isPlace 24 = .ok (.iconst 1, 1) := by decide +kernel
theorem dX12_isPlace_25 : decode cX12_isPlace 25 = .ok (.goto 4, 3) := by decide +kernel
theorem dX12_isPlace_28 : decode cX12_isPlace 28 = .ok (.iconst 0, 1) := by decide +kernel
theorem dX12_isPlace_29 : decode cX12_isPlace 29 = .ok (.ireturn, 1) := by decide +kernel
theorem dX12_eventAt_0 : decode cX12_eventAt 0 = .ok (.bipush 8, 2) := by decide +kernel
theorem dX12_eventAt_2 : decode cX12_eventAt 2 = .ok (.bipush 121, 2) := by decide +kernel
theorem dX12_eventAt_4 : decode cX12_eventAt 4 = .ok (.iload_n 0, 1) := by decide +kernel
theorem dX12_eventAt_5 : decode cX12_eventAt 5 = .ok (.imul, 1) := by decide +kernel
theorem dX12_eventAt_6 : decode cX12_eventAt 6 = .ok (.iadd, 1) := by decide +kernel
theorem dX12_eventAt_7 : decode cX12_eventAt 7 = .ok (.ireturn, 1) := by decide +kernel
theorem dX12_tracks_0 : decode cX12_tracks 0 = .ok (.aload_n 0, 1) := by decide +kernel
theorem dX12_tracks_1 : decode cX12_tracks 1 = .ok (.getfield 8, 3) := by decide +kernel
theorem dX12_tracks_4 : decode cX12_tracks 4 = .ok (.aload_n 0, 1) := by decide +kernel
theorem dX12_tracks_5 : decode cX12_tracks 5 = .ok (.getfield 8, 3) := by decide +kernel
theorem dX12_tracks_8 : decode cX12_tracks 8 = .ok (.iconst 5, 1) := by decide +kernel
theorem dX12_tracks_9 : decode cX12_tracks 9 = .ok (.iaload, 1) := by decide +kernel
theorem dX12_tracks_10 : decode cX12_tracks 10 = .ok (.invokestatic 73, 3) := by decide +kernel
theorem dX12_tracks_13 : decode cX12_tracks 13 = .ok (.iaload, 1) := by decide +kernel
theorem dX12_tracks_14 : decode cX12_tracks 14 = .ok (.ireturn, 1) := by decide +kernel
theorem dX12_isTrack_0 : decode cX12_isTrack 0 = .ok (.iload_n 1, 1) := by decide +kernel
theorem dX12_isTrack_1 : decode cX12_isTrack 1 = .ok (.iconst 0, 1) := by decide +kernel
theorem dX12_isTrack_2 : decode cX12_isTrack 2 = .ok (.aload_n 0, 1) := by decide +kernel
theorem dX12_isTrack_3 : decode cX12_isTrack 3 = .ok (.invokevirtual 77, 3) := by decide +kernel
theorem dX12_isTrack_6 : decode cX12_isTrack 6 = .ok (.iconst 1, 1) := by decide +kernel
theorem dX12_isTrack_7 : decode cX12_isTrack 7 = .ok (.isub, 1) := by decide +kernel
theorem dX12_isTrack_8 : decode cX12_isTrack 8 = .ok (.invokestatic 69, 3) := by decide +kernel
theorem dX12_isTrack_11 : decode cX12_isTrack 11 = .ok (.ireturn, 1) := by decide +kernel
theorem dX12_ofTrack_0 : decode cX12_ofTrack 0 = .ok (.aload_n 0, 1) := by decide +kernel
theorem dX12_ofTrack_1 : decode cX12_ofTrack 1 = .ok (.getfield 8, 3) := by decide +kernel
theorem dX12_ofTrack_4 : decode cX12_ofTrack 4 = .ok (.aload_n 0, 1) := by decide +kernel
theorem dX12_ofTrack_5 : decode cX12_ofTrack 5 = .ok (.getfield 8, 3) := by decide +kernel
theorem dX12_ofTrack_8 : decode cX12_ofTrack 8 = .ok (.iconst 5, 1) := by decide +kernel
theorem dX12_ofTrack_9 : decode cX12_ofTrack 9 = .ok (.iaload, 1) := by decide +kernel
theorem dX12_ofTrack_10 : decode cX12_ofTrack 10 = .ok (.invokestatic 73, 3) := by decide +kernel
theorem dX12_ofTrack_13 : decode cX12_ofTrack 13 = .ok (.iconst 1, 1) := by decide +kernel
theorem dX12_ofTrack_14 : decode cX12_ofTrack 14 = .ok (.iadd, 1) := by decide +kernel
theorem dX12_ofTrack_15 : decode cX12_ofTrack 15 = .ok (.iconst 3, 1) := by decide +kernel
theorem dX12_ofTrack_16 : decode cX12_ofTrack 16 = .ok (.iload_n 1, 1) := by decide +kernel
theorem dX12_ofTrack_17 : decode cX12_ofTrack 17 = .ok (.imul, 1) := by decide +kernel
theorem dX12_ofTrack_18 : decode cX12_ofTrack 18 = .ok (.iadd, 1) := by decide +kernel
theorem dX12_ofTrack_19 : decode cX12_ofTrack 19 = .ok (.iload_n 2, 1) := by decide +kernel
theorem dX12_ofTrack_20 : decode cX12_ofTrack 20 = .ok (.iadd, 1) := by decide +kernel
theorem dX12_ofTrack_21 : decode cX12_ofTrack 21 = .ok (.iaload, 1) := by decide +kernel
theorem dX12_ofTrack_22 : decode cX12_ofTrack 22 = .ok (.ireturn, 1) := by decide +kernel
theorem dX12_isTree_0 : decode cX12_isTree 0 = .ok (.iload_n 1, 1) := by decide +kernel
theorem dX12_isTree_1 : decode cX12_isTree 1 = .ok (.iconst 0, 1) := by decide +kernel
theorem dX12_isTree_2 : decode cX12_isTree 2 = .ok (.iconst 3, 1) := by decide +kernel
theorem dX12_isTree_3 : decode cX12_isTree 3 = .ok (.invokestatic 69, 3) := by decide +kernel
theorem dX12_isTree_6 : decode cX12_isTree 6 = .ok (.ifCond .eq 22, 3) := by decide +kernel
theorem dX12_isTree_9 : decode cX12_isTree 9 = .ok (.aload_n 0, 1) := by decide +kernel
theorem dX12_isTree_10 : decode cX12_isTree 10 = .ok (.getfield 8, 3) := by decide +kernel
theorem dX12_isTree_13 : decode cX12_isTree 13 = .ok (.bipush 7, 2) := by decide +kernel
theorem dX12_isTree_15 : decode cX12_isTree 15 = .ok (.iaload, 1) := by decide +kernel
theorem dX12_isTree_16 : decode cX12_isTree 16 = .ok (.iload_n 1, 1) := by decide +kernel
theorem dX12_isTree_17 : decode cX12_isTree 17 = .ok (.ishr, 1) := by decide +kernel
theorem dX12_isTree_18 : decode cX12_isTree 18 = .ok (.iconst 1, 1) := by decide +kernel
theorem dX12_isTree_19 : decode cX12_isTree 19 = .ok (.iand, 1) := by decide +kernel
theorem dX12_isTree_20 : decode cX12_isTree 20 = .ok (.iconst 1, 1) := by decide +kernel
theorem dX12_isTree_21 : decode cX12_isTree 21 = .ok (.if_icmp .ne 7, 3) := by decide +kernel
theorem dX12_isTree_24 : decode cX12_isTree 24 = .ok (.iconst 1, 1) := by decide +kernel
theorem dX12_isTree_25 : decode cX12_isTree 25 = .ok (.goto 4, 3) := by decide +kernel
theorem dX12_isTree_28 : decode cX12_isTree 28 = .ok (.iconst 0, 1) := by decide +kernel
theorem dX12_isTree_29 : decode cX12_isTree 29 = .ok (.ireturn, 1) := by decide +kernel
theorem dX12_treeAt_0 : decode cX12_treeAt 0 = .ok (.sipush 371, 3) := by decide +kernel
theorem dX12_treeAt_3 : decode cX12_treeAt 3 = .ok (.sipush 521, 3) := by decide +kernel
theorem dX12_treeAt_6 : decode cX12_treeAt 6 = .ok (.iload_n 0, 1) := by decide +kernel
theorem dX12_treeAt_7 : decode cX12_treeAt 7 = .ok (.imul, 1) := by decide +kernel
theorem dX12_treeAt_8 : decode cX12_treeAt 8 = .ok (.iadd, 1) := by decide +kernel
theorem dX12_treeAt_9 : decode cX12_treeAt 9 = .ok (.ireturn, 1) := by decide +kernel
theorem dX12_ofTree_0 : decode cX12_ofTree 0 = .ok (.aload_n 0, 1) := by decide +kernel
theorem dX12_ofTree_1 : decode cX12_ofTree 1 = .ok (.getfield 8, 3) := by decide +kernel
theorem dX12_ofTree_4 : decode cX12_ofTree 4 = .ok (.iload_n 1, 1) := by decide +kernel
theorem dX12_ofTree_5 : decode cX12_ofTree 5 = .ok (.invokestatic 81, 3) := by decide +kernel
theorem dX12_ofTree_8 : decode cX12_ofTree 8 = .ok (.iload_n 2, 1) := by decide +kernel
theorem dX12_ofTree_9 : decode cX12_ofTree 9 = .ok (.iadd, 1) := by decide +kernel
theorem dX12_ofTree_10 : decode cX12_ofTree 10 = .ok (.iaload, 1) := by decide +kernel
theorem dX12_ofTree_11 : decode cX12_ofTree 11 = .ok (.ireturn, 1) := by decide +kernel
theorem dX12_isKnot_0 : decode cX12_isKnot 0 = .ok (.aload_n 0, 1) := by decide +kernel
theorem dX12_isKnot_1 : decode cX12_isKnot 1 = .ok (.iload_n 1, 1) := by decide +kernel
theorem dX12_isKnot_2 : decode cX12_isKnot 2 = .ok (.invokevirtual 84, 3) := by decide +kernel
theorem dX12_isKnot_5 : decode cX12_isKnot 5 = .ok (.ifCond .eq 23, 3) := by decide +kernel
theorem dX12_isKnot_8 : decode cX12_isKnot 8 = .ok (.iload_n 2, 1) := by decide +kernel
theorem dX12_isKnot_9 : decode cX12_isKnot 9 = .ok (.iconst 0, 1) := by decide +kernel
theorem dX12_isKnot_10 : decode cX12_isKnot 10 = .ok (.aload_n 0, 1) := by decide +kernel
theorem dX12_isKnot_11 : decode cX12_isKnot 11 = .ok (.iload_n 1, 1) := by decide +kernel
theorem dX12_isKnot_12 : decode cX12_isKnot 12 = .ok (.iconst 0, 1) := by decide +kernel
theorem dX12_isKnot_13 : decode cX12_isKnot 13 = .ok (.invokevirtual 88, 3) := by decide +kernel
theorem dX12_isKnot_16 : decode cX12_isKnot 16 = .ok (.iconst 1, 1) := by decide +kernel
theorem dX12_isKnot_17 : decode cX12_isKnot 17 = .ok (.isub, 1) := by decide +kernel
theorem dX12_isKnot_18 : decode cX12_isKnot 18 = .ok (.invokestatic 69, 3) := by decide +kernel
theorem dX12_isKnot_21 : decode cX12_isKnot 21 = .ok (.ifCond .eq 7, 3) := by decide +kernel
theorem dX12_isKnot_24 : decode cX12_isKnot 24 = .ok (.iconst 1, 1) := by decide +kernel
theorem dX12_isKnot_25 : decode cX12_isKnot 25 = .ok (.goto 4, 3) := by decide +kernel
theorem dX12_isKnot_28 : decode cX12_isKnot 28 = .ok (.iconst 0, 1) := by decide +kernel
theorem dX12_isKnot_29 : decode cX12_isKnot 29 = .ok (.ireturn, 1) := by decide +kernel
theorem dX12_ofKnot_0 : decode cX12_ofKnot 0 = .ok (.aload_n 0, 1) := by decide +kernel
theorem dX12_ofKnot_1 : decode cX12_ofKnot 1 = .ok (.getfield 8, 3) := by decide +kernel
theorem dX12_ofKnot_4 : decode cX12_ofKnot 4 = .ok (.iload_n 1, 1) := by decide +kernel
theorem dX12_ofKnot_5 : decode cX12_ofKnot 5 = .ok (.invokestatic 81, 3) := by decide +kernel
theorem dX12_ofKnot_8 : decode cX12_ofKnot 8 = .ok (.bipush 6, 2) := by decide +kernel
theorem dX12_ofKnot_10 : decode cX12_ofKnot 10 = .ok (.iadd, 1) := by decide +kernel
theorem dX12_ofKnot_11 : decode cX12_ofKnot 11 = .ok (.iconst 5, 1) := by decide +kernel
theorem dX12_ofKnot_12 : decode cX12_ofKnot 12 = .ok (.iload_n 2, 1) := by decide +kernel
theorem dX12_ofKnot_13 : decode cX12_ofKnot 13 = .ok (.imul, 1) := by decide +kernel
theorem dX12_ofKnot_14 : decode cX12_ofKnot 14 = .ok (.iadd, 1) := by decide +kernel
theorem dX12_ofKnot_15 : decode cX12_ofKnot 15 = .ok (.iload_n 3, 1) := by decide +kernel
theorem dX12_ofKnot_16 : decode cX12_ofKnot 16 = .ok (.iadd, 1) := by decide +kernel
theorem dX12_ofKnot_17 : decode cX12_ofKnot 17 = .ok (.iaload, 1) := by decide +kernel
theorem dX12_ofKnot_18 : decode cX12_ofKnot 18 = .ok (.ireturn, 1) := by decide +kernel
theorem dX12_weightOf_0 : decode cX12_weightOf 0 = .ok (.aload_n 0, 1) := by decide +kernel
theorem dX12_weightOf_1 : decode cX12_weightOf 1 = .ok (.iload_n 1, 1) := by decide +kernel
theorem dX12_weightOf_2 : decode cX12_weightOf 2 = .ok (.iload_n 2, 1) := by decide +kernel
theorem dX12_weightOf_3 : decode cX12_weightOf 3 = .ok (.iconst 2, 1) := by decide +kernel
theorem dX12_weightOf_4 : decode cX12_weightOf 4 = .ok (.invokevirtual 91, 3) := by decide +kernel
theorem dX12_weightOf_7 : decode cX12_weightOf 7 = .ok (.ireturn, 1) := by decide +kernel
theorem dX12_isJoined_0 : decode cX12_isJoined 0 = .ok (.aload_n 0, 1) := by decide +kernel
theorem dX12_isJoined_1 : decode cX12_isJoined 1 = .ok (.iload_n 1, 1) := by decide +kernel
theorem dX12_isJoined_2 : decode cX12_isJoined 2 = .ok (.iload_n 2, 1) := by decide +kernel
theorem dX12_isJoined_3 : decode cX12_isJoined 3 = .ok (.iconst 3, 1) := by decide +kernel
theorem dX12_isJoined_4 : decode cX12_isJoined 4 = .ok (.invokevirtual 91, 3) := by decide +kernel
theorem dX12_isJoined_7 : decode cX12_isJoined 7 = .ok (.iconst (-1), 1) := by decide +kernel
theorem dX12_isJoined_8 : decode cX12_isJoined 8 = .ok (.if_icmp .eq 7, 3) := by decide +kernel
theorem dX12_isJoined_11 : decode cX12_isJoined 11 = .ok (.iconst 1, 1) := by decide +kernel
theorem dX12_isJoined_12 : decode cX12_isJoined 12 = .ok (.goto 4, 3) := by decide +kernel
theorem dX12_isJoined_15 : decode cX12_isJoined 15 = .ok (.iconst 0, 1) := by decide +kernel
theorem dX12_isJoined_16 : decode cX12_isJoined 16 = .ok (.ireturn, 1) := by decide +kernel
theorem dX12_stepsOf_0 : decode cX12_stepsOf 0 = .ok (.aload_n 0, 1) := by decide +kernel
theorem dX12_stepsOf_1 : decode cX12_stepsOf 1 = .ok (.iload_n 1, 1) := by decide +kernel
theorem dX12_stepsOf_2 : decode cX12_stepsOf 2 = .ok (.iconst 1, 1) := by decide +kernel
theorem dX12_stepsOf_3 : decode cX12_stepsOf 3 = .ok (.invokevirtual 88, 3) := by decide +kernel
theorem dX12_stepsOf_6 : decode cX12_stepsOf 6 = .ok (.ireturn, 1) := by decide +kernel
theorem dX12_ofStep_0 : decode cX12_ofStep 0 = .ok (.aload_n 0, 1) := by decide +kernel
theorem dX12_ofStep_1 : decode cX12_ofStep 1 = .ok (.getfield 8, 3) := by decide +kernel
theorem dX12_ofStep_4 : decode cX12_ofStep 4 = .ok (.iload_n 1, 1) := by decide +kernel
theorem dX12_ofStep_5 : decode cX12_ofStep 5 = .ok (.invokestatic 81, 3) := by decide +kernel
theorem dX12_ofStep_8 : decode cX12_ofStep 8 = .ok (.sipush 401, 3) := by decide +kernel
theorem dX12_ofStep_11 : decode cX12_ofStep 11 = .ok (.iadd, 1) := by decide +kernel
theorem dX12_ofStep_12 : decode cX12_ofStep 12 = .ok (.iconst 2, 1) := by decide +kernel
theorem dX12_ofStep_13 : decode cX12_ofStep 13 = .ok (.iload_n 2, 1) := by decide +kernel
theorem dX12_ofStep_14 : decode cX12_ofStep 14 = .ok (.imul, 1) := by decide +kernel
theorem dX12_ofStep_15 : decode cX12_ofStep 15 = .ok (.iadd, 1) := by decide +kernel
theorem dX12_ofStep_16 : decode cX12_ofStep 16 = .ok (.iload_n 3, 1) := by decide +kernel
theorem dX12_ofStep_17 : decode cX12_ofStep 17 = .ok (.iadd, 1) := by decide +kernel
theorem dX12_ofStep_18 : decode cX12_ofStep 18 = .ok (.iaload, 1) := by decide +kernel
theorem dX12_ofStep_19 : decode cX12_ofStep 19 = .ok (.ireturn, 1) := by decide +kernel
theorem dX12_order_0 : decode cX12_order 0 = .ok (.lload_n 0, 1) := by decide +kernel
theorem dX12_order_1 : decode cX12_order 1 = .ok (.lstore 8, 2) := by decide +kernel
theorem dX12_order_3 : decode cX12_order 3 = .ok (.lload_n 2, 1) := by decide +kernel
theorem dX12_order_4 : decode cX12_order 4 = .ok (.lstore 10, 2) := by decide +kernel
theorem dX12_order_6 : decode cX12_order 6 = .ok (.lload 4, 2) := by decide +kernel
theorem dX12_order_8 : decode cX12_order 8 = .ok (.lstore 12, 2) := by decide +kernel
theorem dX12_order_10 : decode cX12_order 10 = .ok (.lload 6, 2) := by decide +kernel
theorem dX12_order_12 : decode cX12_order 12 = .ok (.lstore 14, 2) := by decide +kernel
theorem dX12_order_14 : decode cX12_order 14 = .ok (.iconst 1, 1) := by decide +kernel
theorem dX12_order_15 : decode cX12_order 15 = .ok (.istore 16, 2) := by decide +kernel
theorem dX12_order_17 : decode cX12_order 17 = .ok (.lload 8, 2) := by decide +kernel
theorem dX12_order_19 : decode cX12_order 19 = .ok (.lload 10, 2) := by decide +kernel
theorem dX12_order_21 : decode cX12_order 21 = .ok (.ldiv, 1) := by decide +kernel
theorem dX12_order_22 : decode cX12_order 22 = .ok (.lload 12, 2) := by decide +kernel
theorem dX12_order_24 : decode cX12_order 24 = .ok (.lload 14, 2) := by decide +kernel
theorem dX12_order_26 : decode cX12_order 26 = .ok (.ldiv, 1) := by decide +kernel
theorem dX12_order_27 : decode cX12_order 27 = .ok (.lcmp, 1) := by decide +kernel
theorem dX12_order_28 : decode cX12_order 28 = .ok (.ifCond .eq 26, 3) := by decide +kernel
theorem dX12_order_31 : decode cX12_order 31 = .ok (.lload 8, 2) := by decide +kernel
theorem dX12_order_33 : decode cX12_order 33 = .ok (.lload 10, 2) := by decide +kernel
theorem dX12_order_35 : decode cX12_order 35 = .ok (.ldiv, 1) := by decide +kernel
theorem dX12_order_36 : decode cX12_order 36 = .ok (.lload 12, 2) := by decide +kernel
theorem dX12_order_38 : decode cX12_order 38 = .ok (.lload 14, 2) := by decide +kernel
theorem dX12_order_40 : decode cX12_order 40 = .ok (.ldiv, 1) := by decide +kernel
theorem dX12_order_41 : decode cX12_order 41 = .ok (.lcmp, 1) := by decide +kernel
theorem dX12_order_42 : decode cX12_order 42 = .ok (.ifCond .ge 9, 3) := by decide +kernel
theorem dX12_order_45 : decode cX12_order 45 = .ok (.iload 16, 2) := by decide +kernel
theorem dX12_order_47 : decode cX12_order 47 = .ok (.ineg, 1) := by decide +kernel
theorem dX12_order_48 : decode cX12_order 48 = .ok (.goto 5, 3) := by decide +kernel
theorem dX12_order_51 : decode cX12_order 51 = .ok (.iload 16, 2) := by decide +kernel
theorem dX12_order_53 : decode cX12_order 53 = .ok (.ireturn, 1) := by decide +kernel
theorem dX12_order_54 : decode cX12_order 54 = .ok (.lload 8, 2) := by decide +kernel
theorem dX12_order_56 : decode cX12_order 56 = .ok (.lload 10, 2) := by decide +kernel
theorem dX12_order_58 : decode cX12_order 58 = .ok (.lrem, 1) := by decide +kernel
theorem dX12_order_59 : decode cX12_order 59 = .ok (.lstore 17, 2) := by decide +kernel
theorem dX12_order_61 : decode cX12_order 61 = .ok (.lload 12, 2) := by decide +kernel
theorem dX12_order_63 : decode cX12_order 63 = .ok (.lload 14, 2) := by decide +kernel
theorem dX12_order_65 : decode cX12_order 65 = .ok (.lrem, 1) := by decide +kernel
theorem dX12_order_66 : decode cX12_order 66 = .ok (.lstore 19, 2) := by decide +kernel
theorem dX12_order_68 : decode cX12_order 68 = .ok (.lload 17, 2) := by decide +kernel
theorem dX12_order_70 : decode cX12_order 70 = .ok (.lconst 0, 1) := by decide +kernel
theorem dX12_order_71 : decode cX12_order 71 = .ok (.lcmp, 1) := by decide +kernel
theorem dX12_order_72 : decode cX12_order 72 = .ok (.ifCond .eq 10, 3) := by decide +kernel
theorem dX12_order_75 : decode cX12_order 75 = .ok (.lload 19, 2) := by decide +kernel
theorem dX12_order_77 : decode cX12_order 77 = .ok (.lconst 0, 1) := by decide +kernel
theorem dX12_order_78 : decode cX12_order 78 = .ok (.lcmp, 1) := by decide +kernel
theorem dX12_order_79 : decode cX12_order 79 = .ok (.ifCond .ne 31, 3) := by decide +kernel
theorem dX12_order_82 : decode cX12_order 82 = .ok (.lload 17, 2) := by decide +kernel
theorem dX12_order_84 : decode cX12_order 84 = .ok (.lload 19, 2) := by decide +kernel
theorem dX12_order_86 : decode cX12_order 86 = .ok (.lcmp, 1) := by decide +kernel
theorem dX12_order_87 : decode cX12_order 87 = .ok (.ifCond .ne 7, 3) := by decide +kernel
theorem dX12_order_90 : decode cX12_order 90 = .ok (.iconst 0, 1) := by decide +kernel
theorem dX12_order_91 : decode cX12_order 91 = .ok (.goto 18, 3) := by decide +kernel
theorem dX12_order_94 : decode cX12_order 94 = .ok (.lload 17, 2) := by decide +kernel
theorem dX12_order_96 : decode cX12_order 96 = .ok (.lconst 0, 1) := by decide +kernel
theorem dX12_order_97 : decode cX12_order 97 = .ok (.lcmp, 1) := by decide +kernel
theorem dX12_order_98 : decode cX12_order 98 = .ok (.ifCond .ne 9, 3) := by decide +kernel
theorem dX12_order_101 : decode cX12_order 101 = .ok (.iload 16, 2) := by decide +kernel
theorem dX12_order_103 : decode cX12_order 103 = .ok (.ineg, 1) := by decide +kernel
theorem dX12_order_104 : decode cX12_order 104 = .ok (.goto 5, 3) := by decide +kernel
theorem dX12_order_107 : decode cX12_order 107 = .ok (.iload 16, 2) := by decide +kernel
theorem dX12_order_109 : decode cX12_order 109 = .ok (.ireturn, 1) := by decide +kernel
theorem dX12_order_110 : decode cX12_order 110 = .ok (.lload 10, 2) := by decide +kernel
theorem dX12_order_112 : decode cX12_order 112 = .ok (.lstore 8, 2) := by decide +kernel
theorem dX12_order_114 : decode cX12_order 114 = .ok (.lload 17, 2) := by decide +kernel
theorem dX12_order_116 : decode cX12_order 116 = .ok (.lstore 10, 2) := by decide +kernel
theorem dX12_order_118 : decode cX12_order 118 = .ok (.lload 14, 2) := by decide +kernel
theorem dX12_order_120 : decode cX12_order 120 = .ok (.lstore 12, 2) := by decide +kernel
theorem dX12_order_122 : decode cX12_order 122 = .ok (.lload 19, 2) := by decide +kernel
theorem dX12_order_124 : decode cX12_order 124 = .ok (.lstore 14, 2) := by decide +kernel
theorem dX12_order_126 : decode cX12_order 126 = .ok (.iload 16, 2) := by decide +kernel
theorem dX12_order_128 : decode cX12_order 128 = .ok (.ineg, 1) := by decide +kernel
theorem dX12_order_129 : decode cX12_order 129 = .ok (.istore 16, 2) := by decide +kernel
theorem dX12_order_131 : decode cX12_order 131 = .ok (.goto (-114), 3) := by decide +kernel
theorem dX12_common_0 : decode cX12_common 0 = .ok (.lload_n 0, 1) := by decide +kernel
theorem dX12_common_1 : decode cX12_common 1 = .ok (.lstore 4, 2) := by decide +kernel
theorem dX12_common_3 : decode cX12_common 3 = .ok (.lload_n 2, 1) := by decide +kernel
theorem dX12_common_4 : decode cX12_common 4 = .ok (.lstore 6, 2) := by decide +kernel
theorem dX12_common_6 : decode cX12_common 6 = .ok (.lload 6, 2) := by decide +kernel
theorem dX12_common_8 : decode cX12_common 8 = .ok (.lconst 0, 1) := by decide +kernel
theorem dX12_common_9 : decode cX12_common 9 = .ok (.lcmp, 1) := by decide +kernel
theorem dX12_common_10 : decode cX12_common 10 = .ok (.ifCond .eq 21, 3) := by decide +kernel
theorem dX12_common_13 : decode cX12_common 13 = .ok (.lload 4, 2) := by decide +kernel
theorem dX12_common_15 : decode cX12_common 15 = .ok (.lload 6, 2) := by decide +kernel
theorem dX12_common_17 : decode cX12_common 17 = .ok (.lrem, 1) := by decide +kernel
theorem dX12_common_18 : decode cX12_common 18 = .ok (.lstore 8, 2) := by decide +kernel
theorem dX12_common_20 : decode cX12_common 20 = .ok (.lload 6, 2) := by decide +kernel
theorem dX12_common_22 : decode cX12_common 22 = .ok (.lstore 4, 2) := by decide +kernel
theorem dX12_common_24 : decode cX12_common 24 = .ok (.lload 8, 2) := by decide +kernel
theorem dX12_common_26 : decode cX12_common 26 = .ok (.lstore 6, 2) := by decide +kernel
theorem dX12_common_28 : decode cX12_common 28 = .ok (.goto (-22), 3) := by decide +kernel
theorem dX12_common_31 : decode cX12_common 31 = .ok (.lload 4, 2) := by decide +kernel
theorem dX12_common_33 : decode cX12_common 33 = .ok (.lreturn, 1) := by decide +kernel
theorem dX12_come_0 : decode cX12_come 0 = .ok (.aload_n 0, 1) := by decide +kernel
theorem dX12_come_1 : decode cX12_come 1 = .ok (.getfield 17, 3) := by decide +kernel
theorem dX12_come_4 : decode cX12_come 4 = .ok (.aload_n 0, 1) := by decide +kernel
theorem dX12_come_5 : decode cX12_come 5 = .ok (.getfield 95, 3) := by decide +kernel
theorem dX12_come_8 : decode cX12_come 8 = .ok (.iload_n 1, 1) := by decide +kernel
theorem dX12_come_9 : decode cX12_come 9 = .ok (.iastore, 1) := by decide +kernel
theorem dX12_come_10 : decode cX12_come 10 = .ok (.aload_n 0, 1) := by decide +kernel
theorem dX12_come_11 : decode cX12_come 11 = .ok (.getfield 20, 3) := by decide +kernel
theorem dX12_come_14 : decode cX12_come 14 = .ok (.aload_n 0, 1) := by decide +kernel
theorem dX12_come_15 : decode cX12_come 15 = .ok (.getfield 95, 3) := by decide +kernel
theorem dX12_come_18 : decode cX12_come 18 = .ok (.iload_n 2, 1) := by decide +kernel
theorem dX12_come_19 : decode cX12_come 19 = .ok (.iastore, 1) := by decide +kernel
theorem dX12_come_20 : decode cX12_come 20 = .ok (.aload_n 0, 1) := by decide +kernel
theorem dX12_come_21 : decode cX12_come 21 = .ok (.getfield 23, 3) := by decide +kernel
theorem dX12_come_24 : decode cX12_come 24 = .ok (.aload_n 0, 1) := by decide +kernel
theorem dX12_come_25 : decode cX12_come 25 = .ok (.getfield 95, 3) := by decide +kernel
theorem dX12_come_28 : decode cX12_come 28 = .ok (.iload_n 3, 1) := by decide +kernel
theorem dX12_come_29 : decode cX12_come 29 = .ok (.iastore, 1) := by decide +kernel
theorem dX12_come_30 : decode cX12_come 30 = .ok (.aload_n 0, 1) := by decide +kernel
theorem dX12_come_31 : decode cX12_come 31 = .ok (.getfield 26, 3) := by decide +kernel
theorem dX12_come_34 : decode cX12_come 34 = .ok (.aload_n 0, 1) := by decide +kernel
theorem dX12_come_35 : decode cX12_come 35 = .ok (.getfield 95, 3) := by decide +kernel
theorem dX12_come_38 : decode cX12_come 38 = .ok (.iload 4, 2) := by decide +kernel
theorem dX12_come_40 : decode cX12_come 40 = .ok (.iastore, 1) := by decide +kernel
theorem dX12_come_41 : decode cX12_come 41 = .ok (.aload_n 0, 1) := by decide +kernel
theorem dX12_come_42 : decode cX12_come 42 = .ok (.getfield 29, 3) := by decide +kernel
theorem dX12_come_45 : decode cX12_come 45 = .ok (.aload_n 0, 1) := by decide +kernel
theorem dX12_come_46 : decode cX12_come 46 = .ok (.getfield 95, 3) := by decide +kernel
theorem dX12_come_49 : decode cX12_come 49 = .ok (.iload 5, 2) := by decide +kernel
theorem dX12_come_51 : decode cX12_come 51 = .ok (.iastore, 1) := by decide +kernel
theorem dX12_come_52 : decode cX12_come 52 = .ok (.aload_n 0, 1) := by decide +kernel
theorem dX12_come_53 : decode cX12_come 53 = .ok (.getfield 32, 3) := by decide +kernel
theorem dX12_come_56 : decode cX12_come 56 = .ok (.aload_n 0, 1) := by decide +kernel
theorem dX12_come_57 : decode cX12_come 57 = .ok (.getfield 95, 3) := by decide +kernel
theorem dX12_come_60 : decode cX12_come 60 = .ok (.iconst 1, 1) := by decide +kernel
theorem dX12_come_61 : decode cX12_come 61 = .ok (.bastore, 1) := by decide +kernel
theorem dX12_come_62 : decode cX12_come 62 = .ok (.aload_n 0, 1) := by decide +kernel
theorem dX12_come_63 : decode cX12_come 63 = .ok (.dup, 1) := by decide +kernel
theorem dX12_come_64 : decode cX12_come 64 = .ok (.getfield 95, 3) := by decide +kernel
theorem dX12_come_67 : decode cX12_come 67 = .ok (.iconst 1, 1) := by decide +kernel
theorem dX12_come_68 : decode cX12_come 68 = .ok (.iadd, 1) := by decide +kernel
theorem dX12_come_69 : decode cX12_come 69 = .ok (.putfield 95, 3) := by decide +kernel
theorem dX12_come_72 : decode cX12_come 72 = .ok (.return_, 1) := by decide +kernel
theorem dX12_isAhead_0 : decode cX12_isAhead 0 = .ok (.aload_n 0, 1) := by decide +kernel
theorem dX12_isAhead_1 : decode cX12_isAhead 1 = .ok (.getfield 17, 3) := by decide +kernel
theorem dX12_isAhead_4 : decode cX12_isAhead 4 = .ok (.iload_n 1, 1) := by decide +kernel
theorem dX12_isAhead_5 : decode cX12_isAhead 5 = .ok (.iaload, 1) := by decide +kernel
theorem dX12_isAhead_6 : decode cX12_isAhead 6 = .ok (.aload_n 0, 1) := by decide +kernel
theorem dX12_isAhead_7 : decode cX12_isAhead 7 = .ok (.getfield 17, 3) := by decide +kernel
theorem dX12_isAhead_10 : decode cX12_isAhead 10 = .ok (.iload_n 2, 1) := by decide +kernel
theorem dX12_isAhead_11 : decode cX12_isAhead 11 = .ok (.iaload, 1) := by decide +kernel
theorem dX12_isAhead_12 : decode cX12_isAhead 12 = .ok (.if_icmp .eq 24, 3) := by decide +kernel
theorem dX12_isAhead_15 : decode cX12_isAhead 15 = .ok (.aload_n 0, 1) := by decide +kernel
theorem dX12_isAhead_16 : decode cX12_isAhead 16 = .ok (.getfield 17, 3) := by decide +kernel
theorem dX12_isAhead_19 : decode cX12_isAhead 19 = .ok (.iload_n 1, 1) := by decide +kernel
theorem dX12_isAhead_20 : decode cX12_isAhead 20 = .ok (.iaload, 1) := by decide +kernel
theorem dX12_isAhead_21 : decode cX12_isAhead 21 = .ok (.aload_n 0, 1) := by decide +kernel
theorem dX12_isAhead_22 : decode cX12_isAhead 22 = .ok (.getfield 17, 3) := by decide +kernel
theorem dX12_isAhead_25 : decode cX12_isAhead 25 = .ok (.iload_n 2, 1) := by decide +kernel
theorem dX12_isAhead_26 : decode cX12_isAhead 26 = .ok (.iaload, 1) := by decide +kernel
theorem dX12_isAhead_27 : decode cX12_isAhead 27 = .ok (.if_icmp .ge 7, 3) := by decide +kernel
theorem dX12_isAhead_30 : decode cX12_isAhead 30 = .ok (.iconst 1, 1) := by decide +kernel
theorem dX12_isAhead_31 : decode cX12_isAhead 31 = .ok (.goto 4, 3) := by decide +kernel
theorem dX12_isAhead_34 : decode cX12_isAhead 34 = .ok (.iconst 0, 1) := by decide +kernel
theorem dX12_isAhead_35 : decode cX12_isAhead 35 = .ok (.ireturn, 1) := by decide +kernel
theorem dX12_isAhead_36 : decode cX12_isAhead 36 = .ok (.aload_n 0, 1) := by decide +kernel
theorem dX12_isAhead_37 : decode cX12_isAhead 37 = .ok (.getfield 20, 3) := by decide +kernel
theorem dX12_isAhead_40 : decode cX12_isAhead 40 = .ok (.iload_n 1, 1) := by decide +kernel
theorem dX12_isAhead_41 : decode cX12_isAhead 41 = .ok (.iaload, 1) := by decide +kernel
theorem dX12_isAhead_42 : decode cX12_isAhead 42 = .ok (.aload_n 0, 1) := by decide +kernel
theorem dX12_isAhead_43 : decode cX12_isAhead 43 = .ok (.getfield 20, 3) := by decide +kernel
theorem dX12_isAhead_46 : decode cX12_isAhead 46 = .ok (.iload_n 2, 1) := by decide +kernel
theorem dX12_isAhead_47 : decode cX12_isAhead 47 = .ok (.iaload, 1) := by decide +kernel
theorem dX12_isAhead_48 : decode cX12_isAhead 48 = .ok (.if_icmp .eq 24, 3) := by decide +kernel
theorem dX12_isAhead_51 : decode cX12_isAhead 51 = .ok (.aload_n 0, 1) := by decide +kernel
theorem dX12_isAhead_52 : decode cX12_isAhead 52 = .ok (.getfield 20, 3) := by decide +kernel
theorem dX12_isAhead_55 : decode cX12_isAhead 55 = .ok (.iload_n 1, 1) := by decide +kernel
theorem dX12_isAhead_56 : decode cX12_isAhead 56 = .ok (.iaload, 1) := by decide +kernel
theorem dX12_isAhead_57 : decode cX12_isAhead 57 = .ok (.aload_n 0, 1) := by decide +kernel
theorem dX12_isAhead_58 : decode cX12_isAhead 58 = .ok (.getfield 20, 3) := by decide +kernel
theorem dX12_isAhead_61 : decode cX12_isAhead 61 = .ok (.iload_n 2, 1) := by decide +kernel
theorem dX12_isAhead_62 : decode cX12_isAhead 62 = .ok (.iaload, 1) := by decide +kernel
theorem dX12_isAhead_63 : decode cX12_isAhead 63 = .ok (.if_icmp .ge 7, 3) := by decide +kernel
theorem dX12_isAhead_66 : decode cX12_isAhead 66 = .ok (.iconst 1, 1) := by decide +kernel
theorem dX12_isAhead_67 : decode cX12_isAhead 67 = .ok (.goto 4, 3) := by decide +kernel
theorem dX12_isAhead_70 : decode cX12_isAhead 70 = .ok (.iconst 0, 1) := by decide +kernel
theorem dX12_isAhead_71 : decode cX12_isAhead 71 = .ok (.ireturn, 1) := by decide +kernel
theorem dX12_isAhead_72 : decode cX12_isAhead 72 = .ok (.aload_n 0, 1) := by decide +kernel
theorem dX12_isAhead_73 : decode cX12_isAhead 73 = .ok (.getfield 23, 3) := by decide +kernel
theorem dX12_isAhead_76 : decode cX12_isAhead 76 = .ok (.iload_n 1, 1) := by decide +kernel
theorem dX12_isAhead_77 : decode cX12_isAhead 77 = .ok (.iaload, 1) := by decide +kernel
theorem dX12_isAhead_78 : decode cX12_isAhead 78 = .ok (.aload_n 0, 1) := by decide +kernel
theorem dX12_isAhead_79 : decode cX12_isAhead 79 = .ok (.getfield 23, 3) := by decide +kernel
theorem dX12_isAhead_82 : decode cX12_isAhead 82 = .ok (.iload_n 2, 1) := by decide +kernel
theorem dX12_isAhead_83 : decode cX12_isAhead 83 = .ok (.iaload, 1) := by decide +kernel
theorem dX12_isAhead_84 : decode cX12_isAhead 84 = .ok (.if_icmp .eq 24, 3) := by decide +kernel
theorem dX12_isAhead_87 : decode cX12_isAhead 87 = .ok (.aload_n 0, 1) := by decide +kernel
theorem dX12_isAhead_88 : decode cX12_isAhead 88 = .ok (.getfield 23, 3) := by decide +kernel
theorem dX12_isAhead_91 : decode cX12_isAhead 91 = .ok (.iload_n 1, 1) := by decide +kernel
theorem dX12_isAhead_92 : decode cX12_isAhead 92 = .ok (.iaload, 1) := by decide +kernel
theorem dX12_isAhead_93 : decode cX12_isAhead 93 = .ok (.aload_n 0, 1) := by decide +kernel
theorem dX12_isAhead_94 : decode cX12_isAhead 94 = .ok (.getfield 23, 3) := by decide +kernel
theorem dX12_isAhead_97 : decode cX12_isAhead 97 = .ok (.iload_n 2, 1) := by decide +kernel
theorem dX12_isAhead_98 : decode cX12_isAhead 98 = .ok (.iaload, 1) := by decide +kernel
theorem dX12_isAhead_99 : decode cX12_isAhead 99 = .ok (.if_icmp .ge 7, 3) := by decide +kernel
theorem dX12_isAhead_102 : decode cX12_isAhead 102 = .ok (.iconst 1, 1) := by decide +kernel
theorem dX12_isAhead_103 : decode cX12_isAhead 103 = .ok (.goto 4, 3) := by decide +kernel
theorem dX12_isAhead_106 : decode cX12_isAhead 106 = .ok (.iconst 0, 1) := by decide +kernel
theorem dX12_isAhead_107 : decode cX12_isAhead 107 = .ok (.ireturn, 1) := by decide +kernel
theorem dX12_isAhead_108 : decode cX12_isAhead 108 = .ok (.iload_n 1, 1) := by decide +kernel
theorem dX12_isAhead_109 : decode cX12_isAhead 109 = .ok (.iload_n 2, 1) := by decide +kernel
theorem dX12_isAhead_110 : decode cX12_isAhead 110 = .ok (.if_icmp .ge 7, 3) := by decide +kernel
theorem dX12_isAhead_113 : decode cX12_isAhead 113 = .ok (.iconst 1, 1) := by decide +kernel
theorem dX12_isAhead_114 : decode cX12_isAhead 114 = .ok (.goto 4, 3) := by decide +kernel
theorem dX12_isAhead_117 : decode cX12_isAhead 117 = .ok (.iconst 0, 1) := by decide +kernel
theorem dX12_isAhead_118 : decode cX12_isAhead 118 = .ok (.ireturn, 1) := by decide +kernel
theorem dX12_upOf_0 : decode cX12_upOf 0 = .ok (.iload_n 2, 1) := by decide +kernel
theorem dX12_upOf_1 : decode cX12_upOf 1 = .ok (.iconst (-1), 1) := by decide +kernel
theorem dX12_upOf_2 : decode cX12_upOf 2 = .ok (.if_icmp .ne 16, 3) := by decide +kernel
theorem dX12_upOf_5 : decode cX12_upOf 5 = .ok (.aload_n 0, 1) := by decide +kernel
theorem dX12_upOf_6 : decode cX12_upOf 6 = .ok (.getfield 99, 3) := by decide +kernel
theorem dX12_upOf_9 : decode cX12_upOf 9 = .ok (.aload_n 0, 1) := by decide +kernel
theorem dX12_upOf_10 : decode cX12_upOf 10 = .ok (.getfield 99, 3) := by decide +kernel
theorem dX12_upOf_13 : decode cX12_upOf 13 = .ok (.imul, 1) := by decide +kernel
theorem dX12_upOf_14 : decode cX12_upOf 14 = .ok (.i2l, 1) := by decide +kernel
theorem dX12_upOf_15 : decode cX12_upOf 15 = .ok (.goto 31, 3) := by decide +kernel
theorem dX12_upOf_18 : decode cX12_upOf 18 = .ok (.aload_n 0, 1) := by decide +kernel
theorem dX12_upOf_19 : decode cX12_upOf 19 = .ok (.getfield 17, 3) := by decide +kernel
theorem dX12_upOf_22 : decode cX12_upOf 22 = .ok (.iload_n 1, 1) := by decide +kernel
theorem dX12_upOf_23 : decode cX12_upOf 23 = .ok (.iaload, 1) := by decide +kernel
theorem dX12_upOf_24 : decode cX12_upOf 24 = .ok (.aload_n 0, 1) := by decide +kernel
theorem dX12_upOf_25 : decode cX12_upOf 25 = .ok (.getfield 20, 3) := by decide +kernel
theorem dX12_upOf_28 : decode cX12_upOf 28 = .ok (.iload_n 1, 1) := by decide +kernel
theorem dX12_upOf_29 : decode cX12_upOf 29 = .ok (.iaload, 1) := by decide +kernel
theorem dX12_upOf_30 : decode cX12_upOf 30 = .ok (.aload_n 0, 1) := by decide +kernel
theorem dX12_upOf_31 : decode cX12_upOf 31 = .ok (.getfield 17, 3) := by decide +kernel
theorem dX12_upOf_34 : decode cX12_upOf 34 = .ok (.iload_n 2, 1) := by decide +kernel
theorem dX12_upOf_35 : decode cX12_upOf 35 = .ok (.iaload, 1) := by decide +kernel
theorem dX12_upOf_36 : decode cX12_upOf 36 = .ok (.aload_n 0, 1) := by decide +kernel
theorem dX12_upOf_37 : decode cX12_upOf 37 = .ok (.getfield 20, 3) := by decide +kernel
theorem dX12_upOf_40 : decode cX12_upOf 40 = .ok (.iload_n 2, 1) := by decide +kernel
theorem dX12_upOf_41 : decode cX12_upOf 41 = .ok (.iaload, 1) := by decide +kernel
theorem dX12_upOf_42 : decode cX12_upOf 42 = .ok (.invokestatic 102, 3) := by decide +kernel
theorem dX12_upOf_45 : decode cX12_upOf 45 = .ok (.i2l, 1) := by decide +kernel
theorem dX12_upOf_46 : decode cX12_upOf 46 = .ok (.lstore_n 3, 1) := by decide +kernel
theorem dX12_upOf_47 : decode cX12_upOf 47 = .ok (.aload_n 0, 1) := by decide +kernel
theorem dX12_upOf_48 : decode cX12_upOf 48 = .ok (.getfield 106, 3) := by decide +kernel
theorem dX12_upOf_51 : decode cX12_upOf 51 = .ok (.iconst 1, 1) := by decide +kernel
theorem dX12_upOf_52 : decode cX12_upOf 52 = .ok (.if_icmp .ge 5, 3) := by decide +kernel
theorem dX12_upOf_55 : decode cX12_upOf 55 = .ok (.lload_n 3, 1) := by decide +kernel
theorem dX12_upOf_56 : decode cX12_upOf 56 = .ok (.lreturn, 1) := by decide +kernel
theorem dX12_upOf_57 : decode cX12_upOf 57 = .ok (.iload_n 2, 1) := by decide +kernel
theorem dX12_upOf_58 : decode cX12_upOf 58 = .ok (.iconst (-1), 1) := by decide +kernel
theorem dX12_upOf_59 : decode cX12_upOf 59 = .ok (.if_icmp .eq 18, 3) := by decide +kernel
theorem dX12_upOf_62 : decode cX12_upOf 62 = .ok (.aload_n 0, 1) := by decide +kernel
theorem dX12_upOf_63 : decode cX12_upOf 63 = .ok (.getfield 23, 3) := by decide +kernel
theorem dX12_upOf_66 : decode cX12_upOf 66 = .ok (.iload_n 1, 1) := by decide +kernel
theorem dX12_upOf_67 : decode cX12_upOf 67 = .ok (.iaload, 1) := by decide +kernel
theorem dX12_upOf_68 : decode cX12_upOf 68 = .ok (.aload_n 0, 1) := by decide +kernel
theorem dX12_upOf_69 : decode cX12_upOf 69 = .ok (.getfield 23, 3) := by decide +kernel
theorem dX12_upOf_72 : decode cX12_upOf 72 = .ok (.iload_n 2, 1) := by decide +kernel
theorem dX12_upOf_73 : decode cX12_upOf 73 = .ok (.iaload, 1) := by decide +kernel
theorem dX12_upOf_74 : decode cX12_upOf 74 = .ok (.if_icmp .ge 13, 3) := by decide +kernel
theorem dX12_upOf_77 : decode cX12_upOf 77 = .ok (.aload_n 0, 1) := by decide +kernel
theorem dX12_upOf_78 : decode cX12_upOf 78 = .ok (.getfield 23, 3) := by decide +kernel
theorem dX12_upOf_81 : decode cX12_upOf 81 = .ok (.iload_n 1, 1) := by decide +kernel
theorem dX12_upOf_82 : decode cX12_upOf 82 = .ok (.iaload, 1) := by decide +kernel
theorem dX12_upOf_83 : decode cX12_upOf 83 = .ok (.i2l, 1) := by decide +kernel
theorem dX12_upOf_84 : decode cX12_upOf 84 = .ok (.goto 10, 3) := by decide +kernel
theorem dX12_upOf_87 : decode cX12_upOf 87 = .ok (.aload_n 0, 1) := by decide +kernel
theorem dX12_upOf_88 : decode cX12_upOf 88 = .ok (.getfield 23, 3) := by decide +kernel
theorem dX12_upOf_91 : decode cX12_upOf 91 = .ok (.iload_n 2, 1) := by decide +kernel
theorem dX12_upOf_92 : decode cX12_upOf 92 = .ok (.iaload, 1) := by decide +kernel
theorem dX12_upOf_93 : decode cX12_upOf 93 = .ok (.i2l, 1) := by decide +kernel
theorem dX12_upOf_94 : decode cX12_upOf 94 = .ok (.lstore 5, 2) := by decide +kernel
theorem dX12_upOf_96 : decode cX12_upOf 96 = .ok (.lload_n 3, 1) := by decide +kernel
theorem dX12_upOf_97 : decode cX12_upOf 97 = .ok (.lload 5, 2) := by decide +kernel
theorem dX12_upOf_99 : decode cX12_upOf 99 = .ok (.lmul, 1) := by decide +kernel
theorem dX12_upOf_100 : decode cX12_upOf 100 = .ok (.lload 5, 2) := by decide +kernel
theorem dX12_upOf_102 : decode cX12_upOf 102 = .ok (.lmul, 1) := by decide +kernel
theorem dX12_upOf_103 : decode cX12_upOf 103 = .ok (.lreturn, 1) := by decide +kernel
theorem dX12_downOf_0 : decode cX12_downOf 0 = .ok (.aload_n 0, 1) := by decide +kernel
theorem dX12_downOf_1 : decode cX12_downOf 1 = .ok (.getfield 106, 3) := by decide +kernel
theorem dX12_downOf_4 : decode cX12_downOf 4 = .ok (.iconst (-1), 1) := by decide +kernel
theorem dX12_downOf_5 : decode cX12_downOf 5 = .ok (.if_icmp .le 5, 3) := by decide +kernel
theorem dX12_downOf_8 : decode cX12_downOf 8 = .ok (.lconst 1, 1) := by decide +kernel
theorem dX12_downOf_9 : decode cX12_downOf 9 = .ok (.lreturn, 1) := by decide +kernel
theorem dX12_downOf_10 : decode cX12_downOf 10 = .ok (.iload_n 2, 1) := by decide +kernel
theorem dX12_downOf_11 : decode cX12_downOf 11 = .ok (.iconst (-1), 1) := by decide +kernel
theorem dX12_downOf_12 : decode cX12_downOf 12 = .ok (.if_icmp .eq 18, 3) := by decide +kernel
theorem dX12_downOf_15 : decode cX12_downOf 15 = .ok (.aload_n 0, 1) := by decide +kernel
theorem dX12_downOf_16 : decode cX12_downOf 16 = .ok (.getfield 23, 3) := by decide +kernel
theorem dX12_downOf_19 : decode cX12_downOf 19 = .ok (.iload_n 1, 1) := by decide +kernel
theorem dX12_downOf_20 : decode cX12_downOf 20 = .ok (.iaload, 1) := by decide +kernel
theorem dX12_downOf_21 : decode cX12_downOf 21 = .ok (.aload_n 0, 1) := by decide +kernel
theorem dX12_downOf_22 : decode cX12_downOf 22 = .ok (.getfield 23, 3) := by decide +kernel
theorem dX12_downOf_25 : decode cX12_downOf 25 = .ok (.iload_n 2, 1) := by decide +kernel
theorem dX12_downOf_26 : decode cX12_downOf 26 = .ok (.iaload, 1) := by decide +kernel
theorem dX12_downOf_27 : decode cX12_downOf 27 = .ok (.if_icmp .le 13, 3) := by decide +kernel
theorem dX12_downOf_30 : decode cX12_downOf 30 = .ok (.aload_n 0, 1) := by decide +kernel
theorem dX12_downOf_31 : decode cX12_downOf 31 = .ok (.getfield 23, 3) := by decide +kernel
theorem dX12_downOf_34 : decode cX12_downOf 34 = .ok (.iload_n 1, 1) := by decide +kernel
theorem dX12_downOf_35 : decode cX12_downOf 35 = .ok (.iaload, 1) := by decide +kernel
theorem dX12_downOf_36 : decode cX12_downOf 36 = .ok (.i2l, 1) := by decide +kernel
theorem dX12_downOf_37 : decode cX12_downOf 37 = .ok (.goto 10, 3) := by decide +kernel
theorem dX12_downOf_40 : decode cX12_downOf 40 = .ok (.aload_n 0, 1) := by decide +kernel
theorem dX12_downOf_41 : decode cX12_downOf 41 = .ok (.getfield 23, 3) := by decide +kernel
theorem dX12_downOf_44 : decode cX12_downOf 44 = .ok (.iload_n 2, 1) := by decide +kernel
theorem dX12_downOf_45 : decode cX12_downOf 45 = .ok (.iaload, 1) := by decide +kernel
theorem dX12_downOf_46 : decode cX12_downOf 46 = .ok (.i2l, 1) := by decide +kernel
theorem dX12_downOf_47 : decode cX12_downOf 47 = .ok (.lstore_n 3, 1) := by decide +kernel
theorem dX12_downOf_48 : decode cX12_downOf 48 = .ok (.lload_n 3, 1) := by decide +kernel
theorem dX12_downOf_49 : decode cX12_downOf 49 = .ok (.lload_n 3, 1) := by decide +kernel
theorem dX12_downOf_50 : decode cX12_downOf 50 = .ok (.lmul, 1) := by decide +kernel
theorem dX12_downOf_51 : decode cX12_downOf 51 = .ok (.lreturn, 1) := by decide +kernel
theorem dX12_isSooner_0 : decode cX12_isSooner 0 = .ok (.aload_n 0, 1) := by decide +kernel
theorem dX12_isSooner_1 : decode cX12_isSooner 1 = .ok (.iload_n 1, 1) := by decide +kernel
theorem dX12_isSooner_2 : decode cX12_isSooner 2 = .ok (.iload_n 2, 1) := by decide +kernel
theorem dX12_isSooner_3 : decode cX12_isSooner 3 = .ok (.invokevirtual 109, 3) := by decide +kernel
theorem dX12_isSooner_6 : decode cX12_isSooner 6 = .ok (.aload_n 0, 1) := by decide +kernel
theorem dX12_isSooner_7 : decode cX12_isSooner 7 = .ok (.iload_n 1, 1) := by decide +kernel
theorem dX12_isSooner_8 : decode cX12_isSooner 8 = .ok (.iload_n 2, 1) := by decide +kernel
theorem dX12_isSooner_9 : decode cX12_isSooner 9 = .ok (.invokevirtual 113, 3) := by decide +kernel
theorem dX12_isSooner_12 : decode cX12_isSooner 12 = .ok (.aload_n 0, 1) := by decide +kernel
theorem dX12_isSooner_13 : decode cX12_isSooner 13 = .ok (.iload_n 3, 1) := by decide +kernel
theorem dX12_isSooner_14 : decode cX12_isSooner 14 = .ok (.iload 4, 2) := by decide +kernel
theorem dX12_isSooner_16 : decode cX12_isSooner 16 = .ok (.invokevirtual 109, 3) := by decide +kernel
theorem dX12_isSooner_19 : decode cX12_isSooner 19 = .ok (.aload_n 0, 1) := by decide +kernel
theorem dX12_isSooner_20 : decode cX12_isSooner 20 = .ok (.iload_n 3, 1) := by decide +kernel
theorem dX12_isSooner_21 : decode cX12_isSooner 21 = .ok (.iload 4, 2) := by decide +kernel
theorem dX12_isSooner_23 : decode cX12_isSooner 23 = .ok (.invokevirtual 113, 3) := by decide +kernel
theorem dX12_isSooner_26 : decode cX12_isSooner 26 = .ok (.invokestatic 116, 3) := by decide +kernel
theorem dX12_isSooner_29 : decode cX12_isSooner 29 = .ok (.istore 5, 2) := by decide +kernel
theorem dX12_isSooner_31 : decode cX12_isSooner 31 = .ok (.iload 5, 2) := by decide +kernel
theorem dX12_isSooner_33 : decode cX12_isSooner 33 = .ok (.ifCond .eq 14, 3) := by decide +kernel
theorem dX12_isSooner_36 : decode cX12_isSooner 36 = .ok (.iload 5, 2) := by decide +kernel
theorem dX12_isSooner_38 : decode cX12_isSooner 38 = .ok (.ifCond .ge 7, 3) := by decide +kernel
theorem dX12_isSooner_41 : decode cX12_isSooner 41 = .ok (.iconst 1, 1) := by decide +kernel
theorem dX12_isSooner_42 : decode cX12_isSooner 42 = .ok (.goto 4, 3) := by decide +kernel
theorem dX12_isSooner_45 : decode cX12_isSooner 45 = .ok (.iconst 0, 1) := by decide +kernel
theorem dX12_isSooner_46 : decode cX12_isSooner 46 = .ok (.ireturn, 1) := by decide +kernel
theorem dX12_isSooner_47 : decode cX12_isSooner 47 = .ok (.iload_n 2, 1) := by decide +kernel
theorem dX12_isSooner_48 : decode cX12_isSooner 48 = .ok (.iconst (-1), 1) := by decide +kernel
theorem dX12_isSooner_49 : decode cX12_isSooner 49 = .ok (.if_icmp .ne 7, 3) := by decide +kernel
theorem dX12_isSooner_52 : decode cX12_isSooner 52 = .ok (.iconst 1, 1) := by decide +kernel
theorem dX12_isSooner_53 : decode cX12_isSooner 53 = .ok (.goto 4, 3) := by decide +kernel
theorem dX12_isSooner_56 : decode cX12_isSooner 56 = .ok (.iconst 0, 1) := by decide +kernel
theorem dX12_isSooner_57 : decode cX12_isSooner 57 = .ok (.iload 4, 2) := by decide +kernel
theorem dX12_isSooner_59 : decode cX12_isSooner 59 = .ok (.iconst (-1), 1) := by decide +kernel
theorem dX12_isSooner_60 : decode cX12_isSooner 60 = .ok (.if_icmp .ne 7, 3) := by decide +kernel
theorem dX12_isSooner_63 : decode cX12_isSooner 63 = .ok (.iconst 1, 1) := by decide +kernel
theorem dX12_isSooner_64 : decode cX12_isSooner 64 = .ok (.goto 4, 3) := by decide +kernel
theorem dX12_isSooner_67 : decode cX12_isSooner 67 = .ok (.iconst 0, 1) := by decide +kernel
theorem dX12_isSooner_68 : decode cX12_isSooner 68 = .ok (.if_icmp .eq 14, 3) := by decide +kernel
theorem dX12_isSooner_71 : decode cX12_isSooner 71 = .ok (.iload_n 2, 1) := by decide +kernel
theorem dX12_isSooner_72 : decode cX12_isSooner 72 = .ok (.iconst (-1), 1) := by decide +kernel
theorem dX12_isSooner_73 : decode cX12_isSooner 73 = .ok (.if_icmp .ne 7, 3) := by decide +kernel
theorem dX12_isSooner_76 : decode cX12_isSooner 76 = .ok (.iconst 1, 1) := by decide +kernel
theorem dX12_isSooner_77 : decode cX12_isSooner 77 = .ok (.goto 4, 3) := by decide +kernel
theorem dX12_isSooner_80 : decode cX12_isSooner 80 = .ok (.iconst 0, 1) := by decide +kernel
theorem dX12_isSooner_81 : decode cX12_isSooner 81 = .ok (.ireturn, 1) := by decide +kernel
theorem dX12_isSooner_82 : decode cX12_isSooner 82 = .ok (.iload_n 1, 1) := by decide +kernel
theorem dX12_isSooner_83 : decode cX12_isSooner 83 = .ok (.iload_n 3, 1) := by decide +kernel
theorem dX12_isSooner_84 : decode cX12_isSooner 84 = .ok (.if_icmp .eq 10, 3) := by decide +kernel
theorem dX12_isSooner_87 : decode cX12_isSooner 87 = .ok (.aload_n 0, 1) := by decide +kernel
theorem dX12_isSooner_88 : decode cX12_isSooner 88 = .ok (.iload_n 1, 1) := by decide +kernel
theorem dX12_isSooner_89 : decode cX12_isSooner 89 = .ok (.iload_n 3, 1) := by decide +kernel
theorem dX12_isSooner_90 : decode cX12_isSooner 90 = .ok (.invokevirtual 120, 3) := by decide +kernel
theorem dX12_isSooner_93 : decode cX12_isSooner 93 = .ok (.ireturn, 1) := by decide +kernel
theorem dX12_isSooner_94 : decode cX12_isSooner 94 = .ok (.iload_n 2, 1) := by decide +kernel
theorem dX12_isSooner_95 : decode cX12_isSooner 95 = .ok (.iconst (-1), 1) := by decide +kernel
theorem dX12_isSooner_96 : decode cX12_isSooner 96 = .ok (.if_icmp .eq 17, 3) := by decide +kernel
theorem dX12_isSooner_99 : decode cX12_isSooner 99 = .ok (.aload_n 0, 1) := by decide +kernel
theorem dX12_isSooner_100 : decode cX12_isSooner 100 = .ok (.iload_n 2, 1) := by decide +kernel
theorem dX12_isSooner_101 : decode cX12_isSooner 101 = .ok (.iload 4, 2) := by decide +kernel
theorem dX12_isSooner_103 : decode cX12_isSooner 103 = .ok (.invokevirtual 120, 3) := by decide +kernel
theorem dX12_isSooner_106 : decode cX12_isSooner 106 = .ok (.ifCond .eq 7, 3) := by decide +kernel
theorem dX12_isSooner_109 : decode cX12_isSooner 109 = .ok (.iconst 1, 1) := by decide +kernel
theorem dX12_isSooner_110 : decode cX12_isSooner 110 = .ok (.goto 4, 3) := by decide +kernel
theorem dX12_isSooner_113 : decode cX12_isSooner 113 = .ok (.iconst 0, 1) := by decide +kernel
theorem dX12_isSooner_114 : decode cX12_isSooner 114 = .ok (.ireturn, 1) := by decide +kernel
theorem dX12_join_0 : decode cX12_join 0 = .ok (.aload_n 0, 1) := by decide +kernel
theorem dX12_join_1 : decode cX12_join 1 = .ok (.getfield 23, 3) := by decide +kernel
theorem dX12_join_4 : decode cX12_join 4 = .ok (.iload_n 1, 1) := by decide +kernel
theorem dX12_join_5 : decode cX12_join 5 = .ok (.iaload, 1) := by decide +kernel
theorem dX12_join_6 : decode cX12_join 6 = .ok (.aload_n 0, 1) := by decide +kernel
theorem dX12_join_7 : decode cX12_join 7 = .ok (.getfield 23, 3) := by decide +kernel
theorem dX12_join_10 : decode cX12_join 10 = .ok (.iload_n 2, 1) := by decide +kernel
theorem dX12_join_11 : decode cX12_join 11 = .ok (.iaload, 1) := by decide +kernel
theorem dX12_join_12 : decode cX12_join 12 = .ok (.iadd, 1) := by decide +kernel
theorem dX12_join_13 : decode cX12_join 13 = .ok (.istore_n 3, 1) := by decide +kernel
theorem dX12_join_14 : decode cX12_join 14 = .ok (.aload_n 0, 1) := by decide +kernel
theorem dX12_join_15 : decode cX12_join 15 = .ok (.getfield 32, 3) := by decide +kernel
theorem dX12_join_18 : decode cX12_join 18 = .ok (.iload_n 1, 1) := by decide +kernel
theorem dX12_join_19 : decode cX12_join 19 = .ok (.iconst 0, 1) := by decide +kernel
theorem dX12_join_20 : decode cX12_join 20 = .ok (.bastore, 1) := by decide +kernel
theorem dX12_join_21 : decode cX12_join 21 = .ok (.aload_n 0, 1) := by decide +kernel
theorem dX12_join_22 : decode cX12_join 22 = .ok (.getfield 32, 3) := by decide +kernel
theorem dX12_join_25 : decode cX12_join 25 = .ok (.iload_n 2, 1) := by decide +kernel
theorem dX12_join_26 : decode cX12_join 26 = .ok (.iconst 0, 1) := by decide +kernel
theorem dX12_join_27 : decode cX12_join 27 = .ok (.bastore, 1) := by decide +kernel
theorem dX12_join_28 : decode cX12_join 28 = .ok (.aload_n 0, 1) := by decide +kernel
theorem dX12_join_29 : decode cX12_join 29 = .ok (.getfield 124, 3) := by decide +kernel
theorem dX12_join_32 : decode cX12_join 32 = .ok (.iconst 1, 1) := by decide +kernel
theorem dX12_join_33 : decode cX12_join 33 = .ok (.if_icmp .ne 47, 3) := by decide +kernel
theorem dX12_join_36 : decode cX12_join 36 = .ok (.aload_n 0, 1) := by decide +kernel
theorem dX12_join_37 : decode cX12_join 37 = .ok (.getfield 23, 3) := by decide +kernel
theorem dX12_join_40 : decode cX12_join 40 = .ok (.iload_n 2, 1) := by decide +kernel
theorem dX12_join_41 : decode cX12_join 41 = .ok (.iaload, 1) := by decide +kernel
theorem dX12_join_42 : decode cX12_join 42 = .ok (.aload_n 0, 1) := by decide +kernel
theorem dX12_join_43 : decode cX12_join 43 = .ok (.getfield 23, 3) := by decide +kernel
theorem dX12_join_46 : decode cX12_join 46 = .ok (.iload_n 1, 1) := by decide +kernel
theorem dX12_join_47 : decode cX12_join 47 = .ok (.iaload, 1) := by decide +kernel
theorem dX12_join_48 : decode cX12_join 48 = .ok (.if_icmp .le 7, 3) := by decide +kernel
theorem dX12_join_51 : decode cX12_join 51 = .ok (.iload_n 2, 1) := by decide +kernel
theorem dX12_join_52 : decode cX12_join 52 = .ok (.goto 4, 3) := by decide +kernel
theorem dX12_join_55 : decode cX12_join 55 = .ok (.iload_n 1, 1) := by decide +kernel
theorem dX12_join_56 : decode cX12_join 56 = .ok (.istore 4, 2) := by decide +kernel
theorem dX12_join_58 : decode cX12_join 58 = .ok (.aload_n 0, 1) := by decide +kernel
theorem dX12_join_59 : decode cX12_join 59 = .ok (.aload_n 0, 1) := by decide +kernel
theorem dX12_join_60 : decode cX12_join 60 = .ok (.getfield 17, 3) := by decide +kernel
theorem dX12_join_63 : decode cX12_join 63 = .ok (.iload 4, 2) := by decide +kernel
theorem dX12_join_65 : decode cX12_join 65 = .ok (.iaload, 1) := by decide +kernel
theorem dX12_join_66 : decode cX12_join 66 = .ok (.aload_n 0, 1) := by decide +kernel
theorem dX12_join_67 : decode cX12_join 67 = .ok (.getfield 20, 3) := by decide +kernel
theorem dX12_join_70 : decode cX12_join 70 = .ok (.iload 4, 2) := by decide +kernel
theorem dX12_join_72 : decode cX12_join 72 = .ok (.iaload, 1) := by decide +kernel
theorem dX12_join_73 : decode cX12_join 73 = .ok (.iload_n 3, 1) := by decide +kernel
theorem dX12_join_74 : decode cX12_join 74 = .ok (.iload_n 1, 1) := by decide +kernel
theorem dX12_join_75 : decode cX12_join 75 = .ok (.iload_n 2, 1) := by decide +kernel
theorem dX12_join_76 : decode cX12_join 76 = .ok (.invokevirtual 127, 3) := by decide +kernel
theorem dX12_join_79 : decode cX12_join 79 = .ok (.return_, 1) := by decide +kernel
theorem dX12_join_80 : decode cX12_join 80 = .ok (.aload_n 0, 1) := by decide +kernel
theorem dX12_join_81 : decode cX12_join 81 = .ok (.aload_n 0, 1) := by decide +kernel
theorem dX12_join_82 : decode cX12_join 82 = .ok (.getfield 17, 3) := by decide +kernel
theorem dX12_join_85 : decode cX12_join 85 = .ok (.iload_n 1, 1) := by decide +kernel
theorem dX12_join_86 : decode cX12_join 86 = .ok (.iaload, 1) := by decide +kernel
theorem dX12_join_87 : decode cX12_join 87 = .ok (.aload_n 0, 1) := by decide +kernel
theorem dX12_join_88 : decode cX12_join 88 = .ok (.getfield 23, 3) := by decide +kernel
theorem dX12_join_91 : decode cX12_join 91 = .ok (.iload_n 1, 1) := by decide +kernel
theorem dX12_join_92 : decode cX12_join 92 = .ok (.iaload, 1) := by decide +kernel
theorem dX12_join_93 : decode cX12_join 93 = .ok (.aload_n 0, 1) := by decide +kernel
theorem dX12_join_94 : decode cX12_join 94 = .ok (.getfield 17, 3) := by decide +kernel
theorem dX12_join_97 : decode cX12_join 97 = .ok (.iload_n 2, 1) := by decide +kernel
theorem dX12_join_98 : decode cX12_join 98 = .ok (.iaload, 1) := by decide +kernel
theorem dX12_join_99 : decode cX12_join 99 = .ok (.aload_n 0, 1) := by decide +kernel
theorem dX12_join_100 : decode cX12_join 100 = .ok (.getfield 23, 3) := by decide +kernel
theorem dX12_join_103 : decode cX12_join 103 = .ok (.iload_n 2, 1) := by decide +kernel
theorem dX12_join_104 : decode cX12_join 104 = .ok (.iaload, 1) := by decide +kernel
theorem dX12_join_105 : decode cX12_join 105 = .ok (.invokestatic 131, 3) := by decide +kernel
theorem dX12_join_108 : decode cX12_join 108 = .ok (.aload_n 0, 1) := by decide +kernel
theorem dX12_join_109 : decode cX12_join 109 = .ok (.getfield 20, 3) := by decide +kernel
theorem dX12_join_112 : decode cX12_join 112 = .ok (.iload_n 1, 1) := by decide +kernel
theorem dX12_join_113 : decode cX12_join 113 = .ok (.iaload, 1) := by decide +kernel
theorem dX12_join_114 : decode cX12_join 114 = .ok (.aload_n 0, 1) := by decide +kernel
theorem dX12_join_115 : decode cX12_join 115 = .ok (.getfield 23, 3) := by decide +kernel
theorem dX12_join_118 : decode cX12_join 118 = .ok (.iload_n 1, 1) := by decide +kernel
theorem dX12_join_119 : decode cX12_join 119 = .ok (.iaload, 1) := by decide +kernel
theorem dX12_join_120 : decode cX12_join 120 = .ok (.aload_n 0, 1) := by decide +kernel
theorem dX12_join_121 : decode cX12_join 121 = .ok (.getfield 20, 3) := by decide +kernel
theorem dX12_join_124 : decode cX12_join 124 = .ok (.iload_n 2, 1) := by decide +kernel
theorem dX12_join_125 : decode cX12_join 125 = .ok (.iaload, 1) := by decide +kernel
theorem dX12_join_126 : decode cX12_join 126 = .ok (.aload_n 0, 1) := by decide +kernel
theorem dX12_join_127 : decode cX12_join 127 = .ok (.getfield 23, 3) := by decide +kernel
theorem dX12_join_130 : decode cX12_join 130 = .ok (.iload_n 2, 1) := by decide +kernel
theorem dX12_join_131 : decode cX12_join 131 = .ok (.iaload, 1) := by decide +kernel
theorem dX12_join_132 : decode cX12_join 132 = .ok (.invokestatic 134, 3) := by decide +kernel
theorem dX12_join_135 : decode cX12_join 135 = .ok (.iload_n 3, 1) := by decide +kernel
theorem dX12_join_136 : decode cX12_join 136 = .ok (.iload_n 1, 1) := by decide +kernel
theorem dX12_join_137 : decode cX12_join 137 = .ok (.iload_n 2, 1) := by decide +kernel
theorem dX12_join_138 : decode cX12_join 138 = .ok (.invokevirtual 127, 3) := by decide +kernel
theorem dX12_join_141 : decode cX12_join 141 = .ok (.return_, 1) := by decide +kernel
theorem dX12_meanAcross_0 : decode cX12_meanAcross 0 = .ok (.iload_n 1, 1) := by decide +kernel
theorem dX12_meanAcross_1 : decode cX12_meanAcross 1 = .ok (.iload_n 0, 1) := by decide +kernel
theorem dX12_meanAcross_2 : decode cX12_meanAcross 2 = .ok (.imul, 1) := by decide +kernel
theorem dX12_meanAcross_3 : decode cX12_meanAcross 3 = .ok (.iload_n 3, 1) := by decide +kernel
theorem dX12_meanAcross_4 : decode cX12_meanAcross 4 = .ok (.iload_n 2, 1) := by decide +kernel
theorem dX12_meanAcross_5 : decode cX12_meanAcross 5 = .ok (.imul, 1) := by decide +kernel
theorem dX12_meanAcross_6 : decode cX12_meanAcross 6 = .ok (.iadd, 1) := by decide +kernel
theorem dX12_meanAcross_7 : decode cX12_meanAcross 7 = .ok (.iload_n 1, 1) := by decide +kernel
theorem dX12_meanAcross_8 : decode cX12_meanAcross 8 = .ok (.iload_n 3, 1) := by decide +kernel
theorem dX12_meanAcross_9 : decode cX12_meanAcross 9 = .ok (.iadd, 1) := by decide +kernel
theorem dX12_meanAcross_10 : decode cX12_meanAcross 10 = .ok (.invokestatic 137, 3) := by decide +kernel
theorem dX12_meanAcross_13 : decode cX12_meanAcross 13 = .ok (.ireturn, 1) := by decide +kernel
theorem dX12_meanRound_0 : decode cX12_meanRound 0 = .ok (.iload_n 0, 1) := by decide +kernel
theorem dX12_meanRound_1 : decode cX12_meanRound 1 = .ok (.iload_n 3, 1) := by decide +kernel
theorem dX12_meanRound_2 : decode cX12_meanRound 2 = .ok (.iload_n 0, 1) := by decide +kernel
theorem dX12_meanRound_3 : decode cX12_meanRound 3 = .ok (.iload_n 2, 1) := by decide +kernel
theorem dX12_meanRound_4 : decode cX12_meanRound 4 = .ok (.invokestatic 65, 3) := by decide +kernel
theorem dX12_meanRound_7 : decode cX12_meanRound 7 = .ok (.imul, 1) := by decide +kernel
theorem dX12_meanRound_8 : decode cX12_meanRound 8 = .ok (.iload_n 1, 1) := by decide +kernel
theorem dX12_meanRound_9 : decode cX12_meanRound 9 = .ok (.iload_n 3, 1) := by decide +kernel
theorem dX12_meanRound_10 : decode cX12_meanRound 10 = .ok (.iadd, 1) := by decide +kernel
theorem dX12_meanRound_11 : decode cX12_meanRound 11 = .ok (.invokestatic 137, 3) := by decide +kernel
theorem dX12_meanRound_14 : decode cX12_meanRound 14 = .ok (.iadd, 1) := by decide +kernel
theorem dX12_meanRound_15 : decode cX12_meanRound 15 = .ok (.sipush 360, 3) := by decide +kernel
theorem dX12_meanRound_18 : decode cX12_meanRound 18 = .ok (.iadd, 1) := by decide +kernel
theorem dX12_meanRound_19 : decode cX12_meanRound 19 = .ok (.sipush 360, 3) := by decide +kernel
theorem dX12_meanRound_22 : decode cX12_meanRound 22 = .ok (.irem, 1) := by decide +kernel
theorem dX12_meanRound_23 : decode cX12_meanRound 23 = .ok (.ireturn, 1) := by decide +kernel
theorem dX12_gatherAll_0 : decode cX12_gatherAll 0 = .ok (.aload_n 0, 1) := by decide +kernel
theorem dX12_gatherAll_1 : decode cX12_gatherAll 1 = .ok (.iload_n 1, 1) := by decide +kernel
theorem dX12_gatherAll_2 : decode cX12_gatherAll 2 = .ok (.putfield 99, 3) := by decide +kernel
theorem dX12_gatherAll_5 : decode cX12_gatherAll 5 = .ok (.aload_n 0, 1) := by decide +kernel
theorem dX12_gatherAll_6 : decode cX12_gatherAll 6 = .ok (.iload_n 2, 1) := by decide +kernel
theorem dX12_gatherAll_7 : decode cX12_gatherAll 7 = .ok (.putfield 106, 3) := by decide +kernel
theorem dX12_gatherAll_10 : decode cX12_gatherAll 10 = .ok (.aload_n 0, 1) := by decide +kernel
theorem dX12_gatherAll_11 : decode cX12_gatherAll 11 = .ok (.iload_n 3, 1) := by decide +kernel
theorem dX12_gatherAll_12 : decode cX12_gatherAll 12 = .ok (.putfield 124, 3) := by decide +kernel
theorem dX12_gatherAll_15 : decode cX12_gatherAll 15 = .ok (.aload_n 0, 1) := by decide +kernel
theorem dX12_gatherAll_16 : decode cX12_gatherAll 16 = .ok (.iconst 0, 1) := by decide +kernel
theorem dX12_gatherAll_17 : decode cX12_gatherAll 17 = .ok (.putfield 140, 3) := by decide +kernel
theorem dX12_gatherAll_20 : decode cX12_gatherAll 20 = .ok (.aload_n 0, 1) := by decide +kernel
theorem dX12_gatherAll_21 : decode cX12_gatherAll 21 = .ok (.getfield 95, 3) := by decide +kernel
theorem dX12_gatherAll_24 : decode cX12_gatherAll 24 = .ok (.istore 4, 2) := by decide +kernel
theorem dX12_gatherAll_26 : decode cX12_gatherAll 26 = .ok (.iconst 0, 1) := by decide +kernel
theorem dX12_gatherAll_27 : decode cX12_gatherAll 27 = .ok (.istore 5, 2) := by decide +kernel
theorem dX12_gatherAll_29 : decode cX12_gatherAll 29 = .ok (.iload 5, 2) := by decide +kernel
theorem dX12_gatherAll_31 : decode cX12_gatherAll 31 = .ok (.iload 4, 2) := by decide +kernel
theorem dX12_gatherAll_33 : decode cX12_gatherAll 33 = .ok (.if_icmp .ge 187, 3) := by decide +kernel
theorem dX12_gatherAll_36 : decode cX12_gatherAll 36 = .ok (.iconst (-1), 1) := by decide +kernel
theorem dX12_gatherAll_37 : decode cX12_gatherAll 37 = .ok (.istore 6, 2) := by decide +kernel
theorem dX12_gatherAll_39 : decode cX12_gatherAll 39 = .ok (.iconst (-1), 1) := by decide +kernel
theorem dX12_gatherAll_40 : decode cX12_gatherAll 40 = .ok (.istore 7, 2) := by decide +kernel
theorem dX12_gatherAll_42 : decode cX12_gatherAll 42 = .ok (.iconst 0, 1) := by decide +kernel
theorem dX12_gatherAll_43 : decode cX12_gatherAll 43 = .ok (.istore 8, 2) := by decide +kernel
theorem dX12_gatherAll_45 : decode cX12_gatherAll 45 = .ok (.iload 8, 2) := by decide +kernel
theorem dX12_gatherAll_47 : decode cX12_gatherAll 47 = .ok (.aload_n 0, 1) := by decide +kernel
theorem dX12_gatherAll_48 : decode cX12_gatherAll 48 = .ok (.getfield 95, 3) := by decide +kernel
theorem dX12_gatherAll_51 : decode cX12_gatherAll 51 = .ok (.if_icmp .ge 106, 3) := by decide +kernel
theorem dX12_gatherAll_54 : decode cX12_gatherAll 54 = .ok (.iconst (-1), 1) := by decide +kernel
theorem dX12_gatherAll_55 : decode cX12_gatherAll 55 = .ok (.istore 9, 2) := by decide +kernel
theorem dX12_gatherAll_57 : decode cX12_gatherAll 57 = .ok (.iload 9, 2) := by decide +kernel
theorem dX12_gatherAll_59 : decode cX12_gatherAll 59 = .ok (.aload_n 0, 1) := by decide +kernel
theorem dX12_gatherAll_60 : decode cX12_gatherAll 60 = .ok (.getfield 95, 3) := by decide +kernel
theorem dX12_gatherAll_63 : decode cX12_gatherAll 63 = .ok (.if_icmp .ge 88, 3) := by decide +kernel
theorem dX12_gatherAll_66 : decode cX12_gatherAll 66 = .ok (.aload_n 0, 1) := by decide +kernel
theorem dX12_gatherAll_67 : decode cX12_gatherAll 67 = .ok (.getfield 32, 3) := by decide +kernel
theorem dX12_gatherAll_70 : decode cX12_gatherAll 70 = .ok (.iload 8, 2) := by decide +kernel
theorem dX12_gatherAll_72 : decode cX12_gatherAll 72 = .ok (.baload, 1) := by decide +kernel
theorem dX12_gatherAll_73 : decode cX12_gatherAll 73 = .ok (.ifCond .eq 78, 3) := by decide +kernel
theorem dX12_gatherAll_76 : decode cX12_gatherAll 76 = .ok (.iload 9, 2) := by decide +kernel
theorem dX12_gatherAll_78 : decode cX12_gatherAll 78 = .ok (.iconst (-1), 1) := by decide +kernel
theorem dX12_gatherAll_79 : decode cX12_gatherAll 79 = .ok (.if_icmp .eq 34, 3) := by decide +kernel
theorem dX12_gatherAll_82 : decode cX12_gatherAll 82 = .ok (.aload_n 0, 1) := by decide +kernel
theorem dX12_gatherAll_83 : decode cX12_gatherAll 83 = .ok (.getfield 32, 3) := by decide +kernel
theorem dX12_gatherAll_86 : decode cX12_gatherAll 86 = .ok (.iload 9, 2) := by decide +kernel
theorem dX12_gatherAll_88 : decode cX12_gatherAll 88 = .ok (.baload, 1) := by decide +kernel
theorem dX12_gatherAll_89 : decode cX12_gatherAll 89 = .ok (.ifCond .eq 56, 3) := by decide +kernel
theorem dX12_gatherAll_92 : decode cX12_gatherAll 92 = .ok (.iload 9, 2) := by decide +kernel
theorem dX12_gatherAll_94 : decode cX12_gatherAll 94 = .ok (.iload 8, 2) := by decide +kernel
theorem dX12_gatherAll_96 : decode cX12_gatherAll 96 = .ok (.if_icmp .eq 49, 3) := by decide +kernel
theorem dX12_gatherAll_99 : decode cX12_gatherAll 99 = .ok (.aload_n 0, 1) := by decide +kernel
theorem dX12_gatherAll_100 : decode cX12_gatherAll 100 = .ok (.iload 8, 2) := by decide +kernel
theorem dX12_gatherAll_102 : decode cX12_gatherAll 102 = .ok (.iload 9, 2) := by decide +kernel
theorem dX12_gatherAll_104 : decode cX12_gatherAll 104 = .ok (.invokevirtual 120, 3) := by decide +kernel
theorem dX12_gatherAll_107 : decode cX12_gatherAll 107 = .ok (.ifCond .ne 6, 3) := by decide +kernel
theorem dX12_gatherAll_110 : decode cX12_gatherAll 110 = .ok (.goto 35, 3) := by decide +kernel
theorem dX12_gatherAll_113 : decode cX12_gatherAll 113 = .ok (.iload 6, 2) := by decide +kernel
theorem dX12_gatherAll_115 : decode cX12_gatherAll 115 = .ok (.iconst (-1), 1) := by decide +kernel
theorem dX12_gatherAll_116 : decode cX12_gatherAll 116 = .ok (.if_icmp .eq 21, 3) := by decide +kernel
theorem dX12_gatherAll_119 : decode cX12_gatherAll 119 = .ok (.aload_n 0, 1) := by decide +kernel
theorem dX12_gatherAll_120 : decode cX12_gatherAll 120 = .ok (.iload 8, 2) := by decide +kernel
theorem dX12_gatherAll_122 : decode cX12_gatherAll 122 = .ok (.iload 9, 2) := by decide +kernel
theorem dX12_gatherAll_124 : decode cX12_gatherAll 124 = .ok (.iload 6, 2) := by decide +kernel
theorem dX12_gatherAll_126 : decode cX12_gatherAll 126 = .ok (.iload 7, 2) := by decide +kernel
theorem dX12_gatherAll_128 : decode cX12_gatherAll 128 = .ok (.invokevirtual 143, 3) := by decide +kernel
theorem dX12_gatherAll_131 : decode cX12_gatherAll 131 = .ok (.ifCond .ne 6, 3) := by decide +kernel
theorem dX12_gatherAll_134 : decode cX12_gatherAll 134 = .ok (.goto 11, 3) := by decide +kernel
theorem dX12_gatherAll_137 : decode cX12_gatherAll 137 = .ok (.iload 8, 2) := by decide +kernel
theorem dX12_gatherAll_139 : decode cX12_gatherAll 139 = .ok (.istore 6, 2) := by decide +kernel
theorem dX12_gatherAll_141 : decode cX12_gatherAll 141 = .ok (.iload 9, 2) := by decide +kernel
theorem dX12_gatherAll_143 : decode cX12_gatherAll 143 = .ok (.istore 7, 2) := by decide +kernel
theorem dX12_gatherAll_145 : decode cX12_gatherAll 145 = .ok (.iinc 9 1, 3) := by decide +kernel
theorem dX12_gatherAll_148 : decode cX12_gatherAll 148 = .ok (.goto (-91), 3) := by decide +kernel
theorem dX12_gatherAll_151 : decode cX12_gatherAll 151 = .ok (.iinc 8 1, 3) := by decide +kernel
theorem dX12_gatherAll_154 : decode cX12_gatherAll 154 = .ok (.goto (-109), 3) := by decide +kernel
theorem dX12_gatherAll_157 : decode cX12_gatherAll 157 = .ok (.aload_n 0, 1) := by decide +kernel
theorem dX12_gatherAll_158 : decode cX12_gatherAll 158 = .ok (.getfield 36, 3) := by decide +kernel
theorem dX12_gatherAll_161 : decode cX12_gatherAll 161 = .ok (.aload_n 0, 1) := by decide +kernel
theorem dX12_gatherAll_162 : decode cX12_gatherAll 162 = .ok (.getfield 140, 3) := by decide +kernel
theorem dX12_gatherAll_165 : decode cX12_gatherAll 165 = .ok (.iload 6, 2) := by decide +kernel
theorem dX12_gatherAll_167 : decode cX12_gatherAll 167 = .ok (.iastore, 1) := by decide +kernel
theorem dX12_gatherAll_168 : decode cX12_gatherAll 168 = .ok (.aload_n 0, 1) := by decide +kernel
theorem dX12_gatherAll_169 : decode cX12_gatherAll 169 = .ok (.getfield 39, 3) := by decide +kernel
theorem dX12_gatherAll_172 : decode cX12_gatherAll 172 = .ok (.aload_n 0, 1) := by decide +kernel
theorem dX12_gatherAll_173 : decode cX12_gatherAll 173 = .ok (.getfield 140, 3) := by decide +kernel
theorem dX12_gatherAll_176 : decode cX12_gatherAll 176 = .ok (.iload 7, 2) := by decide +kernel
theorem dX12_gatherAll_178 : decode cX12_gatherAll 178 = .ok (.iastore, 1) := by decide +kernel
theorem dX12_gatherAll_179 : decode cX12_gatherAll 179 = .ok (.aload_n 0, 1) := by decide +kernel
theorem dX12_gatherAll_180 : decode cX12_gatherAll 180 = .ok (.dup, 1) := by decide +kernel
theorem dX12_gatherAll_181 : decode cX12_gatherAll 181 = .ok (.getfield 140, 3) := by decide +kernel
theorem dX12_gatherAll_184 : decode cX12_gatherAll 184 = .ok (.iconst 1, 1) := by decide +kernel
theorem dX12_gatherAll_185 : decode cX12_gatherAll 185 = .ok (.iadd, 1) := by decide +kernel
theorem dX12_gatherAll_186 : decode cX12_gatherAll 186 = .ok (.putfield 140, 3) := by decide +kernel
theorem dX12_gatherAll_189 : decode cX12_gatherAll 189 = .ok (.iload 7, 2) := by decide +kernel
theorem dX12_gatherAll_191 : decode cX12_gatherAll 191 = .ok (.iconst (-1), 1) := by decide +kernel
theorem dX12_gatherAll_192 : decode cX12_gatherAll 192 = .ok (.if_icmp .ne 14, 3) := by decide +kernel
theorem dX12_gatherAll_195 : decode cX12_gatherAll 195 = .ok (.aload_n 0, 1) := by decide +kernel
theorem dX12_gatherAll_196 : decode cX12_gatherAll 196 = .ok (.getfield 32, 3) := by decide +kernel
theorem dX12_gatherAll_199 : decode cX12_gatherAll 199 = .ok (.iload 6, 2) := by decide +kernel
theorem dX12_gatherAll_201 : decode cX12_gatherAll 201 = .ok (.iconst 0, 1) := by decide +kernel
theorem dX12_gatherAll_202 : decode cX12_gatherAll 202 = .ok (.bastore, 1) := by decide +kernel
theorem dX12_gatherAll_203 : decode cX12_gatherAll 203 = .ok (.goto 11, 3) := by decide +kernel
theorem dX12_gatherAll_206 : decode cX12_gatherAll 206 = .ok (.aload_n 0, 1) := by decide +kernel
theorem dX12_gatherAll_207 : decode cX12_gatherAll 207 = .ok (.iload 6, 2) := by decide +kernel
theorem dX12_gatherAll_209 : decode cX12_gatherAll 209 = .ok (.iload 7, 2) := by decide +kernel
theorem dX12_gatherAll_211 : decode cX12_gatherAll 211 = .ok (.invokevirtual 147, 3) := by decide +kernel
theorem dX12_gatherAll_214 : decode cX12_gatherAll 214 = .ok (.iinc 5 1, 3) := by decide +kernel
theorem dX12_gatherAll_217 : decode cX12_gatherAll 217 = .ok (.goto (-188), 3) := by decide +kernel
theorem dX12_gatherAll_220 : decode cX12_gatherAll 220 = .ok (.return_, 1) := by decide +kernel
theorem dX12_layTracks_0 : decode cX12_layTracks 0 = .ok (.aload_n 0, 1) := by decide +kernel
theorem dX12_layTracks_1 : decode cX12_layTracks 1 = .ok (.iconst 0, 1) := by decide +kernel
theorem dX12_layTracks_2 : decode cX12_layTracks 2 = .ok (.putfield 95, 3) := by decide +kernel
theorem dX12_layTracks_5 : decode cX12_layTracks 5 = .ok (.iconst 0, 1) := by decide +kernel
theorem dX12_layTracks_6 : decode cX12_layTracks 6 = .ok (.istore_n 1, 1) := by decide +kernel
theorem dX12_layTracks_7 : decode cX12_layTracks 7 = .ok (.iload_n 1, 1) := by decide +kernel
theorem dX12_layTracks_8 : decode cX12_layTracks 8 = .ok (.aload_n 0, 1) := by decide +kernel
theorem dX12_layTracks_9 : decode cX12_layTracks 9 = .ok (.invokevirtual 77, 3) := by decide +kernel
theorem dX12_layTracks_12 : decode cX12_layTracks 12 = .ok (.if_icmp .ge 33, 3) := by decide +kernel
theorem dX12_layTracks_15 : decode cX12_layTracks 15 = .ok (.aload_n 0, 1) := by decide +kernel
theorem dX12_layTracks_16 : decode cX12_layTracks 16 = .ok (.aload_n 0, 1) := by decide +kernel
theorem dX12_layTracks_17 : decode cX12_layTracks 17 = .ok (.iload_n 1, 1) := by decide +kernel
theorem dX12_layTracks_18 : decode cX12_layTracks 18 = .ok (.iconst 0, 1) := by decide +kernel
theorem dX12_layTracks_19 : decode cX12_layTracks 19 = .ok (.invokevirtual 151, 3) := by decide +kernel
theorem dX12_layTracks_22 : decode cX12_layTracks 22 = .ok (.aload_n 0, 1) := by decide +kernel
theorem dX12_layTracks_23 : decode cX12_layTracks 23 = .ok (.iload_n 1, 1) := by decide +kernel
theorem dX12_layTracks_24 : decode cX12_layTracks 24 = .ok (.iconst 1, 1) := by decide +kernel
theorem dX12_layTracks_25 : decode cX12_layTracks 25 = .ok (.invokevirtual 151, 3) := by decide +kernel
theorem dX12_layTracks_28 : decode cX12_layTracks 28 = .ok (.aload_n 0, 1) := by decide +kernel
theorem dX12_layTracks_29 : decode cX12_layTracks 29 = .ok (.iload_n 1, 1) := by decide +kernel
theorem dX12_layTracks_30 : decode cX12_layTracks 30 = .ok (.iconst 2, 1) := by decide +kernel
theorem dX12_layTracks_31 : decode cX12_layTracks 31 = .ok (.invokevirtual 151, 3) := by decide +kernel
theorem dX12_layTracks_34 : decode cX12_layTracks 34 = .ok (.iconst (-1), 1) := by decide +kernel
theorem dX12_layTracks_35 : decode cX12_layTracks 35 = .ok (.iconst (-1), 1) := by decide +kernel
theorem dX12_layTracks_36 : decode cX12_layTracks 36 = .ok (.invokevirtual 127, 3) := by decide +kernel
theorem dX12_layTracks_39 : decode cX12_layTracks 39 = .ok (.iinc 1 1, 3) := by decide +kernel
theorem dX12_layTracks_42 : decode cX12_layTracks 42 = .ok (.goto (-35), 3) := by decide +kernel
theorem dX12_layTracks_45 : decode cX12_layTracks 45 = .ok (.return_, 1) := by decide +kernel
theorem dX12_layLeaves_0 : decode cX12_layLeaves 0 = .ok (.aload_n 0, 1) := by decide +kernel
theorem dX12_layLeaves_1 : decode cX12_layLeaves 1 = .ok (.iconst 0, 1) := by decide +kernel
theorem dX12_layLeaves_2 : decode cX12_layLeaves 2 = .ok (.putfield 95, 3) := by decide +kernel
theorem dX12_layLeaves_5 : decode cX12_layLeaves 5 = .ok (.iconst 0, 1) := by decide +kernel
theorem dX12_layLeaves_6 : decode cX12_layLeaves 6 = .ok (.istore 4, 2) := by decide +kernel
theorem dX12_layLeaves_8 : decode cX12_layLeaves 8 = .ok (.iload 4, 2) := by decide +kernel
theorem dX12_layLeaves_10 : decode cX12_layLeaves 10 = .ok (.aload_n 0, 1) := by decide +kernel
theorem dX12_layLeaves_11 : decode cX12_layLeaves 11 = .ok (.iload_n 1, 1) := by decide +kernel
theorem dX12_layLeaves_12 : decode cX12_layLeaves 12 = .ok (.iconst 1, 1) := by decide +kernel
theorem dX12_layLeaves_13 : decode cX12_layLeaves 13 = .ok (.invokevirtual 88, 3) := by decide +kernel
theorem dX12_layLeaves_16 : decode cX12_layLeaves 16 = .ok (.if_icmp .ge 47, 3) := by decide +kernel
theorem dX12_layLeaves_19 : decode cX12_layLeaves 19 = .ok (.lload_n 2, 1) := by decide +kernel
theorem dX12_layLeaves_20 : decode cX12_layLeaves 20 = .ok (.iload 4, 2) := by decide +kernel
theorem dX12_layLeaves_22 : decode cX12_layLeaves 22 = .ok (.invokestatic 154, 3) := by decide +kernel
theorem dX12_layLeaves_25 : decode cX12_layLeaves 25 = .ok (.ifCond .eq 32, 3) := by decide +kernel
theorem dX12_layLeaves_28 : decode cX12_layLeaves 28 = .ok (.aload_n 0, 1) := by decide +kernel
theorem dX12_layLeaves_29 : decode cX12_layLeaves 29 = .ok (.aload_n 0, 1) := by decide +kernel
theorem dX12_layLeaves_30 : decode cX12_layLeaves 30 = .ok (.iload_n 1, 1) := by decide +kernel
theorem dX12_layLeaves_31 : decode cX12_layLeaves 31 = .ok (.iload 4, 2) := by decide +kernel
theorem dX12_layLeaves_33 : decode cX12_layLeaves 33 = .ok (.iconst 0, 1) := by decide +kernel
theorem dX12_layLeaves_34 : decode cX12_layLeaves 34 = .ok (.invokevirtual 91, 3) := by decide +kernel
theorem dX12_layLeaves_37 : decode cX12_layLeaves 37 = .ok (.aload_n 0, 1) := by decide +kernel
theorem dX12_layLeaves_38 : decode cX12_layLeaves 38 = .ok (.iload_n 1, 1) := by decide +kernel
theorem dX12_layLeaves_39 : decode cX12_layLeaves 39 = .ok (.iload 4, 2) := by decide +kernel
theorem dX12_layLeaves_41 : decode cX12_layLeaves 41 = .ok (.iconst 1, 1) := by decide +kernel
theorem dX12_layLeaves_42 : decode cX12_layLeaves 42 = .ok (.invokevirtual 91, 3) := by decide +kernel
theorem dX12_layLeaves_45 : decode cX12_layLeaves 45 = .ok (.aload_n 0, 1) := by decide +kernel
theorem dX12_layLeaves_46 : decode cX12_layLeaves 46 = .ok (.iload_n 1, 1) := by decide +kernel
theorem dX12_layLeaves_47 : decode cX12_layLeaves 47 = .ok (.iload 4, 2) := by decide +kernel
theorem dX12_layLeaves_49 : decode cX12_layLeaves 49 = .ok (.invokevirtual 158, 3) := by decide +kernel
theorem dX12_layLeaves_52 : decode cX12_layLeaves 52 = .ok (.iconst (-1), 1) := by decide +kernel
theorem dX12_layLeaves_53 : decode cX12_layLeaves 53 = .ok (.iconst (-1), 1) := by decide +kernel
theorem dX12_layLeaves_54 : decode cX12_layLeaves 54 = .ok (.invokevirtual 127, 3) := by decide +kernel
theorem dX12_layLeaves_57 : decode cX12_layLeaves 57 = .ok (.iinc 4 1, 3) := by decide +kernel
theorem dX12_layLeaves_60 : decode cX12_layLeaves 60 = .ok (.goto (-52), 3) := by decide +kernel
theorem dX12_layLeaves_63 : decode cX12_layLeaves 63 = .ok (.return_, 1) := by decide +kernel
theorem dX12_stepAt_0 : decode cX12_stepAt 0 = .ok (.sipush 2779, 3) := by decide +kernel
theorem dX12_stepAt_3 : decode cX12_stepAt 3 = .ok (.sipush 2777, 3) := by decide +kernel
theorem dX12_stepAt_6 : decode cX12_stepAt 6 = .ok (.iload_n 0, 1) := by decide +kernel
theorem dX12_stepAt_7 : decode cX12_stepAt 7 = .ok (.iload_n 1, 1) := by decide +kernel
theorem dX12_stepAt_8 : decode cX12_stepAt 8 = .ok (.iadd, 1) := by decide +kernel
theorem dX12_stepAt_9 : decode cX12_stepAt 9 = .ok (.bipush 20, 2) := by decide +kernel
theorem dX12_stepAt_11 : decode cX12_stepAt 11 = .ok (.irem, 1) := by decide +kernel
theorem dX12_stepAt_12 : decode cX12_stepAt 12 = .ok (.imul, 1) := by decide +kernel
theorem dX12_stepAt_13 : decode cX12_stepAt 13 = .ok (.iadd, 1) := by decide +kernel
theorem dX12_stepAt_14 : decode cX12_stepAt 14 = .ok (.ireturn, 1) := by decide +kernel
theorem dX12_keepNow_0 : decode cX12_keepNow 0 = .ok (.aload_n 0, 1) := by decide +kernel
theorem dX12_keepNow_1 : decode cX12_keepNow 1 = .ok (.getfield 8, 3) := by decide +kernel
theorem dX12_keepNow_4 : decode cX12_keepNow 4 = .ok (.iconst 0, 1) := by decide +kernel
theorem dX12_keepNow_5 : decode cX12_keepNow 5 = .ok (.iaload, 1) := by decide +kernel
theorem dX12_keepNow_6 : decode cX12_keepNow 6 = .ok (.bipush 20, 2) := by decide +kernel
theorem dX12_keepNow_8 : decode cX12_keepNow 8 = .ok (.if_icmp .ne 30, 3) := by decide +kernel
theorem dX12_keepNow_11 : decode cX12_keepNow 11 = .ok (.aload_n 0, 1) := by decide +kernel
theorem dX12_keepNow_12 : decode cX12_keepNow 12 = .ok (.getfield 8, 3) := by decide +kernel
theorem dX12_keepNow_15 : decode cX12_keepNow 15 = .ok (.iconst 1, 1) := by decide +kernel
theorem dX12_keepNow_16 : decode cX12_keepNow 16 = .ok (.aload_n 0, 1) := by decide +kernel
theorem dX12_keepNow_17 : decode cX12_keepNow 17 = .ok (.getfield 8, 3) := by decide +kernel
theorem dX12_keepNow_20 : decode cX12_keepNow 20 = .ok (.iconst 1, 1) := by decide +kernel
theorem dX12_keepNow_21 : decode cX12_keepNow 21 = .ok (.iaload, 1) := by decide +kernel
theorem dX12_keepNow_22 : decode cX12_keepNow 22 = .ok (.iconst 1, 1) := by decide +kernel
theorem dX12_keepNow_23 : decode cX12_keepNow 23 = .ok (.iadd, 1) := by decide +kernel
theorem dX12_keepNow_24 : decode cX12_keepNow 24 = .ok (.bipush 20, 2) := by decide +kernel
theorem dX12_keepNow_26 : decode cX12_keepNow 26 = .ok (.irem, 1) := by decide +kernel
theorem dX12_keepNow_27 : decode cX12_keepNow 27 = .ok (.iastore, 1) := by decide +kernel
theorem dX12_keepNow_28 : decode cX12_keepNow 28 = .ok (.aload_n 0, 1) := by decide +kernel
theorem dX12_keepNow_29 : decode cX12_keepNow 29 = .ok (.getfield 8, 3) := by decide +kernel
theorem dX12_keepNow_32 : decode cX12_keepNow 32 = .ok (.iconst 0, 1) := by decide +kernel
theorem dX12_keepNow_33 : decode cX12_keepNow 33 = .ok (.dup2, 1) := by decide +kernel
theorem dX12_keepNow_34 : decode cX12_keepNow 34 = .ok (.iaload, 1) := by decide +kernel
theorem dX12_keepNow_35 : decode cX12_keepNow 35 = .ok (.iconst 1, 1) := by decide +kernel
theorem dX12_keepNow_36 : decode cX12_keepNow 36 = .ok (.isub, 1) := by decide +kernel
theorem dX12_keepNow_37 : decode cX12_keepNow 37 = .ok (.iastore, 1) := by decide +kernel
theorem dX12_keepNow_38 : decode cX12_keepNow 38 = .ok (.aload_n 0, 1) := by decide +kernel
theorem dX12_keepNow_39 : decode cX12_keepNow 39 = .ok (.getfield 8, 3) := by decide +kernel
theorem dX12_keepNow_42 : decode cX12_keepNow 42 = .ok (.iconst 1, 1) := by decide +kernel
theorem dX12_keepNow_43 : decode cX12_keepNow 43 = .ok (.iaload, 1) := by decide +kernel
theorem dX12_keepNow_44 : decode cX12_keepNow 44 = .ok (.aload_n 0, 1) := by decide +kernel
theorem dX12_keepNow_45 : decode cX12_keepNow 45 = .ok (.getfield 8, 3) := by decide +kernel
theorem dX12_keepNow_48 : decode cX12_keepNow 48 = .ok (.iconst 0, 1) := by decide +kernel
theorem dX12_keepNow_49 : decode cX12_keepNow 49 = .ok (.iaload, 1) := by decide +kernel
theorem dX12_keepNow_50 : decode cX12_keepNow 50 = .ok (.invokestatic 161, 3) := by decide +kernel
theorem dX12_keepNow_53 : decode cX12_keepNow 53 = .ok (.istore_n 1, 1) := by decide +kernel
theorem dX12_keepNow_54 : decode cX12_keepNow 54 = .ok (.iconst 0, 1) := by decide +kernel
theorem dX12_keepNow_55 : decode cX12_keepNow 55 = .ok (.istore_n 2, 1) := by decide +kernel
theorem dX12_keepNow_56 : decode cX12_keepNow 56 = .ok (.iload_n 2, 1) := by decide +kernel
theorem dX12_keepNow_57 : decode cX12_keepNow 57 = .ok (.sipush 2777, 3) := by decide +kernel
theorem dX12_keepNow_60 : decode cX12_keepNow 60 = .ok (.if_icmp .ge 25, 3) := by decide +kernel
theorem dX12_keepNow_63 : decode cX12_keepNow 63 = .ok (.aload_n 0, 1) := by decide +kernel
theorem dX12_keepNow_64 : decode cX12_keepNow 64 = .ok (.getfield 8, 3) := by decide +kernel
theorem dX12_keepNow_67 : decode cX12_keepNow 67 = .ok (.iload_n 1, 1) := by decide +kernel
theorem dX12_keepNow_68 : decode cX12_keepNow 68 = .ok (.iload_n 2, 1) := by decide +kernel
theorem dX12_keepNow_69 : decode cX12_keepNow 69 = .ok (.iadd, 1) := by decide +kernel
theorem dX12_keepNow_70 : decode cX12_keepNow 70 = .ok (.aload_n 0, 1) := by decide +kernel
theorem dX12_keepNow_71 : decode cX12_keepNow 71 = .ok (.getfield 8, 3) := by decide +kernel
theorem dX12_keepNow_74 : decode cX12_keepNow 74 = .ok (.iconst 2, 1) := by decide +kernel
theorem dX12_keepNow_75 : decode cX12_keepNow 75 = .ok (.iload_n 2, 1) := by decide +kernel
theorem dX12_keepNow_76 : decode cX12_keepNow 76 = .ok (.iadd, 1) := by decide +kernel
theorem dX12_keepNow_77 : decode cX12_keepNow 77 = .ok (.iaload, 1) := by decide +kernel
theorem dX12_keepNow_78 : decode cX12_keepNow 78 = .ok (.iastore, 1) := by decide +kernel
theorem dX12_keepNow_79 : decode cX12_keepNow 79 = .ok (.iinc 2 1, 3) := by decide +kernel
theorem dX12_keepNow_82 : decode cX12_keepNow 82 = .ok (.goto (-26), 3) := by decide +kernel
theorem dX12_keepNow_85 : decode cX12_keepNow 85 = .ok (.aload_n 0, 1) := by decide +kernel
theorem dX12_keepNow_86 : decode cX12_keepNow 86 = .ok (.getfield 8, 3) := by decide +kernel
theorem dX12_keepNow_89 : decode cX12_keepNow 89 = .ok (.iconst 0, 1) := by decide +kernel
theorem dX12_keepNow_90 : decode cX12_keepNow 90 = .ok (.dup2, 1) := by decide +kernel
theorem dX12_keepNow_91 : decode cX12_keepNow 91 = .ok (.iaload, 1) := by decide +kernel
theorem dX12_keepNow_92 : decode cX12_keepNow 92 = .ok (.iconst 1, 1) := by decide +kernel
theorem dX12_keepNow_93 : decode cX12_keepNow 93 = .ok (.iadd, 1) := by decide +kernel
theorem dX12_keepNow_94 : decode cX12_keepNow 94 = .ok (.iastore, 1) := by decide +kernel
theorem dX12_keepNow_95 : decode cX12_keepNow 95 = .ok (.return_, 1) := by decide +kernel
theorem dX12_undo_0 : decode cX12_undo 0 = .ok (.aload_n 0, 1) := by decide +kernel
theorem dX12_undo_1 : decode cX12_undo 1 = .ok (.getfield 8, 3) := by decide +kernel
theorem dX12_undo_4 : decode cX12_undo 4 = .ok (.iconst 0, 1) := by decide +kernel
theorem dX12_undo_5 : decode cX12_undo 5 = .ok (.iaload, 1) := by decide +kernel
theorem dX12_undo_6 : decode cX12_undo 6 = .ok (.ifCond .ne 5, 3) := by decide +kernel
theorem dX12_undo_9 : decode cX12_undo 9 = .ok (.iconst (-1), 1) := by decide +kernel
theorem dX12_undo_10 : decode cX12_undo 10 = .ok (.ireturn, 1) := by decide +kernel
theorem dX12_undo_11 : decode cX12_undo 11 = .ok (.aload_n 0, 1) := by decide +kernel
theorem dX12_undo_12 : decode cX12_undo 12 = .ok (.getfield 8, 3) := by decide +kernel
theorem dX12_undo_15 : decode cX12_undo 15 = .ok (.iconst 0, 1) := by decide +kernel
theorem dX12_undo_16 : decode cX12_undo 16 = .ok (.dup2, 1) := by decide +kernel
theorem dX12_undo_17 : decode cX12_undo 17 = .ok (.iaload, 1) := by decide +kernel
theorem dX12_undo_18 : decode cX12_undo 18 = .ok (.iconst 1, 1) := by decide +kernel
theorem dX12_undo_19 : decode cX12_undo 19 = .ok (.isub, 1) := by decide +kernel
theorem dX12_undo_20 : decode cX12_undo 20 = .ok (.iastore, 1) := by decide +kernel
theorem dX12_undo_21 : decode cX12_undo 21 = .ok (.aload_n 0, 1) := by decide +kernel
theorem dX12_undo_22 : decode cX12_undo 22 = .ok (.getfield 8, 3) := by decide +kernel
theorem dX12_undo_25 : decode cX12_undo 25 = .ok (.iconst 1, 1) := by decide +kernel
theorem dX12_undo_26 : decode cX12_undo 26 = .ok (.iaload, 1) := by decide +kernel
theorem dX12_undo_27 : decode cX12_undo 27 = .ok (.aload_n 0, 1) := by decide +kernel
theorem dX12_undo_28 : decode cX12_undo 28 = .ok (.getfield 8, 3) := by decide +kernel
theorem dX12_undo_31 : decode cX12_undo 31 = .ok (.iconst 0, 1) := by decide +kernel
theorem dX12_undo_32 : decode cX12_undo 32 = .ok (.iaload, 1) := by decide +kernel
theorem dX12_undo_33 : decode cX12_undo 33 = .ok (.invokestatic 161, 3) := by decide +kernel
theorem dX12_undo_36 : decode cX12_undo 36 = .ok (.istore_n 1, 1) := by decide +kernel
theorem dX12_undo_37 : decode cX12_undo 37 = .ok (.iconst 0, 1) := by decide +kernel
theorem dX12_undo_38 : decode cX12_undo 38 = .ok (.istore_n 2, 1) := by decide +kernel
theorem dX12_undo_39 : decode cX12_undo 39 = .ok (.iload_n 2, 1) := by decide +kernel
theorem dX12_undo_40 : decode cX12_undo 40 = .ok (.sipush 2777, 3) := by decide +kernel
theorem dX12_undo_43 : decode cX12_undo 43 = .ok (.if_icmp .ge 25, 3) := by decide +kernel
theorem dX12_undo_46 : decode cX12_undo 46 = .ok (.aload_n 0, 1) := by decide +kernel
theorem dX12_undo_47 : decode cX12_undo 47 = .ok (.getfield 8, 3) := by decide +kernel
theorem dX12_undo_50 : decode cX12_undo 50 = .ok (.iconst 2, 1) := by decide +kernel
theorem dX12_undo_51 : decode cX12_undo 51 = .ok (.iload_n 2, 1) := by decide +kernel
theorem dX12_undo_52 : decode cX12_undo 52 = .ok (.iadd, 1) := by decide +kernel
theorem dX12_undo_53 : decode cX12_undo 53 = .ok (.aload_n 0, 1) := by decide +kernel
theorem dX12_undo_54 : decode cX12_undo 54 = .ok (.getfield 8, 3) := by decide +kernel
theorem dX12_undo_57 : decode cX12_undo 57 = .ok (.iload_n 1, 1) := by decide +kernel
theorem dX12_undo_58 : decode cX12_undo 58 = .ok (.iload_n 2, 1) := by decide +kernel
theorem dX12_undo_59 : decode cX12_undo 59 = .ok (.iadd, 1) := by decide +kernel
theorem dX12_undo_60 : decode cX12_undo 60 = .ok (.iaload, 1) := by decide +kernel
theorem dX12_undo_61 : decode cX12_undo 61 = .ok (.iastore, 1) := by decide +kernel
theorem dX12_undo_62 : decode cX12_undo 62 = .ok (.iinc 2 1, 3) := by decide +kernel
theorem dX12_undo_65 : decode cX12_undo 65 = .ok (.goto (-26), 3) := by decide +kernel
theorem dX12_undo_68 : decode cX12_undo 68 = .ok (.aload_n 0, 1) := by decide +kernel
theorem dX12_undo_69 : decode cX12_undo 69 = .ok (.getfield 8, 3) := by decide +kernel
theorem dX12_undo_72 : decode cX12_undo 72 = .ok (.iconst 0, 1) := by decide +kernel
theorem dX12_undo_73 : decode cX12_undo 73 = .ok (.iaload, 1) := by decide +kernel
theorem dX12_undo_74 : decode cX12_undo 74 = .ok (.ireturn, 1) := by decide +kernel
theorem dX12_layTrack_0 : decode cX12_layTrack 0 = .ok (.aload_n 0, 1) := by decide +kernel
theorem dX12_layTrack_1 : decode cX12_layTrack 1 = .ok (.getfield 8, 3) := by decide +kernel
theorem dX12_layTrack_4 : decode cX12_layTrack 4 = .ok (.iconst 5, 1) := by decide +kernel
theorem dX12_layTrack_5 : decode cX12_layTrack 5 = .ok (.iaload, 1) := by decide +kernel
theorem dX12_layTrack_6 : decode cX12_layTrack 6 = .ok (.invokestatic 73, 3) := by decide +kernel
theorem dX12_layTrack_9 : decode cX12_layTrack 9 = .ok (.iconst 1, 1) := by decide +kernel
theorem dX12_layTrack_10 : decode cX12_layTrack 10 = .ok (.iadd, 1) := by decide +kernel
theorem dX12_layTrack_11 : decode cX12_layTrack 11 = .ok (.iconst 3, 1) := by decide +kernel
theorem dX12_layTrack_12 : decode cX12_layTrack 12 = .ok (.iload_n 1, 1) := by decide +kernel
theorem dX12_layTrack_13 : decode cX12_layTrack 13 = .ok (.imul, 1) := by decide +kernel
theorem dX12_layTrack_14 : decode cX12_layTrack 14 = .ok (.iadd, 1) := by decide +kernel
theorem dX12_layTrack_15 : decode cX12_layTrack 15 = .ok (.istore 5, 2) := by decide +kernel
theorem dX12_layTrack_17 : decode cX12_layTrack 17 = .ok (.aload_n 0, 1) := by decide +kernel
theorem dX12_layTrack_18 : decode cX12_layTrack 18 = .ok (.getfield 8, 3) := by decide +kernel
theorem dX12_layTrack_21 : decode cX12_layTrack 21 = .ok (.iload 5, 2) := by decide +kernel
theorem dX12_layTrack_23 : decode cX12_layTrack 23 = .ok (.iload_n 2, 1) := by decide +kernel
theorem dX12_layTrack_24 : decode cX12_layTrack 24 = .ok (.iastore, 1) := by decide +kernel
theorem dX12_layTrack_25 : decode cX12_layTrack 25 = .ok (.aload_n 0, 1) := by decide +kernel
theorem dX12_layTrack_26 : decode cX12_layTrack 26 = .ok (.getfield 8, 3) := by decide +kernel
theorem dX12_layTrack_29 : decode cX12_layTrack 29 = .ok (.iload 5, 2) := by decide +kernel
theorem dX12_layTrack_31 : decode cX12_layTrack 31 = .ok (.iconst 1, 1) := by decide +kernel
theorem dX12_layTrack_32 : decode cX12_layTrack 32 = .ok (.iadd, 1) := by decide +kernel
theorem dX12_layTrack_33 : decode cX12_layTrack 33 = .ok (.iload_n 3, 1) := by decide +kernel
theorem dX12_layTrack_34 : decode cX12_layTrack 34 = .ok (.iastore, 1) := by decide +kernel
theorem dX12_layTrack_35 : decode cX12_layTrack 35 = .ok (.aload_n 0, 1) := by decide +kernel
theorem dX12_layTrack_36 : decode cX12_layTrack 36 = .ok (.getfield 8, 3) := by decide +kernel
theorem dX12_layTrack_39 : decode cX12_layTrack 39 = .ok (.iload 5, 2) := by decide +kernel
theorem dX12_layTrack_41 : decode cX12_layTrack 41 = .ok (.iconst 2, 1) := by decide +kernel
theorem dX12_layTrack_42 : decode cX12_layTrack 42 = .ok (.iadd, 1) := by decide +kernel
theorem dX12_layTrack_43 : decode cX12_layTrack 43 = .ok (.iload 4, 2) := by decide +kernel
theorem dX12_layTrack_45 : decode cX12_layTrack 45 = .ok (.iastore, 1) := by decide +kernel
theorem dX12_layTrack_46 : decode cX12_layTrack 46 = .ok (.return_, 1) := by decide +kernel
theorem dX12_counted_0 : decode cX12_counted 0 = .ok (.aload_n 0, 1) := by decide +kernel
theorem dX12_counted_1 : decode cX12_counted 1 = .ok (.getfield 8, 3) := by decide +kernel
theorem dX12_counted_4 : decode cX12_counted 4 = .ok (.aload_n 0, 1) := by decide +kernel
theorem dX12_counted_5 : decode cX12_counted 5 = .ok (.getfield 8, 3) := by decide +kernel
theorem dX12_counted_8 : decode cX12_counted 8 = .ok (.iconst 5, 1) := by decide +kernel
theorem dX12_counted_9 : decode cX12_counted 9 = .ok (.iaload, 1) := by decide +kernel
theorem dX12_counted_10 : decode cX12_counted 10 = .ok (.invokestatic 73, 3) := by decide +kernel
theorem dX12_counted_13 : decode cX12_counted 13 = .ok (.dup2, 1) := by decide +kernel
theorem dX12_counted_14 : decode cX12_counted 14 = .ok (.iaload, 1) := by decide +kernel
theorem dX12_counted_15 : decode cX12_counted 15 = .ok (.iload_n 1, 1) := by decide +kernel
theorem dX12_counted_16 : decode cX12_counted 16 = .ok (.iadd, 1) := by decide +kernel
theorem dX12_counted_17 : decode cX12_counted 17 = .ok (.iastore, 1) := by decide +kernel
theorem dX12_counted_18 : decode cX12_counted 18 = .ok (.aload_n 0, 1) := by decide +kernel
theorem dX12_counted_19 : decode cX12_counted 19 = .ok (.invokevirtual 77, 3) := by decide +kernel
theorem dX12_counted_22 : decode cX12_counted 22 = .ok (.ireturn, 1) := by decide +kernel
theorem dX12_track_0 : decode cX12_track 0 = .ok (.iload_n 1, 1) := by decide +kernel
theorem dX12_track_1 : decode cX12_track 1 = .ok (.iload_n 2, 1) := by decide +kernel
theorem dX12_track_2 : decode cX12_track 2 = .ok (.invokestatic 164, 3) := by decide +kernel
theorem dX12_track_5 : decode cX12_track 5 = .ok (.ifCond .eq 23, 3) := by decide +kernel
theorem dX12_track_8 : decode cX12_track 8 = .ok (.iload_n 3, 1) := by decide +kernel
theorem dX12_track_9 : decode cX12_track 9 = .ok (.iconst 1, 1) := by decide +kernel
theorem dX12_track_10 : decode cX12_track 10 = .ok (.sipush 9999, 3) := by decide +kernel
theorem dX12_track_13 : decode cX12_track 13 = .ok (.invokestatic 69, 3) := by decide +kernel
theorem dX12_track_16 : decode cX12_track 16 = .ok (.ifCond .eq 12, 3) := by decide +kernel
theorem dX12_track_19 : decode cX12_track 19 = .ok (.aload_n 0, 1) := by decide +kernel
theorem dX12_track_20 : decode cX12_track 20 = .ok (.invokevirtual 77, 3) := by decide +kernel
theorem dX12_track_23 : decode cX12_track 23 = .ok (.bipush 40, 2) := by decide +kernel
theorem dX12_track_25 : decode cX12_track 25 = .ok (.if_icmp .ne 5, 3) := by decide +kernel
theorem dX12_track_28 : decode cX12_track 28 = .ok (.iconst (-1), 1) := by decide +kernel
theorem dX12_track_29 : decode cX12_track 29 = .ok (.ireturn, 1) := by decide +kernel
theorem dX12_track_30 : decode cX12_track 30 = .ok (.aload_n 0, 1) := by decide +kernel
theorem dX12_track_31 : decode cX12_track 31 = .ok (.invokevirtual 167, 3) := by decide +kernel
theorem dX12_track_34 : decode cX12_track 34 = .ok (.aload_n 0, 1) := by decide +kernel
theorem dX12_track_35 : decode cX12_track 35 = .ok (.aload_n 0, 1) := by decide +kernel
theorem dX12_track_36 : decode cX12_track 36 = .ok (.invokevirtual 77, 3) := by decide +kernel
theorem dX12_track_39 : decode cX12_track 39 = .ok (.iload_n 1, 1) := by decide +kernel
theorem dX12_track_40 : decode cX12_track 40 = .ok (.iload_n 2, 1) := by decide +kernel
theorem dX12_track_41 : decode cX12_track 41 = .ok (.iload_n 3, 1) := by decide +kernel
theorem dX12_track_42 : decode cX12_track 42 = .ok (.invokevirtual 170, 3) := by decide +kernel
theorem dX12_track_45 : decode cX12_track 45 = .ok (.aload_n 0, 1) := by decide +kernel
theorem dX12_track_46 : decode cX12_track 46 = .ok (.iconst 1, 1) := by decide +kernel
theorem dX12_track_47 : decode cX12_track 47 = .ok (.invokevirtual 174, 3) := by decide +kernel
theorem dX12_track_50 : decode cX12_track 50 = .ok (.iconst 1, 1) := by decide +kernel
theorem dX12_track_51 : decode cX12_track 51 = .ok (.isub, 1) := by decide +kernel
theorem dX12_track_52 : decode cX12_track 52 = .ok (.ireturn, 1) := by decide +kernel
theorem dX12_move_0 : decode cX12_move 0 = .ok (.aload_n 0, 1) := by decide +kernel
theorem dX12_move_1 : decode cX12_move 1 = .ok (.iload_n 1, 1) := by decide +kernel
theorem dX12_move_2 : decode cX12_move 2 = .ok (.invokevirtual 177, 3) := by decide +kernel
theorem dX12_move_5 : decode cX12_move 5 = .ok (.ifCond .eq 11, 3) := by decide +kernel
theorem dX12_move_8 : decode cX12_move 8 = .ok (.iload_n 2, 1) := by decide +kernel
theorem dX12_move_9 : decode cX12_move 9 = .ok (.iload_n 3, 1) := by decide +kernel
theorem dX12_move_10 : decode cX12_move 10 = .ok (.invokestatic 164, 3) := by decide +kernel
theorem dX12_move_13 : decode cX12_move 13 = .ok (.ifCond .ne 5, 3) := by decide +kernel
theorem dX12_move_16 : decode cX12_move 16 = .ok (.iconst 0, 1) := by decide +kernel
theorem dX12_move_17 : decode cX12_move 17 = .ok (.ireturn, 1) := by decide +kernel
theorem dX12_move_18 : decode cX12_move 18 = .ok (.aload_n 0, 1) := by decide +kernel
theorem dX12_move_19 : decode cX12_move 19 = .ok (.invokevirtual 167, 3) := by decide +kernel
theorem dX12_move_22 : decode cX12_move 22 = .ok (.aload_n 0, 1) := by decide +kernel
theorem dX12_move_23 : decode cX12_move 23 = .ok (.iload_n 1, 1) := by decide +kernel
theorem dX12_move_24 : decode cX12_move 24 = .ok (.iload_n 2, 1) := by decide +kernel
theorem dX12_move_25 : decode cX12_move 25 = .ok (.iload_n 3, 1) := by decide +kernel
theorem dX12_move_26 : decode cX12_move 26 = .ok (.aload_n 0, 1) := by decide +kernel
theorem dX12_move_27 : decode cX12_move 27 = .ok (.iload_n 1, 1) := by decide +kernel
theorem dX12_move_28 : decode cX12_move 28 = .ok (.iconst 2, 1) := by decide +kernel
theorem dX12_move_29 : decode cX12_move 29 = .ok (.invokevirtual 151, 3) := by decide +kernel
theorem dX12_move_32 : decode cX12_move 32 = .ok (.invokevirtual 170, 3) := by decide +kernel
theorem dX12_move_35 : decode cX12_move 35 = .ok (.iconst 1, 1) := by decide +kernel
theorem dX12_move_36 : decode cX12_move 36 = .ok (.ireturn, 1) := by decide +kernel
theorem dX12_weigh_0 : decode cX12_weigh 0 = .ok (.aload_n 0, 1) := by decide +kernel
theorem dX12_weigh_1 : decode cX12_weigh 1 = .ok (.iload_n 1, 1) := by decide +kernel
theorem dX12_weigh_2 : decode cX12_weigh 2 = .ok (.invokevirtual 177, 3) := by decide +kernel
theorem dX12_weigh_5 : decode cX12_weigh 5 = .ok (.ifCond .eq 14, 3) := by decide +kernel
theorem dX12_weigh_8 : decode cX12_weigh 8 = .ok (.iload_n 2, 1) := by decide +kernel
theorem dX12_weigh_9 : decode cX12_weigh 9 = .ok (.iconst 1, 1) := by decide +kernel
theorem dX12_weigh_10 : decode cX12_weigh 10 = .ok (.sipush 9999, 3) := by decide +kernel
theorem dX12_weigh_13 : decode cX12_weigh 13 = .ok (.invokestatic 69, 3) := by decide +kernel
theorem dX12_weigh_16 : decode cX12_weigh 16 = .ok (.ifCond .ne 5, 3) := by decide +kernel
theorem dX12_weigh_19 : decode cX12_weigh 19 = .ok (.iconst 0, 1) := by decide +kernel
theorem dX12_weigh_20 : decode cX12_weigh 20 = .ok (.ireturn, 1) := by decide +kernel
theorem dX12_weigh_21 : decode cX12_weigh 21 = .ok (.aload_n 0, 1) := by decide +kernel
theorem dX12_weigh_22 : decode cX12_weigh 22 = .ok (.invokevirtual 167, 3) := by decide +kernel
theorem dX12_weigh_25 : decode cX12_weigh 25 = .ok (.aload_n 0, 1) := by decide +kernel
theorem dX12_weigh_26 : decode cX12_weigh 26 = .ok (.iload_n 1, 1) := by decide +kernel
theorem dX12_weigh_27 : decode cX12_weigh 27 = .ok (.aload_n 0, 1) := by decide +kernel
theorem dX12_weigh_28 : decode cX12_weigh 28 = .ok (.iload_n 1, 1) := by decide +kernel
theorem dX12_weigh_29 : decode cX12_weigh 29 = .ok (.iconst 0, 1) := by decide +kernel
theorem dX12_weigh_30 : decode cX12_weigh 30 = .ok (.invokevirtual 151, 3) := by decide +kernel
theorem dX12_weigh_33 : decode cX12_weigh 33 = .ok (.aload_n 0, 1) := by decide +kernel
theorem dX12_weigh_34 : decode cX12_weigh 34 = .ok (.iload_n 1, 1) := by decide +kernel
theorem dX12_weigh_35 : decode cX12_weigh 35 = .ok (.iconst 1, 1) := by decide +kernel
theorem dX12_weigh_36 : decode cX12_weigh 36 = .ok (.invokevirtual 151, 3) := by decide +kernel
theorem dX12_weigh_39 : decode cX12_weigh 39 = .ok (.iload_n 2, 1) := by decide +kernel
theorem dX12_weigh_40 : decode cX12_weigh 40 = .ok (.invokevirtual 170, 3) := by decide +kernel
theorem dX12_weigh_43 : decode cX12_weigh 43 = .ok (.iconst 1, 1) := by decide +kernel
theorem dX12_weigh_44 : decode cX12_weigh 44 = .ok (.ireturn, 1) := by decide +kernel
theorem dX12_drop_0 : decode cX12_drop 0 = .ok (.aload_n 0, 1) := by decide +kernel
theorem dX12_drop_1 : decode cX12_drop 1 = .ok (.iload_n 1, 1) := by decide +kernel
theorem dX12_drop_2 : decode cX12_drop 2 = .ok (.invokevirtual 177, 3) := by decide +kernel
theorem dX12_drop_5 : decode cX12_drop 5 = .ok (.ifCond .ne 5, 3) := by decide +kernel
theorem dX12_drop_8 : decode cX12_drop 8 = .ok (.iconst (-1), 1) := by decide +kernel
theorem dX12_drop_9 : decode cX12_drop 9 = .ok (.ireturn, 1) := by decide +kernel
theorem dX12_drop_10 : decode cX12_drop 10 = .ok (.aload_n 0, 1) := by decide +kernel
theorem dX12_drop_11 : decode cX12_drop 11 = .ok (.invokevirtual 167, 3) := by decide +kernel
theorem dX12_drop_14 : decode cX12_drop 14 = .ok (.iload_n 1, 1) := by decide +kernel
theorem dX12_drop_15 : decode cX12_drop 15 = .ok (.istore_n 2, 1) := by decide +kernel
theorem dX12_drop_16 : decode cX12_drop 16 = .ok (.iload_n 2, 1) := by decide +kernel
theorem dX12_drop_17 : decode cX12_drop 17 = .ok (.aload_n 0, 1) := by decide +kernel
theorem dX12_drop_18 : decode cX12_drop 18 = .ok (.invokevirtual 77, 3) := by decide +kernel
theorem dX12_drop_21 : decode cX12_drop 21 = .ok (.iconst 1, 1) := by decide +kernel
theorem dX12_drop_22 : decode cX12_drop 22 = .ok (.isub, 1) := by decide +kernel
theorem dX12_drop_23 : decode cX12_drop 23 = .ok (.if_icmp .ge 38, 3) := by decide +kernel
theorem dX12_drop_26 : decode cX12_drop 26 = .ok (.aload_n 0, 1) := by decide +kernel
theorem dX12_drop_27 : decode cX12_drop 27 = .ok (.iload_n 2, 1) := by decide +kernel
theorem dX12_drop_28 : decode cX12_drop 28 = .ok (.aload_n 0, 1) := by decide +kernel
theorem dX12_drop_29 : decode cX12_drop 29 = .ok (.iload_n 2, 1) := by decide +kernel
theorem dX12_drop_30 : decode cX12_drop 30 = .ok (.iconst 1, 1) := by decide +kernel
theorem dX12_drop_31 : decode cX12_drop 31 = .ok (.iadd, 1) := by decide +kernel
theorem dX12_drop_32 : decode cX12_drop 32 = .ok (.iconst 0, 1) := by decide +kernel
theorem dX12_drop_33 : decode cX12_drop 33 = .ok (.invokevirtual 151, 3) := by decide +kernel
theorem dX12_drop_36 : decode cX12_drop 36 = .ok (.aload_n 0, 1) := by decide +kernel
theorem dX12_drop_37 : decode cX12_drop 37 = .ok (.iload_n 2, 1) := by decide +kernel
theorem dX12_drop_38 : decode cX12_drop 38 = .ok (.iconst 1, 1) := by decide +kernel
theorem dX12_drop_39 : decode cX12_drop 39 = .ok (.iadd, 1) := by decide +kernel
theorem dX12_drop_40 : decode cX12_drop 40 = .ok (.iconst 1, 1) := by decide +kernel
theorem dX12_drop_41 : decode cX12_drop 41 = .ok (.invokevirtual 151, 3) := by decide +kernel
theorem dX12_drop_44 : decode cX12_drop 44 = .ok (.aload_n 0, 1) := by decide +kernel
theorem dX12_drop_45 : decode cX12_drop 45 = .ok (.iload_n 2, 1) := by decide +kernel
theorem dX12_drop_46 : decode cX12_drop 46 = .ok (.iconst 1, 1) := by decide +kernel
theorem dX12_drop_47 : decode cX12_drop 47 = .ok (.iadd, 1) := by decide +kernel
theorem dX12_drop_48 : decode cX12_drop 48 = .ok (.iconst 2, 1) := by decide +kernel
theorem dX12_drop_49 : decode cX12_drop 49 = .ok (.invokevirtual 151, 3) := by decide +kernel
theorem dX12_drop_52 : decode cX12_drop 52 = .ok (.invokevirtual 170, 3) := by decide +kernel
theorem dX12_drop_55 : decode cX12_drop 55 = .ok (.iinc 2 1, 3) := by decide +kernel
theorem dX12_drop_58 : decode cX12_drop 58 = .ok (.goto (-42), 3) := by decide +kernel
theorem dX12_drop_61 : decode cX12_drop 61 = .ok (.aload_n 0, 1) := by decide +kernel
theorem dX12_drop_62 : decode cX12_drop 62 = .ok (.aload_n 0, 1) := by decide +kernel
theorem dX12_drop_63 : decode cX12_drop 63 = .ok (.invokevirtual 77, 3) := by decide +kernel
theorem dX12_drop_66 : decode cX12_drop 66 = .ok (.iconst 1, 1) := by decide +kernel
theorem dX12_drop_67 : decode cX12_drop 67 = .ok (.isub, 1) := by decide +kernel
theorem dX12_drop_68 : decode cX12_drop 68 = .ok (.iconst 0, 1) := by decide +kernel
theorem dX12_drop_69 : decode cX12_drop 69 = .ok (.iconst 0, 1) := by decide +kernel
theorem dX12_drop_70 : decode cX12_drop 70 = .ok (.iconst 0, 1) := by decide +kernel
theorem dX12_drop_71 : decode cX12_drop 71 = .ok (.invokevirtual 170, 3) := by decide +kernel
theorem dX12_drop_74 : decode cX12_drop 74 = .ok (.aload_n 0, 1) := by decide +kernel
theorem dX12_drop_75 : decode cX12_drop 75 = .ok (.iconst (-1), 1) := by decide +kernel
theorem dX12_drop_76 : decode cX12_drop 76 = .ok (.invokevirtual 174, 3) := by decide +kernel
theorem dX12_drop_79 : decode cX12_drop 79 = .ok (.ireturn, 1) := by decide +kernel
theorem dX12_draw_0 : decode cX12_draw 0 = .ok (.aload_n 0, 1) := by decide +kernel
theorem dX12_draw_1 : decode cX12_draw 1 = .ok (.getfield 8, 3) := by decide +kernel
theorem dX12_draw_4 : decode cX12_draw 4 = .ok (.bipush 6, 2) := by decide +kernel
theorem dX12_draw_6 : decode cX12_draw 6 = .ok (.aload_n 0, 1) := by decide +kernel
theorem dX12_draw_7 : decode cX12_draw 7 = .ok (.getfield 8, 3) := by decide +kernel
theorem dX12_draw_10 : decode cX12_draw 10 = .ok (.bipush 6, 2) := by decide +kernel
theorem dX12_draw_12 : decode cX12_draw 12 = .ok (.iaload, 1) := by decide +kernel
theorem dX12_draw_13 : decode cX12_draw 13 = .ok (.sipush 821, 3) := by decide +kernel
theorem dX12_draw_16 : decode cX12_draw 16 = .ok (.imul, 1) := by decide +kernel
theorem dX12_draw_17 : decode cX12_draw 17 = .ok (.sipush 631, 3) := by decide +kernel
theorem dX12_draw_20 : decode cX12_draw 20 = .ok (.iadd, 1) := by decide +kernel
theorem dX12_draw_21 : decode cX12_draw 21 = .ok (.sipush 30091, 3) := by decide +kernel
theorem dX12_draw_24 : decode cX12_draw 24 = .ok (.irem, 1) := by decide +kernel
theorem dX12_draw_25 : decode cX12_draw 25 = .ok (.iastore, 1) := by decide +kernel
theorem dX12_draw_26 : decode cX12_draw 26 = .ok (.aload_n 0, 1) := by decide +kernel
theorem dX12_draw_27 : decode cX12_draw 27 = .ok (.getfield 8, 3) := by decide +kernel
theorem dX12_draw_30 : decode cX12_draw 30 = .ok (.bipush 6, 2) := by decide +kernel
theorem dX12_draw_32 : decode cX12_draw 32 = .ok (.iaload, 1) := by decide +kernel
theorem dX12_draw_33 : decode cX12_draw 33 = .ok (.iload_n 1, 1) := by decide +kernel
theorem dX12_draw_34 : decode cX12_draw 34 = .ok (.irem, 1) := by decide +kernel
theorem dX12_draw_35 : decode cX12_draw 35 = .ok (.ireturn, 1) := by decide +kernel
theorem dX12_held_0 : decode cX12_held 0 = .ok (.iload_n 0, 1) := by decide +kernel
theorem dX12_held_1 : decode cX12_held 1 = .ok (.iload_n 1, 1) := by decide +kernel
theorem dX12_held_2 : decode cX12_held 2 = .ok (.if_icmp .ge 7, 3) := by decide +kernel
theorem dX12_held_5 : decode cX12_held 5 = .ok (.iload_n 1, 1) := by decide +kernel
theorem dX12_held_6 : decode cX12_held 6 = .ok (.goto 13, 3) := by decide +kernel
theorem dX12_held_9 : decode cX12_held 9 = .ok (.iload_n 0, 1) := by decide +kernel
theorem dX12_held_10 : decode cX12_held 10 = .ok (.iload_n 2, 1) := by decide +kernel
theorem dX12_held_11 : decode cX12_held 11 = .ok (.if_icmp .le 7, 3) := by decide +kernel
theorem dX12_held_14 : decode cX12_held 14 = .ok (.iload_n 2, 1) := by decide +kernel
theorem dX12_held_15 : decode cX12_held 15 = .ok (.goto 4, 3) := by decide +kernel
theorem dX12_held_18 : decode cX12_held 18 = .ok (.iload_n 0, 1) := by decide +kernel
theorem dX12_held_19 : decode cX12_held 19 = .ok (.ireturn, 1) := by decide +kernel
theorem dX12_drawn_0 : decode cX12_drawn 0 = .ok (.iload_n 1, 1) := by decide +kernel
theorem dX12_drawn_1 : decode cX12_drawn 1 = .ok (.iload_n 2, 1) := by decide +kernel
theorem dX12_drawn_2 : decode cX12_drawn 2 = .ok (.invokestatic 164, 3) := by decide +kernel
theorem dX12_drawn_5 : decode cX12_drawn 5 = .ok (.ifCond .eq 36, 3) := by decide +kernel
theorem dX12_drawn_8 : decode cX12_drawn 8 = .ok (.iload_n 3, 1) := by decide +kernel
theorem dX12_drawn_9 : decode cX12_drawn 9 = .ok (.iconst 0, 1) := by decide +kernel
theorem dX12_drawn_10 : decode cX12_drawn 10 = .ok (.bipush 60, 2) := by decide +kernel
theorem dX12_drawn_12 : decode cX12_drawn 12 = .ok (.invokestatic 69, 3) := by decide +kernel
theorem dX12_drawn_15 : decode cX12_drawn 15 = .ok (.ifCond .eq 26, 3) := by decide +kernel
theorem dX12_drawn_18 : decode cX12_drawn 18 = .ok (.iload 4, 2) := by decide +kernel
theorem dX12_drawn_20 : decode cX12_drawn 20 = .ok (.iconst 1, 1) := by decide +kernel
theorem dX12_drawn_21 : decode cX12_drawn 21 = .ok (.bipush 20, 2) := by decide +kernel
theorem dX12_drawn_23 : decode cX12_drawn 23 = .ok (.invokestatic 69, 3) := by decide +kernel
theorem dX12_drawn_26 : decode cX12_drawn 26 = .ok (.ifCond .eq 15, 3) := by decide +kernel
theorem dX12_drawn_29 : decode cX12_drawn 29 = .ok (.aload_n 0, 1) := by decide +kernel
theorem dX12_drawn_30 : decode cX12_drawn 30 = .ok (.invokevirtual 77, 3) := by decide +kernel
theorem dX12_drawn_33 : decode cX12_drawn 33 = .ok (.iload 4, 2) := by decide +kernel
theorem dX12_drawn_35 : decode cX12_drawn 35 = .ok (.iadd, 1) := by decide +kernel
theorem dX12_drawn_36 : decode cX12_drawn 36 = .ok (.bipush 40, 2) := by decide +kernel
theorem dX12_drawn_38 : decode cX12_drawn 38 = .ok (.if_icmp .le 5, 3) := by decide +kernel
theorem dX12_drawn_41 : decode cX12_drawn 41 = .ok (.iconst (-1), 1) := by decide +kernel
theorem dX12_drawn_42 : decode cX12_drawn 42 = .ok (.ireturn, 1) := by decide +kernel
theorem dX12_drawn_43 : decode cX12_drawn 43 = .ok (.aload_n 0, 1) := by decide +kernel
theorem dX12_drawn_44 : decode cX12_drawn 44 = .ok (.invokevirtual 167, 3) := by decide +kernel
theorem dX12_drawn_47 : decode cX12_drawn 47 = .ok (.iconst 0, 1) := by decide +kernel
theorem dX12_drawn_48 : decode cX12_drawn 48 = .ok (.istore 5, 2) := by decide +kernel
theorem dX12_drawn_50 : decode cX12_drawn 50 = .ok (.iload 5, 2) := by decide +kernel
theorem dX12_drawn_52 : decode cX12_drawn 52 = .ok (.iload 4, 2) := by decide +kernel
theorem dX12_drawn_54 : decode cX12_drawn 54 = .ok (.if_icmp .ge 83, 3) := by decide +kernel
theorem dX12_drawn_57 : decode cX12_drawn 57 = .ok (.iload_n 1, 1) := by decide +kernel
theorem dX12_drawn_58 : decode cX12_drawn 58 = .ok (.aload_n 0, 1) := by decide +kernel
theorem dX12_drawn_59 : decode cX12_drawn 59 = .ok (.iconst 2, 1) := by decide +kernel
theorem dX12_drawn_60 : decode cX12_drawn 60 = .ok (.iload_n 3, 1) := by decide +kernel
theorem dX12_drawn_61 : decode cX12_drawn 61 = .ok (.imul, 1) := by decide +kernel
theorem dX12_drawn_62 : decode cX12_drawn 62 = .ok (.iconst 1, 1) := by decide +kernel
theorem dX12_drawn_63 : decode cX12_drawn 63 = .ok (.iadd, 1) := by decide +kernel
theorem dX12_drawn_64 : decode cX12_drawn 64 = .ok (.invokevirtual 180, 3) := by decide +kernel
theorem dX12_drawn_67 : decode cX12_drawn 67 = .ok (.iadd, 1) := by decide +kernel
theorem dX12_drawn_68 : decode cX12_drawn 68 = .ok (.iload_n 3, 1) := by decide +kernel
theorem dX12_drawn_69 : decode cX12_drawn 69 = .ok (.isub, 1) := by decide +kernel
theorem dX12_drawn_70 : decode cX12_drawn 70 = .ok (.sipush (-200), 3) := by decide +kernel
theorem dX12_drawn_73 : decode cX12_drawn 73 = .ok (.sipush 200, 3) := by decide +kernel
theorem dX12_drawn_76 : decode cX12_drawn 76 = .ok (.invokestatic 183, 3) := by decide +kernel
theorem dX12_drawn_79 : decode cX12_drawn 79 = .ok (.istore 6, 2) := by decide +kernel
theorem dX12_drawn_81 : decode cX12_drawn 81 = .ok (.iload_n 2, 1) := by decide +kernel
theorem dX12_drawn_82 : decode cX12_drawn 82 = .ok (.aload_n 0, 1) := by decide +kernel
theorem dX12_drawn_83 : decode cX12_drawn 83 = .ok (.iconst 2, 1) := by decide +kernel
theorem dX12_drawn_84 : decode cX12_drawn 84 = .ok (.iload_n 3, 1) := by decide +kernel
theorem dX12_drawn_85 : decode cX12_drawn 85 = .ok (.imul, 1) := by decide +kernel
theorem dX12_drawn_86 : decode cX12_drawn 86 = .ok (.iconst 1, 1) := by decide +kernel
theorem dX12_drawn_87 : decode cX12_drawn 87 = .ok (.iadd, 1) := by decide +kernel
theorem dX12_drawn_88 : decode cX12_drawn 88 = .ok (.invokevirtual 180, 3) := by decide +kernel
theorem dX12_drawn_91 : decode cX12_drawn 91 = .ok (.iadd, 1) := by decide +kernel
theorem dX12_drawn_92 : decode cX12_drawn 92 = .ok (.iload_n 3, 1) := by decide +kernel
theorem dX12_drawn_93 : decode cX12_drawn 93 = .ok (.isub, 1) := by decide +kernel
theorem dX12_drawn_94 : decode cX12_drawn 94 = .ok (.sipush 360, 3) := by decide +kernel
theorem dX12_drawn_97 : decode cX12_drawn 97 = .ok (.iadd, 1) := by decide +kernel
theorem dX12_drawn_98 : decode cX12_drawn 98 = .ok (.sipush 360, 3) := by decide +kernel
theorem dX12_drawn_101 : decode cX12_drawn 101 = .ok (.irem, 1) := by decide +kernel
