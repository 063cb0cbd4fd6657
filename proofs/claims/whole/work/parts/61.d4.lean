theorem dX12_width_26 : decode cX12_width 26 = .ok (.bipush 40, 2) := by decide +kernel
theorem dX12_width_28 : decode cX12_width 28 = .ok (.if_icmp .ge 40, 3) := by decide +kernel
theorem dX12_width_31 : decode cX12_width 31 = .ok (.lload_n 3, 1) := by decide +kernel
theorem dX12_width_32 : decode cX12_width 32 = .ok (.iload 7, 2) := by decide +kernel
theorem dX12_width_34 : decode cX12_width 34 = .ok (.invokestatic 154, 3) := by decide +kernel
theorem dX12_width_37 : decode cX12_width 37 = .ok (.ifCond .eq 25, 3) := by decide +kernel
theorem dX12_width_40 : decode cX12_width 40 = .ok (.lload 5, 2) := by decide +kernel
theorem dX12_width_42 : decode cX12_width 42 = .ok (.aload_n 0, 1) := by decide +kernel
theorem dX12_width_43 : decode cX12_width 43 = .ok (.iload_n 1, 1) := by decide +kernel
theorem dX12_width_44 : decode cX12_width 44 = .ok (.iload 7, 2) := by decide +kernel
theorem dX12_width_46 : decode cX12_width 46 = .ok (.invokevirtual 158, 3) := by decide +kernel
theorem dX12_width_49 : decode cX12_width 49 = .ok (.i2l, 1) := by decide +kernel
theorem dX12_width_50 : decode cX12_width 50 = .ok (.aload_n 0, 1) := by decide +kernel
theorem dX12_width_51 : decode cX12_width 51 = .ok (.iload_n 1, 1) := by decide +kernel
theorem dX12_width_52 : decode cX12_width 52 = .ok (.iload 7, 2) := by decide +kernel
theorem dX12_width_54 : decode cX12_width 54 = .ok (.iload_n 2, 1) := by decide +kernel
theorem dX12_width_55 : decode cX12_width 55 = .ok (.invokevirtual 341, 3) := by decide +kernel
theorem dX12_width_58 : decode cX12_width 58 = .ok (.lmul, 1) := by decide +kernel
theorem dX12_width_59 : decode cX12_width 59 = .ok (.ladd, 1) := by decide +kernel
theorem dX12_width_60 : decode cX12_width 60 = .ok (.lstore 5, 2) := by decide +kernel
theorem dX12_width_62 : decode cX12_width 62 = .ok (.iinc 7 1, 3) := by decide +kernel
theorem dX12_width_65 : decode cX12_width 65 = .ok (.goto (-41), 3) := by decide +kernel
theorem dX12_width_68 : decode cX12_width 68 = .ok (.lload 5, 2) := by decide +kernel
theorem dX12_width_70 : decode cX12_width 70 = .ok (.l2d, 1) := by decide +kernel
theorem dX12_width_71 : decode cX12_width 71 = .ok (.aload_n 0, 1) := by decide +kernel
theorem dX12_width_72 : decode cX12_width 72 = .ok (.iload_n 1, 1) := by decide +kernel
theorem dX12_width_73 : decode cX12_width 73 = .ok (.iload_n 2, 1) := by decide +kernel
theorem dX12_width_74 : decode cX12_width 74 = .ok (.invokevirtual 158, 3) := by decide +kernel
theorem dX12_width_77 : decode cX12_width 77 = .ok (.i2d, 1) := by decide +kernel
theorem dX12_width_78 : decode cX12_width 78 = .ok (.ddiv, 1) := by decide +kernel
theorem dX12_width_79 : decode cX12_width 79 = .ok (.invokestatic 345, 3) := by decide +kernel
theorem dX12_width_82 : decode cX12_width 82 = .ok (.lreturn, 1) := by decide +kernel
theorem dX12_closeness_0 : decode cX12_closeness 0 = .ok (.aload_n 0, 1) := by decide +kernel
theorem dX12_closeness_1 : decode cX12_closeness 1 = .ok (.iload_n 1, 1) := by decide +kernel
theorem dX12_closeness_2 : decode cX12_closeness 2 = .ok (.iload_n 2, 1) := by decide +kernel
theorem dX12_closeness_3 : decode cX12_closeness 3 = .ok (.invokevirtual 206, 3) := by decide +kernel
theorem dX12_closeness_6 : decode cX12_closeness 6 = .ok (.ifCond .ne 5, 3) := by decide +kernel
theorem dX12_closeness_9 : decode cX12_closeness 9 = .ok (.lconst 0, 1) := by decide +kernel
theorem dX12_closeness_10 : decode cX12_closeness 10 = .ok (.lreturn, 1) := by decide +kernel
theorem dX12_closeness_11 : decode cX12_closeness 11 = .ok (.aload_n 0, 1) := by decide +kernel
theorem dX12_closeness_12 : decode cX12_closeness 12 = .ok (.iload_n 1, 1) := by decide +kernel
theorem dX12_closeness_13 : decode cX12_closeness 13 = .ok (.iload_n 2, 1) := by decide +kernel
theorem dX12_closeness_14 : decode cX12_closeness 14 = .ok (.invokevirtual 209, 3) := by decide +kernel
theorem dX12_closeness_17 : decode cX12_closeness 17 = .ok (.lstore_n 3, 1) := by decide +kernel
theorem dX12_closeness_18 : decode cX12_closeness 18 = .ok (.lconst 0, 1) := by decide +kernel
theorem dX12_closeness_19 : decode cX12_closeness 19 = .ok (.lstore 5, 2) := by decide +kernel
theorem dX12_closeness_21 : decode cX12_closeness 21 = .ok (.iconst 0, 1) := by decide +kernel
theorem dX12_closeness_22 : decode cX12_closeness 22 = .ok (.istore 7, 2) := by decide +kernel
theorem dX12_closeness_24 : decode cX12_closeness 24 = .ok (.iload 7, 2) := by decide +kernel
theorem dX12_closeness_26 : decode cX12_closeness 26 = .ok (.bipush 40, 2) := by decide +kernel
theorem dX12_closeness_28 : decode cX12_closeness 28 = .ok (.if_icmp .ge 75, 3) := by decide +kernel
theorem dX12_closeness_31 : decode cX12_closeness 31 = .ok (.iconst 0, 1) := by decide +kernel
theorem dX12_closeness_32 : decode cX12_closeness 32 = .ok (.istore 8, 2) := by decide +kernel
theorem dX12_closeness_34 : decode cX12_closeness 34 = .ok (.iload 8, 2) := by decide +kernel
theorem dX12_closeness_36 : decode cX12_closeness 36 = .ok (.iload 7, 2) := by decide +kernel
theorem dX12_closeness_38 : decode cX12_closeness 38 = .ok (.if_icmp .ge 59, 3) := by decide +kernel
theorem dX12_closeness_41 : decode cX12_closeness 41 = .ok (.lload_n 3, 1) := by decide +kernel
theorem dX12_closeness_42 : decode cX12_closeness 42 = .ok (.iload 7, 2) := by decide +kernel
theorem dX12_closeness_44 : decode cX12_closeness 44 = .ok (.invokestatic 154, 3) := by decide +kernel
theorem dX12_closeness_47 : decode cX12_closeness 47 = .ok (.ifCond .eq 44, 3) := by decide +kernel
theorem dX12_closeness_50 : decode cX12_closeness 50 = .ok (.lload_n 3, 1) := by decide +kernel
theorem dX12_closeness_51 : decode cX12_closeness 51 = .ok (.iload 8, 2) := by decide +kernel
theorem dX12_closeness_53 : decode cX12_closeness 53 = .ok (.invokestatic 154, 3) := by decide +kernel
theorem dX12_closeness_56 : decode cX12_closeness 56 = .ok (.ifCond .eq 35, 3) := by decide +kernel
theorem dX12_closeness_59 : decode cX12_closeness 59 = .ok (.lload 5, 2) := by decide +kernel
theorem dX12_closeness_61 : decode cX12_closeness 61 = .ok (.aload_n 0, 1) := by decide +kernel
theorem dX12_closeness_62 : decode cX12_closeness 62 = .ok (.iload_n 1, 1) := by decide +kernel
theorem dX12_closeness_63 : decode cX12_closeness 63 = .ok (.iload 7, 2) := by decide +kernel
theorem dX12_closeness_65 : decode cX12_closeness 65 = .ok (.invokevirtual 158, 3) := by decide +kernel
theorem dX12_closeness_68 : decode cX12_closeness 68 = .ok (.i2l, 1) := by decide +kernel
theorem dX12_closeness_69 : decode cX12_closeness 69 = .ok (.aload_n 0, 1) := by decide +kernel
theorem dX12_closeness_70 : decode cX12_closeness 70 = .ok (.iload_n 1, 1) := by decide +kernel
theorem dX12_closeness_71 : decode cX12_closeness 71 = .ok (.iload 8, 2) := by decide +kernel
theorem dX12_closeness_73 : decode cX12_closeness 73 = .ok (.invokevirtual 158, 3) := by decide +kernel
theorem dX12_closeness_76 : decode cX12_closeness 76 = .ok (.i2l, 1) := by decide +kernel
theorem dX12_closeness_77 : decode cX12_closeness 77 = .ok (.lmul, 1) := by decide +kernel
theorem dX12_closeness_78 : decode cX12_closeness 78 = .ok (.aload_n 0, 1) := by decide +kernel
theorem dX12_closeness_79 : decode cX12_closeness 79 = .ok (.iload_n 1, 1) := by decide +kernel
theorem dX12_closeness_80 : decode cX12_closeness 80 = .ok (.iload 7, 2) := by decide +kernel
theorem dX12_closeness_82 : decode cX12_closeness 82 = .ok (.iload 8, 2) := by decide +kernel
theorem dX12_closeness_84 : decode cX12_closeness 84 = .ok (.invokevirtual 341, 3) := by decide +kernel
theorem dX12_closeness_87 : decode cX12_closeness 87 = .ok (.lmul, 1) := by decide +kernel
theorem dX12_closeness_88 : decode cX12_closeness 88 = .ok (.ladd, 1) := by decide +kernel
theorem dX12_closeness_89 : decode cX12_closeness 89 = .ok (.lstore 5, 2) := by decide +kernel
theorem dX12_closeness_91 : decode cX12_closeness 91 = .ok (.iinc 8 1, 3) := by decide +kernel
theorem dX12_closeness_94 : decode cX12_closeness 94 = .ok (.goto (-60), 3) := by decide +kernel
theorem dX12_closeness_97 : decode cX12_closeness 97 = .ok (.iinc 7 1, 3) := by decide +kernel
theorem dX12_closeness_100 : decode cX12_closeness 100 = .ok (.goto (-76), 3) := by decide +kernel
theorem dX12_closeness_103 : decode cX12_closeness 103 = .ok (.aload_n 0, 1) := by decide +kernel
theorem dX12_closeness_104 : decode cX12_closeness 104 = .ok (.iload_n 1, 1) := by decide +kernel
theorem dX12_closeness_105 : decode cX12_closeness 105 = .ok (.iload_n 2, 1) := by decide +kernel
theorem dX12_closeness_106 : decode cX12_closeness 106 = .ok (.invokevirtual 158, 3) := by decide +kernel
theorem dX12_closeness_109 : decode cX12_closeness 109 = .ok (.i2l, 1) := by decide +kernel
theorem dX12_closeness_110 : decode cX12_closeness 110 = .ok (.lstore 7, 2) := by decide +kernel
theorem dX12_closeness_112 : decode cX12_closeness 112 = .ok (.lload 5, 2) := by decide +kernel
theorem dX12_closeness_114 : decode cX12_closeness 114 = .ok (.l2d, 1) := by decide +kernel
theorem dX12_closeness_115 : decode cX12_closeness 115 = .ok (.lload 7, 2) := by decide +kernel
theorem dX12_closeness_117 : decode cX12_closeness 117 = .ok (.lload 7, 2) := by decide +kernel
theorem dX12_closeness_119 : decode cX12_closeness 119 = .ok (.lmul, 1) := by decide +kernel
theorem dX12_closeness_120 : decode cX12_closeness 120 = .ok (.l2d, 1) := by decide +kernel
theorem dX12_closeness_121 : decode cX12_closeness 121 = .ok (.ddiv, 1) := by decide +kernel
theorem dX12_closeness_122 : decode cX12_closeness 122 = .ok (.invokestatic 345, 3) := by decide +kernel
theorem dX12_closeness_125 : decode cX12_closeness 125 = .ok (.lreturn, 1) := by decide +kernel
theorem dX12_layApart_0 : decode cX12_layApart 0 = .ok (.aload_n 0, 1) := by decide +kernel
theorem dX12_layApart_1 : decode cX12_layApart 1 = .ok (.iconst 1, 1) := by decide +kernel
theorem dX12_layApart_2 : decode cX12_layApart 2 = .ok (.putfield 269, 3) := by decide +kernel
theorem dX12_layApart_5 : decode cX12_layApart 5 = .ok (.aload_n 0, 1) := by decide +kernel
theorem dX12_layApart_6 : decode cX12_layApart 6 = .ok (.getfield 45, 3) := by decide +kernel
theorem dX12_layApart_9 : decode cX12_layApart 9 = .ok (.iconst 0, 1) := by decide +kernel
theorem dX12_layApart_10 : decode cX12_layApart 10 = .ok (.iload_n 2, 1) := by decide +kernel
theorem dX12_layApart_11 : decode cX12_layApart 11 = .ok (.iastore, 1) := by decide +kernel
theorem dX12_layApart_12 : decode cX12_layApart 12 = .ok (.iconst 1, 1) := by decide +kernel
theorem dX12_layApart_13 : decode cX12_layApart 13 = .ok (.istore 4, 2) := by decide +kernel
theorem dX12_layApart_15 : decode cX12_layApart 15 = .ok (.iload 4, 2) := by decide +kernel
theorem dX12_layApart_17 : decode cX12_layApart 17 = .ok (.iload_n 3, 1) := by decide +kernel
theorem dX12_layApart_18 : decode cX12_layApart 18 = .ok (.if_icmp .ge 113, 3) := by decide +kernel
theorem dX12_layApart_21 : decode cX12_layApart 21 = .ok (.iconst 0, 1) := by decide +kernel
theorem dX12_layApart_22 : decode cX12_layApart 22 = .ok (.istore 5, 2) := by decide +kernel
theorem dX12_layApart_24 : decode cX12_layApart 24 = .ok (.iconst 1, 1) := by decide +kernel
theorem dX12_layApart_25 : decode cX12_layApart 25 = .ok (.istore 6, 2) := by decide +kernel
theorem dX12_layApart_27 : decode cX12_layApart 27 = .ok (.iload 6, 2) := by decide +kernel
theorem dX12_layApart_29 : decode cX12_layApart 29 = .ok (.aload_n 0, 1) := by decide +kernel
theorem dX12_layApart_30 : decode cX12_layApart 30 = .ok (.getfield 269, 3) := by decide +kernel
theorem dX12_layApart_33 : decode cX12_layApart 33 = .ok (.if_icmp .ge 30, 3) := by decide +kernel
theorem dX12_layApart_36 : decode cX12_layApart 36 = .ok (.aload_n 0, 1) := by decide +kernel
theorem dX12_layApart_37 : decode cX12_layApart 37 = .ok (.getfield 45, 3) := by decide +kernel
theorem dX12_layApart_40 : decode cX12_layApart 40 = .ok (.iload 6, 2) := by decide +kernel
theorem dX12_layApart_42 : decode cX12_layApart 42 = .ok (.iaload, 1) := by decide +kernel
theorem dX12_layApart_43 : decode cX12_layApart 43 = .ok (.aload_n 0, 1) := by decide +kernel
theorem dX12_layApart_44 : decode cX12_layApart 44 = .ok (.getfield 45, 3) := by decide +kernel
theorem dX12_layApart_47 : decode cX12_layApart 47 = .ok (.iload 5, 2) := by decide +kernel
theorem dX12_layApart_49 : decode cX12_layApart 49 = .ok (.iaload, 1) := by decide +kernel
theorem dX12_layApart_50 : decode cX12_layApart 50 = .ok (.if_icmp .le 7, 3) := by decide +kernel
theorem dX12_layApart_53 : decode cX12_layApart 53 = .ok (.iload 6, 2) := by decide +kernel
theorem dX12_layApart_55 : decode cX12_layApart 55 = .ok (.istore 5, 2) := by decide +kernel
theorem dX12_layApart_57 : decode cX12_layApart 57 = .ok (.iinc 6 1, 3) := by decide +kernel
theorem dX12_layApart_60 : decode cX12_layApart 60 = .ok (.goto (-33), 3) := by decide +kernel
theorem dX12_layApart_63 : decode cX12_layApart 63 = .ok (.aload_n 0, 1) := by decide +kernel
theorem dX12_layApart_64 : decode cX12_layApart 64 = .ok (.getfield 45, 3) := by decide +kernel
theorem dX12_layApart_67 : decode cX12_layApart 67 = .ok (.iload 5, 2) := by decide +kernel
theorem dX12_layApart_69 : decode cX12_layApart 69 = .ok (.iaload, 1) := by decide +kernel
theorem dX12_layApart_70 : decode cX12_layApart 70 = .ok (.istore 6, 2) := by decide +kernel
theorem dX12_layApart_72 : decode cX12_layApart 72 = .ok (.aload_n 0, 1) := by decide +kernel
theorem dX12_layApart_73 : decode cX12_layApart 73 = .ok (.iload_n 1, 1) := by decide +kernel
theorem dX12_layApart_74 : decode cX12_layApart 74 = .ok (.iload 6, 2) := by decide +kernel
theorem dX12_layApart_76 : decode cX12_layApart 76 = .ok (.invokevirtual 233, 3) := by decide +kernel
theorem dX12_layApart_79 : decode cX12_layApart 79 = .ok (.ifCond .ne 4, 3) := by decide +kernel
theorem dX12_layApart_82 : decode cX12_layApart 82 = .ok (.return_, 1) := by decide +kernel
theorem dX12_layApart_83 : decode cX12_layApart 83 = .ok (.aload_n 0, 1) := by decide +kernel
theorem dX12_layApart_84 : decode cX12_layApart 84 = .ok (.getfield 45, 3) := by decide +kernel
theorem dX12_layApart_87 : decode cX12_layApart 87 = .ok (.iload 5, 2) := by decide +kernel
theorem dX12_layApart_89 : decode cX12_layApart 89 = .ok (.aload_n 0, 1) := by decide +kernel
theorem dX12_layApart_90 : decode cX12_layApart 90 = .ok (.iload_n 1, 1) := by decide +kernel
theorem dX12_layApart_91 : decode cX12_layApart 91 = .ok (.iload 6, 2) := by decide +kernel
theorem dX12_layApart_93 : decode cX12_layApart 93 = .ok (.iconst 3, 1) := by decide +kernel
theorem dX12_layApart_94 : decode cX12_layApart 94 = .ok (.invokevirtual 91, 3) := by decide +kernel
theorem dX12_layApart_97 : decode cX12_layApart 97 = .ok (.iastore, 1) := by decide +kernel
theorem dX12_layApart_98 : decode cX12_layApart 98 = .ok (.aload_n 0, 1) := by decide +kernel
theorem dX12_layApart_99 : decode cX12_layApart 99 = .ok (.getfield 45, 3) := by decide +kernel
theorem dX12_layApart_102 : decode cX12_layApart 102 = .ok (.aload_n 0, 1) := by decide +kernel
theorem dX12_layApart_103 : decode cX12_layApart 103 = .ok (.getfield 269, 3) := by decide +kernel
theorem dX12_layApart_106 : decode cX12_layApart 106 = .ok (.aload_n 0, 1) := by decide +kernel
theorem dX12_layApart_107 : decode cX12_layApart 107 = .ok (.iload_n 1, 1) := by decide +kernel
theorem dX12_layApart_108 : decode cX12_layApart 108 = .ok (.iload 6, 2) := by decide +kernel
theorem dX12_layApart_110 : decode cX12_layApart 110 = .ok (.iconst 4, 1) := by decide +kernel
theorem dX12_layApart_111 : decode cX12_layApart 111 = .ok (.invokevirtual 91, 3) := by decide +kernel
theorem dX12_layApart_114 : decode cX12_layApart 114 = .ok (.iastore, 1) := by decide +kernel
theorem dX12_layApart_115 : decode cX12_layApart 115 = .ok (.aload_n 0, 1) := by decide +kernel
theorem dX12_layApart_116 : decode cX12_layApart 116 = .ok (.dup, 1) := by decide +kernel
theorem dX12_layApart_117 : decode cX12_layApart 117 = .ok (.getfield 269, 3) := by decide +kernel
theorem dX12_layApart_120 : decode cX12_layApart 120 = .ok (.iconst 1, 1) := by decide +kernel
theorem dX12_layApart_121 : decode cX12_layApart 121 = .ok (.iadd, 1) := by decide +kernel
theorem dX12_layApart_122 : decode cX12_layApart 122 = .ok (.putfield 269, 3) := by decide +kernel
theorem dX12_layApart_125 : decode cX12_layApart 125 = .ok (.iinc 4 1, 3) := by decide +kernel
theorem dX12_layApart_128 : decode cX12_layApart 128 = .ok (.goto (-113), 3) := by decide +kernel
theorem dX12_layApart_131 : decode cX12_layApart 131 = .ok (.return_, 1) := by decide +kernel
theorem dX12_tau_0 : decode cX12_tau 0 = .ok (.aload_n 0, 1) := by decide +kernel
theorem dX12_tau_1 : decode cX12_tau 1 = .ok (.iload_n 1, 1) := by decide +kernel
theorem dX12_tau_2 : decode cX12_tau 2 = .ok (.iload_n 2, 1) := by decide +kernel
theorem dX12_tau_3 : decode cX12_tau 3 = .ok (.invokevirtual 206, 3) := by decide +kernel
theorem dX12_tau_6 : decode cX12_tau 6 = .ok (.ifCond .eq 13, 3) := by decide +kernel
theorem dX12_tau_9 : decode cX12_tau 9 = .ok (.iload_n 3, 1) := by decide +kernel
theorem dX12_tau_10 : decode cX12_tau 10 = .ok (.iconst 1, 1) := by decide +kernel
theorem dX12_tau_11 : decode cX12_tau 11 = .ok (.bipush 9, 2) := by decide +kernel
theorem dX12_tau_13 : decode cX12_tau 13 = .ok (.invokestatic 69, 3) := by decide +kernel
theorem dX12_tau_16 : decode cX12_tau 16 = .ok (.ifCond .ne 5, 3) := by decide +kernel
theorem dX12_tau_19 : decode cX12_tau 19 = .ok (.lconst 0, 1) := by decide +kernel
theorem dX12_tau_20 : decode cX12_tau 20 = .ok (.lreturn, 1) := by decide +kernel
theorem dX12_tau_21 : decode cX12_tau 21 = .ok (.aload_n 0, 1) := by decide +kernel
theorem dX12_tau_22 : decode cX12_tau 22 = .ok (.iload_n 1, 1) := by decide +kernel
theorem dX12_tau_23 : decode cX12_tau 23 = .ok (.iload_n 2, 1) := by decide +kernel
theorem dX12_tau_24 : decode cX12_tau 24 = .ok (.invokevirtual 209, 3) := by decide +kernel
theorem dX12_tau_27 : decode cX12_tau 27 = .ok (.lstore 4, 2) := by decide +kernel
theorem dX12_tau_29 : decode cX12_tau 29 = .ok (.aload_n 0, 1) := by decide +kernel
theorem dX12_tau_30 : decode cX12_tau 30 = .ok (.iload_n 1, 1) := by decide +kernel
theorem dX12_tau_31 : decode cX12_tau 31 = .ok (.iload_n 2, 1) := by decide +kernel
theorem dX12_tau_32 : decode cX12_tau 32 = .ok (.iload_n 3, 1) := by decide +kernel
theorem dX12_tau_33 : decode cX12_tau 33 = .ok (.invokevirtual 351, 3) := by decide +kernel
theorem dX12_tau_36 : decode cX12_tau 36 = .ok (.lconst 0, 1) := by decide +kernel
theorem dX12_tau_37 : decode cX12_tau 37 = .ok (.lstore 6, 2) := by decide +kernel
theorem dX12_tau_39 : decode cX12_tau 39 = .ok (.iconst 0, 1) := by decide +kernel
theorem dX12_tau_40 : decode cX12_tau 40 = .ok (.istore 8, 2) := by decide +kernel
theorem dX12_tau_42 : decode cX12_tau 42 = .ok (.iload 8, 2) := by decide +kernel
theorem dX12_tau_44 : decode cX12_tau 44 = .ok (.bipush 40, 2) := by decide +kernel
theorem dX12_tau_46 : decode cX12_tau 46 = .ok (.if_icmp .ge 107, 3) := by decide +kernel
theorem dX12_tau_49 : decode cX12_tau 49 = .ok (.lload 4, 2) := by decide +kernel
theorem dX12_tau_51 : decode cX12_tau 51 = .ok (.iload 8, 2) := by decide +kernel
theorem dX12_tau_53 : decode cX12_tau 53 = .ok (.invokestatic 154, 3) := by decide +kernel
theorem dX12_tau_56 : decode cX12_tau 56 = .ok (.ifCond .ne 6, 3) := by decide +kernel
theorem dX12_tau_59 : decode cX12_tau 59 = .ok (.goto 88, 3) := by decide +kernel
theorem dX12_tau_62 : decode cX12_tau 62 = .ok (.aload_n 0, 1) := by decide +kernel
theorem dX12_tau_63 : decode cX12_tau 63 = .ok (.iload_n 1, 1) := by decide +kernel
theorem dX12_tau_64 : decode cX12_tau 64 = .ok (.iload 8, 2) := by decide +kernel
theorem dX12_tau_66 : decode cX12_tau 66 = .ok (.aload_n 0, 1) := by decide +kernel
theorem dX12_tau_67 : decode cX12_tau 67 = .ok (.getfield 45, 3) := by decide +kernel
theorem dX12_tau_70 : decode cX12_tau 70 = .ok (.iconst 0, 1) := by decide +kernel
theorem dX12_tau_71 : decode cX12_tau 71 = .ok (.iaload, 1) := by decide +kernel
theorem dX12_tau_72 : decode cX12_tau 72 = .ok (.invokevirtual 341, 3) := by decide +kernel
theorem dX12_tau_75 : decode cX12_tau 75 = .ok (.lstore 9, 2) := by decide +kernel
theorem dX12_tau_77 : decode cX12_tau 77 = .ok (.iconst 1, 1) := by decide +kernel
theorem dX12_tau_78 : decode cX12_tau 78 = .ok (.istore 11, 2) := by decide +kernel
theorem dX12_tau_80 : decode cX12_tau 80 = .ok (.iload 11, 2) := by decide +kernel
theorem dX12_tau_82 : decode cX12_tau 82 = .ok (.aload_n 0, 1) := by decide +kernel
theorem dX12_tau_83 : decode cX12_tau 83 = .ok (.getfield 269, 3) := by decide +kernel
theorem dX12_tau_86 : decode cX12_tau 86 = .ok (.if_icmp .ge 45, 3) := by decide +kernel
theorem dX12_tau_89 : decode cX12_tau 89 = .ok (.aload_n 0, 1) := by decide +kernel
theorem dX12_tau_90 : decode cX12_tau 90 = .ok (.iload_n 1, 1) := by decide +kernel
theorem dX12_tau_91 : decode cX12_tau 91 = .ok (.iload 8, 2) := by decide +kernel
theorem dX12_tau_93 : decode cX12_tau 93 = .ok (.aload_n 0, 1) := by decide +kernel
theorem dX12_tau_94 : decode cX12_tau 94 = .ok (.getfield 45, 3) := by decide +kernel
theorem dX12_tau_97 : decode cX12_tau 97 = .ok (.iload 11, 2) := by decide +kernel
theorem dX12_tau_99 : decode cX12_tau 99 = .ok (.iaload, 1) := by decide +kernel
theorem dX12_tau_100 : decode cX12_tau 100 = .ok (.invokevirtual 341, 3) := by decide +kernel
theorem dX12_tau_103 : decode cX12_tau 103 = .ok (.lload 9, 2) := by decide +kernel
theorem dX12_tau_105 : decode cX12_tau 105 = .ok (.lcmp, 1) := by decide +kernel
theorem dX12_tau_106 : decode cX12_tau 106 = .ok (.ifCond .ge 19, 3) := by decide +kernel
theorem dX12_tau_109 : decode cX12_tau 109 = .ok (.aload_n 0, 1) := by decide +kernel
theorem dX12_tau_110 : decode cX12_tau 110 = .ok (.iload_n 1, 1) := by decide +kernel
theorem dX12_tau_111 : decode cX12_tau 111 = .ok (.iload 8, 2) := by decide +kernel
theorem dX12_tau_113 : decode cX12_tau 113 = .ok (.aload_n 0, 1) := by decide +kernel
theorem dX12_tau_114 : decode cX12_tau 114 = .ok (.getfield 45, 3) := by decide +kernel
theorem dX12_tau_117 : decode cX12_tau 117 = .ok (.iload 11, 2) := by decide +kernel
theorem dX12_tau_119 : decode cX12_tau 119 = .ok (.iaload, 1) := by decide +kernel
theorem dX12_tau_120 : decode cX12_tau 120 = .ok (.invokevirtual 341, 3) := by decide +kernel
theorem dX12_tau_123 : decode cX12_tau 123 = .ok (.lstore 9, 2) := by decide +kernel
theorem dX12_tau_125 : decode cX12_tau 125 = .ok (.iinc 11 1, 3) := by decide +kernel
theorem dX12_tau_128 : decode cX12_tau 128 = .ok (.goto (-48), 3) := by decide +kernel
theorem dX12_tau_131 : decode cX12_tau 131 = .ok (.lload 6, 2) := by decide +kernel
theorem dX12_tau_133 : decode cX12_tau 133 = .ok (.aload_n 0, 1) := by decide +kernel
theorem dX12_tau_134 : decode cX12_tau 134 = .ok (.iload_n 1, 1) := by decide +kernel
theorem dX12_tau_135 : decode cX12_tau 135 = .ok (.iload 8, 2) := by decide +kernel
theorem dX12_tau_137 : decode cX12_tau 137 = .ok (.invokevirtual 158, 3) := by decide +kernel
theorem dX12_tau_140 : decode cX12_tau 140 = .ok (.i2l, 1) := by decide +kernel
theorem dX12_tau_141 : decode cX12_tau 141 = .ok (.lload 9, 2) := by decide +kernel
theorem dX12_tau_143 : decode cX12_tau 143 = .ok (.lmul, 1) := by decide +kernel
theorem dX12_tau_144 : decode cX12_tau 144 = .ok (.ladd, 1) := by decide +kernel
theorem dX12_tau_145 : decode cX12_tau 145 = .ok (.lstore 6, 2) := by decide +kernel
theorem dX12_tau_147 : decode cX12_tau 147 = .ok (.iinc 8 1, 3) := by decide +kernel
theorem dX12_tau_150 : decode cX12_tau 150 = .ok (.goto (-108), 3) := by decide +kernel
theorem dX12_tau_153 : decode cX12_tau 153 = .ok (.lload 6, 2) := by decide +kernel
theorem dX12_tau_155 : decode cX12_tau 155 = .ok (.l2d, 1) := by decide +kernel
theorem dX12_tau_156 : decode cX12_tau 156 = .ok (.aload_n 0, 1) := by decide +kernel
theorem dX12_tau_157 : decode cX12_tau 157 = .ok (.iload_n 1, 1) := by decide +kernel
theorem dX12_tau_158 : decode cX12_tau 158 = .ok (.iload_n 2, 1) := by decide +kernel
theorem dX12_tau_159 : decode cX12_tau 159 = .ok (.invokevirtual 158, 3) := by decide +kernel
theorem dX12_tau_162 : decode cX12_tau 162 = .ok (.i2d, 1) := by decide +kernel
theorem dX12_tau_163 : decode cX12_tau 163 = .ok (.ddiv, 1) := by decide +kernel
theorem dX12_tau_164 : decode cX12_tau 164 = .ok (.invokestatic 345, 3) := by decide +kernel
theorem dX12_tau_167 : decode cX12_tau 167 = .ok (.lreturn, 1) := by decide +kernel
theorem dX12_weightsIn_0 : decode cX12_weightsIn 0 = .ok (.iconst 0, 1) := by decide +kernel
theorem dX12_weightsIn_1 : decode cX12_weightsIn 1 = .ok (.istore 4, 2) := by decide +kernel
theorem dX12_weightsIn_3 : decode cX12_weightsIn 3 = .ok (.iconst 0, 1) := by decide +kernel
theorem dX12_weightsIn_4 : decode cX12_weightsIn 4 = .ok (.istore 5, 2) := by decide +kernel
theorem dX12_weightsIn_6 : decode cX12_weightsIn 6 = .ok (.iload 5, 2) := by decide +kernel
theorem dX12_weightsIn_8 : decode cX12_weightsIn 8 = .ok (.aload_n 0, 1) := by decide +kernel
theorem dX12_weightsIn_9 : decode cX12_weightsIn 9 = .ok (.iload_n 1, 1) := by decide +kernel
theorem dX12_weightsIn_10 : decode cX12_weightsIn 10 = .ok (.iconst 1, 1) := by decide +kernel
theorem dX12_weightsIn_11 : decode cX12_weightsIn 11 = .ok (.invokevirtual 88, 3) := by decide +kernel
theorem dX12_weightsIn_14 : decode cX12_weightsIn 14 = .ok (.if_icmp .ge 34, 3) := by decide +kernel
theorem dX12_weightsIn_17 : decode cX12_weightsIn 17 = .ok (.iload 4, 2) := by decide +kernel
theorem dX12_weightsIn_19 : decode cX12_weightsIn 19 = .ok (.lload_n 2, 1) := by decide +kernel
theorem dX12_weightsIn_20 : decode cX12_weightsIn 20 = .ok (.iload 5, 2) := by decide +kernel
theorem dX12_weightsIn_22 : decode cX12_weightsIn 22 = .ok (.invokestatic 154, 3) := by decide +kernel
theorem dX12_weightsIn_25 : decode cX12_weightsIn 25 = .ok (.ifCond .eq 13, 3) := by decide +kernel
theorem dX12_weightsIn_28 : decode cX12_weightsIn 28 = .ok (.aload_n 0, 1) := by decide +kernel
theorem dX12_weightsIn_29 : decode cX12_weightsIn 29 = .ok (.iload_n 1, 1) := by decide +kernel
theorem dX12_weightsIn_30 : decode cX12_weightsIn 30 = .ok (.iload 5, 2) := by decide +kernel
theorem dX12_weightsIn_32 : decode cX12_weightsIn 32 = .ok (.invokevirtual 158, 3) := by decide +kernel
theorem dX12_weightsIn_35 : decode cX12_weightsIn 35 = .ok (.goto 4, 3) := by decide +kernel
theorem dX12_weightsIn_38 : decode cX12_weightsIn 38 = .ok (.iconst 0, 1) := by decide +kernel
theorem dX12_weightsIn_39 : decode cX12_weightsIn 39 = .ok (.iadd, 1) := by decide +kernel
theorem dX12_weightsIn_40 : decode cX12_weightsIn 40 = .ok (.istore 4, 2) := by decide +kernel
theorem dX12_weightsIn_42 : decode cX12_weightsIn 42 = .ok (.iinc 5 1, 3) := by decide +kernel
theorem dX12_weightsIn_45 : decode cX12_weightsIn 45 = .ok (.goto (-39), 3) := by decide +kernel
theorem dX12_weightsIn_48 : decode cX12_weightsIn 48 = .ok (.iload 4, 2) := by decide +kernel
theorem dX12_weightsIn_50 : decode cX12_weightsIn 50 = .ok (.ireturn, 1) := by decide +kernel
theorem dX12_matched_0 : decode cX12_matched 0 = .ok (.aload_n 0, 1) := by decide +kernel
theorem dX12_matched_1 : decode cX12_matched 1 = .ok (.iload_n 1, 1) := by decide +kernel
theorem dX12_matched_2 : decode cX12_matched 2 = .ok (.iload_n 2, 1) := by decide +kernel
theorem dX12_matched_3 : decode cX12_matched 3 = .ok (.invokevirtual 206, 3) := by decide +kernel
theorem dX12_matched_6 : decode cX12_matched 6 = .ok (.ifCond .eq 20, 3) := by decide +kernel
theorem dX12_matched_9 : decode cX12_matched 9 = .ok (.aload_n 0, 1) := by decide +kernel
theorem dX12_matched_10 : decode cX12_matched 10 = .ok (.iload_n 3, 1) := by decide +kernel
theorem dX12_matched_11 : decode cX12_matched 11 = .ok (.invokevirtual 84, 3) := by decide +kernel
theorem dX12_matched_14 : decode cX12_matched 14 = .ok (.ifCond .eq 12, 3) := by decide +kernel
theorem dX12_matched_17 : decode cX12_matched 17 = .ok (.aload_n 0, 1) := by decide +kernel
theorem dX12_matched_18 : decode cX12_matched 18 = .ok (.iload_n 1, 1) := by decide +kernel
theorem dX12_matched_19 : decode cX12_matched 19 = .ok (.iload_n 2, 1) := by decide +kernel
theorem dX12_matched_20 : decode cX12_matched 20 = .ok (.invokevirtual 275, 3) := by decide +kernel
theorem dX12_matched_23 : decode cX12_matched 23 = .ok (.ifCond .ne 5, 3) := by decide +kernel
theorem dX12_matched_26 : decode cX12_matched 26 = .ok (.iconst (-1), 1) := by decide +kernel
theorem dX12_matched_27 : decode cX12_matched 27 = .ok (.ireturn, 1) := by decide +kernel
theorem dX12_matched_28 : decode cX12_matched 28 = .ok (.aload_n 0, 1) := by decide +kernel
theorem dX12_matched_29 : decode cX12_matched 29 = .ok (.iload_n 1, 1) := by decide +kernel
theorem dX12_matched_30 : decode cX12_matched 30 = .ok (.iload_n 2, 1) := by decide +kernel
theorem dX12_matched_31 : decode cX12_matched 31 = .ok (.invokevirtual 209, 3) := by decide +kernel
theorem dX12_matched_34 : decode cX12_matched 34 = .ok (.lstore 4, 2) := by decide +kernel
theorem dX12_matched_36 : decode cX12_matched 36 = .ok (.iconst (-1), 1) := by decide +kernel
theorem dX12_matched_37 : decode cX12_matched 37 = .ok (.istore 6, 2) := by decide +kernel
theorem dX12_matched_39 : decode cX12_matched 39 = .ok (.iconst 0, 1) := by decide +kernel
theorem dX12_matched_40 : decode cX12_matched 40 = .ok (.istore 7, 2) := by decide +kernel
theorem dX12_matched_42 : decode cX12_matched 42 = .ok (.iconst 0, 1) := by decide +kernel
theorem dX12_matched_43 : decode cX12_matched 43 = .ok (.istore 8, 2) := by decide +kernel
theorem dX12_matched_45 : decode cX12_matched 45 = .ok (.iload 8, 2) := by decide +kernel
theorem dX12_matched_47 : decode cX12_matched 47 = .ok (.aload_n 0, 1) := by decide +kernel
theorem dX12_matched_48 : decode cX12_matched 48 = .ok (.iload_n 3, 1) := by decide +kernel
theorem dX12_matched_49 : decode cX12_matched 49 = .ok (.invokevirtual 203, 3) := by decide +kernel
theorem dX12_matched_52 : decode cX12_matched 52 = .ok (.if_icmp .ge 53, 3) := by decide +kernel
theorem dX12_matched_55 : decode cX12_matched 55 = .ok (.aload_n 0, 1) := by decide +kernel
theorem dX12_matched_56 : decode cX12_matched 56 = .ok (.iload_n 3, 1) := by decide +kernel
theorem dX12_matched_57 : decode cX12_matched 57 = .ok (.iload 8, 2) := by decide +kernel
theorem dX12_matched_59 : decode cX12_matched 59 = .ok (.invokevirtual 281, 3) := by decide +kernel
theorem dX12_matched_62 : decode cX12_matched 62 = .ok (.istore 9, 2) := by decide +kernel
theorem dX12_matched_64 : decode cX12_matched 64 = .ok (.aload_n 0, 1) := by decide +kernel
theorem dX12_matched_65 : decode cX12_matched 65 = .ok (.iload_n 1, 1) := by decide +kernel
theorem dX12_matched_66 : decode cX12_matched 66 = .ok (.lload 4, 2) := by decide +kernel
theorem dX12_matched_68 : decode cX12_matched 68 = .ok (.aload_n 0, 1) := by decide +kernel
theorem dX12_matched_69 : decode cX12_matched 69 = .ok (.iload_n 3, 1) := by decide +kernel
theorem dX12_matched_70 : decode cX12_matched 70 = .ok (.iload 9, 2) := by decide +kernel
theorem dX12_matched_72 : decode cX12_matched 72 = .ok (.invokevirtual 209, 3) := by decide +kernel
theorem dX12_matched_75 : decode cX12_matched 75 = .ok (.land, 1) := by decide +kernel
theorem dX12_matched_76 : decode cX12_matched 76 = .ok (.invokevirtual 354, 3) := by decide +kernel
theorem dX12_matched_79 : decode cX12_matched 79 = .ok (.istore 10, 2) := by decide +kernel
theorem dX12_matched_81 : decode cX12_matched 81 = .ok (.iload 10, 2) := by decide +kernel
theorem dX12_matched_83 : decode cX12_matched 83 = .ok (.iload 7, 2) := by decide +kernel
theorem dX12_matched_85 : decode cX12_matched 85 = .ok (.if_icmp .gt 6, 3) := by decide +kernel
theorem dX12_matched_88 : decode cX12_matched 88 = .ok (.goto 11, 3) := by decide +kernel
theorem dX12_matched_91 : decode cX12_matched 91 = .ok (.iload 9, 2) := by decide +kernel
theorem dX12_matched_93 : decode cX12_matched 93 = .ok (.istore 6, 2) := by decide +kernel
theorem dX12_matched_95 : decode cX12_matched 95 = .ok (.iload 10, 2) := by decide +kernel
theorem dX12_matched_97 : decode cX12_matched 97 = .ok (.istore 7, 2) := by decide +kernel
theorem dX12_matched_99 : decode cX12_matched 99 = .ok (.iinc 8 1, 3) := by decide +kernel
theorem dX12_matched_102 : decode cX12_matched 102 = .ok (.goto (-57), 3) := by decide +kernel
theorem dX12_matched_105 : decode cX12_matched 105 = .ok (.iload 6, 2) := by decide +kernel
theorem dX12_matched_107 : decode cX12_matched 107 = .ok (.ireturn, 1) := by decide +kernel
theorem dX12_hasJet_0 : decode cX12_hasJet 0 = .ok (.iconst 0, 1) := by decide +kernel
theorem dX12_hasJet_1 : decode cX12_hasJet 1 = .ok (.istore 4, 2) := by decide +kernel
theorem dX12_hasJet_3 : decode cX12_hasJet 3 = .ok (.iload 4, 2) := by decide +kernel
theorem dX12_hasJet_5 : decode cX12_hasJet 5 = .ok (.aload_n 0, 1) := by decide +kernel
theorem dX12_hasJet_6 : decode cX12_hasJet 6 = .ok (.iload_n 1, 1) := by decide +kernel
theorem dX12_hasJet_7 : decode cX12_hasJet 7 = .ok (.iconst 0, 1) := by decide +kernel
theorem dX12_hasJet_8 : decode cX12_hasJet 8 = .ok (.invokevirtual 88, 3) := by decide +kernel
theorem dX12_hasJet_11 : decode cX12_hasJet 11 = .ok (.if_icmp .ge 33, 3) := by decide +kernel
theorem dX12_hasJet_14 : decode cX12_hasJet 14 = .ok (.aload_n 0, 1) := by decide +kernel
theorem dX12_hasJet_15 : decode cX12_hasJet 15 = .ok (.iload_n 1, 1) := by decide +kernel
theorem dX12_hasJet_16 : decode cX12_hasJet 16 = .ok (.iload 4, 2) := by decide +kernel
theorem dX12_hasJet_18 : decode cX12_hasJet 18 = .ok (.invokevirtual 275, 3) := by decide +kernel
theorem dX12_hasJet_21 : decode cX12_hasJet 21 = .ok (.ifCond .eq 17, 3) := by decide +kernel
theorem dX12_hasJet_24 : decode cX12_hasJet 24 = .ok (.aload_n 0, 1) := by decide +kernel
theorem dX12_hasJet_25 : decode cX12_hasJet 25 = .ok (.iload_n 1, 1) := by decide +kernel
theorem dX12_hasJet_26 : decode cX12_hasJet 26 = .ok (.iload 4, 2) := by decide +kernel
theorem dX12_hasJet_28 : decode cX12_hasJet 28 = .ok (.invokevirtual 209, 3) := by decide +kernel
theorem dX12_hasJet_31 : decode cX12_hasJet 31 = .ok (.lload_n 2, 1) := by decide +kernel
theorem dX12_hasJet_32 : decode cX12_hasJet 32 = .ok (.lcmp, 1) := by decide +kernel
theorem dX12_hasJet_33 : decode cX12_hasJet 33 = .ok (.ifCond .ne 5, 3) := by decide +kernel
theorem dX12_hasJet_36 : decode cX12_hasJet 36 = .ok (.iconst 1, 1) := by decide +kernel
theorem dX12_hasJet_37 : decode cX12_hasJet 37 = .ok (.ireturn, 1) := by decide +kernel
theorem dX12_hasJet_38 : decode cX12_hasJet 38 = .ok (.iinc 4 1, 3) := by decide +kernel
theorem dX12_hasJet_41 : decode cX12_hasJet 41 = .ok (.goto (-38), 3) := by decide +kernel
theorem dX12_hasJet_44 : decode cX12_hasJet 44 = .ok (.iconst 0, 1) := by decide +kernel
theorem dX12_hasJet_45 : decode cX12_hasJet 45 = .ok (.ireturn, 1) := by decide +kernel
theorem dX12_unlikeOf_0 : decode cX12_unlikeOf 0 = .ok (.iconst 0, 1) := by decide +kernel
theorem dX12_unlikeOf_1 : decode cX12_unlikeOf 1 = .ok (.istore_n 3, 1) := by decide +kernel
theorem dX12_unlikeOf_2 : decode cX12_unlikeOf 2 = .ok (.iconst 0, 1) := by decide +kernel
theorem dX12_unlikeOf_3 : decode cX12_unlikeOf 3 = .ok (.istore 4, 2) := by decide +kernel
theorem dX12_unlikeOf_5 : decode cX12_unlikeOf 5 = .ok (.iload 4, 2) := by decide +kernel
theorem dX12_unlikeOf_7 : decode cX12_unlikeOf 7 = .ok (.aload_n 0, 1) := by decide +kernel
theorem dX12_unlikeOf_8 : decode cX12_unlikeOf 8 = .ok (.iload_n 1, 1) := by decide +kernel
theorem dX12_unlikeOf_9 : decode cX12_unlikeOf 9 = .ok (.iconst 0, 1) := by decide +kernel
theorem dX12_unlikeOf_10 : decode cX12_unlikeOf 10 = .ok (.invokevirtual 88, 3) := by decide +kernel
theorem dX12_unlikeOf_13 : decode cX12_unlikeOf 13 = .ok (.if_icmp .ge 42, 3) := by decide +kernel
theorem dX12_unlikeOf_16 : decode cX12_unlikeOf 16 = .ok (.iload_n 3, 1) := by decide +kernel
theorem dX12_unlikeOf_17 : decode cX12_unlikeOf 17 = .ok (.aload_n 0, 1) := by decide +kernel
theorem dX12_unlikeOf_18 : decode cX12_unlikeOf 18 = .ok (.iload_n 1, 1) := by decide +kernel
theorem dX12_unlikeOf_19 : decode cX12_unlikeOf 19 = .ok (.iload 4, 2) := by decide +kernel
theorem dX12_unlikeOf_21 : decode cX12_unlikeOf 21 = .ok (.invokevirtual 275, 3) := by decide +kernel
theorem dX12_unlikeOf_24 : decode cX12_unlikeOf 24 = .ok (.ifCond .eq 22, 3) := by decide +kernel
theorem dX12_unlikeOf_27 : decode cX12_unlikeOf 27 = .ok (.aload_n 0, 1) := by decide +kernel
theorem dX12_unlikeOf_28 : decode cX12_unlikeOf 28 = .ok (.iload_n 2, 1) := by decide +kernel
theorem dX12_unlikeOf_29 : decode cX12_unlikeOf 29 = .ok (.aload_n 0, 1) := by decide +kernel
theorem dX12_unlikeOf_30 : decode cX12_unlikeOf 30 = .ok (.iload_n 1, 1) := by decide +kernel
theorem dX12_unlikeOf_31 : decode cX12_unlikeOf 31 = .ok (.iload 4, 2) := by decide +kernel
theorem dX12_unlikeOf_33 : decode cX12_unlikeOf 33 = .ok (.invokevirtual 209, 3) := by decide +kernel
theorem dX12_unlikeOf_36 : decode cX12_unlikeOf 36 = .ok (.invokevirtual 358, 3) := by decide +kernel
theorem dX12_unlikeOf_39 : decode cX12_unlikeOf 39 = .ok (.ifCond .ne 7, 3) := by decide +kernel
theorem dX12_unlikeOf_42 : decode cX12_unlikeOf 42 = .ok (.iconst 1, 1) := by decide +kernel
theorem dX12_unlikeOf_43 : decode cX12_unlikeOf 43 = .ok (.goto 4, 3) := by decide +kernel
theorem dX12_unlikeOf_46 : decode cX12_unlikeOf 46 = .ok (.iconst 0, 1) := by decide +kernel
theorem dX12_unlikeOf_47 : decode cX12_unlikeOf 47 = .ok (.iadd, 1) := by decide +kernel
theorem dX12_unlikeOf_48 : decode cX12_unlikeOf 48 = .ok (.istore_n 3, 1) := by decide +kernel
theorem dX12_unlikeOf_49 : decode cX12_unlikeOf 49 = .ok (.iinc 4 1, 3) := by decide +kernel
theorem dX12_unlikeOf_52 : decode cX12_unlikeOf 52 = .ok (.goto (-47), 3) := by decide +kernel
theorem dX12_unlikeOf_55 : decode cX12_unlikeOf 55 = .ok (.iload_n 3, 1) := by decide +kernel
theorem dX12_unlikeOf_56 : decode cX12_unlikeOf 56 = .ok (.ireturn, 1) := by decide +kernel
theorem dX12_unlike_0 : decode cX12_unlike 0 = .ok (.aload_n 0, 1) := by decide +kernel
theorem dX12_unlike_1 : decode cX12_unlike 1 = .ok (.iload_n 1, 1) := by decide +kernel
theorem dX12_unlike_2 : decode cX12_unlike 2 = .ok (.invokevirtual 84, 3) := by decide +kernel
theorem dX12_unlike_5 : decode cX12_unlike 5 = .ok (.ifCond .eq 20, 3) := by decide +kernel
theorem dX12_unlike_8 : decode cX12_unlike 8 = .ok (.aload_n 0, 1) := by decide +kernel
theorem dX12_unlike_9 : decode cX12_unlike 9 = .ok (.iload_n 2, 1) := by decide +kernel
theorem dX12_unlike_10 : decode cX12_unlike 10 = .ok (.invokevirtual 84, 3) := by decide +kernel
theorem dX12_unlike_13 : decode cX12_unlike 13 = .ok (.ifCond .eq 12, 3) := by decide +kernel
theorem dX12_unlike_16 : decode cX12_unlike 16 = .ok (.aload_n 0, 1) := by decide +kernel
theorem dX12_unlike_17 : decode cX12_unlike 17 = .ok (.iload_n 1, 1) := by decide +kernel
theorem dX12_unlike_18 : decode cX12_unlike 18 = .ok (.iload_n 2, 1) := by decide +kernel
theorem dX12_unlike_19 : decode cX12_unlike 19 = .ok (.invokevirtual 361, 3) := by decide +kernel
theorem dX12_unlike_22 : decode cX12_unlike 22 = .ok (.goto 4, 3) := by decide +kernel
theorem dX12_unlike_25 : decode cX12_unlike 25 = .ok (.iconst (-1), 1) := by decide +kernel
theorem dX12_unlike_26 : decode cX12_unlike 26 = .ok (.ireturn, 1) := by decide +kernel
theorem dX12_alike_0 : decode cX12_alike 0 = .ok (.aload_n 0, 1) := by decide +kernel
theorem dX12_alike_1 : decode cX12_alike 1 = .ok (.iload_n 1, 1) := by decide +kernel
theorem dX12_alike_2 : decode cX12_alike 2 = .ok (.invokevirtual 84, 3) := by decide +kernel
theorem dX12_alike_5 : decode cX12_alike 5 = .ok (.ifCond .eq 31, 3) := by decide +kernel
theorem dX12_alike_8 : decode cX12_alike 8 = .ok (.aload_n 0, 1) := by decide +kernel
theorem dX12_alike_9 : decode cX12_alike 9 = .ok (.iload_n 2, 1) := by decide +kernel
theorem dX12_alike_10 : decode cX12_alike 10 = .ok (.invokevirtual 84, 3) := by decide +kernel
theorem dX12_alike_13 : decode cX12_alike 13 = .ok (.ifCond .eq 23, 3) := by decide +kernel
theorem dX12_alike_16 : decode cX12_alike 16 = .ok (.aload_n 0, 1) := by decide +kernel
theorem dX12_alike_17 : decode cX12_alike 17 = .ok (.iload_n 1, 1) := by decide +kernel
theorem dX12_alike_18 : decode cX12_alike 18 = .ok (.iload_n 2, 1) := by decide +kernel
theorem dX12_alike_19 : decode cX12_alike 19 = .ok (.invokevirtual 361, 3) := by decide +kernel
theorem dX12_alike_22 : decode cX12_alike 22 = .ok (.aload_n 0, 1) := by decide +kernel
theorem dX12_alike_23 : decode cX12_alike 23 = .ok (.iload_n 2, 1) := by decide +kernel
theorem dX12_alike_24 : decode cX12_alike 24 = .ok (.iload_n 1, 1) := by decide +kernel
theorem dX12_alike_25 : decode cX12_alike 25 = .ok (.invokevirtual 361, 3) := by decide +kernel
theorem dX12_alike_28 : decode cX12_alike 28 = .ok (.iadd, 1) := by decide +kernel
theorem dX12_alike_29 : decode cX12_alike 29 = .ok (.ifCond .ne 7, 3) := by decide +kernel
theorem dX12_alike_32 : decode cX12_alike 32 = .ok (.iconst 1, 1) := by decide +kernel
theorem dX12_alike_33 : decode cX12_alike 33 = .ok (.goto 4, 3) := by decide +kernel
theorem dX12_alike_36 : decode cX12_alike 36 = .ok (.iconst 0, 1) := by decide +kernel
theorem dX12_alike_37 : decode cX12_alike 37 = .ok (.ireturn, 1) := by decide +kernel
theorem dX12_common__0 : decode cX12_common_ 0 = .ok (.aload_n 0, 1) := by decide +kernel
theorem dX12_common__1 : decode cX12_common_ 1 = .ok (.iload_n 1, 1) := by decide +kernel
theorem dX12_common__2 : decode cX12_common_ 2 = .ok (.invokevirtual 84, 3) := by decide +kernel
theorem dX12_common__5 : decode cX12_common_ 5 = .ok (.ifCond .eq 11, 3) := by decide +kernel
theorem dX12_common__8 : decode cX12_common_ 8 = .ok (.aload_n 0, 1) := by decide +kernel
theorem dX12_common__9 : decode cX12_common_ 9 = .ok (.iload_n 2, 1) := by decide +kernel
theorem dX12_common__10 : decode cX12_common_ 10 = .ok (.invokevirtual 84, 3) := by decide +kernel
theorem dX12_common__13 : decode cX12_common_ 13 = .ok (.ifCond .ne 5, 3) := by decide +kernel
theorem dX12_common__16 : decode cX12_common_ 16 = .ok (.iconst (-1), 1) := by decide +kernel
theorem dX12_common__17 : decode cX12_common_ 17 = .ok (.ireturn, 1) := by decide +kernel
theorem dX12_common__18 : decode cX12_common_ 18 = .ok (.iconst 0, 1) := by decide +kernel
theorem dX12_common__19 : decode cX12_common_ 19 = .ok (.istore_n 3, 1) := by decide +kernel
theorem dX12_common__20 : decode cX12_common_ 20 = .ok (.aload_n 0, 1) := by decide +kernel
theorem dX12_common__21 : decode cX12_common_ 21 = .ok (.iload_n 1, 1) := by decide +kernel
theorem dX12_common__22 : decode cX12_common_ 22 = .ok (.iconst 1, 1) := by decide +kernel
theorem dX12_common__23 : decode cX12_common_ 23 = .ok (.invokevirtual 88, 3) := by decide +kernel
theorem dX12_common__26 : decode cX12_common_ 26 = .ok (.istore 4, 2) := by decide +kernel
theorem dX12_common__28 : decode cX12_common_ 28 = .ok (.iload 4, 2) := by decide +kernel
theorem dX12_common__30 : decode cX12_common_ 30 = .ok (.aload_n 0, 1) := by decide +kernel
theorem dX12_common__31 : decode cX12_common_ 31 = .ok (.iload_n 1, 1) := by decide +kernel
theorem dX12_common__32 : decode cX12_common_ 32 = .ok (.iconst 0, 1) := by decide +kernel
theorem dX12_common__33 : decode cX12_common_ 33 = .ok (.invokevirtual 88, 3) := by decide +kernel
theorem dX12_common__36 : decode cX12_common_ 36 = .ok (.if_icmp .ge 80, 3) := by decide +kernel
theorem dX12_common__39 : decode cX12_common_ 39 = .ok (.iconst 0, 1) := by decide +kernel
theorem dX12_common__40 : decode cX12_common_ 40 = .ok (.istore 5, 2) := by decide +kernel
theorem dX12_common__42 : decode cX12_common_ 42 = .ok (.aload_n 0, 1) := by decide +kernel
theorem dX12_common__43 : decode cX12_common_ 43 = .ok (.iload_n 2, 1) := by decide +kernel
theorem dX12_common__44 : decode cX12_common_ 44 = .ok (.iconst 1, 1) := by decide +kernel
theorem dX12_common__45 : decode cX12_common_ 45 = .ok (.invokevirtual 88, 3) := by decide +kernel
theorem dX12_common__48 : decode cX12_common_ 48 = .ok (.istore 6, 2) := by decide +kernel
theorem dX12_common__50 : decode cX12_common_ 50 = .ok (.iload 6, 2) := by decide +kernel
theorem dX12_common__52 : decode cX12_common_ 52 = .ok (.aload_n 0, 1) := by decide +kernel
theorem dX12_common__53 : decode cX12_common_ 53 = .ok (.iload_n 2, 1) := by decide +kernel
theorem dX12_common__54 : decode cX12_common_ 54 = .ok (.iconst 0, 1) := by decide +kernel
theorem dX12_common__55 : decode cX12_common_ 55 = .ok (.invokevirtual 88, 3) := by decide +kernel
theorem dX12_common__58 : decode cX12_common_ 58 = .ok (.if_icmp .ge 39, 3) := by decide +kernel
theorem dX12_common__61 : decode cX12_common_ 61 = .ok (.iload 5, 2) := by decide +kernel
theorem dX12_common__63 : decode cX12_common_ 63 = .ok (.ifCond .ne 21, 3) := by decide +kernel
theorem dX12_common__66 : decode cX12_common_ 66 = .ok (.aload_n 0, 1) := by decide +kernel
theorem dX12_common__67 : decode cX12_common_ 67 = .ok (.iload_n 1, 1) := by decide +kernel
theorem dX12_common__68 : decode cX12_common_ 68 = .ok (.iload 4, 2) := by decide +kernel
theorem dX12_common__70 : decode cX12_common_ 70 = .ok (.invokevirtual 209, 3) := by decide +kernel
theorem dX12_common__73 : decode cX12_common_ 73 = .ok (.aload_n 0, 1) := by decide +kernel
theorem dX12_common__74 : decode cX12_common_ 74 = .ok (.iload_n 2, 1) := by decide +kernel
theorem dX12_common__75 : decode cX12_common_ 75 = .ok (.iload 6, 2) := by decide +kernel
theorem dX12_common__77 : decode cX12_common_ 77 = .ok (.invokevirtual 209, 3) := by decide +kernel
theorem dX12_common__80 : decode cX12_common_ 80 = .ok (.lcmp, 1) := by decide +kernel
theorem dX12_common__81 : decode cX12_common_ 81 = .ok (.ifCond .ne 7, 3) := by decide +kernel
theorem dX12_common__84 : decode cX12_common_ 84 = .ok (.iconst 1, 1) := by decide +kernel
theorem dX12_common__85 : decode cX12_common_ 85 = .ok (.goto 4, 3) := by decide +kernel
theorem dX12_common__88 : decode cX12_common_ 88 = .ok (.iconst 0, 1) := by decide +kernel
theorem dX12_common__89 : decode cX12_common_ 89 = .ok (.istore 5, 2) := by decide +kernel
theorem dX12_common__91 : decode cX12_common_ 91 = .ok (.iinc 6 1, 3) := by decide +kernel
theorem dX12_common__94 : decode cX12_common_ 94 = .ok (.goto (-44), 3) := by decide +kernel
theorem dX12_common__97 : decode cX12_common_ 97 = .ok (.iload_n 3, 1) := by decide +kernel
theorem dX12_common__98 : decode cX12_common_ 98 = .ok (.iload 5, 2) := by decide +kernel
theorem dX12_common__100 : decode cX12_common_ 100 = .ok (.ifCond .eq 7, 3) := by decide +kernel
theorem dX12_common__103 : decode cX12_common_ 103 = .ok (.iconst 1, 1) := by decide +kernel
theorem dX12_common__104 : decode cX12_common_ 104 = .ok (.goto 4, 3) := by decide +kernel
theorem dX12_common__107 : decode cX12_common_ 107 = .ok (.iconst 0, 1) := by decide +kernel
theorem dX12_common__108 : decode cX12_common_ 108 = .ok (.iadd, 1) := by decide +kernel
theorem dX12_common__109 : decode cX12_common_ 109 = .ok (.istore_n 3, 1) := by decide +kernel
theorem dX12_common__110 : decode cX12_common_ 110 = .ok (.iinc 4 1, 3) := by decide +kernel
theorem dX12_common__113 : decode cX12_common_ 113 = .ok (.goto (-85), 3) := by decide +kernel
theorem dX12_common__116 : decode cX12_common_ 116 = .ok (.iload_n 3, 1) := by decide +kernel
theorem dX12_common__117 : decode cX12_common_ 117 = .ok (.ireturn, 1) := by decide +kernel
theorem dX12_backToBack_0 : decode cX12_backToBack 0 = .ok (.aload_n 0, 1) := by decide +kernel
theorem dX12_backToBack_1 : decode cX12_backToBack 1 = .ok (.iload_n 1, 1) := by decide +kernel
theorem dX12_backToBack_2 : decode cX12_backToBack 2 = .ok (.invokevirtual 84, 3) := by decide +kernel
theorem dX12_backToBack_5 : decode cX12_backToBack 5 = .ok (.ifCond .eq 12, 3) := by decide +kernel
theorem dX12_backToBack_8 : decode cX12_backToBack 8 = .ok (.aload_n 0, 1) := by decide +kernel
theorem dX12_backToBack_9 : decode cX12_backToBack 9 = .ok (.iload_n 1, 1) := by decide +kernel
theorem dX12_backToBack_10 : decode cX12_backToBack 10 = .ok (.invokevirtual 203, 3) := by decide +kernel
theorem dX12_backToBack_13 : decode cX12_backToBack 13 = .ok (.iconst 2, 1) := by decide +kernel
theorem dX12_backToBack_14 : decode cX12_backToBack 14 = .ok (.if_icmp .ge 5, 3) := by decide +kernel
theorem dX12_backToBack_17 : decode cX12_backToBack 17 = .ok (.iconst (-1), 1) := by decide +kernel
theorem dX12_backToBack_18 : decode cX12_backToBack 18 = .ok (.ireturn, 1) := by decide +kernel
theorem dX12_backToBack_19 : decode cX12_backToBack 19 = .ok (.aload_n 0, 1) := by decide +kernel
theorem dX12_backToBack_20 : decode cX12_backToBack 20 = .ok (.iload_n 1, 1) := by decide +kernel
theorem dX12_backToBack_21 : decode cX12_backToBack 21 = .ok (.aload_n 0, 1) := by decide +kernel
theorem dX12_backToBack_22 : decode cX12_backToBack 22 = .ok (.iload_n 1, 1) := by decide +kernel
theorem dX12_backToBack_23 : decode cX12_backToBack 23 = .ok (.iconst 0, 1) := by decide +kernel
theorem dX12_backToBack_24 : decode cX12_backToBack 24 = .ok (.invokevirtual 281, 3) := by decide +kernel
theorem dX12_backToBack_27 : decode cX12_backToBack 27 = .ok (.iconst 1, 1) := by decide +kernel
theorem dX12_backToBack_28 : decode cX12_backToBack 28 = .ok (.invokevirtual 91, 3) := by decide +kernel
theorem dX12_backToBack_31 : decode cX12_backToBack 31 = .ok (.aload_n 0, 1) := by decide +kernel
theorem dX12_backToBack_32 : decode cX12_backToBack 32 = .ok (.iload_n 1, 1) := by decide +kernel
theorem dX12_backToBack_33 : decode cX12_backToBack 33 = .ok (.aload_n 0, 1) := by decide +kernel
theorem dX12_backToBack_34 : decode cX12_backToBack 34 = .ok (.iload_n 1, 1) := by decide +kernel
theorem dX12_backToBack_35 : decode cX12_backToBack 35 = .ok (.iconst 1, 1) := by decide +kernel
theorem dX12_backToBack_36 : decode cX12_backToBack 36 = .ok (.invokevirtual 281, 3) := by decide +kernel
theorem dX12_backToBack_39 : decode cX12_backToBack 39 = .ok (.iconst 1, 1) := by decide +kernel
theorem dX12_backToBack_40 : decode cX12_backToBack 40 = .ok (.invokevirtual 91, 3) := by decide +kernel
theorem dX12_backToBack_43 : decode cX12_backToBack 43 = .ok (.invokestatic 65, 3) := by decide +kernel
theorem dX12_backToBack_46 : decode cX12_backToBack 46 = .ok (.istore_n 2, 1) := by decide +kernel
theorem dX12_backToBack_47 : decode cX12_backToBack 47 = .ok (.iload_n 2, 1) := by decide +kernel
theorem dX12_backToBack_48 : decode cX12_backToBack 48 = .ok (.ifCond .ge 8, 3) := by decide +kernel
theorem dX12_backToBack_51 : decode cX12_backToBack 51 = .ok (.iload_n 2, 1) := by decide +kernel
theorem dX12_backToBack_52 : decode cX12_backToBack 52 = .ok (.ineg, 1) := by decide +kernel
theorem dX12_backToBack_53 : decode cX12_backToBack 53 = .ok (.goto 4, 3) := by decide +kernel
theorem dX12_backToBack_56 : decode cX12_backToBack 56 = .ok (.iload_n 2, 1) := by decide +kernel
theorem dX12_backToBack_57 : decode cX12_backToBack 57 = .ok (.ireturn, 1) := by decide +kernel
theorem dX12_fresh_0 : decode cX12_fresh 0 = .ok (.aload_n 0, 1) := by decide +kernel
theorem dX12_fresh_1 : decode cX12_fresh 1 = .ok (.iload_n 1, 1) := by decide +kernel
theorem dX12_fresh_2 : decode cX12_fresh 2 = .ok (.invokevirtual 84, 3) := by decide +kernel
theorem dX12_fresh_5 : decode cX12_fresh 5 = .ok (.ifCond .eq 16, 3) := by decide +kernel
theorem dX12_fresh_8 : decode cX12_fresh 8 = .ok (.aload_n 0, 1) := by decide +kernel
theorem dX12_fresh_9 : decode cX12_fresh 9 = .ok (.invokevirtual 77, 3) := by decide +kernel
theorem dX12_fresh_12 : decode cX12_fresh 12 = .ok (.aload_n 0, 1) := by decide +kernel
theorem dX12_fresh_13 : decode cX12_fresh 13 = .ok (.iload_n 1, 1) := by decide +kernel
theorem dX12_fresh_14 : decode cX12_fresh 14 = .ok (.iconst 1, 1) := by decide +kernel
theorem dX12_fresh_15 : decode cX12_fresh 15 = .ok (.invokevirtual 88, 3) := by decide +kernel
theorem dX12_fresh_18 : decode cX12_fresh 18 = .ok (.if_icmp .eq 5, 3) := by decide +kernel
theorem dX12_fresh_21 : decode cX12_fresh 21 = .ok (.iconst 0, 1) := by decide +kernel
theorem dX12_fresh_22 : decode cX12_fresh 22 = .ok (.ireturn, 1) := by decide +kernel
theorem dX12_fresh_23 : decode cX12_fresh 23 = .ok (.aload_n 0, 1) := by decide +kernel
theorem dX12_fresh_24 : decode cX12_fresh 24 = .ok (.invokevirtual 197, 3) := by decide +kernel
theorem dX12_fresh_27 : decode cX12_fresh 27 = .ok (.iconst 0, 1) := by decide +kernel
theorem dX12_fresh_28 : decode cX12_fresh 28 = .ok (.istore_n 2, 1) := by decide +kernel
theorem dX12_fresh_29 : decode cX12_fresh 29 = .ok (.iload_n 2, 1) := by decide +kernel
theorem dX12_fresh_30 : decode cX12_fresh 30 = .ok (.aload_n 0, 1) := by decide +kernel
theorem dX12_fresh_31 : decode cX12_fresh 31 = .ok (.getfield 140, 3) := by decide +kernel
theorem dX12_fresh_34 : decode cX12_fresh 34 = .ok (.if_icmp .ge 43, 3) := by decide +kernel
theorem dX12_fresh_37 : decode cX12_fresh 37 = .ok (.aload_n 0, 1) := by decide +kernel
theorem dX12_fresh_38 : decode cX12_fresh 38 = .ok (.getfield 36, 3) := by decide +kernel
theorem dX12_fresh_41 : decode cX12_fresh 41 = .ok (.iload_n 2, 1) := by decide +kernel
theorem dX12_fresh_42 : decode cX12_fresh 42 = .ok (.iaload, 1) := by decide +kernel
theorem dX12_fresh_43 : decode cX12_fresh 43 = .ok (.aload_n 0, 1) := by decide +kernel
theorem dX12_fresh_44 : decode cX12_fresh 44 = .ok (.iload_n 1, 1) := by decide +kernel
theorem dX12_fresh_45 : decode cX12_fresh 45 = .ok (.iload_n 2, 1) := by decide +kernel
theorem dX12_fresh_46 : decode cX12_fresh 46 = .ok (.iconst 0, 1) := by decide +kernel
theorem dX12_fresh_47 : decode cX12_fresh 47 = .ok (.invokevirtual 230, 3) := by decide +kernel
theorem dX12_fresh_50 : decode cX12_fresh 50 = .ok (.if_icmp .ne 19, 3) := by decide +kernel
theorem dX12_fresh_53 : decode cX12_fresh 53 = .ok (.aload_n 0, 1) := by decide +kernel
theorem dX12_fresh_54 : decode cX12_fresh 54 = .ok (.getfield 39, 3) := by decide +kernel
theorem dX12_fresh_57 : decode cX12_fresh 57 = .ok (.iload_n 2, 1) := by decide +kernel
theorem dX12_fresh_58 : decode cX12_fresh 58 = .ok (.iaload, 1) := by decide +kernel
theorem dX12_fresh_59 : decode cX12_fresh 59 = .ok (.aload_n 0, 1) := by decide +kernel
theorem dX12_fresh_60 : decode cX12_fresh 60 = .ok (.iload_n 1, 1) := by decide +kernel
theorem dX12_fresh_61 : decode cX12_fresh 61 = .ok (.iload_n 2, 1) := by decide +kernel
theorem dX12_fresh_62 : decode cX12_fresh 62 = .ok (.iconst 1, 1) := by decide +kernel
theorem dX12_fresh_63 : decode cX12_fresh 63 = .ok (.invokevirtual 230, 3) := by decide +kernel
theorem dX12_fresh_66 : decode cX12_fresh 66 = .ok (.if_icmp .eq 5, 3) := by decide +kernel
theorem dX12_fresh_69 : decode cX12_fresh 69 = .ok (.iconst 0, 1) := by decide +kernel
theorem dX12_fresh_70 : decode cX12_fresh 70 = .ok (.ireturn, 1) := by decide +kernel
theorem dX12_fresh_71 : decode cX12_fresh 71 = .ok (.iinc 2 1, 3) := by decide +kernel
theorem dX12_fresh_74 : decode cX12_fresh 74 = .ok (.goto (-45), 3) := by decide +kernel
theorem dX12_fresh_77 : decode cX12_fresh 77 = .ok (.iconst 0, 1) := by decide +kernel
theorem dX12_fresh_78 : decode cX12_fresh 78 = .ok (.istore_n 2, 1) := by decide +kernel
theorem dX12_fresh_79 : decode cX12_fresh 79 = .ok (.iload_n 2, 1) := by decide +kernel
theorem dX12_fresh_80 : decode cX12_fresh 80 = .ok (.aload_n 0, 1) := by decide +kernel
theorem dX12_fresh_81 : decode cX12_fresh 81 = .ok (.iload_n 1, 1) := by decide +kernel
theorem dX12_fresh_82 : decode cX12_fresh 82 = .ok (.invokevirtual 248, 3) := by decide +kernel
theorem dX12_fresh_85 : decode cX12_fresh 85 = .ok (.if_icmp .ge 76, 3) := by decide +kernel
theorem dX12_fresh_88 : decode cX12_fresh 88 = .ok (.aload_n 0, 1) := by decide +kernel
theorem dX12_fresh_89 : decode cX12_fresh 89 = .ok (.invokevirtual 197, 3) := by decide +kernel
theorem dX12_fresh_92 : decode cX12_fresh 92 = .ok (.aload_n 0, 1) := by decide +kernel
theorem dX12_fresh_93 : decode cX12_fresh 93 = .ok (.aload_n 0, 1) := by decide +kernel
theorem dX12_fresh_94 : decode cX12_fresh 94 = .ok (.getfield 36, 3) := by decide +kernel
theorem dX12_fresh_97 : decode cX12_fresh 97 = .ok (.iload_n 2, 1) := by decide +kernel
theorem dX12_fresh_98 : decode cX12_fresh 98 = .ok (.iaload, 1) := by decide +kernel
theorem dX12_fresh_99 : decode cX12_fresh 99 = .ok (.aload_n 0, 1) := by decide +kernel
theorem dX12_fresh_100 : decode cX12_fresh 100 = .ok (.getfield 39, 3) := by decide +kernel
theorem dX12_fresh_103 : decode cX12_fresh 103 = .ok (.iload_n 2, 1) := by decide +kernel
theorem dX12_fresh_104 : decode cX12_fresh 104 = .ok (.iaload, 1) := by decide +kernel
theorem dX12_fresh_105 : decode cX12_fresh 105 = .ok (.invokevirtual 109, 3) := by decide +kernel
theorem dX12_fresh_108 : decode cX12_fresh 108 = .ok (.lstore_n 3, 1) := by decide +kernel
theorem dX12_fresh_109 : decode cX12_fresh 109 = .ok (.aload_n 0, 1) := by decide +kernel
theorem dX12_fresh_110 : decode cX12_fresh 110 = .ok (.aload_n 0, 1) := by decide +kernel
theorem dX12_fresh_111 : decode cX12_fresh 111 = .ok (.getfield 36, 3) := by decide +kernel
theorem dX12_fresh_114 : decode cX12_fresh 114 = .ok (.iload_n 2, 1) := by decide +kernel
theorem dX12_fresh_115 : decode cX12_fresh 115 = .ok (.iaload, 1) := by decide +kernel
theorem dX12_fresh_116 : decode cX12_fresh 116 = .ok (.aload_n 0, 1) := by decide +kernel
theorem dX12_fresh_117 : decode cX12_fresh 117 = .ok (.getfield 39, 3) := by decide +kernel
theorem dX12_fresh_120 : decode cX12_fresh 120 = .ok (.iload_n 2, 1) := by decide +kernel
theorem dX12_fresh_121 : decode cX12_fresh 121 = .ok (.iaload, 1) := by decide +kernel
theorem dX12_fresh_122 : decode cX12_fresh 122 = .ok (.invokevirtual 113, 3) := by decide +kernel
theorem dX12_fresh_125 : decode cX12_fresh 125 = .ok (.lstore 5, 2) := by decide +kernel
theorem dX12_fresh_127 : decode cX12_fresh 127 = .ok (.aload_n 0, 1) := by decide +kernel
theorem dX12_fresh_128 : decode cX12_fresh 128 = .ok (.iload_n 1, 1) := by decide +kernel
theorem dX12_fresh_129 : decode cX12_fresh 129 = .ok (.invokevirtual 256, 3) := by decide +kernel
theorem dX12_fresh_132 : decode cX12_fresh 132 = .ok (.lload_n 3, 1) := by decide +kernel
theorem dX12_fresh_133 : decode cX12_fresh 133 = .ok (.lload 5, 2) := by decide +kernel
theorem dX12_fresh_135 : decode cX12_fresh 135 = .ok (.aload_n 0, 1) := by decide +kernel
theorem dX12_fresh_136 : decode cX12_fresh 136 = .ok (.iload_n 1, 1) := by decide +kernel
theorem dX12_fresh_137 : decode cX12_fresh 137 = .ok (.iload_n 2, 1) := by decide +kernel
theorem dX12_fresh_138 : decode cX12_fresh 138 = .ok (.invokevirtual 259, 3) := by decide +kernel
theorem dX12_fresh_141 : decode cX12_fresh 141 = .ok (.aload_n 0, 1) := by decide +kernel
theorem dX12_fresh_142 : decode cX12_fresh 142 = .ok (.iload_n 1, 1) := by decide +kernel
theorem dX12_fresh_143 : decode cX12_fresh 143 = .ok (.iload_n 2, 1) := by decide +kernel
theorem dX12_fresh_144 : decode cX12_fresh 144 = .ok (.invokevirtual 262, 3) := by decide +kernel
theorem dX12_fresh_147 : decode cX12_fresh 147 = .ok (.invokestatic 116, 3) := by decide +kernel
theorem dX12_fresh_150 : decode cX12_fresh 150 = .ok (.ifCond .eq 5, 3) := by decide +kernel
theorem dX12_fresh_153 : decode cX12_fresh 153 = .ok (.iconst 0, 1) := by decide +kernel
theorem dX12_fresh_154 : decode cX12_fresh 154 = .ok (.ireturn, 1) := by decide +kernel
theorem dX12_fresh_155 : decode cX12_fresh 155 = .ok (.iinc 2 1, 3) := by decide +kernel
theorem dX12_fresh_158 : decode cX12_fresh 158 = .ok (.goto (-79), 3) := by decide +kernel
theorem dX12_fresh_161 : decode cX12_fresh 161 = .ok (.iconst 1, 1) := by decide +kernel
theorem dX12_fresh_162 : decode cX12_fresh 162 = .ok (.ireturn, 1) := by decide +kernel
theorem dX12_pairOf_0 : decode cX12_pairOf 0 = .ok (.aload_n 0, 1) := by decide +kernel
theorem dX12_pairOf_1 : decode cX12_pairOf 1 = .ok (.iload_n 1, 1) := by decide +kernel
theorem dX12_pairOf_2 : decode cX12_pairOf 2 = .ok (.iload_n 2, 1) := by decide +kernel
theorem dX12_pairOf_3 : decode cX12_pairOf 3 = .ok (.invokevirtual 281, 3) := by decide +kernel
theorem dX12_pairOf_6 : decode cX12_pairOf 6 = .ok (.istore 4, 2) := by decide +kernel
theorem dX12_pairOf_8 : decode cX12_pairOf 8 = .ok (.aload_n 0, 1) := by decide +kernel
theorem dX12_pairOf_9 : decode cX12_pairOf 9 = .ok (.iload_n 1, 1) := by decide +kernel
theorem dX12_pairOf_10 : decode cX12_pairOf 10 = .ok (.iload_n 3, 1) := by decide +kernel
theorem dX12_pairOf_11 : decode cX12_pairOf 11 = .ok (.invokevirtual 281, 3) := by decide +kernel
theorem dX12_pairOf_14 : decode cX12_pairOf 14 = .ok (.istore 5, 2) := by decide +kernel
theorem dX12_pairOf_16 : decode cX12_pairOf 16 = .ok (.aload_n 0, 1) := by decide +kernel
theorem dX12_pairOf_17 : decode cX12_pairOf 17 = .ok (.iload_n 1, 1) := by decide +kernel
theorem dX12_pairOf_18 : decode cX12_pairOf 18 = .ok (.iload 4, 2) := by decide +kernel
theorem dX12_pairOf_20 : decode cX12_pairOf 20 = .ok (.invokevirtual 158, 3) := by decide +kernel
theorem dX12_pairOf_23 : decode cX12_pairOf 23 = .ok (.i2l, 1) := by decide +kernel
theorem dX12_pairOf_24 : decode cX12_pairOf 24 = .ok (.aload_n 0, 1) := by decide +kernel
theorem dX12_pairOf_25 : decode cX12_pairOf 25 = .ok (.iload_n 1, 1) := by decide +kernel
theorem dX12_pairOf_26 : decode cX12_pairOf 26 = .ok (.iload 5, 2) := by decide +kernel
theorem dX12_pairOf_28 : decode cX12_pairOf 28 = .ok (.invokevirtual 158, 3) := by decide +kernel
theorem dX12_pairOf_31 : decode cX12_pairOf 31 = .ok (.i2l, 1) := by decide +kernel
theorem dX12_pairOf_32 : decode cX12_pairOf 32 = .ok (.lmul, 1) := by decide +kernel
theorem dX12_pairOf_33 : decode cX12_pairOf 33 = .ok (.aload_n 0, 1) := by decide +kernel
theorem dX12_pairOf_34 : decode cX12_pairOf 34 = .ok (.iload_n 1, 1) := by decide +kernel
theorem dX12_pairOf_35 : decode cX12_pairOf 35 = .ok (.iload 4, 2) := by decide +kernel
theorem dX12_pairOf_37 : decode cX12_pairOf 37 = .ok (.iload 5, 2) := by decide +kernel
theorem dX12_pairOf_39 : decode cX12_pairOf 39 = .ok (.invokevirtual 341, 3) := by decide +kernel
theorem dX12_pairOf_42 : decode cX12_pairOf 42 = .ok (.lmul, 1) := by decide +kernel
theorem dX12_pairOf_43 : decode cX12_pairOf 43 = .ok (.lreturn, 1) := by decide +kernel
theorem dX12_pair_0 : decode cX12_pair 0 = .ok (.aload_n 0, 1) := by decide +kernel
theorem dX12_pair_1 : decode cX12_pair 1 = .ok (.iload_n 1, 1) := by decide +kernel
theorem dX12_pair_2 : decode cX12_pair 2 = .ok (.invokevirtual 84, 3) := by decide +kernel
theorem dX12_pair_5 : decode cX12_pair 5 = .ok (.ifCond .eq 31, 3) := by decide +kernel
theorem dX12_pair_8 : decode cX12_pair 8 = .ok (.iload_n 2, 1) := by decide +kernel
theorem dX12_pair_9 : decode cX12_pair 9 = .ok (.ifCond .lt 27, 3) := by decide +kernel
theorem dX12_pair_12 : decode cX12_pair 12 = .ok (.iload_n 2, 1) := by decide +kernel
theorem dX12_pair_13 : decode cX12_pair 13 = .ok (.iload_n 3, 1) := by decide +kernel
theorem dX12_pair_14 : decode cX12_pair 14 = .ok (.if_icmp .ge 22, 3) := by decide +kernel
theorem dX12_pair_17 : decode cX12_pair 17 = .ok (.iload_n 3, 1) := by decide +kernel
theorem dX12_pair_18 : decode cX12_pair 18 = .ok (.aload_n 0, 1) := by decide +kernel
theorem dX12_pair_19 : decode cX12_pair 19 = .ok (.iload_n 1, 1) := by decide +kernel
theorem dX12_pair_20 : decode cX12_pair 20 = .ok (.invokevirtual 203, 3) := by decide +kernel
theorem dX12_pair_23 : decode cX12_pair 23 = .ok (.if_icmp .ge 13, 3) := by decide +kernel
theorem dX12_pair_26 : decode cX12_pair 26 = .ok (.aload_n 0, 1) := by decide +kernel
theorem dX12_pair_27 : decode cX12_pair 27 = .ok (.iload_n 1, 1) := by decide +kernel
theorem dX12_pair_28 : decode cX12_pair 28 = .ok (.iload_n 2, 1) := by decide +kernel
theorem dX12_pair_29 : decode cX12_pair 29 = .ok (.iload_n 3, 1) := by decide +kernel
theorem dX12_pair_30 : decode cX12_pair 30 = .ok (.invokevirtual 364, 3) := by decide +kernel
theorem dX12_pair_33 : decode cX12_pair 33 = .ok (.goto 6, 3) := by decide +kernel
theorem dX12_pair_36 : decode cX12_pair 36 = .ok (.ldc2_w 254, 3) := by decide +kernel
theorem dX12_pair_39 : decode cX12_pair 39 = .ok (.lreturn, 1) := by decide +kernel
theorem dX12_nearestPair_0 : decode cX12_nearestPair 0 = .ok (.aload_n 0, 1) := by decide +kernel
theorem dX12_nearestPair_1 : decode cX12_nearestPair 1 = .ok (.iload_n 1, 1) := by decide +kernel
theorem dX12_nearestPair_2 : decode cX12_nearestPair 2 = .ok (.invokevirtual 84, 3) := by decide +kernel
theorem dX12_nearestPair_5 : decode cX12_nearestPair 5 = .ok (.ifCond .eq 9, 3) := by decide +kernel
theorem dX12_nearestPair_8 : decode cX12_nearestPair 8 = .ok (.lload_n 2, 1) := by decide +kernel
theorem dX12_nearestPair_9 : decode cX12_nearestPair 9 = .ok (.lconst 0, 1) := by decide +kernel
theorem dX12_nearestPair_10 : decode cX12_nearestPair 10 = .ok (.lcmp, 1) := by decide +kernel
theorem dX12_nearestPair_11 : decode cX12_nearestPair 11 = .ok (.ifCond .ge 5, 3) := by decide +kernel
theorem dX12_nearestPair_14 : decode cX12_nearestPair 14 = .ok (.iconst (-1), 1) := by decide +kernel
theorem dX12_nearestPair_15 : decode cX12_nearestPair 15 = .ok (.ireturn, 1) := by decide +kernel
theorem dX12_nearestPair_16 : decode cX12_nearestPair 16 = .ok (.iconst (-1), 1) := by decide +kernel
theorem dX12_nearestPair_17 : decode cX12_nearestPair 17 = .ok (.istore 4, 2) := by decide +kernel
theorem dX12_nearestPair_19 : decode cX12_nearestPair 19 = .ok (.lconst 0, 1) := by decide +kernel
theorem dX12_nearestPair_20 : decode cX12_nearestPair 20 = .ok (.lstore 5, 2) := by decide +kernel
theorem dX12_nearestPair_22 : decode cX12_nearestPair 22 = .ok (.iconst 0, 1) := by decide +kernel
theorem dX12_nearestPair_23 : decode cX12_nearestPair 23 = .ok (.istore 7, 2) := by decide +kernel
theorem dX12_nearestPair_25 : decode cX12_nearestPair 25 = .ok (.iload 7, 2) := by decide +kernel
theorem dX12_nearestPair_27 : decode cX12_nearestPair 27 = .ok (.aload_n 0, 1) := by decide +kernel
theorem dX12_nearestPair_28 : decode cX12_nearestPair 28 = .ok (.iload_n 1, 1) := by decide +kernel
theorem dX12_nearestPair_29 : decode cX12_nearestPair 29 = .ok (.invokevirtual 203, 3) := by decide +kernel
theorem dX12_nearestPair_32 : decode cX12_nearestPair 32 = .ok (.if_icmp .ge 87, 3) := by decide +kernel
theorem dX12_nearestPair_35 : decode cX12_nearestPair 35 = .ok (.iload 7, 2) := by decide +kernel
theorem dX12_nearestPair_37 : decode cX12_nearestPair 37 = .ok (.iconst 1, 1) := by decide +kernel
theorem dX12_nearestPair_38 : decode cX12_nearestPair 38 = .ok (.iadd, 1) := by decide +kernel
theorem dX12_nearestPair_39 : decode cX12_nearestPair 39 = .ok (.istore 8, 2) := by decide +kernel
theorem dX12_nearestPair_41 : decode cX12_nearestPair 41 = .ok (.iload 8, 2) := by decide +kernel
theorem dX12_nearestPair_43 : decode cX12_nearestPair 43 = .ok (.aload_n 0, 1) := by decide +kernel
theorem dX12_nearestPair_44 : decode cX12_nearestPair 44 = .ok (.iload_n 1, 1) := by decide +kernel
theorem dX12_nearestPair_45 : decode cX12_nearestPair 45 = .ok (.invokevirtual 203, 3) := by decide +kernel
theorem dX12_nearestPair_48 : decode cX12_nearestPair 48 = .ok (.if_icmp .ge 65, 3) := by decide +kernel
theorem dX12_nearestPair_51 : decode cX12_nearestPair 51 = .ok (.aload_n 0, 1) := by decide +kernel
theorem dX12_nearestPair_52 : decode cX12_nearestPair 52 = .ok (.iload_n 1, 1) := by decide +kernel
theorem dX12_nearestPair_53 : decode cX12_nearestPair 53 = .ok (.iload 7, 2) := by decide +kernel
theorem dX12_nearestPair_55 : decode cX12_nearestPair 55 = .ok (.iload 8, 2) := by decide +kernel
theorem dX12_nearestPair_57 : decode cX12_nearestPair 57 = .ok (.invokevirtual 364, 3) := by decide +kernel
theorem dX12_nearestPair_60 : decode cX12_nearestPair 60 = .ok (.lload_n 2, 1) := by decide +kernel
theorem dX12_nearestPair_61 : decode cX12_nearestPair 61 = .ok (.lsub, 1) := by decide +kernel
theorem dX12_nearestPair_62 : decode cX12_nearestPair 62 = .ok (.lstore 9, 2) := by decide +kernel
theorem dX12_nearestPair_64 : decode cX12_nearestPair 64 = .ok (.lload 9, 2) := by decide +kernel
theorem dX12_nearestPair_66 : decode cX12_nearestPair 66 = .ok (.lconst 0, 1) := by decide +kernel
theorem dX12_nearestPair_67 : decode cX12_nearestPair 67 = .ok (.lcmp, 1) := by decide +kernel
theorem dX12_nearestPair_68 : decode cX12_nearestPair 68 = .ok (.ifCond .ge 8, 3) := by decide +kernel
theorem dX12_nearestPair_71 : decode cX12_nearestPair 71 = .ok (.lload 9, 2) := by decide +kernel
theorem dX12_nearestPair_73 : decode cX12_nearestPair 73 = .ok (.lneg, 1) := by decide +kernel
theorem dX12_nearestPair_74 : decode cX12_nearestPair 74 = .ok (.lstore 9, 2) := by decide +kernel
theorem dX12_nearestPair_76 : decode cX12_nearestPair 76 = .ok (.iload 4, 2) := by decide +kernel
theorem dX12_nearestPair_78 : decode cX12_nearestPair 78 = .ok (.iconst (-1), 1) := by decide +kernel
theorem dX12_nearestPair_79 : decode cX12_nearestPair 79 = .ok (.if_icmp .eq 14, 3) := by decide +kernel
theorem dX12_nearestPair_82 : decode cX12_nearestPair 82 = .ok (.lload 9, 2) := by decide +kernel
theorem dX12_nearestPair_84 : decode cX12_nearestPair 84 = .ok (.lload 5, 2) := by decide +kernel
theorem dX12_nearestPair_86 : decode cX12_nearestPair 86 = .ok (.lcmp, 1) := by decide +kernel
theorem dX12_nearestPair_87 : decode cX12_nearestPair 87 = .ok (.ifCond .lt 6, 3) := by decide +kernel
theorem dX12_nearestPair_90 : decode cX12_nearestPair 90 = .ok (.goto 17, 3) := by decide +kernel
theorem dX12_nearestPair_93 : decode cX12_nearestPair 93 = .ok (.bipush 40, 2) := by decide +kernel
theorem dX12_nearestPair_95 : decode cX12_nearestPair 95 = .ok (.iload 7, 2) := by decide +kernel
theorem dX12_nearestPair_97 : decode cX12_nearestPair 97 = .ok (.imul, 1) := by decide +kernel
theorem dX12_nearestPair_98 : decode cX12_nearestPair 98 = .ok (.iload 8, 2) := by decide +kernel
theorem dX12_nearestPair_100 : decode cX12_nearestPair 100 = .ok (.iadd, 1) := by decide +kernel
theorem dX12_nearestPair_101 : decode cX12_nearestPair 101 = .ok (.istore 4, 2) := by decide +kernel
theorem dX12_nearestPair_103 : decode cX12_nearestPair 103 = .ok (.lload 9, 2) := by decide +kernel
theorem dX12_nearestPair_105 : decode cX12_nearestPair 105 = .ok (.lstore 5, 2) := by decide +kernel
theorem dX12_nearestPair_107 : decode cX12_nearestPair 107 = .ok (.iinc 8 1, 3) := by decide +kernel
theorem dX12_nearestPair_110 : decode cX12_nearestPair 110 = .ok (.goto (-69), 3) := by decide +kernel
theorem dX12_nearestPair_113 : decode cX12_nearestPair 113 = .ok (.iinc 7 1, 3) := by decide +kernel
theorem dX12_nearestPair_116 : decode cX12_nearestPair 116 = .ok (.goto (-91), 3) := by decide +kernel
theorem dX12_nearestPair_119 : decode cX12_nearestPair 119 = .ok (.iload 4, 2) := by decide +kernel
theorem dX12_nearestPair_121 : decode cX12_nearestPair 121 = .ok (.ireturn, 1) := by decide +kernel
theorem dX12_count_0 : decode cX12_count 0 = .ok (.aload_n 0, 1) := by decide +kernel
theorem dX12_count_1 : decode cX12_count 1 = .ok (.iload_n 1, 1) := by decide +kernel
theorem dX12_count_2 : decode cX12_count 2 = .ok (.invokevirtual 84, 3) := by decide +kernel
theorem dX12_count_5 : decode cX12_count 5 = .ok (.ifCond .eq 18, 3) := by decide +kernel
theorem dX12_count_8 : decode cX12_count 8 = .ok (.iload_n 2, 1) := by decide +kernel
theorem dX12_count_9 : decode cX12_count 9 = .ok (.ifCond .lt 14, 3) := by decide +kernel
theorem dX12_count_12 : decode cX12_count 12 = .ok (.iload_n 3, 1) := by decide +kernel
theorem dX12_count_13 : decode cX12_count 13 = .ok (.iconst 0, 1) := by decide +kernel
theorem dX12_count_14 : decode cX12_count 14 = .ok (.sipush 200, 3) := by decide +kernel
theorem dX12_count_17 : decode cX12_count 17 = .ok (.invokestatic 69, 3) := by decide +kernel
theorem dX12_count_20 : decode cX12_count 20 = .ok (.ifCond .ne 5, 3) := by decide +kernel
theorem dX12_count_23 : decode cX12_count 23 = .ok (.iconst (-1), 1) := by decide +kernel
theorem dX12_count_24 : decode cX12_count 24 = .ok (.ireturn, 1) := by decide +kernel
theorem dX12_count_25 : decode cX12_count 25 = .ok (.iconst 0, 1) := by decide +kernel
theorem dX12_count_26 : decode cX12_count 26 = .ok (.istore 4, 2) := by decide +kernel
theorem dX12_count_28 : decode cX12_count 28 = .ok (.iconst 0, 1) := by decide +kernel
theorem dX12_count_29 : decode cX12_count 29 = .ok (.istore 5, 2) := by decide +kernel
theorem dX12_count_31 : decode cX12_count 31 = .ok (.iload 5, 2) := by decide +kernel
theorem dX12_count_33 : decode cX12_count 33 = .ok (.aload_n 0, 1) := by decide +kernel
theorem dX12_count_34 : decode cX12_count 34 = .ok (.iload_n 1, 1) := by decide +kernel
theorem dX12_count_35 : decode cX12_count 35 = .ok (.iconst 0, 1) := by decide +kernel
theorem dX12_count_36 : decode cX12_count 36 = .ok (.invokevirtual 88, 3) := by decide +kernel
theorem dX12_count_39 : decode cX12_count 39 = .ok (.if_icmp .ge 57, 3) := by decide +kernel
theorem dX12_count_42 : decode cX12_count 42 = .ok (.iload 4, 2) := by decide +kernel
theorem dX12_count_44 : decode cX12_count 44 = .ok (.aload_n 0, 1) := by decide +kernel
theorem dX12_count_45 : decode cX12_count 45 = .ok (.iload_n 1, 1) := by decide +kernel
theorem dX12_count_46 : decode cX12_count 46 = .ok (.iload 5, 2) := by decide +kernel
theorem dX12_count_48 : decode cX12_count 48 = .ok (.invokevirtual 275, 3) := by decide +kernel
theorem dX12_count_51 : decode cX12_count 51 = .ok (.ifCond .eq 35, 3) := by decide +kernel
theorem dX12_count_54 : decode cX12_count 54 = .ok (.aload_n 0, 1) := by decide +kernel
theorem dX12_count_55 : decode cX12_count 55 = .ok (.iload_n 1, 1) := by decide +kernel
theorem dX12_count_56 : decode cX12_count 56 = .ok (.iload 5, 2) := by decide +kernel
theorem dX12_count_58 : decode cX12_count 58 = .ok (.invokevirtual 158, 3) := by decide +kernel
theorem dX12_count_61 : decode cX12_count 61 = .ok (.iload_n 2, 1) := by decide +kernel
theorem dX12_count_62 : decode cX12_count 62 = .ok (.if_icmp .lt 24, 3) := by decide +kernel
theorem dX12_count_65 : decode cX12_count 65 = .ok (.aload_n 0, 1) := by decide +kernel
theorem dX12_count_66 : decode cX12_count 66 = .ok (.iload_n 1, 1) := by decide +kernel
theorem dX12_count_67 : decode cX12_count 67 = .ok (.iload 5, 2) := by decide +kernel
theorem dX12_count_69 : decode cX12_count 69 = .ok (.iconst 0, 1) := by decide +kernel
theorem dX12_count_70 : decode cX12_count 70 = .ok (.invokevirtual 91, 3) := by decide +kernel
theorem dX12_count_73 : decode cX12_count 73 = .ok (.iload_n 3, 1) := by decide +kernel
theorem dX12_count_74 : decode cX12_count 74 = .ok (.ineg, 1) := by decide +kernel
theorem dX12_count_75 : decode cX12_count 75 = .ok (.iload_n 3, 1) := by decide +kernel
theorem dX12_count_76 : decode cX12_count 76 = .ok (.invokestatic 69, 3) := by decide +kernel
theorem dX12_count_79 : decode cX12_count 79 = .ok (.ifCond .eq 7, 3) := by decide +kernel
theorem dX12_count_82 : decode cX12_count 82 = .ok (.iconst 1, 1) := by decide +kernel
theorem dX12_count_83 : decode cX12_count 83 = .ok (.goto 4, 3) := by decide +kernel
theorem dX12_count_86 : decode cX12_count 86 = .ok (.iconst 0, 1) := by decide +kernel
theorem dX12_count_87 : decode cX12_count 87 = .ok (.iadd, 1) := by decide +kernel
theorem dX12_count_88 : decode cX12_count 88 = .ok (.istore 4, 2) := by decide +kernel
theorem dX12_count_90 : decode cX12_count 90 = .ok (.iinc 5 1, 3) := by decide +kernel
theorem dX12_count_93 : decode cX12_count 93 = .ok (.goto (-62), 3) := by decide +kernel
theorem dX12_count_96 : decode cX12_count 96 = .ok (.iload 4, 2) := by decide +kernel
theorem dX12_count_98 : decode cX12_count 98 = .ok (.ireturn, 1) := by decide +kernel
theorem dX12_findTwo_0 : decode cX12_findTwo 0 = .ok (.aload_n 0, 1) := by decide +kernel
theorem dX12_findTwo_1 : decode cX12_findTwo 1 = .ok (.iconst (-1), 1) := by decide +kernel
theorem dX12_findTwo_2 : decode cX12_findTwo 2 = .ok (.putfield 367, 3) := by decide +kernel
theorem dX12_findTwo_5 : decode cX12_findTwo 5 = .ok (.iconst 0, 1) := by decide +kernel
theorem dX12_findTwo_6 : decode cX12_findTwo 6 = .ok (.istore_n 1, 1) := by decide +kernel
theorem dX12_findTwo_7 : decode cX12_findTwo 7 = .ok (.iload_n 1, 1) := by decide +kernel
theorem dX12_findTwo_8 : decode cX12_findTwo 8 = .ok (.aload_n 0, 1) := by decide +kernel
theorem dX12_findTwo_9 : decode cX12_findTwo 9 = .ok (.invokevirtual 77, 3) := by decide +kernel
theorem dX12_findTwo_12 : decode cX12_findTwo 12 = .ok (.if_icmp .ge 145, 3) := by decide +kernel
theorem dX12_findTwo_15 : decode cX12_findTwo 15 = .ok (.iconst 0, 1) := by decide +kernel
theorem dX12_findTwo_16 : decode cX12_findTwo 16 = .ok (.istore_n 2, 1) := by decide +kernel
theorem dX12_findTwo_17 : decode cX12_findTwo 17 = .ok (.iload_n 2, 1) := by decide +kernel
theorem dX12_findTwo_18 : decode cX12_findTwo 18 = .ok (.aload_n 0, 1) := by decide +kernel
theorem dX12_findTwo_19 : decode cX12_findTwo 19 = .ok (.invokevirtual 77, 3) := by decide +kernel
theorem dX12_findTwo_22 : decode cX12_findTwo 22 = .ok (.if_icmp .ge 129, 3) := by decide +kernel
theorem dX12_findTwo_25 : decode cX12_findTwo 25 = .ok (.iload_n 1, 1) := by decide +kernel
theorem dX12_findTwo_26 : decode cX12_findTwo 26 = .ok (.iload_n 2, 1) := by decide +kernel
theorem dX12_findTwo_27 : decode cX12_findTwo 27 = .ok (.if_icmp .eq 118, 3) := by decide +kernel
theorem dX12_findTwo_30 : decode cX12_findTwo 30 = .ok (.aload_n 0, 1) := by decide +kernel
theorem dX12_findTwo_31 : decode cX12_findTwo 31 = .ok (.getfield 51, 3) := by decide +kernel
theorem dX12_findTwo_34 : decode cX12_findTwo 34 = .ok (.iload_n 1, 1) := by decide +kernel
theorem dX12_findTwo_35 : decode cX12_findTwo 35 = .ok (.iaload, 1) := by decide +kernel
theorem dX12_findTwo_36 : decode cX12_findTwo 36 = .ok (.aload_n 0, 1) := by decide +kernel
theorem dX12_findTwo_37 : decode cX12_findTwo 37 = .ok (.getfield 51, 3) := by decide +kernel
theorem dX12_findTwo_40 : decode cX12_findTwo 40 = .ok (.iload_n 2, 1) := by decide +kernel
theorem dX12_findTwo_41 : decode cX12_findTwo 41 = .ok (.iaload, 1) := by decide +kernel
theorem dX12_findTwo_42 : decode cX12_findTwo 42 = .ok (.if_icmp .eq 103, 3) := by decide +kernel
theorem dX12_findTwo_45 : decode cX12_findTwo 45 = .ok (.aload_n 0, 1) := by decide +kernel
theorem dX12_findTwo_46 : decode cX12_findTwo 46 = .ok (.iload_n 1, 1) := by decide +kernel
theorem dX12_findTwo_47 : decode cX12_findTwo 47 = .ok (.iload_n 2, 1) := by decide +kernel
theorem dX12_findTwo_48 : decode cX12_findTwo 48 = .ok (.invokevirtual 120, 3) := by decide +kernel
theorem dX12_findTwo_51 : decode cX12_findTwo 51 = .ok (.ifCond .ne 6, 3) := by decide +kernel
theorem dX12_findTwo_54 : decode cX12_findTwo 54 = .ok (.goto 91, 3) := by decide +kernel
theorem dX12_findTwo_57 : decode cX12_findTwo 57 = .ok (.aload_n 0, 1) := by decide +kernel
theorem dX12_findTwo_58 : decode cX12_findTwo 58 = .ok (.getfield 367, 3) := by decide +kernel
theorem dX12_findTwo_61 : decode cX12_findTwo 61 = .ok (.iconst (-1), 1) := by decide +kernel
theorem dX12_findTwo_62 : decode cX12_findTwo 62 = .ok (.if_icmp .ne 7, 3) := by decide +kernel
theorem dX12_findTwo_65 : decode cX12_findTwo 65 = .ok (.iconst (-1), 1) := by decide +kernel
theorem dX12_findTwo_66 : decode cX12_findTwo 66 = .ok (.goto 22, 3) := by decide +kernel
theorem dX12_findTwo_69 : decode cX12_findTwo 69 = .ok (.aload_n 0, 1) := by decide +kernel
theorem dX12_findTwo_70 : decode cX12_findTwo 70 = .ok (.iload_n 1, 1) := by decide +kernel
theorem dX12_findTwo_71 : decode cX12_findTwo 71 = .ok (.iload_n 2, 1) := by decide +kernel
theorem dX12_findTwo_72 : decode cX12_findTwo 72 = .ok (.invokevirtual 227, 3) := by decide +kernel
theorem dX12_findTwo_75 : decode cX12_findTwo 75 = .ok (.aload_n 0, 1) := by decide +kernel
theorem dX12_findTwo_76 : decode cX12_findTwo 76 = .ok (.aload_n 0, 1) := by decide +kernel
theorem dX12_findTwo_77 : decode cX12_findTwo 77 = .ok (.getfield 367, 3) := by decide +kernel
theorem dX12_findTwo_80 : decode cX12_findTwo 80 = .ok (.aload_n 0, 1) := by decide +kernel
theorem dX12_findTwo_81 : decode cX12_findTwo 81 = .ok (.getfield 370, 3) := by decide +kernel
theorem dX12_findTwo_84 : decode cX12_findTwo 84 = .ok (.invokevirtual 227, 3) := by decide +kernel
theorem dX12_findTwo_87 : decode cX12_findTwo 87 = .ok (.isub, 1) := by decide +kernel
theorem dX12_findTwo_88 : decode cX12_findTwo 88 = .ok (.istore_n 3, 1) := by decide +kernel
theorem dX12_findTwo_89 : decode cX12_findTwo 89 = .ok (.iload_n 3, 1) := by decide +kernel
theorem dX12_findTwo_90 : decode cX12_findTwo 90 = .ok (.ifCond .gt 55, 3) := by decide +kernel
theorem dX12_findTwo_93 : decode cX12_findTwo 93 = .ok (.iload_n 3, 1) := by decide +kernel
theorem dX12_findTwo_94 : decode cX12_findTwo 94 = .ok (.ifCond .ne 41, 3) := by decide +kernel
theorem dX12_findTwo_97 : decode cX12_findTwo 97 = .ok (.iload_n 1, 1) := by decide +kernel
theorem dX12_findTwo_98 : decode cX12_findTwo 98 = .ok (.aload_n 0, 1) := by decide +kernel
theorem dX12_findTwo_99 : decode cX12_findTwo 99 = .ok (.getfield 367, 3) := by decide +kernel
theorem dX12_findTwo_102 : decode cX12_findTwo 102 = .ok (.if_icmp .eq 18, 3) := by decide +kernel
theorem dX12_findTwo_105 : decode cX12_findTwo 105 = .ok (.aload_n 0, 1) := by decide +kernel
theorem dX12_findTwo_106 : decode cX12_findTwo 106 = .ok (.iload_n 1, 1) := by decide +kernel
theorem dX12_findTwo_107 : decode cX12_findTwo 107 = .ok (.aload_n 0, 1) := by decide +kernel
theorem dX12_findTwo_108 : decode cX12_findTwo 108 = .ok (.getfield 367, 3) := by decide +kernel
theorem dX12_findTwo_111 : decode cX12_findTwo 111 = .ok (.invokevirtual 120, 3) := by decide +kernel
theorem dX12_findTwo_114 : decode cX12_findTwo 114 = .ok (.ifCond .eq 31, 3) := by decide +kernel
theorem dX12_findTwo_117 : decode cX12_findTwo 117 = .ok (.goto 18, 3) := by decide +kernel
theorem dX12_findTwo_120 : decode cX12_findTwo 120 = .ok (.aload_n 0, 1) := by decide +kernel
theorem dX12_findTwo_121 : decode cX12_findTwo 121 = .ok (.iload_n 2, 1) := by decide +kernel
theorem dX12_findTwo_122 : decode cX12_findTwo 122 = .ok (.aload_n 0, 1) := by decide +kernel
theorem dX12_findTwo_123 : decode cX12_findTwo 123 = .ok (.getfield 370, 3) := by decide +kernel
theorem dX12_findTwo_126 : decode cX12_findTwo 126 = .ok (.invokevirtual 120, 3) := by decide +kernel
theorem dX12_findTwo_129 : decode cX12_findTwo 129 = .ok (.ifCond .ne 6, 3) := by decide +kernel
theorem dX12_findTwo_132 : decode cX12_findTwo 132 = .ok (.goto 13, 3) := by decide +kernel
theorem dX12_findTwo_135 : decode cX12_findTwo 135 = .ok (.aload_n 0, 1) := by decide +kernel
theorem dX12_findTwo_136 : decode cX12_findTwo 136 = .ok (.iload_n 1, 1) := by decide +kernel
theorem dX12_findTwo_137 : decode cX12_findTwo 137 = .ok (.putfield 367, 3) := by decide +kernel
theorem dX12_findTwo_140 : decode cX12_findTwo 140 = .ok (.aload_n 0, 1) := by decide +kernel
theorem dX12_findTwo_141 : decode cX12_findTwo 141 = .ok (.iload_n 2, 1) := by decide +kernel
theorem dX12_findTwo_142 : decode cX12_findTwo 142 = .ok (.putfield 370, 3) := by decide +kernel
theorem dX12_findTwo_145 : decode cX12_findTwo 145 = .ok (.iinc 2 1, 3) := by decide +kernel
theorem dX12_findTwo_148 : decode cX12_findTwo 148 = .ok (.goto (-131), 3) := by decide +kernel
theorem dX12_findTwo_151 : decode cX12_findTwo 151 = .ok (.iinc 1 1, 3) := by decide +kernel
theorem dX12_findTwo_154 : decode cX12_findTwo 154 = .ok (.goto (-147), 3) := by decide +kernel
theorem dX12_findTwo_157 : decode cX12_findTwo 157 = .ok (.aload_n 0, 1) := by decide +kernel
theorem dX12_findTwo_158 : decode cX12_findTwo 158 = .ok (.getfield 367, 3) := by decide +kernel
theorem dX12_findTwo_161 : decode cX12_findTwo 161 = .ok (.iconst (-1), 1) := by decide +kernel
theorem dX12_findTwo_162 : decode cX12_findTwo 162 = .ok (.if_icmp .eq 7, 3) := by decide +kernel
theorem dX12_findTwo_165 : decode cX12_findTwo 165 = .ok (.iconst 1, 1) := by decide +kernel
theorem dX12_findTwo_166 : decode cX12_findTwo 166 = .ok (.goto 4, 3) := by decide +kernel
theorem dX12_findTwo_169 : decode cX12_findTwo 169 = .ok (.iconst 0, 1) := by decide +kernel
theorem dX12_findTwo_170 : decode cX12_findTwo 170 = .ok (.ireturn, 1) := by decide +kernel
theorem dX12_span_0 : decode cX12_span 0 = .ok (.iload_n 1, 1) := by decide +kernel
theorem dX12_span_1 : decode cX12_span 1 = .ok (.iconst (-1), 1) := by decide +kernel
theorem dX12_span_2 : decode cX12_span 2 = .ok (.if_icmp .lt 21, 3) := by decide +kernel
theorem dX12_span_5 : decode cX12_span 5 = .ok (.iload_n 2, 1) := by decide +kernel
theorem dX12_span_6 : decode cX12_span 6 = .ok (.iconst 0, 1) := by decide +kernel
theorem dX12_span_7 : decode cX12_span 7 = .ok (.iload_n 1, 1) := by decide +kernel
theorem dX12_span_8 : decode cX12_span 8 = .ok (.iconst (-1), 1) := by decide +kernel
theorem dX12_span_9 : decode cX12_span 9 = .ok (.if_icmp .ne 7, 3) := by decide +kernel
theorem dX12_span_12 : decode cX12_span 12 = .ok (.iconst 0, 1) := by decide +kernel
theorem dX12_span_13 : decode cX12_span 13 = .ok (.goto 4, 3) := by decide +kernel
theorem dX12_span_16 : decode cX12_span 16 = .ok (.iconst 2, 1) := by decide +kernel
theorem dX12_span_17 : decode cX12_span 17 = .ok (.invokestatic 69, 3) := by decide +kernel
theorem dX12_span_20 : decode cX12_span 20 = .ok (.ifCond .ne 5, 3) := by decide +kernel
theorem dX12_span_23 : decode cX12_span 23 = .ok (.iconst (-1), 1) := by decide +kernel
theorem dX12_span_24 : decode cX12_span 24 = .ok (.ireturn, 1) := by decide +kernel
theorem dX12_span_25 : decode cX12_span 25 = .ok (.aload_n 0, 1) := by decide +kernel
theorem dX12_span_26 : decode cX12_span 26 = .ok (.invokevirtual 190, 3) := by decide +kernel
theorem dX12_span_29 : decode cX12_span 29 = .ok (.iconst 0, 1) := by decide +kernel
theorem dX12_span_30 : decode cX12_span 30 = .ok (.istore_n 3, 1) := by decide +kernel
theorem dX12_span_31 : decode cX12_span 31 = .ok (.iload_n 3, 1) := by decide +kernel
theorem dX12_span_32 : decode cX12_span 32 = .ok (.aload_n 0, 1) := by decide +kernel
theorem dX12_span_33 : decode cX12_span 33 = .ok (.invokevirtual 77, 3) := by decide +kernel
theorem dX12_span_36 : decode cX12_span 36 = .ok (.if_icmp .ge 16, 3) := by decide +kernel
theorem dX12_span_39 : decode cX12_span 39 = .ok (.aload_n 0, 1) := by decide +kernel
theorem dX12_span_40 : decode cX12_span 40 = .ok (.getfield 51, 3) := by decide +kernel
theorem dX12_span_43 : decode cX12_span 43 = .ok (.iload_n 3, 1) := by decide +kernel
theorem dX12_span_44 : decode cX12_span 44 = .ok (.iload_n 3, 1) := by decide +kernel
theorem dX12_span_45 : decode cX12_span 45 = .ok (.iastore, 1) := by decide +kernel
theorem dX12_span_46 : decode cX12_span 46 = .ok (.iinc 3 1, 3) := by decide +kernel
theorem dX12_span_49 : decode cX12_span 49 = .ok (.goto (-18), 3) := by decide +kernel
theorem dX12_span_52 : decode cX12_span 52 = .ok (.iconst 0, 1) := by decide +kernel
theorem dX12_span_53 : decode cX12_span 53 = .ok (.istore_n 3, 1) := by decide +kernel
theorem dX12_span_54 : decode cX12_span 54 = .ok (.aload_n 0, 1) := by decide +kernel
theorem dX12_span_55 : decode cX12_span 55 = .ok (.invokevirtual 373, 3) := by decide +kernel
theorem dX12_span_58 : decode cX12_span 58 = .ok (.ifCond .eq 107, 3) := by decide +kernel
theorem dX12_span_61 : decode cX12_span 61 = .ok (.iload_n 3, 1) := by decide +kernel
theorem dX12_span_62 : decode cX12_span 62 = .ok (.iload_n 1, 1) := by decide +kernel
theorem dX12_span_63 : decode cX12_span 63 = .ok (.if_icmp .ne 39, 3) := by decide +kernel
theorem dX12_span_66 : decode cX12_span 66 = .ok (.iload_n 2, 1) := by decide +kernel
theorem dX12_span_67 : decode cX12_span 67 = .ok (.ifCond .ne 10, 3) := by decide +kernel
theorem dX12_span_70 : decode cX12_span 70 = .ok (.aload_n 0, 1) := by decide +kernel
theorem dX12_span_71 : decode cX12_span 71 = .ok (.getfield 367, 3) := by decide +kernel
theorem dX12_span_74 : decode cX12_span 74 = .ok (.goto 27, 3) := by decide +kernel
theorem dX12_span_77 : decode cX12_span 77 = .ok (.iload_n 2, 1) := by decide +kernel
theorem dX12_span_78 : decode cX12_span 78 = .ok (.iconst 1, 1) := by decide +kernel
theorem dX12_span_79 : decode cX12_span 79 = .ok (.if_icmp .ne 10, 3) := by decide +kernel
theorem dX12_span_82 : decode cX12_span 82 = .ok (.aload_n 0, 1) := by decide +kernel
theorem dX12_span_83 : decode cX12_span 83 = .ok (.getfield 370, 3) := by decide +kernel
theorem dX12_span_86 : decode cX12_span 86 = .ok (.goto 15, 3) := by decide +kernel
theorem dX12_span_89 : decode cX12_span 89 = .ok (.aload_n 0, 1) := by decide +kernel
theorem dX12_span_90 : decode cX12_span 90 = .ok (.aload_n 0, 1) := by decide +kernel
theorem dX12_span_91 : decode cX12_span 91 = .ok (.getfield 367, 3) := by decide +kernel
theorem dX12_span_94 : decode cX12_span 94 = .ok (.aload_n 0, 1) := by decide +kernel
theorem dX12_span_95 : decode cX12_span 95 = .ok (.getfield 370, 3) := by decide +kernel
theorem dX12_span_98 : decode cX12_span 98 = .ok (.invokevirtual 227, 3) := by decide +kernel
theorem dX12_span_101 : decode cX12_span 101 = .ok (.ireturn, 1) := by decide +kernel
theorem dX12_span_102 : decode cX12_span 102 = .ok (.aload_n 0, 1) := by decide +kernel
theorem dX12_span_103 : decode cX12_span 103 = .ok (.getfield 51, 3) := by decide +kernel
theorem dX12_span_106 : decode cX12_span 106 = .ok (.aload_n 0, 1) := by decide +kernel
theorem dX12_span_107 : decode cX12_span 107 = .ok (.getfield 370, 3) := by decide +kernel
theorem dX12_span_110 : decode cX12_span 110 = .ok (.iaload, 1) := by decide +kernel
theorem dX12_span_111 : decode cX12_span 111 = .ok (.istore 4, 2) := by decide +kernel
theorem dX12_span_113 : decode cX12_span 113 = .ok (.iconst 0, 1) := by decide +kernel
theorem dX12_span_114 : decode cX12_span 114 = .ok (.istore 5, 2) := by decide +kernel
theorem dX12_span_116 : decode cX12_span 116 = .ok (.iload 5, 2) := by decide +kernel
theorem dX12_span_118 : decode cX12_span 118 = .ok (.aload_n 0, 1) := by decide +kernel
theorem dX12_span_119 : decode cX12_span 119 = .ok (.invokevirtual 77, 3) := by decide +kernel
theorem dX12_span_122 : decode cX12_span 122 = .ok (.if_icmp .ge 37, 3) := by decide +kernel
theorem dX12_span_125 : decode cX12_span 125 = .ok (.aload_n 0, 1) := by decide +kernel
theorem dX12_span_126 : decode cX12_span 126 = .ok (.getfield 51, 3) := by decide +kernel
theorem dX12_span_129 : decode cX12_span 129 = .ok (.iload 5, 2) := by decide +kernel
theorem dX12_span_131 : decode cX12_span 131 = .ok (.iaload, 1) := by decide +kernel
theorem dX12_span_132 : decode cX12_span 132 = .ok (.iload 4, 2) := by decide +kernel
theorem dX12_span_134 : decode cX12_span 134 = .ok (.if_icmp .ne 19, 3) := by decide +kernel
theorem dX12_span_137 : decode cX12_span 137 = .ok (.aload_n 0, 1) := by decide +kernel
theorem dX12_span_138 : decode cX12_span 138 = .ok (.getfield 51, 3) := by decide +kernel
theorem dX12_span_141 : decode cX12_span 141 = .ok (.iload 5, 2) := by decide +kernel
theorem dX12_span_143 : decode cX12_span 143 = .ok (.aload_n 0, 1) := by decide +kernel
theorem dX12_span_144 : decode cX12_span 144 = .ok (.getfield 51, 3) := by decide +kernel
theorem dX12_span_147 : decode cX12_span 147 = .ok (.aload_n 0, 1) := by decide +kernel
theorem dX12_span_148 : decode cX12_span 148 = .ok (.getfield 367, 3) := by decide +kernel
theorem dX12_span_151 : decode cX12_span 151 = .ok (.iaload, 1) := by decide +kernel
theorem dX12_span_152 : decode cX12_span 152 = .ok (.iastore, 1) := by decide +kernel
theorem dX12_span_153 : decode cX12_span 153 = .ok (.iinc 5 1, 3) := by decide +kernel
theorem dX12_span_156 : decode cX12_span 156 = .ok (.goto (-40), 3) := by decide +kernel
theorem dX12_span_159 : decode cX12_span 159 = .ok (.iinc 3 1, 3) := by decide +kernel
theorem dX12_span_162 : decode cX12_span 162 = .ok (.goto (-108), 3) := by decide +kernel
theorem dX12_span_165 : decode cX12_span 165 = .ok (.iload_n 1, 1) := by decide +kernel
theorem dX12_span_166 : decode cX12_span 166 = .ok (.iconst (-1), 1) := by decide +kernel
theorem dX12_span_167 : decode cX12_span 167 = .ok (.if_icmp .ne 7, 3) := by decide +kernel
theorem dX12_span_170 : decode cX12_span 170 = .ok (.iload_n 3, 1) := by decide +kernel
theorem dX12_span_171 : decode cX12_span 171 = .ok (.goto 4, 3) := by decide +kernel
theorem dX12_span_174 : decode cX12_span 174 = .ok (.iconst (-1), 1) := by decide +kernel
theorem dX12_span_175 : decode cX12_span 175 = .ok (.ireturn, 1) := by decide +kernel
theorem dX12_isRoundOf_0 : decode cX12_isRoundOf 0 = .ok (.iconst 0, 1) := by decide +kernel
theorem dX12_isRoundOf_1 : decode cX12_isRoundOf 1 = .ok (.istore_n 2, 1) := by decide +kernel
theorem dX12_isRoundOf_2 : decode cX12_isRoundOf 2 = .ok (.iload_n 2, 1) := by decide +kernel
theorem dX12_isRoundOf_3 : decode cX12_isRoundOf 3 = .ok (.aload_n 0, 1) := by decide +kernel
theorem dX12_isRoundOf_4 : decode cX12_isRoundOf 4 = .ok (.invokevirtual 77, 3) := by decide +kernel
theorem dX12_isRoundOf_7 : decode cX12_isRoundOf 7 = .ok (.if_icmp .ge 21, 3) := by decide +kernel
theorem dX12_isRoundOf_10 : decode cX12_isRoundOf 10 = .ok (.aload_n 0, 1) := by decide +kernel
theorem dX12_isRoundOf_11 : decode cX12_isRoundOf 11 = .ok (.iload_n 2, 1) := by decide +kernel
theorem dX12_isRoundOf_12 : decode cX12_isRoundOf 12 = .ok (.iconst 1, 1) := by decide +kernel
theorem dX12_isRoundOf_13 : decode cX12_isRoundOf 13 = .ok (.invokevirtual 151, 3) := by decide +kernel
theorem dX12_isRoundOf_16 : decode cX12_isRoundOf 16 = .ok (.iload_n 1, 1) := by decide +kernel
theorem dX12_isRoundOf_17 : decode cX12_isRoundOf 17 = .ok (.if_icmp .ne 5, 3) := by decide +kernel
theorem dX12_isRoundOf_20 : decode cX12_isRoundOf 20 = .ok (.iconst 1, 1) := by decide +kernel
theorem dX12_isRoundOf_21 : decode cX12_isRoundOf 21 = .ok (.ireturn, 1) := by decide +kernel
theorem dX12_isRoundOf_22 : decode cX12_isRoundOf 22 = .ok (.iinc 2 1, 3) := by decide +kernel
theorem dX12_isRoundOf_25 : decode cX12_isRoundOf 25 = .ok (.goto (-23), 3) := by decide +kernel
theorem dX12_isRoundOf_28 : decode cX12_isRoundOf 28 = .ok (.iconst 0, 1) := by decide +kernel
theorem dX12_isRoundOf_29 : decode cX12_isRoundOf 29 = .ok (.ireturn, 1) := by decide +kernel
theorem dX12_gap_0 : decode cX12_gap 0 = .ok (.aload_n 0, 1) := by decide +kernel
theorem dX12_gap_1 : decode cX12_gap 1 = .ok (.invokevirtual 77, 3) := by decide +kernel
theorem dX12_gap_4 : decode cX12_gap 4 = .ok (.ifCond .eq 12, 3) := by decide +kernel
theorem dX12_gap_7 : decode cX12_gap 7 = .ok (.iload_n 1, 1) := by decide +kernel
theorem dX12_gap_8 : decode cX12_gap 8 = .ok (.iconst 0, 1) := by decide +kernel
theorem dX12_gap_9 : decode cX12_gap 9 = .ok (.iconst 1, 1) := by decide +kernel
theorem dX12_gap_10 : decode cX12_gap 10 = .ok (.invokestatic 69, 3) := by decide +kernel
theorem dX12_gap_13 : decode cX12_gap 13 = .ok (.ifCond .ne 5, 3) := by decide +kernel
theorem dX12_gap_16 : decode cX12_gap 16 = .ok (.iconst (-1), 1) := by decide +kernel
theorem dX12_gap_17 : decode cX12_gap 17 = .ok (.ireturn, 1) := by decide +kernel
theorem dX12_gap_18 : decode cX12_gap 18 = .ok (.iconst (-1), 1) := by decide +kernel
theorem dX12_gap_19 : decode cX12_gap 19 = .ok (.istore_n 2, 1) := by decide +kernel
theorem dX12_gap_20 : decode cX12_gap 20 = .ok (.iconst 0, 1) := by decide +kernel
theorem dX12_gap_21 : decode cX12_gap 21 = .ok (.istore_n 3, 1) := by decide +kernel
theorem dX12_gap_22 : decode cX12_gap 22 = .ok (.iconst 0, 1) := by decide +kernel
theorem dX12_gap_23 : decode cX12_gap 23 = .ok (.istore 4, 2) := by decide +kernel
theorem dX12_gap_25 : decode cX12_gap 25 = .ok (.iload 4, 2) := by decide +kernel
theorem dX12_gap_27 : decode cX12_gap 27 = .ok (.sipush 360, 3) := by decide +kernel
theorem dX12_gap_30 : decode cX12_gap 30 = .ok (.if_icmp .ge 61, 3) := by decide +kernel
theorem dX12_gap_33 : decode cX12_gap 33 = .ok (.aload_n 0, 1) := by decide +kernel
theorem dX12_gap_34 : decode cX12_gap 34 = .ok (.iload 4, 2) := by decide +kernel
theorem dX12_gap_36 : decode cX12_gap 36 = .ok (.invokevirtual 377, 3) := by decide +kernel
theorem dX12_gap_39 : decode cX12_gap 39 = .ok (.ifCond .ne 6, 3) := by decide +kernel
theorem dX12_gap_42 : decode cX12_gap 42 = .ok (.goto 43, 3) := by decide +kernel
theorem dX12_gap_45 : decode cX12_gap 45 = .ok (.iconst 1, 1) := by decide +kernel
theorem dX12_gap_46 : decode cX12_gap 46 = .ok (.istore 5, 2) := by decide +kernel
theorem dX12_gap_48 : decode cX12_gap 48 = .ok (.aload_n 0, 1) := by decide +kernel
theorem dX12_gap_49 : decode cX12_gap 49 = .ok (.iload 4, 2) := by decide +kernel
theorem dX12_gap_51 : decode cX12_gap 51 = .ok (.iload 5, 2) := by decide +kernel
theorem dX12_gap_53 : decode cX12_gap 53 = .ok (.iadd, 1) := by decide +kernel
theorem dX12_gap_54 : decode cX12_gap 54 = .ok (.sipush 360, 3) := by decide +kernel
theorem dX12_gap_57 : decode cX12_gap 57 = .ok (.irem, 1) := by decide +kernel
theorem dX12_gap_58 : decode cX12_gap 58 = .ok (.invokevirtual 377, 3) := by decide +kernel
theorem dX12_gap_61 : decode cX12_gap 61 = .ok (.ifCond .ne 9, 3) := by decide +kernel
theorem dX12_gap_64 : decode cX12_gap 64 = .ok (.iinc 5 1, 3) := by decide +kernel
theorem dX12_gap_67 : decode cX12_gap 67 = .ok (.goto (-19), 3) := by decide +kernel
theorem dX12_gap_70 : decode cX12_gap 70 = .ok (.iload 5, 2) := by decide +kernel
theorem dX12_gap_72 : decode cX12_gap 72 = .ok (.iload_n 3, 1) := by decide +kernel
theorem dX12_gap_73 : decode cX12_gap 73 = .ok (.if_icmp .gt 6, 3) := by decide +kernel
theorem dX12_gap_76 : decode cX12_gap 76 = .ok (.goto 9, 3) := by decide +kernel
theorem dX12_gap_79 : decode cX12_gap 79 = .ok (.iload 4, 2) := by decide +kernel
theorem dX12_gap_81 : decode cX12_gap 81 = .ok (.istore_n 2, 1) := by decide +kernel
theorem dX12_gap_82 : decode cX12_gap 82 = .ok (.iload 5, 2) := by decide +kernel
theorem dX12_gap_84 : decode cX12_gap 84 = .ok (.istore_n 3, 1) := by decide +kernel
theorem dX12_gap_85 : decode cX12_gap 85 = .ok (.iinc 4 1, 3) := by decide +kernel
theorem dX12_gap_88 : decode cX12_gap 88 = .ok (.goto (-63), 3) := by decide +kernel
theorem dX12_gap_91 : decode cX12_gap 91 = .ok (.iload_n 1, 1) := by decide +kernel
theorem dX12_gap_92 : decode cX12_gap 92 = .ok (.ifCond .ne 7, 3) := by decide +kernel
theorem dX12_gap_95 : decode cX12_gap 95 = .ok (.iload_n 3, 1) := by decide +kernel
theorem dX12_gap_96 : decode cX12_gap 96 = .ok (.goto 4, 3) := by decide +kernel
theorem dX12_gap_99 : decode cX12_gap 99 = .ok (.iload_n 2, 1) := by decide +kernel
theorem dX12_gap_100 : decode cX12_gap 100 = .ok (.ireturn, 1) := by decide +kernel
theorem dX12_tileOf_0 : decode cX12_tileOf 0 = .ok (.sipush 1000, 3) := by decide +kernel
theorem dX12_tileOf_3 : decode cX12_tileOf 3 = .ok (.iload_n 1, 1) := by decide +kernel
theorem dX12_tileOf_4 : decode cX12_tileOf 4 = .ok (.iload_n 3, 1) := by decide +kernel
theorem dX12_tileOf_5 : decode cX12_tileOf 5 = .ok (.invokestatic 137, 3) := by decide +kernel
theorem dX12_tileOf_8 : decode cX12_tileOf 8 = .ok (.imul, 1) := by decide +kernel
theorem dX12_tileOf_9 : decode cX12_tileOf 9 = .ok (.iload_n 2, 1) := by decide +kernel
theorem dX12_tileOf_10 : decode cX12_tileOf 10 = .ok (.iload_n 3, 1) := by decide +kernel
theorem dX12_tileOf_11 : decode cX12_tileOf 11 = .ok (.idiv, 1) := by decide +kernel
theorem dX12_tileOf_12 : decode cX12_tileOf 12 = .ok (.iadd, 1) := by decide +kernel
theorem dX12_tileOf_13 : decode cX12_tileOf 13 = .ok (.ireturn, 1) := by decide +kernel
theorem dX12_tracksIn_0 : decode cX12_tracksIn 0 = .ok (.iconst 0, 1) := by decide +kernel
theorem dX12_tracksIn_1 : decode cX12_tracksIn 1 = .ok (.istore_n 3, 1) := by decide +kernel
theorem dX12_tracksIn_2 : decode cX12_tracksIn 2 = .ok (.iconst 0, 1) := by decide +kernel
theorem dX12_tracksIn_3 : decode cX12_tracksIn 3 = .ok (.istore 4, 2) := by decide +kernel
theorem dX12_tracksIn_5 : decode cX12_tracksIn 5 = .ok (.iload 4, 2) := by decide +kernel
theorem dX12_tracksIn_7 : decode cX12_tracksIn 7 = .ok (.aload_n 0, 1) := by decide +kernel
theorem dX12_tracksIn_8 : decode cX12_tracksIn 8 = .ok (.invokevirtual 77, 3) := by decide +kernel
theorem dX12_tracksIn_11 : decode cX12_tracksIn 11 = .ok (.if_icmp .ge 40, 3) := by decide +kernel
theorem dX12_tracksIn_14 : decode cX12_tracksIn 14 = .ok (.iload_n 3, 1) := by decide +kernel
theorem dX12_tracksIn_15 : decode cX12_tracksIn 15 = .ok (.aload_n 0, 1) := by decide +kernel
theorem dX12_tracksIn_16 : decode cX12_tracksIn 16 = .ok (.aload_n 0, 1) := by decide +kernel
theorem dX12_tracksIn_17 : decode cX12_tracksIn 17 = .ok (.iload 4, 2) := by decide +kernel
theorem dX12_tracksIn_19 : decode cX12_tracksIn 19 = .ok (.iconst 0, 1) := by decide +kernel
theorem dX12_tracksIn_20 : decode cX12_tracksIn 20 = .ok (.invokevirtual 151, 3) := by decide +kernel
theorem dX12_tracksIn_23 : decode cX12_tracksIn 23 = .ok (.aload_n 0, 1) := by decide +kernel
theorem dX12_tracksIn_24 : decode cX12_tracksIn 24 = .ok (.iload 4, 2) := by decide +kernel
theorem dX12_tracksIn_26 : decode cX12_tracksIn 26 = .ok (.iconst 1, 1) := by decide +kernel
theorem dX12_tracksIn_27 : decode cX12_tracksIn 27 = .ok (.invokevirtual 151, 3) := by decide +kernel
theorem dX12_tracksIn_30 : decode cX12_tracksIn 30 = .ok (.iload_n 2, 1) := by decide +kernel
theorem dX12_tracksIn_31 : decode cX12_tracksIn 31 = .ok (.invokevirtual 380, 3) := by decide +kernel
theorem dX12_tracksIn_34 : decode cX12_tracksIn 34 = .ok (.iload_n 1, 1) := by decide +kernel
theorem dX12_tracksIn_35 : decode cX12_tracksIn 35 = .ok (.if_icmp .ne 7, 3) := by decide +kernel
theorem dX12_tracksIn_38 : decode cX12_tracksIn 38 = .ok (.iconst 1, 1) := by decide +kernel
theorem dX12_tracksIn_39 : decode cX12_tracksIn 39 = .ok (.goto 4, 3) := by decide +kernel
theorem dX12_tracksIn_42 : decode cX12_tracksIn 42 = .ok (.iconst 0, 1) := by decide +kernel
theorem dX12_tracksIn_43 : decode cX12_tracksIn 43 = .ok (.iadd, 1) := by decide +kernel
theorem dX12_tracksIn_44 : decode cX12_tracksIn 44 = .ok (.istore_n 3, 1) := by decide +kernel
theorem dX12_tracksIn_45 : decode cX12_tracksIn 45 = .ok (.iinc 4 1, 3) := by decide +kernel
theorem dX12_tracksIn_48 : decode cX12_tracksIn 48 = .ok (.goto (-43), 3) := by decide +kernel
theorem dX12_tracksIn_51 : decode cX12_tracksIn 51 = .ok (.iload_n 3, 1) := by decide +kernel
theorem dX12_tracksIn_52 : decode cX12_tracksIn 52 = .ok (.ireturn, 1) := by decide +kernel
theorem dX12_isFirstIn_0 : decode cX12_isFirstIn 0 = .ok (.iconst 0, 1) := by decide +kernel
theorem dX12_isFirstIn_1 : decode cX12_isFirstIn 1 = .ok (.istore_n 3, 1) := by decide +kernel
theorem dX12_isFirstIn_2 : decode cX12_isFirstIn 2 = .ok (.iload_n 3, 1) := by decide +kernel
theorem dX12_isFirstIn_3 : decode cX12_isFirstIn 3 = .ok (.iload_n 1, 1) := by decide +kernel
theorem dX12_isFirstIn_4 : decode cX12_isFirstIn 4 = .ok (.if_icmp .ge 48, 3) := by decide +kernel
theorem dX12_isFirstIn_7 : decode cX12_isFirstIn 7 = .ok (.aload_n 0, 1) := by decide +kernel
theorem dX12_isFirstIn_8 : decode cX12_isFirstIn 8 = .ok (.aload_n 0, 1) := by decide +kernel
theorem dX12_isFirstIn_9 : decode cX12_isFirstIn 9 = .ok (.iload_n 3, 1) := by decide +kernel
theorem dX12_isFirstIn_10 : decode cX12_isFirstIn 10 = .ok (.iconst 0, 1) := by decide +kernel
theorem dX12_isFirstIn_11 : decode cX12_isFirstIn 11 = .ok (.invokevirtual 151, 3) := by decide +kernel
theorem dX12_isFirstIn_14 : decode cX12_isFirstIn 14 = .ok (.aload_n 0, 1) := by decide +kernel
theorem dX12_isFirstIn_15 : decode cX12_isFirstIn 15 = .ok (.iload_n 3, 1) := by decide +kernel
theorem dX12_isFirstIn_16 : decode cX12_isFirstIn 16 = .ok (.iconst 1, 1) := by decide +kernel
theorem dX12_isFirstIn_17 : decode cX12_isFirstIn 17 = .ok (.invokevirtual 151, 3) := by decide +kernel
theorem dX12_isFirstIn_20 : decode cX12_isFirstIn 20 = .ok (.iload_n 2, 1) := by decide +kernel
theorem dX12_isFirstIn_21 : decode cX12_isFirstIn 21 = .ok (.invokevirtual 380, 3) := by decide +kernel
theorem dX12_isFirstIn_24 : decode cX12_isFirstIn 24 = .ok (.aload_n 0, 1) := by decide +kernel
theorem dX12_isFirstIn_25 : decode cX12_isFirstIn 25 = .ok (.aload_n 0, 1) := by decide +kernel
theorem dX12_isFirstIn_26 : decode cX12_isFirstIn 26 = .ok (.iload_n 1, 1) := by decide +kernel
theorem dX12_isFirstIn_27 : decode cX12_isFirstIn 27 = .ok (.iconst 0, 1) := by decide +kernel
theorem dX12_isFirstIn_28 : decode cX12_isFirstIn 28 = .ok (.invokevirtual 151, 3) := by decide +kernel
theorem dX12_isFirstIn_31 : decode cX12_isFirstIn 31 = .ok (.aload_n 0, 1) := by decide +kernel
theorem dX12_isFirstIn_32 : decode cX12_isFirstIn 32 = .ok (.iload_n 1, 1) := by decide +kernel
theorem dX12_isFirstIn_33 : decode cX12_isFirstIn 33 = .ok (.iconst 1, 1) := by decide +kernel
theorem dX12_isFirstIn_34 : decode cX12_isFirstIn 34 = .ok (.invokevirtual 151, 3) := by decide +kernel
theorem dX12_isFirstIn_37 : decode cX12_isFirstIn 37 = .ok (.iload_n 2, 1) := by decide +kernel
theorem dX12_isFirstIn_38 : decode cX12_isFirstIn 38 = .ok (.invokevirtual 380, 3) := by decide +kernel
theorem dX12_isFirstIn_41 : decode cX12_isFirstIn 41 = .ok (.if_icmp .ne 5, 3) := by decide +kernel
theorem dX12_isFirstIn_44 : decode cX12_isFirstIn 44 = .ok (.iconst 0, 1) := by decide +kernel
theorem dX12_isFirstIn_45 : decode cX12_isFirstIn 45 = .ok (.ireturn, 1) := by decide +kernel
theorem dX12_isFirstIn_46 : decode cX12_isFirstIn 46 = .ok (.iinc 3 1, 3) := by decide +kernel
theorem dX12_isFirstIn_49 : decode cX12_isFirstIn 49 = .ok (.goto (-47), 3) := by decide +kernel
theorem dX12_isFirstIn_52 : decode cX12_isFirstIn 52 = .ok (.iconst 1, 1) := by decide +kernel
theorem dX12_isFirstIn_53 : decode cX12_isFirstIn 53 = .ok (.ireturn, 1) := by decide +kernel
theorem dX12_isSize_0 : decode cX12_isSize 0 = .ok (.iload_n 0, 1) := by decide +kernel
theorem dX12_isSize_1 : decode cX12_isSize 1 = .ok (.iconst 1, 1) := by decide +kernel
theorem dX12_isSize_2 : decode cX12_isSize 2 = .ok (.bipush 100, 2) := by decide +kernel
theorem dX12_isSize_4 : decode cX12_isSize 4 = .ok (.invokestatic 69, 3) := by decide +kernel
theorem dX12_isSize_7 : decode cX12_isSize 7 = .ok (.ireturn, 1) := by decide +kernel
theorem dX12_tiles_0 : decode cX12_tiles 0 = .ok (.iload_n 1, 1) := by decide +kernel
theorem dX12_tiles_1 : decode cX12_tiles 1 = .ok (.invokestatic 383, 3) := by decide +kernel
theorem dX12_tiles_4 : decode cX12_tiles 4 = .ok (.ifCond .eq 12, 3) := by decide +kernel
theorem dX12_tiles_7 : decode cX12_tiles 7 = .ok (.iload_n 2, 1) := by decide +kernel
theorem dX12_tiles_8 : decode cX12_tiles 8 = .ok (.iconst 0, 1) := by decide +kernel
theorem dX12_tiles_9 : decode cX12_tiles 9 = .ok (.iconst 1, 1) := by decide +kernel
theorem dX12_tiles_10 : decode cX12_tiles 10 = .ok (.invokestatic 69, 3) := by decide +kernel
theorem dX12_tiles_13 : decode cX12_tiles 13 = .ok (.ifCond .ne 5, 3) := by decide +kernel
theorem dX12_tiles_16 : decode cX12_tiles 16 = .ok (.iconst (-1), 1) := by decide +kernel
theorem dX12_tiles_17 : decode cX12_tiles 17 = .ok (.ireturn, 1) := by decide +kernel
theorem dX12_tiles_18 : decode cX12_tiles 18 = .ok (.iconst 0, 1) := by decide +kernel
theorem dX12_tiles_19 : decode cX12_tiles 19 = .ok (.istore_n 3, 1) := by decide +kernel
theorem dX12_tiles_20 : decode cX12_tiles 20 = .ok (.iconst 0, 1) := by decide +kernel
theorem dX12_tiles_21 : decode cX12_tiles 21 = .ok (.istore 4, 2) := by decide +kernel
theorem dX12_tiles_23 : decode cX12_tiles 23 = .ok (.iconst 0, 1) := by decide +kernel
theorem dX12_tiles_24 : decode cX12_tiles 24 = .ok (.istore 5, 2) := by decide +kernel
theorem dX12_tiles_26 : decode cX12_tiles 26 = .ok (.iload 5, 2) := by decide +kernel
theorem dX12_tiles_28 : decode cX12_tiles 28 = .ok (.aload_n 0, 1) := by decide +kernel
theorem dX12_tiles_29 : decode cX12_tiles 29 = .ok (.invokevirtual 77, 3) := by decide +kernel
theorem dX12_tiles_32 : decode cX12_tiles 32 = .ok (.if_icmp .ge 69, 3) := by decide +kernel
theorem dX12_tiles_35 : decode cX12_tiles 35 = .ok (.aload_n 0, 1) := by decide +kernel
theorem dX12_tiles_36 : decode cX12_tiles 36 = .ok (.aload_n 0, 1) := by decide +kernel
theorem dX12_tiles_37 : decode cX12_tiles 37 = .ok (.aload_n 0, 1) := by decide +kernel
theorem dX12_tiles_38 : decode cX12_tiles 38 = .ok (.iload 5, 2) := by decide +kernel
theorem dX12_tiles_40 : decode cX12_tiles 40 = .ok (.iconst 0, 1) := by decide +kernel
theorem dX12_tiles_41 : decode cX12_tiles 41 = .ok (.invokevirtual 151, 3) := by decide +kernel
theorem dX12_tiles_44 : decode cX12_tiles 44 = .ok (.aload_n 0, 1) := by decide +kernel
theorem dX12_tiles_45 : decode cX12_tiles 45 = .ok (.iload 5, 2) := by decide +kernel
theorem dX12_tiles_47 : decode cX12_tiles 47 = .ok (.iconst 1, 1) := by decide +kernel
theorem dX12_tiles_48 : decode cX12_tiles 48 = .ok (.invokevirtual 151, 3) := by decide +kernel
theorem dX12_tiles_51 : decode cX12_tiles 51 = .ok (.iload_n 1, 1) := by decide +kernel
theorem dX12_tiles_52 : decode cX12_tiles 52 = .ok (.invokevirtual 380, 3) := by decide +kernel
theorem dX12_tiles_55 : decode cX12_tiles 55 = .ok (.iload_n 1, 1) := by decide +kernel
theorem dX12_tiles_56 : decode cX12_tiles 56 = .ok (.invokevirtual 386, 3) := by decide +kernel
theorem dX12_tiles_59 : decode cX12_tiles 59 = .ok (.istore 6, 2) := by decide +kernel
theorem dX12_tiles_61 : decode cX12_tiles 61 = .ok (.iload_n 3, 1) := by decide +kernel
theorem dX12_tiles_62 : decode cX12_tiles 62 = .ok (.aload_n 0, 1) := by decide +kernel
theorem dX12_tiles_63 : decode cX12_tiles 63 = .ok (.iload 5, 2) := by decide +kernel
theorem dX12_tiles_65 : decode cX12_tiles 65 = .ok (.iload_n 1, 1) := by decide +kernel
theorem dX12_tiles_66 : decode cX12_tiles 66 = .ok (.invokevirtual 389, 3) := by decide +kernel
theorem dX12_tiles_69 : decode cX12_tiles 69 = .ok (.ifCond .eq 7, 3) := by decide +kernel
theorem dX12_tiles_72 : decode cX12_tiles 72 = .ok (.iconst 1, 1) := by decide +kernel
theorem dX12_tiles_73 : decode cX12_tiles 73 = .ok (.goto 4, 3) := by decide +kernel
theorem dX12_tiles_76 : decode cX12_tiles 76 = .ok (.iconst 0, 1) := by decide +kernel
theorem dX12_tiles_77 : decode cX12_tiles 77 = .ok (.iadd, 1) := by decide +kernel
theorem dX12_tiles_78 : decode cX12_tiles 78 = .ok (.istore_n 3, 1) := by decide +kernel
theorem dX12_tiles_79 : decode cX12_tiles 79 = .ok (.iload 6, 2) := by decide +kernel
theorem dX12_tiles_81 : decode cX12_tiles 81 = .ok (.iload 4, 2) := by decide +kernel
theorem dX12_tiles_83 : decode cX12_tiles 83 = .ok (.if_icmp .le 8, 3) := by decide +kernel
theorem dX12_tiles_86 : decode cX12_tiles 86 = .ok (.iload 6, 2) := by decide +kernel
theorem dX12_tiles_88 : decode cX12_tiles 88 = .ok (.goto 5, 3) := by decide +kernel
theorem dX12_tiles_91 : decode cX12_tiles 91 = .ok (.iload 4, 2) := by decide +kernel
theorem dX12_tiles_93 : decode cX12_tiles 93 = .ok (.istore 4, 2) := by decide +kernel
theorem dX12_tiles_95 : decode cX12_tiles 95 = .ok (.iinc 5 1, 3) := by decide +kernel
theorem dX12_tiles_98 : decode cX12_tiles 98 = .ok (.goto (-72), 3) := by decide +kernel
theorem dX12_tiles_101 : decode cX12_tiles 101 = .ok (.iload_n 2, 1) := by decide +kernel
theorem dX12_tiles_102 : decode cX12_tiles 102 = .ok (.ifCond .ne 7, 3) := by decide +kernel
theorem dX12_tiles_105 : decode cX12_tiles 105 = .ok (.iload_n 3, 1) := by decide +kernel
theorem dX12_tiles_106 : decode cX12_tiles 106 = .ok (.goto 5, 3) := by decide +kernel
theorem dX12_tiles_109 : decode cX12_tiles 109 = .ok (.iload 4, 2) := by decide +kernel
theorem dX12_tiles_111 : decode cX12_tiles 111 = .ok (.ireturn, 1) := by decide +kernel
theorem dX12_pedestalOf_0 : decode cX12_pedestalOf 0 = .ok (.iconst 0, 1) := by decide +kernel
theorem dX12_pedestalOf_1 : decode cX12_pedestalOf 1 = .ok (.istore_n 2, 1) := by decide +kernel
theorem dX12_pedestalOf_2 : decode cX12_pedestalOf 2 = .ok (.iconst 0, 1) := by decide +kernel
theorem dX12_pedestalOf_3 : decode cX12_pedestalOf 3 = .ok (.istore_n 3, 1) := by decide +kernel
theorem dX12_pedestalOf_4 : decode cX12_pedestalOf 4 = .ok (.iload_n 3, 1) := by decide +kernel
theorem dX12_pedestalOf_5 : decode cX12_pedestalOf 5 = .ok (.aload_n 0, 1) := by decide +kernel
theorem dX12_pedestalOf_6 : decode cX12_pedestalOf 6 = .ok (.invokevirtual 77, 3) := by decide +kernel
theorem dX12_pedestalOf_9 : decode cX12_pedestalOf 9 = .ok (.if_icmp .ge 153, 3) := by decide +kernel
theorem dX12_pedestalOf_12 : decode cX12_pedestalOf 12 = .ok (.aload_n 0, 1) := by decide +kernel
theorem dX12_pedestalOf_13 : decode cX12_pedestalOf 13 = .ok (.iload_n 3, 1) := by decide +kernel
theorem dX12_pedestalOf_14 : decode cX12_pedestalOf 14 = .ok (.iload_n 1, 1) := by decide +kernel
theorem dX12_pedestalOf_15 : decode cX12_pedestalOf 15 = .ok (.invokevirtual 389, 3) := by decide +kernel
theorem dX12_pedestalOf_18 : decode cX12_pedestalOf 18 = .ok (.ifCond .ne 6, 3) := by decide +kernel
theorem dX12_pedestalOf_21 : decode cX12_pedestalOf 21 = .ok (.goto 135, 3) := by decide +kernel
theorem dX12_pedestalOf_24 : decode cX12_pedestalOf 24 = .ok (.iconst 0, 1) := by decide +kernel
theorem dX12_pedestalOf_25 : decode cX12_pedestalOf 25 = .ok (.istore 4, 2) := by decide +kernel
theorem dX12_pedestalOf_27 : decode cX12_pedestalOf 27 = .ok (.iconst 0, 1) := by decide +kernel
theorem dX12_pedestalOf_28 : decode cX12_pedestalOf 28 = .ok (.istore 5, 2) := by decide +kernel
theorem dX12_pedestalOf_30 : decode cX12_pedestalOf 30 = .ok (.iload 5, 2) := by decide +kernel
theorem dX12_pedestalOf_32 : decode cX12_pedestalOf 32 = .ok (.aload_n 0, 1) := by decide +kernel
theorem dX12_pedestalOf_33 : decode cX12_pedestalOf 33 = .ok (.invokevirtual 77, 3) := by decide +kernel
theorem dX12_pedestalOf_36 : decode cX12_pedestalOf 36 = .ok (.if_icmp .ge 64, 3) := by decide +kernel
theorem dX12_pedestalOf_39 : decode cX12_pedestalOf 39 = .ok (.iload 4, 2) := by decide +kernel
theorem dX12_pedestalOf_41 : decode cX12_pedestalOf 41 = .ok (.aload_n 0, 1) := by decide +kernel
theorem dX12_pedestalOf_42 : decode cX12_pedestalOf 42 = .ok (.aload_n 0, 1) := by decide +kernel
theorem dX12_pedestalOf_43 : decode cX12_pedestalOf 43 = .ok (.iload 5, 2) := by decide +kernel
theorem dX12_pedestalOf_45 : decode cX12_pedestalOf 45 = .ok (.iconst 0, 1) := by decide +kernel
theorem dX12_pedestalOf_46 : decode cX12_pedestalOf 46 = .ok (.invokevirtual 151, 3) := by decide +kernel
theorem dX12_pedestalOf_49 : decode cX12_pedestalOf 49 = .ok (.aload_n 0, 1) := by decide +kernel
theorem dX12_pedestalOf_50 : decode cX12_pedestalOf 50 = .ok (.iload 5, 2) := by decide +kernel
theorem dX12_pedestalOf_52 : decode cX12_pedestalOf 52 = .ok (.iconst 1, 1) := by decide +kernel
theorem dX12_pedestalOf_53 : decode cX12_pedestalOf 53 = .ok (.invokevirtual 151, 3) := by decide +kernel
theorem dX12_pedestalOf_56 : decode cX12_pedestalOf 56 = .ok (.iload_n 1, 1) := by decide +kernel
theorem dX12_pedestalOf_57 : decode cX12_pedestalOf 57 = .ok (.invokevirtual 380, 3) := by decide +kernel
theorem dX12_pedestalOf_60 : decode cX12_pedestalOf 60 = .ok (.aload_n 0, 1) := by decide +kernel
theorem dX12_pedestalOf_61 : decode cX12_pedestalOf 61 = .ok (.aload_n 0, 1) := by decide +kernel
theorem dX12_pedestalOf_62 : decode cX12_pedestalOf 62 = .ok (.iload_n 3, 1) := by decide +kernel
theorem dX12_pedestalOf_63 : decode cX12_pedestalOf 63 = .ok (.iconst 0, 1) := by decide +kernel
theorem dX12_pedestalOf_64 : decode cX12_pedestalOf 64 = .ok (.invokevirtual 151, 3) := by decide +kernel
theorem dX12_pedestalOf_67 : decode cX12_pedestalOf 67 = .ok (.aload_n 0, 1) := by decide +kernel
theorem dX12_pedestalOf_68 : decode cX12_pedestalOf 68 = .ok (.iload_n 3, 1) := by decide +kernel
theorem dX12_pedestalOf_69 : decode cX12_pedestalOf 69 = .ok (.iconst 1, 1) := by decide +kernel
theorem dX12_pedestalOf_70 : decode cX12_pedestalOf 70 = .ok (.invokevirtual 151, 3) := by decide +kernel
theorem dX12_pedestalOf_73 : decode cX12_pedestalOf 73 = .ok (.iload_n 1, 1) := by decide +kernel
theorem dX12_pedestalOf_74 : decode cX12_pedestalOf 74 = .ok (.invokevirtual 380, 3) := by decide +kernel
theorem dX12_pedestalOf_77 : decode cX12_pedestalOf 77 = .ok (.if_icmp .ne 13, 3) := by decide +kernel
theorem dX12_pedestalOf_80 : decode cX12_pedestalOf 80 = .ok (.aload_n 0, 1) := by decide +kernel
theorem dX12_pedestalOf_81 : decode cX12_pedestalOf 81 = .ok (.iload 5, 2) := by decide +kernel
theorem dX12_pedestalOf_83 : decode cX12_pedestalOf 83 = .ok (.iconst 2, 1) := by decide +kernel
theorem dX12_pedestalOf_84 : decode cX12_pedestalOf 84 = .ok (.invokevirtual 151, 3) := by decide +kernel
theorem dX12_pedestalOf_87 : decode cX12_pedestalOf 87 = .ok (.goto 4, 3) := by decide +kernel
theorem dX12_pedestalOf_90 : decode cX12_pedestalOf 90 = .ok (.iconst 0, 1) := by decide +kernel
theorem dX12_pedestalOf_91 : decode cX12_pedestalOf 91 = .ok (.iadd, 1) := by decide +kernel
theorem dX12_pedestalOf_92 : decode cX12_pedestalOf 92 = .ok (.istore 4, 2) := by decide +kernel
theorem dX12_pedestalOf_94 : decode cX12_pedestalOf 94 = .ok (.iinc 5 1, 3) := by decide +kernel
theorem dX12_pedestalOf_97 : decode cX12_pedestalOf 97 = .ok (.goto (-67), 3) := by decide +kernel
theorem dX12_pedestalOf_100 : decode cX12_pedestalOf 100 = .ok (.iload_n 2, 1) := by decide +kernel
theorem dX12_pedestalOf_101 : decode cX12_pedestalOf 101 = .ok (.istore 5, 2) := by decide +kernel
theorem dX12_pedestalOf_103 : decode cX12_pedestalOf 103 = .ok (.iload 5, 2) := by decide +kernel
theorem dX12_pedestalOf_105 : decode cX12_pedestalOf 105 = .ok (.ifCond .le 39, 3) := by decide +kernel
theorem dX12_pedestalOf_108 : decode cX12_pedestalOf 108 = .ok (.aload_n 0, 1) := by decide +kernel
theorem dX12_pedestalOf_109 : decode cX12_pedestalOf 109 = .ok (.getfield 54, 3) := by decide +kernel
theorem dX12_pedestalOf_112 : decode cX12_pedestalOf 112 = .ok (.iload 5, 2) := by decide +kernel
theorem dX12_pedestalOf_114 : decode cX12_pedestalOf 114 = .ok (.iconst 1, 1) := by decide +kernel
theorem dX12_pedestalOf_115 : decode cX12_pedestalOf 115 = .ok (.isub, 1) := by decide +kernel
theorem dX12_pedestalOf_116 : decode cX12_pedestalOf 116 = .ok (.iaload, 1) := by decide +kernel
theorem dX12_pedestalOf_117 : decode cX12_pedestalOf 117 = .ok (.iload 4, 2) := by decide +kernel
theorem dX12_pedestalOf_119 : decode cX12_pedestalOf 119 = .ok (.if_icmp .le 25, 3) := by decide +kernel
theorem dX12_pedestalOf_122 : decode cX12_pedestalOf 122 = .ok (.aload_n 0, 1) := by decide +kernel
theorem dX12_pedestalOf_123 : decode cX12_pedestalOf 123 = .ok (.getfield 54, 3) := by decide +kernel
theorem dX12_pedestalOf_126 : decode cX12_pedestalOf 126 = .ok (.iload 5, 2) := by decide +kernel
theorem dX12_pedestalOf_128 : decode cX12_pedestalOf 128 = .ok (.aload_n 0, 1) := by decide +kernel
theorem dX12_pedestalOf_129 : decode cX12_pedestalOf 129 = .ok (.getfield 54, 3) := by decide +kernel
theorem dX12_pedestalOf_132 : decode cX12_pedestalOf 132 = .ok (.iload 5, 2) := by decide +kernel
theorem dX12_pedestalOf_134 : decode cX12_pedestalOf 134 = .ok (.iconst 1, 1) := by decide +kernel
theorem dX12_pedestalOf_135 : decode cX12_pedestalOf 135 = .ok (.isub, 1) := by decide +kernel
theorem dX12_pedestalOf_136 : decode cX12_pedestalOf 136 = .ok (.iaload, 1) := by decide +kernel
theorem dX12_pedestalOf_137 : decode cX12_pedestalOf 137 = .ok (.iastore, 1) := by decide +kernel
theorem dX12_pedestalOf_138 : decode cX12_pedestalOf 138 = .ok (.iinc 5 (-1), 3) := by decide +kernel
theorem dX12_pedestalOf_141 : decode cX12_pedestalOf 141 = .ok (.goto (-38), 3) := by decide +kernel
theorem dX12_pedestalOf_144 : decode cX12_pedestalOf 144 = .ok (.aload_n 0, 1) := by decide +kernel
theorem dX12_pedestalOf_145 : decode cX12_pedestalOf 145 = .ok (.getfield 54, 3) := by decide +kernel
theorem dX12_pedestalOf_148 : decode cX12_pedestalOf 148 = .ok (.iload 5, 2) := by decide +kernel
theorem dX12_pedestalOf_150 : decode cX12_pedestalOf 150 = .ok (.iload 4, 2) := by decide +kernel
theorem dX12_pedestalOf_152 : decode cX12_pedestalOf 152 = .ok (.iastore, 1) := by decide +kernel
theorem dX12_pedestalOf_153 : decode cX12_pedestalOf 153 = .ok (.iinc 2 1, 3) := by decide +kernel
theorem dX12_pedestalOf_156 : decode cX12_pedestalOf 156 = .ok (.iinc 3 1, 3) := by decide +kernel
theorem dX12_pedestalOf_159 : decode cX12_pedestalOf 159 = .ok (.goto (-155), 3) := by decide +kernel
theorem dX12_pedestalOf_162 : decode cX12_pedestalOf 162 = .ok (.sipush 200, 3) := by decide +kernel
theorem dX12_pedestalOf_165 : decode cX12_pedestalOf 165 = .ok (.iload_n 1, 1) := by decide +kernel
theorem dX12_pedestalOf_166 : decode cX12_pedestalOf 166 = .ok (.invokestatic 137, 3) := by decide +kernel
theorem dX12_pedestalOf_169 : decode cX12_pedestalOf 169 = .ok (.sipush (-200), 3) := by decide +kernel
theorem dX12_pedestalOf_172 : decode cX12_pedestalOf 172 = .ok (.iload_n 1, 1) := by decide +kernel
theorem dX12_pedestalOf_173 : decode cX12_pedestalOf 173 = .ok (.invokestatic 137, 3) := by decide +kernel
theorem dX12_pedestalOf_176 : decode cX12_pedestalOf 176 = .ok (.isub, 1) := by decide +kernel
theorem dX12_pedestalOf_177 : decode cX12_pedestalOf 177 = .ok (.iconst 1, 1) := by decide +kernel
theorem dX12_pedestalOf_178 : decode cX12_pedestalOf 178 = .ok (.iadd, 1) := by decide +kernel
theorem dX12_pedestalOf_179 : decode cX12_pedestalOf 179 = .ok (.sipush 359, 3) := by decide +kernel
theorem dX12_pedestalOf_182 : decode cX12_pedestalOf 182 = .ok (.iload_n 1, 1) := by decide +kernel
theorem dX12_pedestalOf_183 : decode cX12_pedestalOf 183 = .ok (.idiv, 1) := by decide +kernel
theorem dX12_pedestalOf_184 : decode cX12_pedestalOf 184 = .ok (.iconst 1, 1) := by decide +kernel
theorem dX12_pedestalOf_185 : decode cX12_pedestalOf 185 = .ok (.iadd, 1) := by decide +kernel
theorem dX12_pedestalOf_186 : decode cX12_pedestalOf 186 = .ok (.imul, 1) := by decide +kernel
theorem dX12_pedestalOf_187 : decode cX12_pedestalOf 187 = .ok (.istore_n 3, 1) := by decide +kernel
theorem dX12_pedestalOf_188 : decode cX12_pedestalOf 188 = .ok (.iload_n 3, 1) := by decide +kernel
theorem dX12_pedestalOf_189 : decode cX12_pedestalOf 189 = .ok (.iconst 1, 1) := by decide +kernel
theorem dX12_pedestalOf_190 : decode cX12_pedestalOf 190 = .ok (.isub, 1) := by decide +kernel
theorem dX12_pedestalOf_191 : decode cX12_pedestalOf 191 = .ok (.iconst 2, 1) := by decide +kernel
theorem dX12_pedestalOf_192 : decode cX12_pedestalOf 192 = .ok (.idiv, 1) := by decide +kernel
theorem dX12_pedestalOf_193 : decode cX12_pedestalOf 193 = .ok (.iload_n 3, 1) := by decide +kernel
theorem dX12_pedestalOf_194 : decode cX12_pedestalOf 194 = .ok (.iload_n 2, 1) := by decide +kernel
theorem dX12_pedestalOf_195 : decode cX12_pedestalOf 195 = .ok (.isub, 1) := by decide +kernel
theorem dX12_pedestalOf_196 : decode cX12_pedestalOf 196 = .ok (.isub, 1) := by decide +kernel
theorem dX12_pedestalOf_197 : decode cX12_pedestalOf 197 = .ok (.istore 4, 2) := by decide +kernel
theorem dX12_pedestalOf_199 : decode cX12_pedestalOf 199 = .ok (.iload 4, 2) := by decide +kernel
theorem dX12_pedestalOf_201 : decode cX12_pedestalOf 201 = .ok (.ifCond .ge 7, 3) := by decide +kernel
theorem dX12_pedestalOf_204 : decode cX12_pedestalOf 204 = .ok (.iconst 0, 1) := by decide +kernel
theorem dX12_pedestalOf_205 : decode cX12_pedestalOf 205 = .ok (.goto 10, 3) := by decide +kernel
theorem dX12_pedestalOf_208 : decode cX12_pedestalOf 208 = .ok (.aload_n 0, 1) := by decide +kernel
theorem dX12_pedestalOf_209 : decode cX12_pedestalOf 209 = .ok (.getfield 54, 3) := by decide +kernel
theorem dX12_pedestalOf_212 : decode cX12_pedestalOf 212 = .ok (.iload 4, 2) := by decide +kernel
theorem dX12_pedestalOf_214 : decode cX12_pedestalOf 214 = .ok (.iaload, 1) := by decide +kernel
theorem dX12_pedestalOf_215 : decode cX12_pedestalOf 215 = .ok (.ireturn, 1) := by decide +kernel
theorem dX12_pedestal_0 : decode cX12_pedestal 0 = .ok (.iload_n 1, 1) := by decide +kernel
theorem dX12_pedestal_1 : decode cX12_pedestal 1 = .ok (.invokestatic 383, 3) := by decide +kernel
theorem dX12_pedestal_4 : decode cX12_pedestal 4 = .ok (.ifCond .eq 11, 3) := by decide +kernel
theorem dX12_pedestal_7 : decode cX12_pedestal 7 = .ok (.aload_n 0, 1) := by decide +kernel
theorem dX12_pedestal_8 : decode cX12_pedestal 8 = .ok (.iload_n 1, 1) := by decide +kernel
theorem dX12_pedestal_9 : decode cX12_pedestal 9 = .ok (.invokevirtual 392, 3) := by decide +kernel
theorem dX12_pedestal_12 : decode cX12_pedestal 12 = .ok (.goto 4, 3) := by decide +kernel
theorem dX12_pedestal_15 : decode cX12_pedestal 15 = .ok (.iconst (-1), 1) := by decide +kernel
theorem dX12_pedestal_16 : decode cX12_pedestal 16 = .ok (.ireturn, 1) := by decide +kernel
theorem dX12_clean_0 : decode cX12_clean 0 = .ok (.aload_n 0, 1) := by decide +kernel
theorem dX12_clean_1 : decode cX12_clean 1 = .ok (.iload_n 1, 1) := by decide +kernel
theorem dX12_clean_2 : decode cX12_clean 2 = .ok (.iload_n 2, 1) := by decide +kernel
theorem dX12_clean_3 : decode cX12_clean 3 = .ok (.invokevirtual 206, 3) := by decide +kernel
theorem dX12_clean_6 : decode cX12_clean 6 = .ok (.ifCond .eq 19, 3) := by decide +kernel
theorem dX12_clean_9 : decode cX12_clean 9 = .ok (.aload_n 0, 1) := by decide +kernel
theorem dX12_clean_10 : decode cX12_clean 10 = .ok (.iload_n 1, 1) := by decide +kernel
theorem dX12_clean_11 : decode cX12_clean 11 = .ok (.iload_n 2, 1) := by decide +kernel
theorem dX12_clean_12 : decode cX12_clean 12 = .ok (.invokevirtual 275, 3) := by decide +kernel
theorem dX12_clean_15 : decode cX12_clean 15 = .ok (.ifCond .eq 10, 3) := by decide +kernel
theorem dX12_clean_18 : decode cX12_clean 18 = .ok (.iload_n 3, 1) := by decide +kernel
theorem dX12_clean_19 : decode cX12_clean 19 = .ok (.invokestatic 383, 3) := by decide +kernel
theorem dX12_clean_22 : decode cX12_clean 22 = .ok (.ifCond .ne 5, 3) := by decide +kernel
theorem dX12_clean_25 : decode cX12_clean 25 = .ok (.iconst (-1), 1) := by decide +kernel
theorem dX12_clean_26 : decode cX12_clean 26 = .ok (.ireturn, 1) := by decide +kernel
theorem dX12_clean_27 : decode cX12_clean 27 = .ok (.aload_n 0, 1) := by decide +kernel
theorem dX12_clean_28 : decode cX12_clean 28 = .ok (.iload_n 1, 1) := by decide +kernel
theorem dX12_clean_29 : decode cX12_clean 29 = .ok (.iload_n 2, 1) := by decide +kernel
theorem dX12_clean_30 : decode cX12_clean 30 = .ok (.invokevirtual 209, 3) := by decide +kernel
theorem dX12_clean_33 : decode cX12_clean 33 = .ok (.lstore 4, 2) := by decide +kernel
theorem dX12_clean_35 : decode cX12_clean 35 = .ok (.iconst 0, 1) := by decide +kernel
theorem dX12_clean_36 : decode cX12_clean 36 = .ok (.istore 6, 2) := by decide +kernel
theorem dX12_clean_38 : decode cX12_clean 38 = .ok (.iconst 0, 1) := by decide +kernel
theorem dX12_clean_39 : decode cX12_clean 39 = .ok (.istore 7, 2) := by decide +kernel
theorem dX12_clean_41 : decode cX12_clean 41 = .ok (.iload 7, 2) := by decide +kernel
theorem dX12_clean_43 : decode cX12_clean 43 = .ok (.bipush 40, 2) := by decide +kernel
theorem dX12_clean_45 : decode cX12_clean 45 = .ok (.if_icmp .ge 116, 3) := by decide +kernel
theorem dX12_clean_48 : decode cX12_clean 48 = .ok (.lload 4, 2) := by decide +kernel
theorem dX12_clean_50 : decode cX12_clean 50 = .ok (.iload 7, 2) := by decide +kernel
theorem dX12_clean_52 : decode cX12_clean 52 = .ok (.invokestatic 154, 3) := by decide +kernel
theorem dX12_clean_55 : decode cX12_clean 55 = .ok (.istore 8, 2) := by decide +kernel
theorem dX12_clean_57 : decode cX12_clean 57 = .ok (.iconst 0, 1) := by decide +kernel
theorem dX12_clean_58 : decode cX12_clean 58 = .ok (.istore 9, 2) := by decide +kernel
theorem dX12_clean_60 : decode cX12_clean 60 = .ok (.iload 9, 2) := by decide +kernel
theorem dX12_clean_62 : decode cX12_clean 62 = .ok (.iload 7, 2) := by decide +kernel
theorem dX12_clean_64 : decode cX12_clean 64 = .ok (.if_icmp .ge 76, 3) := by decide +kernel
theorem dX12_clean_67 : decode cX12_clean 67 = .ok (.iload 8, 2) := by decide +kernel
theorem dX12_clean_69 : decode cX12_clean 69 = .ok (.ifCond .eq 71, 3) := by decide +kernel
theorem dX12_clean_72 : decode cX12_clean 72 = .ok (.lload 4, 2) := by decide +kernel
theorem dX12_clean_74 : decode cX12_clean 74 = .ok (.iload 9, 2) := by decide +kernel
theorem dX12_clean_76 : decode cX12_clean 76 = .ok (.invokestatic 154, 3) := by decide +kernel
theorem dX12_clean_79 : decode cX12_clean 79 = .ok (.ifCond .eq 48, 3) := by decide +kernel
theorem dX12_clean_82 : decode cX12_clean 82 = .ok (.aload_n 0, 1) := by decide +kernel
theorem dX12_clean_83 : decode cX12_clean 83 = .ok (.aload_n 0, 1) := by decide +kernel
theorem dX12_clean_84 : decode cX12_clean 84 = .ok (.iload_n 1, 1) := by decide +kernel
theorem dX12_clean_85 : decode cX12_clean 85 = .ok (.iload 9, 2) := by decide +kernel
theorem dX12_clean_87 : decode cX12_clean 87 = .ok (.iconst 0, 1) := by decide +kernel
theorem dX12_clean_88 : decode cX12_clean 88 = .ok (.invokevirtual 91, 3) := by decide +kernel
theorem dX12_clean_91 : decode cX12_clean 91 = .ok (.aload_n 0, 1) := by decide +kernel
theorem dX12_clean_92 : decode cX12_clean 92 = .ok (.iload_n 1, 1) := by decide +kernel
theorem dX12_clean_93 : decode cX12_clean 93 = .ok (.iload 9, 2) := by decide +kernel
theorem dX12_clean_95 : decode cX12_clean 95 = .ok (.iconst 1, 1) := by decide +kernel
theorem dX12_clean_96 : decode cX12_clean 96 = .ok (.invokevirtual 91, 3) := by decide +kernel
theorem dX12_clean_99 : decode cX12_clean 99 = .ok (.iload_n 3, 1) := by decide +kernel
theorem dX12_clean_100 : decode cX12_clean 100 = .ok (.invokevirtual 380, 3) := by decide +kernel
theorem dX12_clean_103 : decode cX12_clean 103 = .ok (.aload_n 0, 1) := by decide +kernel
theorem dX12_clean_104 : decode cX12_clean 104 = .ok (.aload_n 0, 1) := by decide +kernel
theorem dX12_clean_105 : decode cX12_clean 105 = .ok (.iload_n 1, 1) := by decide +kernel
theorem dX12_clean_106 : decode cX12_clean 106 = .ok (.iload 7, 2) := by decide +kernel
theorem dX12_clean_108 : decode cX12_clean 108 = .ok (.iconst 0, 1) := by decide +kernel
theorem dX12_clean_109 : decode cX12_clean 109 = .ok (.invokevirtual 91, 3) := by decide +kernel
theorem dX12_clean_112 : decode cX12_clean 112 = .ok (.aload_n 0, 1) := by decide +kernel
theorem dX12_clean_113 : decode cX12_clean 113 = .ok (.iload_n 1, 1) := by decide +kernel
theorem dX12_clean_114 : decode cX12_clean 114 = .ok (.iload 7, 2) := by decide +kernel
theorem dX12_clean_116 : decode cX12_clean 116 = .ok (.iconst 1, 1) := by decide +kernel
theorem dX12_clean_117 : decode cX12_clean 117 = .ok (.invokevirtual 91, 3) := by decide +kernel
theorem dX12_clean_120 : decode cX12_clean 120 = .ok (.iload_n 3, 1) := by decide +kernel
theorem dX12_clean_121 : decode cX12_clean 121 = .ok (.invokevirtual 380, 3) := by decide +kernel
theorem dX12_clean_124 : decode cX12_clean 124 = .ok (.if_icmp .eq 7, 3) := by decide +kernel
theorem dX12_clean_127 : decode cX12_clean 127 = .ok (.iconst 1, 1) := by decide +kernel
theorem dX12_clean_128 : decode cX12_clean 128 = .ok (.goto 4, 3) := by decide +kernel
theorem dX12_clean_131 : decode cX12_clean 131 = .ok (.iconst 0, 1) := by decide +kernel
theorem dX12_clean_132 : decode cX12_clean 132 = .ok (.istore 8, 2) := by decide +kernel
theorem dX12_clean_134 : decode cX12_clean 134 = .ok (.iinc 9 1, 3) := by decide +kernel
theorem dX12_clean_137 : decode cX12_clean 137 = .ok (.goto (-77), 3) := by decide +kernel
theorem dX12_clean_140 : decode cX12_clean 140 = .ok (.iload 6, 2) := by decide +kernel
theorem dX12_clean_142 : decode cX12_clean 142 = .ok (.iload 8, 2) := by decide +kernel
theorem dX12_clean_144 : decode cX12_clean 144 = .ok (.ifCond .eq 7, 3) := by decide +kernel
theorem dX12_clean_147 : decode cX12_clean 147 = .ok (.iconst 1, 1) := by decide +kernel
theorem dX12_clean_148 : decode cX12_clean 148 = .ok (.goto 4, 3) := by decide +kernel
theorem dX12_clean_151 : decode cX12_clean 151 = .ok (.iconst 0, 1) := by decide +kernel
theorem dX12_clean_152 : decode cX12_clean 152 = .ok (.iadd, 1) := by decide +kernel
theorem dX12_clean_153 : decode cX12_clean 153 = .ok (.istore 6, 2) := by decide +kernel
theorem dX12_clean_155 : decode cX12_clean 155 = .ok (.iinc 7 1, 3) := by decide +kernel
theorem dX12_clean_158 : decode cX12_clean 158 = .ok (.goto (-117), 3) := by decide +kernel
theorem dX12_clean_161 : decode cX12_clean 161 = .ok (.aload_n 0, 1) := by decide +kernel
theorem dX12_clean_162 : decode cX12_clean 162 = .ok (.iload_n 1, 1) := by decide +kernel
theorem dX12_clean_163 : decode cX12_clean 163 = .ok (.iload_n 2, 1) := by decide +kernel
theorem dX12_clean_164 : decode cX12_clean 164 = .ok (.invokevirtual 158, 3) := by decide +kernel
theorem dX12_clean_167 : decode cX12_clean 167 = .ok (.aload_n 0, 1) := by decide +kernel
theorem dX12_clean_168 : decode cX12_clean 168 = .ok (.iload_n 3, 1) := by decide +kernel
theorem dX12_clean_169 : decode cX12_clean 169 = .ok (.invokevirtual 392, 3) := by decide +kernel
theorem dX12_clean_172 : decode cX12_clean 172 = .ok (.iload 6, 2) := by decide +kernel
theorem dX12_clean_174 : decode cX12_clean 174 = .ok (.imul, 1) := by decide +kernel
theorem dX12_clean_175 : decode cX12_clean 175 = .ok (.isub, 1) := by decide +kernel
theorem dX12_clean_176 : decode cX12_clean 176 = .ok (.istore 7, 2) := by decide +kernel
theorem dX12_clean_178 : decode cX12_clean 178 = .ok (.iload 7, 2) := by decide +kernel
theorem dX12_clean_180 : decode cX12_clean 180 = .ok (.ifCond .ge 7, 3) := by decide +kernel
theorem dX12_clean_183 : decode cX12_clean 183 = .ok (.iconst 0, 1) := by decide +kernel
theorem dX12_clean_184 : decode cX12_clean 184 = .ok (.goto 5, 3) := by decide +kernel
theorem dX12_clean_187 : decode cX12_clean 187 = .ok (.iload 7, 2) := by decide +kernel
theorem dX12_clean_189 : decode cX12_clean 189 = .ok (.ireturn, 1) := by decide +kernel
theorem dX12_balanceOf_0 : decode cX12_balanceOf 0 = .ok (.iconst 0, 1) := by decide +kernel
theorem dX12_balanceOf_1 : decode cX12_balanceOf 1 = .ok (.istore_n 2, 1) := by decide +kernel
theorem dX12_balanceOf_2 : decode cX12_balanceOf 2 = .ok (.iconst 0, 1) := by decide +kernel
theorem dX12_balanceOf_3 : decode cX12_balanceOf 3 = .ok (.istore_n 3, 1) := by decide +kernel
theorem dX12_balanceOf_4 : decode cX12_balanceOf 4 = .ok (.iload_n 3, 1) := by decide +kernel
theorem dX12_balanceOf_5 : decode cX12_balanceOf 5 = .ok (.aload_n 0, 1) := by decide +kernel
theorem dX12_balanceOf_6 : decode cX12_balanceOf 6 = .ok (.invokevirtual 77, 3) := by decide +kernel
theorem dX12_balanceOf_9 : decode cX12_balanceOf 9 = .ok (.if_icmp .ge 54, 3) := by decide +kernel
theorem dX12_balanceOf_12 : decode cX12_balanceOf 12 = .ok (.iload_n 1, 1) := by decide +kernel
theorem dX12_balanceOf_13 : decode cX12_balanceOf 13 = .ok (.aload_n 0, 1) := by decide +kernel
theorem dX12_balanceOf_14 : decode cX12_balanceOf 14 = .ok (.iload_n 3, 1) := by decide +kernel
theorem dX12_balanceOf_15 : decode cX12_balanceOf 15 = .ok (.iconst 1, 1) := by decide +kernel
theorem dX12_balanceOf_16 : decode cX12_balanceOf 16 = .ok (.invokevirtual 151, 3) := by decide +kernel
theorem dX12_balanceOf_19 : decode cX12_balanceOf 19 = .ok (.invokestatic 65, 3) := by decide +kernel
theorem dX12_balanceOf_22 : decode cX12_balanceOf 22 = .ok (.istore 4, 2) := by decide +kernel
theorem dX12_balanceOf_24 : decode cX12_balanceOf 24 = .ok (.iload_n 2, 1) := by decide +kernel
theorem dX12_balanceOf_25 : decode cX12_balanceOf 25 = .ok (.iload 4, 2) := by decide +kernel
theorem dX12_balanceOf_27 : decode cX12_balanceOf 27 = .ok (.bipush 90, 2) := by decide +kernel
theorem dX12_balanceOf_29 : decode cX12_balanceOf 29 = .ok (.if_icmp .ge 19, 3) := by decide +kernel
theorem dX12_balanceOf_32 : decode cX12_balanceOf 32 = .ok (.iload 4, 2) := by decide +kernel
theorem dX12_balanceOf_34 : decode cX12_balanceOf 34 = .ok (.bipush (-90), 2) := by decide +kernel
theorem dX12_balanceOf_36 : decode cX12_balanceOf 36 = .ok (.if_icmp .le 12, 3) := by decide +kernel
theorem dX12_balanceOf_39 : decode cX12_balanceOf 39 = .ok (.aload_n 0, 1) := by decide +kernel
theorem dX12_balanceOf_40 : decode cX12_balanceOf 40 = .ok (.iload_n 3, 1) := by decide +kernel
theorem dX12_balanceOf_41 : decode cX12_balanceOf 41 = .ok (.iconst 2, 1) := by decide +kernel
theorem dX12_balanceOf_42 : decode cX12_balanceOf 42 = .ok (.invokevirtual 151, 3) := by decide +kernel
theorem dX12_balanceOf_45 : decode cX12_balanceOf 45 = .ok (.goto 10, 3) := by decide +kernel
theorem dX12_balanceOf_48 : decode cX12_balanceOf 48 = .ok (.aload_n 0, 1) := by decide +kernel
theorem dX12_balanceOf_49 : decode cX12_balanceOf 49 = .ok (.iload_n 3, 1) := by decide +kernel
theorem dX12_balanceOf_50 : decode cX12_balanceOf 50 = .ok (.iconst 2, 1) := by decide +kernel
theorem dX12_balanceOf_51 : decode cX12_balanceOf 51 = .ok (.invokevirtual 151, 3) := by decide +kernel
theorem dX12_balanceOf_54 : decode cX12_balanceOf 54 = .ok (.ineg, 1) := by decide +kernel
theorem dX12_balanceOf_55 : decode cX12_balanceOf 55 = .ok (.iadd, 1) := by decide +kernel
theorem dX12_balanceOf_56 : decode cX12_balanceOf 56 = .ok (.istore_n 2, 1) := by decide +kernel
theorem dX12_balanceOf_57 : decode cX12_balanceOf 57 = .ok (.iinc 3 1, 3) := by decide +kernel
theorem dX12_balanceOf_60 : decode cX12_balanceOf 60 = .ok (.goto (-56), 3) := by decide +kernel
theorem dX12_balanceOf_63 : decode cX12_balanceOf 63 = .ok (.iload_n 2, 1) := by decide +kernel
theorem dX12_balanceOf_64 : decode cX12_balanceOf 64 = .ok (.ireturn, 1) := by decide +kernel
theorem dX12_balance_0 : decode cX12_balance 0 = .ok (.iload_n 1, 1) := by decide +kernel
theorem dX12_balance_1 : decode cX12_balance 1 = .ok (.iconst 0, 1) := by decide +kernel
theorem dX12_balance_2 : decode cX12_balance 2 = .ok (.sipush 359, 3) := by decide +kernel
theorem dX12_balance_5 : decode cX12_balance 5 = .ok (.invokestatic 69, 3) := by decide +kernel
theorem dX12_balance_8 : decode cX12_balance 8 = .ok (.ifCond .eq 11, 3) := by decide +kernel
theorem dX12_balance_11 : decode cX12_balance 11 = .ok (.aload_n 0, 1) := by decide +kernel
theorem dX12_balance_12 : decode cX12_balance 12 = .ok (.iload_n 1, 1) := by decide +kernel
theorem dX12_balance_13 : decode cX12_balance 13 = .ok (.invokevirtual 395, 3) := by decide +kernel
theorem dX12_balance_16 : decode cX12_balance 16 = .ok (.goto 4, 3) := by decide +kernel
theorem dX12_balance_19 : decode cX12_balance 19 = .ok (.iconst 0, 1) := by decide +kernel
theorem dX12_balance_20 : decode cX12_balance 20 = .ok (.ireturn, 1) := by decide +kernel
theorem dX12_axis_0 : decode cX12_axis 0 = .ok (.iconst 0, 1) := by decide +kernel
theorem dX12_axis_1 : decode cX12_axis 1 = .ok (.istore_n 1, 1) := by decide +kernel
theorem dX12_axis_2 : decode cX12_axis 2 = .ok (.aload_n 0, 1) := by decide +kernel
theorem dX12_axis_3 : decode cX12_axis 3 = .ok (.iconst 0, 1) := by decide +kernel
theorem dX12_axis_4 : decode cX12_axis 4 = .ok (.invokevirtual 395, 3) := by decide +kernel
theorem dX12_axis_7 : decode cX12_axis 7 = .ok (.istore_n 2, 1) := by decide +kernel
theorem dX12_axis_8 : decode cX12_axis 8 = .ok (.iconst 1, 1) := by decide +kernel
theorem dX12_axis_9 : decode cX12_axis 9 = .ok (.istore_n 3, 1) := by decide +kernel
theorem dX12_axis_10 : decode cX12_axis 10 = .ok (.iload_n 3, 1) := by decide +kernel
theorem dX12_axis_11 : decode cX12_axis 11 = .ok (.sipush 360, 3) := by decide +kernel
theorem dX12_axis_14 : decode cX12_axis 14 = .ok (.if_icmp .ge 30, 3) := by decide +kernel
theorem dX12_axis_17 : decode cX12_axis 17 = .ok (.aload_n 0, 1) := by decide +kernel
theorem dX12_axis_18 : decode cX12_axis 18 = .ok (.iload_n 3, 1) := by decide +kernel
theorem dX12_axis_19 : decode cX12_axis 19 = .ok (.invokevirtual 395, 3) := by decide +kernel
theorem dX12_axis_22 : decode cX12_axis 22 = .ok (.istore 4, 2) := by decide +kernel
theorem dX12_axis_24 : decode cX12_axis 24 = .ok (.iload 4, 2) := by decide +kernel
theorem dX12_axis_26 : decode cX12_axis 26 = .ok (.iload_n 2, 1) := by decide +kernel
theorem dX12_axis_27 : decode cX12_axis 27 = .ok (.if_icmp .gt 6, 3) := by decide +kernel
theorem dX12_axis_30 : decode cX12_axis 30 = .ok (.goto 8, 3) := by decide +kernel
theorem dX12_axis_33 : decode cX12_axis 33 = .ok (.iload_n 3, 1) := by decide +kernel
theorem dX12_axis_34 : decode cX12_axis 34 = .ok (.istore_n 1, 1) := by decide +kernel
theorem dX12_axis_35 : decode cX12_axis 35 = .ok (.iload 4, 2) := by decide +kernel
theorem dX12_axis_37 : decode cX12_axis 37 = .ok (.istore_n 2, 1) := by decide +kernel
theorem dX12_axis_38 : decode cX12_axis 38 = .ok (.iinc 3 1, 3) := by decide +kernel
theorem dX12_axis_41 : decode cX12_axis 41 = .ok (.goto (-31), 3) := by decide +kernel
theorem dX12_axis_44 : decode cX12_axis 44 = .ok (.iload_n 1, 1) := by decide +kernel
theorem dX12_axis_45 : decode cX12_axis 45 = .ok (.ireturn, 1) := by decide +kernel
theorem dX12_coneOf_0 : decode cX12_coneOf 0 = .ok (.lconst 0, 1) := by decide +kernel
theorem dX12_coneOf_1 : decode cX12_coneOf 1 = .ok (.lstore 4, 2) := by decide +kernel
theorem dX12_coneOf_3 : decode cX12_coneOf 3 = .ok (.iconst 0, 1) := by decide +kernel
theorem dX12_coneOf_4 : decode cX12_coneOf 4 = .ok (.istore 6, 2) := by decide +kernel
theorem dX12_coneOf_6 : decode cX12_coneOf 6 = .ok (.iload 6, 2) := by decide +kernel
theorem dX12_coneOf_8 : decode cX12_coneOf 8 = .ok (.aload_n 0, 1) := by decide +kernel
theorem dX12_coneOf_9 : decode cX12_coneOf 9 = .ok (.invokevirtual 77, 3) := by decide +kernel
theorem dX12_coneOf_12 : decode cX12_coneOf 12 = .ok (.if_icmp .ge 43, 3) := by decide +kernel
theorem dX12_coneOf_15 : decode cX12_coneOf 15 = .ok (.aload_n 0, 1) := by decide +kernel
theorem dX12_coneOf_16 : decode cX12_coneOf 16 = .ok (.iload 6, 2) := by decide +kernel
theorem dX12_coneOf_18 : decode cX12_coneOf 18 = .ok (.iconst 0, 1) := by decide +kernel
theorem dX12_coneOf_19 : decode cX12_coneOf 19 = .ok (.invokevirtual 151, 3) := by decide +kernel
theorem dX12_coneOf_22 : decode cX12_coneOf 22 = .ok (.aload_n 0, 1) := by decide +kernel
theorem dX12_coneOf_23 : decode cX12_coneOf 23 = .ok (.iload 6, 2) := by decide +kernel
theorem dX12_coneOf_25 : decode cX12_coneOf 25 = .ok (.iconst 1, 1) := by decide +kernel
theorem dX12_coneOf_26 : decode cX12_coneOf 26 = .ok (.invokevirtual 151, 3) := by decide +kernel
theorem dX12_coneOf_29 : decode cX12_coneOf 29 = .ok (.iload_n 1, 1) := by decide +kernel
theorem dX12_coneOf_30 : decode cX12_coneOf 30 = .ok (.iload_n 2, 1) := by decide +kernel
theorem dX12_coneOf_31 : decode cX12_coneOf 31 = .ok (.invokestatic 102, 3) := by decide +kernel
theorem dX12_coneOf_34 : decode cX12_coneOf 34 = .ok (.iload_n 3, 1) := by decide +kernel
theorem dX12_coneOf_35 : decode cX12_coneOf 35 = .ok (.iload_n 3, 1) := by decide +kernel
theorem dX12_coneOf_36 : decode cX12_coneOf 36 = .ok (.imul, 1) := by decide +kernel
theorem dX12_coneOf_37 : decode cX12_coneOf 37 = .ok (.if_icmp .gt 12, 3) := by decide +kernel
theorem dX12_coneOf_40 : decode cX12_coneOf 40 = .ok (.lload 4, 2) := by decide +kernel
theorem dX12_coneOf_42 : decode cX12_coneOf 42 = .ok (.lconst 1, 1) := by decide +kernel
theorem dX12_coneOf_43 : decode cX12_coneOf 43 = .ok (.iload 6, 2) := by decide +kernel
theorem dX12_coneOf_45 : decode cX12_coneOf 45 = .ok (.lshl, 1) := by decide +kernel
theorem dX12_coneOf_46 : decode cX12_coneOf 46 = .ok (.lor, 1) := by decide +kernel
theorem dX12_coneOf_47 : decode cX12_coneOf 47 = .ok (.lstore 4, 2) := by decide +kernel
theorem dX12_coneOf_49 : decode cX12_coneOf 49 = .ok (.iinc 6 1, 3) := by decide +kernel
theorem dX12_coneOf_52 : decode cX12_coneOf 52 = .ok (.goto (-46), 3) := by decide +kernel
theorem dX12_coneOf_55 : decode cX12_coneOf 55 = .ok (.lload 4, 2) := by decide +kernel
theorem dX12_coneOf_57 : decode cX12_coneOf 57 = .ok (.lreturn, 1) := by decide +kernel
theorem dX12_layMean_0 : decode cX12_layMean 0 = .ok (.iconst 0, 1) := by decide +kernel
theorem dX12_layMean_1 : decode cX12_layMean 1 = .ok (.istore_n 3, 1) := by decide +kernel
theorem dX12_layMean_2 : decode cX12_layMean 2 = .ok (.iconst 0, 1) := by decide +kernel
theorem dX12_layMean_3 : decode cX12_layMean 3 = .ok (.istore 4, 2) := by decide +kernel
theorem dX12_layMean_5 : decode cX12_layMean 5 = .ok (.iload 4, 2) := by decide +kernel
theorem dX12_layMean_7 : decode cX12_layMean 7 = .ok (.aload_n 0, 1) := by decide +kernel
theorem dX12_layMean_8 : decode cX12_layMean 8 = .ok (.invokevirtual 77, 3) := by decide +kernel
theorem dX12_layMean_11 : decode cX12_layMean 11 = .ok (.if_icmp .ge 111, 3) := by decide +kernel
theorem dX12_layMean_14 : decode cX12_layMean 14 = .ok (.lload_n 1, 1) := by decide +kernel
theorem dX12_layMean_15 : decode cX12_layMean 15 = .ok (.iload 4, 2) := by decide +kernel
theorem dX12_layMean_17 : decode cX12_layMean 17 = .ok (.invokestatic 154, 3) := by decide +kernel
theorem dX12_layMean_20 : decode cX12_layMean 20 = .ok (.ifCond .ne 6, 3) := by decide +kernel
theorem dX12_layMean_23 : decode cX12_layMean 23 = .ok (.goto 93, 3) := by decide +kernel
theorem dX12_layMean_26 : decode cX12_layMean 26 = .ok (.aload_n 0, 1) := by decide +kernel
theorem dX12_layMean_27 : decode cX12_layMean 27 = .ok (.iload_n 3, 1) := by decide +kernel
theorem dX12_layMean_28 : decode cX12_layMean 28 = .ok (.ifCond .ne 13, 3) := by decide +kernel
theorem dX12_layMean_31 : decode cX12_layMean 31 = .ok (.aload_n 0, 1) := by decide +kernel
theorem dX12_layMean_32 : decode cX12_layMean 32 = .ok (.iload 4, 2) := by decide +kernel
theorem dX12_layMean_34 : decode cX12_layMean 34 = .ok (.iconst 0, 1) := by decide +kernel
theorem dX12_layMean_35 : decode cX12_layMean 35 = .ok (.invokevirtual 151, 3) := by decide +kernel
theorem dX12_layMean_38 : decode cX12_layMean 38 = .ok (.goto 25, 3) := by decide +kernel
theorem dX12_layMean_41 : decode cX12_layMean 41 = .ok (.aload_n 0, 1) := by decide +kernel
theorem dX12_layMean_42 : decode cX12_layMean 42 = .ok (.getfield 398, 3) := by decide +kernel
theorem dX12_layMean_45 : decode cX12_layMean 45 = .ok (.iload_n 3, 1) := by decide +kernel
theorem dX12_layMean_46 : decode cX12_layMean 46 = .ok (.aload_n 0, 1) := by decide +kernel
theorem dX12_layMean_47 : decode cX12_layMean 47 = .ok (.iload 4, 2) := by decide +kernel
theorem dX12_layMean_49 : decode cX12_layMean 49 = .ok (.iconst 0, 1) := by decide +kernel
theorem dX12_layMean_50 : decode cX12_layMean 50 = .ok (.invokevirtual 151, 3) := by decide +kernel
theorem dX12_layMean_53 : decode cX12_layMean 53 = .ok (.aload_n 0, 1) := by decide +kernel
theorem dX12_layMean_54 : decode cX12_layMean 54 = .ok (.iload 4, 2) := by decide +kernel
theorem dX12_layMean_56 : decode cX12_layMean 56 = .ok (.iconst 2, 1) := by decide +kernel
theorem dX12_layMean_57 : decode cX12_layMean 57 = .ok (.invokevirtual 151, 3) := by decide +kernel
theorem dX12_layMean_60 : decode cX12_layMean 60 = .ok (.invokestatic 131, 3) := by decide +kernel
theorem dX12_layMean_63 : decode cX12_layMean 63 = .ok (.putfield 398, 3) := by decide +kernel
theorem dX12_layMean_66 : decode cX12_layMean 66 = .ok (.aload_n 0, 1) := by decide +kernel
theorem dX12_layMean_67 : decode cX12_layMean 67 = .ok (.iload_n 3, 1) := by decide +kernel
theorem dX12_layMean_68 : decode cX12_layMean 68 = .ok (.ifCond .ne 13, 3) := by decide +kernel
theorem dX12_layMean_71 : decode cX12_layMean 71 = .ok (.aload_n 0, 1) := by decide +kernel
theorem dX12_layMean_72 : decode cX12_layMean 72 = .ok (.iload 4, 2) := by decide +kernel
theorem dX12_layMean_74 : decode cX12_layMean 74 = .ok (.iconst 1, 1) := by decide +kernel
theorem dX12_layMean_75 : decode cX12_layMean 75 = .ok (.invokevirtual 151, 3) := by decide +kernel
theorem dX12_layMean_78 : decode cX12_layMean 78 = .ok (.goto 25, 3) := by decide +kernel
theorem dX12_layMean_81 : decode cX12_layMean 81 = .ok (.aload_n 0, 1) := by decide +kernel
theorem dX12_layMean_82 : decode cX12_layMean 82 = .ok (.getfield 401, 3) := by decide +kernel
theorem dX12_layMean_85 : decode cX12_layMean 85 = .ok (.iload_n 3, 1) := by decide +kernel
theorem dX12_layMean_86 : decode cX12_layMean 86 = .ok (.aload_n 0, 1) := by decide +kernel
theorem dX12_layMean_87 : decode cX12_layMean 87 = .ok (.iload 4, 2) := by decide +kernel
theorem dX12_layMean_89 : decode cX12_layMean 89 = .ok (.iconst 1, 1) := by decide +kernel
theorem dX12_layMean_90 : decode cX12_layMean 90 = .ok (.invokevirtual 151, 3) := by decide +kernel
theorem dX12_layMean_93 : decode cX12_layMean 93 = .ok (.aload_n 0, 1) := by decide +kernel
theorem dX12_layMean_94 : decode cX12_layMean 94 = .ok (.iload 4, 2) := by decide +kernel
theorem dX12_layMean_96 : decode cX12_layMean 96 = .ok (.iconst 2, 1) := by decide +kernel
theorem dX12_layMean_97 : decode cX12_layMean 97 = .ok (.invokevirtual 151, 3) := by decide +kernel
theorem dX12_layMean_100 : decode cX12_layMean 100 = .ok (.invokestatic 134, 3) := by decide +kernel
theorem dX12_layMean_103 : decode cX12_layMean 103 = .ok (.putfield 401, 3) := by decide +kernel
theorem dX12_layMean_106 : decode cX12_layMean 106 = .ok (.iload_n 3, 1) := by decide +kernel
theorem dX12_layMean_107 : decode cX12_layMean 107 = .ok (.aload_n 0, 1) := by decide +kernel
theorem dX12_layMean_108 : decode cX12_layMean 108 = .ok (.iload 4, 2) := by decide +kernel
theorem dX12_layMean_110 : decode cX12_layMean 110 = .ok (.iconst 2, 1) := by decide +kernel
theorem dX12_layMean_111 : decode cX12_layMean 111 = .ok (.invokevirtual 151, 3) := by decide +kernel
theorem dX12_layMean_114 : decode cX12_layMean 114 = .ok (.iadd, 1) := by decide +kernel
theorem dX12_layMean_115 : decode cX12_layMean 115 = .ok (.istore_n 3, 1) := by decide +kernel
theorem dX12_layMean_116 : decode cX12_layMean 116 = .ok (.iinc 4 1, 3) := by decide +kernel
theorem dX12_layMean_119 : decode cX12_layMean 119 = .ok (.goto (-114), 3) := by decide +kernel
theorem dX12_layMean_122 : decode cX12_layMean 122 = .ok (.return_, 1) := by decide +kernel
theorem dX12_isSteady_0 : decode cX12_isSteady 0 = .ok (.lload_n 3, 1) := by decide +kernel
theorem dX12_isSteady_1 : decode cX12_isSteady 1 = .ok (.lconst 0, 1) := by decide +kernel
theorem dX12_isSteady_2 : decode cX12_isSteady 2 = .ok (.lcmp, 1) := by decide +kernel
theorem dX12_isSteady_3 : decode cX12_isSteady 3 = .ok (.ifCond .ne 5, 3) := by decide +kernel
theorem dX12_isSteady_6 : decode cX12_isSteady 6 = .ok (.iconst 0, 1) := by decide +kernel
theorem dX12_isSteady_7 : decode cX12_isSteady 7 = .ok (.ireturn, 1) := by decide +kernel
theorem dX12_isSteady_8 : decode cX12_isSteady 8 = .ok (.aload_n 0, 1) := by decide +kernel
theorem dX12_isSteady_9 : decode cX12_isSteady 9 = .ok (.lload_n 3, 1) := by decide +kernel
theorem dX12_isSteady_10 : decode cX12_isSteady 10 = .ok (.invokevirtual 404, 3) := by decide +kernel
theorem dX12_isSteady_13 : decode cX12_isSteady 13 = .ok (.aload_n 0, 1) := by decide +kernel
theorem dX12_isSteady_14 : decode cX12_isSteady 14 = .ok (.getfield 398, 3) := by decide +kernel
theorem dX12_isSteady_17 : decode cX12_isSteady 17 = .ok (.iload_n 1, 1) := by decide +kernel
theorem dX12_isSteady_18 : decode cX12_isSteady 18 = .ok (.if_icmp .ne 15, 3) := by decide +kernel
theorem dX12_isSteady_21 : decode cX12_isSteady 21 = .ok (.aload_n 0, 1) := by decide +kernel
theorem dX12_isSteady_22 : decode cX12_isSteady 22 = .ok (.getfield 401, 3) := by decide +kernel
theorem dX12_isSteady_25 : decode cX12_isSteady 25 = .ok (.iload_n 2, 1) := by decide +kernel
theorem dX12_isSteady_26 : decode cX12_isSteady 26 = .ok (.if_icmp .ne 7, 3) := by decide +kernel
theorem dX12_isSteady_29 : decode cX12_isSteady 29 = .ok (.iconst 1, 1) := by decide +kernel
theorem dX12_isSteady_30 : decode cX12_isSteady 30 = .ok (.goto 4, 3) := by decide +kernel
theorem dX12_isSteady_33 : decode cX12_isSteady 33 = .ok (.iconst 0, 1) := by decide +kernel
theorem dX12_isSteady_34 : decode cX12_isSteady 34 = .ok (.ireturn, 1) := by decide +kernel
theorem dX12_cone_0 : decode cX12_cone 0 = .ok (.iload_n 1, 1) := by decide +kernel
theorem dX12_cone_1 : decode cX12_cone 1 = .ok (.iload_n 2, 1) := by decide +kernel
theorem dX12_cone_2 : decode cX12_cone 2 = .ok (.invokestatic 164, 3) := by decide +kernel
theorem dX12_cone_5 : decode cX12_cone 5 = .ok (.ifCond .eq 20, 3) := by decide +kernel
theorem dX12_cone_8 : decode cX12_cone 8 = .ok (.iload_n 3, 1) := by decide +kernel
theorem dX12_cone_9 : decode cX12_cone 9 = .ok (.invokestatic 334, 3) := by decide +kernel
theorem dX12_cone_12 : decode cX12_cone 12 = .ok (.ifCond .eq 13, 3) := by decide +kernel
theorem dX12_cone_15 : decode cX12_cone 15 = .ok (.iload 4, 2) := by decide +kernel
theorem dX12_cone_17 : decode cX12_cone 17 = .ok (.iconst 0, 1) := by decide +kernel
theorem dX12_cone_18 : decode cX12_cone 18 = .ok (.iconst 2, 1) := by decide +kernel
theorem dX12_cone_19 : decode cX12_cone 19 = .ok (.invokestatic 69, 3) := by decide +kernel
theorem dX12_cone_22 : decode cX12_cone 22 = .ok (.ifCond .ne 5, 3) := by decide +kernel
theorem dX12_cone_25 : decode cX12_cone 25 = .ok (.iconst (-1), 1) := by decide +kernel
theorem dX12_cone_26 : decode cX12_cone 26 = .ok (.ireturn, 1) := by decide +kernel
theorem dX12_cone_27 : decode cX12_cone 27 = .ok (.aload_n 0, 1) := by decide +kernel
theorem dX12_cone_28 : decode cX12_cone 28 = .ok (.iload_n 1, 1) := by decide +kernel
theorem dX12_cone_29 : decode cX12_cone 29 = .ok (.iload_n 2, 1) := by decide +kernel
theorem dX12_cone_30 : decode cX12_cone 30 = .ok (.iload_n 3, 1) := by decide +kernel
theorem dX12_cone_31 : decode cX12_cone 31 = .ok (.invokevirtual 408, 3) := by decide +kernel
theorem dX12_cone_34 : decode cX12_cone 34 = .ok (.lstore 5, 2) := by decide +kernel
theorem dX12_cone_36 : decode cX12_cone 36 = .ok (.iload 4, 2) := by decide +kernel
theorem dX12_cone_38 : decode cX12_cone 38 = .ok (.ifCond .ne 9, 3) := by decide +kernel
theorem dX12_cone_41 : decode cX12_cone 41 = .ok (.lload 5, 2) := by decide +kernel
theorem dX12_cone_43 : decode cX12_cone 43 = .ok (.invokestatic 411, 3) := by decide +kernel
theorem dX12_cone_46 : decode cX12_cone 46 = .ok (.ireturn, 1) := by decide +kernel
theorem dX12_cone_47 : decode cX12_cone 47 = .ok (.iload 4, 2) := by decide +kernel
theorem dX12_cone_49 : decode cX12_cone 49 = .ok (.iconst 1, 1) := by decide +kernel
theorem dX12_cone_50 : decode cX12_cone 50 = .ok (.if_icmp .ne 12, 3) := by decide +kernel
theorem dX12_cone_53 : decode cX12_cone 53 = .ok (.aload_n 0, 1) := by decide +kernel
theorem dX12_cone_54 : decode cX12_cone 54 = .ok (.lload 5, 2) := by decide +kernel
theorem dX12_cone_56 : decode cX12_cone 56 = .ok (.invokevirtual 223, 3) := by decide +kernel
theorem dX12_cone_59 : decode cX12_cone 59 = .ok (.goto 19, 3) := by decide +kernel
theorem dX12_cone_62 : decode cX12_cone 62 = .ok (.aload_n 0, 1) := by decide +kernel
theorem dX12_cone_63 : decode cX12_cone 63 = .ok (.iload_n 1, 1) := by decide +kernel
theorem dX12_cone_64 : decode cX12_cone 64 = .ok (.iload_n 2, 1) := by decide +kernel
theorem dX12_cone_65 : decode cX12_cone 65 = .ok (.lload 5, 2) := by decide +kernel
theorem dX12_cone_67 : decode cX12_cone 67 = .ok (.invokevirtual 414, 3) := by decide +kernel
theorem dX12_cone_70 : decode cX12_cone 70 = .ok (.ifCond .eq 7, 3) := by decide +kernel
theorem dX12_cone_73 : decode cX12_cone 73 = .ok (.iconst 1, 1) := by decide +kernel
theorem dX12_cone_74 : decode cX12_cone 74 = .ok (.goto 4, 3) := by decide +kernel
theorem dX12_cone_77 : decode cX12_cone 77 = .ok (.iconst 0, 1) := by decide +kernel
theorem dX12_cone_78 : decode cX12_cone 78 = .ok (.ireturn, 1) := by decide +kernel
theorem dX12_stillFrom_0 : decode cX12_stillFrom 0 = .ok (.aload_n 0, 1) := by decide +kernel
theorem dX12_stillFrom_1 : decode cX12_stillFrom 1 = .ok (.iload_n 1, 1) := by decide +kernel
theorem dX12_stillFrom_2 : decode cX12_stillFrom 2 = .ok (.iconst 0, 1) := by decide +kernel
theorem dX12_stillFrom_3 : decode cX12_stillFrom 3 = .ok (.invokevirtual 151, 3) := by decide +kernel
theorem dX12_stillFrom_6 : decode cX12_stillFrom 6 = .ok (.istore_n 3, 1) := by decide +kernel
theorem dX12_stillFrom_7 : decode cX12_stillFrom 7 = .ok (.aload_n 0, 1) := by decide +kernel
theorem dX12_stillFrom_8 : decode cX12_stillFrom 8 = .ok (.iload_n 1, 1) := by decide +kernel
theorem dX12_stillFrom_9 : decode cX12_stillFrom 9 = .ok (.iconst 1, 1) := by decide +kernel
theorem dX12_stillFrom_10 : decode cX12_stillFrom 10 = .ok (.invokevirtual 151, 3) := by decide +kernel
theorem dX12_stillFrom_13 : decode cX12_stillFrom 13 = .ok (.istore 4, 2) := by decide +kernel
theorem dX12_stillFrom_15 : decode cX12_stillFrom 15 = .ok (.iconst 0, 1) := by decide +kernel
theorem dX12_stillFrom_16 : decode cX12_stillFrom 16 = .ok (.istore 5, 2) := by decide +kernel
theorem dX12_stillFrom_18 : decode cX12_stillFrom 18 = .ok (.iload 5, 2) := by decide +kernel
theorem dX12_stillFrom_20 : decode cX12_stillFrom 20 = .ok (.bipush 20, 2) := by decide +kernel
theorem dX12_stillFrom_22 : decode cX12_stillFrom 22 = .ok (.if_icmp .gt 54, 3) := by decide +kernel
theorem dX12_stillFrom_25 : decode cX12_stillFrom 25 = .ok (.aload_n 0, 1) := by decide +kernel
theorem dX12_stillFrom_26 : decode cX12_stillFrom 26 = .ok (.iload_n 3, 1) := by decide +kernel
theorem dX12_stillFrom_27 : decode cX12_stillFrom 27 = .ok (.iload 4, 2) := by decide +kernel
theorem dX12_stillFrom_29 : decode cX12_stillFrom 29 = .ok (.iload_n 2, 1) := by decide +kernel
theorem dX12_stillFrom_30 : decode cX12_stillFrom 30 = .ok (.invokevirtual 408, 3) := by decide +kernel
theorem dX12_stillFrom_33 : decode cX12_stillFrom 33 = .ok (.lstore 6, 2) := by decide +kernel
theorem dX12_stillFrom_35 : decode cX12_stillFrom 35 = .ok (.lload 6, 2) := by decide +kernel
theorem dX12_stillFrom_37 : decode cX12_stillFrom 37 = .ok (.lconst 0, 1) := by decide +kernel
theorem dX12_stillFrom_38 : decode cX12_stillFrom 38 = .ok (.lcmp, 1) := by decide +kernel
theorem dX12_stillFrom_39 : decode cX12_stillFrom 39 = .ok (.ifCond .ne 5, 3) := by decide +kernel
theorem dX12_stillFrom_42 : decode cX12_stillFrom 42 = .ok (.lconst 0, 1) := by decide +kernel
theorem dX12_stillFrom_43 : decode cX12_stillFrom 43 = .ok (.lreturn, 1) := by decide +kernel
theorem dX12_stillFrom_44 : decode cX12_stillFrom 44 = .ok (.aload_n 0, 1) := by decide +kernel
theorem dX12_stillFrom_45 : decode cX12_stillFrom 45 = .ok (.iload_n 3, 1) := by decide +kernel
theorem dX12_stillFrom_46 : decode cX12_stillFrom 46 = .ok (.iload 4, 2) := by decide +kernel
theorem dX12_stillFrom_48 : decode cX12_stillFrom 48 = .ok (.lload 6, 2) := by decide +kernel
theorem dX12_stillFrom_50 : decode cX12_stillFrom 50 = .ok (.invokevirtual 414, 3) := by decide +kernel
theorem dX12_stillFrom_53 : decode cX12_stillFrom 53 = .ok (.ifCond .eq 6, 3) := by decide +kernel
theorem dX12_stillFrom_56 : decode cX12_stillFrom 56 = .ok (.lload 6, 2) := by decide +kernel
theorem dX12_stillFrom_58 : decode cX12_stillFrom 58 = .ok (.lreturn, 1) := by decide +kernel
theorem dX12_stillFrom_59 : decode cX12_stillFrom 59 = .ok (.aload_n 0, 1) := by decide +kernel
theorem dX12_stillFrom_60 : decode cX12_stillFrom 60 = .ok (.getfield 398, 3) := by decide +kernel
theorem dX12_stillFrom_63 : decode cX12_stillFrom 63 = .ok (.istore_n 3, 1) := by decide +kernel
theorem dX12_stillFrom_64 : decode cX12_stillFrom 64 = .ok (.aload_n 0, 1) := by decide +kernel
theorem dX12_stillFrom_65 : decode cX12_stillFrom 65 = .ok (.getfield 401, 3) := by decide +kernel
theorem dX12_stillFrom_68 : decode cX12_stillFrom 68 = .ok (.istore 4, 2) := by decide +kernel
theorem dX12_stillFrom_70 : decode cX12_stillFrom 70 = .ok (.iinc 5 1, 3) := by decide +kernel
theorem dX12_stillFrom_73 : decode cX12_stillFrom 73 = .ok (.goto (-55), 3) := by decide +kernel
theorem dX12_stillFrom_76 : decode cX12_stillFrom 76 = .ok (.lconst 0, 1) := by decide +kernel
theorem dX12_stillFrom_77 : decode cX12_stillFrom 77 = .ok (.lreturn, 1) := by decide +kernel
theorem dX12_layStill_0 : decode cX12_layStill 0 = .ok (.aload_n 0, 1) := by decide +kernel
theorem dX12_layStill_1 : decode cX12_layStill 1 = .ok (.iconst 0, 1) := by decide +kernel
theorem dX12_layStill_2 : decode cX12_layStill 2 = .ok (.putfield 418, 3) := by decide +kernel
theorem dX12_layStill_5 : decode cX12_layStill 5 = .ok (.iconst 0, 1) := by decide +kernel
theorem dX12_layStill_6 : decode cX12_layStill 6 = .ok (.istore_n 2, 1) := by decide +kernel
theorem dX12_layStill_7 : decode cX12_layStill 7 = .ok (.iload_n 2, 1) := by decide +kernel
theorem dX12_layStill_8 : decode cX12_layStill 8 = .ok (.aload_n 0, 1) := by decide +kernel
theorem dX12_layStill_9 : decode cX12_layStill 9 = .ok (.invokevirtual 77, 3) := by decide +kernel
theorem dX12_layStill_12 : decode cX12_layStill 12 = .ok (.if_icmp .ge 99, 3) := by decide +kernel
theorem dX12_layStill_15 : decode cX12_layStill 15 = .ok (.aload_n 0, 1) := by decide +kernel
theorem dX12_layStill_16 : decode cX12_layStill 16 = .ok (.iload_n 2, 1) := by decide +kernel
theorem dX12_layStill_17 : decode cX12_layStill 17 = .ok (.iload_n 1, 1) := by decide +kernel
theorem dX12_layStill_18 : decode cX12_layStill 18 = .ok (.invokevirtual 421, 3) := by decide +kernel
theorem dX12_layStill_21 : decode cX12_layStill 21 = .ok (.lstore_n 3, 1) := by decide +kernel
theorem dX12_layStill_22 : decode cX12_layStill 22 = .ok (.lload_n 3, 1) := by decide +kernel
theorem dX12_layStill_23 : decode cX12_layStill 23 = .ok (.lconst 0, 1) := by decide +kernel
theorem dX12_layStill_24 : decode cX12_layStill 24 = .ok (.lcmp, 1) := by decide +kernel
theorem dX12_layStill_25 : decode cX12_layStill 25 = .ok (.ifCond .eq 7, 3) := by decide +kernel
theorem dX12_layStill_28 : decode cX12_layStill 28 = .ok (.iconst 1, 1) := by decide +kernel
theorem dX12_layStill_29 : decode cX12_layStill 29 = .ok (.goto 4, 3) := by decide +kernel
theorem dX12_layStill_32 : decode cX12_layStill 32 = .ok (.iconst 0, 1) := by decide +kernel
theorem dX12_layStill_33 : decode cX12_layStill 33 = .ok (.istore 5, 2) := by decide +kernel
theorem dX12_layStill_35 : decode cX12_layStill 35 = .ok (.iconst 0, 1) := by decide +kernel
theorem dX12_layStill_36 : decode cX12_layStill 36 = .ok (.istore 6, 2) := by decide +kernel
theorem dX12_layStill_38 : decode cX12_layStill 38 = .ok (.iload 6, 2) := by decide +kernel
theorem dX12_layStill_40 : decode cX12_layStill 40 = .ok (.aload_n 0, 1) := by decide +kernel
theorem dX12_layStill_41 : decode cX12_layStill 41 = .ok (.getfield 418, 3) := by decide +kernel
theorem dX12_layStill_44 : decode cX12_layStill 44 = .ok (.if_icmp .ge 33, 3) := by decide +kernel
theorem dX12_layStill_47 : decode cX12_layStill 47 = .ok (.iload 5, 2) := by decide +kernel
theorem dX12_layStill_49 : decode cX12_layStill 49 = .ok (.ifCond .eq 19, 3) := by decide +kernel
theorem dX12_layStill_52 : decode cX12_layStill 52 = .ok (.aload_n 0, 1) := by decide +kernel
theorem dX12_layStill_53 : decode cX12_layStill 53 = .ok (.getfield 57, 3) := by decide +kernel
theorem dX12_layStill_56 : decode cX12_layStill 56 = .ok (.iload 6, 2) := by decide +kernel
theorem dX12_layStill_58 : decode cX12_layStill 58 = .ok (.laload, 1) := by decide +kernel
theorem dX12_layStill_59 : decode cX12_layStill 59 = .ok (.lload_n 3, 1) := by decide +kernel
theorem dX12_layStill_60 : decode cX12_layStill 60 = .ok (.lcmp, 1) := by decide +kernel
theorem dX12_layStill_61 : decode cX12_layStill 61 = .ok (.ifCond .eq 7, 3) := by decide +kernel
theorem dX12_layStill_64 : decode cX12_layStill 64 = .ok (.iconst 1, 1) := by decide +kernel
theorem dX12_layStill_65 : decode cX12_layStill 65 = .ok (.goto 4, 3) := by decide +kernel
theorem dX12_layStill_68 : decode cX12_layStill 68 = .ok (.iconst 0, 1) := by decide +kernel
theorem dX12_layStill_69 : decode cX12_layStill 69 = .ok (.istore 5, 2) := by decide +kernel
theorem dX12_layStill_71 : decode cX12_layStill 71 = .ok (.iinc 6 1, 3) := by decide +kernel
theorem dX12_layStill_74 : decode cX12_layStill 74 = .ok (.goto (-36), 3) := by decide +kernel
theorem dX12_layStill_77 : decode cX12_layStill 77 = .ok (.iload 5, 2) := by decide +kernel
theorem dX12_layStill_79 : decode cX12_layStill 79 = .ok (.ifCond .ne 6, 3) := by decide +kernel
theorem dX12_layStill_82 : decode cX12_layStill 82 = .ok (.goto 23, 3) := by decide +kernel
theorem dX12_layStill_85 : decode cX12_layStill 85 = .ok (.aload_n 0, 1) := by decide +kernel
theorem dX12_layStill_86 : decode cX12_layStill 86 = .ok (.getfield 57, 3) := by decide +kernel
theorem dX12_layStill_89 : decode cX12_layStill 89 = .ok (.aload_n 0, 1) := by decide +kernel
theorem dX12_layStill_90 : decode cX12_layStill 90 = .ok (.getfield 418, 3) := by decide +kernel
theorem dX12_layStill_93 : decode cX12_layStill 93 = .ok (.lload_n 3, 1) := by decide +kernel
theorem dX12_layStill_94 : decode cX12_layStill 94 = .ok (.lastore, 1) := by decide +kernel
theorem dX12_layStill_95 : decode cX12_layStill 95 = .ok (.aload_n 0, 1) := by decide +kernel
theorem dX12_layStill_96 : decode cX12_layStill 96 = .ok (.dup, 1) := by decide +kernel
theorem dX12_layStill_97 : decode cX12_layStill 97 = .ok (.getfield 418, 3) := by decide +kernel
theorem dX12_layStill_100 : decode cX12_layStill 100 = .ok (.iconst 1, 1) := by decide +kernel
theorem dX12_layStill_101 : decode cX12_layStill 101 = .ok (.iadd, 1) := by decide +kernel
theorem dX12_layStill_102 : decode cX12_layStill 102 = .ok (.putfield 418, 3) := by decide +kernel
theorem dX12_layStill_105 : decode cX12_layStill 105 = .ok (.iinc 2 1, 3) := by decide +kernel
theorem dX12_layStill_108 : decode cX12_layStill 108 = .ok (.goto (-101), 3) := by decide +kernel
theorem dX12_layStill_111 : decode cX12_layStill 111 = .ok (.return_, 1) := by decide +kernel
theorem dX12_still_0 : decode cX12_still 0 = .ok (.iload_n 1, 1) := by decide +kernel
theorem dX12_still_1 : decode cX12_still 1 = .ok (.invokestatic 334, 3) := by decide +kernel
theorem dX12_still_4 : decode cX12_still 4 = .ok (.ifCond .ne 7, 3) := by decide +kernel
theorem dX12_still_7 : decode cX12_still 7 = .ok (.ldc2_w 254, 3) := by decide +kernel
theorem dX12_still_10 : decode cX12_still 10 = .ok (.lreturn, 1) := by decide +kernel
theorem dX12_still_11 : decode cX12_still 11 = .ok (.aload_n 0, 1) := by decide +kernel
theorem dX12_still_12 : decode cX12_still 12 = .ok (.iload_n 1, 1) := by decide +kernel
theorem dX12_still_13 : decode cX12_still 13 = .ok (.invokevirtual 424, 3) := by decide +kernel
theorem dX12_still_16 : decode cX12_still 16 = .ok (.iload_n 2, 1) := by decide +kernel
theorem dX12_still_17 : decode cX12_still 17 = .ok (.iconst (-1), 1) := by decide +kernel
theorem dX12_still_18 : decode cX12_still 18 = .ok (.if_icmp .ne 11, 3) := by decide +kernel
theorem dX12_still_21 : decode cX12_still 21 = .ok (.aload_n 0, 1) := by decide +kernel
theorem dX12_still_22 : decode cX12_still 22 = .ok (.getfield 418, 3) := by decide +kernel
theorem dX12_still_25 : decode cX12_still 25 = .ok (.i2l, 1) := by decide +kernel
theorem dX12_still_26 : decode cX12_still 26 = .ok (.goto 29, 3) := by decide +kernel
theorem dX12_still_29 : decode cX12_still 29 = .ok (.iload_n 2, 1) := by decide +kernel
theorem dX12_still_30 : decode cX12_still 30 = .ok (.iconst 0, 1) := by decide +kernel
theorem dX12_still_31 : decode cX12_still 31 = .ok (.aload_n 0, 1) := by decide +kernel
theorem dX12_still_32 : decode cX12_still 32 = .ok (.getfield 418, 3) := by decide +kernel
theorem dX12_still_35 : decode cX12_still 35 = .ok (.iconst 1, 1) := by decide +kernel
theorem dX12_still_36 : decode cX12_still 36 = .ok (.isub, 1) := by decide +kernel
theorem dX12_still_37 : decode cX12_still 37 = .ok (.invokestatic 69, 3) := by decide +kernel
theorem dX12_still_40 : decode cX12_still 40 = .ok (.ifCond .eq 12, 3) := by decide +kernel
theorem dX12_still_43 : decode cX12_still 43 = .ok (.aload_n 0, 1) := by decide +kernel
theorem dX12_still_44 : decode cX12_still 44 = .ok (.getfield 57, 3) := by decide +kernel
theorem dX12_still_47 : decode cX12_still 47 = .ok (.iload_n 2, 1) := by decide +kernel
theorem dX12_still_48 : decode cX12_still 48 = .ok (.laload, 1) := by decide +kernel
theorem dX12_still_49 : decode cX12_still 49 = .ok (.goto 6, 3) := by decide +kernel
theorem dX12_still_52 : decode cX12_still 52 = .ok (.ldc2_w 254, 3) := by decide +kernel
theorem dX12_still_55 : decode cX12_still 55 = .ok (.lreturn, 1) := by decide +kernel
theorem dX12_heaviest_0 : decode cX12_heaviest 0 = .ok (.iconst (-1), 1) := by decide +kernel
theorem dX12_heaviest_1 : decode cX12_heaviest 1 = .ok (.istore_n 2, 1) := by decide +kernel
theorem dX12_heaviest_2 : decode cX12_heaviest 2 = .ok (.iconst 0, 1) := by decide +kernel
theorem dX12_heaviest_3 : decode cX12_heaviest 3 = .ok (.istore_n 3, 1) := by decide +kernel
theorem dX12_heaviest_4 : decode cX12_heaviest 4 = .ok (.iload_n 3, 1) := by decide +kernel
theorem dX12_heaviest_5 : decode cX12_heaviest 5 = .ok (.aload_n 0, 1) := by decide +kernel
theorem dX12_heaviest_6 : decode cX12_heaviest 6 = .ok (.getfield 418, 3) := by decide +kernel
theorem dX12_heaviest_9 : decode cX12_heaviest 9 = .ok (.if_icmp .ge 81, 3) := by decide +kernel
theorem dX12_heaviest_12 : decode cX12_heaviest 12 = .ok (.aload_n 0, 1) := by decide +kernel
theorem dX12_heaviest_13 : decode cX12_heaviest 13 = .ok (.getfield 57, 3) := by decide +kernel
theorem dX12_heaviest_16 : decode cX12_heaviest 16 = .ok (.iload_n 3, 1) := by decide +kernel
theorem dX12_heaviest_17 : decode cX12_heaviest 17 = .ok (.laload, 1) := by decide +kernel
theorem dX12_heaviest_18 : decode cX12_heaviest 18 = .ok (.lconst 0, 1) := by decide +kernel
theorem dX12_heaviest_19 : decode cX12_heaviest 19 = .ok (.lcmp, 1) := by decide +kernel
theorem dX12_heaviest_20 : decode cX12_heaviest 20 = .ok (.ifCond .eq 64, 3) := by decide +kernel
theorem dX12_heaviest_23 : decode cX12_heaviest 23 = .ok (.iload_n 3, 1) := by decide +kernel
theorem dX12_heaviest_24 : decode cX12_heaviest 24 = .ok (.iload_n 1, 1) := by decide +kernel
theorem dX12_heaviest_25 : decode cX12_heaviest 25 = .ok (.if_icmp .eq 59, 3) := by decide +kernel
theorem dX12_heaviest_28 : decode cX12_heaviest 28 = .ok (.iload_n 1, 1) := by decide +kernel
theorem dX12_heaviest_29 : decode cX12_heaviest 29 = .ok (.iconst (-1), 1) := by decide +kernel
theorem dX12_heaviest_30 : decode cX12_heaviest 30 = .ok (.if_icmp .eq 24, 3) := by decide +kernel
theorem dX12_heaviest_33 : decode cX12_heaviest 33 = .ok (.aload_n 0, 1) := by decide +kernel
theorem dX12_heaviest_34 : decode cX12_heaviest 34 = .ok (.getfield 57, 3) := by decide +kernel
theorem dX12_heaviest_37 : decode cX12_heaviest 37 = .ok (.iload_n 3, 1) := by decide +kernel
theorem dX12_heaviest_38 : decode cX12_heaviest 38 = .ok (.laload, 1) := by decide +kernel
theorem dX12_heaviest_39 : decode cX12_heaviest 39 = .ok (.aload_n 0, 1) := by decide +kernel
theorem dX12_heaviest_40 : decode cX12_heaviest 40 = .ok (.getfield 57, 3) := by decide +kernel
theorem dX12_heaviest_43 : decode cX12_heaviest 43 = .ok (.iload_n 1, 1) := by decide +kernel
theorem dX12_heaviest_44 : decode cX12_heaviest 44 = .ok (.laload, 1) := by decide +kernel
theorem dX12_heaviest_45 : decode cX12_heaviest 45 = .ok (.land, 1) := by decide +kernel
theorem dX12_heaviest_46 : decode cX12_heaviest 46 = .ok (.lconst 0, 1) := by decide +kernel
theorem dX12_heaviest_47 : decode cX12_heaviest 47 = .ok (.lcmp, 1) := by decide +kernel
theorem dX12_heaviest_48 : decode cX12_heaviest 48 = .ok (.ifCond .ne 6, 3) := by decide +kernel
theorem dX12_heaviest_51 : decode cX12_heaviest 51 = .ok (.goto 33, 3) := by decide +kernel
theorem dX12_heaviest_54 : decode cX12_heaviest 54 = .ok (.iload_n 2, 1) := by decide +kernel
theorem dX12_heaviest_55 : decode cX12_heaviest 55 = .ok (.iconst (-1), 1) := by decide +kernel
theorem dX12_heaviest_56 : decode cX12_heaviest 56 = .ok (.if_icmp .eq 26, 3) := by decide +kernel
theorem dX12_heaviest_59 : decode cX12_heaviest 59 = .ok (.aload_n 0, 1) := by decide +kernel
theorem dX12_heaviest_60 : decode cX12_heaviest 60 = .ok (.aload_n 0, 1) := by decide +kernel
theorem dX12_heaviest_61 : decode cX12_heaviest 61 = .ok (.getfield 57, 3) := by decide +kernel
theorem dX12_heaviest_64 : decode cX12_heaviest 64 = .ok (.iload_n 3, 1) := by decide +kernel
theorem dX12_heaviest_65 : decode cX12_heaviest 65 = .ok (.laload, 1) := by decide +kernel
theorem dX12_heaviest_66 : decode cX12_heaviest 66 = .ok (.invokevirtual 223, 3) := by decide +kernel
theorem dX12_heaviest_69 : decode cX12_heaviest 69 = .ok (.aload_n 0, 1) := by decide +kernel
theorem dX12_heaviest_70 : decode cX12_heaviest 70 = .ok (.aload_n 0, 1) := by decide +kernel
theorem dX12_heaviest_71 : decode cX12_heaviest 71 = .ok (.getfield 57, 3) := by decide +kernel
theorem dX12_heaviest_74 : decode cX12_heaviest 74 = .ok (.iload_n 2, 1) := by decide +kernel
theorem dX12_heaviest_75 : decode cX12_heaviest 75 = .ok (.laload, 1) := by decide +kernel
theorem dX12_heaviest_76 : decode cX12_heaviest 76 = .ok (.invokevirtual 223, 3) := by decide +kernel
theorem dX12_heaviest_79 : decode cX12_heaviest 79 = .ok (.if_icmp .le 5, 3) := by decide +kernel
theorem dX12_heaviest_82 : decode cX12_heaviest 82 = .ok (.iload_n 3, 1) := by decide +kernel
theorem dX12_heaviest_83 : decode cX12_heaviest 83 = .ok (.istore_n 2, 1) := by decide +kernel
theorem dX12_heaviest_84 : decode cX12_heaviest 84 = .ok (.iinc 3 1, 3) := by decide +kernel
theorem dX12_heaviest_87 : decode cX12_heaviest 87 = .ok (.goto (-83), 3) := by decide +kernel
theorem dX12_heaviest_90 : decode cX12_heaviest 90 = .ok (.iload_n 2, 1) := by decide +kernel
theorem dX12_heaviest_91 : decode cX12_heaviest 91 = .ok (.ireturn, 1) := by decide +kernel
theorem dX12_part_0 : decode cX12_part 0 = .ok (.aload_n 0, 1) := by decide +kernel
theorem dX12_part_1 : decode cX12_part 1 = .ok (.getfield 57, 3) := by decide +kernel
theorem dX12_part_4 : decode cX12_part 4 = .ok (.iload_n 1, 1) := by decide +kernel
theorem dX12_part_5 : decode cX12_part 5 = .ok (.laload, 1) := by decide +kernel
theorem dX12_part_6 : decode cX12_part 6 = .ok (.aload_n 0, 1) := by decide +kernel
theorem dX12_part_7 : decode cX12_part 7 = .ok (.getfield 57, 3) := by decide +kernel
theorem dX12_part_10 : decode cX12_part 10 = .ok (.iload_n 2, 1) := by decide +kernel
theorem dX12_part_11 : decode cX12_part 11 = .ok (.laload, 1) := by decide +kernel
theorem dX12_part_12 : decode cX12_part 12 = .ok (.land, 1) := by decide +kernel
theorem dX12_part_13 : decode cX12_part 13 = .ok (.lstore_n 3, 1) := by decide +kernel
theorem dX12_part_14 : decode cX12_part 14 = .ok (.aload_n 0, 1) := by decide +kernel
theorem dX12_part_15 : decode cX12_part 15 = .ok (.aload_n 0, 1) := by decide +kernel
theorem dX12_part_16 : decode cX12_part 16 = .ok (.getfield 57, 3) := by decide +kernel
theorem dX12_part_19 : decode cX12_part 19 = .ok (.iload_n 1, 1) := by decide +kernel
theorem dX12_part_20 : decode cX12_part 20 = .ok (.laload, 1) := by decide +kernel
theorem dX12_part_21 : decode cX12_part 21 = .ok (.invokevirtual 404, 3) := by decide +kernel
theorem dX12_part_24 : decode cX12_part 24 = .ok (.aload_n 0, 1) := by decide +kernel
theorem dX12_part_25 : decode cX12_part 25 = .ok (.getfield 398, 3) := by decide +kernel
theorem dX12_part_28 : decode cX12_part 28 = .ok (.istore 5, 2) := by decide +kernel
theorem dX12_part_30 : decode cX12_part 30 = .ok (.aload_n 0, 1) := by decide +kernel
theorem dX12_part_31 : decode cX12_part 31 = .ok (.getfield 401, 3) := by decide +kernel
theorem dX12_part_34 : decode cX12_part 34 = .ok (.istore 6, 2) := by decide +kernel
theorem dX12_part_36 : decode cX12_part 36 = .ok (.aload_n 0, 1) := by decide +kernel
theorem dX12_part_37 : decode cX12_part 37 = .ok (.aload_n 0, 1) := by decide +kernel
theorem dX12_part_38 : decode cX12_part 38 = .ok (.getfield 57, 3) := by decide +kernel
theorem dX12_part_41 : decode cX12_part 41 = .ok (.iload_n 2, 1) := by decide +kernel
theorem dX12_part_42 : decode cX12_part 42 = .ok (.laload, 1) := by decide +kernel
theorem dX12_part_43 : decode cX12_part 43 = .ok (.invokevirtual 404, 3) := by decide +kernel
theorem dX12_part_46 : decode cX12_part 46 = .ok (.iconst 0, 1) := by decide +kernel
theorem dX12_part_47 : decode cX12_part 47 = .ok (.istore 7, 2) := by decide +kernel
theorem dX12_part_49 : decode cX12_part 49 = .ok (.iload 7, 2) := by decide +kernel
theorem dX12_part_51 : decode cX12_part 51 = .ok (.aload_n 0, 1) := by decide +kernel
theorem dX12_part_52 : decode cX12_part 52 = .ok (.invokevirtual 77, 3) := by decide +kernel
theorem dX12_part_55 : decode cX12_part 55 = .ok (.if_icmp .ge 103, 3) := by decide +kernel
theorem dX12_part_58 : decode cX12_part 58 = .ok (.lload_n 3, 1) := by decide +kernel
theorem dX12_part_59 : decode cX12_part 59 = .ok (.iload 7, 2) := by decide +kernel
theorem dX12_part_61 : decode cX12_part 61 = .ok (.invokestatic 154, 3) := by decide +kernel
theorem dX12_part_64 : decode cX12_part 64 = .ok (.ifCond .ne 6, 3) := by decide +kernel
theorem dX12_part_67 : decode cX12_part 67 = .ok (.goto 85, 3) := by decide +kernel
theorem dX12_part_70 : decode cX12_part 70 = .ok (.aload_n 0, 1) := by decide +kernel
theorem dX12_part_71 : decode cX12_part 71 = .ok (.iload 7, 2) := by decide +kernel
theorem dX12_part_73 : decode cX12_part 73 = .ok (.iconst 0, 1) := by decide +kernel
theorem dX12_part_74 : decode cX12_part 74 = .ok (.invokevirtual 151, 3) := by decide +kernel
theorem dX12_part_77 : decode cX12_part 77 = .ok (.aload_n 0, 1) := by decide +kernel
theorem dX12_part_78 : decode cX12_part 78 = .ok (.iload 7, 2) := by decide +kernel
theorem dX12_part_80 : decode cX12_part 80 = .ok (.iconst 1, 1) := by decide +kernel
theorem dX12_part_81 : decode cX12_part 81 = .ok (.invokevirtual 151, 3) := by decide +kernel
theorem dX12_part_84 : decode cX12_part 84 = .ok (.aload_n 0, 1) := by decide +kernel
theorem dX12_part_85 : decode cX12_part 85 = .ok (.getfield 398, 3) := by decide +kernel
theorem dX12_part_88 : decode cX12_part 88 = .ok (.aload_n 0, 1) := by decide +kernel
theorem dX12_part_89 : decode cX12_part 89 = .ok (.getfield 401, 3) := by decide +kernel
theorem dX12_part_92 : decode cX12_part 92 = .ok (.invokestatic 102, 3) := by decide +kernel
theorem dX12_part_95 : decode cX12_part 95 = .ok (.aload_n 0, 1) := by decide +kernel
theorem dX12_part_96 : decode cX12_part 96 = .ok (.iload 7, 2) := by decide +kernel
theorem dX12_part_98 : decode cX12_part 98 = .ok (.iconst 0, 1) := by decide +kernel
theorem dX12_part_99 : decode cX12_part 99 = .ok (.invokevirtual 151, 3) := by decide +kernel
theorem dX12_part_102 : decode cX12_part 102 = .ok (.aload_n 0, 1) := by decide +kernel
theorem dX12_part_103 : decode cX12_part 103 = .ok (.iload 7, 2) := by decide +kernel
theorem dX12_part_105 : decode cX12_part 105 = .ok (.iconst 1, 1) := by decide +kernel
theorem dX12_part_106 : decode cX12_part 106 = .ok (.invokevirtual 151, 3) := by decide +kernel
theorem dX12_part_109 : decode cX12_part 109 = .ok (.iload 5, 2) := by decide +kernel
theorem dX12_part_111 : decode cX12_part 111 = .ok (.iload 6, 2) := by decide +kernel
theorem dX12_part_113 : decode cX12_part 113 = .ok (.invokestatic 102, 3) := by decide +kernel
theorem dX12_part_116 : decode cX12_part 116 = .ok (.if_icmp .ge 7, 3) := by decide +kernel
theorem dX12_part_119 : decode cX12_part 119 = .ok (.iconst 1, 1) := by decide +kernel
theorem dX12_part_120 : decode cX12_part 120 = .ok (.goto 4, 3) := by decide +kernel
theorem dX12_part_123 : decode cX12_part 123 = .ok (.iconst 0, 1) := by decide +kernel
theorem dX12_part_124 : decode cX12_part 124 = .ok (.istore 8, 2) := by decide +kernel
theorem dX12_part_126 : decode cX12_part 126 = .ok (.aload_n 0, 1) := by decide +kernel
theorem dX12_part_127 : decode cX12_part 127 = .ok (.getfield 57, 3) := by decide +kernel
theorem dX12_part_130 : decode cX12_part 130 = .ok (.iload 8, 2) := by decide +kernel
theorem dX12_part_132 : decode cX12_part 132 = .ok (.ifCond .eq 7, 3) := by decide +kernel
theorem dX12_part_135 : decode cX12_part 135 = .ok (.iload_n 1, 1) := by decide +kernel
theorem dX12_part_136 : decode cX12_part 136 = .ok (.goto 4, 3) := by decide +kernel
theorem dX12_part_139 : decode cX12_part 139 = .ok (.iload_n 2, 1) := by decide +kernel
theorem dX12_part_140 : decode cX12_part 140 = .ok (.dup2, 1) := by decide +kernel
theorem dX12_part_141 : decode cX12_part 141 = .ok (.laload, 1) := by decide +kernel
theorem dX12_part_142 : decode cX12_part 142 = .ok (.lconst 1, 1) := by decide +kernel
theorem dX12_part_143 : decode cX12_part 143 = .ok (.iload 7, 2) := by decide +kernel
theorem dX12_part_145 : decode cX12_part 145 = .ok (.lshl, 1) := by decide +kernel
theorem dX12_part_146 : decode cX12_part 146 = .ok (.ldc2_w 254, 3) := by decide +kernel
theorem dX12_part_149 : decode cX12_part 149 = .ok (.lxor, 1) := by decide +kernel
theorem dX12_part_150 : decode cX12_part 150 = .ok (.land, 1) := by decide +kernel
theorem dX12_part_151 : decode cX12_part 151 = .ok (.lastore, 1) := by decide +kernel
theorem dX12_part_152 : decode cX12_part 152 = .ok (.iinc 7 1, 3) := by decide +kernel
theorem dX12_part_155 : decode cX12_part 155 = .ok (.goto (-106), 3) := by decide +kernel
theorem dX12_part_158 : decode cX12_part 158 = .ok (.return_, 1) := by decide +kernel
theorem dX12_isMerged_0 : decode cX12_isMerged 0 = .ok (.aload_n 0, 1) := by decide +kernel
theorem dX12_isMerged_1 : decode cX12_isMerged 1 = .ok (.aload_n 0, 1) := by decide +kernel
theorem dX12_isMerged_2 : decode cX12_isMerged 2 = .ok (.getfield 57, 3) := by decide +kernel
theorem dX12_isMerged_5 : decode cX12_isMerged 5 = .ok (.iload_n 1, 1) := by decide +kernel
theorem dX12_isMerged_6 : decode cX12_isMerged 6 = .ok (.laload, 1) := by decide +kernel
theorem dX12_isMerged_7 : decode cX12_isMerged 7 = .ok (.invokevirtual 223, 3) := by decide +kernel
theorem dX12_isMerged_10 : decode cX12_isMerged 10 = .ok (.istore 4, 2) := by decide +kernel
theorem dX12_isMerged_12 : decode cX12_isMerged 12 = .ok (.aload_n 0, 1) := by decide +kernel
theorem dX12_isMerged_13 : decode cX12_isMerged 13 = .ok (.aload_n 0, 1) := by decide +kernel
theorem dX12_isMerged_14 : decode cX12_isMerged 14 = .ok (.getfield 57, 3) := by decide +kernel
theorem dX12_isMerged_17 : decode cX12_isMerged 17 = .ok (.iload_n 2, 1) := by decide +kernel
theorem dX12_isMerged_18 : decode cX12_isMerged 18 = .ok (.laload, 1) := by decide +kernel
theorem dX12_isMerged_19 : decode cX12_isMerged 19 = .ok (.invokevirtual 223, 3) := by decide +kernel
theorem dX12_isMerged_22 : decode cX12_isMerged 22 = .ok (.istore 5, 2) := by decide +kernel
theorem dX12_isMerged_24 : decode cX12_isMerged 24 = .ok (.ldc2_w 427, 3) := by decide +kernel
theorem dX12_isMerged_27 : decode cX12_isMerged 27 = .ok (.aload_n 0, 1) := by decide +kernel
theorem dX12_isMerged_28 : decode cX12_isMerged 28 = .ok (.aload_n 0, 1) := by decide +kernel
theorem dX12_isMerged_29 : decode cX12_isMerged 29 = .ok (.getfield 57, 3) := by decide +kernel
theorem dX12_isMerged_32 : decode cX12_isMerged 32 = .ok (.iload_n 1, 1) := by decide +kernel
theorem dX12_isMerged_33 : decode cX12_isMerged 33 = .ok (.laload, 1) := by decide +kernel
theorem dX12_isMerged_34 : decode cX12_isMerged 34 = .ok (.aload_n 0, 1) := by decide +kernel
theorem dX12_isMerged_35 : decode cX12_isMerged 35 = .ok (.getfield 57, 3) := by decide +kernel
theorem dX12_isMerged_38 : decode cX12_isMerged 38 = .ok (.iload_n 2, 1) := by decide +kernel
theorem dX12_isMerged_39 : decode cX12_isMerged 39 = .ok (.laload, 1) := by decide +kernel
theorem dX12_isMerged_40 : decode cX12_isMerged 40 = .ok (.land, 1) := by decide +kernel
theorem dX12_isMerged_41 : decode cX12_isMerged 41 = .ok (.invokevirtual 223, 3) := by decide +kernel
theorem dX12_isMerged_44 : decode cX12_isMerged 44 = .ok (.i2l, 1) := by decide +kernel
theorem dX12_isMerged_45 : decode cX12_isMerged 45 = .ok (.lmul, 1) := by decide +kernel
theorem dX12_isMerged_46 : decode cX12_isMerged 46 = .ok (.iload_n 3, 1) := by decide +kernel
theorem dX12_isMerged_47 : decode cX12_isMerged 47 = .ok (.i2l, 1) := by decide +kernel
theorem dX12_isMerged_48 : decode cX12_isMerged 48 = .ok (.iload 4, 2) := by decide +kernel
theorem dX12_isMerged_50 : decode cX12_isMerged 50 = .ok (.iload 5, 2) := by decide +kernel
theorem dX12_isMerged_52 : decode cX12_isMerged 52 = .ok (.if_icmp .ge 8, 3) := by decide +kernel
theorem dX12_isMerged_55 : decode cX12_isMerged 55 = .ok (.iload 4, 2) := by decide +kernel
theorem dX12_isMerged_57 : decode cX12_isMerged 57 = .ok (.goto 5, 3) := by decide +kernel
theorem dX12_isMerged_60 : decode cX12_isMerged 60 = .ok (.iload 5, 2) := by decide +kernel
theorem dX12_isMerged_62 : decode cX12_isMerged 62 = .ok (.i2l, 1) := by decide +kernel
theorem dX12_isMerged_63 : decode cX12_isMerged 63 = .ok (.lmul, 1) := by decide +kernel
theorem dX12_isMerged_64 : decode cX12_isMerged 64 = .ok (.lcmp, 1) := by decide +kernel
theorem dX12_isMerged_65 : decode cX12_isMerged 65 = .ok (.ifCond .lt 7, 3) := by decide +kernel
theorem dX12_isMerged_68 : decode cX12_isMerged 68 = .ok (.iconst 1, 1) := by decide +kernel
theorem dX12_isMerged_69 : decode cX12_isMerged 69 = .ok (.goto 4, 3) := by decide +kernel
theorem dX12_isMerged_72 : decode cX12_isMerged 72 = .ok (.iconst 0, 1) := by decide +kernel
theorem dX12_isMerged_73 : decode cX12_isMerged 73 = .ok (.ireturn, 1) := by decide +kernel
theorem dX12_patch_0 : decode cX12_patch 0 = .ok (.iload_n 1, 1) := by decide +kernel
theorem dX12_patch_1 : decode cX12_patch 1 = .ok (.invokestatic 334, 3) := by decide +kernel
theorem dX12_patch_4 : decode cX12_patch 4 = .ok (.ifCond .eq 15, 3) := by decide +kernel
theorem dX12_patch_7 : decode cX12_patch 7 = .ok (.iload_n 2, 1) := by decide +kernel
theorem dX12_patch_8 : decode cX12_patch 8 = .ok (.invokestatic 324, 3) := by decide +kernel
theorem dX12_patch_11 : decode cX12_patch 11 = .ok (.ifCond .eq 8, 3) := by decide +kernel
theorem dX12_patch_14 : decode cX12_patch 14 = .ok (.iload_n 3, 1) := by decide +kernel
theorem dX12_patch_15 : decode cX12_patch 15 = .ok (.iconst (-1), 1) := by decide +kernel
theorem dX12_patch_16 : decode cX12_patch 16 = .ok (.if_icmp .ge 7, 3) := by decide +kernel
theorem dX12_patch_19 : decode cX12_patch 19 = .ok (.ldc2_w 254, 3) := by decide +kernel
theorem dX12_patch_22 : decode cX12_patch 22 = .ok (.lreturn, 1) := by decide +kernel
theorem dX12_patch_23 : decode cX12_patch 23 = .ok (.aload_n 0, 1) := by decide +kernel
theorem dX12_patch_24 : decode cX12_patch 24 = .ok (.iload_n 1, 1) := by decide +kernel
theorem dX12_patch_25 : decode cX12_patch 25 = .ok (.invokevirtual 424, 3) := by decide +kernel
theorem dX12_patch_28 : decode cX12_patch 28 = .ok (.iconst 0, 1) := by decide +kernel
theorem dX12_patch_29 : decode cX12_patch 29 = .ok (.istore 4, 2) := by decide +kernel
theorem dX12_patch_31 : decode cX12_patch 31 = .ok (.aload_n 0, 1) := by decide +kernel
theorem dX12_patch_32 : decode cX12_patch 32 = .ok (.iconst (-1), 1) := by decide +kernel
theorem dX12_patch_33 : decode cX12_patch 33 = .ok (.invokevirtual 429, 3) := by decide +kernel
theorem dX12_patch_36 : decode cX12_patch 36 = .ok (.istore 5, 2) := by decide +kernel
theorem dX12_patch_38 : decode cX12_patch 38 = .ok (.iload 5, 2) := by decide +kernel
theorem dX12_patch_40 : decode cX12_patch 40 = .ok (.iconst (-1), 1) := by decide +kernel
theorem dX12_patch_41 : decode cX12_patch 41 = .ok (.if_icmp .eq 103, 3) := by decide +kernel
theorem dX12_patch_44 : decode cX12_patch 44 = .ok (.aload_n 0, 1) := by decide +kernel
theorem dX12_patch_45 : decode cX12_patch 45 = .ok (.iload 5, 2) := by decide +kernel
theorem dX12_patch_47 : decode cX12_patch 47 = .ok (.invokevirtual 429, 3) := by decide +kernel
theorem dX12_patch_50 : decode cX12_patch 50 = .ok (.istore 6, 2) := by decide +kernel
theorem dX12_patch_52 : decode cX12_patch 52 = .ok (.iload 6, 2) := by decide +kernel
theorem dX12_patch_54 : decode cX12_patch 54 = .ok (.iconst (-1), 1) := by decide +kernel
theorem dX12_patch_55 : decode cX12_patch 55 = .ok (.if_icmp .ne 31, 3) := by decide +kernel
theorem dX12_patch_58 : decode cX12_patch 58 = .ok (.iload 4, 2) := by decide +kernel
theorem dX12_patch_60 : decode cX12_patch 60 = .ok (.iload_n 3, 1) := by decide +kernel
theorem dX12_patch_61 : decode cX12_patch 61 = .ok (.if_icmp .ne 11, 3) := by decide +kernel
theorem dX12_patch_64 : decode cX12_patch 64 = .ok (.aload_n 0, 1) := by decide +kernel
theorem dX12_patch_65 : decode cX12_patch 65 = .ok (.getfield 57, 3) := by decide +kernel
theorem dX12_patch_68 : decode cX12_patch 68 = .ok (.iload 5, 2) := by decide +kernel
theorem dX12_patch_70 : decode cX12_patch 70 = .ok (.laload, 1) := by decide +kernel
theorem dX12_patch_71 : decode cX12_patch 71 = .ok (.lreturn, 1) := by decide +kernel
theorem dX12_patch_72 : decode cX12_patch 72 = .ok (.aload_n 0, 1) := by decide +kernel
theorem dX12_patch_73 : decode cX12_patch 73 = .ok (.getfield 57, 3) := by decide +kernel
theorem dX12_patch_76 : decode cX12_patch 76 = .ok (.iload 5, 2) := by decide +kernel
theorem dX12_patch_78 : decode cX12_patch 78 = .ok (.lconst 0, 1) := by decide +kernel
theorem dX12_patch_79 : decode cX12_patch 79 = .ok (.lastore, 1) := by decide +kernel
theorem dX12_patch_80 : decode cX12_patch 80 = .ok (.iinc 4 1, 3) := by decide +kernel
theorem dX12_patch_83 : decode cX12_patch 83 = .ok (.goto 51, 3) := by decide +kernel
theorem dX12_patch_86 : decode cX12_patch 86 = .ok (.aload_n 0, 1) := by decide +kernel
theorem dX12_patch_87 : decode cX12_patch 87 = .ok (.iload 5, 2) := by decide +kernel
theorem dX12_patch_89 : decode cX12_patch 89 = .ok (.iload 6, 2) := by decide +kernel
theorem dX12_patch_91 : decode cX12_patch 91 = .ok (.iload_n 2, 1) := by decide +kernel
theorem dX12_patch_92 : decode cX12_patch 92 = .ok (.invokevirtual 432, 3) := by decide +kernel
theorem dX12_patch_95 : decode cX12_patch 95 = .ok (.ifCond .eq 31, 3) := by decide +kernel
theorem dX12_patch_98 : decode cX12_patch 98 = .ok (.aload_n 0, 1) := by decide +kernel
theorem dX12_patch_99 : decode cX12_patch 99 = .ok (.getfield 57, 3) := by decide +kernel
theorem dX12_patch_102 : decode cX12_patch 102 = .ok (.iload 5, 2) := by decide +kernel
theorem dX12_patch_104 : decode cX12_patch 104 = .ok (.dup2, 1) := by decide +kernel
theorem dX12_patch_105 : decode cX12_patch 105 = .ok (.laload, 1) := by decide +kernel
theorem dX12_patch_106 : decode cX12_patch 106 = .ok (.aload_n 0, 1) := by decide +kernel
theorem dX12_patch_107 : decode cX12_patch 107 = .ok (.getfield 57, 3) := by decide +kernel
theorem dX12_patch_110 : decode cX12_patch 110 = .ok (.iload 6, 2) := by decide +kernel
theorem dX12_patch_112 : decode cX12_patch 112 = .ok (.laload, 1) := by decide +kernel
theorem dX12_patch_113 : decode cX12_patch 113 = .ok (.lor, 1) := by decide +kernel
theorem dX12_patch_114 : decode cX12_patch 114 = .ok (.lastore, 1) := by decide +kernel
theorem dX12_patch_115 : decode cX12_patch 115 = .ok (.aload_n 0, 1) := by decide +kernel
theorem dX12_patch_116 : decode cX12_patch 116 = .ok (.getfield 57, 3) := by decide +kernel
theorem dX12_patch_119 : decode cX12_patch 119 = .ok (.iload 6, 2) := by decide +kernel
theorem dX12_patch_121 : decode cX12_patch 121 = .ok (.lconst 0, 1) := by decide +kernel
theorem dX12_patch_122 : decode cX12_patch 122 = .ok (.lastore, 1) := by decide +kernel
theorem dX12_patch_123 : decode cX12_patch 123 = .ok (.goto 11, 3) := by decide +kernel
theorem dX12_patch_126 : decode cX12_patch 126 = .ok (.aload_n 0, 1) := by decide +kernel
theorem dX12_patch_127 : decode cX12_patch 127 = .ok (.iload 5, 2) := by decide +kernel
theorem dX12_patch_129 : decode cX12_patch 129 = .ok (.iload 6, 2) := by decide +kernel
theorem dX12_patch_131 : decode cX12_patch 131 = .ok (.invokevirtual 435, 3) := by decide +kernel
theorem dX12_patch_134 : decode cX12_patch 134 = .ok (.aload_n 0, 1) := by decide +kernel
theorem dX12_patch_135 : decode cX12_patch 135 = .ok (.iconst (-1), 1) := by decide +kernel
theorem dX12_patch_136 : decode cX12_patch 136 = .ok (.invokevirtual 429, 3) := by decide +kernel
theorem dX12_patch_139 : decode cX12_patch 139 = .ok (.istore 5, 2) := by decide +kernel
theorem dX12_patch_141 : decode cX12_patch 141 = .ok (.goto (-103), 3) := by decide +kernel
theorem dX12_patch_144 : decode cX12_patch 144 = .ok (.iload_n 3, 1) := by decide +kernel
theorem dX12_patch_145 : decode cX12_patch 145 = .ok (.iconst (-1), 1) := by decide +kernel
theorem dX12_patch_146 : decode cX12_patch 146 = .ok (.if_icmp .ne 9, 3) := by decide +kernel
theorem dX12_patch_149 : decode cX12_patch 149 = .ok (.iload 4, 2) := by decide +kernel
theorem dX12_patch_151 : decode cX12_patch 151 = .ok (.i2l, 1) := by decide +kernel
theorem dX12_patch_152 : decode cX12_patch 152 = .ok (.goto 6, 3) := by decide +kernel
theorem dX12_patch_155 : decode cX12_patch 155 = .ok (.ldc2_w 254, 3) := by decide +kernel
theorem dX12_patch_158 : decode cX12_patch 158 = .ok (.lreturn, 1) := by decide +kernel
theorem dX12_image_0 : decode cX12_image 0 = .ok (.aload_n 0, 1) := by decide +kernel
theorem dX12_image_1 : decode cX12_image 1 = .ok (.getfield 8, 3) := by decide +kernel
theorem dX12_image_4 : decode cX12_image 4 = .ok (.aload_n 0, 1) := by decide +kernel
theorem dX12_image_5 : decode cX12_image 5 = .ok (.getfield 14, 3) := by decide +kernel
theorem dX12_image_8 : decode cX12_image 8 = .ok (.invokestatic 61, 3) := by decide +kernel
theorem dX12_image_11 : decode cX12_image 11 = .ok (.aload_n 0, 1) := by decide +kernel
theorem dX12_image_12 : decode cX12_image 12 = .ok (.invokevirtual 77, 3) := by decide +kernel
theorem dX12_image_15 : decode cX12_image 15 = .ok (.ireturn, 1) := by decide +kernel
theorem dX12_back_0 : decode cX12_back 0 = .ok (.aload_n 0, 1) := by decide +kernel
theorem dX12_back_1 : decode cX12_back 1 = .ok (.getfield 14, 3) := by decide +kernel
theorem dX12_back_4 : decode cX12_back 4 = .ok (.aload_n 0, 1) := by decide +kernel
theorem dX12_back_5 : decode cX12_back 5 = .ok (.getfield 8, 3) := by decide +kernel
theorem dX12_back_8 : decode cX12_back 8 = .ok (.invokestatic 61, 3) := by decide +kernel
theorem dX12_back_11 : decode cX12_back 11 = .ok (.aload_n 0, 1) := by decide +kernel
theorem dX12_back_12 : decode cX12_back 12 = .ok (.invokevirtual 77, 3) := by decide +kernel
theorem dX12_back_15 : decode cX12_back 15 = .ok (.ireturn, 1) := by decide +kernel
theorem dX12_steps_0 : decode cX12_steps 0 = .ok (.aload_n 0, 1) := by decide +kernel
theorem dX12_steps_1 : decode cX12_steps 1 = .ok (.getfield 8, 3) := by decide +kernel
theorem dX12_steps_4 : decode cX12_steps 4 = .ok (.iconst 0, 1) := by decide +kernel
theorem dX12_steps_5 : decode cX12_steps 5 = .ok (.iaload, 1) := by decide +kernel
theorem dX12_steps_6 : decode cX12_steps 6 = .ok (.ireturn, 1) := by decide +kernel
theorem dJxe99ae_isNaN_b9ae7_0 : decode cJxe99ae_isNaN_b9ae7 0 = .ok (.dload_n 0, 1) := by decide +kernel
theorem dJxe99ae_isNaN_b9ae7_1 : decode cJxe99ae_isNaN_b9ae7 1 = .ok (.dload_n 0, 1) := by decide +kernel
theorem dJxe99ae_isNaN_b9ae7_2 : decode cJxe99ae_isNaN_b9ae7 2 = .ok (.dcmp .l, 1) := by decide +kernel
theorem dJxe99ae_isNaN_b9ae7_3 : decode cJxe99ae_isNaN_b9ae7 3 = .ok (.ifCond .eq 7, 3) := by decide +kernel
theorem dJxe99ae_isNaN_b9ae7_6 : decode cJxe99ae_isNaN_b9ae7 6 = .ok (.iconst 1, 1) := by decide +kernel
theorem dJxe99ae_isNaN_b9ae7_7 : decode cJxe99ae_isNaN_b9ae7 7 = .ok (.goto 4, 3) := by decide +kernel
theorem dJxe99ae_isNaN_b9ae7_10 : decode cJxe99ae_isNaN_b9ae7 10 = .ok (.iconst 0, 1) := by decide +kernel
theorem dJxe99ae_isNaN_b9ae7_11 : decode cJxe99ae_isNaN_b9ae7 11 = .ok (.ireturn, 1) := by decide +kernel
theorem dJxe99ae_doubleToLongBits_ccdee_0 : decode cJxe99ae_doubleToLongBits_ccdee 0 = .ok (.dload_n 0, 1) := by decide +kernel
theorem dJxe99ae_doubleToLongBits_ccdee_1 : decode cJxe99ae_doubleToLongBits_ccdee 1 = .ok (.invokestatic 122, 3) := by decide +kernel
theorem dJxe99ae_doubleToLongBits_ccdee_4 : decode cJxe99ae_doubleToLongBits_ccdee 4 = .ok (.ifCond .ne 8, 3) := by decide +kernel
theorem dJxe99ae_doubleToLongBits_ccdee_7 : decode cJxe99ae_doubleToLongBits_ccdee 7 = .ok (.dload_n 0, 1) := by decide +kernel
theorem dJxe99ae_doubleToLongBits_ccdee_8 : decode cJxe99ae_doubleToLongBits_ccdee 8 = .ok (.invokestatic 134, 3) := by decide +kernel
theorem dJxe99ae_doubleToLongBits_ccdee_11 : decode cJxe99ae_doubleToLongBits_ccdee 11 = .ok (.lreturn, 1) := by decide +kernel
theorem dJxe99ae_doubleToLongBits_ccdee_12 : decode cJxe99ae_doubleToLongBits_ccdee 12 = .ok (.ldc2_w 137, 3) := by decide +kernel
theorem dJxe99ae_doubleToLongBits_ccdee_15 : decode cJxe99ae_doubleToLongBits_ccdee 15 = .ok (.lreturn, 1) := by decide +kernel
theorem dJ13_bitCount_95d88_0 : decode cJ13_bitCount_95d88 0 = .ok (.lload_n 0, 1) := by decide +kernel
theorem dJ13_bitCount_95d88_1 : decode cJ13_bitCount_95d88 1 = .ok (.lload_n 0, 1) := by decide +kernel
theorem dJ13_bitCount_95d88_2 : decode cJ13_bitCount_95d88 2 = .ok (.iconst 1, 1) := by decide +kernel
theorem dJ13_bitCount_95d88_3 : decode cJ13_bitCount_95d88 3 = .ok (.lushr, 1) := by decide +kernel
theorem dJ13_bitCount_95d88_4 : decode cJ13_bitCount_95d88 4 = .ok (.ldc2_w 314, 3) := by decide +kernel
theorem dJ13_bitCount_95d88_7 : decode cJ13_bitCount_95d88 7 = .ok (.land, 1) := by decide +kernel
theorem dJ13_bitCount_95d88_8 : decode cJ13_bitCount_95d88 8 = .ok (.lsub, 1) := by decide +kernel
theorem dJ13_bitCount_95d88_9 : decode cJ13_bitCount_95d88 9 = .ok (.lstore_n 0, 1) := by decide +kernel
theorem dJ13_bitCount_95d88_10 : decode cJ13_bitCount_95d88 10 = .ok (.lload_n 0, 1) := by decide +kernel
theorem dJ13_bitCount_95d88_11 : decode cJ13_bitCount_95d88 11 = .ok (.ldc2_w 316, 3) := by decide +kernel
theorem dJ13_bitCount_95d88_14 : decode cJ13_bitCount_95d88 14 = .ok (.land, 1) := by decide +kernel
theorem dJ13_bitCount_95d88_15 : decode cJ13_bitCount_95d88 15 = .ok (.lload_n 0, 1) := by decide +kernel
theorem dJ13_bitCount_95d88_16 : decode cJ13_bitCount_95d88 16 = .ok (.iconst 2, 1) := by decide +kernel
theorem dJ13_bitCount_95d88_17 : decode cJ13_bitCount_95d88 17 = .ok (.lushr, 1) := by decide +kernel
theorem dJ13_bitCount_95d88_18 : decode cJ13_bitCount_95d88 18 = .ok (.ldc2_w 316, 3) := by decide +kernel
theorem dJ13_bitCount_95d88_21 : decode cJ13_bitCount_95d88 21 = .ok (.land, 1) := by decide +kernel
theorem dJ13_bitCount_95d88_22 : decode cJ13_bitCount_95d88 22 = .ok (.ladd, 1) := by decide +kernel
theorem dJ13_bitCount_95d88_23 : decode cJ13_bitCount_95d88 23 = .ok (.lstore_n 0, 1) := by decide +kernel
theorem dJ13_bitCount_95d88_24 : decode cJ13_bitCount_95d88 24 = .ok (.lload_n 0, 1) := by decide +kernel
theorem dJ13_bitCount_95d88_25 : decode cJ13_bitCount_95d88 25 = .ok (.lload_n 0, 1) := by decide +kernel
theorem dJ13_bitCount_95d88_26 : decode cJ13_bitCount_95d88 26 = .ok (.iconst 4, 1) := by decide +kernel
theorem dJ13_bitCount_95d88_27 : decode cJ13_bitCount_95d88 27 = .ok (.lushr, 1) := by decide +kernel
theorem dJ13_bitCount_95d88_28 : decode cJ13_bitCount_95d88 28 = .ok (.ladd, 1) := by decide +kernel
theorem dJ13_bitCount_95d88_29 : decode cJ13_bitCount_95d88 29 = .ok (.ldc2_w 318, 3) := by decide +kernel
theorem dJ13_bitCount_95d88_32 : decode cJ13_bitCount_95d88 32 = .ok (.land, 1) := by decide +kernel
theorem dJ13_bitCount_95d88_33 : decode cJ13_bitCount_95d88 33 = .ok (.lstore_n 0, 1) := by decide +kernel
theorem dJ13_bitCount_95d88_34 : decode cJ13_bitCount_95d88 34 = .ok (.lload_n 0, 1) := by decide +kernel
theorem dJ13_bitCount_95d88_35 : decode cJ13_bitCount_95d88 35 = .ok (.lload_n 0, 1) := by decide +kernel
theorem dJ13_bitCount_95d88_36 : decode cJ13_bitCount_95d88 36 = .ok (.bipush 8, 2) := by decide +kernel
theorem dJ13_bitCount_95d88_38 : decode cJ13_bitCount_95d88 38 = .ok (.lushr, 1) := by decide +kernel
theorem dJ13_bitCount_95d88_39 : decode cJ13_bitCount_95d88 39 = .ok (.ladd, 1) := by decide +kernel
theorem dJ13_bitCount_95d88_40 : decode cJ13_bitCount_95d88 40 = .ok (.lstore_n 0, 1) := by decide +kernel
theorem dJ13_bitCount_95d88_41 : decode cJ13_bitCount_95d88 41 = .ok (.lload_n 0, 1) := by decide +kernel
theorem dJ13_bitCount_95d88_42 : decode cJ13_bitCount_95d88 42 = .ok (.lload_n 0, 1) := by decide +kernel
theorem dJ13_bitCount_95d88_43 : decode cJ13_bitCount_95d88 43 = .ok (.bipush 16, 2) := by decide +kernel
theorem dJ13_bitCount_95d88_45 : decode cJ13_bitCount_95d88 45 = .ok (.lushr, 1) := by decide +kernel
theorem dJ13_bitCount_95d88_46 : decode cJ13_bitCount_95d88 46 = .ok (.ladd, 1) := by decide +kernel
theorem dJ13_bitCount_95d88_47 : decode cJ13_bitCount_95d88 47 = .ok (.lstore_n 0, 1) := by decide +kernel
theorem dJ13_bitCount_95d88_48 : decode cJ13_bitCount_95d88 48 = .ok (.lload_n 0, 1) := by decide +kernel
theorem dJ13_bitCount_95d88_49 : decode cJ13_bitCount_95d88 49 = .ok (.lload_n 0, 1) := by decide +kernel
theorem dJ13_bitCount_95d88_50 : decode cJ13_bitCount_95d88 50 = .ok (.bipush 32, 2) := by decide +kernel
theorem dJ13_bitCount_95d88_52 : decode cJ13_bitCount_95d88 52 = .ok (.lushr, 1) := by decide +kernel
theorem dJ13_bitCount_95d88_53 : decode cJ13_bitCount_95d88 53 = .ok (.ladd, 1) := by decide +kernel
theorem dJ13_bitCount_95d88_54 : decode cJ13_bitCount_95d88 54 = .ok (.lstore_n 0, 1) := by decide +kernel
theorem dJ13_bitCount_95d88_55 : decode cJ13_bitCount_95d88 55 = .ok (.lload_n 0, 1) := by decide +kernel
theorem dJ13_bitCount_95d88_56 : decode cJ13_bitCount_95d88 56 = .ok (.l2i, 1) := by decide +kernel
theorem dJ13_bitCount_95d88_57 : decode cJ13_bitCount_95d88 57 = .ok (.bipush 127, 2) := by decide +kernel
theorem dJ13_bitCount_95d88_59 : decode cJ13_bitCount_95d88 59 = .ok (.iand, 1) := by decide +kernel
theorem dJ13_bitCount_95d88_60 : decode cJ13_bitCount_95d88 60 = .ok (.ireturn, 1) := by decide +kernel
theorem dJ9_floorDiv_7cf53_0 : decode cJ9_floorDiv_7cf53 0 = .ok (.iload_n 0, 1) := by decide +kernel
theorem dJ9_floorDiv_7cf53_1 : decode cJ9_floorDiv_7cf53 1 = .ok (.iload_n 1, 1) := by decide +kernel
theorem dJ9_floorDiv_7cf53_2 : decode cJ9_floorDiv_7cf53 2 = .ok (.idiv, 1) := by decide +kernel
theorem dJ9_floorDiv_7cf53_3 : decode cJ9_floorDiv_7cf53 3 = .ok (.istore_n 2, 1) := by decide +kernel
theorem dJ9_floorDiv_7cf53_4 : decode cJ9_floorDiv_7cf53 4 = .ok (.iload_n 0, 1) := by decide +kernel
theorem dJ9_floorDiv_7cf53_5 : decode cJ9_floorDiv_7cf53 5 = .ok (.iload_n 1, 1) := by decide +kernel
theorem dJ9_floorDiv_7cf53_6 : decode cJ9_floorDiv_7cf53 6 = .ok (.ixor, 1) := by decide +kernel
theorem dJ9_floorDiv_7cf53_7 : decode cJ9_floorDiv_7cf53 7 = .ok (.ifCond .ge 14, 3) := by decide +kernel
theorem dJ9_floorDiv_7cf53_10 : decode cJ9_floorDiv_7cf53 10 = .ok (.iload_n 2, 1) := by decide +kernel
theorem dJ9_floorDiv_7cf53_11 : decode cJ9_floorDiv_7cf53 11 = .ok (.iload_n 1, 1) := by decide +kernel
theorem dJ9_floorDiv_7cf53_12 : decode cJ9_floorDiv_7cf53 12 = .ok (.imul, 1) := by decide +kernel
theorem dJ9_floorDiv_7cf53_13 : decode cJ9_floorDiv_7cf53 13 = .ok (.iload_n 0, 1) := by decide +kernel
theorem dJ9_floorDiv_7cf53_14 : decode cJ9_floorDiv_7cf53 14 = .ok (.if_icmp .eq 7, 3) := by decide +kernel
theorem dJ9_floorDiv_7cf53_17 : decode cJ9_floorDiv_7cf53 17 = .ok (.iload_n 2, 1) := by decide +kernel
theorem dJ9_floorDiv_7cf53_18 : decode cJ9_floorDiv_7cf53 18 = .ok (.iconst 1, 1) := by decide +kernel
theorem dJ9_floorDiv_7cf53_19 : decode cJ9_floorDiv_7cf53 19 = .ok (.isub, 1) := by decide +kernel
theorem dJ9_floorDiv_7cf53_20 : decode cJ9_floorDiv_7cf53 20 = .ok (.ireturn, 1) := by decide +kernel
theorem dJ9_floorDiv_7cf53_21 : decode cJ9_floorDiv_7cf53 21 = .ok (.iload_n 2, 1) := by decide +kernel
theorem dJ9_floorDiv_7cf53_22 : decode cJ9_floorDiv_7cf53 22 = .ok (.ireturn, 1) := by decide +kernel
theorem dJ9_floorMod_7cf53_0 : decode cJ9_floorMod_7cf53 0 = .ok (.iload_n 0, 1) := by decide +kernel
theorem dJ9_floorMod_7cf53_1 : decode cJ9_floorMod_7cf53 1 = .ok (.iload_n 1, 1) := by decide +kernel
theorem dJ9_floorMod_7cf53_2 : decode cJ9_floorMod_7cf53 2 = .ok (.irem, 1) := by decide +kernel
theorem dJ9_floorMod_7cf53_3 : decode cJ9_floorMod_7cf53 3 = .ok (.istore_n 2, 1) := by decide +kernel
theorem dJ9_floorMod_7cf53_4 : decode cJ9_floorMod_7cf53 4 = .ok (.iload_n 0, 1) := by decide +kernel
theorem dJ9_floorMod_7cf53_5 : decode cJ9_floorMod_7cf53 5 = .ok (.iload_n 1, 1) := by decide +kernel
theorem dJ9_floorMod_7cf53_6 : decode cJ9_floorMod_7cf53 6 = .ok (.ixor, 1) := by decide +kernel
theorem dJ9_floorMod_7cf53_7 : decode cJ9_floorMod_7cf53 7 = .ok (.ifCond .ge 11, 3) := by decide +kernel
theorem dJ9_floorMod_7cf53_10 : decode cJ9_floorMod_7cf53 10 = .ok (.iload_n 2, 1) := by decide +kernel
theorem dJ9_floorMod_7cf53_11 : decode cJ9_floorMod_7cf53 11 = .ok (.ifCond .eq 7, 3) := by decide +kernel
theorem dJ9_floorMod_7cf53_14 : decode cJ9_floorMod_7cf53 14 = .ok (.iload_n 2, 1) := by decide +kernel
theorem dJ9_floorMod_7cf53_15 : decode cJ9_floorMod_7cf53 15 = .ok (.iload_n 1, 1) := by decide +kernel
theorem dJ9_floorMod_7cf53_16 : decode cJ9_floorMod_7cf53 16 = .ok (.iadd, 1) := by decide +kernel
theorem dJ9_floorMod_7cf53_17 : decode cJ9_floorMod_7cf53 17 = .ok (.ireturn, 1) := by decide +kernel
theorem dJ9_floorMod_7cf53_18 : decode cJ9_floorMod_7cf53 18 = .ok (.iload_n 2, 1) := by decide +kernel
theorem dJ9_floorMod_7cf53_19 : decode cJ9_floorMod_7cf53 19 = .ok (.ireturn, 1) := by decide +kernel
theorem dJ9_abs_0f7a4_0 : decode cJ9_abs_0f7a4 0 = .ok (.iload_n 0, 1) := by decide +kernel
theorem dJ9_abs_0f7a4_1 : decode cJ9_abs_0f7a4 1 = .ok (.ifCond .ge 8, 3) := by decide +kernel
theorem dJ9_abs_0f7a4_4 : decode cJ9_abs_0f7a4 4 = .ok (.iload_n 0, 1) := by decide +kernel
theorem dJ9_abs_0f7a4_5 : decode cJ9_abs_0f7a4 5 = .ok (.ineg, 1) := by decide +kernel
theorem dJ9_abs_0f7a4_6 : decode cJ9_abs_0f7a4 6 = .ok (.goto 4, 3) := by decide +kernel
theorem dJ9_abs_0f7a4_9 : decode cJ9_abs_0f7a4 9 = .ok (.iload_n 0, 1) := by decide +kernel
theorem dJ9_abs_0f7a4_10 : decode cJ9_abs_0f7a4 10 = .ok (.ireturn, 1) := by decide +kernel
theorem dJ9_abs_067f4_0 : decode cJ9_abs_067f4 0 = .ok (.lload_n 0, 1) := by decide +kernel
theorem dJ9_abs_067f4_1 : decode cJ9_abs_067f4 1 = .ok (.lconst 0, 1) := by decide +kernel
theorem dJ9_abs_067f4_2 : decode cJ9_abs_067f4 2 = .ok (.lcmp, 1) := by decide +kernel
theorem dJ9_abs_067f4_3 : decode cJ9_abs_067f4 3 = .ok (.ifCond .ge 8, 3) := by decide +kernel
theorem dJ9_abs_067f4_6 : decode cJ9_abs_067f4 6 = .ok (.lload_n 0, 1) := by decide +kernel
theorem dJ9_abs_067f4_7 : decode cJ9_abs_067f4 7 = .ok (.lneg, 1) := by decide +kernel
theorem dJ9_abs_067f4_8 : decode cJ9_abs_067f4 8 = .ok (.goto 4, 3) := by decide +kernel
theorem dJ9_abs_067f4_11 : decode cJ9_abs_067f4 11 = .ok (.lload_n 0, 1) := by decide +kernel
theorem dJ9_abs_067f4_12 : decode cJ9_abs_067f4 12 = .ok (.lreturn, 1) := by decide +kernel
theorem dJ9_max_7cf53_0 : decode cJ9_max_7cf53 0 = .ok (.iload_n 0, 1) := by decide +kernel
theorem dJ9_max_7cf53_1 : decode cJ9_max_7cf53 1 = .ok (.iload_n 1, 1) := by decide +kernel
theorem dJ9_max_7cf53_2 : decode cJ9_max_7cf53 2 = .ok (.if_icmp .lt 7, 3) := by decide +kernel
theorem dJ9_max_7cf53_5 : decode cJ9_max_7cf53 5 = .ok (.iload_n 0, 1) := by decide +kernel
theorem dJ9_max_7cf53_6 : decode cJ9_max_7cf53 6 = .ok (.goto 4, 3) := by decide +kernel
theorem dJ9_max_7cf53_9 : decode cJ9_max_7cf53 9 = .ok (.iload_n 1, 1) := by decide +kernel
theorem dJ9_max_7cf53_10 : decode cJ9_max_7cf53 10 = .ok (.ireturn, 1) := by decide +kernel
theorem dJ9_min_7cf53_0 : decode cJ9_min_7cf53 0 = .ok (.iload_n 0, 1) := by decide +kernel
theorem dJ9_min_7cf53_1 : decode cJ9_min_7cf53 1 = .ok (.iload_n 1, 1) := by decide +kernel
theorem dJ9_min_7cf53_2 : decode cJ9_min_7cf53 2 = .ok (.if_icmp .gt 7, 3) := by decide +kernel
theorem dJ9_min_7cf53_5 : decode cJ9_min_7cf53 5 = .ok (.iload_n 0, 1) := by decide +kernel
theorem dJ9_min_7cf53_6 : decode cJ9_min_7cf53 6 = .ok (.goto 4, 3) := by decide +kernel
theorem dJ9_min_7cf53_9 : decode cJ9_min_7cf53 9 = .ok (.iload_n 1, 1) := by decide +kernel
theorem dJ9_min_7cf53_10 : decode cJ9_min_7cf53 10 = .ok (.ireturn, 1) := by decide +kernel
