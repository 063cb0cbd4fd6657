theorem dX12_drawn_102 : decode cX12_drawn 102 = .ok (.istore 7, 2) := by decide +kernel
theorem dX12_drawn_104 : decode cX12_drawn 104 = .ok (.aload_n 0, 1) := by decide +kernel
theorem dX12_drawn_105 : decode cX12_drawn 105 = .ok (.aload_n 0, 1) := by decide +kernel
theorem dX12_drawn_106 : decode cX12_drawn 106 = .ok (.invokevirtual 77, 3) := by decide +kernel
theorem dX12_drawn_109 : decode cX12_drawn 109 = .ok (.iload 6, 2) := by decide +kernel
theorem dX12_drawn_111 : decode cX12_drawn 111 = .ok (.iload 7, 2) := by decide +kernel
theorem dX12_drawn_113 : decode cX12_drawn 113 = .ok (.aload_n 0, 1) := by decide +kernel
theorem dX12_drawn_114 : decode cX12_drawn 114 = .ok (.sipush 500, 3) := by decide +kernel
theorem dX12_drawn_117 : decode cX12_drawn 117 = .ok (.invokevirtual 180, 3) := by decide +kernel
theorem dX12_drawn_120 : decode cX12_drawn 120 = .ok (.iconst 1, 1) := by decide +kernel
theorem dX12_drawn_121 : decode cX12_drawn 121 = .ok (.iadd, 1) := by decide +kernel
theorem dX12_drawn_122 : decode cX12_drawn 122 = .ok (.invokevirtual 170, 3) := by decide +kernel
theorem dX12_drawn_125 : decode cX12_drawn 125 = .ok (.aload_n 0, 1) := by decide +kernel
theorem dX12_drawn_126 : decode cX12_drawn 126 = .ok (.iconst 1, 1) := by decide +kernel
theorem dX12_drawn_127 : decode cX12_drawn 127 = .ok (.invokevirtual 174, 3) := by decide +kernel
theorem dX12_drawn_130 : decode cX12_drawn 130 = .ok (.pop, 1) := by decide +kernel
theorem dX12_drawn_131 : decode cX12_drawn 131 = .ok (.iinc 5 1, 3) := by decide +kernel
theorem dX12_drawn_134 : decode cX12_drawn 134 = .ok (.goto (-84), 3) := by decide +kernel
theorem dX12_drawn_137 : decode cX12_drawn 137 = .ok (.aload_n 0, 1) := by decide +kernel
theorem dX12_drawn_138 : decode cX12_drawn 138 = .ok (.invokevirtual 77, 3) := by decide +kernel
theorem dX12_drawn_141 : decode cX12_drawn 141 = .ok (.ireturn, 1) := by decide +kernel
theorem dX12_tell_0 : decode cX12_tell 0 = .ok (.iload_n 1, 1) := by decide +kernel
theorem dX12_tell_1 : decode cX12_tell 1 = .ok (.iconst 0, 1) := by decide +kernel
theorem dX12_tell_2 : decode cX12_tell 2 = .ok (.sipush 30090, 3) := by decide +kernel
theorem dX12_tell_5 : decode cX12_tell 5 = .ok (.invokestatic 69, 3) := by decide +kernel
theorem dX12_tell_8 : decode cX12_tell 8 = .ok (.ifCond .ne 5, 3) := by decide +kernel
theorem dX12_tell_11 : decode cX12_tell 11 = .ok (.iconst 0, 1) := by decide +kernel
theorem dX12_tell_12 : decode cX12_tell 12 = .ok (.ireturn, 1) := by decide +kernel
theorem dX12_tell_13 : decode cX12_tell 13 = .ok (.aload_n 0, 1) := by decide +kernel
theorem dX12_tell_14 : decode cX12_tell 14 = .ok (.getfield 8, 3) := by decide +kernel
theorem dX12_tell_17 : decode cX12_tell 17 = .ok (.bipush 6, 2) := by decide +kernel
theorem dX12_tell_19 : decode cX12_tell 19 = .ok (.iload_n 1, 1) := by decide +kernel
theorem dX12_tell_20 : decode cX12_tell 20 = .ok (.iastore, 1) := by decide +kernel
theorem dX12_tell_21 : decode cX12_tell 21 = .ok (.iconst 1, 1) := by decide +kernel
theorem dX12_tell_22 : decode cX12_tell 22 = .ok (.ireturn, 1) := by decide +kernel
theorem dX12_set_0 : decode cX12_set 0 = .ok (.iload_n 1, 1) := by decide +kernel
theorem dX12_set_1 : decode cX12_set 1 = .ok (.iconst 0, 1) := by decide +kernel
theorem dX12_set_2 : decode cX12_set 2 = .ok (.iconst 2, 1) := by decide +kernel
theorem dX12_set_3 : decode cX12_set 3 = .ok (.invokestatic 69, 3) := by decide +kernel
theorem dX12_set_6 : decode cX12_set 6 = .ok (.ifCond .eq 39, 3) := by decide +kernel
theorem dX12_set_9 : decode cX12_set 9 = .ok (.iload_n 2, 1) := by decide +kernel
theorem dX12_set_10 : decode cX12_set 10 = .ok (.iload_n 1, 1) := by decide +kernel
theorem dX12_set_11 : decode cX12_set 11 = .ok (.ifCond .ne 7, 3) := by decide +kernel
theorem dX12_set_14 : decode cX12_set 14 = .ok (.iconst 1, 1) := by decide +kernel
theorem dX12_set_15 : decode cX12_set 15 = .ok (.goto 13, 3) := by decide +kernel
theorem dX12_set_18 : decode cX12_set 18 = .ok (.iload_n 1, 1) := by decide +kernel
theorem dX12_set_19 : decode cX12_set 19 = .ok (.iconst 1, 1) := by decide +kernel
theorem dX12_set_20 : decode cX12_set 20 = .ok (.if_icmp .ne 7, 3) := by decide +kernel
theorem dX12_set_23 : decode cX12_set 23 = .ok (.iconst (-1), 1) := by decide +kernel
theorem dX12_set_24 : decode cX12_set 24 = .ok (.goto 4, 3) := by decide +kernel
theorem dX12_set_27 : decode cX12_set 27 = .ok (.iconst 0, 1) := by decide +kernel
theorem dX12_set_28 : decode cX12_set 28 = .ok (.iload_n 1, 1) := by decide +kernel
theorem dX12_set_29 : decode cX12_set 29 = .ok (.ifCond .ne 9, 3) := by decide +kernel
theorem dX12_set_32 : decode cX12_set 32 = .ok (.sipush 200, 3) := by decide +kernel
theorem dX12_set_35 : decode cX12_set 35 = .ok (.goto 4, 3) := by decide +kernel
theorem dX12_set_38 : decode cX12_set 38 = .ok (.iconst 1, 1) := by decide +kernel
theorem dX12_set_39 : decode cX12_set 39 = .ok (.invokestatic 69, 3) := by decide +kernel
theorem dX12_set_42 : decode cX12_set 42 = .ok (.ifCond .ne 5, 3) := by decide +kernel
theorem dX12_set_45 : decode cX12_set 45 = .ok (.iconst 0, 1) := by decide +kernel
theorem dX12_set_46 : decode cX12_set 46 = .ok (.ireturn, 1) := by decide +kernel
theorem dX12_set_47 : decode cX12_set 47 = .ok (.aload_n 0, 1) := by decide +kernel
theorem dX12_set_48 : decode cX12_set 48 = .ok (.invokevirtual 167, 3) := by decide +kernel
theorem dX12_set_51 : decode cX12_set 51 = .ok (.aload_n 0, 1) := by decide +kernel
theorem dX12_set_52 : decode cX12_set 52 = .ok (.getfield 8, 3) := by decide +kernel
theorem dX12_set_55 : decode cX12_set 55 = .ok (.iconst 2, 1) := by decide +kernel
theorem dX12_set_56 : decode cX12_set 56 = .ok (.iload_n 1, 1) := by decide +kernel
theorem dX12_set_57 : decode cX12_set 57 = .ok (.iadd, 1) := by decide +kernel
theorem dX12_set_58 : decode cX12_set 58 = .ok (.iload_n 2, 1) := by decide +kernel
theorem dX12_set_59 : decode cX12_set 59 = .ok (.iastore, 1) := by decide +kernel
theorem dX12_set_60 : decode cX12_set 60 = .ok (.iconst 1, 1) := by decide +kernel
theorem dX12_set_61 : decode cX12_set 61 = .ok (.ireturn, 1) := by decide +kernel
theorem dX12_clearTree_0 : decode cX12_clearTree 0 = .ok (.iconst 0, 1) := by decide +kernel
theorem dX12_clearTree_1 : decode cX12_clearTree 1 = .ok (.istore_n 2, 1) := by decide +kernel
theorem dX12_clearTree_2 : decode cX12_clearTree 2 = .ok (.iload_n 2, 1) := by decide +kernel
theorem dX12_clearTree_3 : decode cX12_clearTree 3 = .ok (.sipush 521, 3) := by decide +kernel
theorem dX12_clearTree_6 : decode cX12_clearTree 6 = .ok (.if_icmp .ge 21, 3) := by decide +kernel
theorem dX12_clearTree_9 : decode cX12_clearTree 9 = .ok (.aload_n 0, 1) := by decide +kernel
theorem dX12_clearTree_10 : decode cX12_clearTree 10 = .ok (.getfield 8, 3) := by decide +kernel
theorem dX12_clearTree_13 : decode cX12_clearTree 13 = .ok (.iload_n 1, 1) := by decide +kernel
theorem dX12_clearTree_14 : decode cX12_clearTree 14 = .ok (.invokestatic 81, 3) := by decide +kernel
theorem dX12_clearTree_17 : decode cX12_clearTree 17 = .ok (.iload_n 2, 1) := by decide +kernel
theorem dX12_clearTree_18 : decode cX12_clearTree 18 = .ok (.iadd, 1) := by decide +kernel
theorem dX12_clearTree_19 : decode cX12_clearTree 19 = .ok (.iconst 0, 1) := by decide +kernel
theorem dX12_clearTree_20 : decode cX12_clearTree 20 = .ok (.iastore, 1) := by decide +kernel
theorem dX12_clearTree_21 : decode cX12_clearTree 21 = .ok (.iinc 2 1, 3) := by decide +kernel
theorem dX12_clearTree_24 : decode cX12_clearTree 24 = .ok (.goto (-22), 3) := by decide +kernel
theorem dX12_clearTree_27 : decode cX12_clearTree 27 = .ok (.return_, 1) := by decide +kernel
theorem dX12_jetsOf_0 : decode cX12_jetsOf 0 = .ok (.iconst 2, 1) := by decide +kernel
theorem dX12_jetsOf_1 : decode cX12_jetsOf 1 = .ok (.aload_n 0, 1) := by decide +kernel
theorem dX12_jetsOf_2 : decode cX12_jetsOf 2 = .ok (.iload_n 1, 1) := by decide +kernel
theorem dX12_jetsOf_3 : decode cX12_jetsOf 3 = .ok (.iconst 1, 1) := by decide +kernel
theorem dX12_jetsOf_4 : decode cX12_jetsOf 4 = .ok (.invokevirtual 88, 3) := by decide +kernel
theorem dX12_jetsOf_7 : decode cX12_jetsOf 7 = .ok (.imul, 1) := by decide +kernel
theorem dX12_jetsOf_8 : decode cX12_jetsOf 8 = .ok (.aload_n 0, 1) := by decide +kernel
theorem dX12_jetsOf_9 : decode cX12_jetsOf 9 = .ok (.iload_n 1, 1) := by decide +kernel
theorem dX12_jetsOf_10 : decode cX12_jetsOf 10 = .ok (.iconst 0, 1) := by decide +kernel
theorem dX12_jetsOf_11 : decode cX12_jetsOf 11 = .ok (.invokevirtual 88, 3) := by decide +kernel
theorem dX12_jetsOf_14 : decode cX12_jetsOf 14 = .ok (.isub, 1) := by decide +kernel
theorem dX12_jetsOf_15 : decode cX12_jetsOf 15 = .ok (.ireturn, 1) := by decide +kernel
theorem dX12_layTree_0 : decode cX12_layTree 0 = .ok (.aload_n 0, 1) := by decide +kernel
theorem dX12_layTree_1 : decode cX12_layTree 1 = .ok (.iload_n 1, 1) := by decide +kernel
theorem dX12_layTree_2 : decode cX12_layTree 2 = .ok (.invokevirtual 186, 3) := by decide +kernel
theorem dX12_layTree_5 : decode cX12_layTree 5 = .ok (.iload_n 1, 1) := by decide +kernel
theorem dX12_layTree_6 : decode cX12_layTree 6 = .ok (.invokestatic 81, 3) := by decide +kernel
theorem dX12_layTree_9 : decode cX12_layTree 9 = .ok (.istore_n 2, 1) := by decide +kernel
theorem dX12_layTree_10 : decode cX12_layTree 10 = .ok (.aload_n 0, 1) := by decide +kernel
theorem dX12_layTree_11 : decode cX12_layTree 11 = .ok (.getfield 8, 3) := by decide +kernel
theorem dX12_layTree_14 : decode cX12_layTree 14 = .ok (.iload_n 2, 1) := by decide +kernel
theorem dX12_layTree_15 : decode cX12_layTree 15 = .ok (.iconst 0, 1) := by decide +kernel
theorem dX12_layTree_16 : decode cX12_layTree 16 = .ok (.iadd, 1) := by decide +kernel
theorem dX12_layTree_17 : decode cX12_layTree 17 = .ok (.aload_n 0, 1) := by decide +kernel
theorem dX12_layTree_18 : decode cX12_layTree 18 = .ok (.getfield 95, 3) := by decide +kernel
theorem dX12_layTree_21 : decode cX12_layTree 21 = .ok (.iastore, 1) := by decide +kernel
theorem dX12_layTree_22 : decode cX12_layTree 22 = .ok (.aload_n 0, 1) := by decide +kernel
theorem dX12_layTree_23 : decode cX12_layTree 23 = .ok (.getfield 8, 3) := by decide +kernel
theorem dX12_layTree_26 : decode cX12_layTree 26 = .ok (.iload_n 2, 1) := by decide +kernel
theorem dX12_layTree_27 : decode cX12_layTree 27 = .ok (.iconst 1, 1) := by decide +kernel
theorem dX12_layTree_28 : decode cX12_layTree 28 = .ok (.iadd, 1) := by decide +kernel
theorem dX12_layTree_29 : decode cX12_layTree 29 = .ok (.aload_n 0, 1) := by decide +kernel
theorem dX12_layTree_30 : decode cX12_layTree 30 = .ok (.getfield 140, 3) := by decide +kernel
theorem dX12_layTree_33 : decode cX12_layTree 33 = .ok (.iastore, 1) := by decide +kernel
theorem dX12_layTree_34 : decode cX12_layTree 34 = .ok (.aload_n 0, 1) := by decide +kernel
theorem dX12_layTree_35 : decode cX12_layTree 35 = .ok (.getfield 8, 3) := by decide +kernel
theorem dX12_layTree_38 : decode cX12_layTree 38 = .ok (.iload_n 2, 1) := by decide +kernel
theorem dX12_layTree_39 : decode cX12_layTree 39 = .ok (.iconst 2, 1) := by decide +kernel
theorem dX12_layTree_40 : decode cX12_layTree 40 = .ok (.iadd, 1) := by decide +kernel
theorem dX12_layTree_41 : decode cX12_layTree 41 = .ok (.aload_n 0, 1) := by decide +kernel
theorem dX12_layTree_42 : decode cX12_layTree 42 = .ok (.getfield 99, 3) := by decide +kernel
theorem dX12_layTree_45 : decode cX12_layTree 45 = .ok (.iastore, 1) := by decide +kernel
theorem dX12_layTree_46 : decode cX12_layTree 46 = .ok (.aload_n 0, 1) := by decide +kernel
theorem dX12_layTree_47 : decode cX12_layTree 47 = .ok (.getfield 8, 3) := by decide +kernel
theorem dX12_layTree_50 : decode cX12_layTree 50 = .ok (.iload_n 2, 1) := by decide +kernel
theorem dX12_layTree_51 : decode cX12_layTree 51 = .ok (.iconst 3, 1) := by decide +kernel
theorem dX12_layTree_52 : decode cX12_layTree 52 = .ok (.iadd, 1) := by decide +kernel
theorem dX12_layTree_53 : decode cX12_layTree 53 = .ok (.aload_n 0, 1) := by decide +kernel
theorem dX12_layTree_54 : decode cX12_layTree 54 = .ok (.getfield 106, 3) := by decide +kernel
theorem dX12_layTree_57 : decode cX12_layTree 57 = .ok (.iastore, 1) := by decide +kernel
theorem dX12_layTree_58 : decode cX12_layTree 58 = .ok (.aload_n 0, 1) := by decide +kernel
theorem dX12_layTree_59 : decode cX12_layTree 59 = .ok (.getfield 8, 3) := by decide +kernel
theorem dX12_layTree_62 : decode cX12_layTree 62 = .ok (.iload_n 2, 1) := by decide +kernel
theorem dX12_layTree_63 : decode cX12_layTree 63 = .ok (.iconst 4, 1) := by decide +kernel
theorem dX12_layTree_64 : decode cX12_layTree 64 = .ok (.iadd, 1) := by decide +kernel
theorem dX12_layTree_65 : decode cX12_layTree 65 = .ok (.aload_n 0, 1) := by decide +kernel
theorem dX12_layTree_66 : decode cX12_layTree 66 = .ok (.getfield 124, 3) := by decide +kernel
theorem dX12_layTree_69 : decode cX12_layTree 69 = .ok (.iastore, 1) := by decide +kernel
theorem dX12_layTree_70 : decode cX12_layTree 70 = .ok (.iconst 0, 1) := by decide +kernel
theorem dX12_layTree_71 : decode cX12_layTree 71 = .ok (.istore_n 3, 1) := by decide +kernel
theorem dX12_layTree_72 : decode cX12_layTree 72 = .ok (.iload_n 3, 1) := by decide +kernel
theorem dX12_layTree_73 : decode cX12_layTree 73 = .ok (.aload_n 0, 1) := by decide +kernel
theorem dX12_layTree_74 : decode cX12_layTree 74 = .ok (.getfield 95, 3) := by decide +kernel
theorem dX12_layTree_77 : decode cX12_layTree 77 = .ok (.if_icmp .ge 92, 3) := by decide +kernel
theorem dX12_layTree_80 : decode cX12_layTree 80 = .ok (.iload_n 2, 1) := by decide +kernel
theorem dX12_layTree_81 : decode cX12_layTree 81 = .ok (.bipush 6, 2) := by decide +kernel
theorem dX12_layTree_83 : decode cX12_layTree 83 = .ok (.iadd, 1) := by decide +kernel
theorem dX12_layTree_84 : decode cX12_layTree 84 = .ok (.iconst 5, 1) := by decide +kernel
theorem dX12_layTree_85 : decode cX12_layTree 85 = .ok (.iload_n 3, 1) := by decide +kernel
theorem dX12_layTree_86 : decode cX12_layTree 86 = .ok (.imul, 1) := by decide +kernel
theorem dX12_layTree_87 : decode cX12_layTree 87 = .ok (.iadd, 1) := by decide +kernel
theorem dX12_layTree_88 : decode cX12_layTree 88 = .ok (.istore 4, 2) := by decide +kernel
theorem dX12_layTree_90 : decode cX12_layTree 90 = .ok (.aload_n 0, 1) := by decide +kernel
theorem dX12_layTree_91 : decode cX12_layTree 91 = .ok (.getfield 8, 3) := by decide +kernel
theorem dX12_layTree_94 : decode cX12_layTree 94 = .ok (.iload 4, 2) := by decide +kernel
theorem dX12_layTree_96 : decode cX12_layTree 96 = .ok (.aload_n 0, 1) := by decide +kernel
theorem dX12_layTree_97 : decode cX12_layTree 97 = .ok (.getfield 17, 3) := by decide +kernel
theorem dX12_layTree_100 : decode cX12_layTree 100 = .ok (.iload_n 3, 1) := by decide +kernel
theorem dX12_layTree_101 : decode cX12_layTree 101 = .ok (.iaload, 1) := by decide +kernel
theorem dX12_layTree_102 : decode cX12_layTree 102 = .ok (.iastore, 1) := by decide +kernel
theorem dX12_layTree_103 : decode cX12_layTree 103 = .ok (.aload_n 0, 1) := by decide +kernel
theorem dX12_layTree_104 : decode cX12_layTree 104 = .ok (.getfield 8, 3) := by decide +kernel
theorem dX12_layTree_107 : decode cX12_layTree 107 = .ok (.iload 4, 2) := by decide +kernel
theorem dX12_layTree_109 : decode cX12_layTree 109 = .ok (.iconst 1, 1) := by decide +kernel
theorem dX12_layTree_110 : decode cX12_layTree 110 = .ok (.iadd, 1) := by decide +kernel
theorem dX12_layTree_111 : decode cX12_layTree 111 = .ok (.aload_n 0, 1) := by decide +kernel
theorem dX12_layTree_112 : decode cX12_layTree 112 = .ok (.getfield 20, 3) := by decide +kernel
theorem dX12_layTree_115 : decode cX12_layTree 115 = .ok (.iload_n 3, 1) := by decide +kernel
theorem dX12_layTree_116 : decode cX12_layTree 116 = .ok (.iaload, 1) := by decide +kernel
theorem dX12_layTree_117 : decode cX12_layTree 117 = .ok (.iastore, 1) := by decide +kernel
theorem dX12_layTree_118 : decode cX12_layTree 118 = .ok (.aload_n 0, 1) := by decide +kernel
theorem dX12_layTree_119 : decode cX12_layTree 119 = .ok (.getfield 8, 3) := by decide +kernel
theorem dX12_layTree_122 : decode cX12_layTree 122 = .ok (.iload 4, 2) := by decide +kernel
theorem dX12_layTree_124 : decode cX12_layTree 124 = .ok (.iconst 2, 1) := by decide +kernel
theorem dX12_layTree_125 : decode cX12_layTree 125 = .ok (.iadd, 1) := by decide +kernel
theorem dX12_layTree_126 : decode cX12_layTree 126 = .ok (.aload_n 0, 1) := by decide +kernel
theorem dX12_layTree_127 : decode cX12_layTree 127 = .ok (.getfield 23, 3) := by decide +kernel
theorem dX12_layTree_130 : decode cX12_layTree 130 = .ok (.iload_n 3, 1) := by decide +kernel
theorem dX12_layTree_131 : decode cX12_layTree 131 = .ok (.iaload, 1) := by decide +kernel
theorem dX12_layTree_132 : decode cX12_layTree 132 = .ok (.iastore, 1) := by decide +kernel
theorem dX12_layTree_133 : decode cX12_layTree 133 = .ok (.aload_n 0, 1) := by decide +kernel
theorem dX12_layTree_134 : decode cX12_layTree 134 = .ok (.getfield 8, 3) := by decide +kernel
theorem dX12_layTree_137 : decode cX12_layTree 137 = .ok (.iload 4, 2) := by decide +kernel
theorem dX12_layTree_139 : decode cX12_layTree 139 = .ok (.iconst 3, 1) := by decide +kernel
theorem dX12_layTree_140 : decode cX12_layTree 140 = .ok (.iadd, 1) := by decide +kernel
theorem dX12_layTree_141 : decode cX12_layTree 141 = .ok (.aload_n 0, 1) := by decide +kernel
theorem dX12_layTree_142 : decode cX12_layTree 142 = .ok (.getfield 26, 3) := by decide +kernel
theorem dX12_layTree_145 : decode cX12_layTree 145 = .ok (.iload_n 3, 1) := by decide +kernel
theorem dX12_layTree_146 : decode cX12_layTree 146 = .ok (.iaload, 1) := by decide +kernel
theorem dX12_layTree_147 : decode cX12_layTree 147 = .ok (.iastore, 1) := by decide +kernel
theorem dX12_layTree_148 : decode cX12_layTree 148 = .ok (.aload_n 0, 1) := by decide +kernel
theorem dX12_layTree_149 : decode cX12_layTree 149 = .ok (.getfield 8, 3) := by decide +kernel
theorem dX12_layTree_152 : decode cX12_layTree 152 = .ok (.iload 4, 2) := by decide +kernel
theorem dX12_layTree_154 : decode cX12_layTree 154 = .ok (.iconst 4, 1) := by decide +kernel
theorem dX12_layTree_155 : decode cX12_layTree 155 = .ok (.iadd, 1) := by decide +kernel
theorem dX12_layTree_156 : decode cX12_layTree 156 = .ok (.aload_n 0, 1) := by decide +kernel
theorem dX12_layTree_157 : decode cX12_layTree 157 = .ok (.getfield 29, 3) := by decide +kernel
theorem dX12_layTree_160 : decode cX12_layTree 160 = .ok (.iload_n 3, 1) := by decide +kernel
theorem dX12_layTree_161 : decode cX12_layTree 161 = .ok (.iaload, 1) := by decide +kernel
theorem dX12_layTree_162 : decode cX12_layTree 162 = .ok (.iastore, 1) := by decide +kernel
theorem dX12_layTree_163 : decode cX12_layTree 163 = .ok (.iinc 3 1, 3) := by decide +kernel
theorem dX12_layTree_166 : decode cX12_layTree 166 = .ok (.goto (-94), 3) := by decide +kernel
theorem dX12_layTree_169 : decode cX12_layTree 169 = .ok (.iconst 0, 1) := by decide +kernel
theorem dX12_layTree_170 : decode cX12_layTree 170 = .ok (.istore_n 3, 1) := by decide +kernel
theorem dX12_layTree_171 : decode cX12_layTree 171 = .ok (.iload_n 3, 1) := by decide +kernel
theorem dX12_layTree_172 : decode cX12_layTree 172 = .ok (.aload_n 0, 1) := by decide +kernel
theorem dX12_layTree_173 : decode cX12_layTree 173 = .ok (.getfield 140, 3) := by decide +kernel
theorem dX12_layTree_176 : decode cX12_layTree 176 = .ok (.if_icmp .ge 51, 3) := by decide +kernel
theorem dX12_layTree_179 : decode cX12_layTree 179 = .ok (.aload_n 0, 1) := by decide +kernel
theorem dX12_layTree_180 : decode cX12_layTree 180 = .ok (.getfield 8, 3) := by decide +kernel
theorem dX12_layTree_183 : decode cX12_layTree 183 = .ok (.iload_n 2, 1) := by decide +kernel
theorem dX12_layTree_184 : decode cX12_layTree 184 = .ok (.sipush 401, 3) := by decide +kernel
theorem dX12_layTree_187 : decode cX12_layTree 187 = .ok (.iadd, 1) := by decide +kernel
theorem dX12_layTree_188 : decode cX12_layTree 188 = .ok (.iconst 2, 1) := by decide +kernel
theorem dX12_layTree_189 : decode cX12_layTree 189 = .ok (.iload_n 3, 1) := by decide +kernel
theorem dX12_layTree_190 : decode cX12_layTree 190 = .ok (.imul, 1) := by decide +kernel
theorem dX12_layTree_191 : decode cX12_layTree 191 = .ok (.iadd, 1) := by decide +kernel
theorem dX12_layTree_192 : decode cX12_layTree 192 = .ok (.aload_n 0, 1) := by decide +kernel
theorem dX12_layTree_193 : decode cX12_layTree 193 = .ok (.getfield 36, 3) := by decide +kernel
theorem dX12_layTree_196 : decode cX12_layTree 196 = .ok (.iload_n 3, 1) := by decide +kernel
theorem dX12_layTree_197 : decode cX12_layTree 197 = .ok (.iaload, 1) := by decide +kernel
theorem dX12_layTree_198 : decode cX12_layTree 198 = .ok (.iastore, 1) := by decide +kernel
theorem dX12_layTree_199 : decode cX12_layTree 199 = .ok (.aload_n 0, 1) := by decide +kernel
theorem dX12_layTree_200 : decode cX12_layTree 200 = .ok (.getfield 8, 3) := by decide +kernel
theorem dX12_layTree_203 : decode cX12_layTree 203 = .ok (.iload_n 2, 1) := by decide +kernel
theorem dX12_layTree_204 : decode cX12_layTree 204 = .ok (.sipush 401, 3) := by decide +kernel
theorem dX12_layTree_207 : decode cX12_layTree 207 = .ok (.iadd, 1) := by decide +kernel
theorem dX12_layTree_208 : decode cX12_layTree 208 = .ok (.iconst 2, 1) := by decide +kernel
theorem dX12_layTree_209 : decode cX12_layTree 209 = .ok (.iload_n 3, 1) := by decide +kernel
theorem dX12_layTree_210 : decode cX12_layTree 210 = .ok (.imul, 1) := by decide +kernel
theorem dX12_layTree_211 : decode cX12_layTree 211 = .ok (.iadd, 1) := by decide +kernel
theorem dX12_layTree_212 : decode cX12_layTree 212 = .ok (.iconst 1, 1) := by decide +kernel
theorem dX12_layTree_213 : decode cX12_layTree 213 = .ok (.iadd, 1) := by decide +kernel
theorem dX12_layTree_214 : decode cX12_layTree 214 = .ok (.aload_n 0, 1) := by decide +kernel
theorem dX12_layTree_215 : decode cX12_layTree 215 = .ok (.getfield 39, 3) := by decide +kernel
theorem dX12_layTree_218 : decode cX12_layTree 218 = .ok (.iload_n 3, 1) := by decide +kernel
theorem dX12_layTree_219 : decode cX12_layTree 219 = .ok (.iaload, 1) := by decide +kernel
theorem dX12_layTree_220 : decode cX12_layTree 220 = .ok (.iastore, 1) := by decide +kernel
theorem dX12_layTree_221 : decode cX12_layTree 221 = .ok (.iinc 3 1, 3) := by decide +kernel
theorem dX12_layTree_224 : decode cX12_layTree 224 = .ok (.goto (-53), 3) := by decide +kernel
theorem dX12_layTree_227 : decode cX12_layTree 227 = .ok (.aload_n 0, 1) := by decide +kernel
theorem dX12_layTree_228 : decode cX12_layTree 228 = .ok (.getfield 8, 3) := by decide +kernel
theorem dX12_layTree_231 : decode cX12_layTree 231 = .ok (.bipush 7, 2) := by decide +kernel
theorem dX12_layTree_233 : decode cX12_layTree 233 = .ok (.dup2, 1) := by decide +kernel
theorem dX12_layTree_234 : decode cX12_layTree 234 = .ok (.iaload, 1) := by decide +kernel
theorem dX12_layTree_235 : decode cX12_layTree 235 = .ok (.iconst 1, 1) := by decide +kernel
theorem dX12_layTree_236 : decode cX12_layTree 236 = .ok (.iload_n 1, 1) := by decide +kernel
theorem dX12_layTree_237 : decode cX12_layTree 237 = .ok (.ishl, 1) := by decide +kernel
theorem dX12_layTree_238 : decode cX12_layTree 238 = .ok (.ior, 1) := by decide +kernel
theorem dX12_layTree_239 : decode cX12_layTree 239 = .ok (.iastore, 1) := by decide +kernel
theorem dX12_layTree_240 : decode cX12_layTree 240 = .ok (.return_, 1) := by decide +kernel
theorem dX12_gatherNow_0 : decode cX12_gatherNow 0 = .ok (.aload_n 0, 1) := by decide +kernel
theorem dX12_gatherNow_1 : decode cX12_gatherNow 1 = .ok (.invokevirtual 190, 3) := by decide +kernel
theorem dX12_gatherNow_4 : decode cX12_gatherNow 4 = .ok (.aload_n 0, 1) := by decide +kernel
theorem dX12_gatherNow_5 : decode cX12_gatherNow 5 = .ok (.aload_n 0, 1) := by decide +kernel
theorem dX12_gatherNow_6 : decode cX12_gatherNow 6 = .ok (.getfield 8, 3) := by decide +kernel
theorem dX12_gatherNow_9 : decode cX12_gatherNow 9 = .ok (.iconst 2, 1) := by decide +kernel
theorem dX12_gatherNow_10 : decode cX12_gatherNow 10 = .ok (.iaload, 1) := by decide +kernel
theorem dX12_gatherNow_11 : decode cX12_gatherNow 11 = .ok (.aload_n 0, 1) := by decide +kernel
theorem dX12_gatherNow_12 : decode cX12_gatherNow 12 = .ok (.getfield 8, 3) := by decide +kernel
theorem dX12_gatherNow_15 : decode cX12_gatherNow 15 = .ok (.iconst 3, 1) := by decide +kernel
theorem dX12_gatherNow_16 : decode cX12_gatherNow 16 = .ok (.iaload, 1) := by decide +kernel
theorem dX12_gatherNow_17 : decode cX12_gatherNow 17 = .ok (.aload_n 0, 1) := by decide +kernel
theorem dX12_gatherNow_18 : decode cX12_gatherNow 18 = .ok (.getfield 8, 3) := by decide +kernel
theorem dX12_gatherNow_21 : decode cX12_gatherNow 21 = .ok (.iconst 4, 1) := by decide +kernel
theorem dX12_gatherNow_22 : decode cX12_gatherNow 22 = .ok (.iaload, 1) := by decide +kernel
theorem dX12_gatherNow_23 : decode cX12_gatherNow 23 = .ok (.invokevirtual 193, 3) := by decide +kernel
theorem dX12_gatherNow_26 : decode cX12_gatherNow 26 = .ok (.return_, 1) := by decide +kernel
theorem dX12_gather_0 : decode cX12_gather 0 = .ok (.iload_n 1, 1) := by decide +kernel
theorem dX12_gather_1 : decode cX12_gather 1 = .ok (.iconst 0, 1) := by decide +kernel
theorem dX12_gather_2 : decode cX12_gather 2 = .ok (.iconst 3, 1) := by decide +kernel
theorem dX12_gather_3 : decode cX12_gather 3 = .ok (.invokestatic 69, 3) := by decide +kernel
theorem dX12_gather_6 : decode cX12_gather 6 = .ok (.ifCond .eq 10, 3) := by decide +kernel
theorem dX12_gather_9 : decode cX12_gather 9 = .ok (.aload_n 0, 1) := by decide +kernel
theorem dX12_gather_10 : decode cX12_gather 10 = .ok (.invokevirtual 77, 3) := by decide +kernel
theorem dX12_gather_13 : decode cX12_gather 13 = .ok (.ifCond .ne 5, 3) := by decide +kernel
theorem dX12_gather_16 : decode cX12_gather 16 = .ok (.iconst (-1), 1) := by decide +kernel
theorem dX12_gather_17 : decode cX12_gather 17 = .ok (.ireturn, 1) := by decide +kernel
theorem dX12_gather_18 : decode cX12_gather 18 = .ok (.aload_n 0, 1) := by decide +kernel
theorem dX12_gather_19 : decode cX12_gather 19 = .ok (.invokevirtual 167, 3) := by decide +kernel
theorem dX12_gather_22 : decode cX12_gather 22 = .ok (.aload_n 0, 1) := by decide +kernel
theorem dX12_gather_23 : decode cX12_gather 23 = .ok (.invokevirtual 197, 3) := by decide +kernel
theorem dX12_gather_26 : decode cX12_gather 26 = .ok (.aload_n 0, 1) := by decide +kernel
theorem dX12_gather_27 : decode cX12_gather 27 = .ok (.iload_n 1, 1) := by decide +kernel
theorem dX12_gather_28 : decode cX12_gather 28 = .ok (.invokevirtual 200, 3) := by decide +kernel
theorem dX12_gather_31 : decode cX12_gather 31 = .ok (.aload_n 0, 1) := by decide +kernel
theorem dX12_gather_32 : decode cX12_gather 32 = .ok (.iload_n 1, 1) := by decide +kernel
theorem dX12_gather_33 : decode cX12_gather 33 = .ok (.invokevirtual 203, 3) := by decide +kernel
theorem dX12_gather_36 : decode cX12_gather 36 = .ok (.ireturn, 1) := by decide +kernel
theorem dX12_apart_0 : decode cX12_apart 0 = .ok (.aload_n 0, 1) := by decide +kernel
theorem dX12_apart_1 : decode cX12_apart 1 = .ok (.iload_n 1, 1) := by decide +kernel
theorem dX12_apart_2 : decode cX12_apart 2 = .ok (.iload_n 2, 1) := by decide +kernel
theorem dX12_apart_3 : decode cX12_apart 3 = .ok (.invokevirtual 206, 3) := by decide +kernel
theorem dX12_apart_6 : decode cX12_apart 6 = .ok (.ifCond .eq 34, 3) := by decide +kernel
theorem dX12_apart_9 : decode cX12_apart 9 = .ok (.iload_n 3, 1) := by decide +kernel
theorem dX12_apart_10 : decode cX12_apart 10 = .ok (.iconst (-1), 1) := by decide +kernel
theorem dX12_apart_11 : decode cX12_apart 11 = .ok (.iconst 1, 1) := by decide +kernel
theorem dX12_apart_12 : decode cX12_apart 12 = .ok (.invokestatic 69, 3) := by decide +kernel
theorem dX12_apart_15 : decode cX12_apart 15 = .ok (.ifCond .eq 25, 3) := by decide +kernel
theorem dX12_apart_18 : decode cX12_apart 18 = .ok (.iload 4, 2) := by decide +kernel
theorem dX12_apart_20 : decode cX12_apart 20 = .ok (.iconst 1, 1) := by decide +kernel
theorem dX12_apart_21 : decode cX12_apart 21 = .ok (.sipush 200, 3) := by decide +kernel
theorem dX12_apart_24 : decode cX12_apart 24 = .ok (.invokestatic 69, 3) := by decide +kernel
theorem dX12_apart_27 : decode cX12_apart 27 = .ok (.ifCond .eq 13, 3) := by decide +kernel
theorem dX12_apart_30 : decode cX12_apart 30 = .ok (.iload 5, 2) := by decide +kernel
theorem dX12_apart_32 : decode cX12_apart 32 = .ok (.iconst 0, 1) := by decide +kernel
theorem dX12_apart_33 : decode cX12_apart 33 = .ok (.iconst 3, 1) := by decide +kernel
theorem dX12_apart_34 : decode cX12_apart 34 = .ok (.invokestatic 69, 3) := by decide +kernel
theorem dX12_apart_37 : decode cX12_apart 37 = .ok (.ifCond .ne 5, 3) := by decide +kernel
theorem dX12_apart_40 : decode cX12_apart 40 = .ok (.iconst (-1), 1) := by decide +kernel
theorem dX12_apart_41 : decode cX12_apart 41 = .ok (.ireturn, 1) := by decide +kernel
theorem dX12_apart_42 : decode cX12_apart 42 = .ok (.aload_n 0, 1) := by decide +kernel
theorem dX12_apart_43 : decode cX12_apart 43 = .ok (.invokevirtual 167, 3) := by decide +kernel
theorem dX12_apart_46 : decode cX12_apart 46 = .ok (.aload_n 0, 1) := by decide +kernel
theorem dX12_apart_47 : decode cX12_apart 47 = .ok (.iload_n 1, 1) := by decide +kernel
theorem dX12_apart_48 : decode cX12_apart 48 = .ok (.iload_n 2, 1) := by decide +kernel
theorem dX12_apart_49 : decode cX12_apart 49 = .ok (.invokevirtual 209, 3) := by decide +kernel
theorem dX12_apart_52 : decode cX12_apart 52 = .ok (.lstore 6, 2) := by decide +kernel
theorem dX12_apart_54 : decode cX12_apart 54 = .ok (.iconst 0, 1) := by decide +kernel
theorem dX12_apart_55 : decode cX12_apart 55 = .ok (.istore 8, 2) := by decide +kernel
theorem dX12_apart_57 : decode cX12_apart 57 = .ok (.iconst 0, 1) := by decide +kernel
theorem dX12_apart_58 : decode cX12_apart 58 = .ok (.istore 9, 2) := by decide +kernel
theorem dX12_apart_60 : decode cX12_apart 60 = .ok (.iload 9, 2) := by decide +kernel
theorem dX12_apart_62 : decode cX12_apart 62 = .ok (.bipush 40, 2) := by decide +kernel
theorem dX12_apart_64 : decode cX12_apart 64 = .ok (.if_icmp .ge 34, 3) := by decide +kernel
theorem dX12_apart_67 : decode cX12_apart 67 = .ok (.lload 6, 2) := by decide +kernel
theorem dX12_apart_69 : decode cX12_apart 69 = .ok (.iload 9, 2) := by decide +kernel
theorem dX12_apart_71 : decode cX12_apart 71 = .ok (.invokestatic 154, 3) := by decide +kernel
theorem dX12_apart_74 : decode cX12_apart 74 = .ok (.ifCond .ne 6, 3) := by decide +kernel
theorem dX12_apart_77 : decode cX12_apart 77 = .ok (.goto 15, 3) := by decide +kernel
theorem dX12_apart_80 : decode cX12_apart 80 = .ok (.aload_n 0, 1) := by decide +kernel
theorem dX12_apart_81 : decode cX12_apart 81 = .ok (.getfield 42, 3) := by decide +kernel
theorem dX12_apart_84 : decode cX12_apart 84 = .ok (.iload 8, 2) := by decide +kernel
theorem dX12_apart_86 : decode cX12_apart 86 = .ok (.iload 9, 2) := by decide +kernel
theorem dX12_apart_88 : decode cX12_apart 88 = .ok (.iastore, 1) := by decide +kernel
theorem dX12_apart_89 : decode cX12_apart 89 = .ok (.iinc 8 1, 3) := by decide +kernel
theorem dX12_apart_92 : decode cX12_apart 92 = .ok (.iinc 9 1, 3) := by decide +kernel
theorem dX12_apart_95 : decode cX12_apart 95 = .ok (.goto (-35), 3) := by decide +kernel
theorem dX12_apart_98 : decode cX12_apart 98 = .ok (.aload_n 0, 1) := by decide +kernel
theorem dX12_apart_99 : decode cX12_apart 99 = .ok (.iload_n 1, 1) := by decide +kernel
theorem dX12_apart_100 : decode cX12_apart 100 = .ok (.lload 6, 2) := by decide +kernel
theorem dX12_apart_102 : decode cX12_apart 102 = .ok (.invokevirtual 212, 3) := by decide +kernel
theorem dX12_apart_105 : decode cX12_apart 105 = .ok (.aload_n 0, 1) := by decide +kernel
theorem dX12_apart_106 : decode cX12_apart 106 = .ok (.iload 4, 2) := by decide +kernel
theorem dX12_apart_108 : decode cX12_apart 108 = .ok (.iload_n 3, 1) := by decide +kernel
theorem dX12_apart_109 : decode cX12_apart 109 = .ok (.aload_n 0, 1) := by decide +kernel
theorem dX12_apart_110 : decode cX12_apart 110 = .ok (.iload_n 1, 1) := by decide +kernel
theorem dX12_apart_111 : decode cX12_apart 111 = .ok (.iconst 4, 1) := by decide +kernel
theorem dX12_apart_112 : decode cX12_apart 112 = .ok (.invokevirtual 88, 3) := by decide +kernel
theorem dX12_apart_115 : decode cX12_apart 115 = .ok (.invokevirtual 193, 3) := by decide +kernel
theorem dX12_apart_118 : decode cX12_apart 118 = .ok (.aload_n 0, 1) := by decide +kernel
theorem dX12_apart_119 : decode cX12_apart 119 = .ok (.iload 5, 2) := by decide +kernel
theorem dX12_apart_121 : decode cX12_apart 121 = .ok (.invokevirtual 200, 3) := by decide +kernel
theorem dX12_apart_124 : decode cX12_apart 124 = .ok (.aload_n 0, 1) := by decide +kernel
theorem dX12_apart_125 : decode cX12_apart 125 = .ok (.getfield 8, 3) := by decide +kernel
theorem dX12_apart_128 : decode cX12_apart 128 = .ok (.iload 5, 2) := by decide +kernel
theorem dX12_apart_130 : decode cX12_apart 130 = .ok (.invokestatic 81, 3) := by decide +kernel
theorem dX12_apart_133 : decode cX12_apart 133 = .ok (.iconst 5, 1) := by decide +kernel
theorem dX12_apart_134 : decode cX12_apart 134 = .ok (.iadd, 1) := by decide +kernel
theorem dX12_apart_135 : decode cX12_apart 135 = .ok (.iconst 1, 1) := by decide +kernel
theorem dX12_apart_136 : decode cX12_apart 136 = .ok (.iastore, 1) := by decide +kernel
theorem dX12_apart_137 : decode cX12_apart 137 = .ok (.iconst 0, 1) := by decide +kernel
theorem dX12_apart_138 : decode cX12_apart 138 = .ok (.istore 9, 2) := by decide +kernel
theorem dX12_apart_140 : decode cX12_apart 140 = .ok (.iload 9, 2) := by decide +kernel
theorem dX12_apart_142 : decode cX12_apart 142 = .ok (.iload 8, 2) := by decide +kernel
theorem dX12_apart_144 : decode cX12_apart 144 = .ok (.if_icmp .ge 33, 3) := by decide +kernel
theorem dX12_apart_147 : decode cX12_apart 147 = .ok (.aload_n 0, 1) := by decide +kernel
theorem dX12_apart_148 : decode cX12_apart 148 = .ok (.getfield 8, 3) := by decide +kernel
theorem dX12_apart_151 : decode cX12_apart 151 = .ok (.iload 5, 2) := by decide +kernel
theorem dX12_apart_153 : decode cX12_apart 153 = .ok (.invokestatic 81, 3) := by decide +kernel
theorem dX12_apart_156 : decode cX12_apart 156 = .ok (.sipush 481, 3) := by decide +kernel
theorem dX12_apart_159 : decode cX12_apart 159 = .ok (.iadd, 1) := by decide +kernel
theorem dX12_apart_160 : decode cX12_apart 160 = .ok (.iload 9, 2) := by decide +kernel
theorem dX12_apart_162 : decode cX12_apart 162 = .ok (.iadd, 1) := by decide +kernel
theorem dX12_apart_163 : decode cX12_apart 163 = .ok (.aload_n 0, 1) := by decide +kernel
theorem dX12_apart_164 : decode cX12_apart 164 = .ok (.getfield 42, 3) := by decide +kernel
theorem dX12_apart_167 : decode cX12_apart 167 = .ok (.iload 9, 2) := by decide +kernel
theorem dX12_apart_169 : decode cX12_apart 169 = .ok (.iaload, 1) := by decide +kernel
theorem dX12_apart_170 : decode cX12_apart 170 = .ok (.iastore, 1) := by decide +kernel
theorem dX12_apart_171 : decode cX12_apart 171 = .ok (.iinc 9 1, 3) := by decide +kernel
theorem dX12_apart_174 : decode cX12_apart 174 = .ok (.goto (-34), 3) := by decide +kernel
theorem dX12_apart_177 : decode cX12_apart 177 = .ok (.aload_n 0, 1) := by decide +kernel
theorem dX12_apart_178 : decode cX12_apart 178 = .ok (.iload 5, 2) := by decide +kernel
theorem dX12_apart_180 : decode cX12_apart 180 = .ok (.invokevirtual 203, 3) := by decide +kernel
theorem dX12_apart_183 : decode cX12_apart 183 = .ok (.ireturn, 1) := by decide +kernel
theorem dX12_origin_0 : decode cX12_origin 0 = .ok (.aload_n 0, 1) := by decide +kernel
theorem dX12_origin_1 : decode cX12_origin 1 = .ok (.iload_n 1, 1) := by decide +kernel
theorem dX12_origin_2 : decode cX12_origin 2 = .ok (.invokevirtual 84, 3) := by decide +kernel
theorem dX12_origin_5 : decode cX12_origin 5 = .ok (.ifCond .eq 47, 3) := by decide +kernel
theorem dX12_origin_8 : decode cX12_origin 8 = .ok (.aload_n 0, 1) := by decide +kernel
theorem dX12_origin_9 : decode cX12_origin 9 = .ok (.iload_n 1, 1) := by decide +kernel
theorem dX12_origin_10 : decode cX12_origin 10 = .ok (.iconst 5, 1) := by decide +kernel
theorem dX12_origin_11 : decode cX12_origin 11 = .ok (.invokevirtual 88, 3) := by decide +kernel
theorem dX12_origin_14 : decode cX12_origin 14 = .ok (.iconst 1, 1) := by decide +kernel
theorem dX12_origin_15 : decode cX12_origin 15 = .ok (.if_icmp .ne 37, 3) := by decide +kernel
theorem dX12_origin_18 : decode cX12_origin 18 = .ok (.iload_n 2, 1) := by decide +kernel
theorem dX12_origin_19 : decode cX12_origin 19 = .ok (.iconst 0, 1) := by decide +kernel
theorem dX12_origin_20 : decode cX12_origin 20 = .ok (.aload_n 0, 1) := by decide +kernel
theorem dX12_origin_21 : decode cX12_origin 21 = .ok (.iload_n 1, 1) := by decide +kernel
theorem dX12_origin_22 : decode cX12_origin 22 = .ok (.iconst 1, 1) := by decide +kernel
theorem dX12_origin_23 : decode cX12_origin 23 = .ok (.invokevirtual 88, 3) := by decide +kernel
theorem dX12_origin_26 : decode cX12_origin 26 = .ok (.iconst 1, 1) := by decide +kernel
theorem dX12_origin_27 : decode cX12_origin 27 = .ok (.isub, 1) := by decide +kernel
theorem dX12_origin_28 : decode cX12_origin 28 = .ok (.invokestatic 69, 3) := by decide +kernel
theorem dX12_origin_31 : decode cX12_origin 31 = .ok (.ifCond .eq 21, 3) := by decide +kernel
theorem dX12_origin_34 : decode cX12_origin 34 = .ok (.aload_n 0, 1) := by decide +kernel
theorem dX12_origin_35 : decode cX12_origin 35 = .ok (.getfield 8, 3) := by decide +kernel
theorem dX12_origin_38 : decode cX12_origin 38 = .ok (.iload_n 1, 1) := by decide +kernel
theorem dX12_origin_39 : decode cX12_origin 39 = .ok (.invokestatic 81, 3) := by decide +kernel
theorem dX12_origin_42 : decode cX12_origin 42 = .ok (.sipush 481, 3) := by decide +kernel
theorem dX12_origin_45 : decode cX12_origin 45 = .ok (.iadd, 1) := by decide +kernel
theorem dX12_origin_46 : decode cX12_origin 46 = .ok (.iload_n 2, 1) := by decide +kernel
theorem dX12_origin_47 : decode cX12_origin 47 = .ok (.iadd, 1) := by decide +kernel
theorem dX12_origin_48 : decode cX12_origin 48 = .ok (.iaload, 1) := by decide +kernel
theorem dX12_origin_49 : decode cX12_origin 49 = .ok (.goto 4, 3) := by decide +kernel
theorem dX12_origin_52 : decode cX12_origin 52 = .ok (.iconst (-1), 1) := by decide +kernel
theorem dX12_origin_53 : decode cX12_origin 53 = .ok (.ireturn, 1) := by decide +kernel
theorem dX12_isEvent_0 : decode cX12_isEvent 0 = .ok (.iload_n 0, 1) := by decide +kernel
theorem dX12_isEvent_1 : decode cX12_isEvent 1 = .ok (.iconst 0, 1) := by decide +kernel
theorem dX12_isEvent_2 : decode cX12_isEvent 2 = .ok (.iconst 2, 1) := by decide +kernel
theorem dX12_isEvent_3 : decode cX12_isEvent 3 = .ok (.invokestatic 69, 3) := by decide +kernel
theorem dX12_isEvent_6 : decode cX12_isEvent 6 = .ok (.ireturn, 1) := by decide +kernel
theorem dX12_hand_0 : decode cX12_hand 0 = .ok (.iload_n 1, 1) := by decide +kernel
theorem dX12_hand_1 : decode cX12_hand 1 = .ok (.invokestatic 216, 3) := by decide +kernel
theorem dX12_hand_4 : decode cX12_hand 4 = .ok (.ifCond .eq 13, 3) := by decide +kernel
theorem dX12_hand_7 : decode cX12_hand 7 = .ok (.iload_n 1, 1) := by decide +kernel
theorem dX12_hand_8 : decode cX12_hand 8 = .ok (.aload_n 0, 1) := by decide +kernel
theorem dX12_hand_9 : decode cX12_hand 9 = .ok (.getfield 8, 3) := by decide +kernel
theorem dX12_hand_12 : decode cX12_hand 12 = .ok (.iconst 5, 1) := by decide +kernel
theorem dX12_hand_13 : decode cX12_hand 13 = .ok (.iaload, 1) := by decide +kernel
theorem dX12_hand_14 : decode cX12_hand 14 = .ok (.if_icmp .ne 5, 3) := by decide +kernel
theorem dX12_hand_17 : decode cX12_hand 17 = .ok (.iconst (-1), 1) := by decide +kernel
theorem dX12_hand_18 : decode cX12_hand 18 = .ok (.ireturn, 1) := by decide +kernel
theorem dX12_hand_19 : decode cX12_hand 19 = .ok (.aload_n 0, 1) := by decide +kernel
theorem dX12_hand_20 : decode cX12_hand 20 = .ok (.invokevirtual 167, 3) := by decide +kernel
theorem dX12_hand_23 : decode cX12_hand 23 = .ok (.aload_n 0, 1) := by decide +kernel
theorem dX12_hand_24 : decode cX12_hand 24 = .ok (.getfield 8, 3) := by decide +kernel
theorem dX12_hand_27 : decode cX12_hand 27 = .ok (.iconst 5, 1) := by decide +kernel
theorem dX12_hand_28 : decode cX12_hand 28 = .ok (.iload_n 1, 1) := by decide +kernel
theorem dX12_hand_29 : decode cX12_hand 29 = .ok (.iastore, 1) := by decide +kernel
theorem dX12_hand_30 : decode cX12_hand 30 = .ok (.aload_n 0, 1) := by decide +kernel
theorem dX12_hand_31 : decode cX12_hand 31 = .ok (.invokevirtual 77, 3) := by decide +kernel
theorem dX12_hand_34 : decode cX12_hand 34 = .ok (.ireturn, 1) := by decide +kernel
theorem dX12_mix_0 : decode cX12_mix 0 = .ok (.iload_n 1, 1) := by decide +kernel
theorem dX12_mix_1 : decode cX12_mix 1 = .ok (.invokestatic 216, 3) := by decide +kernel
theorem dX12_mix_4 : decode cX12_mix 4 = .ok (.ifCond .eq 43, 3) := by decide +kernel
theorem dX12_mix_7 : decode cX12_mix 7 = .ok (.iload_n 1, 1) := by decide +kernel
theorem dX12_mix_8 : decode cX12_mix 8 = .ok (.aload_n 0, 1) := by decide +kernel
theorem dX12_mix_9 : decode cX12_mix 9 = .ok (.getfield 8, 3) := by decide +kernel
theorem dX12_mix_12 : decode cX12_mix 12 = .ok (.iconst 5, 1) := by decide +kernel
theorem dX12_mix_13 : decode cX12_mix 13 = .ok (.iaload, 1) := by decide +kernel
theorem dX12_mix_14 : decode cX12_mix 14 = .ok (.if_icmp .eq 33, 3) := by decide +kernel
theorem dX12_mix_17 : decode cX12_mix 17 = .ok (.iload_n 2, 1) := by decide +kernel
theorem dX12_mix_18 : decode cX12_mix 18 = .ok (.iconst 0, 1) := by decide +kernel
theorem dX12_mix_19 : decode cX12_mix 19 = .ok (.sipush 359, 3) := by decide +kernel
theorem dX12_mix_22 : decode cX12_mix 22 = .ok (.invokestatic 69, 3) := by decide +kernel
theorem dX12_mix_25 : decode cX12_mix 25 = .ok (.ifCond .eq 22, 3) := by decide +kernel
theorem dX12_mix_28 : decode cX12_mix 28 = .ok (.aload_n 0, 1) := by decide +kernel
theorem dX12_mix_29 : decode cX12_mix 29 = .ok (.invokevirtual 77, 3) := by decide +kernel
theorem dX12_mix_32 : decode cX12_mix 32 = .ok (.aload_n 0, 1) := by decide +kernel
theorem dX12_mix_33 : decode cX12_mix 33 = .ok (.getfield 8, 3) := by decide +kernel
theorem dX12_mix_36 : decode cX12_mix 36 = .ok (.iload_n 1, 1) := by decide +kernel
theorem dX12_mix_37 : decode cX12_mix 37 = .ok (.invokestatic 73, 3) := by decide +kernel
theorem dX12_mix_40 : decode cX12_mix 40 = .ok (.iaload, 1) := by decide +kernel
theorem dX12_mix_41 : decode cX12_mix 41 = .ok (.iadd, 1) := by decide +kernel
theorem dX12_mix_42 : decode cX12_mix 42 = .ok (.bipush 40, 2) := by decide +kernel
theorem dX12_mix_44 : decode cX12_mix 44 = .ok (.if_icmp .le 5, 3) := by decide +kernel
theorem dX12_mix_47 : decode cX12_mix 47 = .ok (.iconst (-1), 1) := by decide +kernel
theorem dX12_mix_48 : decode cX12_mix 48 = .ok (.ireturn, 1) := by decide +kernel
theorem dX12_mix_49 : decode cX12_mix 49 = .ok (.aload_n 0, 1) := by decide +kernel
theorem dX12_mix_50 : decode cX12_mix 50 = .ok (.invokevirtual 167, 3) := by decide +kernel
theorem dX12_mix_53 : decode cX12_mix 53 = .ok (.iconst 0, 1) := by decide +kernel
theorem dX12_mix_54 : decode cX12_mix 54 = .ok (.istore_n 3, 1) := by decide +kernel
theorem dX12_mix_55 : decode cX12_mix 55 = .ok (.iload_n 3, 1) := by decide +kernel
theorem dX12_mix_56 : decode cX12_mix 56 = .ok (.aload_n 0, 1) := by decide +kernel
theorem dX12_mix_57 : decode cX12_mix 57 = .ok (.getfield 8, 3) := by decide +kernel
theorem dX12_mix_60 : decode cX12_mix 60 = .ok (.iload_n 1, 1) := by decide +kernel
theorem dX12_mix_61 : decode cX12_mix 61 = .ok (.invokestatic 73, 3) := by decide +kernel
theorem dX12_mix_64 : decode cX12_mix 64 = .ok (.iaload, 1) := by decide +kernel
theorem dX12_mix_65 : decode cX12_mix 65 = .ok (.if_icmp .ge 66, 3) := by decide +kernel
theorem dX12_mix_68 : decode cX12_mix 68 = .ok (.iload_n 1, 1) := by decide +kernel
theorem dX12_mix_69 : decode cX12_mix 69 = .ok (.invokestatic 73, 3) := by decide +kernel
theorem dX12_mix_72 : decode cX12_mix 72 = .ok (.iconst 1, 1) := by decide +kernel
theorem dX12_mix_73 : decode cX12_mix 73 = .ok (.iadd, 1) := by decide +kernel
theorem dX12_mix_74 : decode cX12_mix 74 = .ok (.iconst 3, 1) := by decide +kernel
theorem dX12_mix_75 : decode cX12_mix 75 = .ok (.iload_n 3, 1) := by decide +kernel
theorem dX12_mix_76 : decode cX12_mix 76 = .ok (.imul, 1) := by decide +kernel
theorem dX12_mix_77 : decode cX12_mix 77 = .ok (.iadd, 1) := by decide +kernel
theorem dX12_mix_78 : decode cX12_mix 78 = .ok (.istore 4, 2) := by decide +kernel
theorem dX12_mix_80 : decode cX12_mix 80 = .ok (.aload_n 0, 1) := by decide +kernel
theorem dX12_mix_81 : decode cX12_mix 81 = .ok (.aload_n 0, 1) := by decide +kernel
theorem dX12_mix_82 : decode cX12_mix 82 = .ok (.invokevirtual 77, 3) := by decide +kernel
theorem dX12_mix_85 : decode cX12_mix 85 = .ok (.aload_n 0, 1) := by decide +kernel
theorem dX12_mix_86 : decode cX12_mix 86 = .ok (.getfield 8, 3) := by decide +kernel
theorem dX12_mix_89 : decode cX12_mix 89 = .ok (.iload 4, 2) := by decide +kernel
theorem dX12_mix_91 : decode cX12_mix 91 = .ok (.iaload, 1) := by decide +kernel
theorem dX12_mix_92 : decode cX12_mix 92 = .ok (.aload_n 0, 1) := by decide +kernel
theorem dX12_mix_93 : decode cX12_mix 93 = .ok (.getfield 8, 3) := by decide +kernel
theorem dX12_mix_96 : decode cX12_mix 96 = .ok (.iload 4, 2) := by decide +kernel
theorem dX12_mix_98 : decode cX12_mix 98 = .ok (.iconst 1, 1) := by decide +kernel
theorem dX12_mix_99 : decode cX12_mix 99 = .ok (.iadd, 1) := by decide +kernel
theorem dX12_mix_100 : decode cX12_mix 100 = .ok (.iaload, 1) := by decide +kernel
theorem dX12_mix_101 : decode cX12_mix 101 = .ok (.iload_n 2, 1) := by decide +kernel
theorem dX12_mix_102 : decode cX12_mix 102 = .ok (.iadd, 1) := by decide +kernel
theorem dX12_mix_103 : decode cX12_mix 103 = .ok (.sipush 360, 3) := by decide +kernel
theorem dX12_mix_106 : decode cX12_mix 106 = .ok (.irem, 1) := by decide +kernel
theorem dX12_mix_107 : decode cX12_mix 107 = .ok (.aload_n 0, 1) := by decide +kernel
theorem dX12_mix_108 : decode cX12_mix 108 = .ok (.getfield 8, 3) := by decide +kernel
theorem dX12_mix_111 : decode cX12_mix 111 = .ok (.iload 4, 2) := by decide +kernel
theorem dX12_mix_113 : decode cX12_mix 113 = .ok (.iconst 2, 1) := by decide +kernel
theorem dX12_mix_114 : decode cX12_mix 114 = .ok (.iadd, 1) := by decide +kernel
theorem dX12_mix_115 : decode cX12_mix 115 = .ok (.iaload, 1) := by decide +kernel
theorem dX12_mix_116 : decode cX12_mix 116 = .ok (.invokevirtual 170, 3) := by decide +kernel
theorem dX12_mix_119 : decode cX12_mix 119 = .ok (.aload_n 0, 1) := by decide +kernel
theorem dX12_mix_120 : decode cX12_mix 120 = .ok (.iconst 1, 1) := by decide +kernel
theorem dX12_mix_121 : decode cX12_mix 121 = .ok (.invokevirtual 174, 3) := by decide +kernel
theorem dX12_mix_124 : decode cX12_mix 124 = .ok (.pop, 1) := by decide +kernel
theorem dX12_mix_125 : decode cX12_mix 125 = .ok (.iinc 3 1, 3) := by decide +kernel
theorem dX12_mix_128 : decode cX12_mix 128 = .ok (.goto (-73), 3) := by decide +kernel
theorem dX12_mix_131 : decode cX12_mix 131 = .ok (.aload_n 0, 1) := by decide +kernel
theorem dX12_mix_132 : decode cX12_mix 132 = .ok (.invokevirtual 77, 3) := by decide +kernel
theorem dX12_mix_135 : decode cX12_mix 135 = .ok (.ireturn, 1) := by decide +kernel
theorem dX12_free_0 : decode cX12_free 0 = .ok (.aload_n 0, 1) := by decide +kernel
theorem dX12_free_1 : decode cX12_free 1 = .ok (.iload_n 1, 1) := by decide +kernel
theorem dX12_free_2 : decode cX12_free 2 = .ok (.invokevirtual 84, 3) := by decide +kernel
theorem dX12_free_5 : decode cX12_free 5 = .ok (.ifCond .ne 5, 3) := by decide +kernel
theorem dX12_free_8 : decode cX12_free 8 = .ok (.iconst 0, 1) := by decide +kernel
theorem dX12_free_9 : decode cX12_free 9 = .ok (.ireturn, 1) := by decide +kernel
theorem dX12_free_10 : decode cX12_free 10 = .ok (.aload_n 0, 1) := by decide +kernel
theorem dX12_free_11 : decode cX12_free 11 = .ok (.invokevirtual 167, 3) := by decide +kernel
theorem dX12_free_14 : decode cX12_free 14 = .ok (.aload_n 0, 1) := by decide +kernel
theorem dX12_free_15 : decode cX12_free 15 = .ok (.iload_n 1, 1) := by decide +kernel
theorem dX12_free_16 : decode cX12_free 16 = .ok (.invokevirtual 186, 3) := by decide +kernel
theorem dX12_free_19 : decode cX12_free 19 = .ok (.aload_n 0, 1) := by decide +kernel
theorem dX12_free_20 : decode cX12_free 20 = .ok (.getfield 8, 3) := by decide +kernel
theorem dX12_free_23 : decode cX12_free 23 = .ok (.bipush 7, 2) := by decide +kernel
theorem dX12_free_25 : decode cX12_free 25 = .ok (.dup2, 1) := by decide +kernel
theorem dX12_free_26 : decode cX12_free 26 = .ok (.iaload, 1) := by decide +kernel
theorem dX12_free_27 : decode cX12_free 27 = .ok (.iconst 1, 1) := by decide +kernel
theorem dX12_free_28 : decode cX12_free 28 = .ok (.iload_n 1, 1) := by decide +kernel
theorem dX12_free_29 : decode cX12_free 29 = .ok (.ishl, 1) := by decide +kernel
theorem dX12_free_30 : decode cX12_free 30 = .ok (.iconst (-1), 1) := by decide +kernel
theorem dX12_free_31 : decode cX12_free 31 = .ok (.ixor, 1) := by decide +kernel
theorem dX12_free_32 : decode cX12_free 32 = .ok (.iand, 1) := by decide +kernel
theorem dX12_free_33 : decode cX12_free 33 = .ok (.iastore, 1) := by decide +kernel
theorem dX12_free_34 : decode cX12_free 34 = .ok (.iconst 1, 1) := by decide +kernel
theorem dX12_free_35 : decode cX12_free 35 = .ok (.ireturn, 1) := by decide +kernel
theorem dX12_is_0 : decode cX12_is 0 = .ok (.iload_n 1, 1) := by decide +kernel
theorem dX12_is_1 : decode cX12_is 1 = .ok (.tableswitch 93 0 7 #[47, 47, 47, 56, 61, 69, 77, 86], 47) := by decide +kernel
theorem dX12_is_48 : decode cX12_is 48 = .ok (.aload_n 0, 1) := by decide +kernel
theorem dX12_is_49 : decode cX12_is 49 = .ok (.getfield 8, 3) := by decide +kernel
theorem dX12_is_52 : decode cX12_is 52 = .ok (.iconst 2, 1) := by decide +kernel
theorem dX12_is_53 : decode cX12_is 53 = .ok (.iload_n 1, 1) := by decide +kernel
theorem dX12_is_54 : decode cX12_is 54 = .ok (.iadd, 1) := by decide +kernel
theorem dX12_is_55 : decode cX12_is 55 = .ok (.iaload, 1) := by decide +kernel
theorem dX12_is_56 : decode cX12_is 56 = .ok (.ireturn, 1) := by decide +kernel
theorem dX12_is_57 : decode cX12_is 57 = .ok (.aload_n 0, 1) := by decide +kernel
theorem dX12_is_58 : decode cX12_is 58 = .ok (.invokevirtual 77, 3) := by decide +kernel
theorem dX12_is_61 : decode cX12_is 61 = .ok (.ireturn, 1) := by decide +kernel
theorem dX12_is_62 : decode cX12_is 62 = .ok (.aload_n 0, 1) := by decide +kernel
theorem dX12_is_63 : decode cX12_is 63 = .ok (.getfield 8, 3) := by decide +kernel
theorem dX12_is_66 : decode cX12_is 66 = .ok (.bipush 6, 2) := by decide +kernel
theorem dX12_is_68 : decode cX12_is 68 = .ok (.iaload, 1) := by decide +kernel
theorem dX12_is_69 : decode cX12_is 69 = .ok (.ireturn, 1) := by decide +kernel
theorem dX12_is_70 : decode cX12_is 70 = .ok (.aload_n 0, 1) := by decide +kernel
theorem dX12_is_71 : decode cX12_is 71 = .ok (.getfield 8, 3) := by decide +kernel
theorem dX12_is_74 : decode cX12_is 74 = .ok (.bipush 7, 2) := by decide +kernel
theorem dX12_is_76 : decode cX12_is 76 = .ok (.iaload, 1) := by decide +kernel
theorem dX12_is_77 : decode cX12_is 77 = .ok (.ireturn, 1) := by decide +kernel
theorem dX12_is_78 : decode cX12_is 78 = .ok (.aload_n 0, 1) := by decide +kernel
theorem dX12_is_79 : decode cX12_is 79 = .ok (.aload_n 0, 1) := by decide +kernel
theorem dX12_is_80 : decode cX12_is 80 = .ok (.invokevirtual 219, 3) := by decide +kernel
theorem dX12_is_83 : decode cX12_is 83 = .ok (.invokevirtual 223, 3) := by decide +kernel
theorem dX12_is_86 : decode cX12_is 86 = .ok (.ireturn, 1) := by decide +kernel
theorem dX12_is_87 : decode cX12_is 87 = .ok (.aload_n 0, 1) := by decide +kernel
theorem dX12_is_88 : decode cX12_is 88 = .ok (.getfield 8, 3) := by decide +kernel
theorem dX12_is_91 : decode cX12_is 91 = .ok (.iconst 5, 1) := by decide +kernel
theorem dX12_is_92 : decode cX12_is 92 = .ok (.iaload, 1) := by decide +kernel
theorem dX12_is_93 : decode cX12_is 93 = .ok (.ireturn, 1) := by decide +kernel
theorem dX12_is_94 : decode cX12_is 94 = .ok (.bipush (-2), 2) := by decide +kernel
theorem dX12_is_96 : decode cX12_is 96 = .ok (.ireturn, 1) := by decide +kernel
theorem dX12_allTracks_0 : decode cX12_allTracks 0 = .ok (.lconst 1, 1) := by decide +kernel
theorem dX12_allTracks_1 : decode cX12_allTracks 1 = .ok (.aload_n 0, 1) := by decide +kernel
theorem dX12_allTracks_2 : decode cX12_allTracks 2 = .ok (.invokevirtual 77, 3) := by decide +kernel
theorem dX12_allTracks_5 : decode cX12_allTracks 5 = .ok (.lshl, 1) := by decide +kernel
theorem dX12_allTracks_6 : decode cX12_allTracks 6 = .ok (.lconst 1, 1) := by decide +kernel
theorem dX12_allTracks_7 : decode cX12_allTracks 7 = .ok (.lsub, 1) := by decide +kernel
theorem dX12_allTracks_8 : decode cX12_allTracks 8 = .ok (.lreturn, 1) := by decide +kernel
theorem dX12_weightsOf_0 : decode cX12_weightsOf 0 = .ok (.iconst 0, 1) := by decide +kernel
theorem dX12_weightsOf_1 : decode cX12_weightsOf 1 = .ok (.istore_n 3, 1) := by decide +kernel
theorem dX12_weightsOf_2 : decode cX12_weightsOf 2 = .ok (.iconst 0, 1) := by decide +kernel
theorem dX12_weightsOf_3 : decode cX12_weightsOf 3 = .ok (.istore 4, 2) := by decide +kernel
theorem dX12_weightsOf_5 : decode cX12_weightsOf 5 = .ok (.iload 4, 2) := by decide +kernel
theorem dX12_weightsOf_7 : decode cX12_weightsOf 7 = .ok (.aload_n 0, 1) := by decide +kernel
theorem dX12_weightsOf_8 : decode cX12_weightsOf 8 = .ok (.invokevirtual 77, 3) := by decide +kernel
theorem dX12_weightsOf_11 : decode cX12_weightsOf 11 = .ok (.if_icmp .ge 32, 3) := by decide +kernel
theorem dX12_weightsOf_14 : decode cX12_weightsOf 14 = .ok (.iload_n 3, 1) := by decide +kernel
theorem dX12_weightsOf_15 : decode cX12_weightsOf 15 = .ok (.lload_n 1, 1) := by decide +kernel
theorem dX12_weightsOf_16 : decode cX12_weightsOf 16 = .ok (.iload 4, 2) := by decide +kernel
theorem dX12_weightsOf_18 : decode cX12_weightsOf 18 = .ok (.invokestatic 154, 3) := by decide +kernel
theorem dX12_weightsOf_21 : decode cX12_weightsOf 21 = .ok (.ifCond .eq 13, 3) := by decide +kernel
theorem dX12_weightsOf_24 : decode cX12_weightsOf 24 = .ok (.aload_n 0, 1) := by decide +kernel
theorem dX12_weightsOf_25 : decode cX12_weightsOf 25 = .ok (.iload 4, 2) := by decide +kernel
theorem dX12_weightsOf_27 : decode cX12_weightsOf 27 = .ok (.iconst 2, 1) := by decide +kernel
theorem dX12_weightsOf_28 : decode cX12_weightsOf 28 = .ok (.invokevirtual 151, 3) := by decide +kernel
theorem dX12_weightsOf_31 : decode cX12_weightsOf 31 = .ok (.goto 4, 3) := by decide +kernel
theorem dX12_weightsOf_34 : decode cX12_weightsOf 34 = .ok (.iconst 0, 1) := by decide +kernel
theorem dX12_weightsOf_35 : decode cX12_weightsOf 35 = .ok (.iadd, 1) := by decide +kernel
theorem dX12_weightsOf_36 : decode cX12_weightsOf 36 = .ok (.istore_n 3, 1) := by decide +kernel
theorem dX12_weightsOf_37 : decode cX12_weightsOf 37 = .ok (.iinc 4 1, 3) := by decide +kernel
theorem dX12_weightsOf_40 : decode cX12_weightsOf 40 = .ok (.goto (-35), 3) := by decide +kernel
theorem dX12_weightsOf_43 : decode cX12_weightsOf 43 = .ok (.iload_n 3, 1) := by decide +kernel
theorem dX12_weightsOf_44 : decode cX12_weightsOf 44 = .ok (.ireturn, 1) := by decide +kernel
theorem dX12_of_0 : decode cX12_of 0 = .ok (.aload_n 0, 1) := by decide +kernel
theorem dX12_of_1 : decode cX12_of 1 = .ok (.iload_n 1, 1) := by decide +kernel
theorem dX12_of_2 : decode cX12_of 2 = .ok (.invokevirtual 177, 3) := by decide +kernel
theorem dX12_of_5 : decode cX12_of 5 = .ok (.ifCond .eq 21, 3) := by decide +kernel
theorem dX12_of_8 : decode cX12_of 8 = .ok (.iload_n 2, 1) := by decide +kernel
theorem dX12_of_9 : decode cX12_of 9 = .ok (.iconst 0, 1) := by decide +kernel
theorem dX12_of_10 : decode cX12_of 10 = .ok (.iconst 2, 1) := by decide +kernel
theorem dX12_of_11 : decode cX12_of 11 = .ok (.invokestatic 69, 3) := by decide +kernel
theorem dX12_of_14 : decode cX12_of 14 = .ok (.ifCond .eq 12, 3) := by decide +kernel
theorem dX12_of_17 : decode cX12_of 17 = .ok (.aload_n 0, 1) := by decide +kernel
theorem dX12_of_18 : decode cX12_of 18 = .ok (.iload_n 1, 1) := by decide +kernel
theorem dX12_of_19 : decode cX12_of 19 = .ok (.iload_n 2, 1) := by decide +kernel
theorem dX12_of_20 : decode cX12_of 20 = .ok (.invokevirtual 151, 3) := by decide +kernel
theorem dX12_of_23 : decode cX12_of 23 = .ok (.goto 6, 3) := by decide +kernel
theorem dX12_of_26 : decode cX12_of 26 = .ok (.sipush (-1000), 3) := by decide +kernel
theorem dX12_of_29 : decode cX12_of 29 = .ok (.ireturn, 1) := by decide +kernel
theorem dX12_squareOfTracks_0 : decode cX12_squareOfTracks 0 = .ok (.aload_n 0, 1) := by decide +kernel
theorem dX12_squareOfTracks_1 : decode cX12_squareOfTracks 1 = .ok (.iload_n 1, 1) := by decide +kernel
theorem dX12_squareOfTracks_2 : decode cX12_squareOfTracks 2 = .ok (.iconst 0, 1) := by decide +kernel
theorem dX12_squareOfTracks_3 : decode cX12_squareOfTracks 3 = .ok (.invokevirtual 151, 3) := by decide +kernel
theorem dX12_squareOfTracks_6 : decode cX12_squareOfTracks 6 = .ok (.aload_n 0, 1) := by decide +kernel
theorem dX12_squareOfTracks_7 : decode cX12_squareOfTracks 7 = .ok (.iload_n 1, 1) := by decide +kernel
theorem dX12_squareOfTracks_8 : decode cX12_squareOfTracks 8 = .ok (.iconst 1, 1) := by decide +kernel
theorem dX12_squareOfTracks_9 : decode cX12_squareOfTracks 9 = .ok (.invokevirtual 151, 3) := by decide +kernel
theorem dX12_squareOfTracks_12 : decode cX12_squareOfTracks 12 = .ok (.aload_n 0, 1) := by decide +kernel
theorem dX12_squareOfTracks_13 : decode cX12_squareOfTracks 13 = .ok (.iload_n 2, 1) := by decide +kernel
theorem dX12_squareOfTracks_14 : decode cX12_squareOfTracks 14 = .ok (.iconst 0, 1) := by decide +kernel
theorem dX12_squareOfTracks_15 : decode cX12_squareOfTracks 15 = .ok (.invokevirtual 151, 3) := by decide +kernel
theorem dX12_squareOfTracks_18 : decode cX12_squareOfTracks 18 = .ok (.aload_n 0, 1) := by decide +kernel
theorem dX12_squareOfTracks_19 : decode cX12_squareOfTracks 19 = .ok (.iload_n 2, 1) := by decide +kernel
theorem dX12_squareOfTracks_20 : decode cX12_squareOfTracks 20 = .ok (.iconst 1, 1) := by decide +kernel
theorem dX12_squareOfTracks_21 : decode cX12_squareOfTracks 21 = .ok (.invokevirtual 151, 3) := by decide +kernel
theorem dX12_squareOfTracks_24 : decode cX12_squareOfTracks 24 = .ok (.invokestatic 102, 3) := by decide +kernel
theorem dX12_squareOfTracks_27 : decode cX12_squareOfTracks 27 = .ok (.ireturn, 1) := by decide +kernel
theorem dX12_square_0 : decode cX12_square 0 = .ok (.aload_n 0, 1) := by decide +kernel
theorem dX12_square_1 : decode cX12_square 1 = .ok (.iload_n 1, 1) := by decide +kernel
theorem dX12_square_2 : decode cX12_square 2 = .ok (.invokevirtual 177, 3) := by decide +kernel
theorem dX12_square_5 : decode cX12_square 5 = .ok (.ifCond .eq 20, 3) := by decide +kernel
theorem dX12_square_8 : decode cX12_square 8 = .ok (.aload_n 0, 1) := by decide +kernel
theorem dX12_square_9 : decode cX12_square 9 = .ok (.iload_n 2, 1) := by decide +kernel
theorem dX12_square_10 : decode cX12_square 10 = .ok (.invokevirtual 177, 3) := by decide +kernel
theorem dX12_square_13 : decode cX12_square 13 = .ok (.ifCond .eq 12, 3) := by decide +kernel
theorem dX12_square_16 : decode cX12_square 16 = .ok (.aload_n 0, 1) := by decide +kernel
theorem dX12_square_17 : decode cX12_square 17 = .ok (.iload_n 1, 1) := by decide +kernel
theorem dX12_square_18 : decode cX12_square 18 = .ok (.iload_n 2, 1) := by decide +kernel
theorem dX12_square_19 : decode cX12_square 19 = .ok (.invokevirtual 227, 3) := by decide +kernel
theorem dX12_square_22 : decode cX12_square 22 = .ok (.goto 4, 3) := by decide +kernel
theorem dX12_square_25 : decode cX12_square 25 = .ok (.iconst (-1), 1) := by decide +kernel
theorem dX12_square_26 : decode cX12_square 26 = .ok (.ireturn, 1) := by decide +kernel
theorem dX12_nearest_0 : decode cX12_nearest 0 = .ok (.aload_n 0, 1) := by decide +kernel
theorem dX12_nearest_1 : decode cX12_nearest 1 = .ok (.iload_n 1, 1) := by decide +kernel
theorem dX12_nearest_2 : decode cX12_nearest 2 = .ok (.invokevirtual 177, 3) := by decide +kernel
theorem dX12_nearest_5 : decode cX12_nearest 5 = .ok (.ifCond .ne 5, 3) := by decide +kernel
theorem dX12_nearest_8 : decode cX12_nearest 8 = .ok (.iconst (-1), 1) := by decide +kernel
theorem dX12_nearest_9 : decode cX12_nearest 9 = .ok (.ireturn, 1) := by decide +kernel
theorem dX12_nearest_10 : decode cX12_nearest 10 = .ok (.aload_n 0, 1) := by decide +kernel
theorem dX12_nearest_11 : decode cX12_nearest 11 = .ok (.invokevirtual 190, 3) := by decide +kernel
theorem dX12_nearest_14 : decode cX12_nearest 14 = .ok (.iconst (-1), 1) := by decide +kernel
theorem dX12_nearest_15 : decode cX12_nearest 15 = .ok (.istore_n 2, 1) := by decide +kernel
theorem dX12_nearest_16 : decode cX12_nearest 16 = .ok (.iconst 0, 1) := by decide +kernel
theorem dX12_nearest_17 : decode cX12_nearest 17 = .ok (.istore_n 3, 1) := by decide +kernel
theorem dX12_nearest_18 : decode cX12_nearest 18 = .ok (.iload_n 3, 1) := by decide +kernel
theorem dX12_nearest_19 : decode cX12_nearest 19 = .ok (.aload_n 0, 1) := by decide +kernel
theorem dX12_nearest_20 : decode cX12_nearest 20 = .ok (.invokevirtual 77, 3) := by decide +kernel
theorem dX12_nearest_23 : decode cX12_nearest 23 = .ok (.if_icmp .ge 62, 3) := by decide +kernel
theorem dX12_nearest_26 : decode cX12_nearest 26 = .ok (.iload_n 3, 1) := by decide +kernel
theorem dX12_nearest_27 : decode cX12_nearest 27 = .ok (.iload_n 1, 1) := by decide +kernel
theorem dX12_nearest_28 : decode cX12_nearest 28 = .ok (.if_icmp .ne 6, 3) := by decide +kernel
theorem dX12_nearest_31 : decode cX12_nearest 31 = .ok (.goto 48, 3) := by decide +kernel
theorem dX12_nearest_34 : decode cX12_nearest 34 = .ok (.iload_n 2, 1) := by decide +kernel
theorem dX12_nearest_35 : decode cX12_nearest 35 = .ok (.iconst (-1), 1) := by decide +kernel
theorem dX12_nearest_36 : decode cX12_nearest 36 = .ok (.if_icmp .ne 7, 3) := by decide +kernel
theorem dX12_nearest_39 : decode cX12_nearest 39 = .ok (.iconst (-1), 1) := by decide +kernel
theorem dX12_nearest_40 : decode cX12_nearest 40 = .ok (.goto 16, 3) := by decide +kernel
theorem dX12_nearest_43 : decode cX12_nearest 43 = .ok (.aload_n 0, 1) := by decide +kernel
theorem dX12_nearest_44 : decode cX12_nearest 44 = .ok (.iload_n 1, 1) := by decide +kernel
theorem dX12_nearest_45 : decode cX12_nearest 45 = .ok (.iload_n 3, 1) := by decide +kernel
theorem dX12_nearest_46 : decode cX12_nearest 46 = .ok (.invokevirtual 227, 3) := by decide +kernel
theorem dX12_nearest_49 : decode cX12_nearest 49 = .ok (.aload_n 0, 1) := by decide +kernel
theorem dX12_nearest_50 : decode cX12_nearest 50 = .ok (.iload_n 1, 1) := by decide +kernel
theorem dX12_nearest_51 : decode cX12_nearest 51 = .ok (.iload_n 2, 1) := by decide +kernel
theorem dX12_nearest_52 : decode cX12_nearest 52 = .ok (.invokevirtual 227, 3) := by decide +kernel
theorem dX12_nearest_55 : decode cX12_nearest 55 = .ok (.isub, 1) := by decide +kernel
theorem dX12_nearest_56 : decode cX12_nearest 56 = .ok (.istore 4, 2) := by decide +kernel
theorem dX12_nearest_58 : decode cX12_nearest 58 = .ok (.iload 4, 2) := by decide +kernel
theorem dX12_nearest_60 : decode cX12_nearest 60 = .ok (.ifCond .lt 17, 3) := by decide +kernel
theorem dX12_nearest_63 : decode cX12_nearest 63 = .ok (.iload 4, 2) := by decide +kernel
theorem dX12_nearest_65 : decode cX12_nearest 65 = .ok (.ifCond .ne 14, 3) := by decide +kernel
theorem dX12_nearest_68 : decode cX12_nearest 68 = .ok (.aload_n 0, 1) := by decide +kernel
theorem dX12_nearest_69 : decode cX12_nearest 69 = .ok (.iload_n 3, 1) := by decide +kernel
theorem dX12_nearest_70 : decode cX12_nearest 70 = .ok (.iload_n 2, 1) := by decide +kernel
theorem dX12_nearest_71 : decode cX12_nearest 71 = .ok (.invokevirtual 120, 3) := by decide +kernel
theorem dX12_nearest_74 : decode cX12_nearest 74 = .ok (.ifCond .eq 5, 3) := by decide +kernel
theorem dX12_nearest_77 : decode cX12_nearest 77 = .ok (.iload_n 3, 1) := by decide +kernel
theorem dX12_nearest_78 : decode cX12_nearest 78 = .ok (.istore_n 2, 1) := by decide +kernel
theorem dX12_nearest_79 : decode cX12_nearest 79 = .ok (.iinc 3 1, 3) := by decide +kernel
theorem dX12_nearest_82 : decode cX12_nearest 82 = .ok (.goto (-64), 3) := by decide +kernel
theorem dX12_nearest_85 : decode cX12_nearest 85 = .ok (.iload_n 2, 1) := by decide +kernel
theorem dX12_nearest_86 : decode cX12_nearest 86 = .ok (.ireturn, 1) := by decide +kernel
theorem dX12_tree_0 : decode cX12_tree 0 = .ok (.aload_n 0, 1) := by decide +kernel
theorem dX12_tree_1 : decode cX12_tree 1 = .ok (.iload_n 1, 1) := by decide +kernel
theorem dX12_tree_2 : decode cX12_tree 2 = .ok (.invokevirtual 84, 3) := by decide +kernel
theorem dX12_tree_5 : decode cX12_tree 5 = .ok (.ifCond .ne 6, 3) := by decide +kernel
theorem dX12_tree_8 : decode cX12_tree 8 = .ok (.bipush (-2), 2) := by decide +kernel
theorem dX12_tree_10 : decode cX12_tree 10 = .ok (.ireturn, 1) := by decide +kernel
theorem dX12_tree_11 : decode cX12_tree 11 = .ok (.iload_n 2, 1) := by decide +kernel
theorem dX12_tree_12 : decode cX12_tree 12 = .ok (.tableswitch 85 0 6 #[44, 51, 58, 51, 64, 71, 78], 44) := by decide +kernel
theorem dX12_tree_56 : decode cX12_tree 56 = .ok (.aload_n 0, 1) := by decide +kernel
theorem dX12_tree_57 : decode cX12_tree 57 = .ok (.iload_n 1, 1) := by decide +kernel
theorem dX12_tree_58 : decode cX12_tree 58 = .ok (.iconst 0, 1) := by decide +kernel
theorem dX12_tree_59 : decode cX12_tree 59 = .ok (.invokevirtual 88, 3) := by decide +kernel
theorem dX12_tree_62 : decode cX12_tree 62 = .ok (.ireturn, 1) := by decide +kernel
theorem dX12_tree_63 : decode cX12_tree 63 = .ok (.aload_n 0, 1) := by decide +kernel
theorem dX12_tree_64 : decode cX12_tree 64 = .ok (.iload_n 1, 1) := by decide +kernel
theorem dX12_tree_65 : decode cX12_tree 65 = .ok (.iconst 1, 1) := by decide +kernel
theorem dX12_tree_66 : decode cX12_tree 66 = .ok (.invokevirtual 88, 3) := by decide +kernel
theorem dX12_tree_69 : decode cX12_tree 69 = .ok (.ireturn, 1) := by decide +kernel
theorem dX12_tree_70 : decode cX12_tree 70 = .ok (.aload_n 0, 1) := by decide +kernel
theorem dX12_tree_71 : decode cX12_tree 71 = .ok (.iload_n 1, 1) := by decide +kernel
theorem dX12_tree_72 : decode cX12_tree 72 = .ok (.invokevirtual 203, 3) := by decide +kernel
theorem dX12_tree_75 : decode cX12_tree 75 = .ok (.ireturn, 1) := by decide +kernel
theorem dX12_tree_76 : decode cX12_tree 76 = .ok (.aload_n 0, 1) := by decide +kernel
theorem dX12_tree_77 : decode cX12_tree 77 = .ok (.iload_n 1, 1) := by decide +kernel
theorem dX12_tree_78 : decode cX12_tree 78 = .ok (.iconst 2, 1) := by decide +kernel
theorem dX12_tree_79 : decode cX12_tree 79 = .ok (.invokevirtual 88, 3) := by decide +kernel
theorem dX12_tree_82 : decode cX12_tree 82 = .ok (.ireturn, 1) := by decide +kernel
theorem dX12_tree_83 : decode cX12_tree 83 = .ok (.aload_n 0, 1) := by decide +kernel
theorem dX12_tree_84 : decode cX12_tree 84 = .ok (.iload_n 1, 1) := by decide +kernel
theorem dX12_tree_85 : decode cX12_tree 85 = .ok (.iconst 3, 1) := by decide +kernel
theorem dX12_tree_86 : decode cX12_tree 86 = .ok (.invokevirtual 88, 3) := by decide +kernel
theorem dX12_tree_89 : decode cX12_tree 89 = .ok (.ireturn, 1) := by decide +kernel
theorem dX12_tree_90 : decode cX12_tree 90 = .ok (.aload_n 0, 1) := by decide +kernel
theorem dX12_tree_91 : decode cX12_tree 91 = .ok (.iload_n 1, 1) := by decide +kernel
theorem dX12_tree_92 : decode cX12_tree 92 = .ok (.iconst 4, 1) := by decide +kernel
theorem dX12_tree_93 : decode cX12_tree 93 = .ok (.invokevirtual 88, 3) := by decide +kernel
theorem dX12_tree_96 : decode cX12_tree 96 = .ok (.ireturn, 1) := by decide +kernel
theorem dX12_tree_97 : decode cX12_tree 97 = .ok (.bipush (-2), 2) := by decide +kernel
theorem dX12_tree_99 : decode cX12_tree 99 = .ok (.ireturn, 1) := by decide +kernel
theorem dX12_aboveOf_0 : decode cX12_aboveOf 0 = .ok (.iload_n 2, 1) := by decide +kernel
theorem dX12_aboveOf_1 : decode cX12_aboveOf 1 = .ok (.iconst 1, 1) := by decide +kernel
theorem dX12_aboveOf_2 : decode cX12_aboveOf 2 = .ok (.iadd, 1) := by decide +kernel
theorem dX12_aboveOf_3 : decode cX12_aboveOf 3 = .ok (.istore_n 3, 1) := by decide +kernel
theorem dX12_aboveOf_4 : decode cX12_aboveOf 4 = .ok (.iload_n 3, 1) := by decide +kernel
theorem dX12_aboveOf_5 : decode cX12_aboveOf 5 = .ok (.aload_n 0, 1) := by decide +kernel
theorem dX12_aboveOf_6 : decode cX12_aboveOf 6 = .ok (.iload_n 1, 1) := by decide +kernel
theorem dX12_aboveOf_7 : decode cX12_aboveOf 7 = .ok (.iconst 0, 1) := by decide +kernel
theorem dX12_aboveOf_8 : decode cX12_aboveOf 8 = .ok (.invokevirtual 88, 3) := by decide +kernel
theorem dX12_aboveOf_11 : decode cX12_aboveOf 11 = .ok (.if_icmp .ge 33, 3) := by decide +kernel
theorem dX12_aboveOf_14 : decode cX12_aboveOf 14 = .ok (.aload_n 0, 1) := by decide +kernel
theorem dX12_aboveOf_15 : decode cX12_aboveOf 15 = .ok (.iload_n 1, 1) := by decide +kernel
theorem dX12_aboveOf_16 : decode cX12_aboveOf 16 = .ok (.iload_n 3, 1) := by decide +kernel
theorem dX12_aboveOf_17 : decode cX12_aboveOf 17 = .ok (.iconst 3, 1) := by decide +kernel
theorem dX12_aboveOf_18 : decode cX12_aboveOf 18 = .ok (.invokevirtual 91, 3) := by decide +kernel
theorem dX12_aboveOf_21 : decode cX12_aboveOf 21 = .ok (.iload_n 2, 1) := by decide +kernel
theorem dX12_aboveOf_22 : decode cX12_aboveOf 22 = .ok (.if_icmp .eq 14, 3) := by decide +kernel
theorem dX12_aboveOf_25 : decode cX12_aboveOf 25 = .ok (.aload_n 0, 1) := by decide +kernel
theorem dX12_aboveOf_26 : decode cX12_aboveOf 26 = .ok (.iload_n 1, 1) := by decide +kernel
theorem dX12_aboveOf_27 : decode cX12_aboveOf 27 = .ok (.iload_n 3, 1) := by decide +kernel
theorem dX12_aboveOf_28 : decode cX12_aboveOf 28 = .ok (.iconst 4, 1) := by decide +kernel
theorem dX12_aboveOf_29 : decode cX12_aboveOf 29 = .ok (.invokevirtual 91, 3) := by decide +kernel
theorem dX12_aboveOf_32 : decode cX12_aboveOf 32 = .ok (.iload_n 2, 1) := by decide +kernel
theorem dX12_aboveOf_33 : decode cX12_aboveOf 33 = .ok (.if_icmp .ne 5, 3) := by decide +kernel
theorem dX12_aboveOf_36 : decode cX12_aboveOf 36 = .ok (.iload_n 3, 1) := by decide +kernel
theorem dX12_aboveOf_37 : decode cX12_aboveOf 37 = .ok (.ireturn, 1) := by decide +kernel
theorem dX12_aboveOf_38 : decode cX12_aboveOf 38 = .ok (.iinc 3 1, 3) := by decide +kernel
theorem dX12_aboveOf_41 : decode cX12_aboveOf 41 = .ok (.goto (-37), 3) := by decide +kernel
theorem dX12_aboveOf_44 : decode cX12_aboveOf 44 = .ok (.iconst (-1), 1) := by decide +kernel
theorem dX12_aboveOf_45 : decode cX12_aboveOf 45 = .ok (.ireturn, 1) := by decide +kernel
theorem dX12_wentBy_0 : decode cX12_wentBy 0 = .ok (.iconst 0, 1) := by decide +kernel
theorem dX12_wentBy_1 : decode cX12_wentBy 1 = .ok (.istore_n 3, 1) := by decide +kernel
theorem dX12_wentBy_2 : decode cX12_wentBy 2 = .ok (.aload_n 0, 1) := by decide +kernel
theorem dX12_wentBy_3 : decode cX12_wentBy 3 = .ok (.iload_n 1, 1) := by decide +kernel
theorem dX12_wentBy_4 : decode cX12_wentBy 4 = .ok (.iload_n 3, 1) := by decide +kernel
theorem dX12_wentBy_5 : decode cX12_wentBy 5 = .ok (.iconst 0, 1) := by decide +kernel
theorem dX12_wentBy_6 : decode cX12_wentBy 6 = .ok (.invokevirtual 230, 3) := by decide +kernel
theorem dX12_wentBy_9 : decode cX12_wentBy 9 = .ok (.iload_n 2, 1) := by decide +kernel
theorem dX12_wentBy_10 : decode cX12_wentBy 10 = .ok (.if_icmp .eq 20, 3) := by decide +kernel
theorem dX12_wentBy_13 : decode cX12_wentBy 13 = .ok (.aload_n 0, 1) := by decide +kernel
theorem dX12_wentBy_14 : decode cX12_wentBy 14 = .ok (.iload_n 1, 1) := by decide +kernel
theorem dX12_wentBy_15 : decode cX12_wentBy 15 = .ok (.iload_n 3, 1) := by decide +kernel
theorem dX12_wentBy_16 : decode cX12_wentBy 16 = .ok (.iconst 1, 1) := by decide +kernel
theorem dX12_wentBy_17 : decode cX12_wentBy 17 = .ok (.invokevirtual 230, 3) := by decide +kernel
theorem dX12_wentBy_20 : decode cX12_wentBy 20 = .ok (.iload_n 2, 1) := by decide +kernel
theorem dX12_wentBy_21 : decode cX12_wentBy 21 = .ok (.if_icmp .eq 9, 3) := by decide +kernel
theorem dX12_wentBy_24 : decode cX12_wentBy 24 = .ok (.iinc 3 1, 3) := by decide +kernel
theorem dX12_wentBy_27 : decode cX12_wentBy 27 = .ok (.goto (-25), 3) := by decide +kernel
theorem dX12_wentBy_30 : decode cX12_wentBy 30 = .ok (.iload_n 3, 1) := by decide +kernel
theorem dX12_wentBy_31 : decode cX12_wentBy 31 = .ok (.ireturn, 1) := by decide +kernel
theorem dX12_cameBy_0 : decode cX12_cameBy 0 = .ok (.aload_n 0, 1) := by decide +kernel
theorem dX12_cameBy_1 : decode cX12_cameBy 1 = .ok (.iload_n 1, 1) := by decide +kernel
theorem dX12_cameBy_2 : decode cX12_cameBy 2 = .ok (.iload_n 2, 1) := by decide +kernel
theorem dX12_cameBy_3 : decode cX12_cameBy 3 = .ok (.iconst 1, 1) := by decide +kernel
theorem dX12_cameBy_4 : decode cX12_cameBy 4 = .ok (.invokevirtual 230, 3) := by decide +kernel
theorem dX12_cameBy_7 : decode cX12_cameBy 7 = .ok (.iconst (-1), 1) := by decide +kernel
theorem dX12_cameBy_8 : decode cX12_cameBy 8 = .ok (.if_icmp .ne 5, 3) := by decide +kernel
theorem dX12_cameBy_11 : decode cX12_cameBy 11 = .ok (.iconst (-1), 1) := by decide +kernel
theorem dX12_cameBy_12 : decode cX12_cameBy 12 = .ok (.ireturn, 1) := by decide +kernel
theorem dX12_cameBy_13 : decode cX12_cameBy 13 = .ok (.aload_n 0, 1) := by decide +kernel
theorem dX12_cameBy_14 : decode cX12_cameBy 14 = .ok (.iload_n 1, 1) := by decide +kernel
theorem dX12_cameBy_15 : decode cX12_cameBy 15 = .ok (.iconst 1, 1) := by decide +kernel
theorem dX12_cameBy_16 : decode cX12_cameBy 16 = .ok (.invokevirtual 88, 3) := by decide +kernel
theorem dX12_cameBy_19 : decode cX12_cameBy 19 = .ok (.istore_n 3, 1) := by decide +kernel
theorem dX12_cameBy_20 : decode cX12_cameBy 20 = .ok (.iconst 0, 1) := by decide +kernel
theorem dX12_cameBy_21 : decode cX12_cameBy 21 = .ok (.istore 4, 2) := by decide +kernel
theorem dX12_cameBy_23 : decode cX12_cameBy 23 = .ok (.iload 4, 2) := by decide +kernel
theorem dX12_cameBy_25 : decode cX12_cameBy 25 = .ok (.iload_n 2, 1) := by decide +kernel
theorem dX12_cameBy_26 : decode cX12_cameBy 26 = .ok (.if_icmp .ge 29, 3) := by decide +kernel
theorem dX12_cameBy_29 : decode cX12_cameBy 29 = .ok (.iload_n 3, 1) := by decide +kernel
theorem dX12_cameBy_30 : decode cX12_cameBy 30 = .ok (.aload_n 0, 1) := by decide +kernel
theorem dX12_cameBy_31 : decode cX12_cameBy 31 = .ok (.iload_n 1, 1) := by decide +kernel
theorem dX12_cameBy_32 : decode cX12_cameBy 32 = .ok (.iload 4, 2) := by decide +kernel
theorem dX12_cameBy_34 : decode cX12_cameBy 34 = .ok (.iconst 1, 1) := by decide +kernel
theorem dX12_cameBy_35 : decode cX12_cameBy 35 = .ok (.invokevirtual 230, 3) := by decide +kernel
theorem dX12_cameBy_38 : decode cX12_cameBy 38 = .ok (.iconst (-1), 1) := by decide +kernel
theorem dX12_cameBy_39 : decode cX12_cameBy 39 = .ok (.if_icmp .ne 7, 3) := by decide +kernel
theorem dX12_cameBy_42 : decode cX12_cameBy 42 = .ok (.iconst 0, 1) := by decide +kernel
theorem dX12_cameBy_43 : decode cX12_cameBy 43 = .ok (.goto 4, 3) := by decide +kernel
theorem dX12_cameBy_46 : decode cX12_cameBy 46 = .ok (.iconst 1, 1) := by decide +kernel
theorem dX12_cameBy_47 : decode cX12_cameBy 47 = .ok (.iadd, 1) := by decide +kernel
theorem dX12_cameBy_48 : decode cX12_cameBy 48 = .ok (.istore_n 3, 1) := by decide +kernel
theorem dX12_cameBy_49 : decode cX12_cameBy 49 = .ok (.iinc 4 1, 3) := by decide +kernel
theorem dX12_cameBy_52 : decode cX12_cameBy 52 = .ok (.goto (-29), 3) := by decide +kernel
theorem dX12_cameBy_55 : decode cX12_cameBy 55 = .ok (.iload_n 3, 1) := by decide +kernel
theorem dX12_cameBy_56 : decode cX12_cameBy 56 = .ok (.ireturn, 1) := by decide +kernel
theorem dX12_joinedBy_0 : decode cX12_joinedBy 0 = .ok (.aload_n 0, 1) := by decide +kernel
theorem dX12_joinedBy_1 : decode cX12_joinedBy 1 = .ok (.iload_n 1, 1) := by decide +kernel
theorem dX12_joinedBy_2 : decode cX12_joinedBy 2 = .ok (.iload_n 2, 1) := by decide +kernel
theorem dX12_joinedBy_3 : decode cX12_joinedBy 3 = .ok (.invokevirtual 233, 3) := by decide +kernel
theorem dX12_joinedBy_6 : decode cX12_joinedBy 6 = .ok (.ifCond .ne 5, 3) := by decide +kernel
theorem dX12_joinedBy_9 : decode cX12_joinedBy 9 = .ok (.iconst (-1), 1) := by decide +kernel
theorem dX12_joinedBy_10 : decode cX12_joinedBy 10 = .ok (.ireturn, 1) := by decide +kernel
theorem dX12_joinedBy_11 : decode cX12_joinedBy 11 = .ok (.iconst 0, 1) := by decide +kernel
theorem dX12_joinedBy_12 : decode cX12_joinedBy 12 = .ok (.istore_n 3, 1) := by decide +kernel
theorem dX12_joinedBy_13 : decode cX12_joinedBy 13 = .ok (.aload_n 0, 1) := by decide +kernel
theorem dX12_joinedBy_14 : decode cX12_joinedBy 14 = .ok (.iload_n 1, 1) := by decide +kernel
theorem dX12_joinedBy_15 : decode cX12_joinedBy 15 = .ok (.iload_n 3, 1) := by decide +kernel
theorem dX12_joinedBy_16 : decode cX12_joinedBy 16 = .ok (.invokevirtual 236, 3) := by decide +kernel
theorem dX12_joinedBy_19 : decode cX12_joinedBy 19 = .ok (.iload_n 2, 1) := by decide +kernel
theorem dX12_joinedBy_20 : decode cX12_joinedBy 20 = .ok (.if_icmp .eq 9, 3) := by decide +kernel
theorem dX12_joinedBy_23 : decode cX12_joinedBy 23 = .ok (.iinc 3 1, 3) := by decide +kernel
theorem dX12_joinedBy_26 : decode cX12_joinedBy 26 = .ok (.goto (-13), 3) := by decide +kernel
theorem dX12_joinedBy_29 : decode cX12_joinedBy 29 = .ok (.iload_n 3, 1) := by decide +kernel
theorem dX12_joinedBy_30 : decode cX12_joinedBy 30 = .ok (.ireturn, 1) := by decide +kernel
theorem dX12_knot_0 : decode cX12_knot 0 = .ok (.aload_n 0, 1) := by decide +kernel
theorem dX12_knot_1 : decode cX12_knot 1 = .ok (.iload_n 1, 1) := by decide +kernel
theorem dX12_knot_2 : decode cX12_knot 2 = .ok (.iload_n 2, 1) := by decide +kernel
theorem dX12_knot_3 : decode cX12_knot 3 = .ok (.invokevirtual 206, 3) := by decide +kernel
theorem dX12_knot_6 : decode cX12_knot 6 = .ok (.ifCond .ne 7, 3) := by decide +kernel
theorem dX12_knot_9 : decode cX12_knot 9 = .ok (.sipush (-1000), 3) := by decide +kernel
theorem dX12_knot_12 : decode cX12_knot 12 = .ok (.ireturn, 1) := by decide +kernel
theorem dX12_knot_13 : decode cX12_knot 13 = .ok (.iload_n 3, 1) := by decide +kernel
theorem dX12_knot_14 : decode cX12_knot 14 = .ok (.tableswitch 47 5 7 #[26, 33, 40], 26) := by decide +kernel
theorem dX12_knot_40 : decode cX12_knot 40 = .ok (.aload_n 0, 1) := by decide +kernel
theorem dX12_knot_41 : decode cX12_knot 41 = .ok (.iload_n 1, 1) := by decide +kernel
theorem dX12_knot_42 : decode cX12_knot 42 = .ok (.iload_n 2, 1) := by decide +kernel
theorem dX12_knot_43 : decode cX12_knot 43 = .ok (.invokevirtual 239, 3) := by decide +kernel
theorem dX12_knot_46 : decode cX12_knot 46 = .ok (.ireturn, 1) := by decide +kernel
theorem dX12_knot_47 : decode cX12_knot 47 = .ok (.aload_n 0, 1) := by decide +kernel
theorem dX12_knot_48 : decode cX12_knot 48 = .ok (.iload_n 1, 1) := by decide +kernel
theorem dX12_knot_49 : decode cX12_knot 49 = .ok (.iload_n 2, 1) := by decide +kernel
theorem dX12_knot_50 : decode cX12_knot 50 = .ok (.invokevirtual 242, 3) := by decide +kernel
theorem dX12_knot_53 : decode cX12_knot 53 = .ok (.ireturn, 1) := by decide +kernel
theorem dX12_knot_54 : decode cX12_knot 54 = .ok (.aload_n 0, 1) := by decide +kernel
theorem dX12_knot_55 : decode cX12_knot 55 = .ok (.iload_n 1, 1) := by decide +kernel
theorem dX12_knot_56 : decode cX12_knot 56 = .ok (.iload_n 2, 1) := by decide +kernel
theorem dX12_knot_57 : decode cX12_knot 57 = .ok (.invokevirtual 245, 3) := by decide +kernel
theorem dX12_knot_60 : decode cX12_knot 60 = .ok (.ireturn, 1) := by decide +kernel
theorem dX12_knot_61 : decode cX12_knot 61 = .ok (.iload_n 3, 1) := by decide +kernel
theorem dX12_knot_62 : decode cX12_knot 62 = .ok (.iconst 0, 1) := by decide +kernel
theorem dX12_knot_63 : decode cX12_knot 63 = .ok (.iconst 4, 1) := by decide +kernel
theorem dX12_knot_64 : decode cX12_knot 64 = .ok (.invokestatic 69, 3) := by decide +kernel
theorem dX12_knot_67 : decode cX12_knot 67 = .ok (.ifCond .eq 13, 3) := by decide +kernel
theorem dX12_knot_70 : decode cX12_knot 70 = .ok (.aload_n 0, 1) := by decide +kernel
theorem dX12_knot_71 : decode cX12_knot 71 = .ok (.iload_n 1, 1) := by decide +kernel
theorem dX12_knot_72 : decode cX12_knot 72 = .ok (.iload_n 2, 1) := by decide +kernel
theorem dX12_knot_73 : decode cX12_knot 73 = .ok (.iload_n 3, 1) := by decide +kernel
theorem dX12_knot_74 : decode cX12_knot 74 = .ok (.invokevirtual 91, 3) := by decide +kernel
theorem dX12_knot_77 : decode cX12_knot 77 = .ok (.goto 6, 3) := by decide +kernel
theorem dX12_knot_80 : decode cX12_knot 80 = .ok (.sipush (-1000), 3) := by decide +kernel
theorem dX12_knot_83 : decode cX12_knot 83 = .ok (.ireturn, 1) := by decide +kernel
theorem dX12_isStep_0 : decode cX12_isStep 0 = .ok (.aload_n 0, 1) := by decide +kernel
theorem dX12_isStep_1 : decode cX12_isStep 1 = .ok (.iload_n 1, 1) := by decide +kernel
theorem dX12_isStep_2 : decode cX12_isStep 2 = .ok (.invokevirtual 84, 3) := by decide +kernel
theorem dX12_isStep_5 : decode cX12_isStep 5 = .ok (.ifCond .eq 22, 3) := by decide +kernel
theorem dX12_isStep_8 : decode cX12_isStep 8 = .ok (.iload_n 2, 1) := by decide +kernel
theorem dX12_isStep_9 : decode cX12_isStep 9 = .ok (.iconst 0, 1) := by decide +kernel
theorem dX12_isStep_10 : decode cX12_isStep 10 = .ok (.aload_n 0, 1) := by decide +kernel
theorem dX12_isStep_11 : decode cX12_isStep 11 = .ok (.iload_n 1, 1) := by decide +kernel
theorem dX12_isStep_12 : decode cX12_isStep 12 = .ok (.invokevirtual 248, 3) := by decide +kernel
theorem dX12_isStep_15 : decode cX12_isStep 15 = .ok (.iconst 1, 1) := by decide +kernel
theorem dX12_isStep_16 : decode cX12_isStep 16 = .ok (.isub, 1) := by decide +kernel
theorem dX12_isStep_17 : decode cX12_isStep 17 = .ok (.invokestatic 69, 3) := by decide +kernel
theorem dX12_isStep_20 : decode cX12_isStep 20 = .ok (.ifCond .eq 7, 3) := by decide +kernel
theorem dX12_isStep_23 : decode cX12_isStep 23 = .ok (.iconst 1, 1) := by decide +kernel
theorem dX12_isStep_24 : decode cX12_isStep 24 = .ok (.goto 4, 3) := by decide +kernel
theorem dX12_isStep_27 : decode cX12_isStep 27 = .ok (.iconst 0, 1) := by decide +kernel
theorem dX12_isStep_28 : decode cX12_isStep 28 = .ok (.ireturn, 1) := by decide +kernel
theorem dX12_step_0 : decode cX12_step 0 = .ok (.aload_n 0, 1) := by decide +kernel
theorem dX12_step_1 : decode cX12_step 1 = .ok (.iload_n 1, 1) := by decide +kernel
theorem dX12_step_2 : decode cX12_step 2 = .ok (.iload_n 2, 1) := by decide +kernel
theorem dX12_step_3 : decode cX12_step 3 = .ok (.invokevirtual 251, 3) := by decide +kernel
theorem dX12_step_6 : decode cX12_step 6 = .ok (.ifCond .eq 12, 3) := by decide +kernel
theorem dX12_step_9 : decode cX12_step 9 = .ok (.iload_n 3, 1) := by decide +kernel
theorem dX12_step_10 : decode cX12_step 10 = .ok (.iconst 0, 1) := by decide +kernel
theorem dX12_step_11 : decode cX12_step 11 = .ok (.iconst 2, 1) := by decide +kernel
theorem dX12_step_12 : decode cX12_step 12 = .ok (.invokestatic 69, 3) := by decide +kernel
theorem dX12_step_15 : decode cX12_step 15 = .ok (.ifCond .ne 6, 3) := by decide +kernel
theorem dX12_step_18 : decode cX12_step 18 = .ok (.bipush (-2), 2) := by decide +kernel
theorem dX12_step_20 : decode cX12_step 20 = .ok (.ireturn, 1) := by decide +kernel
theorem dX12_step_21 : decode cX12_step 21 = .ok (.iload_n 3, 1) := by decide +kernel
theorem dX12_step_22 : decode cX12_step 22 = .ok (.iconst 2, 1) := by decide +kernel
theorem dX12_step_23 : decode cX12_step 23 = .ok (.if_icmp .ne 12, 3) := by decide +kernel
theorem dX12_step_26 : decode cX12_step 26 = .ok (.aload_n 0, 1) := by decide +kernel
theorem dX12_step_27 : decode cX12_step 27 = .ok (.iload_n 1, 1) := by decide +kernel
theorem dX12_step_28 : decode cX12_step 28 = .ok (.iload_n 2, 1) := by decide +kernel
theorem dX12_step_29 : decode cX12_step 29 = .ok (.invokevirtual 236, 3) := by decide +kernel
theorem dX12_step_32 : decode cX12_step 32 = .ok (.goto 10, 3) := by decide +kernel
theorem dX12_step_35 : decode cX12_step 35 = .ok (.aload_n 0, 1) := by decide +kernel
theorem dX12_step_36 : decode cX12_step 36 = .ok (.iload_n 1, 1) := by decide +kernel
theorem dX12_step_37 : decode cX12_step 37 = .ok (.iload_n 2, 1) := by decide +kernel
theorem dX12_step_38 : decode cX12_step 38 = .ok (.iload_n 3, 1) := by decide +kernel
theorem dX12_step_39 : decode cX12_step 39 = .ok (.invokevirtual 230, 3) := by decide +kernel
theorem dX12_step_42 : decode cX12_step 42 = .ok (.ireturn, 1) := by decide +kernel
theorem dX12_layOf_0 : decode cX12_layOf 0 = .ok (.aload_n 0, 1) := by decide +kernel
theorem dX12_layOf_1 : decode cX12_layOf 1 = .ok (.iconst 0, 1) := by decide +kernel
theorem dX12_layOf_2 : decode cX12_layOf 2 = .ok (.putfield 95, 3) := by decide +kernel
theorem dX12_layOf_5 : decode cX12_layOf 5 = .ok (.iconst 0, 1) := by decide +kernel
theorem dX12_layOf_6 : decode cX12_layOf 6 = .ok (.istore_n 2, 1) := by decide +kernel
theorem dX12_layOf_7 : decode cX12_layOf 7 = .ok (.iload_n 2, 1) := by decide +kernel
theorem dX12_layOf_8 : decode cX12_layOf 8 = .ok (.aload_n 0, 1) := by decide +kernel
theorem dX12_layOf_9 : decode cX12_layOf 9 = .ok (.iload_n 1, 1) := by decide +kernel
theorem dX12_layOf_10 : decode cX12_layOf 10 = .ok (.iconst 0, 1) := by decide +kernel
theorem dX12_layOf_11 : decode cX12_layOf 11 = .ok (.invokevirtual 88, 3) := by decide +kernel
theorem dX12_layOf_14 : decode cX12_layOf 14 = .ok (.if_icmp .ge 47, 3) := by decide +kernel
theorem dX12_layOf_17 : decode cX12_layOf 17 = .ok (.aload_n 0, 1) := by decide +kernel
theorem dX12_layOf_18 : decode cX12_layOf 18 = .ok (.aload_n 0, 1) := by decide +kernel
theorem dX12_layOf_19 : decode cX12_layOf 19 = .ok (.iload_n 1, 1) := by decide +kernel
theorem dX12_layOf_20 : decode cX12_layOf 20 = .ok (.iload_n 2, 1) := by decide +kernel
theorem dX12_layOf_21 : decode cX12_layOf 21 = .ok (.iconst 0, 1) := by decide +kernel
theorem dX12_layOf_22 : decode cX12_layOf 22 = .ok (.invokevirtual 91, 3) := by decide +kernel
theorem dX12_layOf_25 : decode cX12_layOf 25 = .ok (.aload_n 0, 1) := by decide +kernel
theorem dX12_layOf_26 : decode cX12_layOf 26 = .ok (.iload_n 1, 1) := by decide +kernel
theorem dX12_layOf_27 : decode cX12_layOf 27 = .ok (.iload_n 2, 1) := by decide +kernel
theorem dX12_layOf_28 : decode cX12_layOf 28 = .ok (.iconst 1, 1) := by decide +kernel
theorem dX12_layOf_29 : decode cX12_layOf 29 = .ok (.invokevirtual 91, 3) := by decide +kernel
theorem dX12_layOf_32 : decode cX12_layOf 32 = .ok (.aload_n 0, 1) := by decide +kernel
theorem dX12_layOf_33 : decode cX12_layOf 33 = .ok (.iload_n 1, 1) := by decide +kernel
theorem dX12_layOf_34 : decode cX12_layOf 34 = .ok (.iload_n 2, 1) := by decide +kernel
theorem dX12_layOf_35 : decode cX12_layOf 35 = .ok (.invokevirtual 158, 3) := by decide +kernel
theorem dX12_layOf_38 : decode cX12_layOf 38 = .ok (.aload_n 0, 1) := by decide +kernel
theorem dX12_layOf_39 : decode cX12_layOf 39 = .ok (.iload_n 1, 1) := by decide +kernel
theorem dX12_layOf_40 : decode cX12_layOf 40 = .ok (.iload_n 2, 1) := by decide +kernel
theorem dX12_layOf_41 : decode cX12_layOf 41 = .ok (.iconst 3, 1) := by decide +kernel
theorem dX12_layOf_42 : decode cX12_layOf 42 = .ok (.invokevirtual 91, 3) := by decide +kernel
theorem dX12_layOf_45 : decode cX12_layOf 45 = .ok (.aload_n 0, 1) := by decide +kernel
theorem dX12_layOf_46 : decode cX12_layOf 46 = .ok (.iload_n 1, 1) := by decide +kernel
theorem dX12_layOf_47 : decode cX12_layOf 47 = .ok (.iload_n 2, 1) := by decide +kernel
theorem dX12_layOf_48 : decode cX12_layOf 48 = .ok (.iconst 4, 1) := by decide +kernel
theorem dX12_layOf_49 : decode cX12_layOf 49 = .ok (.invokevirtual 91, 3) := by decide +kernel
theorem dX12_layOf_52 : decode cX12_layOf 52 = .ok (.invokevirtual 127, 3) := by decide +kernel
theorem dX12_layOf_55 : decode cX12_layOf 55 = .ok (.iinc 2 1, 3) := by decide +kernel
theorem dX12_layOf_58 : decode cX12_layOf 58 = .ok (.goto (-51), 3) := by decide +kernel
theorem dX12_layOf_61 : decode cX12_layOf 61 = .ok (.aload_n 0, 1) := by decide +kernel
theorem dX12_layOf_62 : decode cX12_layOf 62 = .ok (.aload_n 0, 1) := by decide +kernel
theorem dX12_layOf_63 : decode cX12_layOf 63 = .ok (.iload_n 1, 1) := by decide +kernel
theorem dX12_layOf_64 : decode cX12_layOf 64 = .ok (.iconst 2, 1) := by decide +kernel
theorem dX12_layOf_65 : decode cX12_layOf 65 = .ok (.invokevirtual 88, 3) := by decide +kernel
theorem dX12_layOf_68 : decode cX12_layOf 68 = .ok (.putfield 99, 3) := by decide +kernel
theorem dX12_layOf_71 : decode cX12_layOf 71 = .ok (.aload_n 0, 1) := by decide +kernel
theorem dX12_layOf_72 : decode cX12_layOf 72 = .ok (.aload_n 0, 1) := by decide +kernel
theorem dX12_layOf_73 : decode cX12_layOf 73 = .ok (.iload_n 1, 1) := by decide +kernel
theorem dX12_layOf_74 : decode cX12_layOf 74 = .ok (.iconst 3, 1) := by decide +kernel
theorem dX12_layOf_75 : decode cX12_layOf 75 = .ok (.invokevirtual 88, 3) := by decide +kernel
theorem dX12_layOf_78 : decode cX12_layOf 78 = .ok (.putfield 106, 3) := by decide +kernel
theorem dX12_layOf_81 : decode cX12_layOf 81 = .ok (.aload_n 0, 1) := by decide +kernel
theorem dX12_layOf_82 : decode cX12_layOf 82 = .ok (.aload_n 0, 1) := by decide +kernel
theorem dX12_layOf_83 : decode cX12_layOf 83 = .ok (.iload_n 1, 1) := by decide +kernel
theorem dX12_layOf_84 : decode cX12_layOf 84 = .ok (.iconst 4, 1) := by decide +kernel
theorem dX12_layOf_85 : decode cX12_layOf 85 = .ok (.invokevirtual 88, 3) := by decide +kernel
theorem dX12_layOf_88 : decode cX12_layOf 88 = .ok (.putfield 124, 3) := by decide +kernel
theorem dX12_layOf_91 : decode cX12_layOf 91 = .ok (.return_, 1) := by decide +kernel
theorem dX12_upOfStep_0 : decode cX12_upOfStep 0 = .ok (.aload_n 0, 1) := by decide +kernel
theorem dX12_upOfStep_1 : decode cX12_upOfStep 1 = .ok (.aload_n 0, 1) := by decide +kernel
theorem dX12_upOfStep_2 : decode cX12_upOfStep 2 = .ok (.iload_n 1, 1) := by decide +kernel
theorem dX12_upOfStep_3 : decode cX12_upOfStep 3 = .ok (.iload_n 2, 1) := by decide +kernel
theorem dX12_upOfStep_4 : decode cX12_upOfStep 4 = .ok (.iconst 0, 1) := by decide +kernel
theorem dX12_upOfStep_5 : decode cX12_upOfStep 5 = .ok (.invokevirtual 230, 3) := by decide +kernel
theorem dX12_upOfStep_8 : decode cX12_upOfStep 8 = .ok (.aload_n 0, 1) := by decide +kernel
theorem dX12_upOfStep_9 : decode cX12_upOfStep 9 = .ok (.iload_n 1, 1) := by decide +kernel
theorem dX12_upOfStep_10 : decode cX12_upOfStep 10 = .ok (.iload_n 2, 1) := by decide +kernel
theorem dX12_upOfStep_11 : decode cX12_upOfStep 11 = .ok (.iconst 1, 1) := by decide +kernel
theorem dX12_upOfStep_12 : decode cX12_upOfStep 12 = .ok (.invokevirtual 230, 3) := by decide +kernel
theorem dX12_upOfStep_15 : decode cX12_upOfStep 15 = .ok (.invokevirtual 109, 3) := by decide +kernel
theorem dX12_upOfStep_18 : decode cX12_upOfStep 18 = .ok (.lreturn, 1) := by decide +kernel
theorem dX12_downOfStep_0 : decode cX12_downOfStep 0 = .ok (.aload_n 0, 1) := by decide +kernel
theorem dX12_downOfStep_1 : decode cX12_downOfStep 1 = .ok (.aload_n 0, 1) := by decide +kernel
theorem dX12_downOfStep_2 : decode cX12_downOfStep 2 = .ok (.iload_n 1, 1) := by decide +kernel
theorem dX12_downOfStep_3 : decode cX12_downOfStep 3 = .ok (.iload_n 2, 1) := by decide +kernel
theorem dX12_downOfStep_4 : decode cX12_downOfStep 4 = .ok (.iconst 0, 1) := by decide +kernel
theorem dX12_downOfStep_5 : decode cX12_downOfStep 5 = .ok (.invokevirtual 230, 3) := by decide +kernel
theorem dX12_downOfStep_8 : decode cX12_downOfStep 8 = .ok (.aload_n 0, 1) := by decide +kernel
theorem dX12_downOfStep_9 : decode cX12_downOfStep 9 = .ok (.iload_n 1, 1) := by decide +kernel
theorem dX12_downOfStep_10 : decode cX12_downOfStep 10 = .ok (.iload_n 2, 1) := by decide +kernel
theorem dX12_downOfStep_11 : decode cX12_downOfStep 11 = .ok (.iconst 1, 1) := by decide +kernel
theorem dX12_downOfStep_12 : decode cX12_downOfStep 12 = .ok (.invokevirtual 230, 3) := by decide +kernel
theorem dX12_downOfStep_15 : decode cX12_downOfStep 15 = .ok (.invokevirtual 113, 3) := by decide +kernel
theorem dX12_downOfStep_18 : decode cX12_downOfStep 18 = .ok (.lreturn, 1) := by decide +kernel
theorem dX12_up_0 : decode cX12_up 0 = .ok (.aload_n 0, 1) := by decide +kernel
theorem dX12_up_1 : decode cX12_up 1 = .ok (.iload_n 1, 1) := by decide +kernel
theorem dX12_up_2 : decode cX12_up 2 = .ok (.iload_n 2, 1) := by decide +kernel
theorem dX12_up_3 : decode cX12_up 3 = .ok (.invokevirtual 251, 3) := by decide +kernel
theorem dX12_up_6 : decode cX12_up 6 = .ok (.ifCond .ne 7, 3) := by decide +kernel
theorem dX12_up_9 : decode cX12_up 9 = .ok (.ldc2_w 254, 3) := by decide +kernel
theorem dX12_up_12 : decode cX12_up 12 = .ok (.lreturn, 1) := by decide +kernel
theorem dX12_up_13 : decode cX12_up 13 = .ok (.aload_n 0, 1) := by decide +kernel
theorem dX12_up_14 : decode cX12_up 14 = .ok (.iload_n 1, 1) := by decide +kernel
theorem dX12_up_15 : decode cX12_up 15 = .ok (.invokevirtual 256, 3) := by decide +kernel
theorem dX12_up_18 : decode cX12_up 18 = .ok (.aload_n 0, 1) := by decide +kernel
theorem dX12_up_19 : decode cX12_up 19 = .ok (.iload_n 1, 1) := by decide +kernel
theorem dX12_up_20 : decode cX12_up 20 = .ok (.iload_n 2, 1) := by decide +kernel
theorem dX12_up_21 : decode cX12_up 21 = .ok (.invokevirtual 259, 3) := by decide +kernel
theorem dX12_up_24 : decode cX12_up 24 = .ok (.lstore_n 3, 1) := by decide +kernel
theorem dX12_up_25 : decode cX12_up 25 = .ok (.lload_n 3, 1) := by decide +kernel
theorem dX12_up_26 : decode cX12_up 26 = .ok (.lload_n 3, 1) := by decide +kernel
theorem dX12_up_27 : decode cX12_up 27 = .ok (.aload_n 0, 1) := by decide +kernel
theorem dX12_up_28 : decode cX12_up 28 = .ok (.iload_n 1, 1) := by decide +kernel
theorem dX12_up_29 : decode cX12_up 29 = .ok (.iload_n 2, 1) := by decide +kernel
theorem dX12_up_30 : decode cX12_up 30 = .ok (.invokevirtual 262, 3) := by decide +kernel
theorem dX12_up_33 : decode cX12_up 33 = .ok (.invokestatic 265, 3) := by decide +kernel
theorem dX12_up_36 : decode cX12_up 36 = .ok (.ldiv, 1) := by decide +kernel
theorem dX12_up_37 : decode cX12_up 37 = .ok (.lreturn, 1) := by decide +kernel
theorem dX12_down_0 : decode cX12_down 0 = .ok (.aload_n 0, 1) := by decide +kernel
theorem dX12_down_1 : decode cX12_down 1 = .ok (.iload_n 1, 1) := by decide +kernel
theorem dX12_down_2 : decode cX12_down 2 = .ok (.iload_n 2, 1) := by decide +kernel
theorem dX12_down_3 : decode cX12_down 3 = .ok (.invokevirtual 251, 3) := by decide +kernel
theorem dX12_down_6 : decode cX12_down 6 = .ok (.ifCond .ne 7, 3) := by decide +kernel
theorem dX12_down_9 : decode cX12_down 9 = .ok (.ldc2_w 254, 3) := by decide +kernel
theorem dX12_down_12 : decode cX12_down 12 = .ok (.lreturn, 1) := by decide +kernel
theorem dX12_down_13 : decode cX12_down 13 = .ok (.aload_n 0, 1) := by decide +kernel
theorem dX12_down_14 : decode cX12_down 14 = .ok (.iload_n 1, 1) := by decide +kernel
theorem dX12_down_15 : decode cX12_down 15 = .ok (.invokevirtual 256, 3) := by decide +kernel
theorem dX12_down_18 : decode cX12_down 18 = .ok (.aload_n 0, 1) := by decide +kernel
theorem dX12_down_19 : decode cX12_down 19 = .ok (.iload_n 1, 1) := by decide +kernel
theorem dX12_down_20 : decode cX12_down 20 = .ok (.iload_n 2, 1) := by decide +kernel
theorem dX12_down_21 : decode cX12_down 21 = .ok (.invokevirtual 262, 3) := by decide +kernel
theorem dX12_down_24 : decode cX12_down 24 = .ok (.lstore_n 3, 1) := by decide +kernel
theorem dX12_down_25 : decode cX12_down 25 = .ok (.lload_n 3, 1) := by decide +kernel
theorem dX12_down_26 : decode cX12_down 26 = .ok (.aload_n 0, 1) := by decide +kernel
theorem dX12_down_27 : decode cX12_down 27 = .ok (.iload_n 1, 1) := by decide +kernel
theorem dX12_down_28 : decode cX12_down 28 = .ok (.iload_n 2, 1) := by decide +kernel
theorem dX12_down_29 : decode cX12_down 29 = .ok (.invokevirtual 259, 3) := by decide +kernel
theorem dX12_down_32 : decode cX12_down 32 = .ok (.lload_n 3, 1) := by decide +kernel
theorem dX12_down_33 : decode cX12_down 33 = .ok (.invokestatic 265, 3) := by decide +kernel
theorem dX12_down_36 : decode cX12_down 36 = .ok (.ldiv, 1) := by decide +kernel
theorem dX12_down_37 : decode cX12_down 37 = .ok (.lreturn, 1) := by decide +kernel
theorem dX12_leavesOf_0 : decode cX12_leavesOf 0 = .ok (.lconst 0, 1) := by decide +kernel
theorem dX12_leavesOf_1 : decode cX12_leavesOf 1 = .ok (.lstore_n 3, 1) := by decide +kernel
theorem dX12_leavesOf_2 : decode cX12_leavesOf 2 = .ok (.aload_n 0, 1) := by decide +kernel
theorem dX12_leavesOf_3 : decode cX12_leavesOf 3 = .ok (.iconst 1, 1) := by decide +kernel
theorem dX12_leavesOf_4 : decode cX12_leavesOf 4 = .ok (.putfield 269, 3) := by decide +kernel
theorem dX12_leavesOf_7 : decode cX12_leavesOf 7 = .ok (.aload_n 0, 1) := by decide +kernel
theorem dX12_leavesOf_8 : decode cX12_leavesOf 8 = .ok (.getfield 45, 3) := by decide +kernel
theorem dX12_leavesOf_11 : decode cX12_leavesOf 11 = .ok (.iconst 0, 1) := by decide +kernel
theorem dX12_leavesOf_12 : decode cX12_leavesOf 12 = .ok (.iload_n 2, 1) := by decide +kernel
theorem dX12_leavesOf_13 : decode cX12_leavesOf 13 = .ok (.iastore, 1) := by decide +kernel
theorem dX12_leavesOf_14 : decode cX12_leavesOf 14 = .ok (.aload_n 0, 1) := by decide +kernel
theorem dX12_leavesOf_15 : decode cX12_leavesOf 15 = .ok (.getfield 269, 3) := by decide +kernel
theorem dX12_leavesOf_18 : decode cX12_leavesOf 18 = .ok (.ifCond .le 93, 3) := by decide +kernel
theorem dX12_leavesOf_21 : decode cX12_leavesOf 21 = .ok (.aload_n 0, 1) := by decide +kernel
theorem dX12_leavesOf_22 : decode cX12_leavesOf 22 = .ok (.dup, 1) := by decide +kernel
theorem dX12_leavesOf_23 : decode cX12_leavesOf 23 = .ok (.getfield 269, 3) := by decide +kernel
theorem dX12_leavesOf_26 : decode cX12_leavesOf 26 = .ok (.iconst 1, 1) := by decide +kernel
theorem dX12_leavesOf_27 : decode cX12_leavesOf 27 = .ok (.isub, 1) := by decide +kernel
theorem dX12_leavesOf_28 : decode cX12_leavesOf 28 = .ok (.putfield 269, 3) := by decide +kernel
theorem dX12_leavesOf_31 : decode cX12_leavesOf 31 = .ok (.aload_n 0, 1) := by decide +kernel
theorem dX12_leavesOf_32 : decode cX12_leavesOf 32 = .ok (.getfield 45, 3) := by decide +kernel
theorem dX12_leavesOf_35 : decode cX12_leavesOf 35 = .ok (.aload_n 0, 1) := by decide +kernel
theorem dX12_leavesOf_36 : decode cX12_leavesOf 36 = .ok (.getfield 269, 3) := by decide +kernel
theorem dX12_leavesOf_39 : decode cX12_leavesOf 39 = .ok (.iaload, 1) := by decide +kernel
theorem dX12_leavesOf_40 : decode cX12_leavesOf 40 = .ok (.istore 5, 2) := by decide +kernel
theorem dX12_leavesOf_42 : decode cX12_leavesOf 42 = .ok (.aload_n 0, 1) := by decide +kernel
theorem dX12_leavesOf_43 : decode cX12_leavesOf 43 = .ok (.iload_n 1, 1) := by decide +kernel
theorem dX12_leavesOf_44 : decode cX12_leavesOf 44 = .ok (.iload 5, 2) := by decide +kernel
theorem dX12_leavesOf_46 : decode cX12_leavesOf 46 = .ok (.invokevirtual 233, 3) := by decide +kernel
theorem dX12_leavesOf_49 : decode cX12_leavesOf 49 = .ok (.ifCond .ne 13, 3) := by decide +kernel
theorem dX12_leavesOf_52 : decode cX12_leavesOf 52 = .ok (.lload_n 3, 1) := by decide +kernel
theorem dX12_leavesOf_53 : decode cX12_leavesOf 53 = .ok (.lconst 1, 1) := by decide +kernel
theorem dX12_leavesOf_54 : decode cX12_leavesOf 54 = .ok (.iload 5, 2) := by decide +kernel
theorem dX12_leavesOf_56 : decode cX12_leavesOf 56 = .ok (.lshl, 1) := by decide +kernel
theorem dX12_leavesOf_57 : decode cX12_leavesOf 57 = .ok (.lor, 1) := by decide +kernel
theorem dX12_leavesOf_58 : decode cX12_leavesOf 58 = .ok (.lstore_n 3, 1) := by decide +kernel
theorem dX12_leavesOf_59 : decode cX12_leavesOf 59 = .ok (.goto (-45), 3) := by decide +kernel
theorem dX12_leavesOf_62 : decode cX12_leavesOf 62 = .ok (.aload_n 0, 1) := by decide +kernel
theorem dX12_leavesOf_63 : decode cX12_leavesOf 63 = .ok (.getfield 45, 3) := by decide +kernel
theorem dX12_leavesOf_66 : decode cX12_leavesOf 66 = .ok (.aload_n 0, 1) := by decide +kernel
theorem dX12_leavesOf_67 : decode cX12_leavesOf 67 = .ok (.getfield 269, 3) := by decide +kernel
theorem dX12_leavesOf_70 : decode cX12_leavesOf 70 = .ok (.aload_n 0, 1) := by decide +kernel
theorem dX12_leavesOf_71 : decode cX12_leavesOf 71 = .ok (.iload_n 1, 1) := by decide +kernel
theorem dX12_leavesOf_72 : decode cX12_leavesOf 72 = .ok (.iload 5, 2) := by decide +kernel
theorem dX12_leavesOf_74 : decode cX12_leavesOf 74 = .ok (.iconst 3, 1) := by decide +kernel
theorem dX12_leavesOf_75 : decode cX12_leavesOf 75 = .ok (.invokevirtual 91, 3) := by decide +kernel
theorem dX12_leavesOf_78 : decode cX12_leavesOf 78 = .ok (.iastore, 1) := by decide +kernel
theorem dX12_leavesOf_79 : decode cX12_leavesOf 79 = .ok (.aload_n 0, 1) := by decide +kernel
theorem dX12_leavesOf_80 : decode cX12_leavesOf 80 = .ok (.getfield 45, 3) := by decide +kernel
theorem dX12_leavesOf_83 : decode cX12_leavesOf 83 = .ok (.aload_n 0, 1) := by decide +kernel
theorem dX12_leavesOf_84 : decode cX12_leavesOf 84 = .ok (.getfield 269, 3) := by decide +kernel
theorem dX12_leavesOf_87 : decode cX12_leavesOf 87 = .ok (.iconst 1, 1) := by decide +kernel
theorem dX12_leavesOf_88 : decode cX12_leavesOf 88 = .ok (.iadd, 1) := by decide +kernel
theorem dX12_leavesOf_89 : decode cX12_leavesOf 89 = .ok (.aload_n 0, 1) := by decide +kernel
theorem dX12_leavesOf_90 : decode cX12_leavesOf 90 = .ok (.iload_n 1, 1) := by decide +kernel
theorem dX12_leavesOf_91 : decode cX12_leavesOf 91 = .ok (.iload 5, 2) := by decide +kernel
theorem dX12_leavesOf_93 : decode cX12_leavesOf 93 = .ok (.iconst 4, 1) := by decide +kernel
theorem dX12_leavesOf_94 : decode cX12_leavesOf 94 = .ok (.invokevirtual 91, 3) := by decide +kernel
theorem dX12_leavesOf_97 : decode cX12_leavesOf 97 = .ok (.iastore, 1) := by decide +kernel
theorem dX12_leavesOf_98 : decode cX12_leavesOf 98 = .ok (.aload_n 0, 1) := by decide +kernel
theorem dX12_leavesOf_99 : decode cX12_leavesOf 99 = .ok (.dup, 1) := by decide +kernel
theorem dX12_leavesOf_100 : decode cX12_leavesOf 100 = .ok (.getfield 269, 3) := by decide +kernel
theorem dX12_leavesOf_103 : decode cX12_leavesOf 103 = .ok (.iconst 2, 1) := by decide +kernel
theorem dX12_leavesOf_104 : decode cX12_leavesOf 104 = .ok (.iadd, 1) := by decide +kernel
theorem dX12_leavesOf_105 : decode cX12_leavesOf 105 = .ok (.putfield 269, 3) := by decide +kernel
theorem dX12_leavesOf_108 : decode cX12_leavesOf 108 = .ok (.goto (-94), 3) := by decide +kernel
theorem dX12_leavesOf_111 : decode cX12_leavesOf 111 = .ok (.lload_n 3, 1) := by decide +kernel
theorem dX12_leavesOf_112 : decode cX12_leavesOf 112 = .ok (.lreturn, 1) := by decide +kernel
theorem dX12_leaves_0 : decode cX12_leaves 0 = .ok (.aload_n 0, 1) := by decide +kernel
theorem dX12_leaves_1 : decode cX12_leaves 1 = .ok (.iload_n 1, 1) := by decide +kernel
theorem dX12_leaves_2 : decode cX12_leaves 2 = .ok (.iload_n 2, 1) := by decide +kernel
theorem dX12_leaves_3 : decode cX12_leaves 3 = .ok (.invokevirtual 206, 3) := by decide +kernel
theorem dX12_leaves_6 : decode cX12_leaves 6 = .ok (.ifCond .eq 12, 3) := by decide +kernel
theorem dX12_leaves_9 : decode cX12_leaves 9 = .ok (.aload_n 0, 1) := by decide +kernel
theorem dX12_leaves_10 : decode cX12_leaves 10 = .ok (.iload_n 1, 1) := by decide +kernel
theorem dX12_leaves_11 : decode cX12_leaves 11 = .ok (.iload_n 2, 1) := by decide +kernel
theorem dX12_leaves_12 : decode cX12_leaves 12 = .ok (.invokevirtual 209, 3) := by decide +kernel
theorem dX12_leaves_15 : decode cX12_leaves 15 = .ok (.goto 4, 3) := by decide +kernel
theorem dX12_leaves_18 : decode cX12_leaves 18 = .ok (.lconst 0, 1) := by decide +kernel
theorem dX12_leaves_19 : decode cX12_leaves 19 = .ok (.lreturn, 1) := by decide +kernel
theorem dX12_isJet_0 : decode cX12_isJet 0 = .ok (.aload_n 0, 1) := by decide +kernel
theorem dX12_isJet_1 : decode cX12_isJet 1 = .ok (.iload_n 1, 1) := by decide +kernel
theorem dX12_isJet_2 : decode cX12_isJet 2 = .ok (.iload_n 2, 1) := by decide +kernel
theorem dX12_isJet_3 : decode cX12_isJet 3 = .ok (.invokevirtual 239, 3) := by decide +kernel
theorem dX12_isJet_6 : decode cX12_isJet 6 = .ok (.iconst (-1), 1) := by decide +kernel
theorem dX12_isJet_7 : decode cX12_isJet 7 = .ok (.if_icmp .ne 7, 3) := by decide +kernel
theorem dX12_isJet_10 : decode cX12_isJet 10 = .ok (.iconst 1, 1) := by decide +kernel
theorem dX12_isJet_11 : decode cX12_isJet 11 = .ok (.goto 4, 3) := by decide +kernel
theorem dX12_isJet_14 : decode cX12_isJet 14 = .ok (.iconst 0, 1) := by decide +kernel
theorem dX12_isJet_15 : decode cX12_isJet 15 = .ok (.ireturn, 1) := by decide +kernel
theorem dX12_isAheadIn_0 : decode cX12_isAheadIn 0 = .ok (.iconst 0, 1) := by decide +kernel
theorem dX12_isAheadIn_1 : decode cX12_isAheadIn 1 = .ok (.istore 4, 2) := by decide +kernel
theorem dX12_isAheadIn_3 : decode cX12_isAheadIn 3 = .ok (.iload 4, 2) := by decide +kernel
theorem dX12_isAheadIn_5 : decode cX12_isAheadIn 5 = .ok (.iconst 3, 1) := by decide +kernel
theorem dX12_isAheadIn_6 : decode cX12_isAheadIn 6 = .ok (.if_icmp .ge 53, 3) := by decide +kernel
theorem dX12_isAheadIn_9 : decode cX12_isAheadIn 9 = .ok (.aload_n 0, 1) := by decide +kernel
theorem dX12_isAheadIn_10 : decode cX12_isAheadIn 10 = .ok (.iload_n 1, 1) := by decide +kernel
theorem dX12_isAheadIn_11 : decode cX12_isAheadIn 11 = .ok (.iload_n 2, 1) := by decide +kernel
theorem dX12_isAheadIn_12 : decode cX12_isAheadIn 12 = .ok (.iload 4, 2) := by decide +kernel
theorem dX12_isAheadIn_14 : decode cX12_isAheadIn 14 = .ok (.invokevirtual 91, 3) := by decide +kernel
theorem dX12_isAheadIn_17 : decode cX12_isAheadIn 17 = .ok (.aload_n 0, 1) := by decide +kernel
theorem dX12_isAheadIn_18 : decode cX12_isAheadIn 18 = .ok (.iload_n 1, 1) := by decide +kernel
theorem dX12_isAheadIn_19 : decode cX12_isAheadIn 19 = .ok (.iload_n 3, 1) := by decide +kernel
theorem dX12_isAheadIn_20 : decode cX12_isAheadIn 20 = .ok (.iload 4, 2) := by decide +kernel
theorem dX12_isAheadIn_22 : decode cX12_isAheadIn 22 = .ok (.invokevirtual 91, 3) := by decide +kernel
theorem dX12_isAheadIn_25 : decode cX12_isAheadIn 25 = .ok (.if_icmp .eq 28, 3) := by decide +kernel
theorem dX12_isAheadIn_28 : decode cX12_isAheadIn 28 = .ok (.aload_n 0, 1) := by decide +kernel
theorem dX12_isAheadIn_29 : decode cX12_isAheadIn 29 = .ok (.iload_n 1, 1) := by decide +kernel
theorem dX12_isAheadIn_30 : decode cX12_isAheadIn 30 = .ok (.iload_n 2, 1) := by decide +kernel
theorem dX12_isAheadIn_31 : decode cX12_isAheadIn 31 = .ok (.iload 4, 2) := by decide +kernel
theorem dX12_isAheadIn_33 : decode cX12_isAheadIn 33 = .ok (.invokevirtual 91, 3) := by decide +kernel
theorem dX12_isAheadIn_36 : decode cX12_isAheadIn 36 = .ok (.aload_n 0, 1) := by decide +kernel
theorem dX12_isAheadIn_37 : decode cX12_isAheadIn 37 = .ok (.iload_n 1, 1) := by decide +kernel
theorem dX12_isAheadIn_38 : decode cX12_isAheadIn 38 = .ok (.iload_n 3, 1) := by decide +kernel
theorem dX12_isAheadIn_39 : decode cX12_isAheadIn 39 = .ok (.iload 4, 2) := by decide +kernel
theorem dX12_isAheadIn_41 : decode cX12_isAheadIn 41 = .ok (.invokevirtual 91, 3) := by decide +kernel
theorem dX12_isAheadIn_44 : decode cX12_isAheadIn 44 = .ok (.if_icmp .ge 7, 3) := by decide +kernel
theorem dX12_isAheadIn_47 : decode cX12_isAheadIn 47 = .ok (.iconst 1, 1) := by decide +kernel
theorem dX12_isAheadIn_48 : decode cX12_isAheadIn 48 = .ok (.goto 4, 3) := by decide +kernel
theorem dX12_isAheadIn_51 : decode cX12_isAheadIn 51 = .ok (.iconst 0, 1) := by decide +kernel
theorem dX12_isAheadIn_52 : decode cX12_isAheadIn 52 = .ok (.ireturn, 1) := by decide +kernel
theorem dX12_isAheadIn_53 : decode cX12_isAheadIn 53 = .ok (.iinc 4 1, 3) := by decide +kernel
theorem dX12_isAheadIn_56 : decode cX12_isAheadIn 56 = .ok (.goto (-53), 3) := by decide +kernel
theorem dX12_isAheadIn_59 : decode cX12_isAheadIn 59 = .ok (.iload_n 2, 1) := by decide +kernel
theorem dX12_isAheadIn_60 : decode cX12_isAheadIn 60 = .ok (.iload_n 3, 1) := by decide +kernel
theorem dX12_isAheadIn_61 : decode cX12_isAheadIn 61 = .ok (.if_icmp .ge 7, 3) := by decide +kernel
theorem dX12_isAheadIn_64 : decode cX12_isAheadIn 64 = .ok (.iconst 1, 1) := by decide +kernel
theorem dX12_isAheadIn_65 : decode cX12_isAheadIn 65 = .ok (.goto 4, 3) := by decide +kernel
theorem dX12_isAheadIn_68 : decode cX12_isAheadIn 68 = .ok (.iconst 0, 1) := by decide +kernel
theorem dX12_isAheadIn_69 : decode cX12_isAheadIn 69 = .ok (.ireturn, 1) := by decide +kernel
theorem dX12_isHeavier_0 : decode cX12_isHeavier 0 = .ok (.aload_n 0, 1) := by decide +kernel
theorem dX12_isHeavier_1 : decode cX12_isHeavier 1 = .ok (.iload_n 1, 1) := by decide +kernel
theorem dX12_isHeavier_2 : decode cX12_isHeavier 2 = .ok (.iload_n 2, 1) := by decide +kernel
theorem dX12_isHeavier_3 : decode cX12_isHeavier 3 = .ok (.invokevirtual 158, 3) := by decide +kernel
theorem dX12_isHeavier_6 : decode cX12_isHeavier 6 = .ok (.aload_n 0, 1) := by decide +kernel
theorem dX12_isHeavier_7 : decode cX12_isHeavier 7 = .ok (.iload_n 1, 1) := by decide +kernel
theorem dX12_isHeavier_8 : decode cX12_isHeavier 8 = .ok (.iload_n 3, 1) := by decide +kernel
theorem dX12_isHeavier_9 : decode cX12_isHeavier 9 = .ok (.invokevirtual 158, 3) := by decide +kernel
theorem dX12_isHeavier_12 : decode cX12_isHeavier 12 = .ok (.if_icmp .eq 26, 3) := by decide +kernel
theorem dX12_isHeavier_15 : decode cX12_isHeavier 15 = .ok (.aload_n 0, 1) := by decide +kernel
theorem dX12_isHeavier_16 : decode cX12_isHeavier 16 = .ok (.iload_n 1, 1) := by decide +kernel
theorem dX12_isHeavier_17 : decode cX12_isHeavier 17 = .ok (.iload_n 2, 1) := by decide +kernel
theorem dX12_isHeavier_18 : decode cX12_isHeavier 18 = .ok (.invokevirtual 158, 3) := by decide +kernel
theorem dX12_isHeavier_21 : decode cX12_isHeavier 21 = .ok (.aload_n 0, 1) := by decide +kernel
theorem dX12_isHeavier_22 : decode cX12_isHeavier 22 = .ok (.iload_n 1, 1) := by decide +kernel
theorem dX12_isHeavier_23 : decode cX12_isHeavier 23 = .ok (.iload_n 3, 1) := by decide +kernel
theorem dX12_isHeavier_24 : decode cX12_isHeavier 24 = .ok (.invokevirtual 158, 3) := by decide +kernel
theorem dX12_isHeavier_27 : decode cX12_isHeavier 27 = .ok (.if_icmp .le 7, 3) := by decide +kernel
theorem dX12_isHeavier_30 : decode cX12_isHeavier 30 = .ok (.iconst 1, 1) := by decide +kernel
theorem dX12_isHeavier_31 : decode cX12_isHeavier 31 = .ok (.goto 14, 3) := by decide +kernel
theorem dX12_isHeavier_34 : decode cX12_isHeavier 34 = .ok (.iconst 0, 1) := by decide +kernel
theorem dX12_isHeavier_35 : decode cX12_isHeavier 35 = .ok (.goto 10, 3) := by decide +kernel
theorem dX12_isHeavier_38 : decode cX12_isHeavier 38 = .ok (.aload_n 0, 1) := by decide +kernel
theorem dX12_isHeavier_39 : decode cX12_isHeavier 39 = .ok (.iload_n 1, 1) := by decide +kernel
theorem dX12_isHeavier_40 : decode cX12_isHeavier 40 = .ok (.iload_n 2, 1) := by decide +kernel
theorem dX12_isHeavier_41 : decode cX12_isHeavier 41 = .ok (.iload_n 3, 1) := by decide +kernel
theorem dX12_isHeavier_42 : decode cX12_isHeavier 42 = .ok (.invokevirtual 272, 3) := by decide +kernel
theorem dX12_isHeavier_45 : decode cX12_isHeavier 45 = .ok (.ireturn, 1) := by decide +kernel
theorem dX12_jetBy_0 : decode cX12_jetBy 0 = .ok (.iconst (-1), 1) := by decide +kernel
theorem dX12_jetBy_1 : decode cX12_jetBy 1 = .ok (.istore_n 3, 1) := by decide +kernel
theorem dX12_jetBy_2 : decode cX12_jetBy 2 = .ok (.iconst 0, 1) := by decide +kernel
theorem dX12_jetBy_3 : decode cX12_jetBy 3 = .ok (.istore 4, 2) := by decide +kernel
theorem dX12_jetBy_5 : decode cX12_jetBy 5 = .ok (.iload 4, 2) := by decide +kernel
theorem dX12_jetBy_7 : decode cX12_jetBy 7 = .ok (.iload_n 2, 1) := by decide +kernel
theorem dX12_jetBy_8 : decode cX12_jetBy 8 = .ok (.if_icmp .gt 94, 3) := by decide +kernel
theorem dX12_jetBy_11 : decode cX12_jetBy 11 = .ok (.iconst (-1), 1) := by decide +kernel
theorem dX12_jetBy_12 : decode cX12_jetBy 12 = .ok (.istore 5, 2) := by decide +kernel
theorem dX12_jetBy_14 : decode cX12_jetBy 14 = .ok (.iconst 0, 1) := by decide +kernel
theorem dX12_jetBy_15 : decode cX12_jetBy 15 = .ok (.istore 6, 2) := by decide +kernel
theorem dX12_jetBy_17 : decode cX12_jetBy 17 = .ok (.iload 6, 2) := by decide +kernel
theorem dX12_jetBy_19 : decode cX12_jetBy 19 = .ok (.aload_n 0, 1) := by decide +kernel
theorem dX12_jetBy_20 : decode cX12_jetBy 20 = .ok (.iload_n 1, 1) := by decide +kernel
theorem dX12_jetBy_21 : decode cX12_jetBy 21 = .ok (.iconst 0, 1) := by decide +kernel
theorem dX12_jetBy_22 : decode cX12_jetBy 22 = .ok (.invokevirtual 88, 3) := by decide +kernel
theorem dX12_jetBy_25 : decode cX12_jetBy 25 = .ok (.if_icmp .ge 60, 3) := by decide +kernel
theorem dX12_jetBy_28 : decode cX12_jetBy 28 = .ok (.aload_n 0, 1) := by decide +kernel
theorem dX12_jetBy_29 : decode cX12_jetBy 29 = .ok (.iload_n 1, 1) := by decide +kernel
theorem dX12_jetBy_30 : decode cX12_jetBy 30 = .ok (.iload 6, 2) := by decide +kernel
theorem dX12_jetBy_32 : decode cX12_jetBy 32 = .ok (.invokevirtual 275, 3) := by decide +kernel
theorem dX12_jetBy_35 : decode cX12_jetBy 35 = .ok (.ifCond .eq 44, 3) := by decide +kernel
theorem dX12_jetBy_38 : decode cX12_jetBy 38 = .ok (.iload_n 3, 1) := by decide +kernel
theorem dX12_jetBy_39 : decode cX12_jetBy 39 = .ok (.iconst (-1), 1) := by decide +kernel
theorem dX12_jetBy_40 : decode cX12_jetBy 40 = .ok (.if_icmp .eq 17, 3) := by decide +kernel
theorem dX12_jetBy_43 : decode cX12_jetBy 43 = .ok (.aload_n 0, 1) := by decide +kernel
theorem dX12_jetBy_44 : decode cX12_jetBy 44 = .ok (.iload_n 1, 1) := by decide +kernel
theorem dX12_jetBy_45 : decode cX12_jetBy 45 = .ok (.iload_n 3, 1) := by decide +kernel
theorem dX12_jetBy_46 : decode cX12_jetBy 46 = .ok (.iload 6, 2) := by decide +kernel
theorem dX12_jetBy_48 : decode cX12_jetBy 48 = .ok (.invokevirtual 278, 3) := by decide +kernel
theorem dX12_jetBy_51 : decode cX12_jetBy 51 = .ok (.ifCond .ne 6, 3) := by decide +kernel
theorem dX12_jetBy_54 : decode cX12_jetBy 54 = .ok (.goto 25, 3) := by decide +kernel
theorem dX12_jetBy_57 : decode cX12_jetBy 57 = .ok (.iload 5, 2) := by decide +kernel
theorem dX12_jetBy_59 : decode cX12_jetBy 59 = .ok (.iconst (-1), 1) := by decide +kernel
theorem dX12_jetBy_60 : decode cX12_jetBy 60 = .ok (.if_icmp .eq 15, 3) := by decide +kernel
theorem dX12_jetBy_63 : decode cX12_jetBy 63 = .ok (.aload_n 0, 1) := by decide +kernel
theorem dX12_jetBy_64 : decode cX12_jetBy 64 = .ok (.iload_n 1, 1) := by decide +kernel
theorem dX12_jetBy_65 : decode cX12_jetBy 65 = .ok (.iload 6, 2) := by decide +kernel
theorem dX12_jetBy_67 : decode cX12_jetBy 67 = .ok (.iload 5, 2) := by decide +kernel
theorem dX12_jetBy_69 : decode cX12_jetBy 69 = .ok (.invokevirtual 278, 3) := by decide +kernel
theorem dX12_jetBy_72 : decode cX12_jetBy 72 = .ok (.ifCond .eq 7, 3) := by decide +kernel
theorem dX12_jetBy_75 : decode cX12_jetBy 75 = .ok (.iload 6, 2) := by decide +kernel
theorem dX12_jetBy_77 : decode cX12_jetBy 77 = .ok (.istore 5, 2) := by decide +kernel
theorem dX12_jetBy_79 : decode cX12_jetBy 79 = .ok (.iinc 6 1, 3) := by decide +kernel
theorem dX12_jetBy_82 : decode cX12_jetBy 82 = .ok (.goto (-65), 3) := by decide +kernel
theorem dX12_jetBy_85 : decode cX12_jetBy 85 = .ok (.iload 5, 2) := by decide +kernel
theorem dX12_jetBy_87 : decode cX12_jetBy 87 = .ok (.iconst (-1), 1) := by decide +kernel
theorem dX12_jetBy_88 : decode cX12_jetBy 88 = .ok (.if_icmp .ne 5, 3) := by decide +kernel
theorem dX12_jetBy_91 : decode cX12_jetBy 91 = .ok (.iconst (-1), 1) := by decide +kernel
theorem dX12_jetBy_92 : decode cX12_jetBy 92 = .ok (.ireturn, 1) := by decide +kernel
theorem dX12_jetBy_93 : decode cX12_jetBy 93 = .ok (.iload 5, 2) := by decide +kernel
theorem dX12_jetBy_95 : decode cX12_jetBy 95 = .ok (.istore_n 3, 1) := by decide +kernel
theorem dX12_jetBy_96 : decode cX12_jetBy 96 = .ok (.iinc 4 1, 3) := by decide +kernel
theorem dX12_jetBy_99 : decode cX12_jetBy 99 = .ok (.goto (-94), 3) := by decide +kernel
theorem dX12_jetBy_102 : decode cX12_jetBy 102 = .ok (.iload_n 3, 1) := by decide +kernel
theorem dX12_jetBy_103 : decode cX12_jetBy 103 = .ok (.ireturn, 1) := by decide +kernel
theorem dX12_jet_0 : decode cX12_jet 0 = .ok (.aload_n 0, 1) := by decide +kernel
theorem dX12_jet_1 : decode cX12_jet 1 = .ok (.iload_n 1, 1) := by decide +kernel
theorem dX12_jet_2 : decode cX12_jet 2 = .ok (.invokevirtual 84, 3) := by decide +kernel
theorem dX12_jet_5 : decode cX12_jet 5 = .ok (.ifCond .eq 16, 3) := by decide +kernel
theorem dX12_jet_8 : decode cX12_jet 8 = .ok (.iload_n 2, 1) := by decide +kernel
theorem dX12_jet_9 : decode cX12_jet 9 = .ok (.ifCond .lt 12, 3) := by decide +kernel
theorem dX12_jet_12 : decode cX12_jet 12 = .ok (.aload_n 0, 1) := by decide +kernel
theorem dX12_jet_13 : decode cX12_jet 13 = .ok (.iload_n 1, 1) := by decide +kernel
theorem dX12_jet_14 : decode cX12_jet 14 = .ok (.iload_n 2, 1) := by decide +kernel
theorem dX12_jet_15 : decode cX12_jet 15 = .ok (.invokevirtual 281, 3) := by decide +kernel
theorem dX12_jet_18 : decode cX12_jet 18 = .ok (.goto 4, 3) := by decide +kernel
theorem dX12_jet_21 : decode cX12_jet 21 = .ok (.iconst (-1), 1) := by decide +kernel
theorem dX12_jet_22 : decode cX12_jet 22 = .ok (.ireturn, 1) := by decide +kernel
theorem dX12_jetOf_0 : decode cX12_jetOf 0 = .ok (.aload_n 0, 1) := by decide +kernel
theorem dX12_jetOf_1 : decode cX12_jetOf 1 = .ok (.iload_n 1, 1) := by decide +kernel
theorem dX12_jetOf_2 : decode cX12_jetOf 2 = .ok (.invokevirtual 84, 3) := by decide +kernel
theorem dX12_jetOf_5 : decode cX12_jetOf 5 = .ok (.ifCond .eq 19, 3) := by decide +kernel
theorem dX12_jetOf_8 : decode cX12_jetOf 8 = .ok (.iload_n 2, 1) := by decide +kernel
theorem dX12_jetOf_9 : decode cX12_jetOf 9 = .ok (.iconst 0, 1) := by decide +kernel
theorem dX12_jetOf_10 : decode cX12_jetOf 10 = .ok (.aload_n 0, 1) := by decide +kernel
theorem dX12_jetOf_11 : decode cX12_jetOf 11 = .ok (.iload_n 1, 1) := by decide +kernel
theorem dX12_jetOf_12 : decode cX12_jetOf 12 = .ok (.iconst 1, 1) := by decide +kernel
theorem dX12_jetOf_13 : decode cX12_jetOf 13 = .ok (.invokevirtual 88, 3) := by decide +kernel
theorem dX12_jetOf_16 : decode cX12_jetOf 16 = .ok (.iconst 1, 1) := by decide +kernel
theorem dX12_jetOf_17 : decode cX12_jetOf 17 = .ok (.isub, 1) := by decide +kernel
theorem dX12_jetOf_18 : decode cX12_jetOf 18 = .ok (.invokestatic 69, 3) := by decide +kernel
theorem dX12_jetOf_21 : decode cX12_jetOf 21 = .ok (.ifCond .ne 5, 3) := by decide +kernel
theorem dX12_jetOf_24 : decode cX12_jetOf 24 = .ok (.iconst (-1), 1) := by decide +kernel
theorem dX12_jetOf_25 : decode cX12_jetOf 25 = .ok (.ireturn, 1) := by decide +kernel
theorem dX12_jetOf_26 : decode cX12_jetOf 26 = .ok (.iload_n 2, 1) := by decide +kernel
theorem dX12_jetOf_27 : decode cX12_jetOf 27 = .ok (.istore_n 3, 1) := by decide +kernel
theorem dX12_jetOf_28 : decode cX12_jetOf 28 = .ok (.aload_n 0, 1) := by decide +kernel
theorem dX12_jetOf_29 : decode cX12_jetOf 29 = .ok (.iload_n 1, 1) := by decide +kernel
theorem dX12_jetOf_30 : decode cX12_jetOf 30 = .ok (.iload_n 3, 1) := by decide +kernel
theorem dX12_jetOf_31 : decode cX12_jetOf 31 = .ok (.invokevirtual 239, 3) := by decide +kernel
theorem dX12_jetOf_34 : decode cX12_jetOf 34 = .ok (.iconst (-1), 1) := by decide +kernel
theorem dX12_jetOf_35 : decode cX12_jetOf 35 = .ok (.if_icmp .eq 13, 3) := by decide +kernel
theorem dX12_jetOf_38 : decode cX12_jetOf 38 = .ok (.aload_n 0, 1) := by decide +kernel
theorem dX12_jetOf_39 : decode cX12_jetOf 39 = .ok (.iload_n 1, 1) := by decide +kernel
theorem dX12_jetOf_40 : decode cX12_jetOf 40 = .ok (.iload_n 3, 1) := by decide +kernel
theorem dX12_jetOf_41 : decode cX12_jetOf 41 = .ok (.invokevirtual 239, 3) := by decide +kernel
theorem dX12_jetOf_44 : decode cX12_jetOf 44 = .ok (.istore_n 3, 1) := by decide +kernel
theorem dX12_jetOf_45 : decode cX12_jetOf 45 = .ok (.goto (-17), 3) := by decide +kernel
theorem dX12_jetOf_48 : decode cX12_jetOf 48 = .ok (.iload_n 3, 1) := by decide +kernel
theorem dX12_jetOf_49 : decode cX12_jetOf 49 = .ok (.ireturn, 1) := by decide +kernel
theorem dX12_layStanding_0 : decode cX12_layStanding 0 = .ok (.aload_n 0, 1) := by decide +kernel
theorem dX12_layStanding_1 : decode cX12_layStanding 1 = .ok (.iconst 0, 1) := by decide +kernel
theorem dX12_layStanding_2 : decode cX12_layStanding 2 = .ok (.putfield 269, 3) := by decide +kernel
theorem dX12_layStanding_5 : decode cX12_layStanding 5 = .ok (.iconst 0, 1) := by decide +kernel
theorem dX12_layStanding_6 : decode cX12_layStanding 6 = .ok (.istore 4, 2) := by decide +kernel
theorem dX12_layStanding_8 : decode cX12_layStanding 8 = .ok (.iload 4, 2) := by decide +kernel
theorem dX12_layStanding_10 : decode cX12_layStanding 10 = .ok (.aload_n 0, 1) := by decide +kernel
theorem dX12_layStanding_11 : decode cX12_layStanding 11 = .ok (.iload_n 1, 1) := by decide +kernel
theorem dX12_layStanding_12 : decode cX12_layStanding 12 = .ok (.iconst 0, 1) := by decide +kernel
theorem dX12_layStanding_13 : decode cX12_layStanding 13 = .ok (.invokevirtual 88, 3) := by decide +kernel
theorem dX12_layStanding_16 : decode cX12_layStanding 16 = .ok (.if_icmp .ge 109, 3) := by decide +kernel
theorem dX12_layStanding_19 : decode cX12_layStanding 19 = .ok (.aload_n 0, 1) := by decide +kernel
theorem dX12_layStanding_20 : decode cX12_layStanding 20 = .ok (.iload_n 1, 1) := by decide +kernel
theorem dX12_layStanding_21 : decode cX12_layStanding 21 = .ok (.iload 4, 2) := by decide +kernel
theorem dX12_layStanding_23 : decode cX12_layStanding 23 = .ok (.invokevirtual 233, 3) := by decide +kernel
theorem dX12_layStanding_26 : decode cX12_layStanding 26 = .ok (.ifCond .eq 14, 3) := by decide +kernel
theorem dX12_layStanding_29 : decode cX12_layStanding 29 = .ok (.aload_n 0, 1) := by decide +kernel
theorem dX12_layStanding_30 : decode cX12_layStanding 30 = .ok (.iload_n 1, 1) := by decide +kernel
theorem dX12_layStanding_31 : decode cX12_layStanding 31 = .ok (.iload 4, 2) := by decide +kernel
theorem dX12_layStanding_33 : decode cX12_layStanding 33 = .ok (.invokevirtual 242, 3) := by decide +kernel
theorem dX12_layStanding_36 : decode cX12_layStanding 36 = .ok (.iload_n 2, 1) := by decide +kernel
theorem dX12_layStanding_37 : decode cX12_layStanding 37 = .ok (.if_icmp .ge 7, 3) := by decide +kernel
theorem dX12_layStanding_40 : decode cX12_layStanding 40 = .ok (.iconst 1, 1) := by decide +kernel
theorem dX12_layStanding_41 : decode cX12_layStanding 41 = .ok (.goto 4, 3) := by decide +kernel
theorem dX12_layStanding_44 : decode cX12_layStanding 44 = .ok (.iconst 0, 1) := by decide +kernel
theorem dX12_layStanding_45 : decode cX12_layStanding 45 = .ok (.istore 5, 2) := by decide +kernel
theorem dX12_layStanding_47 : decode cX12_layStanding 47 = .ok (.aload_n 0, 1) := by decide +kernel
theorem dX12_layStanding_48 : decode cX12_layStanding 48 = .ok (.iload_n 1, 1) := by decide +kernel
theorem dX12_layStanding_49 : decode cX12_layStanding 49 = .ok (.iload 4, 2) := by decide +kernel
theorem dX12_layStanding_51 : decode cX12_layStanding 51 = .ok (.invokevirtual 245, 3) := by decide +kernel
theorem dX12_layStanding_54 : decode cX12_layStanding 54 = .ok (.istore 6, 2) := by decide +kernel
theorem dX12_layStanding_56 : decode cX12_layStanding 56 = .ok (.iload 6, 2) := by decide +kernel
theorem dX12_layStanding_58 : decode cX12_layStanding 58 = .ok (.iload_n 2, 1) := by decide +kernel
theorem dX12_layStanding_59 : decode cX12_layStanding 59 = .ok (.if_icmp .ge 19, 3) := by decide +kernel
theorem dX12_layStanding_62 : decode cX12_layStanding 62 = .ok (.iload_n 3, 1) := by decide +kernel
theorem dX12_layStanding_63 : decode cX12_layStanding 63 = .ok (.ifCond .eq 19, 3) := by decide +kernel
theorem dX12_layStanding_66 : decode cX12_layStanding 66 = .ok (.aload_n 0, 1) := by decide +kernel
theorem dX12_layStanding_67 : decode cX12_layStanding 67 = .ok (.iload_n 1, 1) := by decide +kernel
theorem dX12_layStanding_68 : decode cX12_layStanding 68 = .ok (.iload 6, 2) := by decide +kernel
theorem dX12_layStanding_70 : decode cX12_layStanding 70 = .ok (.iconst 1, 1) := by decide +kernel
theorem dX12_layStanding_71 : decode cX12_layStanding 71 = .ok (.invokevirtual 230, 3) := by decide +kernel
theorem dX12_layStanding_74 : decode cX12_layStanding 74 = .ok (.iconst (-1), 1) := by decide +kernel
theorem dX12_layStanding_75 : decode cX12_layStanding 75 = .ok (.if_icmp .ne 7, 3) := by decide +kernel
theorem dX12_layStanding_78 : decode cX12_layStanding 78 = .ok (.iconst 1, 1) := by decide +kernel
theorem dX12_layStanding_79 : decode cX12_layStanding 79 = .ok (.goto 4, 3) := by decide +kernel
theorem dX12_layStanding_82 : decode cX12_layStanding 82 = .ok (.iconst 0, 1) := by decide +kernel
theorem dX12_layStanding_83 : decode cX12_layStanding 83 = .ok (.istore 7, 2) := by decide +kernel
theorem dX12_layStanding_85 : decode cX12_layStanding 85 = .ok (.iload 5, 2) := by decide +kernel
theorem dX12_layStanding_87 : decode cX12_layStanding 87 = .ok (.ifCond .eq 32, 3) := by decide +kernel
theorem dX12_layStanding_90 : decode cX12_layStanding 90 = .ok (.iload 7, 2) := by decide +kernel
theorem dX12_layStanding_92 : decode cX12_layStanding 92 = .ok (.ifCond .ne 6, 3) := by decide +kernel
theorem dX12_layStanding_95 : decode cX12_layStanding 95 = .ok (.goto 24, 3) := by decide +kernel
theorem dX12_layStanding_98 : decode cX12_layStanding 98 = .ok (.aload_n 0, 1) := by decide +kernel
theorem dX12_layStanding_99 : decode cX12_layStanding 99 = .ok (.getfield 45, 3) := by decide +kernel
theorem dX12_layStanding_102 : decode cX12_layStanding 102 = .ok (.aload_n 0, 1) := by decide +kernel
theorem dX12_layStanding_103 : decode cX12_layStanding 103 = .ok (.getfield 269, 3) := by decide +kernel
theorem dX12_layStanding_106 : decode cX12_layStanding 106 = .ok (.iload 4, 2) := by decide +kernel
theorem dX12_layStanding_108 : decode cX12_layStanding 108 = .ok (.iastore, 1) := by decide +kernel
theorem dX12_layStanding_109 : decode cX12_layStanding 109 = .ok (.aload_n 0, 1) := by decide +kernel
theorem dX12_layStanding_110 : decode cX12_layStanding 110 = .ok (.dup, 1) := by decide +kernel
theorem dX12_layStanding_111 : decode cX12_layStanding 111 = .ok (.getfield 269, 3) := by decide +kernel
theorem dX12_layStanding_114 : decode cX12_layStanding 114 = .ok (.iconst 1, 1) := by decide +kernel
theorem dX12_layStanding_115 : decode cX12_layStanding 115 = .ok (.iadd, 1) := by decide +kernel
theorem dX12_layStanding_116 : decode cX12_layStanding 116 = .ok (.putfield 269, 3) := by decide +kernel
theorem dX12_layStanding_119 : decode cX12_layStanding 119 = .ok (.iinc 4 1, 3) := by decide +kernel
theorem dX12_layStanding_122 : decode cX12_layStanding 122 = .ok (.goto (-114), 3) := by decide +kernel
theorem dX12_layStanding_125 : decode cX12_layStanding 125 = .ok (.return_, 1) := by decide +kernel
theorem dX12_ofRow_0 : decode cX12_ofRow 0 = .ok (.iload_n 1, 1) := by decide +kernel
theorem dX12_ofRow_1 : decode cX12_ofRow 1 = .ok (.iconst (-1), 1) := by decide +kernel
theorem dX12_ofRow_2 : decode cX12_ofRow 2 = .ok (.if_icmp .ne 10, 3) := by decide +kernel
theorem dX12_ofRow_5 : decode cX12_ofRow 5 = .ok (.aload_n 0, 1) := by decide +kernel
theorem dX12_ofRow_6 : decode cX12_ofRow 6 = .ok (.getfield 269, 3) := by decide +kernel
theorem dX12_ofRow_9 : decode cX12_ofRow 9 = .ok (.goto 27, 3) := by decide +kernel
theorem dX12_ofRow_12 : decode cX12_ofRow 12 = .ok (.iload_n 1, 1) := by decide +kernel
theorem dX12_ofRow_13 : decode cX12_ofRow 13 = .ok (.iconst 0, 1) := by decide +kernel
theorem dX12_ofRow_14 : decode cX12_ofRow 14 = .ok (.aload_n 0, 1) := by decide +kernel
theorem dX12_ofRow_15 : decode cX12_ofRow 15 = .ok (.getfield 269, 3) := by decide +kernel
theorem dX12_ofRow_18 : decode cX12_ofRow 18 = .ok (.iconst 1, 1) := by decide +kernel
theorem dX12_ofRow_19 : decode cX12_ofRow 19 = .ok (.isub, 1) := by decide +kernel
theorem dX12_ofRow_20 : decode cX12_ofRow 20 = .ok (.invokestatic 69, 3) := by decide +kernel
theorem dX12_ofRow_23 : decode cX12_ofRow 23 = .ok (.ifCond .eq 12, 3) := by decide +kernel
theorem dX12_ofRow_26 : decode cX12_ofRow 26 = .ok (.aload_n 0, 1) := by decide +kernel
theorem dX12_ofRow_27 : decode cX12_ofRow 27 = .ok (.getfield 45, 3) := by decide +kernel
theorem dX12_ofRow_30 : decode cX12_ofRow 30 = .ok (.iload_n 1, 1) := by decide +kernel
theorem dX12_ofRow_31 : decode cX12_ofRow 31 = .ok (.iaload, 1) := by decide +kernel
theorem dX12_ofRow_32 : decode cX12_ofRow 32 = .ok (.goto 4, 3) := by decide +kernel
theorem dX12_ofRow_35 : decode cX12_ofRow 35 = .ok (.iconst (-1), 1) := by decide +kernel
theorem dX12_ofRow_36 : decode cX12_ofRow 36 = .ok (.ireturn, 1) := by decide +kernel
theorem dX12_left_0 : decode cX12_left 0 = .ok (.aload_n 0, 1) := by decide +kernel
theorem dX12_left_1 : decode cX12_left 1 = .ok (.iload_n 1, 1) := by decide +kernel
theorem dX12_left_2 : decode cX12_left 2 = .ok (.invokevirtual 84, 3) := by decide +kernel
theorem dX12_left_5 : decode cX12_left 5 = .ok (.ifCond .eq 16, 3) := by decide +kernel
theorem dX12_left_8 : decode cX12_left 8 = .ok (.iload_n 2, 1) := by decide +kernel
theorem dX12_left_9 : decode cX12_left 9 = .ok (.iconst 0, 1) := by decide +kernel
theorem dX12_left_10 : decode cX12_left 10 = .ok (.aload_n 0, 1) := by decide +kernel
theorem dX12_left_11 : decode cX12_left 11 = .ok (.iload_n 1, 1) := by decide +kernel
theorem dX12_left_12 : decode cX12_left 12 = .ok (.invokevirtual 248, 3) := by decide +kernel
theorem dX12_left_15 : decode cX12_left 15 = .ok (.invokestatic 69, 3) := by decide +kernel
theorem dX12_left_18 : decode cX12_left 18 = .ok (.ifCond .ne 5, 3) := by decide +kernel
theorem dX12_left_21 : decode cX12_left 21 = .ok (.iconst (-1), 1) := by decide +kernel
theorem dX12_left_22 : decode cX12_left 22 = .ok (.ireturn, 1) := by decide +kernel
theorem dX12_left_23 : decode cX12_left 23 = .ok (.aload_n 0, 1) := by decide +kernel
theorem dX12_left_24 : decode cX12_left 24 = .ok (.iload_n 1, 1) := by decide +kernel
theorem dX12_left_25 : decode cX12_left 25 = .ok (.iload_n 2, 1) := by decide +kernel
theorem dX12_left_26 : decode cX12_left 26 = .ok (.iconst 0, 1) := by decide +kernel
theorem dX12_left_27 : decode cX12_left 27 = .ok (.invokevirtual 284, 3) := by decide +kernel
theorem dX12_left_30 : decode cX12_left 30 = .ok (.aload_n 0, 1) := by decide +kernel
theorem dX12_left_31 : decode cX12_left 31 = .ok (.iload_n 3, 1) := by decide +kernel
theorem dX12_left_32 : decode cX12_left 32 = .ok (.invokevirtual 288, 3) := by decide +kernel
theorem dX12_left_35 : decode cX12_left 35 = .ok (.ireturn, 1) := by decide +kernel
theorem dX12_stepsTo_0 : decode cX12_stepsTo 0 = .ok (.aload_n 0, 1) := by decide +kernel
theorem dX12_stepsTo_1 : decode cX12_stepsTo 1 = .ok (.iload_n 1, 1) := by decide +kernel
theorem dX12_stepsTo_2 : decode cX12_stepsTo 2 = .ok (.iconst 1, 1) := by decide +kernel
theorem dX12_stepsTo_3 : decode cX12_stepsTo 3 = .ok (.invokevirtual 88, 3) := by decide +kernel
theorem dX12_stepsTo_6 : decode cX12_stepsTo 6 = .ok (.istore_n 3, 1) := by decide +kernel
theorem dX12_stepsTo_7 : decode cX12_stepsTo 7 = .ok (.iconst 0, 1) := by decide +kernel
theorem dX12_stepsTo_8 : decode cX12_stepsTo 8 = .ok (.istore 4, 2) := by decide +kernel
theorem dX12_stepsTo_10 : decode cX12_stepsTo 10 = .ok (.iload 4, 2) := by decide +kernel
theorem dX12_stepsTo_12 : decode cX12_stepsTo 12 = .ok (.aload_n 0, 1) := by decide +kernel
theorem dX12_stepsTo_13 : decode cX12_stepsTo 13 = .ok (.iload_n 1, 1) := by decide +kernel
theorem dX12_stepsTo_14 : decode cX12_stepsTo 14 = .ok (.invokevirtual 248, 3) := by decide +kernel
theorem dX12_stepsTo_17 : decode cX12_stepsTo 17 = .ok (.if_icmp .gt 42, 3) := by decide +kernel
theorem dX12_stepsTo_20 : decode cX12_stepsTo 20 = .ok (.iload_n 3, 1) := by decide +kernel
theorem dX12_stepsTo_21 : decode cX12_stepsTo 21 = .ok (.iload_n 2, 1) := by decide +kernel
theorem dX12_stepsTo_22 : decode cX12_stepsTo 22 = .ok (.if_icmp .gt 6, 3) := by decide +kernel
theorem dX12_stepsTo_25 : decode cX12_stepsTo 25 = .ok (.iload 4, 2) := by decide +kernel
theorem dX12_stepsTo_27 : decode cX12_stepsTo 27 = .ok (.ireturn, 1) := by decide +kernel
theorem dX12_stepsTo_28 : decode cX12_stepsTo 28 = .ok (.iload 4, 2) := by decide +kernel
theorem dX12_stepsTo_30 : decode cX12_stepsTo 30 = .ok (.aload_n 0, 1) := by decide +kernel
theorem dX12_stepsTo_31 : decode cX12_stepsTo 31 = .ok (.iload_n 1, 1) := by decide +kernel
theorem dX12_stepsTo_32 : decode cX12_stepsTo 32 = .ok (.invokevirtual 248, 3) := by decide +kernel
theorem dX12_stepsTo_35 : decode cX12_stepsTo 35 = .ok (.if_icmp .ge 18, 3) := by decide +kernel
theorem dX12_stepsTo_38 : decode cX12_stepsTo 38 = .ok (.aload_n 0, 1) := by decide +kernel
theorem dX12_stepsTo_39 : decode cX12_stepsTo 39 = .ok (.iload_n 1, 1) := by decide +kernel
theorem dX12_stepsTo_40 : decode cX12_stepsTo 40 = .ok (.iload 4, 2) := by decide +kernel
theorem dX12_stepsTo_42 : decode cX12_stepsTo 42 = .ok (.iconst 1, 1) := by decide +kernel
theorem dX12_stepsTo_43 : decode cX12_stepsTo 43 = .ok (.invokevirtual 230, 3) := by decide +kernel
theorem dX12_stepsTo_46 : decode cX12_stepsTo 46 = .ok (.iconst (-1), 1) := by decide +kernel
theorem dX12_stepsTo_47 : decode cX12_stepsTo 47 = .ok (.if_icmp .eq 6, 3) := by decide +kernel
theorem dX12_stepsTo_50 : decode cX12_stepsTo 50 = .ok (.iinc 3 (-1), 3) := by decide +kernel
theorem dX12_stepsTo_53 : decode cX12_stepsTo 53 = .ok (.iinc 4 1, 3) := by decide +kernel
theorem dX12_stepsTo_56 : decode cX12_stepsTo 56 = .ok (.goto (-46), 3) := by decide +kernel
theorem dX12_stepsTo_59 : decode cX12_stepsTo 59 = .ok (.iconst (-1), 1) := by decide +kernel
theorem dX12_stepsTo_60 : decode cX12_stepsTo 60 = .ok (.ireturn, 1) := by decide +kernel
theorem dX12_isCut_0 : decode cX12_isCut 0 = .ok (.aload_n 0, 1) := by decide +kernel
theorem dX12_isCut_1 : decode cX12_isCut 1 = .ok (.iload_n 1, 1) := by decide +kernel
theorem dX12_isCut_2 : decode cX12_isCut 2 = .ok (.invokevirtual 84, 3) := by decide +kernel
theorem dX12_isCut_5 : decode cX12_isCut 5 = .ok (.ifCond .eq 27, 3) := by decide +kernel
theorem dX12_isCut_8 : decode cX12_isCut 8 = .ok (.iload_n 2, 1) := by decide +kernel
theorem dX12_isCut_9 : decode cX12_isCut 9 = .ok (.iconst 1, 1) := by decide +kernel
theorem dX12_isCut_10 : decode cX12_isCut 10 = .ok (.bipush 40, 2) := by decide +kernel
theorem dX12_isCut_12 : decode cX12_isCut 12 = .ok (.invokestatic 69, 3) := by decide +kernel
theorem dX12_isCut_15 : decode cX12_isCut 15 = .ok (.ifCond .eq 17, 3) := by decide +kernel
theorem dX12_isCut_18 : decode cX12_isCut 18 = .ok (.aload_n 0, 1) := by decide +kernel
theorem dX12_isCut_19 : decode cX12_isCut 19 = .ok (.iload_n 1, 1) := by decide +kernel
theorem dX12_isCut_20 : decode cX12_isCut 20 = .ok (.iload_n 2, 1) := by decide +kernel
theorem dX12_isCut_21 : decode cX12_isCut 21 = .ok (.invokevirtual 291, 3) := by decide +kernel
theorem dX12_isCut_24 : decode cX12_isCut 24 = .ok (.iconst (-1), 1) := by decide +kernel
theorem dX12_isCut_25 : decode cX12_isCut 25 = .ok (.if_icmp .eq 7, 3) := by decide +kernel
theorem dX12_isCut_28 : decode cX12_isCut 28 = .ok (.iconst 1, 1) := by decide +kernel
theorem dX12_isCut_29 : decode cX12_isCut 29 = .ok (.goto 4, 3) := by decide +kernel
theorem dX12_isCut_32 : decode cX12_isCut 32 = .ok (.iconst 0, 1) := by decide +kernel
theorem dX12_isCut_33 : decode cX12_isCut 33 = .ok (.ireturn, 1) := by decide +kernel
theorem dX12_cut_0 : decode cX12_cut 0 = .ok (.aload_n 0, 1) := by decide +kernel
theorem dX12_cut_1 : decode cX12_cut 1 = .ok (.iload_n 1, 1) := by decide +kernel
theorem dX12_cut_2 : decode cX12_cut 2 = .ok (.iload_n 2, 1) := by decide +kernel
theorem dX12_cut_3 : decode cX12_cut 3 = .ok (.invokevirtual 294, 3) := by decide +kernel
theorem dX12_cut_6 : decode cX12_cut 6 = .ok (.ifCond .ne 5, 3) := by decide +kernel
theorem dX12_cut_9 : decode cX12_cut 9 = .ok (.iconst (-1), 1) := by decide +kernel
theorem dX12_cut_10 : decode cX12_cut 10 = .ok (.ireturn, 1) := by decide +kernel
theorem dX12_cut_11 : decode cX12_cut 11 = .ok (.aload_n 0, 1) := by decide +kernel
theorem dX12_cut_12 : decode cX12_cut 12 = .ok (.iload_n 1, 1) := by decide +kernel
theorem dX12_cut_13 : decode cX12_cut 13 = .ok (.aload_n 0, 1) := by decide +kernel
theorem dX12_cut_14 : decode cX12_cut 14 = .ok (.iload_n 1, 1) := by decide +kernel
theorem dX12_cut_15 : decode cX12_cut 15 = .ok (.iload_n 2, 1) := by decide +kernel
theorem dX12_cut_16 : decode cX12_cut 16 = .ok (.invokevirtual 291, 3) := by decide +kernel
theorem dX12_cut_19 : decode cX12_cut 19 = .ok (.iconst 1, 1) := by decide +kernel
theorem dX12_cut_20 : decode cX12_cut 20 = .ok (.invokevirtual 284, 3) := by decide +kernel
theorem dX12_cut_23 : decode cX12_cut 23 = .ok (.aload_n 0, 1) := by decide +kernel
theorem dX12_cut_24 : decode cX12_cut 24 = .ok (.iload_n 3, 1) := by decide +kernel
theorem dX12_cut_25 : decode cX12_cut 25 = .ok (.invokevirtual 288, 3) := by decide +kernel
theorem dX12_cut_28 : decode cX12_cut 28 = .ok (.ireturn, 1) := by decide +kernel
theorem dX12_cutBy_0 : decode cX12_cutBy 0 = .ok (.aload_n 0, 1) := by decide +kernel
theorem dX12_cutBy_1 : decode cX12_cutBy 1 = .ok (.iload_n 1, 1) := by decide +kernel
theorem dX12_cutBy_2 : decode cX12_cutBy 2 = .ok (.invokevirtual 84, 3) := by decide +kernel
theorem dX12_cutBy_5 : decode cX12_cutBy 5 = .ok (.ifCond .eq 12, 3) := by decide +kernel
theorem dX12_cutBy_8 : decode cX12_cutBy 8 = .ok (.iload_n 2, 1) := by decide +kernel
theorem dX12_cutBy_9 : decode cX12_cutBy 9 = .ok (.ifCond .lt 8, 3) := by decide +kernel
theorem dX12_cutBy_12 : decode cX12_cutBy 12 = .ok (.iload_n 3, 1) := by decide +kernel
theorem dX12_cutBy_13 : decode cX12_cutBy 13 = .ok (.iconst 1, 1) := by decide +kernel
theorem dX12_cutBy_14 : decode cX12_cutBy 14 = .ok (.if_icmp .ge 5, 3) := by decide +kernel
theorem dX12_cutBy_17 : decode cX12_cutBy 17 = .ok (.iconst (-1), 1) := by decide +kernel
theorem dX12_cutBy_18 : decode cX12_cutBy 18 = .ok (.ireturn, 1) := by decide +kernel
theorem dX12_cutBy_19 : decode cX12_cutBy 19 = .ok (.aload_n 0, 1) := by decide +kernel
theorem dX12_cutBy_20 : decode cX12_cutBy 20 = .ok (.iload_n 1, 1) := by decide +kernel
theorem dX12_cutBy_21 : decode cX12_cutBy 21 = .ok (.invokevirtual 256, 3) := by decide +kernel
theorem dX12_cutBy_24 : decode cX12_cutBy 24 = .ok (.iconst 0, 1) := by decide +kernel
theorem dX12_cutBy_25 : decode cX12_cutBy 25 = .ok (.istore 5, 2) := by decide +kernel
theorem dX12_cutBy_27 : decode cX12_cutBy 27 = .ok (.iload 5, 2) := by decide +kernel
theorem dX12_cutBy_29 : decode cX12_cutBy 29 = .ok (.aload_n 0, 1) := by decide +kernel
theorem dX12_cutBy_30 : decode cX12_cutBy 30 = .ok (.iload_n 1, 1) := by decide +kernel
theorem dX12_cutBy_31 : decode cX12_cutBy 31 = .ok (.invokevirtual 248, 3) := by decide +kernel
theorem dX12_cutBy_34 : decode cX12_cutBy 34 = .ok (.if_icmp .ge 33, 3) := by decide +kernel
theorem dX12_cutBy_37 : decode cX12_cutBy 37 = .ok (.aload_n 0, 1) := by decide +kernel
theorem dX12_cutBy_38 : decode cX12_cutBy 38 = .ok (.iload_n 1, 1) := by decide +kernel
theorem dX12_cutBy_39 : decode cX12_cutBy 39 = .ok (.iload 5, 2) := by decide +kernel
theorem dX12_cutBy_41 : decode cX12_cutBy 41 = .ok (.invokevirtual 259, 3) := by decide +kernel
theorem dX12_cutBy_44 : decode cX12_cutBy 44 = .ok (.aload_n 0, 1) := by decide +kernel
theorem dX12_cutBy_45 : decode cX12_cutBy 45 = .ok (.iload_n 1, 1) := by decide +kernel
theorem dX12_cutBy_46 : decode cX12_cutBy 46 = .ok (.iload 5, 2) := by decide +kernel
theorem dX12_cutBy_48 : decode cX12_cutBy 48 = .ok (.invokevirtual 262, 3) := by decide +kernel
theorem dX12_cutBy_51 : decode cX12_cutBy 51 = .ok (.iload_n 2, 1) := by decide +kernel
theorem dX12_cutBy_52 : decode cX12_cutBy 52 = .ok (.i2l, 1) := by decide +kernel
theorem dX12_cutBy_53 : decode cX12_cutBy 53 = .ok (.iload_n 3, 1) := by decide +kernel
theorem dX12_cutBy_54 : decode cX12_cutBy 54 = .ok (.i2l, 1) := by decide +kernel
theorem dX12_cutBy_55 : decode cX12_cutBy 55 = .ok (.invokestatic 116, 3) := by decide +kernel
theorem dX12_cutBy_58 : decode cX12_cutBy 58 = .ok (.ifCond .gt 9, 3) := by decide +kernel
theorem dX12_cutBy_61 : decode cX12_cutBy 61 = .ok (.iinc 5 1, 3) := by decide +kernel
theorem dX12_cutBy_64 : decode cX12_cutBy 64 = .ok (.goto (-37), 3) := by decide +kernel
theorem dX12_cutBy_67 : decode cX12_cutBy 67 = .ok (.aload_n 0, 1) := by decide +kernel
theorem dX12_cutBy_68 : decode cX12_cutBy 68 = .ok (.iload_n 1, 1) := by decide +kernel
theorem dX12_cutBy_69 : decode cX12_cutBy 69 = .ok (.iload 5, 2) := by decide +kernel
theorem dX12_cutBy_71 : decode cX12_cutBy 71 = .ok (.iconst 1, 1) := by decide +kernel
theorem dX12_cutBy_72 : decode cX12_cutBy 72 = .ok (.invokevirtual 284, 3) := by decide +kernel
theorem dX12_cutBy_75 : decode cX12_cutBy 75 = .ok (.aload_n 0, 1) := by decide +kernel
theorem dX12_cutBy_76 : decode cX12_cutBy 76 = .ok (.iload 4, 2) := by decide +kernel
theorem dX12_cutBy_78 : decode cX12_cutBy 78 = .ok (.invokevirtual 288, 3) := by decide +kernel
theorem dX12_cutBy_81 : decode cX12_cutBy 81 = .ok (.ireturn, 1) := by decide +kernel
theorem dX12_together_0 : decode cX12_together 0 = .ok (.aload_n 0, 1) := by decide +kernel
theorem dX12_together_1 : decode cX12_together 1 = .ok (.iload_n 1, 1) := by decide +kernel
theorem dX12_together_2 : decode cX12_together 2 = .ok (.invokevirtual 84, 3) := by decide +kernel
theorem dX12_together_5 : decode cX12_together 5 = .ok (.ifCond .eq 40, 3) := by decide +kernel
theorem dX12_together_8 : decode cX12_together 8 = .ok (.iload_n 2, 1) := by decide +kernel
theorem dX12_together_9 : decode cX12_together 9 = .ok (.iconst 0, 1) := by decide +kernel
theorem dX12_together_10 : decode cX12_together 10 = .ok (.aload_n 0, 1) := by decide +kernel
theorem dX12_together_11 : decode cX12_together 11 = .ok (.iload_n 1, 1) := by decide +kernel
theorem dX12_together_12 : decode cX12_together 12 = .ok (.iconst 1, 1) := by decide +kernel
theorem dX12_together_13 : decode cX12_together 13 = .ok (.invokevirtual 88, 3) := by decide +kernel
theorem dX12_together_16 : decode cX12_together 16 = .ok (.iconst 1, 1) := by decide +kernel
theorem dX12_together_17 : decode cX12_together 17 = .ok (.isub, 1) := by decide +kernel
theorem dX12_together_18 : decode cX12_together 18 = .ok (.invokestatic 69, 3) := by decide +kernel
theorem dX12_together_21 : decode cX12_together 21 = .ok (.ifCond .eq 24, 3) := by decide +kernel
theorem dX12_together_24 : decode cX12_together 24 = .ok (.iload_n 3, 1) := by decide +kernel
theorem dX12_together_25 : decode cX12_together 25 = .ok (.iconst 0, 1) := by decide +kernel
theorem dX12_together_26 : decode cX12_together 26 = .ok (.aload_n 0, 1) := by decide +kernel
theorem dX12_together_27 : decode cX12_together 27 = .ok (.iload_n 1, 1) := by decide +kernel
theorem dX12_together_28 : decode cX12_together 28 = .ok (.iconst 1, 1) := by decide +kernel
theorem dX12_together_29 : decode cX12_together 29 = .ok (.invokevirtual 88, 3) := by decide +kernel
theorem dX12_together_32 : decode cX12_together 32 = .ok (.iconst 1, 1) := by decide +kernel
theorem dX12_together_33 : decode cX12_together 33 = .ok (.isub, 1) := by decide +kernel
theorem dX12_together_34 : decode cX12_together 34 = .ok (.invokestatic 69, 3) := by decide +kernel
theorem dX12_together_37 : decode cX12_together 37 = .ok (.ifCond .eq 8, 3) := by decide +kernel
theorem dX12_together_40 : decode cX12_together 40 = .ok (.iload_n 2, 1) := by decide +kernel
theorem dX12_together_41 : decode cX12_together 41 = .ok (.iload_n 3, 1) := by decide +kernel
theorem dX12_together_42 : decode cX12_together 42 = .ok (.if_icmp .ne 5, 3) := by decide +kernel
theorem dX12_together_45 : decode cX12_together 45 = .ok (.iconst (-1), 1) := by decide +kernel
theorem dX12_together_46 : decode cX12_together 46 = .ok (.ireturn, 1) := by decide +kernel
theorem dX12_together_47 : decode cX12_together 47 = .ok (.aload_n 0, 1) := by decide +kernel
theorem dX12_together_48 : decode cX12_together 48 = .ok (.iload_n 1, 1) := by decide +kernel
theorem dX12_together_49 : decode cX12_together 49 = .ok (.iconst 1, 1) := by decide +kernel
theorem dX12_together_50 : decode cX12_together 50 = .ok (.invokevirtual 88, 3) := by decide +kernel
theorem dX12_together_53 : decode cX12_together 53 = .ok (.istore 4, 2) := by decide +kernel
theorem dX12_together_55 : decode cX12_together 55 = .ok (.iload 4, 2) := by decide +kernel
theorem dX12_together_57 : decode cX12_together 57 = .ok (.aload_n 0, 1) := by decide +kernel
theorem dX12_together_58 : decode cX12_together 58 = .ok (.iload_n 1, 1) := by decide +kernel
theorem dX12_together_59 : decode cX12_together 59 = .ok (.iconst 0, 1) := by decide +kernel
theorem dX12_together_60 : decode cX12_together 60 = .ok (.invokevirtual 88, 3) := by decide +kernel
theorem dX12_together_63 : decode cX12_together 63 = .ok (.if_icmp .ge 44, 3) := by decide +kernel
theorem dX12_together_66 : decode cX12_together 66 = .ok (.aload_n 0, 1) := by decide +kernel
theorem dX12_together_67 : decode cX12_together 67 = .ok (.iload_n 1, 1) := by decide +kernel
theorem dX12_together_68 : decode cX12_together 68 = .ok (.iload 4, 2) := by decide +kernel
theorem dX12_together_70 : decode cX12_together 70 = .ok (.invokevirtual 209, 3) := by decide +kernel
theorem dX12_together_73 : decode cX12_together 73 = .ok (.lstore 5, 2) := by decide +kernel
theorem dX12_together_75 : decode cX12_together 75 = .ok (.lload 5, 2) := by decide +kernel
theorem dX12_together_77 : decode cX12_together 77 = .ok (.iload_n 2, 1) := by decide +kernel
theorem dX12_together_78 : decode cX12_together 78 = .ok (.invokestatic 154, 3) := by decide +kernel
theorem dX12_together_81 : decode cX12_together 81 = .ok (.ifCond .eq 20, 3) := by decide +kernel
theorem dX12_together_84 : decode cX12_together 84 = .ok (.lload 5, 2) := by decide +kernel
theorem dX12_together_86 : decode cX12_together 86 = .ok (.iload_n 3, 1) := by decide +kernel
theorem dX12_together_87 : decode cX12_together 87 = .ok (.invokestatic 154, 3) := by decide +kernel
theorem dX12_together_90 : decode cX12_together 90 = .ok (.ifCond .eq 11, 3) := by decide +kernel
theorem dX12_together_93 : decode cX12_together 93 = .ok (.aload_n 0, 1) := by decide +kernel
theorem dX12_together_94 : decode cX12_together 94 = .ok (.iload_n 1, 1) := by decide +kernel
theorem dX12_together_95 : decode cX12_together 95 = .ok (.iload 4, 2) := by decide +kernel
theorem dX12_together_97 : decode cX12_together 97 = .ok (.invokevirtual 242, 3) := by decide +kernel
theorem dX12_together_100 : decode cX12_together 100 = .ok (.ireturn, 1) := by decide +kernel
theorem dX12_together_101 : decode cX12_together 101 = .ok (.iinc 4 1, 3) := by decide +kernel
theorem dX12_together_104 : decode cX12_together 104 = .ok (.goto (-49), 3) := by decide +kernel
theorem dX12_together_107 : decode cX12_together 107 = .ok (.iconst (-1), 1) := by decide +kernel
theorem dX12_together_108 : decode cX12_together 108 = .ok (.ireturn, 1) := by decide +kernel
theorem dX12_cutAt_0 : decode cX12_cutAt 0 = .ok (.sipush 2455, 3) := by decide +kernel
theorem dX12_cutAt_3 : decode cX12_cutAt 3 = .ok (.bipush 81, 2) := by decide +kernel
theorem dX12_cutAt_5 : decode cX12_cutAt 5 = .ok (.iload_n 0, 1) := by decide +kernel
theorem dX12_cutAt_6 : decode cX12_cutAt 6 = .ok (.imul, 1) := by decide +kernel
theorem dX12_cutAt_7 : decode cX12_cutAt 7 = .ok (.iadd, 1) := by decide +kernel
theorem dX12_cutAt_8 : decode cX12_cutAt 8 = .ok (.ireturn, 1) := by decide +kernel
theorem dX12_keptAt_0 : decode cX12_keptAt 0 = .ok (.iload_n 1, 1) := by decide +kernel
theorem dX12_keptAt_1 : decode cX12_keptAt 1 = .ok (.invokestatic 297, 3) := by decide +kernel
theorem dX12_keptAt_4 : decode cX12_keptAt 4 = .ok (.iconst 1, 1) := by decide +kernel
theorem dX12_keptAt_5 : decode cX12_keptAt 5 = .ok (.iadd, 1) := by decide +kernel
theorem dX12_keptAt_6 : decode cX12_keptAt 6 = .ok (.iconst 2, 1) := by decide +kernel
theorem dX12_keptAt_7 : decode cX12_keptAt 7 = .ok (.iload_n 2, 1) := by decide +kernel
theorem dX12_keptAt_8 : decode cX12_keptAt 8 = .ok (.imul, 1) := by decide +kernel
theorem dX12_keptAt_9 : decode cX12_keptAt 9 = .ok (.iadd, 1) := by decide +kernel
theorem dX12_keptAt_10 : decode cX12_keptAt 10 = .ok (.istore_n 3, 1) := by decide +kernel
theorem dX12_keptAt_11 : decode cX12_keptAt 11 = .ok (.aload_n 0, 1) := by decide +kernel
theorem dX12_keptAt_12 : decode cX12_keptAt 12 = .ok (.getfield 8, 3) := by decide +kernel
theorem dX12_keptAt_15 : decode cX12_keptAt 15 = .ok (.iload_n 3, 1) := by decide +kernel
theorem dX12_keptAt_16 : decode cX12_keptAt 16 = .ok (.iconst 1, 1) := by decide +kernel
theorem dX12_keptAt_17 : decode cX12_keptAt 17 = .ok (.iadd, 1) := by decide +kernel
theorem dX12_keptAt_18 : decode cX12_keptAt 18 = .ok (.iaload, 1) := by decide +kernel
theorem dX12_keptAt_19 : decode cX12_keptAt 19 = .ok (.i2l, 1) := by decide +kernel
theorem dX12_keptAt_20 : decode cX12_keptAt 20 = .ok (.bipush 32, 2) := by decide +kernel
theorem dX12_keptAt_22 : decode cX12_keptAt 22 = .ok (.lshl, 1) := by decide +kernel
theorem dX12_keptAt_23 : decode cX12_keptAt 23 = .ok (.aload_n 0, 1) := by decide +kernel
theorem dX12_keptAt_24 : decode cX12_keptAt 24 = .ok (.getfield 8, 3) := by decide +kernel
theorem dX12_keptAt_27 : decode cX12_keptAt 27 = .ok (.iload_n 3, 1) := by decide +kernel
theorem dX12_keptAt_28 : decode cX12_keptAt 28 = .ok (.iaload, 1) := by decide +kernel
theorem dX12_keptAt_29 : decode cX12_keptAt 29 = .ok (.i2l, 1) := by decide +kernel
theorem dX12_keptAt_30 : decode cX12_keptAt 30 = .ok (.ldc2_w 300, 3) := by decide +kernel
theorem dX12_keptAt_33 : decode cX12_keptAt 33 = .ok (.land, 1) := by decide +kernel
theorem dX12_keptAt_34 : decode cX12_keptAt 34 = .ok (.lor, 1) := by decide +kernel
theorem dX12_keptAt_35 : decode cX12_keptAt 35 = .ok (.lreturn, 1) := by decide +kernel
theorem dX12_isPlaceOfCut_0 : decode cX12_isPlaceOfCut 0 = .ok (.iload_n 0, 1) := by decide +kernel
theorem dX12_isPlaceOfCut_1 : decode cX12_isPlaceOfCut 1 = .ok (.iconst 0, 1) := by decide +kernel
theorem dX12_isPlaceOfCut_2 : decode cX12_isPlaceOfCut 2 = .ok (.iconst 3, 1) := by decide +kernel
theorem dX12_isPlaceOfCut_3 : decode cX12_isPlaceOfCut 3 = .ok (.invokestatic 69, 3) := by decide +kernel
theorem dX12_isPlaceOfCut_6 : decode cX12_isPlaceOfCut 6 = .ok (.ireturn, 1) := by decide +kernel
theorem dX12_keep_0 : decode cX12_keep 0 = .ok (.iload_n 1, 1) := by decide +kernel
theorem dX12_keep_1 : decode cX12_keep 1 = .ok (.invokestatic 302, 3) := by decide +kernel
theorem dX12_keep_4 : decode cX12_keep 4 = .ok (.ifCond .eq 12, 3) := by decide +kernel
theorem dX12_keep_7 : decode cX12_keep 7 = .ok (.aload_n 0, 1) := by decide +kernel
theorem dX12_keep_8 : decode cX12_keep 8 = .ok (.iload_n 2, 1) := by decide +kernel
theorem dX12_keep_9 : decode cX12_keep 9 = .ok (.iload_n 3, 1) := by decide +kernel
theorem dX12_keep_10 : decode cX12_keep 10 = .ok (.invokevirtual 294, 3) := by decide +kernel
theorem dX12_keep_13 : decode cX12_keep 13 = .ok (.ifCond .ne 5, 3) := by decide +kernel
theorem dX12_keep_16 : decode cX12_keep 16 = .ok (.iconst (-1), 1) := by decide +kernel
theorem dX12_keep_17 : decode cX12_keep 17 = .ok (.ireturn, 1) := by decide +kernel
theorem dX12_keep_18 : decode cX12_keep 18 = .ok (.aload_n 0, 1) := by decide +kernel
theorem dX12_keep_19 : decode cX12_keep 19 = .ok (.invokevirtual 167, 3) := by decide +kernel
theorem dX12_keep_22 : decode cX12_keep 22 = .ok (.aload_n 0, 1) := by decide +kernel
theorem dX12_keep_23 : decode cX12_keep 23 = .ok (.iload_n 2, 1) := by decide +kernel
theorem dX12_keep_24 : decode cX12_keep 24 = .ok (.iload_n 3, 1) := by decide +kernel
theorem dX12_keep_25 : decode cX12_keep 25 = .ok (.iconst (-1), 1) := by decide +kernel
theorem dX12_keep_26 : decode cX12_keep 26 = .ok (.invokevirtual 305, 3) := by decide +kernel
theorem dX12_keep_29 : decode cX12_keep 29 = .ok (.istore 4, 2) := by decide +kernel
theorem dX12_keep_31 : decode cX12_keep 31 = .ok (.iconst 0, 1) := by decide +kernel
theorem dX12_keep_32 : decode cX12_keep 32 = .ok (.istore 5, 2) := by decide +kernel
theorem dX12_keep_34 : decode cX12_keep 34 = .ok (.iload 5, 2) := by decide +kernel
theorem dX12_keep_36 : decode cX12_keep 36 = .ok (.bipush 81, 2) := by decide +kernel
theorem dX12_keep_38 : decode cX12_keep 38 = .ok (.if_icmp .ge 22, 3) := by decide +kernel
theorem dX12_keep_41 : decode cX12_keep 41 = .ok (.aload_n 0, 1) := by decide +kernel
theorem dX12_keep_42 : decode cX12_keep 42 = .ok (.getfield 8, 3) := by decide +kernel
theorem dX12_keep_45 : decode cX12_keep 45 = .ok (.iload_n 1, 1) := by decide +kernel
theorem dX12_keep_46 : decode cX12_keep 46 = .ok (.invokestatic 297, 3) := by decide +kernel
theorem dX12_keep_49 : decode cX12_keep 49 = .ok (.iload 5, 2) := by decide +kernel
theorem dX12_keep_51 : decode cX12_keep 51 = .ok (.iadd, 1) := by decide +kernel
theorem dX12_keep_52 : decode cX12_keep 52 = .ok (.iconst 0, 1) := by decide +kernel
theorem dX12_keep_53 : decode cX12_keep 53 = .ok (.iastore, 1) := by decide +kernel
theorem dX12_keep_54 : decode cX12_keep 54 = .ok (.iinc 5 1, 3) := by decide +kernel
theorem dX12_keep_57 : decode cX12_keep 57 = .ok (.goto (-23), 3) := by decide +kernel
theorem dX12_keep_60 : decode cX12_keep 60 = .ok (.iconst 0, 1) := by decide +kernel
theorem dX12_keep_61 : decode cX12_keep 61 = .ok (.istore 5, 2) := by decide +kernel
theorem dX12_keep_63 : decode cX12_keep 63 = .ok (.iload 5, 2) := by decide +kernel
theorem dX12_keep_65 : decode cX12_keep 65 = .ok (.iload 4, 2) := by decide +kernel
theorem dX12_keep_67 : decode cX12_keep 67 = .ok (.if_icmp .ge 65, 3) := by decide +kernel
theorem dX12_keep_70 : decode cX12_keep 70 = .ok (.aload_n 0, 1) := by decide +kernel
theorem dX12_keep_71 : decode cX12_keep 71 = .ok (.iload_n 2, 1) := by decide +kernel
theorem dX12_keep_72 : decode cX12_keep 72 = .ok (.aload_n 0, 1) := by decide +kernel
theorem dX12_keep_73 : decode cX12_keep 73 = .ok (.iload_n 2, 1) := by decide +kernel
theorem dX12_keep_74 : decode cX12_keep 74 = .ok (.iload_n 3, 1) := by decide +kernel
theorem dX12_keep_75 : decode cX12_keep 75 = .ok (.iload 5, 2) := by decide +kernel
theorem dX12_keep_77 : decode cX12_keep 77 = .ok (.invokevirtual 305, 3) := by decide +kernel
theorem dX12_keep_80 : decode cX12_keep 80 = .ok (.invokevirtual 209, 3) := by decide +kernel
theorem dX12_keep_83 : decode cX12_keep 83 = .ok (.lstore 6, 2) := by decide +kernel
theorem dX12_keep_85 : decode cX12_keep 85 = .ok (.aload_n 0, 1) := by decide +kernel
theorem dX12_keep_86 : decode cX12_keep 86 = .ok (.getfield 8, 3) := by decide +kernel
theorem dX12_keep_89 : decode cX12_keep 89 = .ok (.iload_n 1, 1) := by decide +kernel
theorem dX12_keep_90 : decode cX12_keep 90 = .ok (.invokestatic 297, 3) := by decide +kernel
theorem dX12_keep_93 : decode cX12_keep 93 = .ok (.iconst 1, 1) := by decide +kernel
theorem dX12_keep_94 : decode cX12_keep 94 = .ok (.iadd, 1) := by decide +kernel
theorem dX12_keep_95 : decode cX12_keep 95 = .ok (.iconst 2, 1) := by decide +kernel
theorem dX12_keep_96 : decode cX12_keep 96 = .ok (.iload 5, 2) := by decide +kernel
theorem dX12_keep_98 : decode cX12_keep 98 = .ok (.imul, 1) := by decide +kernel
theorem dX12_keep_99 : decode cX12_keep 99 = .ok (.iadd, 1) := by decide +kernel
theorem dX12_keep_100 : decode cX12_keep 100 = .ok (.lload 6, 2) := by decide +kernel
theorem dX12_keep_102 : decode cX12_keep 102 = .ok (.l2i, 1) := by decide +kernel
theorem dX12_keep_103 : decode cX12_keep 103 = .ok (.iastore, 1) := by decide +kernel
theorem dX12_keep_104 : decode cX12_keep 104 = .ok (.aload_n 0, 1) := by decide +kernel
theorem dX12_keep_105 : decode cX12_keep 105 = .ok (.getfield 8, 3) := by decide +kernel
theorem dX12_keep_108 : decode cX12_keep 108 = .ok (.iload_n 1, 1) := by decide +kernel
theorem dX12_keep_109 : decode cX12_keep 109 = .ok (.invokestatic 297, 3) := by decide +kernel
theorem dX12_keep_112 : decode cX12_keep 112 = .ok (.iconst 2, 1) := by decide +kernel
theorem dX12_keep_113 : decode cX12_keep 113 = .ok (.iadd, 1) := by decide +kernel
theorem dX12_keep_114 : decode cX12_keep 114 = .ok (.iconst 2, 1) := by decide +kernel
theorem dX12_keep_115 : decode cX12_keep 115 = .ok (.iload 5, 2) := by decide +kernel
theorem dX12_keep_117 : decode cX12_keep 117 = .ok (.imul, 1) := by decide +kernel
theorem dX12_keep_118 : decode cX12_keep 118 = .ok (.iadd, 1) := by decide +kernel
theorem dX12_keep_119 : decode cX12_keep 119 = .ok (.lload 6, 2) := by decide +kernel
theorem dX12_keep_121 : decode cX12_keep 121 = .ok (.bipush 32, 2) := by decide +kernel
theorem dX12_keep_123 : decode cX12_keep 123 = .ok (.lshr, 1) := by decide +kernel
theorem dX12_keep_124 : decode cX12_keep 124 = .ok (.l2i, 1) := by decide +kernel
theorem dX12_keep_125 : decode cX12_keep 125 = .ok (.iastore, 1) := by decide +kernel
theorem dX12_keep_126 : decode cX12_keep 126 = .ok (.iinc 5 1, 3) := by decide +kernel
theorem dX12_keep_129 : decode cX12_keep 129 = .ok (.goto (-66), 3) := by decide +kernel
theorem dX12_keep_132 : decode cX12_keep 132 = .ok (.aload_n 0, 1) := by decide +kernel
theorem dX12_keep_133 : decode cX12_keep 133 = .ok (.getfield 8, 3) := by decide +kernel
theorem dX12_keep_136 : decode cX12_keep 136 = .ok (.iload_n 1, 1) := by decide +kernel
theorem dX12_keep_137 : decode cX12_keep 137 = .ok (.invokestatic 297, 3) := by decide +kernel
theorem dX12_keep_140 : decode cX12_keep 140 = .ok (.iload 4, 2) := by decide +kernel
theorem dX12_keep_142 : decode cX12_keep 142 = .ok (.iastore, 1) := by decide +kernel
theorem dX12_keep_143 : decode cX12_keep 143 = .ok (.iload 4, 2) := by decide +kernel
theorem dX12_keep_145 : decode cX12_keep 145 = .ok (.ireturn, 1) := by decide +kernel
theorem dX12_isKept_0 : decode cX12_isKept 0 = .ok (.iload_n 1, 1) := by decide +kernel
theorem dX12_isKept_1 : decode cX12_isKept 1 = .ok (.invokestatic 302, 3) := by decide +kernel
theorem dX12_isKept_4 : decode cX12_isKept 4 = .ok (.ifCond .eq 19, 3) := by decide +kernel
theorem dX12_isKept_7 : decode cX12_isKept 7 = .ok (.aload_n 0, 1) := by decide +kernel
theorem dX12_isKept_8 : decode cX12_isKept 8 = .ok (.getfield 8, 3) := by decide +kernel
theorem dX12_isKept_11 : decode cX12_isKept 11 = .ok (.iload_n 1, 1) := by decide +kernel
theorem dX12_isKept_12 : decode cX12_isKept 12 = .ok (.invokestatic 297, 3) := by decide +kernel
theorem dX12_isKept_15 : decode cX12_isKept 15 = .ok (.iaload, 1) := by decide +kernel
theorem dX12_isKept_16 : decode cX12_isKept 16 = .ok (.ifCond .le 7, 3) := by decide +kernel
theorem dX12_isKept_19 : decode cX12_isKept 19 = .ok (.iconst 1, 1) := by decide +kernel
theorem dX12_isKept_20 : decode cX12_isKept 20 = .ok (.goto 4, 3) := by decide +kernel
theorem dX12_isKept_23 : decode cX12_isKept 23 = .ok (.iconst 0, 1) := by decide +kernel
theorem dX12_isKept_24 : decode cX12_isKept 24 = .ok (.ireturn, 1) := by decide +kernel
theorem dX12_kept_0 : decode cX12_kept 0 = .ok (.aload_n 0, 1) := by decide +kernel
theorem dX12_kept_1 : decode cX12_kept 1 = .ok (.iload_n 1, 1) := by decide +kernel
theorem dX12_kept_2 : decode cX12_kept 2 = .ok (.invokevirtual 308, 3) := by decide +kernel
theorem dX12_kept_5 : decode cX12_kept 5 = .ok (.ifCond .ne 7, 3) := by decide +kernel
theorem dX12_kept_8 : decode cX12_kept 8 = .ok (.ldc2_w 254, 3) := by decide +kernel
theorem dX12_kept_11 : decode cX12_kept 11 = .ok (.lreturn, 1) := by decide +kernel
theorem dX12_kept_12 : decode cX12_kept 12 = .ok (.iload_n 2, 1) := by decide +kernel
theorem dX12_kept_13 : decode cX12_kept 13 = .ok (.iconst (-1), 1) := by decide +kernel
theorem dX12_kept_14 : decode cX12_kept 14 = .ok (.if_icmp .ne 16, 3) := by decide +kernel
theorem dX12_kept_17 : decode cX12_kept 17 = .ok (.aload_n 0, 1) := by decide +kernel
theorem dX12_kept_18 : decode cX12_kept 18 = .ok (.getfield 8, 3) := by decide +kernel
theorem dX12_kept_21 : decode cX12_kept 21 = .ok (.iload_n 1, 1) := by decide +kernel
theorem dX12_kept_22 : decode cX12_kept 22 = .ok (.invokestatic 297, 3) := by decide +kernel
theorem dX12_kept_25 : decode cX12_kept 25 = .ok (.iaload, 1) := by decide +kernel
theorem dX12_kept_26 : decode cX12_kept 26 = .ok (.i2l, 1) := by decide +kernel
theorem dX12_kept_27 : decode cX12_kept 27 = .ok (.goto 34, 3) := by decide +kernel
theorem dX12_kept_30 : decode cX12_kept 30 = .ok (.iload_n 2, 1) := by decide +kernel
theorem dX12_kept_31 : decode cX12_kept 31 = .ok (.iconst 0, 1) := by decide +kernel
theorem dX12_kept_32 : decode cX12_kept 32 = .ok (.aload_n 0, 1) := by decide +kernel
theorem dX12_kept_33 : decode cX12_kept 33 = .ok (.getfield 8, 3) := by decide +kernel
theorem dX12_kept_36 : decode cX12_kept 36 = .ok (.iload_n 1, 1) := by decide +kernel
theorem dX12_kept_37 : decode cX12_kept 37 = .ok (.invokestatic 297, 3) := by decide +kernel
theorem dX12_kept_40 : decode cX12_kept 40 = .ok (.iaload, 1) := by decide +kernel
theorem dX12_kept_41 : decode cX12_kept 41 = .ok (.iconst 1, 1) := by decide +kernel
theorem dX12_kept_42 : decode cX12_kept 42 = .ok (.isub, 1) := by decide +kernel
theorem dX12_kept_43 : decode cX12_kept 43 = .ok (.invokestatic 69, 3) := by decide +kernel
theorem dX12_kept_46 : decode cX12_kept 46 = .ok (.ifCond .eq 12, 3) := by decide +kernel
theorem dX12_kept_49 : decode cX12_kept 49 = .ok (.aload_n 0, 1) := by decide +kernel
theorem dX12_kept_50 : decode cX12_kept 50 = .ok (.iload_n 1, 1) := by decide +kernel
theorem dX12_kept_51 : decode cX12_kept 51 = .ok (.iload_n 2, 1) := by decide +kernel
theorem dX12_kept_52 : decode cX12_kept 52 = .ok (.invokevirtual 311, 3) := by decide +kernel
theorem dX12_kept_55 : decode cX12_kept 55 = .ok (.goto 6, 3) := by decide +kernel
theorem dX12_kept_58 : decode cX12_kept 58 = .ok (.ldc2_w 254, 3) := by decide +kernel
theorem dX12_kept_61 : decode cX12_kept 61 = .ok (.lreturn, 1) := by decide +kernel
theorem dX12_isInOne_0 : decode cX12_isInOne 0 = .ok (.iconst 0, 1) := by decide +kernel
theorem dX12_isInOne_1 : decode cX12_isInOne 1 = .ok (.istore 4, 2) := by decide +kernel
theorem dX12_isInOne_3 : decode cX12_isInOne 3 = .ok (.iload 4, 2) := by decide +kernel
theorem dX12_isInOne_5 : decode cX12_isInOne 5 = .ok (.aload_n 0, 1) := by decide +kernel
theorem dX12_isInOne_6 : decode cX12_isInOne 6 = .ok (.getfield 8, 3) := by decide +kernel
theorem dX12_isInOne_9 : decode cX12_isInOne 9 = .ok (.iload_n 1, 1) := by decide +kernel
theorem dX12_isInOne_10 : decode cX12_isInOne 10 = .ok (.invokestatic 297, 3) := by decide +kernel
theorem dX12_isInOne_13 : decode cX12_isInOne 13 = .ok (.iaload, 1) := by decide +kernel
theorem dX12_isInOne_14 : decode cX12_isInOne 14 = .ok (.if_icmp .ge 29, 3) := by decide +kernel
theorem dX12_isInOne_17 : decode cX12_isInOne 17 = .ok (.lload_n 2, 1) := by decide +kernel
theorem dX12_isInOne_18 : decode cX12_isInOne 18 = .ok (.aload_n 0, 1) := by decide +kernel
theorem dX12_isInOne_19 : decode cX12_isInOne 19 = .ok (.iload_n 1, 1) := by decide +kernel
theorem dX12_isInOne_20 : decode cX12_isInOne 20 = .ok (.iload 4, 2) := by decide +kernel
theorem dX12_isInOne_22 : decode cX12_isInOne 22 = .ok (.invokevirtual 311, 3) := by decide +kernel
theorem dX12_isInOne_25 : decode cX12_isInOne 25 = .ok (.ldc2_w 254, 3) := by decide +kernel
theorem dX12_isInOne_28 : decode cX12_isInOne 28 = .ok (.lxor, 1) := by decide +kernel
theorem dX12_isInOne_29 : decode cX12_isInOne 29 = .ok (.land, 1) := by decide +kernel
theorem dX12_isInOne_30 : decode cX12_isInOne 30 = .ok (.lconst 0, 1) := by decide +kernel
theorem dX12_isInOne_31 : decode cX12_isInOne 31 = .ok (.lcmp, 1) := by decide +kernel
theorem dX12_isInOne_32 : decode cX12_isInOne 32 = .ok (.ifCond .ne 5, 3) := by decide +kernel
theorem dX12_isInOne_35 : decode cX12_isInOne 35 = .ok (.iconst 1, 1) := by decide +kernel
theorem dX12_isInOne_36 : decode cX12_isInOne 36 = .ok (.ireturn, 1) := by decide +kernel
theorem dX12_isInOne_37 : decode cX12_isInOne 37 = .ok (.iinc 4 1, 3) := by decide +kernel
theorem dX12_isInOne_40 : decode cX12_isInOne 40 = .ok (.goto (-37), 3) := by decide +kernel
theorem dX12_isInOne_43 : decode cX12_isInOne 43 = .ok (.iconst 0, 1) := by decide +kernel
theorem dX12_isInOne_44 : decode cX12_isInOne 44 = .ok (.ireturn, 1) := by decide +kernel
theorem dX12_within_0 : decode cX12_within 0 = .ok (.aload_n 0, 1) := by decide +kernel
theorem dX12_within_1 : decode cX12_within 1 = .ok (.iload_n 1, 1) := by decide +kernel
theorem dX12_within_2 : decode cX12_within 2 = .ok (.invokevirtual 308, 3) := by decide +kernel
theorem dX12_within_5 : decode cX12_within 5 = .ok (.ifCond .eq 11, 3) := by decide +kernel
theorem dX12_within_8 : decode cX12_within 8 = .ok (.aload_n 0, 1) := by decide +kernel
theorem dX12_within_9 : decode cX12_within 9 = .ok (.iload_n 2, 1) := by decide +kernel
theorem dX12_within_10 : decode cX12_within 10 = .ok (.invokevirtual 308, 3) := by decide +kernel
theorem dX12_within_13 : decode cX12_within 13 = .ok (.ifCond .ne 5, 3) := by decide +kernel
theorem dX12_within_16 : decode cX12_within 16 = .ok (.iconst 0, 1) := by decide +kernel
theorem dX12_within_17 : decode cX12_within 17 = .ok (.ireturn, 1) := by decide +kernel
theorem dX12_within_18 : decode cX12_within 18 = .ok (.iconst 0, 1) := by decide +kernel
theorem dX12_within_19 : decode cX12_within 19 = .ok (.istore_n 3, 1) := by decide +kernel
theorem dX12_within_20 : decode cX12_within 20 = .ok (.iload_n 3, 1) := by decide +kernel
theorem dX12_within_21 : decode cX12_within 21 = .ok (.aload_n 0, 1) := by decide +kernel
theorem dX12_within_22 : decode cX12_within 22 = .ok (.getfield 8, 3) := by decide +kernel
theorem dX12_within_25 : decode cX12_within 25 = .ok (.iload_n 1, 1) := by decide +kernel
theorem dX12_within_26 : decode cX12_within 26 = .ok (.invokestatic 297, 3) := by decide +kernel
theorem dX12_within_29 : decode cX12_within 29 = .ok (.iaload, 1) := by decide +kernel
theorem dX12_within_30 : decode cX12_within 30 = .ok (.if_icmp .ge 25, 3) := by decide +kernel
theorem dX12_within_33 : decode cX12_within 33 = .ok (.aload_n 0, 1) := by decide +kernel
theorem dX12_within_34 : decode cX12_within 34 = .ok (.iload_n 2, 1) := by decide +kernel
theorem dX12_within_35 : decode cX12_within 35 = .ok (.aload_n 0, 1) := by decide +kernel
theorem dX12_within_36 : decode cX12_within 36 = .ok (.iload_n 1, 1) := by decide +kernel
theorem dX12_within_37 : decode cX12_within 37 = .ok (.iload_n 3, 1) := by decide +kernel
theorem dX12_within_38 : decode cX12_within 38 = .ok (.invokevirtual 311, 3) := by decide +kernel
theorem dX12_within_41 : decode cX12_within 41 = .ok (.invokevirtual 314, 3) := by decide +kernel
theorem dX12_within_44 : decode cX12_within 44 = .ok (.ifCond .ne 5, 3) := by decide +kernel
theorem dX12_within_47 : decode cX12_within 47 = .ok (.iconst 0, 1) := by decide +kernel
theorem dX12_within_48 : decode cX12_within 48 = .ok (.ireturn, 1) := by decide +kernel
theorem dX12_within_49 : decode cX12_within 49 = .ok (.iinc 3 1, 3) := by decide +kernel
theorem dX12_within_52 : decode cX12_within 52 = .ok (.goto (-32), 3) := by decide +kernel
theorem dX12_within_55 : decode cX12_within 55 = .ok (.iconst 1, 1) := by decide +kernel
theorem dX12_within_56 : decode cX12_within 56 = .ok (.ireturn, 1) := by decide +kernel
theorem dX12_partOf_0 : decode cX12_partOf 0 = .ok (.aload_n 0, 1) := by decide +kernel
theorem dX12_partOf_1 : decode cX12_partOf 1 = .ok (.iload_n 1, 1) := by decide +kernel
theorem dX12_partOf_2 : decode cX12_partOf 2 = .ok (.iload_n 2, 1) := by decide +kernel
theorem dX12_partOf_3 : decode cX12_partOf 3 = .ok (.iconst 3, 1) := by decide +kernel
theorem dX12_partOf_4 : decode cX12_partOf 4 = .ok (.invokevirtual 91, 3) := by decide +kernel
theorem dX12_partOf_7 : decode cX12_partOf 7 = .ok (.istore 4, 2) := by decide +kernel
theorem dX12_partOf_9 : decode cX12_partOf 9 = .ok (.aload_n 0, 1) := by decide +kernel
theorem dX12_partOf_10 : decode cX12_partOf 10 = .ok (.iload_n 1, 1) := by decide +kernel
theorem dX12_partOf_11 : decode cX12_partOf 11 = .ok (.iload_n 2, 1) := by decide +kernel
theorem dX12_partOf_12 : decode cX12_partOf 12 = .ok (.iconst 4, 1) := by decide +kernel
theorem dX12_partOf_13 : decode cX12_partOf 13 = .ok (.invokevirtual 91, 3) := by decide +kernel
theorem dX12_partOf_16 : decode cX12_partOf 16 = .ok (.istore 5, 2) := by decide +kernel
theorem dX12_partOf_18 : decode cX12_partOf 18 = .ok (.aload_n 0, 1) := by decide +kernel
theorem dX12_partOf_19 : decode cX12_partOf 19 = .ok (.iload_n 1, 1) := by decide +kernel
theorem dX12_partOf_20 : decode cX12_partOf 20 = .ok (.iload 4, 2) := by decide +kernel
theorem dX12_partOf_22 : decode cX12_partOf 22 = .ok (.invokevirtual 158, 3) := by decide +kernel
theorem dX12_partOf_25 : decode cX12_partOf 25 = .ok (.aload_n 0, 1) := by decide +kernel
theorem dX12_partOf_26 : decode cX12_partOf 26 = .ok (.iload_n 1, 1) := by decide +kernel
theorem dX12_partOf_27 : decode cX12_partOf 27 = .ok (.iload 5, 2) := by decide +kernel
theorem dX12_partOf_29 : decode cX12_partOf 29 = .ok (.invokevirtual 158, 3) := by decide +kernel
theorem dX12_partOf_32 : decode cX12_partOf 32 = .ok (.if_icmp .ge 7, 3) := by decide +kernel
theorem dX12_partOf_35 : decode cX12_partOf 35 = .ok (.iconst 1, 1) := by decide +kernel
theorem dX12_partOf_36 : decode cX12_partOf 36 = .ok (.goto 4, 3) := by decide +kernel
theorem dX12_partOf_39 : decode cX12_partOf 39 = .ok (.iconst 0, 1) := by decide +kernel
theorem dX12_partOf_40 : decode cX12_partOf 40 = .ok (.istore 6, 2) := by decide +kernel
theorem dX12_partOf_42 : decode cX12_partOf 42 = .ok (.iload 6, 2) := by decide +kernel
theorem dX12_partOf_44 : decode cX12_partOf 44 = .ok (.iload_n 3, 1) := by decide +kernel
theorem dX12_partOf_45 : decode cX12_partOf 45 = .ok (.ifCond .ne 7, 3) := by decide +kernel
theorem dX12_partOf_48 : decode cX12_partOf 48 = .ok (.iconst 1, 1) := by decide +kernel
theorem dX12_partOf_49 : decode cX12_partOf 49 = .ok (.goto 4, 3) := by decide +kernel
theorem dX12_partOf_52 : decode cX12_partOf 52 = .ok (.iconst 0, 1) := by decide +kernel
theorem dX12_partOf_53 : decode cX12_partOf 53 = .ok (.if_icmp .ne 8, 3) := by decide +kernel
theorem dX12_partOf_56 : decode cX12_partOf 56 = .ok (.iload 4, 2) := by decide +kernel
theorem dX12_partOf_58 : decode cX12_partOf 58 = .ok (.goto 5, 3) := by decide +kernel
theorem dX12_partOf_61 : decode cX12_partOf 61 = .ok (.iload 5, 2) := by decide +kernel
theorem dX12_partOf_63 : decode cX12_partOf 63 = .ok (.ireturn, 1) := by decide +kernel
theorem dX12_squareOfParts_0 : decode cX12_squareOfParts 0 = .ok (.aload_n 0, 1) := by decide +kernel
theorem dX12_squareOfParts_1 : decode cX12_squareOfParts 1 = .ok (.iload_n 1, 1) := by decide +kernel
theorem dX12_squareOfParts_2 : decode cX12_squareOfParts 2 = .ok (.iload_n 2, 1) := by decide +kernel
theorem dX12_squareOfParts_3 : decode cX12_squareOfParts 3 = .ok (.iconst 3, 1) := by decide +kernel
theorem dX12_squareOfParts_4 : decode cX12_squareOfParts 4 = .ok (.invokevirtual 91, 3) := by decide +kernel
theorem dX12_squareOfParts_7 : decode cX12_squareOfParts 7 = .ok (.istore_n 3, 1) := by decide +kernel
theorem dX12_squareOfParts_8 : decode cX12_squareOfParts 8 = .ok (.aload_n 0, 1) := by decide +kernel
theorem dX12_squareOfParts_9 : decode cX12_squareOfParts 9 = .ok (.iload_n 1, 1) := by decide +kernel
theorem dX12_squareOfParts_10 : decode cX12_squareOfParts 10 = .ok (.iload_n 2, 1) := by decide +kernel
theorem dX12_squareOfParts_11 : decode cX12_squareOfParts 11 = .ok (.iconst 4, 1) := by decide +kernel
theorem dX12_squareOfParts_12 : decode cX12_squareOfParts 12 = .ok (.invokevirtual 91, 3) := by decide +kernel
theorem dX12_squareOfParts_15 : decode cX12_squareOfParts 15 = .ok (.istore 4, 2) := by decide +kernel
theorem dX12_squareOfParts_17 : decode cX12_squareOfParts 17 = .ok (.aload_n 0, 1) := by decide +kernel
theorem dX12_squareOfParts_18 : decode cX12_squareOfParts 18 = .ok (.iload_n 1, 1) := by decide +kernel
theorem dX12_squareOfParts_19 : decode cX12_squareOfParts 19 = .ok (.iload_n 3, 1) := by decide +kernel
theorem dX12_squareOfParts_20 : decode cX12_squareOfParts 20 = .ok (.iconst 0, 1) := by decide +kernel
theorem dX12_squareOfParts_21 : decode cX12_squareOfParts 21 = .ok (.invokevirtual 91, 3) := by decide +kernel
theorem dX12_squareOfParts_24 : decode cX12_squareOfParts 24 = .ok (.aload_n 0, 1) := by decide +kernel
theorem dX12_squareOfParts_25 : decode cX12_squareOfParts 25 = .ok (.iload_n 1, 1) := by decide +kernel
theorem dX12_squareOfParts_26 : decode cX12_squareOfParts 26 = .ok (.iload_n 3, 1) := by decide +kernel
theorem dX12_squareOfParts_27 : decode cX12_squareOfParts 27 = .ok (.iconst 1, 1) := by decide +kernel
theorem dX12_squareOfParts_28 : decode cX12_squareOfParts 28 = .ok (.invokevirtual 91, 3) := by decide +kernel
theorem dX12_squareOfParts_31 : decode cX12_squareOfParts 31 = .ok (.aload_n 0, 1) := by decide +kernel
theorem dX12_squareOfParts_32 : decode cX12_squareOfParts 32 = .ok (.iload_n 1, 1) := by decide +kernel
theorem dX12_squareOfParts_33 : decode cX12_squareOfParts 33 = .ok (.iload 4, 2) := by decide +kernel
theorem dX12_squareOfParts_35 : decode cX12_squareOfParts 35 = .ok (.iconst 0, 1) := by decide +kernel
theorem dX12_squareOfParts_36 : decode cX12_squareOfParts 36 = .ok (.invokevirtual 91, 3) := by decide +kernel
theorem dX12_squareOfParts_39 : decode cX12_squareOfParts 39 = .ok (.aload_n 0, 1) := by decide +kernel
theorem dX12_squareOfParts_40 : decode cX12_squareOfParts 40 = .ok (.iload_n 1, 1) := by decide +kernel
theorem dX12_squareOfParts_41 : decode cX12_squareOfParts 41 = .ok (.iload 4, 2) := by decide +kernel
theorem dX12_squareOfParts_43 : decode cX12_squareOfParts 43 = .ok (.iconst 1, 1) := by decide +kernel
theorem dX12_squareOfParts_44 : decode cX12_squareOfParts 44 = .ok (.invokevirtual 91, 3) := by decide +kernel
theorem dX12_squareOfParts_47 : decode cX12_squareOfParts 47 = .ok (.invokestatic 102, 3) := by decide +kernel
theorem dX12_squareOfParts_50 : decode cX12_squareOfParts 50 = .ok (.i2l, 1) := by decide +kernel
theorem dX12_squareOfParts_51 : decode cX12_squareOfParts 51 = .ok (.lreturn, 1) := by decide +kernel
theorem dX12_isWeak_0 : decode cX12_isWeak 0 = .ok (.sipush 1000, 3) := by decide +kernel
theorem dX12_isWeak_3 : decode cX12_isWeak 3 = .ok (.aload_n 0, 1) := by decide +kernel
theorem dX12_isWeak_4 : decode cX12_isWeak 4 = .ok (.iload_n 1, 1) := by decide +kernel
theorem dX12_isWeak_5 : decode cX12_isWeak 5 = .ok (.aload_n 0, 1) := by decide +kernel
theorem dX12_isWeak_6 : decode cX12_isWeak 6 = .ok (.iload_n 1, 1) := by decide +kernel
theorem dX12_isWeak_7 : decode cX12_isWeak 7 = .ok (.iload_n 2, 1) := by decide +kernel
theorem dX12_isWeak_8 : decode cX12_isWeak 8 = .ok (.iconst 0, 1) := by decide +kernel
theorem dX12_isWeak_9 : decode cX12_isWeak 9 = .ok (.invokevirtual 318, 3) := by decide +kernel
theorem dX12_isWeak_12 : decode cX12_isWeak 12 = .ok (.invokevirtual 158, 3) := by decide +kernel
theorem dX12_isWeak_15 : decode cX12_isWeak 15 = .ok (.imul, 1) := by decide +kernel
theorem dX12_isWeak_16 : decode cX12_isWeak 16 = .ok (.i2l, 1) := by decide +kernel
theorem dX12_isWeak_17 : decode cX12_isWeak 17 = .ok (.lstore 5, 2) := by decide +kernel
theorem dX12_isWeak_19 : decode cX12_isWeak 19 = .ok (.iload_n 3, 1) := by decide +kernel
theorem dX12_isWeak_20 : decode cX12_isWeak 20 = .ok (.i2l, 1) := by decide +kernel
theorem dX12_isWeak_21 : decode cX12_isWeak 21 = .ok (.aload_n 0, 1) := by decide +kernel
theorem dX12_isWeak_22 : decode cX12_isWeak 22 = .ok (.iload_n 1, 1) := by decide +kernel
theorem dX12_isWeak_23 : decode cX12_isWeak 23 = .ok (.iload_n 2, 1) := by decide +kernel
theorem dX12_isWeak_24 : decode cX12_isWeak 24 = .ok (.invokevirtual 158, 3) := by decide +kernel
theorem dX12_isWeak_27 : decode cX12_isWeak 27 = .ok (.i2l, 1) := by decide +kernel
theorem dX12_isWeak_28 : decode cX12_isWeak 28 = .ok (.lmul, 1) := by decide +kernel
theorem dX12_isWeak_29 : decode cX12_isWeak 29 = .ok (.lstore 7, 2) := by decide +kernel
theorem dX12_isWeak_31 : decode cX12_isWeak 31 = .ok (.aload_n 0, 1) := by decide +kernel
theorem dX12_isWeak_32 : decode cX12_isWeak 32 = .ok (.iload_n 1, 1) := by decide +kernel
theorem dX12_isWeak_33 : decode cX12_isWeak 33 = .ok (.iconst 2, 1) := by decide +kernel
theorem dX12_isWeak_34 : decode cX12_isWeak 34 = .ok (.invokevirtual 88, 3) := by decide +kernel
theorem dX12_isWeak_37 : decode cX12_isWeak 37 = .ok (.i2l, 1) := by decide +kernel
theorem dX12_isWeak_38 : decode cX12_isWeak 38 = .ok (.lstore 9, 2) := by decide +kernel
theorem dX12_isWeak_40 : decode cX12_isWeak 40 = .ok (.iload 4, 2) := by decide +kernel
theorem dX12_isWeak_42 : decode cX12_isWeak 42 = .ok (.ifCond .ne 19, 3) := by decide +kernel
theorem dX12_isWeak_45 : decode cX12_isWeak 45 = .ok (.lload 5, 2) := by decide +kernel
theorem dX12_isWeak_47 : decode cX12_isWeak 47 = .ok (.lload 7, 2) := by decide +kernel
theorem dX12_isWeak_49 : decode cX12_isWeak 49 = .ok (.lcmp, 1) := by decide +kernel
theorem dX12_isWeak_50 : decode cX12_isWeak 50 = .ok (.ifCond .ge 7, 3) := by decide +kernel
theorem dX12_isWeak_53 : decode cX12_isWeak 53 = .ok (.iconst 1, 1) := by decide +kernel
theorem dX12_isWeak_54 : decode cX12_isWeak 54 = .ok (.goto 33, 3) := by decide +kernel
theorem dX12_isWeak_57 : decode cX12_isWeak 57 = .ok (.iconst 0, 1) := by decide +kernel
theorem dX12_isWeak_58 : decode cX12_isWeak 58 = .ok (.goto 29, 3) := by decide +kernel
theorem dX12_isWeak_61 : decode cX12_isWeak 61 = .ok (.lload 5, 2) := by decide +kernel
theorem dX12_isWeak_63 : decode cX12_isWeak 63 = .ok (.lload 9, 2) := by decide +kernel
theorem dX12_isWeak_65 : decode cX12_isWeak 65 = .ok (.lmul, 1) := by decide +kernel
theorem dX12_isWeak_66 : decode cX12_isWeak 66 = .ok (.lload 9, 2) := by decide +kernel
theorem dX12_isWeak_68 : decode cX12_isWeak 68 = .ok (.lmul, 1) := by decide +kernel
theorem dX12_isWeak_69 : decode cX12_isWeak 69 = .ok (.lload 7, 2) := by decide +kernel
theorem dX12_isWeak_71 : decode cX12_isWeak 71 = .ok (.aload_n 0, 1) := by decide +kernel
theorem dX12_isWeak_72 : decode cX12_isWeak 72 = .ok (.iload_n 1, 1) := by decide +kernel
theorem dX12_isWeak_73 : decode cX12_isWeak 73 = .ok (.iload_n 2, 1) := by decide +kernel
theorem dX12_isWeak_74 : decode cX12_isWeak 74 = .ok (.invokevirtual 321, 3) := by decide +kernel
theorem dX12_isWeak_77 : decode cX12_isWeak 77 = .ok (.lmul, 1) := by decide +kernel
theorem dX12_isWeak_78 : decode cX12_isWeak 78 = .ok (.lcmp, 1) := by decide +kernel
theorem dX12_isWeak_79 : decode cX12_isWeak 79 = .ok (.ifCond .ge 7, 3) := by decide +kernel
theorem dX12_isWeak_82 : decode cX12_isWeak 82 = .ok (.iconst 1, 1) := by decide +kernel
theorem dX12_isWeak_83 : decode cX12_isWeak 83 = .ok (.goto 4, 3) := by decide +kernel
theorem dX12_isWeak_86 : decode cX12_isWeak 86 = .ok (.iconst 0, 1) := by decide +kernel
theorem dX12_isWeak_87 : decode cX12_isWeak 87 = .ok (.ireturn, 1) := by decide +kernel
theorem dX12_isMille_0 : decode cX12_isMille 0 = .ok (.iload_n 0, 1) := by decide +kernel
theorem dX12_isMille_1 : decode cX12_isMille 1 = .ok (.iconst 0, 1) := by decide +kernel
theorem dX12_isMille_2 : decode cX12_isMille 2 = .ok (.sipush 1000, 3) := by decide +kernel
theorem dX12_isMille_5 : decode cX12_isMille 5 = .ok (.invokestatic 69, 3) := by decide +kernel
theorem dX12_isMille_8 : decode cX12_isMille 8 = .ok (.ireturn, 1) := by decide +kernel
theorem dX12_isRadius_0 : decode cX12_isRadius 0 = .ok (.iload_n 0, 1) := by decide +kernel
theorem dX12_isRadius_1 : decode cX12_isRadius 1 = .ok (.iconst 1, 1) := by decide +kernel
theorem dX12_isRadius_2 : decode cX12_isRadius 2 = .ok (.sipush 200, 3) := by decide +kernel
theorem dX12_isRadius_5 : decode cX12_isRadius 5 = .ok (.invokestatic 69, 3) := by decide +kernel
theorem dX12_isRadius_8 : decode cX12_isRadius 8 = .ok (.ireturn, 1) := by decide +kernel
theorem dX12_groom_0 : decode cX12_groom 0 = .ok (.aload_n 0, 1) := by decide +kernel
theorem dX12_groom_1 : decode cX12_groom 1 = .ok (.iload_n 1, 1) := by decide +kernel
theorem dX12_groom_2 : decode cX12_groom 2 = .ok (.iload_n 2, 1) := by decide +kernel
theorem dX12_groom_3 : decode cX12_groom 3 = .ok (.invokevirtual 206, 3) := by decide +kernel
theorem dX12_groom_6 : decode cX12_groom 6 = .ok (.ifCond .eq 20, 3) := by decide +kernel
theorem dX12_groom_9 : decode cX12_groom 9 = .ok (.iload_n 3, 1) := by decide +kernel
theorem dX12_groom_10 : decode cX12_groom 10 = .ok (.invokestatic 324, 3) := by decide +kernel
theorem dX12_groom_13 : decode cX12_groom 13 = .ok (.ifCond .eq 13, 3) := by decide +kernel
theorem dX12_groom_16 : decode cX12_groom 16 = .ok (.iload 4, 2) := by decide +kernel
theorem dX12_groom_18 : decode cX12_groom 18 = .ok (.iconst 0, 1) := by decide +kernel
theorem dX12_groom_19 : decode cX12_groom 19 = .ok (.iconst 1, 1) := by decide +kernel
theorem dX12_groom_20 : decode cX12_groom 20 = .ok (.invokestatic 69, 3) := by decide +kernel
theorem dX12_groom_23 : decode cX12_groom 23 = .ok (.ifCond .ne 5, 3) := by decide +kernel
theorem dX12_groom_26 : decode cX12_groom 26 = .ok (.iconst (-1), 1) := by decide +kernel
theorem dX12_groom_27 : decode cX12_groom 27 = .ok (.ireturn, 1) := by decide +kernel
theorem dX12_groom_28 : decode cX12_groom 28 = .ok (.iload_n 2, 1) := by decide +kernel
theorem dX12_groom_29 : decode cX12_groom 29 = .ok (.istore 5, 2) := by decide +kernel
theorem dX12_groom_31 : decode cX12_groom 31 = .ok (.aload_n 0, 1) := by decide +kernel
theorem dX12_groom_32 : decode cX12_groom 32 = .ok (.iload_n 1, 1) := by decide +kernel
theorem dX12_groom_33 : decode cX12_groom 33 = .ok (.iload 5, 2) := by decide +kernel
theorem dX12_groom_35 : decode cX12_groom 35 = .ok (.invokevirtual 233, 3) := by decide +kernel
theorem dX12_groom_38 : decode cX12_groom 38 = .ok (.ifCond .eq 29, 3) := by decide +kernel
theorem dX12_groom_41 : decode cX12_groom 41 = .ok (.aload_n 0, 1) := by decide +kernel
theorem dX12_groom_42 : decode cX12_groom 42 = .ok (.iload_n 1, 1) := by decide +kernel
theorem dX12_groom_43 : decode cX12_groom 43 = .ok (.iload 5, 2) := by decide +kernel
theorem dX12_groom_45 : decode cX12_groom 45 = .ok (.iload_n 3, 1) := by decide +kernel
theorem dX12_groom_46 : decode cX12_groom 46 = .ok (.iload 4, 2) := by decide +kernel
theorem dX12_groom_48 : decode cX12_groom 48 = .ok (.invokevirtual 327, 3) := by decide +kernel
theorem dX12_groom_51 : decode cX12_groom 51 = .ok (.ifCond .eq 16, 3) := by decide +kernel
theorem dX12_groom_54 : decode cX12_groom 54 = .ok (.aload_n 0, 1) := by decide +kernel
theorem dX12_groom_55 : decode cX12_groom 55 = .ok (.iload_n 1, 1) := by decide +kernel
theorem dX12_groom_56 : decode cX12_groom 56 = .ok (.iload 5, 2) := by decide +kernel
theorem dX12_groom_58 : decode cX12_groom 58 = .ok (.iconst 1, 1) := by decide +kernel
theorem dX12_groom_59 : decode cX12_groom 59 = .ok (.invokevirtual 318, 3) := by decide +kernel
theorem dX12_groom_62 : decode cX12_groom 62 = .ok (.istore 5, 2) := by decide +kernel
theorem dX12_groom_64 : decode cX12_groom 64 = .ok (.goto (-33), 3) := by decide +kernel
theorem dX12_groom_67 : decode cX12_groom 67 = .ok (.iload 5, 2) := by decide +kernel
theorem dX12_groom_69 : decode cX12_groom 69 = .ok (.ireturn, 1) := by decide +kernel
theorem dX12_nthOf_0 : decode cX12_nthOf 0 = .ok (.lload_n 0, 1) := by decide +kernel
theorem dX12_nthOf_1 : decode cX12_nthOf 1 = .ok (.lstore_n 3, 1) := by decide +kernel
theorem dX12_nthOf_2 : decode cX12_nthOf 2 = .ok (.iconst 0, 1) := by decide +kernel
theorem dX12_nthOf_3 : decode cX12_nthOf 3 = .ok (.istore 5, 2) := by decide +kernel
theorem dX12_nthOf_5 : decode cX12_nthOf 5 = .ok (.iload 5, 2) := by decide +kernel
theorem dX12_nthOf_7 : decode cX12_nthOf 7 = .ok (.iload_n 2, 1) := by decide +kernel
theorem dX12_nthOf_8 : decode cX12_nthOf 8 = .ok (.if_icmp .ge 15, 3) := by decide +kernel
theorem dX12_nthOf_11 : decode cX12_nthOf 11 = .ok (.lload_n 3, 1) := by decide +kernel
theorem dX12_nthOf_12 : decode cX12_nthOf 12 = .ok (.lload_n 3, 1) := by decide +kernel
theorem dX12_nthOf_13 : decode cX12_nthOf 13 = .ok (.lconst 1, 1) := by decide +kernel
theorem dX12_nthOf_14 : decode cX12_nthOf 14 = .ok (.lsub, 1) := by decide +kernel
theorem dX12_nthOf_15 : decode cX12_nthOf 15 = .ok (.land, 1) := by decide +kernel
theorem dX12_nthOf_16 : decode cX12_nthOf 16 = .ok (.lstore_n 3, 1) := by decide +kernel
theorem dX12_nthOf_17 : decode cX12_nthOf 17 = .ok (.iinc 5 1, 3) := by decide +kernel
theorem dX12_nthOf_20 : decode cX12_nthOf 20 = .ok (.goto (-15), 3) := by decide +kernel
theorem dX12_nthOf_23 : decode cX12_nthOf 23 = .ok (.iconst 0, 1) := by decide +kernel
theorem dX12_nthOf_24 : decode cX12_nthOf 24 = .ok (.istore 5, 2) := by decide +kernel
theorem dX12_nthOf_26 : decode cX12_nthOf 26 = .ok (.lload_n 3, 1) := by decide +kernel
theorem dX12_nthOf_27 : decode cX12_nthOf 27 = .ok (.iload 5, 2) := by decide +kernel
theorem dX12_nthOf_29 : decode cX12_nthOf 29 = .ok (.invokestatic 154, 3) := by decide +kernel
theorem dX12_nthOf_32 : decode cX12_nthOf 32 = .ok (.ifCond .ne 9, 3) := by decide +kernel
theorem dX12_nthOf_35 : decode cX12_nthOf 35 = .ok (.iinc 5 1, 3) := by decide +kernel
theorem dX12_nthOf_38 : decode cX12_nthOf 38 = .ok (.goto (-12), 3) := by decide +kernel
theorem dX12_nthOf_41 : decode cX12_nthOf 41 = .ok (.iload 5, 2) := by decide +kernel
theorem dX12_nthOf_43 : decode cX12_nthOf 43 = .ok (.ireturn, 1) := by decide +kernel
theorem dX12_leavesOfLent_0 : decode cX12_leavesOfLent 0 = .ok (.lconst 0, 1) := by decide +kernel
theorem dX12_leavesOfLent_1 : decode cX12_leavesOfLent 1 = .ok (.lstore 4, 2) := by decide +kernel
theorem dX12_leavesOfLent_3 : decode cX12_leavesOfLent 3 = .ok (.aload_n 0, 1) := by decide +kernel
theorem dX12_leavesOfLent_4 : decode cX12_leavesOfLent 4 = .ok (.iconst 1, 1) := by decide +kernel
theorem dX12_leavesOfLent_5 : decode cX12_leavesOfLent 5 = .ok (.putfield 269, 3) := by decide +kernel
theorem dX12_leavesOfLent_8 : decode cX12_leavesOfLent 8 = .ok (.aload_n 0, 1) := by decide +kernel
theorem dX12_leavesOfLent_9 : decode cX12_leavesOfLent 9 = .ok (.getfield 45, 3) := by decide +kernel
theorem dX12_leavesOfLent_12 : decode cX12_leavesOfLent 12 = .ok (.iconst 0, 1) := by decide +kernel
theorem dX12_leavesOfLent_13 : decode cX12_leavesOfLent 13 = .ok (.iload_n 1, 1) := by decide +kernel
theorem dX12_leavesOfLent_14 : decode cX12_leavesOfLent 14 = .ok (.iastore, 1) := by decide +kernel
theorem dX12_leavesOfLent_15 : decode cX12_leavesOfLent 15 = .ok (.aload_n 0, 1) := by decide +kernel
theorem dX12_leavesOfLent_16 : decode cX12_leavesOfLent 16 = .ok (.getfield 269, 3) := by decide +kernel
theorem dX12_leavesOfLent_19 : decode cX12_leavesOfLent 19 = .ok (.ifCond .le 98, 3) := by decide +kernel
theorem dX12_leavesOfLent_22 : decode cX12_leavesOfLent 22 = .ok (.aload_n 0, 1) := by decide +kernel
theorem dX12_leavesOfLent_23 : decode cX12_leavesOfLent 23 = .ok (.dup, 1) := by decide +kernel
theorem dX12_leavesOfLent_24 : decode cX12_leavesOfLent 24 = .ok (.getfield 269, 3) := by decide +kernel
theorem dX12_leavesOfLent_27 : decode cX12_leavesOfLent 27 = .ok (.iconst 1, 1) := by decide +kernel
theorem dX12_leavesOfLent_28 : decode cX12_leavesOfLent 28 = .ok (.isub, 1) := by decide +kernel
theorem dX12_leavesOfLent_29 : decode cX12_leavesOfLent 29 = .ok (.putfield 269, 3) := by decide +kernel
theorem dX12_leavesOfLent_32 : decode cX12_leavesOfLent 32 = .ok (.aload_n 0, 1) := by decide +kernel
theorem dX12_leavesOfLent_33 : decode cX12_leavesOfLent 33 = .ok (.getfield 45, 3) := by decide +kernel
theorem dX12_leavesOfLent_36 : decode cX12_leavesOfLent 36 = .ok (.aload_n 0, 1) := by decide +kernel
theorem dX12_leavesOfLent_37 : decode cX12_leavesOfLent 37 = .ok (.getfield 269, 3) := by decide +kernel
theorem dX12_leavesOfLent_40 : decode cX12_leavesOfLent 40 = .ok (.iaload, 1) := by decide +kernel
theorem dX12_leavesOfLent_41 : decode cX12_leavesOfLent 41 = .ok (.istore 6, 2) := by decide +kernel
theorem dX12_leavesOfLent_43 : decode cX12_leavesOfLent 43 = .ok (.aload_n 0, 1) := by decide +kernel
theorem dX12_leavesOfLent_44 : decode cX12_leavesOfLent 44 = .ok (.getfield 26, 3) := by decide +kernel
theorem dX12_leavesOfLent_47 : decode cX12_leavesOfLent 47 = .ok (.iload 6, 2) := by decide +kernel
theorem dX12_leavesOfLent_49 : decode cX12_leavesOfLent 49 = .ok (.iaload, 1) := by decide +kernel
theorem dX12_leavesOfLent_50 : decode cX12_leavesOfLent 50 = .ok (.iconst (-1), 1) := by decide +kernel
theorem dX12_leavesOfLent_51 : decode cX12_leavesOfLent 51 = .ok (.if_icmp .ne 19, 3) := by decide +kernel
theorem dX12_leavesOfLent_54 : decode cX12_leavesOfLent 54 = .ok (.lload 4, 2) := by decide +kernel
theorem dX12_leavesOfLent_56 : decode cX12_leavesOfLent 56 = .ok (.lconst 1, 1) := by decide +kernel
theorem dX12_leavesOfLent_57 : decode cX12_leavesOfLent 57 = .ok (.lload_n 2, 1) := by decide +kernel
theorem dX12_leavesOfLent_58 : decode cX12_leavesOfLent 58 = .ok (.iload 6, 2) := by decide +kernel
theorem dX12_leavesOfLent_60 : decode cX12_leavesOfLent 60 = .ok (.invokestatic 330, 3) := by decide +kernel
theorem dX12_leavesOfLent_63 : decode cX12_leavesOfLent 63 = .ok (.lshl, 1) := by decide +kernel
theorem dX12_leavesOfLent_64 : decode cX12_leavesOfLent 64 = .ok (.lor, 1) := by decide +kernel
theorem dX12_leavesOfLent_65 : decode cX12_leavesOfLent 65 = .ok (.lstore 4, 2) := by decide +kernel
theorem dX12_leavesOfLent_67 : decode cX12_leavesOfLent 67 = .ok (.goto (-52), 3) := by decide +kernel
theorem dX12_leavesOfLent_70 : decode cX12_leavesOfLent 70 = .ok (.aload_n 0, 1) := by decide +kernel
theorem dX12_leavesOfLent_71 : decode cX12_leavesOfLent 71 = .ok (.getfield 45, 3) := by decide +kernel
theorem dX12_leavesOfLent_74 : decode cX12_leavesOfLent 74 = .ok (.aload_n 0, 1) := by decide +kernel
theorem dX12_leavesOfLent_75 : decode cX12_leavesOfLent 75 = .ok (.getfield 269, 3) := by decide +kernel
theorem dX12_leavesOfLent_78 : decode cX12_leavesOfLent 78 = .ok (.aload_n 0, 1) := by decide +kernel
theorem dX12_leavesOfLent_79 : decode cX12_leavesOfLent 79 = .ok (.getfield 26, 3) := by decide +kernel
theorem dX12_leavesOfLent_82 : decode cX12_leavesOfLent 82 = .ok (.iload 6, 2) := by decide +kernel
theorem dX12_leavesOfLent_84 : decode cX12_leavesOfLent 84 = .ok (.iaload, 1) := by decide +kernel
theorem dX12_leavesOfLent_85 : decode cX12_leavesOfLent 85 = .ok (.iastore, 1) := by decide +kernel
theorem dX12_leavesOfLent_86 : decode cX12_leavesOfLent 86 = .ok (.aload_n 0, 1) := by decide +kernel
theorem dX12_leavesOfLent_87 : decode cX12_leavesOfLent 87 = .ok (.getfield 45, 3) := by decide +kernel
theorem dX12_leavesOfLent_90 : decode cX12_leavesOfLent 90 = .ok (.aload_n 0, 1) := by decide +kernel
theorem dX12_leavesOfLent_91 : decode cX12_leavesOfLent 91 = .ok (.getfield 269, 3) := by decide +kernel
theorem dX12_leavesOfLent_94 : decode cX12_leavesOfLent 94 = .ok (.iconst 1, 1) := by decide +kernel
theorem dX12_leavesOfLent_95 : decode cX12_leavesOfLent 95 = .ok (.iadd, 1) := by decide +kernel
theorem dX12_leavesOfLent_96 : decode cX12_leavesOfLent 96 = .ok (.aload_n 0, 1) := by decide +kernel
theorem dX12_leavesOfLent_97 : decode cX12_leavesOfLent 97 = .ok (.getfield 29, 3) := by decide +kernel
theorem dX12_leavesOfLent_100 : decode cX12_leavesOfLent 100 = .ok (.iload 6, 2) := by decide +kernel
theorem dX12_leavesOfLent_102 : decode cX12_leavesOfLent 102 = .ok (.iaload, 1) := by decide +kernel
theorem dX12_leavesOfLent_103 : decode cX12_leavesOfLent 103 = .ok (.iastore, 1) := by decide +kernel
theorem dX12_leavesOfLent_104 : decode cX12_leavesOfLent 104 = .ok (.aload_n 0, 1) := by decide +kernel
theorem dX12_leavesOfLent_105 : decode cX12_leavesOfLent 105 = .ok (.dup, 1) := by decide +kernel
theorem dX12_leavesOfLent_106 : decode cX12_leavesOfLent 106 = .ok (.getfield 269, 3) := by decide +kernel
theorem dX12_leavesOfLent_109 : decode cX12_leavesOfLent 109 = .ok (.iconst 2, 1) := by decide +kernel
theorem dX12_leavesOfLent_110 : decode cX12_leavesOfLent 110 = .ok (.iadd, 1) := by decide +kernel
theorem dX12_leavesOfLent_111 : decode cX12_leavesOfLent 111 = .ok (.putfield 269, 3) := by decide +kernel
theorem dX12_leavesOfLent_114 : decode cX12_leavesOfLent 114 = .ok (.goto (-99), 3) := by decide +kernel
theorem dX12_leavesOfLent_117 : decode cX12_leavesOfLent 117 = .ok (.lload 4, 2) := by decide +kernel
theorem dX12_leavesOfLent_119 : decode cX12_leavesOfLent 119 = .ok (.lreturn, 1) := by decide +kernel
theorem dX12_trim_0 : decode cX12_trim 0 = .ok (.aload_n 0, 1) := by decide +kernel
theorem dX12_trim_1 : decode cX12_trim 1 = .ok (.iload_n 1, 1) := by decide +kernel
theorem dX12_trim_2 : decode cX12_trim 2 = .ok (.iload_n 2, 1) := by decide +kernel
theorem dX12_trim_3 : decode cX12_trim 3 = .ok (.invokevirtual 206, 3) := by decide +kernel
theorem dX12_trim_6 : decode cX12_trim 6 = .ok (.ifCond .eq 18, 3) := by decide +kernel
theorem dX12_trim_9 : decode cX12_trim 9 = .ok (.iload_n 3, 1) := by decide +kernel
theorem dX12_trim_10 : decode cX12_trim 10 = .ok (.invokestatic 334, 3) := by decide +kernel
theorem dX12_trim_13 : decode cX12_trim 13 = .ok (.ifCond .eq 11, 3) := by decide +kernel
theorem dX12_trim_16 : decode cX12_trim 16 = .ok (.iload 4, 2) := by decide +kernel
theorem dX12_trim_18 : decode cX12_trim 18 = .ok (.invokestatic 324, 3) := by decide +kernel
theorem dX12_trim_21 : decode cX12_trim 21 = .ok (.ifCond .ne 5, 3) := by decide +kernel
theorem dX12_trim_24 : decode cX12_trim 24 = .ok (.lconst 0, 1) := by decide +kernel
theorem dX12_trim_25 : decode cX12_trim 25 = .ok (.lreturn, 1) := by decide +kernel
theorem dX12_trim_26 : decode cX12_trim 26 = .ok (.aload_n 0, 1) := by decide +kernel
theorem dX12_trim_27 : decode cX12_trim 27 = .ok (.iload_n 1, 1) := by decide +kernel
theorem dX12_trim_28 : decode cX12_trim 28 = .ok (.iload_n 2, 1) := by decide +kernel
theorem dX12_trim_29 : decode cX12_trim 29 = .ok (.invokevirtual 209, 3) := by decide +kernel
theorem dX12_trim_32 : decode cX12_trim 32 = .ok (.lstore 5, 2) := by decide +kernel
theorem dX12_trim_34 : decode cX12_trim 34 = .ok (.aload_n 0, 1) := by decide +kernel
theorem dX12_trim_35 : decode cX12_trim 35 = .ok (.iload_n 1, 1) := by decide +kernel
theorem dX12_trim_36 : decode cX12_trim 36 = .ok (.lload 5, 2) := by decide +kernel
theorem dX12_trim_38 : decode cX12_trim 38 = .ok (.invokevirtual 212, 3) := by decide +kernel
theorem dX12_trim_41 : decode cX12_trim 41 = .ok (.aload_n 0, 1) := by decide +kernel
theorem dX12_trim_42 : decode cX12_trim 42 = .ok (.iload_n 3, 1) := by decide +kernel
theorem dX12_trim_43 : decode cX12_trim 43 = .ok (.aload_n 0, 1) := by decide +kernel
theorem dX12_trim_44 : decode cX12_trim 44 = .ok (.iload_n 1, 1) := by decide +kernel
theorem dX12_trim_45 : decode cX12_trim 45 = .ok (.iconst 3, 1) := by decide +kernel
theorem dX12_trim_46 : decode cX12_trim 46 = .ok (.invokevirtual 88, 3) := by decide +kernel
theorem dX12_trim_49 : decode cX12_trim 49 = .ok (.aload_n 0, 1) := by decide +kernel
theorem dX12_trim_50 : decode cX12_trim 50 = .ok (.iload_n 1, 1) := by decide +kernel
theorem dX12_trim_51 : decode cX12_trim 51 = .ok (.iconst 4, 1) := by decide +kernel
theorem dX12_trim_52 : decode cX12_trim 52 = .ok (.invokevirtual 88, 3) := by decide +kernel
theorem dX12_trim_55 : decode cX12_trim 55 = .ok (.invokevirtual 193, 3) := by decide +kernel
theorem dX12_trim_58 : decode cX12_trim 58 = .ok (.lconst 0, 1) := by decide +kernel
theorem dX12_trim_59 : decode cX12_trim 59 = .ok (.lstore 7, 2) := by decide +kernel
theorem dX12_trim_61 : decode cX12_trim 61 = .ok (.iconst 0, 1) := by decide +kernel
theorem dX12_trim_62 : decode cX12_trim 62 = .ok (.istore 9, 2) := by decide +kernel
theorem dX12_trim_64 : decode cX12_trim 64 = .ok (.iload 9, 2) := by decide +kernel
theorem dX12_trim_66 : decode cX12_trim 66 = .ok (.aload_n 0, 1) := by decide +kernel
theorem dX12_trim_67 : decode cX12_trim 67 = .ok (.getfield 140, 3) := by decide +kernel
theorem dX12_trim_70 : decode cX12_trim 70 = .ok (.if_icmp .ge 69, 3) := by decide +kernel
theorem dX12_trim_73 : decode cX12_trim 73 = .ok (.aload_n 0, 1) := by decide +kernel
theorem dX12_trim_74 : decode cX12_trim 74 = .ok (.getfield 36, 3) := by decide +kernel
theorem dX12_trim_77 : decode cX12_trim 77 = .ok (.iload 9, 2) := by decide +kernel
theorem dX12_trim_79 : decode cX12_trim 79 = .ok (.iaload, 1) := by decide +kernel
theorem dX12_trim_80 : decode cX12_trim 80 = .ok (.istore 10, 2) := by decide +kernel
theorem dX12_trim_82 : decode cX12_trim 82 = .ok (.aload_n 0, 1) := by decide +kernel
theorem dX12_trim_83 : decode cX12_trim 83 = .ok (.getfield 39, 3) := by decide +kernel
theorem dX12_trim_86 : decode cX12_trim 86 = .ok (.iload 9, 2) := by decide +kernel
theorem dX12_trim_88 : decode cX12_trim 88 = .ok (.iaload, 1) := by decide +kernel
theorem dX12_trim_89 : decode cX12_trim 89 = .ok (.iconst (-1), 1) := by decide +kernel
theorem dX12_trim_90 : decode cX12_trim 90 = .ok (.if_icmp .ne 43, 3) := by decide +kernel
theorem dX12_trim_93 : decode cX12_trim 93 = .ok (.sipush 1000, 3) := by decide +kernel
theorem dX12_trim_96 : decode cX12_trim 96 = .ok (.aload_n 0, 1) := by decide +kernel
theorem dX12_trim_97 : decode cX12_trim 97 = .ok (.getfield 23, 3) := by decide +kernel
theorem dX12_trim_100 : decode cX12_trim 100 = .ok (.iload 10, 2) := by decide +kernel
theorem dX12_trim_102 : decode cX12_trim 102 = .ok (.iaload, 1) := by decide +kernel
theorem dX12_trim_103 : decode cX12_trim 103 = .ok (.imul, 1) := by decide +kernel
theorem dX12_trim_104 : decode cX12_trim 104 = .ok (.i2l, 1) := by decide +kernel
theorem dX12_trim_105 : decode cX12_trim 105 = .ok (.iload 4, 2) := by decide +kernel
theorem dX12_trim_107 : decode cX12_trim 107 = .ok (.i2l, 1) := by decide +kernel
theorem dX12_trim_108 : decode cX12_trim 108 = .ok (.aload_n 0, 1) := by decide +kernel
theorem dX12_trim_109 : decode cX12_trim 109 = .ok (.iload_n 1, 1) := by decide +kernel
theorem dX12_trim_110 : decode cX12_trim 110 = .ok (.iload_n 2, 1) := by decide +kernel
theorem dX12_trim_111 : decode cX12_trim 111 = .ok (.invokevirtual 158, 3) := by decide +kernel
theorem dX12_trim_114 : decode cX12_trim 114 = .ok (.i2l, 1) := by decide +kernel
theorem dX12_trim_115 : decode cX12_trim 115 = .ok (.lmul, 1) := by decide +kernel
theorem dX12_trim_116 : decode cX12_trim 116 = .ok (.lcmp, 1) := by decide +kernel
theorem dX12_trim_117 : decode cX12_trim 117 = .ok (.ifCond .lt 16, 3) := by decide +kernel
theorem dX12_trim_120 : decode cX12_trim 120 = .ok (.lload 7, 2) := by decide +kernel
theorem dX12_trim_122 : decode cX12_trim 122 = .ok (.aload_n 0, 1) := by decide +kernel
theorem dX12_trim_123 : decode cX12_trim 123 = .ok (.iload 10, 2) := by decide +kernel
theorem dX12_trim_125 : decode cX12_trim 125 = .ok (.lload 5, 2) := by decide +kernel
theorem dX12_trim_127 : decode cX12_trim 127 = .ok (.invokevirtual 337, 3) := by decide +kernel
theorem dX12_trim_130 : decode cX12_trim 130 = .ok (.lor, 1) := by decide +kernel
theorem dX12_trim_131 : decode cX12_trim 131 = .ok (.lstore 7, 2) := by decide +kernel
theorem dX12_trim_133 : decode cX12_trim 133 = .ok (.iinc 9 1, 3) := by decide +kernel
theorem dX12_trim_136 : decode cX12_trim 136 = .ok (.goto (-72), 3) := by decide +kernel
theorem dX12_trim_139 : decode cX12_trim 139 = .ok (.lload 7, 2) := by decide +kernel
theorem dX12_trim_141 : decode cX12_trim 141 = .ok (.lreturn, 1) := by decide +kernel
theorem dX12_prune_0 : decode cX12_prune 0 = .ok (.aload_n 0, 1) := by decide +kernel
theorem dX12_prune_1 : decode cX12_prune 1 = .ok (.iload_n 1, 1) := by decide +kernel
theorem dX12_prune_2 : decode cX12_prune 2 = .ok (.iload_n 2, 1) := by decide +kernel
theorem dX12_prune_3 : decode cX12_prune 3 = .ok (.invokevirtual 206, 3) := by decide +kernel
theorem dX12_prune_6 : decode cX12_prune 6 = .ok (.ifCond .eq 18, 3) := by decide +kernel
theorem dX12_prune_9 : decode cX12_prune 9 = .ok (.iload_n 3, 1) := by decide +kernel
theorem dX12_prune_10 : decode cX12_prune 10 = .ok (.invokestatic 324, 3) := by decide +kernel
theorem dX12_prune_13 : decode cX12_prune 13 = .ok (.ifCond .eq 11, 3) := by decide +kernel
theorem dX12_prune_16 : decode cX12_prune 16 = .ok (.iload 4, 2) := by decide +kernel
theorem dX12_prune_18 : decode cX12_prune 18 = .ok (.invokestatic 334, 3) := by decide +kernel
theorem dX12_prune_21 : decode cX12_prune 21 = .ok (.ifCond .ne 5, 3) := by decide +kernel
theorem dX12_prune_24 : decode cX12_prune 24 = .ok (.lconst 0, 1) := by decide +kernel
theorem dX12_prune_25 : decode cX12_prune 25 = .ok (.lreturn, 1) := by decide +kernel
theorem dX12_prune_26 : decode cX12_prune 26 = .ok (.lconst 0, 1) := by decide +kernel
theorem dX12_prune_27 : decode cX12_prune 27 = .ok (.lstore 5, 2) := by decide +kernel
theorem dX12_prune_29 : decode cX12_prune 29 = .ok (.iconst 1, 1) := by decide +kernel
theorem dX12_prune_30 : decode cX12_prune 30 = .ok (.istore 7, 2) := by decide +kernel
theorem dX12_prune_32 : decode cX12_prune 32 = .ok (.aload_n 0, 1) := by decide +kernel
theorem dX12_prune_33 : decode cX12_prune 33 = .ok (.getfield 48, 3) := by decide +kernel
theorem dX12_prune_36 : decode cX12_prune 36 = .ok (.iconst 0, 1) := by decide +kernel
theorem dX12_prune_37 : decode cX12_prune 37 = .ok (.iload_n 2, 1) := by decide +kernel
theorem dX12_prune_38 : decode cX12_prune 38 = .ok (.iastore, 1) := by decide +kernel
theorem dX12_prune_39 : decode cX12_prune 39 = .ok (.iload 7, 2) := by decide +kernel
theorem dX12_prune_41 : decode cX12_prune 41 = .ok (.ifCond .le 120, 3) := by decide +kernel
theorem dX12_prune_44 : decode cX12_prune 44 = .ok (.iinc 7 (-1), 3) := by decide +kernel
theorem dX12_prune_47 : decode cX12_prune 47 = .ok (.aload_n 0, 1) := by decide +kernel
theorem dX12_prune_48 : decode cX12_prune 48 = .ok (.getfield 48, 3) := by decide +kernel
theorem dX12_prune_51 : decode cX12_prune 51 = .ok (.iload 7, 2) := by decide +kernel
theorem dX12_prune_53 : decode cX12_prune 53 = .ok (.iaload, 1) := by decide +kernel
theorem dX12_prune_54 : decode cX12_prune 54 = .ok (.istore 8, 2) := by decide +kernel
theorem dX12_prune_56 : decode cX12_prune 56 = .ok (.aload_n 0, 1) := by decide +kernel
theorem dX12_prune_57 : decode cX12_prune 57 = .ok (.iload_n 1, 1) := by decide +kernel
theorem dX12_prune_58 : decode cX12_prune 58 = .ok (.iload 8, 2) := by decide +kernel
theorem dX12_prune_60 : decode cX12_prune 60 = .ok (.invokevirtual 233, 3) := by decide +kernel
theorem dX12_prune_63 : decode cX12_prune 63 = .ok (.ifCond .ne 15, 3) := by decide +kernel
theorem dX12_prune_66 : decode cX12_prune 66 = .ok (.lload 5, 2) := by decide +kernel
theorem dX12_prune_68 : decode cX12_prune 68 = .ok (.lconst 1, 1) := by decide +kernel
theorem dX12_prune_69 : decode cX12_prune 69 = .ok (.iload 8, 2) := by decide +kernel
theorem dX12_prune_71 : decode cX12_prune 71 = .ok (.lshl, 1) := by decide +kernel
theorem dX12_prune_72 : decode cX12_prune 72 = .ok (.lor, 1) := by decide +kernel
theorem dX12_prune_73 : decode cX12_prune 73 = .ok (.lstore 5, 2) := by decide +kernel
theorem dX12_prune_75 : decode cX12_prune 75 = .ok (.goto (-36), 3) := by decide +kernel
theorem dX12_prune_78 : decode cX12_prune 78 = .ok (.aload_n 0, 1) := by decide +kernel
theorem dX12_prune_79 : decode cX12_prune 79 = .ok (.iload_n 1, 1) := by decide +kernel
theorem dX12_prune_80 : decode cX12_prune 80 = .ok (.iload 8, 2) := by decide +kernel
theorem dX12_prune_82 : decode cX12_prune 82 = .ok (.iload_n 3, 1) := by decide +kernel
theorem dX12_prune_83 : decode cX12_prune 83 = .ok (.iconst 0, 1) := by decide +kernel
theorem dX12_prune_84 : decode cX12_prune 84 = .ok (.invokevirtual 327, 3) := by decide +kernel
theorem dX12_prune_87 : decode cX12_prune 87 = .ok (.ifCond .eq 24, 3) := by decide +kernel
theorem dX12_prune_90 : decode cX12_prune 90 = .ok (.aload_n 0, 1) := by decide +kernel
theorem dX12_prune_91 : decode cX12_prune 91 = .ok (.iload_n 1, 1) := by decide +kernel
theorem dX12_prune_92 : decode cX12_prune 92 = .ok (.iload 8, 2) := by decide +kernel
theorem dX12_prune_94 : decode cX12_prune 94 = .ok (.invokevirtual 321, 3) := by decide +kernel
theorem dX12_prune_97 : decode cX12_prune 97 = .ok (.iload 4, 2) := by decide +kernel
theorem dX12_prune_99 : decode cX12_prune 99 = .ok (.iload 4, 2) := by decide +kernel
theorem dX12_prune_101 : decode cX12_prune 101 = .ok (.imul, 1) := by decide +kernel
theorem dX12_prune_102 : decode cX12_prune 102 = .ok (.i2l, 1) := by decide +kernel
theorem dX12_prune_103 : decode cX12_prune 103 = .ok (.lcmp, 1) := by decide +kernel
theorem dX12_prune_104 : decode cX12_prune 104 = .ok (.ifCond .le 7, 3) := by decide +kernel
theorem dX12_prune_107 : decode cX12_prune 107 = .ok (.iconst 1, 1) := by decide +kernel
theorem dX12_prune_108 : decode cX12_prune 108 = .ok (.goto 4, 3) := by decide +kernel
theorem dX12_prune_111 : decode cX12_prune 111 = .ok (.iconst 0, 1) := by decide +kernel
theorem dX12_prune_112 : decode cX12_prune 112 = .ok (.istore 9, 2) := by decide +kernel
theorem dX12_prune_114 : decode cX12_prune 114 = .ok (.aload_n 0, 1) := by decide +kernel
theorem dX12_prune_115 : decode cX12_prune 115 = .ok (.getfield 48, 3) := by decide +kernel
theorem dX12_prune_118 : decode cX12_prune 118 = .ok (.iload 7, 2) := by decide +kernel
theorem dX12_prune_120 : decode cX12_prune 120 = .ok (.aload_n 0, 1) := by decide +kernel
theorem dX12_prune_121 : decode cX12_prune 121 = .ok (.iload_n 1, 1) := by decide +kernel
theorem dX12_prune_122 : decode cX12_prune 122 = .ok (.iload 8, 2) := by decide +kernel
theorem dX12_prune_124 : decode cX12_prune 124 = .ok (.iconst 1, 1) := by decide +kernel
theorem dX12_prune_125 : decode cX12_prune 125 = .ok (.invokevirtual 318, 3) := by decide +kernel
theorem dX12_prune_128 : decode cX12_prune 128 = .ok (.iastore, 1) := by decide +kernel
theorem dX12_prune_129 : decode cX12_prune 129 = .ok (.iinc 7 1, 3) := by decide +kernel
theorem dX12_prune_132 : decode cX12_prune 132 = .ok (.iload 9, 2) := by decide +kernel
theorem dX12_prune_134 : decode cX12_prune 134 = .ok (.ifCond .eq 6, 3) := by decide +kernel
theorem dX12_prune_137 : decode cX12_prune 137 = .ok (.goto (-98), 3) := by decide +kernel
theorem dX12_prune_140 : decode cX12_prune 140 = .ok (.aload_n 0, 1) := by decide +kernel
theorem dX12_prune_141 : decode cX12_prune 141 = .ok (.getfield 48, 3) := by decide +kernel
theorem dX12_prune_144 : decode cX12_prune 144 = .ok (.iload 7, 2) := by decide +kernel
theorem dX12_prune_146 : decode cX12_prune 146 = .ok (.aload_n 0, 1) := by decide +kernel
theorem dX12_prune_147 : decode cX12_prune 147 = .ok (.iload_n 1, 1) := by decide +kernel
theorem dX12_prune_148 : decode cX12_prune 148 = .ok (.iload 8, 2) := by decide +kernel
theorem dX12_prune_150 : decode cX12_prune 150 = .ok (.iconst 0, 1) := by decide +kernel
theorem dX12_prune_151 : decode cX12_prune 151 = .ok (.invokevirtual 318, 3) := by decide +kernel
theorem dX12_prune_154 : decode cX12_prune 154 = .ok (.iastore, 1) := by decide +kernel
theorem dX12_prune_155 : decode cX12_prune 155 = .ok (.iinc 7 1, 3) := by decide +kernel
theorem dX12_prune_158 : decode cX12_prune 158 = .ok (.goto (-119), 3) := by decide +kernel
theorem dX12_prune_161 : decode cX12_prune 161 = .ok (.lload 5, 2) := by decide +kernel
theorem dX12_prune_163 : decode cX12_prune 163 = .ok (.lreturn, 1) := by decide +kernel
theorem dX12_split_0 : decode cX12_split 0 = .ok (.aload_n 0, 1) := by decide +kernel
theorem dX12_split_1 : decode cX12_split 1 = .ok (.iload_n 1, 1) := by decide +kernel
theorem dX12_split_2 : decode cX12_split 2 = .ok (.iload_n 2, 1) := by decide +kernel
theorem dX12_split_3 : decode cX12_split 3 = .ok (.invokevirtual 206, 3) := by decide +kernel
theorem dX12_split_6 : decode cX12_split 6 = .ok (.ifCond .eq 8, 3) := by decide +kernel
theorem dX12_split_9 : decode cX12_split 9 = .ok (.iload_n 3, 1) := by decide +kernel
theorem dX12_split_10 : decode cX12_split 10 = .ok (.iconst (-1), 1) := by decide +kernel
theorem dX12_split_11 : decode cX12_split 11 = .ok (.if_icmp .ge 5, 3) := by decide +kernel
theorem dX12_split_14 : decode cX12_split 14 = .ok (.iconst (-1), 1) := by decide +kernel
theorem dX12_split_15 : decode cX12_split 15 = .ok (.ireturn, 1) := by decide +kernel
theorem dX12_split_16 : decode cX12_split 16 = .ok (.iconst 0, 1) := by decide +kernel
theorem dX12_split_17 : decode cX12_split 17 = .ok (.istore 5, 2) := by decide +kernel
theorem dX12_split_19 : decode cX12_split 19 = .ok (.iload_n 2, 1) := by decide +kernel
theorem dX12_split_20 : decode cX12_split 20 = .ok (.istore 6, 2) := by decide +kernel
theorem dX12_split_22 : decode cX12_split 22 = .ok (.aload_n 0, 1) := by decide +kernel
theorem dX12_split_23 : decode cX12_split 23 = .ok (.iload_n 1, 1) := by decide +kernel
theorem dX12_split_24 : decode cX12_split 24 = .ok (.iload 6, 2) := by decide +kernel
theorem dX12_split_26 : decode cX12_split 26 = .ok (.invokevirtual 233, 3) := by decide +kernel
theorem dX12_split_29 : decode cX12_split 29 = .ok (.ifCond .eq 88, 3) := by decide +kernel
theorem dX12_split_32 : decode cX12_split 32 = .ok (.iload 5, 2) := by decide +kernel
theorem dX12_split_34 : decode cX12_split 34 = .ok (.iload_n 3, 1) := by decide +kernel
theorem dX12_split_35 : decode cX12_split 35 = .ok (.if_icmp .ne 66, 3) := by decide +kernel
theorem dX12_split_38 : decode cX12_split 38 = .ok (.iload 4, 2) := by decide +kernel
theorem dX12_split_40 : decode cX12_split 40 = .ok (.ifCond .ne 8, 3) := by decide +kernel
theorem dX12_split_43 : decode cX12_split 43 = .ok (.iload 6, 2) := by decide +kernel
theorem dX12_split_45 : decode cX12_split 45 = .ok (.goto 55, 3) := by decide +kernel
theorem dX12_split_48 : decode cX12_split 48 = .ok (.iload 4, 2) := by decide +kernel
theorem dX12_split_50 : decode cX12_split 50 = .ok (.iconst 1, 1) := by decide +kernel
theorem dX12_split_51 : decode cX12_split 51 = .ok (.if_icmp .ne 31, 3) := by decide +kernel
theorem dX12_split_54 : decode cX12_split 54 = .ok (.sipush 1000, 3) := by decide +kernel
theorem dX12_split_57 : decode cX12_split 57 = .ok (.aload_n 0, 1) := by decide +kernel
theorem dX12_split_58 : decode cX12_split 58 = .ok (.iload_n 1, 1) := by decide +kernel
theorem dX12_split_59 : decode cX12_split 59 = .ok (.aload_n 0, 1) := by decide +kernel
theorem dX12_split_60 : decode cX12_split 60 = .ok (.iload_n 1, 1) := by decide +kernel
theorem dX12_split_61 : decode cX12_split 61 = .ok (.iload 6, 2) := by decide +kernel
theorem dX12_split_63 : decode cX12_split 63 = .ok (.iconst 0, 1) := by decide +kernel
theorem dX12_split_64 : decode cX12_split 64 = .ok (.invokevirtual 318, 3) := by decide +kernel
theorem dX12_split_67 : decode cX12_split 67 = .ok (.invokevirtual 158, 3) := by decide +kernel
theorem dX12_split_70 : decode cX12_split 70 = .ok (.imul, 1) := by decide +kernel
theorem dX12_split_71 : decode cX12_split 71 = .ok (.aload_n 0, 1) := by decide +kernel
theorem dX12_split_72 : decode cX12_split 72 = .ok (.iload_n 1, 1) := by decide +kernel
theorem dX12_split_73 : decode cX12_split 73 = .ok (.iload 6, 2) := by decide +kernel
theorem dX12_split_75 : decode cX12_split 75 = .ok (.invokevirtual 158, 3) := by decide +kernel
theorem dX12_split_78 : decode cX12_split 78 = .ok (.idiv, 1) := by decide +kernel
theorem dX12_split_79 : decode cX12_split 79 = .ok (.goto 21, 3) := by decide +kernel
theorem dX12_split_82 : decode cX12_split 82 = .ok (.iload 4, 2) := by decide +kernel
theorem dX12_split_84 : decode cX12_split 84 = .ok (.iconst 2, 1) := by decide +kernel
theorem dX12_split_85 : decode cX12_split 85 = .ok (.if_icmp .ne 14, 3) := by decide +kernel
theorem dX12_split_88 : decode cX12_split 88 = .ok (.aload_n 0, 1) := by decide +kernel
theorem dX12_split_89 : decode cX12_split 89 = .ok (.iload_n 1, 1) := by decide +kernel
theorem dX12_split_90 : decode cX12_split 90 = .ok (.iload 6, 2) := by decide +kernel
theorem dX12_split_92 : decode cX12_split 92 = .ok (.invokevirtual 321, 3) := by decide +kernel
theorem dX12_split_95 : decode cX12_split 95 = .ok (.l2i, 1) := by decide +kernel
theorem dX12_split_96 : decode cX12_split 96 = .ok (.goto 4, 3) := by decide +kernel
theorem dX12_split_99 : decode cX12_split 99 = .ok (.iconst (-1), 1) := by decide +kernel
theorem dX12_split_100 : decode cX12_split 100 = .ok (.ireturn, 1) := by decide +kernel
theorem dX12_split_101 : decode cX12_split 101 = .ok (.iinc 5 1, 3) := by decide +kernel
theorem dX12_split_104 : decode cX12_split 104 = .ok (.aload_n 0, 1) := by decide +kernel
theorem dX12_split_105 : decode cX12_split 105 = .ok (.iload_n 1, 1) := by decide +kernel
theorem dX12_split_106 : decode cX12_split 106 = .ok (.iload 6, 2) := by decide +kernel
theorem dX12_split_108 : decode cX12_split 108 = .ok (.iconst 1, 1) := by decide +kernel
theorem dX12_split_109 : decode cX12_split 109 = .ok (.invokevirtual 318, 3) := by decide +kernel
theorem dX12_split_112 : decode cX12_split 112 = .ok (.istore 6, 2) := by decide +kernel
theorem dX12_split_114 : decode cX12_split 114 = .ok (.goto (-92), 3) := by decide +kernel
theorem dX12_split_117 : decode cX12_split 117 = .ok (.iload_n 3, 1) := by decide +kernel
theorem dX12_split_118 : decode cX12_split 118 = .ok (.iconst (-1), 1) := by decide +kernel
theorem dX12_split_119 : decode cX12_split 119 = .ok (.if_icmp .ne 8, 3) := by decide +kernel
theorem dX12_split_122 : decode cX12_split 122 = .ok (.iload 5, 2) := by decide +kernel
theorem dX12_split_124 : decode cX12_split 124 = .ok (.goto 4, 3) := by decide +kernel
theorem dX12_split_127 : decode cX12_split 127 = .ok (.iconst (-1), 1) := by decide +kernel
theorem dX12_split_128 : decode cX12_split 128 = .ok (.ireturn, 1) := by decide +kernel
theorem dX12_squareIn_0 : decode cX12_squareIn 0 = .ok (.aload_n 0, 1) := by decide +kernel
theorem dX12_squareIn_1 : decode cX12_squareIn 1 = .ok (.iload_n 1, 1) := by decide +kernel
theorem dX12_squareIn_2 : decode cX12_squareIn 2 = .ok (.iload_n 2, 1) := by decide +kernel
theorem dX12_squareIn_3 : decode cX12_squareIn 3 = .ok (.iconst 0, 1) := by decide +kernel
theorem dX12_squareIn_4 : decode cX12_squareIn 4 = .ok (.invokevirtual 91, 3) := by decide +kernel
theorem dX12_squareIn_7 : decode cX12_squareIn 7 = .ok (.aload_n 0, 1) := by decide +kernel
theorem dX12_squareIn_8 : decode cX12_squareIn 8 = .ok (.iload_n 1, 1) := by decide +kernel
theorem dX12_squareIn_9 : decode cX12_squareIn 9 = .ok (.iload_n 2, 1) := by decide +kernel
theorem dX12_squareIn_10 : decode cX12_squareIn 10 = .ok (.iconst 1, 1) := by decide +kernel
theorem dX12_squareIn_11 : decode cX12_squareIn 11 = .ok (.invokevirtual 91, 3) := by decide +kernel
theorem dX12_squareIn_14 : decode cX12_squareIn 14 = .ok (.aload_n 0, 1) := by decide +kernel
theorem dX12_squareIn_15 : decode cX12_squareIn 15 = .ok (.iload_n 1, 1) := by decide +kernel
theorem dX12_squareIn_16 : decode cX12_squareIn 16 = .ok (.iload_n 3, 1) := by decide +kernel
theorem dX12_squareIn_17 : decode cX12_squareIn 17 = .ok (.iconst 0, 1) := by decide +kernel
theorem dX12_squareIn_18 : decode cX12_squareIn 18 = .ok (.invokevirtual 91, 3) := by decide +kernel
theorem dX12_squareIn_21 : decode cX12_squareIn 21 = .ok (.aload_n 0, 1) := by decide +kernel
theorem dX12_squareIn_22 : decode cX12_squareIn 22 = .ok (.iload_n 1, 1) := by decide +kernel
theorem dX12_squareIn_23 : decode cX12_squareIn 23 = .ok (.iload_n 3, 1) := by decide +kernel
theorem dX12_squareIn_24 : decode cX12_squareIn 24 = .ok (.iconst 1, 1) := by decide +kernel
theorem dX12_squareIn_25 : decode cX12_squareIn 25 = .ok (.invokevirtual 91, 3) := by decide +kernel
theorem dX12_squareIn_28 : decode cX12_squareIn 28 = .ok (.invokestatic 102, 3) := by decide +kernel
theorem dX12_squareIn_31 : decode cX12_squareIn 31 = .ok (.i2l, 1) := by decide +kernel
theorem dX12_squareIn_32 : decode cX12_squareIn 32 = .ok (.lreturn, 1) := by decide +kernel
theorem dX12_width_0 : decode cX12_width 0 = .ok (.aload_n 0, 1) := by decide +kernel
theorem dX12_width_1 : decode cX12_width 1 = .ok (.iload_n 1, 1) := by decide +kernel
theorem dX12_width_2 : decode cX12_width 2 = .ok (.iload_n 2, 1) := by decide +kernel
theorem dX12_width_3 : decode cX12_width 3 = .ok (.invokevirtual 206, 3) := by decide +kernel
theorem dX12_width_6 : decode cX12_width 6 = .ok (.ifCond .ne 5, 3) := by decide +kernel
theorem dX12_width_9 : decode cX12_width 9 = .ok (.lconst 0, 1) := by decide +kernel
theorem dX12_width_10 : decode cX12_width 10 = .ok (.lreturn, 1) := by decide +kernel
theorem dX12_width_11 : decode cX12_width 11 = .ok (.aload_n 0, 1) := by decide +kernel
theorem dX12_width_12 : decode cX12_width 12 = .ok (.iload_n 1, 1) := by decide +kernel
theorem dX12_width_13 : decode cX12_width 13 = .ok (.iload_n 2, 1) := by decide +kernel
theorem dX12_width_14 : decode cX12_width 14 = .ok (.invokevirtual 209, 3) := by decide +kernel
theorem dX12_width_17 : decode cX12_width 17 = .ok (.lstore_n 3, 1) := by decide +kernel
theorem dX12_width_18 : decode cX12_width 18 = .ok (.lconst 0, 1) := by decide +kernel
theorem dX12_width_19 : decode cX12_width 19 = .ok (.lstore 5, 2) := by decide +kernel
theorem dX12_width_21 : decode cX12_width 21 = .ok (.iconst 0, 1) := by decide +kernel
theorem dX12_width_22 : decode cX12_width 22 = .ok (.istore 7, 2) := by decide +kernel
theorem dX12_width_24 : decode cX12_width 24 = .ok (.iload 7, 2) := by decide +kernel
