theorem dX10_lost_15 : decode cX10_lost 15 = .ok (.invokevirtual 325, 3) := by decide +kernel
theorem dX10_lost_18 : decode cX10_lost 18 = .ok (.ireturn, 1) := by decide +kernel
theorem dX10_lost_19 : decode cX10_lost 19 = .ok (.aload_n 0, 1) := by decide +kernel
theorem dX10_lost_20 : decode cX10_lost 20 = .ok (.aload_n 0, 1) := by decide +kernel
theorem dX10_lost_21 : decode cX10_lost 21 = .ok (.getfield 116, 3) := by decide +kernel
theorem dX10_lost_24 : decode cX10_lost 24 = .ok (.iconst 0, 1) := by decide +kernel
theorem dX10_lost_25 : decode cX10_lost 25 = .ok (.invokevirtual 406, 3) := by decide +kernel
theorem dX10_lost_28 : decode cX10_lost 28 = .ok (.aload_n 0, 1) := by decide +kernel
theorem dX10_lost_29 : decode cX10_lost 29 = .ok (.iload_n 1, 1) := by decide +kernel
theorem dX10_lost_30 : decode cX10_lost 30 = .ok (.invokevirtual 438, 3) := by decide +kernel
theorem dX10_lost_33 : decode cX10_lost 33 = .ok (.istore_n 2, 1) := by decide +kernel
theorem dX10_lost_34 : decode cX10_lost 34 = .ok (.aload_n 0, 1) := by decide +kernel
theorem dX10_lost_35 : decode cX10_lost 35 = .ok (.iload_n 1, 1) := by decide +kernel
theorem dX10_lost_36 : decode cX10_lost 36 = .ok (.putfield 107, 3) := by decide +kernel
theorem dX10_lost_39 : decode cX10_lost 39 = .ok (.aload_n 0, 1) := by decide +kernel
theorem dX10_lost_40 : decode cX10_lost 40 = .ok (.iload_n 1, 1) := by decide +kernel
theorem dX10_lost_41 : decode cX10_lost 41 = .ok (.invokevirtual 438, 3) := by decide +kernel
theorem dX10_lost_44 : decode cX10_lost 44 = .ok (.istore_n 3, 1) := by decide +kernel
theorem dX10_lost_45 : decode cX10_lost 45 = .ok (.aload_n 0, 1) := by decide +kernel
theorem dX10_lost_46 : decode cX10_lost 46 = .ok (.iconst (-1), 1) := by decide +kernel
theorem dX10_lost_47 : decode cX10_lost 47 = .ok (.putfield 107, 3) := by decide +kernel
theorem dX10_lost_50 : decode cX10_lost 50 = .ok (.iload_n 2, 1) := by decide +kernel
theorem dX10_lost_51 : decode cX10_lost 51 = .ok (.iload_n 3, 1) := by decide +kernel
theorem dX10_lost_52 : decode cX10_lost 52 = .ok (.iconst (-1), 1) := by decide +kernel
theorem dX10_lost_53 : decode cX10_lost 53 = .ok (.ixor, 1) := by decide +kernel
theorem dX10_lost_54 : decode cX10_lost 54 = .ok (.iand, 1) := by decide +kernel
theorem dX10_lost_55 : decode cX10_lost 55 = .ok (.ireturn, 1) := by decide +kernel
theorem dX10_needed_0 : decode cX10_needed 0 = .ok (.aload_n 0, 1) := by decide +kernel
theorem dX10_needed_1 : decode cX10_needed 1 = .ok (.iconst 0, 1) := by decide +kernel
theorem dX10_needed_2 : decode cX10_needed 2 = .ok (.putfield 167, 3) := by decide +kernel
theorem dX10_needed_5 : decode cX10_needed 5 = .ok (.aload_n 0, 1) := by decide +kernel
theorem dX10_needed_6 : decode cX10_needed 6 = .ok (.iload_n 1, 1) := by decide +kernel
theorem dX10_needed_7 : decode cX10_needed 7 = .ok (.invokevirtual 400, 3) := by decide +kernel
theorem dX10_needed_10 : decode cX10_needed 10 = .ok (.ifCond .eq 11, 3) := by decide +kernel
theorem dX10_needed_13 : decode cX10_needed 13 = .ok (.aload_n 0, 1) := by decide +kernel
theorem dX10_needed_14 : decode cX10_needed 14 = .ok (.iload_n 2, 1) := by decide +kernel
theorem dX10_needed_15 : decode cX10_needed 15 = .ok (.invokevirtual 392, 3) := by decide +kernel
theorem dX10_needed_18 : decode cX10_needed 18 = .ok (.ifCond .ne 9, 3) := by decide +kernel
theorem dX10_needed_21 : decode cX10_needed 21 = .ok (.aload_n 0, 1) := by decide +kernel
theorem dX10_needed_22 : decode cX10_needed 22 = .ok (.iconst 1, 1) := by decide +kernel
theorem dX10_needed_23 : decode cX10_needed 23 = .ok (.invokevirtual 325, 3) := by decide +kernel
theorem dX10_needed_26 : decode cX10_needed 26 = .ok (.ireturn, 1) := by decide +kernel
theorem dX10_needed_27 : decode cX10_needed 27 = .ok (.iload_n 3, 1) := by decide +kernel
theorem dX10_needed_28 : decode cX10_needed 28 = .ok (.i2l, 1) := by decide +kernel
theorem dX10_needed_29 : decode cX10_needed 29 = .ok (.lconst 1, 1) := by decide +kernel
theorem dX10_needed_30 : decode cX10_needed 30 = .ok (.ldc2_w 433, 3) := by decide +kernel
theorem dX10_needed_33 : decode cX10_needed 33 = .ok (.invokestatic 170, 3) := by decide +kernel
theorem dX10_needed_36 : decode cX10_needed 36 = .ok (.ifCond .ne 9, 3) := by decide +kernel
theorem dX10_needed_39 : decode cX10_needed 39 = .ok (.aload_n 0, 1) := by decide +kernel
theorem dX10_needed_40 : decode cX10_needed 40 = .ok (.iconst 2, 1) := by decide +kernel
theorem dX10_needed_41 : decode cX10_needed 41 = .ok (.invokevirtual 325, 3) := by decide +kernel
theorem dX10_needed_44 : decode cX10_needed 44 = .ok (.ireturn, 1) := by decide +kernel
theorem dX10_needed_45 : decode cX10_needed 45 = .ok (.aload_n 0, 1) := by decide +kernel
theorem dX10_needed_46 : decode cX10_needed 46 = .ok (.aload_n 0, 1) := by decide +kernel
theorem dX10_needed_47 : decode cX10_needed 47 = .ok (.getfield 116, 3) := by decide +kernel
theorem dX10_needed_50 : decode cX10_needed 50 = .ok (.iconst 0, 1) := by decide +kernel
theorem dX10_needed_51 : decode cX10_needed 51 = .ok (.invokevirtual 406, 3) := by decide +kernel
theorem dX10_needed_54 : decode cX10_needed 54 = .ok (.iconst (-1), 1) := by decide +kernel
theorem dX10_needed_55 : decode cX10_needed 55 = .ok (.istore 4, 2) := by decide +kernel
theorem dX10_needed_57 : decode cX10_needed 57 = .ok (.iconst 0, 1) := by decide +kernel
theorem dX10_needed_58 : decode cX10_needed 58 = .ok (.istore 5, 2) := by decide +kernel
theorem dX10_needed_60 : decode cX10_needed 60 = .ok (.iload 5, 2) := by decide +kernel
theorem dX10_needed_62 : decode cX10_needed 62 = .ok (.bipush 99, 2) := by decide +kernel
theorem dX10_needed_64 : decode cX10_needed 64 = .ok (.if_icmp .gt 90, 3) := by decide +kernel
theorem dX10_needed_67 : decode cX10_needed 67 = .ok (.iload 4, 2) := by decide +kernel
theorem dX10_needed_69 : decode cX10_needed 69 = .ok (.iconst (-1), 1) := by decide +kernel
theorem dX10_needed_70 : decode cX10_needed 70 = .ok (.if_icmp .ne 84, 3) := by decide +kernel
theorem dX10_needed_73 : decode cX10_needed 73 = .ok (.aload_n 0, 1) := by decide +kernel
theorem dX10_needed_74 : decode cX10_needed 74 = .ok (.getfield 86, 3) := by decide +kernel
theorem dX10_needed_77 : decode cX10_needed 77 = .ok (.bipush 8, 2) := by decide +kernel
theorem dX10_needed_79 : decode cX10_needed 79 = .ok (.iload_n 1, 1) := by decide +kernel
theorem dX10_needed_80 : decode cX10_needed 80 = .ok (.imul, 1) := by decide +kernel
theorem dX10_needed_81 : decode cX10_needed 81 = .ok (.iload_n 2, 1) := by decide +kernel
theorem dX10_needed_82 : decode cX10_needed 82 = .ok (.iadd, 1) := by decide +kernel
theorem dX10_needed_83 : decode cX10_needed 83 = .ok (.iload 5, 2) := by decide +kernel
theorem dX10_needed_85 : decode cX10_needed 85 = .ok (.iastore, 1) := by decide +kernel
theorem dX10_needed_86 : decode cX10_needed 86 = .ok (.iconst 1, 1) := by decide +kernel
theorem dX10_needed_87 : decode cX10_needed 87 = .ok (.istore 6, 2) := by decide +kernel
theorem dX10_needed_89 : decode cX10_needed 89 = .ok (.iconst 0, 1) := by decide +kernel
theorem dX10_needed_90 : decode cX10_needed 90 = .ok (.istore 7, 2) := by decide +kernel
theorem dX10_needed_92 : decode cX10_needed 92 = .ok (.iload 7, 2) := by decide +kernel
theorem dX10_needed_94 : decode cX10_needed 94 = .ok (.iload_n 3, 1) := by decide +kernel
theorem dX10_needed_95 : decode cX10_needed 95 = .ok (.if_icmp .ge 35, 3) := by decide +kernel
theorem dX10_needed_98 : decode cX10_needed 98 = .ok (.iload 6, 2) := by decide +kernel
theorem dX10_needed_100 : decode cX10_needed 100 = .ok (.ifCond .eq 30, 3) := by decide +kernel
theorem dX10_needed_103 : decode cX10_needed 103 = .ok (.aload_n 0, 1) := by decide +kernel
theorem dX10_needed_104 : decode cX10_needed 104 = .ok (.invokevirtual 389, 3) := by decide +kernel
theorem dX10_needed_107 : decode cX10_needed 107 = .ok (.aload_n 0, 1) := by decide +kernel
theorem dX10_needed_108 : decode cX10_needed 108 = .ok (.getfield 113, 3) := by decide +kernel
theorem dX10_needed_111 : decode cX10_needed 111 = .ok (.iload_n 1, 1) := by decide +kernel
theorem dX10_needed_112 : decode cX10_needed 112 = .ok (.iaload, 1) := by decide +kernel
theorem dX10_needed_113 : decode cX10_needed 113 = .ok (.iload_n 2, 1) := by decide +kernel
theorem dX10_needed_114 : decode cX10_needed 114 = .ok (.if_icmp .eq 7, 3) := by decide +kernel
theorem dX10_needed_117 : decode cX10_needed 117 = .ok (.iconst 1, 1) := by decide +kernel
theorem dX10_needed_118 : decode cX10_needed 118 = .ok (.goto 4, 3) := by decide +kernel
theorem dX10_needed_121 : decode cX10_needed 121 = .ok (.iconst 0, 1) := by decide +kernel
theorem dX10_needed_122 : decode cX10_needed 122 = .ok (.istore 6, 2) := by decide +kernel
theorem dX10_needed_124 : decode cX10_needed 124 = .ok (.iinc 7 1, 3) := by decide +kernel
theorem dX10_needed_127 : decode cX10_needed 127 = .ok (.goto (-35), 3) := by decide +kernel
theorem dX10_needed_130 : decode cX10_needed 130 = .ok (.iload 6, 2) := by decide +kernel
theorem dX10_needed_132 : decode cX10_needed 132 = .ok (.ifCond .eq 7, 3) := by decide +kernel
theorem dX10_needed_135 : decode cX10_needed 135 = .ok (.iload 5, 2) := by decide +kernel
theorem dX10_needed_137 : decode cX10_needed 137 = .ok (.istore 4, 2) := by decide +kernel
theorem dX10_needed_139 : decode cX10_needed 139 = .ok (.aload_n 0, 1) := by decide +kernel
theorem dX10_needed_140 : decode cX10_needed 140 = .ok (.aload_n 0, 1) := by decide +kernel
theorem dX10_needed_141 : decode cX10_needed 141 = .ok (.getfield 116, 3) := by decide +kernel
theorem dX10_needed_144 : decode cX10_needed 144 = .ok (.iconst 0, 1) := by decide +kernel
theorem dX10_needed_145 : decode cX10_needed 145 = .ok (.invokevirtual 430, 3) := by decide +kernel
theorem dX10_needed_148 : decode cX10_needed 148 = .ok (.iinc 5 1, 3) := by decide +kernel
theorem dX10_needed_151 : decode cX10_needed 151 = .ok (.goto (-91), 3) := by decide +kernel
theorem dX10_needed_154 : decode cX10_needed 154 = .ok (.iload 4, 2) := by decide +kernel
theorem dX10_needed_156 : decode cX10_needed 156 = .ok (.ireturn, 1) := by decide +kernel
theorem dX10_commonOf_0 : decode cX10_commonOf 0 = .ok (.iconst 0, 1) := by decide +kernel
theorem dX10_commonOf_1 : decode cX10_commonOf 1 = .ok (.istore_n 3, 1) := by decide +kernel
theorem dX10_commonOf_2 : decode cX10_commonOf 2 = .ok (.iload_n 3, 1) := by decide +kernel
theorem dX10_commonOf_3 : decode cX10_commonOf 3 = .ok (.bipush 6, 2) := by decide +kernel
theorem dX10_commonOf_5 : decode cX10_commonOf 5 = .ok (.if_icmp .gt 16, 3) := by decide +kernel
theorem dX10_commonOf_8 : decode cX10_commonOf 8 = .ok (.aload_n 0, 1) := by decide +kernel
theorem dX10_commonOf_9 : decode cX10_commonOf 9 = .ok (.getfield 119, 3) := by decide +kernel
theorem dX10_commonOf_12 : decode cX10_commonOf 12 = .ok (.iload_n 3, 1) := by decide +kernel
theorem dX10_commonOf_13 : decode cX10_commonOf 13 = .ok (.iconst 0, 1) := by decide +kernel
theorem dX10_commonOf_14 : decode cX10_commonOf 14 = .ok (.iastore, 1) := by decide +kernel
theorem dX10_commonOf_15 : decode cX10_commonOf 15 = .ok (.iinc 3 1, 3) := by decide +kernel
theorem dX10_commonOf_18 : decode cX10_commonOf 18 = .ok (.goto (-16), 3) := by decide +kernel
theorem dX10_commonOf_21 : decode cX10_commonOf 21 = .ok (.iconst 0, 1) := by decide +kernel
theorem dX10_commonOf_22 : decode cX10_commonOf 22 = .ok (.istore_n 3, 1) := by decide +kernel
theorem dX10_commonOf_23 : decode cX10_commonOf 23 = .ok (.iload_n 3, 1) := by decide +kernel
theorem dX10_commonOf_24 : decode cX10_commonOf 24 = .ok (.aload_n 0, 1) := by decide +kernel
theorem dX10_commonOf_25 : decode cX10_commonOf 25 = .ok (.getfield 45, 3) := by decide +kernel
theorem dX10_commonOf_28 : decode cX10_commonOf 28 = .ok (.iload_n 1, 1) := by decide +kernel
theorem dX10_commonOf_29 : decode cX10_commonOf 29 = .ok (.iaload, 1) := by decide +kernel
theorem dX10_commonOf_30 : decode cX10_commonOf 30 = .ok (.if_icmp .ge 106, 3) := by decide +kernel
theorem dX10_commonOf_33 : decode cX10_commonOf 33 = .ok (.iconst 0, 1) := by decide +kernel
theorem dX10_commonOf_34 : decode cX10_commonOf 34 = .ok (.istore 4, 2) := by decide +kernel
theorem dX10_commonOf_36 : decode cX10_commonOf 36 = .ok (.iconst 1, 1) := by decide +kernel
theorem dX10_commonOf_37 : decode cX10_commonOf 37 = .ok (.istore 5, 2) := by decide +kernel
theorem dX10_commonOf_39 : decode cX10_commonOf 39 = .ok (.iload 5, 2) := by decide +kernel
theorem dX10_commonOf_41 : decode cX10_commonOf 41 = .ok (.aload_n 0, 1) := by decide +kernel
theorem dX10_commonOf_42 : decode cX10_commonOf 42 = .ok (.getfield 45, 3) := by decide +kernel
theorem dX10_commonOf_45 : decode cX10_commonOf 45 = .ok (.iload_n 2, 1) := by decide +kernel
theorem dX10_commonOf_46 : decode cX10_commonOf 46 = .ok (.iaload, 1) := by decide +kernel
theorem dX10_commonOf_47 : decode cX10_commonOf 47 = .ok (.if_icmp .gt 83, 3) := by decide +kernel
theorem dX10_commonOf_50 : decode cX10_commonOf 50 = .ok (.aload_n 0, 1) := by decide +kernel
theorem dX10_commonOf_51 : decode cX10_commonOf 51 = .ok (.getfield 119, 3) := by decide +kernel
theorem dX10_commonOf_54 : decode cX10_commonOf 54 = .ok (.iload 5, 2) := by decide +kernel
theorem dX10_commonOf_56 : decode cX10_commonOf 56 = .ok (.iaload, 1) := by decide +kernel
theorem dX10_commonOf_57 : decode cX10_commonOf 57 = .ok (.istore 6, 2) := by decide +kernel
theorem dX10_commonOf_59 : decode cX10_commonOf 59 = .ok (.aload_n 0, 1) := by decide +kernel
theorem dX10_commonOf_60 : decode cX10_commonOf 60 = .ok (.getfield 119, 3) := by decide +kernel
theorem dX10_commonOf_63 : decode cX10_commonOf 63 = .ok (.iload 5, 2) := by decide +kernel
theorem dX10_commonOf_65 : decode cX10_commonOf 65 = .ok (.aload_n 0, 1) := by decide +kernel
theorem dX10_commonOf_66 : decode cX10_commonOf 66 = .ok (.getfield 48, 3) := by decide +kernel
theorem dX10_commonOf_69 : decode cX10_commonOf 69 = .ok (.bipush 6, 2) := by decide +kernel
theorem dX10_commonOf_71 : decode cX10_commonOf 71 = .ok (.iload_n 1, 1) := by decide +kernel
theorem dX10_commonOf_72 : decode cX10_commonOf 72 = .ok (.imul, 1) := by decide +kernel
theorem dX10_commonOf_73 : decode cX10_commonOf 73 = .ok (.iload_n 3, 1) := by decide +kernel
theorem dX10_commonOf_74 : decode cX10_commonOf 74 = .ok (.iadd, 1) := by decide +kernel
theorem dX10_commonOf_75 : decode cX10_commonOf 75 = .ok (.iaload, 1) := by decide +kernel
theorem dX10_commonOf_76 : decode cX10_commonOf 76 = .ok (.aload_n 0, 1) := by decide +kernel
theorem dX10_commonOf_77 : decode cX10_commonOf 77 = .ok (.getfield 48, 3) := by decide +kernel
theorem dX10_commonOf_80 : decode cX10_commonOf 80 = .ok (.bipush 6, 2) := by decide +kernel
theorem dX10_commonOf_82 : decode cX10_commonOf 82 = .ok (.iload_n 2, 1) := by decide +kernel
theorem dX10_commonOf_83 : decode cX10_commonOf 83 = .ok (.imul, 1) := by decide +kernel
theorem dX10_commonOf_84 : decode cX10_commonOf 84 = .ok (.iload 5, 2) := by decide +kernel
theorem dX10_commonOf_86 : decode cX10_commonOf 86 = .ok (.iadd, 1) := by decide +kernel
theorem dX10_commonOf_87 : decode cX10_commonOf 87 = .ok (.iconst 1, 1) := by decide +kernel
theorem dX10_commonOf_88 : decode cX10_commonOf 88 = .ok (.isub, 1) := by decide +kernel
theorem dX10_commonOf_89 : decode cX10_commonOf 89 = .ok (.iaload, 1) := by decide +kernel
theorem dX10_commonOf_90 : decode cX10_commonOf 90 = .ok (.if_icmp .ne 10, 3) := by decide +kernel
theorem dX10_commonOf_93 : decode cX10_commonOf 93 = .ok (.iload 4, 2) := by decide +kernel
theorem dX10_commonOf_95 : decode cX10_commonOf 95 = .ok (.iconst 1, 1) := by decide +kernel
theorem dX10_commonOf_96 : decode cX10_commonOf 96 = .ok (.iadd, 1) := by decide +kernel
theorem dX10_commonOf_97 : decode cX10_commonOf 97 = .ok (.goto 22, 3) := by decide +kernel
theorem dX10_commonOf_100 : decode cX10_commonOf 100 = .ok (.aload_n 0, 1) := by decide +kernel
theorem dX10_commonOf_101 : decode cX10_commonOf 101 = .ok (.getfield 119, 3) := by decide +kernel
theorem dX10_commonOf_104 : decode cX10_commonOf 104 = .ok (.iload 5, 2) := by decide +kernel
theorem dX10_commonOf_106 : decode cX10_commonOf 106 = .ok (.iaload, 1) := by decide +kernel
theorem dX10_commonOf_107 : decode cX10_commonOf 107 = .ok (.aload_n 0, 1) := by decide +kernel
theorem dX10_commonOf_108 : decode cX10_commonOf 108 = .ok (.getfield 119, 3) := by decide +kernel
theorem dX10_commonOf_111 : decode cX10_commonOf 111 = .ok (.iload 5, 2) := by decide +kernel
theorem dX10_commonOf_113 : decode cX10_commonOf 113 = .ok (.iconst 1, 1) := by decide +kernel
theorem dX10_commonOf_114 : decode cX10_commonOf 114 = .ok (.isub, 1) := by decide +kernel
theorem dX10_commonOf_115 : decode cX10_commonOf 115 = .ok (.iaload, 1) := by decide +kernel
theorem dX10_commonOf_116 : decode cX10_commonOf 116 = .ok (.invokestatic 369, 3) := by decide +kernel
theorem dX10_commonOf_119 : decode cX10_commonOf 119 = .ok (.iastore, 1) := by decide +kernel
theorem dX10_commonOf_120 : decode cX10_commonOf 120 = .ok (.iload 6, 2) := by decide +kernel
theorem dX10_commonOf_122 : decode cX10_commonOf 122 = .ok (.istore 4, 2) := by decide +kernel
theorem dX10_commonOf_124 : decode cX10_commonOf 124 = .ok (.iinc 5 1, 3) := by decide +kernel
theorem dX10_commonOf_127 : decode cX10_commonOf 127 = .ok (.goto (-88), 3) := by decide +kernel
theorem dX10_commonOf_130 : decode cX10_commonOf 130 = .ok (.iinc 3 1, 3) := by decide +kernel
theorem dX10_commonOf_133 : decode cX10_commonOf 133 = .ok (.goto (-110), 3) := by decide +kernel
theorem dX10_commonOf_136 : decode cX10_commonOf 136 = .ok (.aload_n 0, 1) := by decide +kernel
theorem dX10_commonOf_137 : decode cX10_commonOf 137 = .ok (.getfield 119, 3) := by decide +kernel
theorem dX10_commonOf_140 : decode cX10_commonOf 140 = .ok (.aload_n 0, 1) := by decide +kernel
theorem dX10_commonOf_141 : decode cX10_commonOf 141 = .ok (.getfield 45, 3) := by decide +kernel
theorem dX10_commonOf_144 : decode cX10_commonOf 144 = .ok (.iload_n 2, 1) := by decide +kernel
theorem dX10_commonOf_145 : decode cX10_commonOf 145 = .ok (.iaload, 1) := by decide +kernel
theorem dX10_commonOf_146 : decode cX10_commonOf 146 = .ok (.iaload, 1) := by decide +kernel
theorem dX10_commonOf_147 : decode cX10_commonOf 147 = .ok (.ireturn, 1) := by decide +kernel
theorem dX10_common_0 : decode cX10_common 0 = .ok (.aload_n 0, 1) := by decide +kernel
theorem dX10_common_1 : decode cX10_common 1 = .ok (.iconst 0, 1) := by decide +kernel
theorem dX10_common_2 : decode cX10_common 2 = .ok (.putfield 167, 3) := by decide +kernel
theorem dX10_common_5 : decode cX10_common 5 = .ok (.aload_n 0, 1) := by decide +kernel
theorem dX10_common_6 : decode cX10_common 6 = .ok (.iload_n 1, 1) := by decide +kernel
theorem dX10_common_7 : decode cX10_common 7 = .ok (.invokevirtual 392, 3) := by decide +kernel
theorem dX10_common_10 : decode cX10_common 10 = .ok (.ifCond .eq 20, 3) := by decide +kernel
theorem dX10_common_13 : decode cX10_common 13 = .ok (.aload_n 0, 1) := by decide +kernel
theorem dX10_common_14 : decode cX10_common 14 = .ok (.iload_n 2, 1) := by decide +kernel
theorem dX10_common_15 : decode cX10_common 15 = .ok (.invokevirtual 392, 3) := by decide +kernel
theorem dX10_common_18 : decode cX10_common 18 = .ok (.ifCond .eq 12, 3) := by decide +kernel
theorem dX10_common_21 : decode cX10_common 21 = .ok (.aload_n 0, 1) := by decide +kernel
theorem dX10_common_22 : decode cX10_common 22 = .ok (.iload_n 1, 1) := by decide +kernel
theorem dX10_common_23 : decode cX10_common 23 = .ok (.iload_n 2, 1) := by decide +kernel
theorem dX10_common_24 : decode cX10_common 24 = .ok (.invokevirtual 441, 3) := by decide +kernel
theorem dX10_common_27 : decode cX10_common 27 = .ok (.goto 8, 3) := by decide +kernel
theorem dX10_common_30 : decode cX10_common 30 = .ok (.aload_n 0, 1) := by decide +kernel
theorem dX10_common_31 : decode cX10_common 31 = .ok (.iconst 1, 1) := by decide +kernel
theorem dX10_common_32 : decode cX10_common 32 = .ok (.invokevirtual 325, 3) := by decide +kernel
theorem dX10_common_35 : decode cX10_common 35 = .ok (.ireturn, 1) := by decide +kernel
theorem dX10_nearest_0 : decode cX10_nearest 0 = .ok (.aload_n 0, 1) := by decide +kernel
theorem dX10_nearest_1 : decode cX10_nearest 1 = .ok (.iconst 0, 1) := by decide +kernel
theorem dX10_nearest_2 : decode cX10_nearest 2 = .ok (.putfield 167, 3) := by decide +kernel
theorem dX10_nearest_5 : decode cX10_nearest 5 = .ok (.iconst (-1), 1) := by decide +kernel
theorem dX10_nearest_6 : decode cX10_nearest 6 = .ok (.istore_n 1, 1) := by decide +kernel
theorem dX10_nearest_7 : decode cX10_nearest 7 = .ok (.iconst (-1), 1) := by decide +kernel
theorem dX10_nearest_8 : decode cX10_nearest 8 = .ok (.istore_n 2, 1) := by decide +kernel
theorem dX10_nearest_9 : decode cX10_nearest 9 = .ok (.iconst 0, 1) := by decide +kernel
theorem dX10_nearest_10 : decode cX10_nearest 10 = .ok (.istore_n 3, 1) := by decide +kernel
theorem dX10_nearest_11 : decode cX10_nearest 11 = .ok (.iload_n 3, 1) := by decide +kernel
theorem dX10_nearest_12 : decode cX10_nearest 12 = .ok (.aload_n 0, 1) := by decide +kernel
theorem dX10_nearest_13 : decode cX10_nearest 13 = .ok (.getfield 39, 3) := by decide +kernel
theorem dX10_nearest_16 : decode cX10_nearest 16 = .ok (.iconst 0, 1) := by decide +kernel
theorem dX10_nearest_17 : decode cX10_nearest 17 = .ok (.iaload, 1) := by decide +kernel
theorem dX10_nearest_18 : decode cX10_nearest 18 = .ok (.if_icmp .ge 61, 3) := by decide +kernel
theorem dX10_nearest_21 : decode cX10_nearest 21 = .ok (.iload_n 3, 1) := by decide +kernel
theorem dX10_nearest_22 : decode cX10_nearest 22 = .ok (.iconst 1, 1) := by decide +kernel
theorem dX10_nearest_23 : decode cX10_nearest 23 = .ok (.iadd, 1) := by decide +kernel
theorem dX10_nearest_24 : decode cX10_nearest 24 = .ok (.istore 4, 2) := by decide +kernel
theorem dX10_nearest_26 : decode cX10_nearest 26 = .ok (.iload 4, 2) := by decide +kernel
theorem dX10_nearest_28 : decode cX10_nearest 28 = .ok (.aload_n 0, 1) := by decide +kernel
theorem dX10_nearest_29 : decode cX10_nearest 29 = .ok (.getfield 39, 3) := by decide +kernel
theorem dX10_nearest_32 : decode cX10_nearest 32 = .ok (.iconst 0, 1) := by decide +kernel
theorem dX10_nearest_33 : decode cX10_nearest 33 = .ok (.iaload, 1) := by decide +kernel
theorem dX10_nearest_34 : decode cX10_nearest 34 = .ok (.if_icmp .ge 39, 3) := by decide +kernel
theorem dX10_nearest_37 : decode cX10_nearest 37 = .ok (.aload_n 0, 1) := by decide +kernel
theorem dX10_nearest_38 : decode cX10_nearest 38 = .ok (.iload_n 3, 1) := by decide +kernel
theorem dX10_nearest_39 : decode cX10_nearest 39 = .ok (.iload 4, 2) := by decide +kernel
theorem dX10_nearest_41 : decode cX10_nearest 41 = .ok (.invokevirtual 441, 3) := by decide +kernel
theorem dX10_nearest_44 : decode cX10_nearest 44 = .ok (.iload_n 2, 1) := by decide +kernel
theorem dX10_nearest_45 : decode cX10_nearest 45 = .ok (.if_icmp .gt 6, 3) := by decide +kernel
theorem dX10_nearest_48 : decode cX10_nearest 48 = .ok (.goto 19, 3) := by decide +kernel
theorem dX10_nearest_51 : decode cX10_nearest 51 = .ok (.bipush 10, 2) := by decide +kernel
theorem dX10_nearest_53 : decode cX10_nearest 53 = .ok (.iload_n 3, 1) := by decide +kernel
theorem dX10_nearest_54 : decode cX10_nearest 54 = .ok (.imul, 1) := by decide +kernel
theorem dX10_nearest_55 : decode cX10_nearest 55 = .ok (.iload 4, 2) := by decide +kernel
theorem dX10_nearest_57 : decode cX10_nearest 57 = .ok (.iadd, 1) := by decide +kernel
theorem dX10_nearest_58 : decode cX10_nearest 58 = .ok (.istore_n 1, 1) := by decide +kernel
theorem dX10_nearest_59 : decode cX10_nearest 59 = .ok (.aload_n 0, 1) := by decide +kernel
theorem dX10_nearest_60 : decode cX10_nearest 60 = .ok (.iload_n 3, 1) := by decide +kernel
theorem dX10_nearest_61 : decode cX10_nearest 61 = .ok (.iload 4, 2) := by decide +kernel
theorem dX10_nearest_63 : decode cX10_nearest 63 = .ok (.invokevirtual 441, 3) := by decide +kernel
theorem dX10_nearest_66 : decode cX10_nearest 66 = .ok (.istore_n 2, 1) := by decide +kernel
theorem dX10_nearest_67 : decode cX10_nearest 67 = .ok (.iinc 4 1, 3) := by decide +kernel
theorem dX10_nearest_70 : decode cX10_nearest 70 = .ok (.goto (-44), 3) := by decide +kernel
theorem dX10_nearest_73 : decode cX10_nearest 73 = .ok (.iinc 3 1, 3) := by decide +kernel
theorem dX10_nearest_76 : decode cX10_nearest 76 = .ok (.goto (-65), 3) := by decide +kernel
theorem dX10_nearest_79 : decode cX10_nearest 79 = .ok (.iload_n 1, 1) := by decide +kernel
theorem dX10_nearest_80 : decode cX10_nearest 80 = .ok (.ireturn, 1) := by decide +kernel
theorem dX10_far_0 : decode cX10_far 0 = .ok (.aload_n 0, 1) := by decide +kernel
theorem dX10_far_1 : decode cX10_far 1 = .ok (.iconst 0, 1) := by decide +kernel
theorem dX10_far_2 : decode cX10_far 2 = .ok (.putfield 167, 3) := by decide +kernel
theorem dX10_far_5 : decode cX10_far 5 = .ok (.aload_n 0, 1) := by decide +kernel
theorem dX10_far_6 : decode cX10_far 6 = .ok (.iload_n 1, 1) := by decide +kernel
theorem dX10_far_7 : decode cX10_far 7 = .ok (.invokevirtual 392, 3) := by decide +kernel
theorem dX10_far_10 : decode cX10_far 10 = .ok (.ifCond .eq 11, 3) := by decide +kernel
theorem dX10_far_13 : decode cX10_far 13 = .ok (.aload_n 0, 1) := by decide +kernel
theorem dX10_far_14 : decode cX10_far 14 = .ok (.iload_n 2, 1) := by decide +kernel
theorem dX10_far_15 : decode cX10_far 15 = .ok (.invokevirtual 392, 3) := by decide +kernel
theorem dX10_far_18 : decode cX10_far 18 = .ok (.ifCond .ne 9, 3) := by decide +kernel
theorem dX10_far_21 : decode cX10_far 21 = .ok (.aload_n 0, 1) := by decide +kernel
theorem dX10_far_22 : decode cX10_far 22 = .ok (.iconst 1, 1) := by decide +kernel
theorem dX10_far_23 : decode cX10_far 23 = .ok (.invokevirtual 325, 3) := by decide +kernel
theorem dX10_far_26 : decode cX10_far 26 = .ok (.ireturn, 1) := by decide +kernel
theorem dX10_far_27 : decode cX10_far 27 = .ok (.aload_n 0, 1) := by decide +kernel
theorem dX10_far_28 : decode cX10_far 28 = .ok (.getfield 98, 3) := by decide +kernel
theorem dX10_far_31 : decode cX10_far 31 = .ok (.bipush 8, 2) := by decide +kernel
theorem dX10_far_33 : decode cX10_far 33 = .ok (.iload_n 1, 1) := by decide +kernel
theorem dX10_far_34 : decode cX10_far 34 = .ok (.imul, 1) := by decide +kernel
theorem dX10_far_35 : decode cX10_far 35 = .ok (.iload_n 2, 1) := by decide +kernel
theorem dX10_far_36 : decode cX10_far 36 = .ok (.iadd, 1) := by decide +kernel
theorem dX10_far_37 : decode cX10_far 37 = .ok (.iaload, 1) := by decide +kernel
theorem dX10_far_38 : decode cX10_far 38 = .ok (.ldc 203, 2) := by decide +kernel
theorem dX10_far_40 : decode cX10_far 40 = .ok (.if_icmp .lt 7, 3) := by decide +kernel
theorem dX10_far_43 : decode cX10_far 43 = .ok (.iconst (-1), 1) := by decide +kernel
theorem dX10_far_44 : decode cX10_far 44 = .ok (.goto 14, 3) := by decide +kernel
theorem dX10_far_47 : decode cX10_far 47 = .ok (.aload_n 0, 1) := by decide +kernel
theorem dX10_far_48 : decode cX10_far 48 = .ok (.getfield 98, 3) := by decide +kernel
theorem dX10_far_51 : decode cX10_far 51 = .ok (.bipush 8, 2) := by decide +kernel
theorem dX10_far_53 : decode cX10_far 53 = .ok (.iload_n 1, 1) := by decide +kernel
theorem dX10_far_54 : decode cX10_far 54 = .ok (.imul, 1) := by decide +kernel
theorem dX10_far_55 : decode cX10_far 55 = .ok (.iload_n 2, 1) := by decide +kernel
theorem dX10_far_56 : decode cX10_far 56 = .ok (.iadd, 1) := by decide +kernel
theorem dX10_far_57 : decode cX10_far 57 = .ok (.iaload, 1) := by decide +kernel
theorem dX10_far_58 : decode cX10_far 58 = .ok (.ireturn, 1) := by decide +kernel
theorem dX10_round_0 : decode cX10_round 0 = .ok (.aload_n 0, 1) := by decide +kernel
theorem dX10_round_1 : decode cX10_round 1 = .ok (.iconst 0, 1) := by decide +kernel
theorem dX10_round_2 : decode cX10_round 2 = .ok (.putfield 167, 3) := by decide +kernel
theorem dX10_round_5 : decode cX10_round 5 = .ok (.aload_n 0, 1) := by decide +kernel
theorem dX10_round_6 : decode cX10_round 6 = .ok (.iload_n 1, 1) := by decide +kernel
theorem dX10_round_7 : decode cX10_round 7 = .ok (.invokevirtual 392, 3) := by decide +kernel
theorem dX10_round_10 : decode cX10_round 10 = .ok (.ifCond .ne 9, 3) := by decide +kernel
theorem dX10_round_13 : decode cX10_round 13 = .ok (.aload_n 0, 1) := by decide +kernel
theorem dX10_round_14 : decode cX10_round 14 = .ok (.iconst 1, 1) := by decide +kernel
theorem dX10_round_15 : decode cX10_round 15 = .ok (.invokevirtual 325, 3) := by decide +kernel
theorem dX10_round_18 : decode cX10_round 18 = .ok (.ireturn, 1) := by decide +kernel
theorem dX10_round_19 : decode cX10_round 19 = .ok (.iconst 1, 1) := by decide +kernel
theorem dX10_round_20 : decode cX10_round 20 = .ok (.aload_n 0, 1) := by decide +kernel
theorem dX10_round_21 : decode cX10_round 21 = .ok (.getfield 39, 3) := by decide +kernel
theorem dX10_round_24 : decode cX10_round 24 = .ok (.iconst 0, 1) := by decide +kernel
theorem dX10_round_25 : decode cX10_round 25 = .ok (.iaload, 1) := by decide +kernel
theorem dX10_round_26 : decode cX10_round 26 = .ok (.ishl, 1) := by decide +kernel
theorem dX10_round_27 : decode cX10_round 27 = .ok (.iconst 1, 1) := by decide +kernel
theorem dX10_round_28 : decode cX10_round 28 = .ok (.isub, 1) := by decide +kernel
theorem dX10_round_29 : decode cX10_round 29 = .ok (.istore_n 2, 1) := by decide +kernel
theorem dX10_round_30 : decode cX10_round 30 = .ok (.iconst 1, 1) := by decide +kernel
theorem dX10_round_31 : decode cX10_round 31 = .ok (.istore_n 3, 1) := by decide +kernel
theorem dX10_round_32 : decode cX10_round 32 = .ok (.iload_n 3, 1) := by decide +kernel
theorem dX10_round_33 : decode cX10_round 33 = .ok (.iload_n 2, 1) := by decide +kernel
theorem dX10_round_34 : decode cX10_round 34 = .ok (.if_icmp .gt 160, 3) := by decide +kernel
theorem dX10_round_37 : decode cX10_round 37 = .ok (.iconst 0, 1) := by decide +kernel
theorem dX10_round_38 : decode cX10_round 38 = .ok (.istore 4, 2) := by decide +kernel
theorem dX10_round_40 : decode cX10_round 40 = .ok (.iload 4, 2) := by decide +kernel
theorem dX10_round_42 : decode cX10_round 42 = .ok (.aload_n 0, 1) := by decide +kernel
theorem dX10_round_43 : decode cX10_round 43 = .ok (.getfield 39, 3) := by decide +kernel
theorem dX10_round_46 : decode cX10_round 46 = .ok (.iconst 0, 1) := by decide +kernel
theorem dX10_round_47 : decode cX10_round 47 = .ok (.iaload, 1) := by decide +kernel
theorem dX10_round_48 : decode cX10_round 48 = .ok (.if_icmp .ge 140, 3) := by decide +kernel
theorem dX10_round_51 : decode cX10_round 51 = .ok (.iload_n 3, 1) := by decide +kernel
theorem dX10_round_52 : decode cX10_round 52 = .ok (.iconst 1, 1) := by decide +kernel
theorem dX10_round_53 : decode cX10_round 53 = .ok (.iload 4, 2) := by decide +kernel
theorem dX10_round_55 : decode cX10_round 55 = .ok (.ishl, 1) := by decide +kernel
theorem dX10_round_56 : decode cX10_round 56 = .ok (.if_icmp .ne 18, 3) := by decide +kernel
theorem dX10_round_59 : decode cX10_round 59 = .ok (.aload_n 0, 1) := by decide +kernel
theorem dX10_round_60 : decode cX10_round 60 = .ok (.getfield 98, 3) := by decide +kernel
theorem dX10_round_63 : decode cX10_round 63 = .ok (.bipush 8, 2) := by decide +kernel
theorem dX10_round_65 : decode cX10_round 65 = .ok (.iload_n 1, 1) := by decide +kernel
theorem dX10_round_66 : decode cX10_round 66 = .ok (.imul, 1) := by decide +kernel
theorem dX10_round_67 : decode cX10_round 67 = .ok (.iload 4, 2) := by decide +kernel
theorem dX10_round_69 : decode cX10_round 69 = .ok (.iadd, 1) := by decide +kernel
theorem dX10_round_70 : decode cX10_round 70 = .ok (.iaload, 1) := by decide +kernel
theorem dX10_round_71 : decode cX10_round 71 = .ok (.goto 5, 3) := by decide +kernel
theorem dX10_round_74 : decode cX10_round 74 = .ok (.ldc 203, 2) := by decide +kernel
theorem dX10_round_76 : decode cX10_round 76 = .ok (.istore 5, 2) := by decide +kernel
theorem dX10_round_78 : decode cX10_round 78 = .ok (.iconst 0, 1) := by decide +kernel
theorem dX10_round_79 : decode cX10_round 79 = .ok (.istore 6, 2) := by decide +kernel
theorem dX10_round_81 : decode cX10_round 81 = .ok (.iload 6, 2) := by decide +kernel
theorem dX10_round_83 : decode cX10_round 83 = .ok (.aload_n 0, 1) := by decide +kernel
theorem dX10_round_84 : decode cX10_round 84 = .ok (.getfield 39, 3) := by decide +kernel
theorem dX10_round_87 : decode cX10_round 87 = .ok (.iconst 0, 1) := by decide +kernel
theorem dX10_round_88 : decode cX10_round 88 = .ok (.iaload, 1) := by decide +kernel
theorem dX10_round_89 : decode cX10_round 89 = .ok (.if_icmp .ge 74, 3) := by decide +kernel
theorem dX10_round_92 : decode cX10_round 92 = .ok (.iload_n 3, 1) := by decide +kernel
theorem dX10_round_93 : decode cX10_round 93 = .ok (.iload 4, 2) := by decide +kernel
theorem dX10_round_95 : decode cX10_round 95 = .ok (.invokestatic 298, 3) := by decide +kernel
theorem dX10_round_98 : decode cX10_round 98 = .ok (.ifCond .eq 65, 3) := by decide +kernel
theorem dX10_round_101 : decode cX10_round 101 = .ok (.iload 6, 2) := by decide +kernel
theorem dX10_round_103 : decode cX10_round 103 = .ok (.iload 4, 2) := by decide +kernel
theorem dX10_round_105 : decode cX10_round 105 = .ok (.if_icmp .eq 52, 3) := by decide +kernel
theorem dX10_round_108 : decode cX10_round 108 = .ok (.iload_n 3, 1) := by decide +kernel
theorem dX10_round_109 : decode cX10_round 109 = .ok (.iload 6, 2) := by decide +kernel
theorem dX10_round_111 : decode cX10_round 111 = .ok (.invokestatic 298, 3) := by decide +kernel
theorem dX10_round_114 : decode cX10_round 114 = .ok (.ifCond .eq 43, 3) := by decide +kernel
theorem dX10_round_117 : decode cX10_round 117 = .ok (.iload 5, 2) := by decide +kernel
theorem dX10_round_119 : decode cX10_round 119 = .ok (.aload_n 0, 1) := by decide +kernel
theorem dX10_round_120 : decode cX10_round 120 = .ok (.getfield 122, 3) := by decide +kernel
theorem dX10_round_123 : decode cX10_round 123 = .ok (.bipush 8, 2) := by decide +kernel
theorem dX10_round_125 : decode cX10_round 125 = .ok (.iload_n 3, 1) := by decide +kernel
theorem dX10_round_126 : decode cX10_round 126 = .ok (.iconst 1, 1) := by decide +kernel
theorem dX10_round_127 : decode cX10_round 127 = .ok (.iload 4, 2) := by decide +kernel
theorem dX10_round_129 : decode cX10_round 129 = .ok (.ishl, 1) := by decide +kernel
theorem dX10_round_130 : decode cX10_round 130 = .ok (.iconst (-1), 1) := by decide +kernel
theorem dX10_round_131 : decode cX10_round 131 = .ok (.ixor, 1) := by decide +kernel
theorem dX10_round_132 : decode cX10_round 132 = .ok (.iand, 1) := by decide +kernel
theorem dX10_round_133 : decode cX10_round 133 = .ok (.imul, 1) := by decide +kernel
theorem dX10_round_134 : decode cX10_round 134 = .ok (.iload 6, 2) := by decide +kernel
theorem dX10_round_136 : decode cX10_round 136 = .ok (.iadd, 1) := by decide +kernel
theorem dX10_round_137 : decode cX10_round 137 = .ok (.iaload, 1) := by decide +kernel
theorem dX10_round_138 : decode cX10_round 138 = .ok (.aload_n 0, 1) := by decide +kernel
theorem dX10_round_139 : decode cX10_round 139 = .ok (.getfield 98, 3) := by decide +kernel
theorem dX10_round_142 : decode cX10_round 142 = .ok (.bipush 8, 2) := by decide +kernel
theorem dX10_round_144 : decode cX10_round 144 = .ok (.iload 6, 2) := by decide +kernel
theorem dX10_round_146 : decode cX10_round 146 = .ok (.imul, 1) := by decide +kernel
theorem dX10_round_147 : decode cX10_round 147 = .ok (.iload 4, 2) := by decide +kernel
theorem dX10_round_149 : decode cX10_round 149 = .ok (.iadd, 1) := by decide +kernel
theorem dX10_round_150 : decode cX10_round 150 = .ok (.iaload, 1) := by decide +kernel
theorem dX10_round_151 : decode cX10_round 151 = .ok (.iadd, 1) := by decide +kernel
theorem dX10_round_152 : decode cX10_round 152 = .ok (.invokestatic 204, 3) := by decide +kernel
theorem dX10_round_155 : decode cX10_round 155 = .ok (.istore 5, 2) := by decide +kernel
theorem dX10_round_157 : decode cX10_round 157 = .ok (.iinc 6 1, 3) := by decide +kernel
theorem dX10_round_160 : decode cX10_round 160 = .ok (.goto (-79), 3) := by decide +kernel
theorem dX10_round_163 : decode cX10_round 163 = .ok (.aload_n 0, 1) := by decide +kernel
theorem dX10_round_164 : decode cX10_round 164 = .ok (.getfield 122, 3) := by decide +kernel
theorem dX10_round_167 : decode cX10_round 167 = .ok (.bipush 8, 2) := by decide +kernel
theorem dX10_round_169 : decode cX10_round 169 = .ok (.iload_n 3, 1) := by decide +kernel
theorem dX10_round_170 : decode cX10_round 170 = .ok (.imul, 1) := by decide +kernel
theorem dX10_round_171 : decode cX10_round 171 = .ok (.iload 4, 2) := by decide +kernel
theorem dX10_round_173 : decode cX10_round 173 = .ok (.iadd, 1) := by decide +kernel
theorem dX10_round_174 : decode cX10_round 174 = .ok (.ldc 203, 2) := by decide +kernel
theorem dX10_round_176 : decode cX10_round 176 = .ok (.iload 5, 2) := by decide +kernel
theorem dX10_round_178 : decode cX10_round 178 = .ok (.invokestatic 204, 3) := by decide +kernel
theorem dX10_round_181 : decode cX10_round 181 = .ok (.iastore, 1) := by decide +kernel
theorem dX10_round_182 : decode cX10_round 182 = .ok (.iinc 4 1, 3) := by decide +kernel
theorem dX10_round_185 : decode cX10_round 185 = .ok (.goto (-145), 3) := by decide +kernel
theorem dX10_round_188 : decode cX10_round 188 = .ok (.iinc 3 1, 3) := by decide +kernel
theorem dX10_round_191 : decode cX10_round 191 = .ok (.goto (-159), 3) := by decide +kernel
theorem dX10_round_194 : decode cX10_round 194 = .ok (.ldc 203, 2) := by decide +kernel
theorem dX10_round_196 : decode cX10_round 196 = .ok (.istore_n 3, 1) := by decide +kernel
theorem dX10_round_197 : decode cX10_round 197 = .ok (.iconst 0, 1) := by decide +kernel
theorem dX10_round_198 : decode cX10_round 198 = .ok (.istore 4, 2) := by decide +kernel
theorem dX10_round_200 : decode cX10_round 200 = .ok (.iload 4, 2) := by decide +kernel
theorem dX10_round_202 : decode cX10_round 202 = .ok (.aload_n 0, 1) := by decide +kernel
theorem dX10_round_203 : decode cX10_round 203 = .ok (.getfield 39, 3) := by decide +kernel
theorem dX10_round_206 : decode cX10_round 206 = .ok (.iconst 0, 1) := by decide +kernel
theorem dX10_round_207 : decode cX10_round 207 = .ok (.iaload, 1) := by decide +kernel
theorem dX10_round_208 : decode cX10_round 208 = .ok (.if_icmp .ge 39, 3) := by decide +kernel
theorem dX10_round_211 : decode cX10_round 211 = .ok (.iload_n 3, 1) := by decide +kernel
theorem dX10_round_212 : decode cX10_round 212 = .ok (.aload_n 0, 1) := by decide +kernel
theorem dX10_round_213 : decode cX10_round 213 = .ok (.getfield 122, 3) := by decide +kernel
theorem dX10_round_216 : decode cX10_round 216 = .ok (.bipush 8, 2) := by decide +kernel
theorem dX10_round_218 : decode cX10_round 218 = .ok (.iload_n 2, 1) := by decide +kernel
theorem dX10_round_219 : decode cX10_round 219 = .ok (.imul, 1) := by decide +kernel
theorem dX10_round_220 : decode cX10_round 220 = .ok (.iload 4, 2) := by decide +kernel
theorem dX10_round_222 : decode cX10_round 222 = .ok (.iadd, 1) := by decide +kernel
theorem dX10_round_223 : decode cX10_round 223 = .ok (.iaload, 1) := by decide +kernel
theorem dX10_round_224 : decode cX10_round 224 = .ok (.aload_n 0, 1) := by decide +kernel
theorem dX10_round_225 : decode cX10_round 225 = .ok (.getfield 98, 3) := by decide +kernel
theorem dX10_round_228 : decode cX10_round 228 = .ok (.bipush 8, 2) := by decide +kernel
theorem dX10_round_230 : decode cX10_round 230 = .ok (.iload 4, 2) := by decide +kernel
theorem dX10_round_232 : decode cX10_round 232 = .ok (.imul, 1) := by decide +kernel
theorem dX10_round_233 : decode cX10_round 233 = .ok (.iload_n 1, 1) := by decide +kernel
theorem dX10_round_234 : decode cX10_round 234 = .ok (.iadd, 1) := by decide +kernel
theorem dX10_round_235 : decode cX10_round 235 = .ok (.iaload, 1) := by decide +kernel
theorem dX10_round_236 : decode cX10_round 236 = .ok (.iadd, 1) := by decide +kernel
theorem dX10_round_237 : decode cX10_round 237 = .ok (.invokestatic 204, 3) := by decide +kernel
theorem dX10_round_240 : decode cX10_round 240 = .ok (.istore_n 3, 1) := by decide +kernel
theorem dX10_round_241 : decode cX10_round 241 = .ok (.iinc 4 1, 3) := by decide +kernel
theorem dX10_round_244 : decode cX10_round 244 = .ok (.goto (-44), 3) := by decide +kernel
theorem dX10_round_247 : decode cX10_round 247 = .ok (.iload_n 3, 1) := by decide +kernel
theorem dX10_round_248 : decode cX10_round 248 = .ok (.ldc 203, 2) := by decide +kernel
theorem dX10_round_250 : decode cX10_round 250 = .ok (.if_icmp .lt 7, 3) := by decide +kernel
theorem dX10_round_253 : decode cX10_round 253 = .ok (.iconst (-1), 1) := by decide +kernel
theorem dX10_round_254 : decode cX10_round 254 = .ok (.goto 4, 3) := by decide +kernel
theorem dX10_round_257 : decode cX10_round 257 = .ok (.iload_n 3, 1) := by decide +kernel
theorem dX10_round_258 : decode cX10_round 258 = .ok (.ireturn, 1) := by decide +kernel
theorem dX10_wedding_0 : decode cX10_wedding 0 = .ok (.aload_n 0, 1) := by decide +kernel
theorem dX10_wedding_1 : decode cX10_wedding 1 = .ok (.iconst 0, 1) := by decide +kernel
theorem dX10_wedding_2 : decode cX10_wedding 2 = .ok (.putfield 167, 3) := by decide +kernel
theorem dX10_wedding_5 : decode cX10_wedding 5 = .ok (.iload_n 1, 1) := by decide +kernel
theorem dX10_wedding_6 : decode cX10_wedding 6 = .ok (.ifCond .lt 8, 3) := by decide +kernel
theorem dX10_wedding_9 : decode cX10_wedding 9 = .ok (.iload_n 1, 1) := by decide +kernel
theorem dX10_wedding_10 : decode cX10_wedding 10 = .ok (.iconst 1, 1) := by decide +kernel
theorem dX10_wedding_11 : decode cX10_wedding 11 = .ok (.if_icmp .le 9, 3) := by decide +kernel
theorem dX10_wedding_14 : decode cX10_wedding 14 = .ok (.aload_n 0, 1) := by decide +kernel
theorem dX10_wedding_15 : decode cX10_wedding 15 = .ok (.iconst 1, 1) := by decide +kernel
theorem dX10_wedding_16 : decode cX10_wedding 16 = .ok (.invokevirtual 325, 3) := by decide +kernel
theorem dX10_wedding_19 : decode cX10_wedding 19 = .ok (.ireturn, 1) := by decide +kernel
theorem dX10_wedding_20 : decode cX10_wedding 20 = .ok (.iconst (-1), 1) := by decide +kernel
theorem dX10_wedding_21 : decode cX10_wedding 21 = .ok (.istore_n 2, 1) := by decide +kernel
theorem dX10_wedding_22 : decode cX10_wedding 22 = .ok (.ldc 203, 2) := by decide +kernel
theorem dX10_wedding_24 : decode cX10_wedding 24 = .ok (.istore_n 3, 1) := by decide +kernel
theorem dX10_wedding_25 : decode cX10_wedding 25 = .ok (.iconst 0, 1) := by decide +kernel
theorem dX10_wedding_26 : decode cX10_wedding 26 = .ok (.istore 4, 2) := by decide +kernel
theorem dX10_wedding_28 : decode cX10_wedding 28 = .ok (.iload 4, 2) := by decide +kernel
theorem dX10_wedding_30 : decode cX10_wedding 30 = .ok (.aload_n 0, 1) := by decide +kernel
theorem dX10_wedding_31 : decode cX10_wedding 31 = .ok (.getfield 39, 3) := by decide +kernel
theorem dX10_wedding_34 : decode cX10_wedding 34 = .ok (.iconst 0, 1) := by decide +kernel
theorem dX10_wedding_35 : decode cX10_wedding 35 = .ok (.iaload, 1) := by decide +kernel
theorem dX10_wedding_36 : decode cX10_wedding 36 = .ok (.if_icmp .ge 69, 3) := by decide +kernel
theorem dX10_wedding_39 : decode cX10_wedding 39 = .ok (.iconst 0, 1) := by decide +kernel
theorem dX10_wedding_40 : decode cX10_wedding 40 = .ok (.istore 5, 2) := by decide +kernel
theorem dX10_wedding_42 : decode cX10_wedding 42 = .ok (.iconst 0, 1) := by decide +kernel
theorem dX10_wedding_43 : decode cX10_wedding 43 = .ok (.istore 6, 2) := by decide +kernel
theorem dX10_wedding_45 : decode cX10_wedding 45 = .ok (.iload 6, 2) := by decide +kernel
theorem dX10_wedding_47 : decode cX10_wedding 47 = .ok (.aload_n 0, 1) := by decide +kernel
theorem dX10_wedding_48 : decode cX10_wedding 48 = .ok (.getfield 39, 3) := by decide +kernel
theorem dX10_wedding_51 : decode cX10_wedding 51 = .ok (.iconst 2, 1) := by decide +kernel
theorem dX10_wedding_52 : decode cX10_wedding 52 = .ok (.iaload, 1) := by decide +kernel
theorem dX10_wedding_53 : decode cX10_wedding 53 = .ok (.if_icmp .ge 31, 3) := by decide +kernel
theorem dX10_wedding_56 : decode cX10_wedding 56 = .ok (.iload 5, 2) := by decide +kernel
theorem dX10_wedding_58 : decode cX10_wedding 58 = .ok (.aload_n 0, 1) := by decide +kernel
theorem dX10_wedding_59 : decode cX10_wedding 59 = .ok (.getfield 98, 3) := by decide +kernel
theorem dX10_wedding_62 : decode cX10_wedding 62 = .ok (.bipush 8, 2) := by decide +kernel
theorem dX10_wedding_64 : decode cX10_wedding 64 = .ok (.aload_n 0, 1) := by decide +kernel
theorem dX10_wedding_65 : decode cX10_wedding 65 = .ok (.iload 6, 2) := by decide +kernel
theorem dX10_wedding_67 : decode cX10_wedding 67 = .ok (.invokevirtual 359, 3) := by decide +kernel
theorem dX10_wedding_70 : decode cX10_wedding 70 = .ok (.imul, 1) := by decide +kernel
theorem dX10_wedding_71 : decode cX10_wedding 71 = .ok (.iload 4, 2) := by decide +kernel
theorem dX10_wedding_73 : decode cX10_wedding 73 = .ok (.iadd, 1) := by decide +kernel
theorem dX10_wedding_74 : decode cX10_wedding 74 = .ok (.iaload, 1) := by decide +kernel
theorem dX10_wedding_75 : decode cX10_wedding 75 = .ok (.iadd, 1) := by decide +kernel
theorem dX10_wedding_76 : decode cX10_wedding 76 = .ok (.istore 5, 2) := by decide +kernel
theorem dX10_wedding_78 : decode cX10_wedding 78 = .ok (.iinc 6 1, 3) := by decide +kernel
theorem dX10_wedding_81 : decode cX10_wedding 81 = .ok (.goto (-36), 3) := by decide +kernel
theorem dX10_wedding_84 : decode cX10_wedding 84 = .ok (.iload 5, 2) := by decide +kernel
theorem dX10_wedding_86 : decode cX10_wedding 86 = .ok (.iload_n 3, 1) := by decide +kernel
theorem dX10_wedding_87 : decode cX10_wedding 87 = .ok (.if_icmp .lt 6, 3) := by decide +kernel
theorem dX10_wedding_90 : decode cX10_wedding 90 = .ok (.goto 9, 3) := by decide +kernel
theorem dX10_wedding_93 : decode cX10_wedding 93 = .ok (.iload 4, 2) := by decide +kernel
theorem dX10_wedding_95 : decode cX10_wedding 95 = .ok (.istore_n 2, 1) := by decide +kernel
theorem dX10_wedding_96 : decode cX10_wedding 96 = .ok (.iload 5, 2) := by decide +kernel
theorem dX10_wedding_98 : decode cX10_wedding 98 = .ok (.istore_n 3, 1) := by decide +kernel
theorem dX10_wedding_99 : decode cX10_wedding 99 = .ok (.iinc 4 1, 3) := by decide +kernel
theorem dX10_wedding_102 : decode cX10_wedding 102 = .ok (.goto (-74), 3) := by decide +kernel
theorem dX10_wedding_105 : decode cX10_wedding 105 = .ok (.iload_n 1, 1) := by decide +kernel
theorem dX10_wedding_106 : decode cX10_wedding 106 = .ok (.ifCond .eq 8, 3) := by decide +kernel
theorem dX10_wedding_109 : decode cX10_wedding 109 = .ok (.iload_n 2, 1) := by decide +kernel
theorem dX10_wedding_110 : decode cX10_wedding 110 = .ok (.iconst (-1), 1) := by decide +kernel
theorem dX10_wedding_111 : decode cX10_wedding 111 = .ok (.if_icmp .ne 7, 3) := by decide +kernel
theorem dX10_wedding_114 : decode cX10_wedding 114 = .ok (.iload_n 2, 1) := by decide +kernel
theorem dX10_wedding_115 : decode cX10_wedding 115 = .ok (.goto 4, 3) := by decide +kernel
theorem dX10_wedding_118 : decode cX10_wedding 118 = .ok (.iload_n 3, 1) := by decide +kernel
theorem dX10_wedding_119 : decode cX10_wedding 119 = .ok (.ireturn, 1) := by decide +kernel
theorem dX10_shared_0 : decode cX10_shared 0 = .ok (.iload_n 1, 1) := by decide +kernel
theorem dX10_shared_1 : decode cX10_shared 1 = .ok (.aload_n 0, 1) := by decide +kernel
theorem dX10_shared_2 : decode cX10_shared 2 = .ok (.getfield 39, 3) := by decide +kernel
theorem dX10_shared_5 : decode cX10_shared 5 = .ok (.iconst 0, 1) := by decide +kernel
theorem dX10_shared_6 : decode cX10_shared 6 = .ok (.iaload, 1) := by decide +kernel
theorem dX10_shared_7 : decode cX10_shared 7 = .ok (.if_icmp .ne 34, 3) := by decide +kernel
theorem dX10_shared_10 : decode cX10_shared 10 = .ok (.iconst 0, 1) := by decide +kernel
theorem dX10_shared_11 : decode cX10_shared 11 = .ok (.istore_n 3, 1) := by decide +kernel
theorem dX10_shared_12 : decode cX10_shared 12 = .ok (.iconst 0, 1) := by decide +kernel
theorem dX10_shared_13 : decode cX10_shared 13 = .ok (.istore 4, 2) := by decide +kernel
theorem dX10_shared_15 : decode cX10_shared 15 = .ok (.iload 4, 2) := by decide +kernel
theorem dX10_shared_17 : decode cX10_shared 17 = .ok (.iload_n 2, 1) := by decide +kernel
theorem dX10_shared_18 : decode cX10_shared 18 = .ok (.if_icmp .ge 21, 3) := by decide +kernel
theorem dX10_shared_21 : decode cX10_shared 21 = .ok (.iload_n 3, 1) := by decide +kernel
theorem dX10_shared_22 : decode cX10_shared 22 = .ok (.aload_n 0, 1) := by decide +kernel
theorem dX10_shared_23 : decode cX10_shared 23 = .ok (.getfield 125, 3) := by decide +kernel
theorem dX10_shared_26 : decode cX10_shared 26 = .ok (.iload 4, 2) := by decide +kernel
theorem dX10_shared_28 : decode cX10_shared 28 = .ok (.iaload, 1) := by decide +kernel
theorem dX10_shared_29 : decode cX10_shared 29 = .ok (.invokestatic 369, 3) := by decide +kernel
theorem dX10_shared_32 : decode cX10_shared 32 = .ok (.istore_n 3, 1) := by decide +kernel
theorem dX10_shared_33 : decode cX10_shared 33 = .ok (.iinc 4 1, 3) := by decide +kernel
theorem dX10_shared_36 : decode cX10_shared 36 = .ok (.goto (-21), 3) := by decide +kernel
theorem dX10_shared_39 : decode cX10_shared 39 = .ok (.iload_n 3, 1) := by decide +kernel
theorem dX10_shared_40 : decode cX10_shared 40 = .ok (.ireturn, 1) := by decide +kernel
theorem dX10_shared_41 : decode cX10_shared 41 = .ok (.ldc 203, 2) := by decide +kernel
theorem dX10_shared_43 : decode cX10_shared 43 = .ok (.istore_n 3, 1) := by decide +kernel
theorem dX10_shared_44 : decode cX10_shared 44 = .ok (.iconst 0, 1) := by decide +kernel
theorem dX10_shared_45 : decode cX10_shared 45 = .ok (.istore 4, 2) := by decide +kernel
theorem dX10_shared_47 : decode cX10_shared 47 = .ok (.iconst 0, 1) := by decide +kernel
theorem dX10_shared_48 : decode cX10_shared 48 = .ok (.istore 5, 2) := by decide +kernel
theorem dX10_shared_50 : decode cX10_shared 50 = .ok (.iload 5, 2) := by decide +kernel
theorem dX10_shared_52 : decode cX10_shared 52 = .ok (.iload_n 2, 1) := by decide +kernel
theorem dX10_shared_53 : decode cX10_shared 53 = .ok (.if_icmp .ge 76, 3) := by decide +kernel
theorem dX10_shared_56 : decode cX10_shared 56 = .ok (.iload 4, 2) := by decide +kernel
theorem dX10_shared_58 : decode cX10_shared 58 = .ok (.ifCond .ne 71, 3) := by decide +kernel
theorem dX10_shared_61 : decode cX10_shared 61 = .ok (.aload_n 0, 1) := by decide +kernel
theorem dX10_shared_62 : decode cX10_shared 62 = .ok (.getfield 125, 3) := by decide +kernel
theorem dX10_shared_65 : decode cX10_shared 65 = .ok (.iload 5, 2) := by decide +kernel
theorem dX10_shared_67 : decode cX10_shared 67 = .ok (.iaload, 1) := by decide +kernel
theorem dX10_shared_68 : decode cX10_shared 68 = .ok (.ifCond .ne 7, 3) := by decide +kernel
theorem dX10_shared_71 : decode cX10_shared 71 = .ok (.iconst 1, 1) := by decide +kernel
theorem dX10_shared_72 : decode cX10_shared 72 = .ok (.goto 4, 3) := by decide +kernel
theorem dX10_shared_75 : decode cX10_shared 75 = .ok (.iconst 0, 1) := by decide +kernel
theorem dX10_shared_76 : decode cX10_shared 76 = .ok (.istore 4, 2) := by decide +kernel
theorem dX10_shared_78 : decode cX10_shared 78 = .ok (.aload_n 0, 1) := by decide +kernel
theorem dX10_shared_79 : decode cX10_shared 79 = .ok (.getfield 125, 3) := by decide +kernel
theorem dX10_shared_82 : decode cX10_shared 82 = .ok (.iload 5, 2) := by decide +kernel
theorem dX10_shared_84 : decode cX10_shared 84 = .ok (.dup2, 1) := by decide +kernel
theorem dX10_shared_85 : decode cX10_shared 85 = .ok (.iaload, 1) := by decide +kernel
theorem dX10_shared_86 : decode cX10_shared 86 = .ok (.aload_n 0, 1) := by decide +kernel
theorem dX10_shared_87 : decode cX10_shared 87 = .ok (.getfield 43, 3) := by decide +kernel
theorem dX10_shared_90 : decode cX10_shared 90 = .ok (.iload_n 1, 1) := by decide +kernel
theorem dX10_shared_91 : decode cX10_shared 91 = .ok (.iaload, 1) := by decide +kernel
theorem dX10_shared_92 : decode cX10_shared 92 = .ok (.iadd, 1) := by decide +kernel
theorem dX10_shared_93 : decode cX10_shared 93 = .ok (.iastore, 1) := by decide +kernel
theorem dX10_shared_94 : decode cX10_shared 94 = .ok (.iload_n 3, 1) := by decide +kernel
theorem dX10_shared_95 : decode cX10_shared 95 = .ok (.aload_n 0, 1) := by decide +kernel
theorem dX10_shared_96 : decode cX10_shared 96 = .ok (.iload_n 1, 1) := by decide +kernel
theorem dX10_shared_97 : decode cX10_shared 97 = .ok (.iconst 1, 1) := by decide +kernel
theorem dX10_shared_98 : decode cX10_shared 98 = .ok (.iadd, 1) := by decide +kernel
theorem dX10_shared_99 : decode cX10_shared 99 = .ok (.iload_n 2, 1) := by decide +kernel
theorem dX10_shared_100 : decode cX10_shared 100 = .ok (.invokevirtual 444, 3) := by decide +kernel
theorem dX10_shared_103 : decode cX10_shared 103 = .ok (.invokestatic 204, 3) := by decide +kernel
theorem dX10_shared_106 : decode cX10_shared 106 = .ok (.istore_n 3, 1) := by decide +kernel
theorem dX10_shared_107 : decode cX10_shared 107 = .ok (.aload_n 0, 1) := by decide +kernel
theorem dX10_shared_108 : decode cX10_shared 108 = .ok (.getfield 125, 3) := by decide +kernel
theorem dX10_shared_111 : decode cX10_shared 111 = .ok (.iload 5, 2) := by decide +kernel
theorem dX10_shared_113 : decode cX10_shared 113 = .ok (.dup2, 1) := by decide +kernel
theorem dX10_shared_114 : decode cX10_shared 114 = .ok (.iaload, 1) := by decide +kernel
theorem dX10_shared_115 : decode cX10_shared 115 = .ok (.aload_n 0, 1) := by decide +kernel
theorem dX10_shared_116 : decode cX10_shared 116 = .ok (.getfield 43, 3) := by decide +kernel
theorem dX10_shared_119 : decode cX10_shared 119 = .ok (.iload_n 1, 1) := by decide +kernel
theorem dX10_shared_120 : decode cX10_shared 120 = .ok (.iaload, 1) := by decide +kernel
theorem dX10_shared_121 : decode cX10_shared 121 = .ok (.isub, 1) := by decide +kernel
theorem dX10_shared_122 : decode cX10_shared 122 = .ok (.iastore, 1) := by decide +kernel
theorem dX10_shared_123 : decode cX10_shared 123 = .ok (.iinc 5 1, 3) := by decide +kernel
theorem dX10_shared_126 : decode cX10_shared 126 = .ok (.goto (-76), 3) := by decide +kernel
theorem dX10_shared_129 : decode cX10_shared 129 = .ok (.iload_n 3, 1) := by decide +kernel
theorem dX10_shared_130 : decode cX10_shared 130 = .ok (.ireturn, 1) := by decide +kernel
theorem dX10_heirs_0 : decode cX10_heirs 0 = .ok (.aload_n 0, 1) := by decide +kernel
theorem dX10_heirs_1 : decode cX10_heirs 1 = .ok (.iconst 0, 1) := by decide +kernel
theorem dX10_heirs_2 : decode cX10_heirs 2 = .ok (.putfield 167, 3) := by decide +kernel
theorem dX10_heirs_5 : decode cX10_heirs 5 = .ok (.iload_n 1, 1) := by decide +kernel
theorem dX10_heirs_6 : decode cX10_heirs 6 = .ok (.i2l, 1) := by decide +kernel
theorem dX10_heirs_7 : decode cX10_heirs 7 = .ok (.lconst 1, 1) := by decide +kernel
theorem dX10_heirs_8 : decode cX10_heirs 8 = .ok (.ldc2_w 447, 3) := by decide +kernel
theorem dX10_heirs_11 : decode cX10_heirs 11 = .ok (.invokestatic 170, 3) := by decide +kernel
theorem dX10_heirs_14 : decode cX10_heirs 14 = .ok (.ifCond .ne 9, 3) := by decide +kernel
theorem dX10_heirs_17 : decode cX10_heirs 17 = .ok (.aload_n 0, 1) := by decide +kernel
theorem dX10_heirs_18 : decode cX10_heirs 18 = .ok (.iconst 1, 1) := by decide +kernel
theorem dX10_heirs_19 : decode cX10_heirs 19 = .ok (.invokevirtual 325, 3) := by decide +kernel
theorem dX10_heirs_22 : decode cX10_heirs 22 = .ok (.ireturn, 1) := by decide +kernel
theorem dX10_heirs_23 : decode cX10_heirs 23 = .ok (.iconst 0, 1) := by decide +kernel
theorem dX10_heirs_24 : decode cX10_heirs 24 = .ok (.istore_n 2, 1) := by decide +kernel
theorem dX10_heirs_25 : decode cX10_heirs 25 = .ok (.iload_n 2, 1) := by decide +kernel
theorem dX10_heirs_26 : decode cX10_heirs 26 = .ok (.iconst 4, 1) := by decide +kernel
theorem dX10_heirs_27 : decode cX10_heirs 27 = .ok (.if_icmp .ge 16, 3) := by decide +kernel
theorem dX10_heirs_30 : decode cX10_heirs 30 = .ok (.aload_n 0, 1) := by decide +kernel
theorem dX10_heirs_31 : decode cX10_heirs 31 = .ok (.getfield 125, 3) := by decide +kernel
theorem dX10_heirs_34 : decode cX10_heirs 34 = .ok (.iload_n 2, 1) := by decide +kernel
theorem dX10_heirs_35 : decode cX10_heirs 35 = .ok (.iconst 0, 1) := by decide +kernel
theorem dX10_heirs_36 : decode cX10_heirs 36 = .ok (.iastore, 1) := by decide +kernel
theorem dX10_heirs_37 : decode cX10_heirs 37 = .ok (.iinc 2 1, 3) := by decide +kernel
theorem dX10_heirs_40 : decode cX10_heirs 40 = .ok (.goto (-15), 3) := by decide +kernel
theorem dX10_heirs_43 : decode cX10_heirs 43 = .ok (.aload_n 0, 1) := by decide +kernel
theorem dX10_heirs_44 : decode cX10_heirs 44 = .ok (.iconst 0, 1) := by decide +kernel
theorem dX10_heirs_45 : decode cX10_heirs 45 = .ok (.iload_n 1, 1) := by decide +kernel
theorem dX10_heirs_46 : decode cX10_heirs 46 = .ok (.invokevirtual 444, 3) := by decide +kernel
theorem dX10_heirs_49 : decode cX10_heirs 49 = .ok (.ireturn, 1) := by decide +kernel
theorem dX10_hear_0 : decode cX10_hear 0 = .ok (.aload_n 0, 1) := by decide +kernel
theorem dX10_hear_1 : decode cX10_hear 1 = .ok (.iconst 0, 1) := by decide +kernel
theorem dX10_hear_2 : decode cX10_hear 2 = .ok (.putfield 167, 3) := by decide +kernel
theorem dX10_hear_5 : decode cX10_hear 5 = .ok (.aload_n 0, 1) := by decide +kernel
theorem dX10_hear_6 : decode cX10_hear 6 = .ok (.iload_n 1, 1) := by decide +kernel
theorem dX10_hear_7 : decode cX10_hear 7 = .ok (.invokevirtual 392, 3) := by decide +kernel
theorem dX10_hear_10 : decode cX10_hear 10 = .ok (.ifCond .eq 16, 3) := by decide +kernel
theorem dX10_hear_13 : decode cX10_hear 13 = .ok (.iload_n 3, 1) := by decide +kernel
theorem dX10_hear_14 : decode cX10_hear 14 = .ok (.iconst (-1), 1) := by decide +kernel
theorem dX10_hear_15 : decode cX10_hear 15 = .ok (.if_icmp .eq 17, 3) := by decide +kernel
theorem dX10_hear_18 : decode cX10_hear 18 = .ok (.aload_n 0, 1) := by decide +kernel
theorem dX10_hear_19 : decode cX10_hear 19 = .ok (.iload_n 3, 1) := by decide +kernel
theorem dX10_hear_20 : decode cX10_hear 20 = .ok (.invokevirtual 392, 3) := by decide +kernel
theorem dX10_hear_23 : decode cX10_hear 23 = .ok (.ifCond .ne 9, 3) := by decide +kernel
theorem dX10_hear_26 : decode cX10_hear 26 = .ok (.aload_n 0, 1) := by decide +kernel
theorem dX10_hear_27 : decode cX10_hear 27 = .ok (.iconst 1, 1) := by decide +kernel
theorem dX10_hear_28 : decode cX10_hear 28 = .ok (.invokevirtual 325, 3) := by decide +kernel
theorem dX10_hear_31 : decode cX10_hear 31 = .ok (.ireturn, 1) := by decide +kernel
theorem dX10_hear_32 : decode cX10_hear 32 = .ok (.aload_n 0, 1) := by decide +kernel
theorem dX10_hear_33 : decode cX10_hear 33 = .ok (.getfield 349, 3) := by decide +kernel
theorem dX10_hear_36 : decode cX10_hear 36 = .ok (.bipush 8, 2) := by decide +kernel
theorem dX10_hear_38 : decode cX10_hear 38 = .ok (.if_icmp .eq 15, 3) := by decide +kernel
theorem dX10_hear_41 : decode cX10_hear 41 = .ok (.iload_n 2, 1) := by decide +kernel
theorem dX10_hear_42 : decode cX10_hear 42 = .ok (.i2l, 1) := by decide +kernel
theorem dX10_hear_43 : decode cX10_hear 43 = .ok (.lconst 1, 1) := by decide +kernel
theorem dX10_hear_44 : decode cX10_hear 44 = .ok (.ldc2_w 410, 3) := by decide +kernel
theorem dX10_hear_47 : decode cX10_hear 47 = .ok (.invokestatic 170, 3) := by decide +kernel
theorem dX10_hear_50 : decode cX10_hear 50 = .ok (.ifCond .ne 9, 3) := by decide +kernel
theorem dX10_hear_53 : decode cX10_hear 53 = .ok (.aload_n 0, 1) := by decide +kernel
theorem dX10_hear_54 : decode cX10_hear 54 = .ok (.iconst 2, 1) := by decide +kernel
theorem dX10_hear_55 : decode cX10_hear 55 = .ok (.invokevirtual 412, 3) := by decide +kernel
theorem dX10_hear_58 : decode cX10_hear 58 = .ok (.ireturn, 1) := by decide +kernel
theorem dX10_hear_59 : decode cX10_hear 59 = .ok (.aload_n 0, 1) := by decide +kernel
theorem dX10_hear_60 : decode cX10_hear 60 = .ok (.getfield 128, 3) := by decide +kernel
theorem dX10_hear_63 : decode cX10_hear 63 = .ok (.aload_n 0, 1) := by decide +kernel
theorem dX10_hear_64 : decode cX10_hear 64 = .ok (.getfield 349, 3) := by decide +kernel
theorem dX10_hear_67 : decode cX10_hear 67 = .ok (.iload_n 1, 1) := by decide +kernel
theorem dX10_hear_68 : decode cX10_hear 68 = .ok (.iastore, 1) := by decide +kernel
theorem dX10_hear_69 : decode cX10_hear 69 = .ok (.aload_n 0, 1) := by decide +kernel
theorem dX10_hear_70 : decode cX10_hear 70 = .ok (.getfield 131, 3) := by decide +kernel
theorem dX10_hear_73 : decode cX10_hear 73 = .ok (.aload_n 0, 1) := by decide +kernel
theorem dX10_hear_74 : decode cX10_hear 74 = .ok (.getfield 349, 3) := by decide +kernel
theorem dX10_hear_77 : decode cX10_hear 77 = .ok (.iload_n 2, 1) := by decide +kernel
theorem dX10_hear_78 : decode cX10_hear 78 = .ok (.iastore, 1) := by decide +kernel
theorem dX10_hear_79 : decode cX10_hear 79 = .ok (.aload_n 0, 1) := by decide +kernel
theorem dX10_hear_80 : decode cX10_hear 80 = .ok (.getfield 134, 3) := by decide +kernel
theorem dX10_hear_83 : decode cX10_hear 83 = .ok (.aload_n 0, 1) := by decide +kernel
theorem dX10_hear_84 : decode cX10_hear 84 = .ok (.getfield 349, 3) := by decide +kernel
theorem dX10_hear_87 : decode cX10_hear 87 = .ok (.iload_n 3, 1) := by decide +kernel
theorem dX10_hear_88 : decode cX10_hear 88 = .ok (.iastore, 1) := by decide +kernel
theorem dX10_hear_89 : decode cX10_hear 89 = .ok (.aload_n 0, 1) := by decide +kernel
theorem dX10_hear_90 : decode cX10_hear 90 = .ok (.dup, 1) := by decide +kernel
theorem dX10_hear_91 : decode cX10_hear 91 = .ok (.getfield 349, 3) := by decide +kernel
theorem dX10_hear_94 : decode cX10_hear 94 = .ok (.iconst 1, 1) := by decide +kernel
theorem dX10_hear_95 : decode cX10_hear 95 = .ok (.iadd, 1) := by decide +kernel
theorem dX10_hear_96 : decode cX10_hear 96 = .ok (.putfield 349, 3) := by decide +kernel
theorem dX10_hear_99 : decode cX10_hear 99 = .ok (.aload_n 0, 1) := by decide +kernel
theorem dX10_hear_100 : decode cX10_hear 100 = .ok (.getfield 349, 3) := by decide +kernel
theorem dX10_hear_103 : decode cX10_hear 103 = .ok (.ireturn, 1) := by decide +kernel
theorem dX10_hourTold_0 : decode cX10_hourTold 0 = .ok (.iconst 0, 1) := by decide +kernel
theorem dX10_hourTold_1 : decode cX10_hourTold 1 = .ok (.istore_n 1, 1) := by decide +kernel
theorem dX10_hourTold_2 : decode cX10_hourTold 2 = .ok (.iload_n 1, 1) := by decide +kernel
theorem dX10_hourTold_3 : decode cX10_hourTold 3 = .ok (.bipush 8, 2) := by decide +kernel
theorem dX10_hourTold_5 : decode cX10_hourTold 5 = .ok (.if_icmp .ge 16, 3) := by decide +kernel
theorem dX10_hourTold_8 : decode cX10_hourTold 8 = .ok (.aload_n 0, 1) := by decide +kernel
theorem dX10_hourTold_9 : decode cX10_hourTold 9 = .ok (.getfield 140, 3) := by decide +kernel
theorem dX10_hourTold_12 : decode cX10_hourTold 12 = .ok (.iload_n 1, 1) := by decide +kernel
theorem dX10_hourTold_13 : decode cX10_hourTold 13 = .ok (.iconst 0, 1) := by decide +kernel
theorem dX10_hourTold_14 : decode cX10_hourTold 14 = .ok (.iastore, 1) := by decide +kernel
theorem dX10_hourTold_15 : decode cX10_hourTold 15 = .ok (.iinc 1 1, 3) := by decide +kernel
theorem dX10_hourTold_18 : decode cX10_hourTold 18 = .ok (.goto (-16), 3) := by decide +kernel
theorem dX10_hourTold_21 : decode cX10_hourTold 21 = .ok (.aload_n 0, 1) := by decide +kernel
theorem dX10_hourTold_22 : decode cX10_hourTold 22 = .ok (.invokevirtual 389, 3) := by decide +kernel
theorem dX10_hourTold_25 : decode cX10_hourTold 25 = .ok (.aload_n 0, 1) := by decide +kernel
theorem dX10_hourTold_26 : decode cX10_hourTold 26 = .ok (.dup, 1) := by decide +kernel
theorem dX10_hourTold_27 : decode cX10_hourTold 27 = .ok (.getfield 338, 3) := by decide +kernel
theorem dX10_hourTold_30 : decode cX10_hourTold 30 = .ok (.iconst 1, 1) := by decide +kernel
theorem dX10_hourTold_31 : decode cX10_hourTold 31 = .ok (.isub, 1) := by decide +kernel
theorem dX10_hourTold_32 : decode cX10_hourTold 32 = .ok (.putfield 338, 3) := by decide +kernel
theorem dX10_hourTold_35 : decode cX10_hourTold 35 = .ok (.iconst 0, 1) := by decide +kernel
theorem dX10_hourTold_36 : decode cX10_hourTold 36 = .ok (.istore_n 1, 1) := by decide +kernel
theorem dX10_hourTold_37 : decode cX10_hourTold 37 = .ok (.iload_n 1, 1) := by decide +kernel
theorem dX10_hourTold_38 : decode cX10_hourTold 38 = .ok (.aload_n 0, 1) := by decide +kernel
theorem dX10_hourTold_39 : decode cX10_hourTold 39 = .ok (.getfield 39, 3) := by decide +kernel
theorem dX10_hourTold_42 : decode cX10_hourTold 42 = .ok (.iconst 2, 1) := by decide +kernel
theorem dX10_hourTold_43 : decode cX10_hourTold 43 = .ok (.iaload, 1) := by decide +kernel
theorem dX10_hourTold_44 : decode cX10_hourTold 44 = .ok (.if_icmp .ge 40, 3) := by decide +kernel
theorem dX10_hourTold_47 : decode cX10_hourTold 47 = .ok (.aload_n 0, 1) := by decide +kernel
theorem dX10_hourTold_48 : decode cX10_hourTold 48 = .ok (.getfield 110, 3) := by decide +kernel
theorem dX10_hourTold_51 : decode cX10_hourTold 51 = .ok (.iload_n 1, 1) := by decide +kernel
theorem dX10_hourTold_52 : decode cX10_hourTold 52 = .ok (.iaload, 1) := by decide +kernel
theorem dX10_hourTold_53 : decode cX10_hourTold 53 = .ok (.iconst (-1), 1) := by decide +kernel
theorem dX10_hourTold_54 : decode cX10_hourTold 54 = .ok (.if_icmp .eq 24, 3) := by decide +kernel
theorem dX10_hourTold_57 : decode cX10_hourTold 57 = .ok (.aload_n 0, 1) := by decide +kernel
theorem dX10_hourTold_58 : decode cX10_hourTold 58 = .ok (.getfield 140, 3) := by decide +kernel
theorem dX10_hourTold_61 : decode cX10_hourTold 61 = .ok (.aload_n 0, 1) := by decide +kernel
theorem dX10_hourTold_62 : decode cX10_hourTold 62 = .ok (.iload_n 1, 1) := by decide +kernel
theorem dX10_hourTold_63 : decode cX10_hourTold 63 = .ok (.invokevirtual 359, 3) := by decide +kernel
theorem dX10_hourTold_66 : decode cX10_hourTold 66 = .ok (.dup2, 1) := by decide +kernel
theorem dX10_hourTold_67 : decode cX10_hourTold 67 = .ok (.iaload, 1) := by decide +kernel
theorem dX10_hourTold_68 : decode cX10_hourTold 68 = .ok (.iconst 1, 1) := by decide +kernel
theorem dX10_hourTold_69 : decode cX10_hourTold 69 = .ok (.aload_n 0, 1) := by decide +kernel
theorem dX10_hourTold_70 : decode cX10_hourTold 70 = .ok (.getfield 110, 3) := by decide +kernel
theorem dX10_hourTold_73 : decode cX10_hourTold 73 = .ok (.iload_n 1, 1) := by decide +kernel
theorem dX10_hourTold_74 : decode cX10_hourTold 74 = .ok (.iaload, 1) := by decide +kernel
theorem dX10_hourTold_75 : decode cX10_hourTold 75 = .ok (.ishl, 1) := by decide +kernel
theorem dX10_hourTold_76 : decode cX10_hourTold 76 = .ok (.ior, 1) := by decide +kernel
theorem dX10_hourTold_77 : decode cX10_hourTold 77 = .ok (.iastore, 1) := by decide +kernel
theorem dX10_hourTold_78 : decode cX10_hourTold 78 = .ok (.iinc 1 1, 3) := by decide +kernel
theorem dX10_hourTold_81 : decode cX10_hourTold 81 = .ok (.goto (-44), 3) := by decide +kernel
theorem dX10_hourTold_84 : decode cX10_hourTold 84 = .ok (.aload_n 0, 1) := by decide +kernel
theorem dX10_hourTold_85 : decode cX10_hourTold 85 = .ok (.dup, 1) := by decide +kernel
theorem dX10_hourTold_86 : decode cX10_hourTold 86 = .ok (.getfield 338, 3) := by decide +kernel
theorem dX10_hourTold_89 : decode cX10_hourTold 89 = .ok (.iconst 1, 1) := by decide +kernel
theorem dX10_hourTold_90 : decode cX10_hourTold 90 = .ok (.iadd, 1) := by decide +kernel
theorem dX10_hourTold_91 : decode cX10_hourTold 91 = .ok (.putfield 338, 3) := by decide +kernel
theorem dX10_hourTold_94 : decode cX10_hourTold 94 = .ok (.return_, 1) := by decide +kernel
theorem dX10_isAsHeard_0 : decode cX10_isAsHeard 0 = .ok (.aload_n 0, 1) := by decide +kernel
theorem dX10_isAsHeard_1 : decode cX10_isAsHeard 1 = .ok (.aload_n 0, 1) := by decide +kernel
theorem dX10_isAsHeard_2 : decode cX10_isAsHeard 2 = .ok (.getfield 137, 3) := by decide +kernel
theorem dX10_isAsHeard_5 : decode cX10_isAsHeard 5 = .ok (.iconst 0, 1) := by decide +kernel
theorem dX10_isAsHeard_6 : decode cX10_isAsHeard 6 = .ok (.invokevirtual 406, 3) := by decide +kernel
theorem dX10_isAsHeard_9 : decode cX10_isAsHeard 9 = .ok (.iconst 1, 1) := by decide +kernel
theorem dX10_isAsHeard_10 : decode cX10_isAsHeard 10 = .ok (.istore_n 1, 1) := by decide +kernel
theorem dX10_isAsHeard_11 : decode cX10_isAsHeard 11 = .ok (.iconst 1, 1) := by decide +kernel
theorem dX10_isAsHeard_12 : decode cX10_isAsHeard 12 = .ok (.istore_n 2, 1) := by decide +kernel
theorem dX10_isAsHeard_13 : decode cX10_isAsHeard 13 = .ok (.iload_n 2, 1) := by decide +kernel
theorem dX10_isAsHeard_14 : decode cX10_isAsHeard 14 = .ok (.bipush 30, 2) := by decide +kernel
theorem dX10_isAsHeard_16 : decode cX10_isAsHeard 16 = .ok (.if_icmp .gt 101, 3) := by decide +kernel
theorem dX10_isAsHeard_19 : decode cX10_isAsHeard 19 = .ok (.iload_n 1, 1) := by decide +kernel
theorem dX10_isAsHeard_20 : decode cX10_isAsHeard 20 = .ok (.ifCond .eq 97, 3) := by decide +kernel
theorem dX10_isAsHeard_23 : decode cX10_isAsHeard 23 = .ok (.aload_n 0, 1) := by decide +kernel
theorem dX10_isAsHeard_24 : decode cX10_isAsHeard 24 = .ok (.invokevirtual 449, 3) := by decide +kernel
theorem dX10_isAsHeard_27 : decode cX10_isAsHeard 27 = .ok (.iconst 0, 1) := by decide +kernel
theorem dX10_isAsHeard_28 : decode cX10_isAsHeard 28 = .ok (.istore_n 3, 1) := by decide +kernel
theorem dX10_isAsHeard_29 : decode cX10_isAsHeard 29 = .ok (.iload_n 3, 1) := by decide +kernel
theorem dX10_isAsHeard_30 : decode cX10_isAsHeard 30 = .ok (.aload_n 0, 1) := by decide +kernel
theorem dX10_isAsHeard_31 : decode cX10_isAsHeard 31 = .ok (.getfield 349, 3) := by decide +kernel
theorem dX10_isAsHeard_34 : decode cX10_isAsHeard 34 = .ok (.if_icmp .ge 77, 3) := by decide +kernel
theorem dX10_isAsHeard_37 : decode cX10_isAsHeard 37 = .ok (.aload_n 0, 1) := by decide +kernel
theorem dX10_isAsHeard_38 : decode cX10_isAsHeard 38 = .ok (.getfield 131, 3) := by decide +kernel
theorem dX10_isAsHeard_41 : decode cX10_isAsHeard 41 = .ok (.iload_n 3, 1) := by decide +kernel
theorem dX10_isAsHeard_42 : decode cX10_isAsHeard 42 = .ok (.iaload, 1) := by decide +kernel
theorem dX10_isAsHeard_43 : decode cX10_isAsHeard 43 = .ok (.iload_n 2, 1) := by decide +kernel
theorem dX10_isAsHeard_44 : decode cX10_isAsHeard 44 = .ok (.if_icmp .eq 6, 3) := by decide +kernel
theorem dX10_isAsHeard_47 : decode cX10_isAsHeard 47 = .ok (.goto 58, 3) := by decide +kernel
theorem dX10_isAsHeard_50 : decode cX10_isAsHeard 50 = .ok (.aload_n 0, 1) := by decide +kernel
theorem dX10_isAsHeard_51 : decode cX10_isAsHeard 51 = .ok (.getfield 140, 3) := by decide +kernel
theorem dX10_isAsHeard_54 : decode cX10_isAsHeard 54 = .ok (.aload_n 0, 1) := by decide +kernel
theorem dX10_isAsHeard_55 : decode cX10_isAsHeard 55 = .ok (.getfield 128, 3) := by decide +kernel
theorem dX10_isAsHeard_58 : decode cX10_isAsHeard 58 = .ok (.iload_n 3, 1) := by decide +kernel
theorem dX10_isAsHeard_59 : decode cX10_isAsHeard 59 = .ok (.iaload, 1) := by decide +kernel
theorem dX10_isAsHeard_60 : decode cX10_isAsHeard 60 = .ok (.iaload, 1) := by decide +kernel
theorem dX10_isAsHeard_61 : decode cX10_isAsHeard 61 = .ok (.istore 4, 2) := by decide +kernel
theorem dX10_isAsHeard_63 : decode cX10_isAsHeard 63 = .ok (.iload_n 1, 1) := by decide +kernel
theorem dX10_isAsHeard_64 : decode cX10_isAsHeard 64 = .ok (.ifCond .eq 39, 3) := by decide +kernel
theorem dX10_isAsHeard_67 : decode cX10_isAsHeard 67 = .ok (.aload_n 0, 1) := by decide +kernel
theorem dX10_isAsHeard_68 : decode cX10_isAsHeard 68 = .ok (.getfield 134, 3) := by decide +kernel
theorem dX10_isAsHeard_71 : decode cX10_isAsHeard 71 = .ok (.iload_n 3, 1) := by decide +kernel
theorem dX10_isAsHeard_72 : decode cX10_isAsHeard 72 = .ok (.iaload, 1) := by decide +kernel
theorem dX10_isAsHeard_73 : decode cX10_isAsHeard 73 = .ok (.iconst (-1), 1) := by decide +kernel
theorem dX10_isAsHeard_74 : decode cX10_isAsHeard 74 = .ok (.if_icmp .ne 11, 3) := by decide +kernel
theorem dX10_isAsHeard_77 : decode cX10_isAsHeard 77 = .ok (.iload 4, 2) := by decide +kernel
theorem dX10_isAsHeard_79 : decode cX10_isAsHeard 79 = .ok (.ifCond .ne 24, 3) := by decide +kernel
theorem dX10_isAsHeard_82 : decode cX10_isAsHeard 82 = .ok (.goto 17, 3) := by decide +kernel
theorem dX10_isAsHeard_85 : decode cX10_isAsHeard 85 = .ok (.iload 4, 2) := by decide +kernel
theorem dX10_isAsHeard_87 : decode cX10_isAsHeard 87 = .ok (.aload_n 0, 1) := by decide +kernel
theorem dX10_isAsHeard_88 : decode cX10_isAsHeard 88 = .ok (.getfield 134, 3) := by decide +kernel
theorem dX10_isAsHeard_91 : decode cX10_isAsHeard 91 = .ok (.iload_n 3, 1) := by decide +kernel
theorem dX10_isAsHeard_92 : decode cX10_isAsHeard 92 = .ok (.iaload, 1) := by decide +kernel
theorem dX10_isAsHeard_93 : decode cX10_isAsHeard 93 = .ok (.invokestatic 298, 3) := by decide +kernel
theorem dX10_isAsHeard_96 : decode cX10_isAsHeard 96 = .ok (.ifCond .eq 7, 3) := by decide +kernel
theorem dX10_isAsHeard_99 : decode cX10_isAsHeard 99 = .ok (.iconst 1, 1) := by decide +kernel
theorem dX10_isAsHeard_100 : decode cX10_isAsHeard 100 = .ok (.goto 4, 3) := by decide +kernel
theorem dX10_isAsHeard_103 : decode cX10_isAsHeard 103 = .ok (.iconst 0, 1) := by decide +kernel
theorem dX10_isAsHeard_104 : decode cX10_isAsHeard 104 = .ok (.istore_n 1, 1) := by decide +kernel
theorem dX10_isAsHeard_105 : decode cX10_isAsHeard 105 = .ok (.iinc 3 1, 3) := by decide +kernel
theorem dX10_isAsHeard_108 : decode cX10_isAsHeard 108 = .ok (.goto (-79), 3) := by decide +kernel
theorem dX10_isAsHeard_111 : decode cX10_isAsHeard 111 = .ok (.iinc 2 1, 3) := by decide +kernel
theorem dX10_isAsHeard_114 : decode cX10_isAsHeard 114 = .ok (.goto (-101), 3) := by decide +kernel
theorem dX10_isAsHeard_117 : decode cX10_isAsHeard 117 = .ok (.aload_n 0, 1) := by decide +kernel
theorem dX10_isAsHeard_118 : decode cX10_isAsHeard 118 = .ok (.aload_n 0, 1) := by decide +kernel
theorem dX10_isAsHeard_119 : decode cX10_isAsHeard 119 = .ok (.getfield 137, 3) := by decide +kernel
theorem dX10_isAsHeard_122 : decode cX10_isAsHeard 122 = .ok (.iconst 0, 1) := by decide +kernel
theorem dX10_isAsHeard_123 : decode cX10_isAsHeard 123 = .ok (.invokevirtual 430, 3) := by decide +kernel
theorem dX10_isAsHeard_126 : decode cX10_isAsHeard 126 = .ok (.iload_n 1, 1) := by decide +kernel
theorem dX10_isAsHeard_127 : decode cX10_isAsHeard 127 = .ok (.ireturn, 1) := by decide +kernel
theorem dX10_tellFits_0 : decode cX10_tellFits 0 = .ok (.aload_n 0, 1) := by decide +kernel
theorem dX10_tellFits_1 : decode cX10_tellFits 1 = .ok (.iconst 0, 1) := by decide +kernel
theorem dX10_tellFits_2 : decode cX10_tellFits 2 = .ok (.putfield 452, 3) := by decide +kernel
theorem dX10_tellFits_5 : decode cX10_tellFits 5 = .ok (.iconst 0, 1) := by decide +kernel
theorem dX10_tellFits_6 : decode cX10_tellFits 6 = .ok (.istore_n 1, 1) := by decide +kernel
theorem dX10_tellFits_7 : decode cX10_tellFits 7 = .ok (.iload_n 1, 1) := by decide +kernel
theorem dX10_tellFits_8 : decode cX10_tellFits 8 = .ok (.aload_n 0, 1) := by decide +kernel
theorem dX10_tellFits_9 : decode cX10_tellFits 9 = .ok (.getfield 39, 3) := by decide +kernel
theorem dX10_tellFits_12 : decode cX10_tellFits 12 = .ok (.iconst 2, 1) := by decide +kernel
theorem dX10_tellFits_13 : decode cX10_tellFits 13 = .ok (.iaload, 1) := by decide +kernel
theorem dX10_tellFits_14 : decode cX10_tellFits 14 = .ok (.if_icmp .ge 131, 3) := by decide +kernel
theorem dX10_tellFits_17 : decode cX10_tellFits 17 = .ok (.iconst 0, 1) := by decide +kernel
theorem dX10_tellFits_18 : decode cX10_tellFits 18 = .ok (.istore_n 2, 1) := by decide +kernel
theorem dX10_tellFits_19 : decode cX10_tellFits 19 = .ok (.iload_n 2, 1) := by decide +kernel
theorem dX10_tellFits_20 : decode cX10_tellFits 20 = .ok (.aload_n 0, 1) := by decide +kernel
theorem dX10_tellFits_21 : decode cX10_tellFits 21 = .ok (.getfield 56, 3) := by decide +kernel
theorem dX10_tellFits_24 : decode cX10_tellFits 24 = .ok (.iload_n 1, 1) := by decide +kernel
theorem dX10_tellFits_25 : decode cX10_tellFits 25 = .ok (.iaload, 1) := by decide +kernel
theorem dX10_tellFits_26 : decode cX10_tellFits 26 = .ok (.if_icmp .ge 113, 3) := by decide +kernel
theorem dX10_tellFits_29 : decode cX10_tellFits 29 = .ok (.aload_n 0, 1) := by decide +kernel
theorem dX10_tellFits_30 : decode cX10_tellFits 30 = .ok (.getfield 89, 3) := by decide +kernel
theorem dX10_tellFits_33 : decode cX10_tellFits 33 = .ok (.bipush 6, 2) := by decide +kernel
theorem dX10_tellFits_35 : decode cX10_tellFits 35 = .ok (.iload_n 1, 1) := by decide +kernel
theorem dX10_tellFits_36 : decode cX10_tellFits 36 = .ok (.imul, 1) := by decide +kernel
theorem dX10_tellFits_37 : decode cX10_tellFits 37 = .ok (.iload_n 2, 1) := by decide +kernel
theorem dX10_tellFits_38 : decode cX10_tellFits 38 = .ok (.iadd, 1) := by decide +kernel
theorem dX10_tellFits_39 : decode cX10_tellFits 39 = .ok (.iaload, 1) := by decide +kernel
theorem dX10_tellFits_40 : decode cX10_tellFits 40 = .ok (.istore_n 3, 1) := by decide +kernel
theorem dX10_tellFits_41 : decode cX10_tellFits 41 = .ok (.iconst 0, 1) := by decide +kernel
theorem dX10_tellFits_42 : decode cX10_tellFits 42 = .ok (.istore 4, 2) := by decide +kernel
theorem dX10_tellFits_44 : decode cX10_tellFits 44 = .ok (.iload 4, 2) := by decide +kernel
theorem dX10_tellFits_46 : decode cX10_tellFits 46 = .ok (.aload_n 0, 1) := by decide +kernel
theorem dX10_tellFits_47 : decode cX10_tellFits 47 = .ok (.getfield 39, 3) := by decide +kernel
theorem dX10_tellFits_50 : decode cX10_tellFits 50 = .ok (.iconst 0, 1) := by decide +kernel
theorem dX10_tellFits_51 : decode cX10_tellFits 51 = .ok (.iaload, 1) := by decide +kernel
theorem dX10_tellFits_52 : decode cX10_tellFits 52 = .ok (.if_icmp .ge 69, 3) := by decide +kernel
theorem dX10_tellFits_55 : decode cX10_tellFits 55 = .ok (.aload_n 0, 1) := by decide +kernel
theorem dX10_tellFits_56 : decode cX10_tellFits 56 = .ok (.getfield 89, 3) := by decide +kernel
theorem dX10_tellFits_59 : decode cX10_tellFits 59 = .ok (.bipush 6, 2) := by decide +kernel
theorem dX10_tellFits_61 : decode cX10_tellFits 61 = .ok (.iload_n 1, 1) := by decide +kernel
theorem dX10_tellFits_62 : decode cX10_tellFits 62 = .ok (.imul, 1) := by decide +kernel
theorem dX10_tellFits_63 : decode cX10_tellFits 63 = .ok (.iload_n 2, 1) := by decide +kernel
theorem dX10_tellFits_64 : decode cX10_tellFits 64 = .ok (.iadd, 1) := by decide +kernel
theorem dX10_tellFits_65 : decode cX10_tellFits 65 = .ok (.iload 4, 2) := by decide +kernel
theorem dX10_tellFits_67 : decode cX10_tellFits 67 = .ok (.iastore, 1) := by decide +kernel
theorem dX10_tellFits_68 : decode cX10_tellFits 68 = .ok (.iload 4, 2) := by decide +kernel
theorem dX10_tellFits_70 : decode cX10_tellFits 70 = .ok (.iload_n 3, 1) := by decide +kernel
theorem dX10_tellFits_71 : decode cX10_tellFits 71 = .ok (.if_icmp .eq 44, 3) := by decide +kernel
theorem dX10_tellFits_74 : decode cX10_tellFits 74 = .ok (.aload_n 0, 1) := by decide +kernel
theorem dX10_tellFits_75 : decode cX10_tellFits 75 = .ok (.invokevirtual 455, 3) := by decide +kernel
theorem dX10_tellFits_78 : decode cX10_tellFits 78 = .ok (.ifCond .ne 6, 3) := by decide +kernel
theorem dX10_tellFits_81 : decode cX10_tellFits 81 = .ok (.goto 34, 3) := by decide +kernel
theorem dX10_tellFits_84 : decode cX10_tellFits 84 = .ok (.aload_n 0, 1) := by decide +kernel
theorem dX10_tellFits_85 : decode cX10_tellFits 85 = .ok (.getfield 143, 3) := by decide +kernel
theorem dX10_tellFits_88 : decode cX10_tellFits 88 = .ok (.aload_n 0, 1) := by decide +kernel
theorem dX10_tellFits_89 : decode cX10_tellFits 89 = .ok (.getfield 452, 3) := by decide +kernel
theorem dX10_tellFits_92 : decode cX10_tellFits 92 = .ok (.bipush 100, 2) := by decide +kernel
theorem dX10_tellFits_94 : decode cX10_tellFits 94 = .ok (.iload_n 1, 1) := by decide +kernel
theorem dX10_tellFits_95 : decode cX10_tellFits 95 = .ok (.imul, 1) := by decide +kernel
theorem dX10_tellFits_96 : decode cX10_tellFits 96 = .ok (.bipush 10, 2) := by decide +kernel
theorem dX10_tellFits_98 : decode cX10_tellFits 98 = .ok (.iload_n 2, 1) := by decide +kernel
theorem dX10_tellFits_99 : decode cX10_tellFits 99 = .ok (.imul, 1) := by decide +kernel
theorem dX10_tellFits_100 : decode cX10_tellFits 100 = .ok (.iadd, 1) := by decide +kernel
theorem dX10_tellFits_101 : decode cX10_tellFits 101 = .ok (.iload 4, 2) := by decide +kernel
theorem dX10_tellFits_103 : decode cX10_tellFits 103 = .ok (.iadd, 1) := by decide +kernel
theorem dX10_tellFits_104 : decode cX10_tellFits 104 = .ok (.iastore, 1) := by decide +kernel
theorem dX10_tellFits_105 : decode cX10_tellFits 105 = .ok (.aload_n 0, 1) := by decide +kernel
theorem dX10_tellFits_106 : decode cX10_tellFits 106 = .ok (.dup, 1) := by decide +kernel
theorem dX10_tellFits_107 : decode cX10_tellFits 107 = .ok (.getfield 452, 3) := by decide +kernel
theorem dX10_tellFits_110 : decode cX10_tellFits 110 = .ok (.iconst 1, 1) := by decide +kernel
theorem dX10_tellFits_111 : decode cX10_tellFits 111 = .ok (.iadd, 1) := by decide +kernel
theorem dX10_tellFits_112 : decode cX10_tellFits 112 = .ok (.putfield 452, 3) := by decide +kernel
theorem dX10_tellFits_115 : decode cX10_tellFits 115 = .ok (.iinc 4 1, 3) := by decide +kernel
theorem dX10_tellFits_118 : decode cX10_tellFits 118 = .ok (.goto (-74), 3) := by decide +kernel
theorem dX10_tellFits_121 : decode cX10_tellFits 121 = .ok (.aload_n 0, 1) := by decide +kernel
theorem dX10_tellFits_122 : decode cX10_tellFits 122 = .ok (.getfield 89, 3) := by decide +kernel
theorem dX10_tellFits_125 : decode cX10_tellFits 125 = .ok (.bipush 6, 2) := by decide +kernel
theorem dX10_tellFits_127 : decode cX10_tellFits 127 = .ok (.iload_n 1, 1) := by decide +kernel
theorem dX10_tellFits_128 : decode cX10_tellFits 128 = .ok (.imul, 1) := by decide +kernel
theorem dX10_tellFits_129 : decode cX10_tellFits 129 = .ok (.iload_n 2, 1) := by decide +kernel
theorem dX10_tellFits_130 : decode cX10_tellFits 130 = .ok (.iadd, 1) := by decide +kernel
theorem dX10_tellFits_131 : decode cX10_tellFits 131 = .ok (.iload_n 3, 1) := by decide +kernel
theorem dX10_tellFits_132 : decode cX10_tellFits 132 = .ok (.iastore, 1) := by decide +kernel
theorem dX10_tellFits_133 : decode cX10_tellFits 133 = .ok (.iinc 2 1, 3) := by decide +kernel
theorem dX10_tellFits_136 : decode cX10_tellFits 136 = .ok (.goto (-117), 3) := by decide +kernel
theorem dX10_tellFits_139 : decode cX10_tellFits 139 = .ok (.iinc 1 1, 3) := by decide +kernel
theorem dX10_tellFits_142 : decode cX10_tellFits 142 = .ok (.goto (-135), 3) := by decide +kernel
theorem dX10_tellFits_145 : decode cX10_tellFits 145 = .ok (.return_, 1) := by decide +kernel
theorem dX10_otherwise_0 : decode cX10_otherwise 0 = .ok (.aload_n 0, 1) := by decide +kernel
theorem dX10_otherwise_1 : decode cX10_otherwise 1 = .ok (.iconst 0, 1) := by decide +kernel
theorem dX10_otherwise_2 : decode cX10_otherwise 2 = .ok (.putfield 167, 3) := by decide +kernel
theorem dX10_otherwise_5 : decode cX10_otherwise 5 = .ok (.iload_n 1, 1) := by decide +kernel
theorem dX10_otherwise_6 : decode cX10_otherwise 6 = .ok (.i2l, 1) := by decide +kernel
theorem dX10_otherwise_7 : decode cX10_otherwise 7 = .ok (.lconst 0, 1) := by decide +kernel
theorem dX10_otherwise_8 : decode cX10_otherwise 8 = .ok (.ldc2_w 458, 3) := by decide +kernel
theorem dX10_otherwise_11 : decode cX10_otherwise 11 = .ok (.invokestatic 170, 3) := by decide +kernel
theorem dX10_otherwise_14 : decode cX10_otherwise 14 = .ok (.ifCond .ne 9, 3) := by decide +kernel
theorem dX10_otherwise_17 : decode cX10_otherwise 17 = .ok (.aload_n 0, 1) := by decide +kernel
theorem dX10_otherwise_18 : decode cX10_otherwise 18 = .ok (.iconst 1, 1) := by decide +kernel
theorem dX10_otherwise_19 : decode cX10_otherwise 19 = .ok (.invokevirtual 325, 3) := by decide +kernel
theorem dX10_otherwise_22 : decode cX10_otherwise 22 = .ok (.ireturn, 1) := by decide +kernel
theorem dX10_otherwise_23 : decode cX10_otherwise 23 = .ok (.iload_n 1, 1) := by decide +kernel
theorem dX10_otherwise_24 : decode cX10_otherwise 24 = .ok (.iconst 2, 1) := by decide +kernel
theorem dX10_otherwise_25 : decode cX10_otherwise 25 = .ok (.if_icmp .ne 16, 3) := by decide +kernel
theorem dX10_otherwise_28 : decode cX10_otherwise 28 = .ok (.aload_n 0, 1) := by decide +kernel
theorem dX10_otherwise_29 : decode cX10_otherwise 29 = .ok (.invokevirtual 455, 3) := by decide +kernel
theorem dX10_otherwise_32 : decode cX10_otherwise 32 = .ok (.ifCond .eq 7, 3) := by decide +kernel
theorem dX10_otherwise_35 : decode cX10_otherwise 35 = .ok (.iconst 1, 1) := by decide +kernel
theorem dX10_otherwise_36 : decode cX10_otherwise 36 = .ok (.goto 4, 3) := by decide +kernel
theorem dX10_otherwise_39 : decode cX10_otherwise 39 = .ok (.iconst 0, 1) := by decide +kernel
theorem dX10_otherwise_40 : decode cX10_otherwise 40 = .ok (.ireturn, 1) := by decide +kernel
theorem dX10_otherwise_41 : decode cX10_otherwise 41 = .ok (.aload_n 0, 1) := by decide +kernel
theorem dX10_otherwise_42 : decode cX10_otherwise 42 = .ok (.invokevirtual 460, 3) := by decide +kernel
theorem dX10_otherwise_45 : decode cX10_otherwise 45 = .ok (.iload_n 1, 1) := by decide +kernel
theorem dX10_otherwise_46 : decode cX10_otherwise 46 = .ok (.ifCond .ne 10, 3) := by decide +kernel
theorem dX10_otherwise_49 : decode cX10_otherwise 49 = .ok (.aload_n 0, 1) := by decide +kernel
theorem dX10_otherwise_50 : decode cX10_otherwise 50 = .ok (.getfield 452, 3) := by decide +kernel
theorem dX10_otherwise_53 : decode cX10_otherwise 53 = .ok (.goto 20, 3) := by decide +kernel
theorem dX10_otherwise_56 : decode cX10_otherwise 56 = .ok (.aload_n 0, 1) := by decide +kernel
theorem dX10_otherwise_57 : decode cX10_otherwise 57 = .ok (.getfield 452, 3) := by decide +kernel
theorem dX10_otherwise_60 : decode cX10_otherwise 60 = .ok (.ifCond .ne 7, 3) := by decide +kernel
theorem dX10_otherwise_63 : decode cX10_otherwise 63 = .ok (.iconst (-1), 1) := by decide +kernel
theorem dX10_otherwise_64 : decode cX10_otherwise 64 = .ok (.goto 9, 3) := by decide +kernel
theorem dX10_otherwise_67 : decode cX10_otherwise 67 = .ok (.aload_n 0, 1) := by decide +kernel
theorem dX10_otherwise_68 : decode cX10_otherwise 68 = .ok (.getfield 143, 3) := by decide +kernel
theorem dX10_otherwise_71 : decode cX10_otherwise 71 = .ok (.iconst 0, 1) := by decide +kernel
theorem dX10_otherwise_72 : decode cX10_otherwise 72 = .ok (.iaload, 1) := by decide +kernel
theorem dX10_otherwise_73 : decode cX10_otherwise 73 = .ok (.ireturn, 1) := by decide +kernel
theorem dX10_lowest_0 : decode cX10_lowest 0 = .ok (.iconst (-1), 1) := by decide +kernel
theorem dX10_lowest_1 : decode cX10_lowest 1 = .ok (.istore_n 1, 1) := by decide +kernel
theorem dX10_lowest_2 : decode cX10_lowest 2 = .ok (.bipush 7, 2) := by decide +kernel
theorem dX10_lowest_4 : decode cX10_lowest 4 = .ok (.istore_n 2, 1) := by decide +kernel
theorem dX10_lowest_5 : decode cX10_lowest 5 = .ok (.iload_n 2, 1) := by decide +kernel
theorem dX10_lowest_6 : decode cX10_lowest 6 = .ok (.ifCond .lt 19, 3) := by decide +kernel
theorem dX10_lowest_9 : decode cX10_lowest 9 = .ok (.iload_n 0, 1) := by decide +kernel
theorem dX10_lowest_10 : decode cX10_lowest 10 = .ok (.iload_n 2, 1) := by decide +kernel
theorem dX10_lowest_11 : decode cX10_lowest 11 = .ok (.invokestatic 298, 3) := by decide +kernel
theorem dX10_lowest_14 : decode cX10_lowest 14 = .ok (.ifCond .eq 5, 3) := by decide +kernel
theorem dX10_lowest_17 : decode cX10_lowest 17 = .ok (.iload_n 2, 1) := by decide +kernel
theorem dX10_lowest_18 : decode cX10_lowest 18 = .ok (.istore_n 1, 1) := by decide +kernel
theorem dX10_lowest_19 : decode cX10_lowest 19 = .ok (.iinc 2 (-1), 3) := by decide +kernel
theorem dX10_lowest_22 : decode cX10_lowest 22 = .ok (.goto (-17), 3) := by decide +kernel
theorem dX10_lowest_25 : decode cX10_lowest 25 = .ok (.iload_n 1, 1) := by decide +kernel
theorem dX10_lowest_26 : decode cX10_lowest 26 = .ok (.ireturn, 1) := by decide +kernel
theorem dX10_unlike_0 : decode cX10_unlike 0 = .ok (.iconst 0, 1) := by decide +kernel
theorem dX10_unlike_1 : decode cX10_unlike 1 = .ok (.istore_n 2, 1) := by decide +kernel
theorem dX10_unlike_2 : decode cX10_unlike 2 = .ok (.iconst 0, 1) := by decide +kernel
theorem dX10_unlike_3 : decode cX10_unlike 3 = .ok (.istore_n 3, 1) := by decide +kernel
theorem dX10_unlike_4 : decode cX10_unlike 4 = .ok (.iload_n 3, 1) := by decide +kernel
theorem dX10_unlike_5 : decode cX10_unlike 5 = .ok (.aload_n 0, 1) := by decide +kernel
theorem dX10_unlike_6 : decode cX10_unlike 6 = .ok (.getfield 452, 3) := by decide +kernel
theorem dX10_unlike_9 : decode cX10_unlike 9 = .ok (.if_icmp .ge 78, 3) := by decide +kernel
theorem dX10_unlike_12 : decode cX10_unlike 12 = .ok (.iconst 1, 1) := by decide +kernel
theorem dX10_unlike_13 : decode cX10_unlike 13 = .ok (.istore 4, 2) := by decide +kernel
theorem dX10_unlike_15 : decode cX10_unlike 15 = .ok (.iconst 0, 1) := by decide +kernel
theorem dX10_unlike_16 : decode cX10_unlike 16 = .ok (.istore 5, 2) := by decide +kernel
theorem dX10_unlike_18 : decode cX10_unlike 18 = .ok (.iload 5, 2) := by decide +kernel
theorem dX10_unlike_20 : decode cX10_unlike 20 = .ok (.iload_n 3, 1) := by decide +kernel
theorem dX10_unlike_21 : decode cX10_unlike 21 = .ok (.if_icmp .ge 47, 3) := by decide +kernel
theorem dX10_unlike_24 : decode cX10_unlike 24 = .ok (.iload 4, 2) := by decide +kernel
theorem dX10_unlike_26 : decode cX10_unlike 26 = .ok (.ifCond .eq 42, 3) := by decide +kernel
theorem dX10_unlike_29 : decode cX10_unlike 29 = .ok (.aload_n 0, 1) := by decide +kernel
theorem dX10_unlike_30 : decode cX10_unlike 30 = .ok (.getfield 146, 3) := by decide +kernel
theorem dX10_unlike_33 : decode cX10_unlike 33 = .ok (.bipush 8, 2) := by decide +kernel
theorem dX10_unlike_35 : decode cX10_unlike 35 = .ok (.iload 5, 2) := by decide +kernel
theorem dX10_unlike_37 : decode cX10_unlike 37 = .ok (.imul, 1) := by decide +kernel
theorem dX10_unlike_38 : decode cX10_unlike 38 = .ok (.iload_n 1, 1) := by decide +kernel
theorem dX10_unlike_39 : decode cX10_unlike 39 = .ok (.iadd, 1) := by decide +kernel
theorem dX10_unlike_40 : decode cX10_unlike 40 = .ok (.iaload, 1) := by decide +kernel
theorem dX10_unlike_41 : decode cX10_unlike 41 = .ok (.aload_n 0, 1) := by decide +kernel
theorem dX10_unlike_42 : decode cX10_unlike 42 = .ok (.getfield 146, 3) := by decide +kernel
theorem dX10_unlike_45 : decode cX10_unlike 45 = .ok (.bipush 8, 2) := by decide +kernel
theorem dX10_unlike_47 : decode cX10_unlike 47 = .ok (.iload_n 3, 1) := by decide +kernel
theorem dX10_unlike_48 : decode cX10_unlike 48 = .ok (.imul, 1) := by decide +kernel
theorem dX10_unlike_49 : decode cX10_unlike 49 = .ok (.iload_n 1, 1) := by decide +kernel
theorem dX10_unlike_50 : decode cX10_unlike 50 = .ok (.iadd, 1) := by decide +kernel
theorem dX10_unlike_51 : decode cX10_unlike 51 = .ok (.iaload, 1) := by decide +kernel
theorem dX10_unlike_52 : decode cX10_unlike 52 = .ok (.if_icmp .eq 7, 3) := by decide +kernel
theorem dX10_unlike_55 : decode cX10_unlike 55 = .ok (.iconst 1, 1) := by decide +kernel
theorem dX10_unlike_56 : decode cX10_unlike 56 = .ok (.goto 4, 3) := by decide +kernel
theorem dX10_unlike_59 : decode cX10_unlike 59 = .ok (.iconst 0, 1) := by decide +kernel
theorem dX10_unlike_60 : decode cX10_unlike 60 = .ok (.istore 4, 2) := by decide +kernel
theorem dX10_unlike_62 : decode cX10_unlike 62 = .ok (.iinc 5 1, 3) := by decide +kernel
theorem dX10_unlike_65 : decode cX10_unlike 65 = .ok (.goto (-47), 3) := by decide +kernel
theorem dX10_unlike_68 : decode cX10_unlike 68 = .ok (.iload_n 2, 1) := by decide +kernel
theorem dX10_unlike_69 : decode cX10_unlike 69 = .ok (.iload 4, 2) := by decide +kernel
theorem dX10_unlike_71 : decode cX10_unlike 71 = .ok (.ifCond .eq 7, 3) := by decide +kernel
theorem dX10_unlike_74 : decode cX10_unlike 74 = .ok (.iconst 1, 1) := by decide +kernel
theorem dX10_unlike_75 : decode cX10_unlike 75 = .ok (.goto 4, 3) := by decide +kernel
theorem dX10_unlike_78 : decode cX10_unlike 78 = .ok (.iconst 0, 1) := by decide +kernel
theorem dX10_unlike_79 : decode cX10_unlike 79 = .ok (.iadd, 1) := by decide +kernel
theorem dX10_unlike_80 : decode cX10_unlike 80 = .ok (.istore_n 2, 1) := by decide +kernel
theorem dX10_unlike_81 : decode cX10_unlike 81 = .ok (.iinc 3 1, 3) := by decide +kernel
theorem dX10_unlike_84 : decode cX10_unlike 84 = .ok (.goto (-80), 3) := by decide +kernel
theorem dX10_unlike_87 : decode cX10_unlike 87 = .ok (.iload_n 2, 1) := by decide +kernel
theorem dX10_unlike_88 : decode cX10_unlike 88 = .ok (.ireturn, 1) := by decide +kernel
theorem dX10_listen_0 : decode cX10_listen 0 = .ok (.aload_n 0, 1) := by decide +kernel
theorem dX10_listen_1 : decode cX10_listen 1 = .ok (.iconst 0, 1) := by decide +kernel
theorem dX10_listen_2 : decode cX10_listen 2 = .ok (.putfield 167, 3) := by decide +kernel
theorem dX10_listen_5 : decode cX10_listen 5 = .ok (.iload_n 1, 1) := by decide +kernel
theorem dX10_listen_6 : decode cX10_listen 6 = .ok (.ifCond .lt 8, 3) := by decide +kernel
theorem dX10_listen_9 : decode cX10_listen 9 = .ok (.iload_n 1, 1) := by decide +kernel
theorem dX10_listen_10 : decode cX10_listen 10 = .ok (.iconst 1, 1) := by decide +kernel
theorem dX10_listen_11 : decode cX10_listen 11 = .ok (.if_icmp .le 9, 3) := by decide +kernel
theorem dX10_listen_14 : decode cX10_listen 14 = .ok (.aload_n 0, 1) := by decide +kernel
theorem dX10_listen_15 : decode cX10_listen 15 = .ok (.iconst 1, 1) := by decide +kernel
theorem dX10_listen_16 : decode cX10_listen 16 = .ok (.invokevirtual 325, 3) := by decide +kernel
theorem dX10_listen_19 : decode cX10_listen 19 = .ok (.ireturn, 1) := by decide +kernel
theorem dX10_listen_20 : decode cX10_listen 20 = .ok (.aload_n 0, 1) := by decide +kernel
theorem dX10_listen_21 : decode cX10_listen 21 = .ok (.invokevirtual 460, 3) := by decide +kernel
theorem dX10_listen_24 : decode cX10_listen 24 = .ok (.iconst 0, 1) := by decide +kernel
theorem dX10_listen_25 : decode cX10_listen 25 = .ok (.istore_n 2, 1) := by decide +kernel
theorem dX10_listen_26 : decode cX10_listen 26 = .ok (.iload_n 2, 1) := by decide +kernel
theorem dX10_listen_27 : decode cX10_listen 27 = .ok (.aload_n 0, 1) := by decide +kernel
theorem dX10_listen_28 : decode cX10_listen 28 = .ok (.getfield 452, 3) := by decide +kernel
theorem dX10_listen_31 : decode cX10_listen 31 = .ok (.if_icmp .ge 104, 3) := by decide +kernel
theorem dX10_listen_34 : decode cX10_listen 34 = .ok (.aload_n 0, 1) := by decide +kernel
theorem dX10_listen_35 : decode cX10_listen 35 = .ok (.aload_n 0, 1) := by decide +kernel
theorem dX10_listen_36 : decode cX10_listen 36 = .ok (.getfield 116, 3) := by decide +kernel
theorem dX10_listen_39 : decode cX10_listen 39 = .ok (.iconst 0, 1) := by decide +kernel
theorem dX10_listen_40 : decode cX10_listen 40 = .ok (.invokevirtual 406, 3) := by decide +kernel
theorem dX10_listen_43 : decode cX10_listen 43 = .ok (.aload_n 0, 1) := by decide +kernel
theorem dX10_listen_44 : decode cX10_listen 44 = .ok (.getfield 89, 3) := by decide +kernel
theorem dX10_listen_47 : decode cX10_listen 47 = .ok (.bipush 6, 2) := by decide +kernel
theorem dX10_listen_49 : decode cX10_listen 49 = .ok (.aload_n 0, 1) := by decide +kernel
theorem dX10_listen_50 : decode cX10_listen 50 = .ok (.getfield 143, 3) := by decide +kernel
theorem dX10_listen_53 : decode cX10_listen 53 = .ok (.iload_n 2, 1) := by decide +kernel
theorem dX10_listen_54 : decode cX10_listen 54 = .ok (.iaload, 1) := by decide +kernel
theorem dX10_listen_55 : decode cX10_listen 55 = .ok (.bipush 100, 2) := by decide +kernel
theorem dX10_listen_57 : decode cX10_listen 57 = .ok (.idiv, 1) := by decide +kernel
theorem dX10_listen_58 : decode cX10_listen 58 = .ok (.imul, 1) := by decide +kernel
theorem dX10_listen_59 : decode cX10_listen 59 = .ok (.aload_n 0, 1) := by decide +kernel
theorem dX10_listen_60 : decode cX10_listen 60 = .ok (.getfield 143, 3) := by decide +kernel
theorem dX10_listen_63 : decode cX10_listen 63 = .ok (.iload_n 2, 1) := by decide +kernel
theorem dX10_listen_64 : decode cX10_listen 64 = .ok (.iaload, 1) := by decide +kernel
theorem dX10_listen_65 : decode cX10_listen 65 = .ok (.bipush 10, 2) := by decide +kernel
theorem dX10_listen_67 : decode cX10_listen 67 = .ok (.idiv, 1) := by decide +kernel
theorem dX10_listen_68 : decode cX10_listen 68 = .ok (.bipush 10, 2) := by decide +kernel
theorem dX10_listen_70 : decode cX10_listen 70 = .ok (.irem, 1) := by decide +kernel
theorem dX10_listen_71 : decode cX10_listen 71 = .ok (.iadd, 1) := by decide +kernel
theorem dX10_listen_72 : decode cX10_listen 72 = .ok (.aload_n 0, 1) := by decide +kernel
theorem dX10_listen_73 : decode cX10_listen 73 = .ok (.getfield 143, 3) := by decide +kernel
theorem dX10_listen_76 : decode cX10_listen 76 = .ok (.iload_n 2, 1) := by decide +kernel
theorem dX10_listen_77 : decode cX10_listen 77 = .ok (.iaload, 1) := by decide +kernel
theorem dX10_listen_78 : decode cX10_listen 78 = .ok (.bipush 10, 2) := by decide +kernel
theorem dX10_listen_80 : decode cX10_listen 80 = .ok (.irem, 1) := by decide +kernel
theorem dX10_listen_81 : decode cX10_listen 81 = .ok (.iastore, 1) := by decide +kernel
theorem dX10_listen_82 : decode cX10_listen 82 = .ok (.aload_n 0, 1) := by decide +kernel
theorem dX10_listen_83 : decode cX10_listen 83 = .ok (.invokevirtual 449, 3) := by decide +kernel
theorem dX10_listen_86 : decode cX10_listen 86 = .ok (.iconst 0, 1) := by decide +kernel
theorem dX10_listen_87 : decode cX10_listen 87 = .ok (.istore_n 3, 1) := by decide +kernel
theorem dX10_listen_88 : decode cX10_listen 88 = .ok (.iload_n 3, 1) := by decide +kernel
theorem dX10_listen_89 : decode cX10_listen 89 = .ok (.bipush 8, 2) := by decide +kernel
theorem dX10_listen_91 : decode cX10_listen 91 = .ok (.if_icmp .ge 29, 3) := by decide +kernel
theorem dX10_listen_94 : decode cX10_listen 94 = .ok (.aload_n 0, 1) := by decide +kernel
theorem dX10_listen_95 : decode cX10_listen 95 = .ok (.getfield 146, 3) := by decide +kernel
theorem dX10_listen_98 : decode cX10_listen 98 = .ok (.bipush 8, 2) := by decide +kernel
theorem dX10_listen_100 : decode cX10_listen 100 = .ok (.iload_n 2, 1) := by decide +kernel
theorem dX10_listen_101 : decode cX10_listen 101 = .ok (.imul, 1) := by decide +kernel
theorem dX10_listen_102 : decode cX10_listen 102 = .ok (.iload_n 3, 1) := by decide +kernel
theorem dX10_listen_103 : decode cX10_listen 103 = .ok (.iadd, 1) := by decide +kernel
theorem dX10_listen_104 : decode cX10_listen 104 = .ok (.aload_n 0, 1) := by decide +kernel
theorem dX10_listen_105 : decode cX10_listen 105 = .ok (.getfield 140, 3) := by decide +kernel
theorem dX10_listen_108 : decode cX10_listen 108 = .ok (.iload_n 3, 1) := by decide +kernel
theorem dX10_listen_109 : decode cX10_listen 109 = .ok (.iaload, 1) := by decide +kernel
theorem dX10_listen_110 : decode cX10_listen 110 = .ok (.invokestatic 463, 3) := by decide +kernel
theorem dX10_listen_113 : decode cX10_listen 113 = .ok (.iastore, 1) := by decide +kernel
theorem dX10_listen_114 : decode cX10_listen 114 = .ok (.iinc 3 1, 3) := by decide +kernel
theorem dX10_listen_117 : decode cX10_listen 117 = .ok (.goto (-29), 3) := by decide +kernel
theorem dX10_listen_120 : decode cX10_listen 120 = .ok (.aload_n 0, 1) := by decide +kernel
theorem dX10_listen_121 : decode cX10_listen 121 = .ok (.aload_n 0, 1) := by decide +kernel
theorem dX10_listen_122 : decode cX10_listen 122 = .ok (.getfield 116, 3) := by decide +kernel
theorem dX10_listen_125 : decode cX10_listen 125 = .ok (.iconst 0, 1) := by decide +kernel
theorem dX10_listen_126 : decode cX10_listen 126 = .ok (.invokevirtual 430, 3) := by decide +kernel
theorem dX10_listen_129 : decode cX10_listen 129 = .ok (.iinc 2 1, 3) := by decide +kernel
theorem dX10_listen_132 : decode cX10_listen 132 = .ok (.goto (-106), 3) := by decide +kernel
theorem dX10_listen_135 : decode cX10_listen 135 = .ok (.iconst (-1), 1) := by decide +kernel
theorem dX10_listen_136 : decode cX10_listen 136 = .ok (.istore_n 2, 1) := by decide +kernel
theorem dX10_listen_137 : decode cX10_listen 137 = .ok (.iconst 0, 1) := by decide +kernel
theorem dX10_listen_138 : decode cX10_listen 138 = .ok (.istore_n 3, 1) := by decide +kernel
theorem dX10_listen_139 : decode cX10_listen 139 = .ok (.iconst 0, 1) := by decide +kernel
theorem dX10_listen_140 : decode cX10_listen 140 = .ok (.istore 4, 2) := by decide +kernel
theorem dX10_listen_142 : decode cX10_listen 142 = .ok (.iload 4, 2) := by decide +kernel
theorem dX10_listen_144 : decode cX10_listen 144 = .ok (.aload_n 0, 1) := by decide +kernel
theorem dX10_listen_145 : decode cX10_listen 145 = .ok (.getfield 39, 3) := by decide +kernel
theorem dX10_listen_148 : decode cX10_listen 148 = .ok (.iconst 0, 1) := by decide +kernel
theorem dX10_listen_149 : decode cX10_listen 149 = .ok (.iaload, 1) := by decide +kernel
theorem dX10_listen_150 : decode cX10_listen 150 = .ok (.if_icmp .ge 32, 3) := by decide +kernel
theorem dX10_listen_153 : decode cX10_listen 153 = .ok (.aload_n 0, 1) := by decide +kernel
theorem dX10_listen_154 : decode cX10_listen 154 = .ok (.iload 4, 2) := by decide +kernel
theorem dX10_listen_156 : decode cX10_listen 156 = .ok (.invokevirtual 466, 3) := by decide +kernel
theorem dX10_listen_159 : decode cX10_listen 159 = .ok (.istore 5, 2) := by decide +kernel
theorem dX10_listen_161 : decode cX10_listen 161 = .ok (.iload 5, 2) := by decide +kernel
theorem dX10_listen_163 : decode cX10_listen 163 = .ok (.iload_n 3, 1) := by decide +kernel
theorem dX10_listen_164 : decode cX10_listen 164 = .ok (.if_icmp .gt 6, 3) := by decide +kernel
theorem dX10_listen_167 : decode cX10_listen 167 = .ok (.goto 9, 3) := by decide +kernel
theorem dX10_listen_170 : decode cX10_listen 170 = .ok (.iload 4, 2) := by decide +kernel
theorem dX10_listen_172 : decode cX10_listen 172 = .ok (.istore_n 2, 1) := by decide +kernel
theorem dX10_listen_173 : decode cX10_listen 173 = .ok (.iload 5, 2) := by decide +kernel
theorem dX10_listen_175 : decode cX10_listen 175 = .ok (.istore_n 3, 1) := by decide +kernel
theorem dX10_listen_176 : decode cX10_listen 176 = .ok (.iinc 4 1, 3) := by decide +kernel
theorem dX10_listen_179 : decode cX10_listen 179 = .ok (.goto (-37), 3) := by decide +kernel
theorem dX10_listen_182 : decode cX10_listen 182 = .ok (.iload_n 1, 1) := by decide +kernel
theorem dX10_listen_183 : decode cX10_listen 183 = .ok (.ifCond .ne 7, 3) := by decide +kernel
theorem dX10_listen_186 : decode cX10_listen 186 = .ok (.iload_n 2, 1) := by decide +kernel
theorem dX10_listen_187 : decode cX10_listen 187 = .ok (.goto 4, 3) := by decide +kernel
theorem dX10_listen_190 : decode cX10_listen 190 = .ok (.iload_n 3, 1) := by decide +kernel
theorem dX10_listen_191 : decode cX10_listen 191 = .ok (.ireturn, 1) := by decide +kernel
theorem dX10_forget_0 : decode cX10_forget 0 = .ok (.aload_n 0, 1) := by decide +kernel
theorem dX10_forget_1 : decode cX10_forget 1 = .ok (.iconst 0, 1) := by decide +kernel
theorem dX10_forget_2 : decode cX10_forget 2 = .ok (.putfield 167, 3) := by decide +kernel
theorem dX10_forget_5 : decode cX10_forget 5 = .ok (.aload_n 0, 1) := by decide +kernel
theorem dX10_forget_6 : decode cX10_forget 6 = .ok (.iconst 0, 1) := by decide +kernel
theorem dX10_forget_7 : decode cX10_forget 7 = .ok (.putfield 349, 3) := by decide +kernel
theorem dX10_forget_10 : decode cX10_forget 10 = .ok (.return_, 1) := by decide +kernel
theorem dX10_gain_0 : decode cX10_gain 0 = .ok (.iload_n 3, 1) := by decide +kernel
theorem dX10_gain_1 : decode cX10_gain 1 = .ok (.ifCond .ne 5, 3) := by decide +kernel
theorem dX10_gain_4 : decode cX10_gain 4 = .ok (.iconst 0, 1) := by decide +kernel
theorem dX10_gain_5 : decode cX10_gain 5 = .ok (.ireturn, 1) := by decide +kernel
theorem dX10_gain_6 : decode cX10_gain 6 = .ok (.aload_n 0, 1) := by decide +kernel
theorem dX10_gain_7 : decode cX10_gain 7 = .ok (.iload_n 1, 1) := by decide +kernel
theorem dX10_gain_8 : decode cX10_gain 8 = .ok (.iload_n 2, 1) := by decide +kernel
theorem dX10_gain_9 : decode cX10_gain 9 = .ok (.invokevirtual 377, 3) := by decide +kernel
theorem dX10_gain_12 : decode cX10_gain 12 = .ok (.ifCond .eq 13, 3) := by decide +kernel
theorem dX10_gain_15 : decode cX10_gain 15 = .ok (.aload_n 0, 1) := by decide +kernel
theorem dX10_gain_16 : decode cX10_gain 16 = .ok (.iload_n 1, 1) := by decide +kernel
theorem dX10_gain_17 : decode cX10_gain 17 = .ok (.iload_n 2, 1) := by decide +kernel
theorem dX10_gain_18 : decode cX10_gain 18 = .ok (.iconst 0, 1) := by decide +kernel
theorem dX10_gain_19 : decode cX10_gain 19 = .ok (.invokevirtual 380, 3) := by decide +kernel
theorem dX10_gain_22 : decode cX10_gain 22 = .ok (.goto 4, 3) := by decide +kernel
theorem dX10_gain_25 : decode cX10_gain 25 = .ok (.iconst 0, 1) := by decide +kernel
theorem dX10_gain_26 : decode cX10_gain 26 = .ok (.istore 5, 2) := by decide +kernel
theorem dX10_gain_28 : decode cX10_gain 28 = .ok (.iload 4, 2) := by decide +kernel
theorem dX10_gain_30 : decode cX10_gain 30 = .ok (.iconst 1, 1) := by decide +kernel
theorem dX10_gain_31 : decode cX10_gain 31 = .ok (.if_icmp .ne 14, 3) := by decide +kernel
theorem dX10_gain_34 : decode cX10_gain 34 = .ok (.aload_n 0, 1) := by decide +kernel
theorem dX10_gain_35 : decode cX10_gain 35 = .ok (.getfield 43, 3) := by decide +kernel
theorem dX10_gain_38 : decode cX10_gain 38 = .ok (.iload_n 2, 1) := by decide +kernel
theorem dX10_gain_39 : decode cX10_gain 39 = .ok (.iaload, 1) := by decide +kernel
theorem dX10_gain_40 : decode cX10_gain 40 = .ok (.iconst 2, 1) := by decide +kernel
theorem dX10_gain_41 : decode cX10_gain 41 = .ok (.idiv, 1) := by decide +kernel
theorem dX10_gain_42 : decode cX10_gain 42 = .ok (.goto 9, 3) := by decide +kernel
theorem dX10_gain_45 : decode cX10_gain 45 = .ok (.aload_n 0, 1) := by decide +kernel
theorem dX10_gain_46 : decode cX10_gain 46 = .ok (.getfield 43, 3) := by decide +kernel
theorem dX10_gain_49 : decode cX10_gain 49 = .ok (.iload_n 2, 1) := by decide +kernel
theorem dX10_gain_50 : decode cX10_gain 50 = .ok (.iaload, 1) := by decide +kernel
theorem dX10_gain_51 : decode cX10_gain 51 = .ok (.iload 5, 2) := by decide +kernel
theorem dX10_gain_53 : decode cX10_gain 53 = .ok (.isub, 1) := by decide +kernel
theorem dX10_gain_54 : decode cX10_gain 54 = .ok (.ireturn, 1) := by decide +kernel
theorem dX10_game_0 : decode cX10_game 0 = .ok (.aload_n 0, 1) := by decide +kernel
theorem dX10_game_1 : decode cX10_game 1 = .ok (.iconst 0, 1) := by decide +kernel
theorem dX10_game_2 : decode cX10_game 2 = .ok (.putfield 167, 3) := by decide +kernel
theorem dX10_game_5 : decode cX10_game 5 = .ok (.aload_n 0, 1) := by decide +kernel
theorem dX10_game_6 : decode cX10_game 6 = .ok (.iload_n 1, 1) := by decide +kernel
theorem dX10_game_7 : decode cX10_game 7 = .ok (.invokevirtual 400, 3) := by decide +kernel
theorem dX10_game_10 : decode cX10_game 10 = .ok (.ifCond .eq 30, 3) := by decide +kernel
theorem dX10_game_13 : decode cX10_game 13 = .ok (.aload_n 0, 1) := by decide +kernel
theorem dX10_game_14 : decode cX10_game 14 = .ok (.iload_n 2, 1) := by decide +kernel
theorem dX10_game_15 : decode cX10_game 15 = .ok (.invokevirtual 400, 3) := by decide +kernel
theorem dX10_game_18 : decode cX10_game 18 = .ok (.ifCond .eq 22, 3) := by decide +kernel
theorem dX10_game_21 : decode cX10_game 21 = .ok (.aload_n 0, 1) := by decide +kernel
theorem dX10_game_22 : decode cX10_game 22 = .ok (.iload_n 3, 1) := by decide +kernel
theorem dX10_game_23 : decode cX10_game 23 = .ok (.invokevirtual 392, 3) := by decide +kernel
theorem dX10_game_26 : decode cX10_game 26 = .ok (.ifCond .eq 14, 3) := by decide +kernel
theorem dX10_game_29 : decode cX10_game 29 = .ok (.iload 4, 2) := by decide +kernel
theorem dX10_game_31 : decode cX10_game 31 = .ok (.ifCond .lt 9, 3) := by decide +kernel
theorem dX10_game_34 : decode cX10_game 34 = .ok (.iload 4, 2) := by decide +kernel
theorem dX10_game_36 : decode cX10_game 36 = .ok (.iconst 1, 1) := by decide +kernel
theorem dX10_game_37 : decode cX10_game 37 = .ok (.if_icmp .le 9, 3) := by decide +kernel
theorem dX10_game_40 : decode cX10_game 40 = .ok (.aload_n 0, 1) := by decide +kernel
theorem dX10_game_41 : decode cX10_game 41 = .ok (.iconst 1, 1) := by decide +kernel
theorem dX10_game_42 : decode cX10_game 42 = .ok (.invokevirtual 325, 3) := by decide +kernel
theorem dX10_game_45 : decode cX10_game 45 = .ok (.ireturn, 1) := by decide +kernel
theorem dX10_game_46 : decode cX10_game 46 = .ok (.iload_n 1, 1) := by decide +kernel
theorem dX10_game_47 : decode cX10_game 47 = .ok (.iload_n 2, 1) := by decide +kernel
theorem dX10_game_48 : decode cX10_game 48 = .ok (.if_icmp .eq 23, 3) := by decide +kernel
theorem dX10_game_51 : decode cX10_game 51 = .ok (.aload_n 0, 1) := by decide +kernel
theorem dX10_game_52 : decode cX10_game 52 = .ok (.getfield 81, 3) := by decide +kernel
theorem dX10_game_55 : decode cX10_game 55 = .ok (.iload_n 1, 1) := by decide +kernel
theorem dX10_game_56 : decode cX10_game 56 = .ok (.iaload, 1) := by decide +kernel
theorem dX10_game_57 : decode cX10_game 57 = .ok (.aload_n 0, 1) := by decide +kernel
theorem dX10_game_58 : decode cX10_game 58 = .ok (.getfield 81, 3) := by decide +kernel
theorem dX10_game_61 : decode cX10_game 61 = .ok (.iload_n 2, 1) := by decide +kernel
theorem dX10_game_62 : decode cX10_game 62 = .ok (.iaload, 1) := by decide +kernel
theorem dX10_game_63 : decode cX10_game 63 = .ok (.iand, 1) := by decide +kernel
theorem dX10_game_64 : decode cX10_game 64 = .ok (.iload_n 3, 1) := by decide +kernel
theorem dX10_game_65 : decode cX10_game 65 = .ok (.invokestatic 298, 3) := by decide +kernel
theorem dX10_game_68 : decode cX10_game 68 = .ok (.ifCond .ne 9, 3) := by decide +kernel
theorem dX10_game_71 : decode cX10_game 71 = .ok (.aload_n 0, 1) := by decide +kernel
theorem dX10_game_72 : decode cX10_game 72 = .ok (.iconst 2, 1) := by decide +kernel
theorem dX10_game_73 : decode cX10_game 73 = .ok (.invokevirtual 325, 3) := by decide +kernel
theorem dX10_game_76 : decode cX10_game 76 = .ok (.ireturn, 1) := by decide +kernel
theorem dX10_game_77 : decode cX10_game 77 = .ok (.iconst 0, 1) := by decide +kernel
theorem dX10_game_78 : decode cX10_game 78 = .ok (.istore 5, 2) := by decide +kernel
theorem dX10_game_80 : decode cX10_game 80 = .ok (.iconst (-1), 1) := by decide +kernel
theorem dX10_game_81 : decode cX10_game 81 = .ok (.istore 6, 2) := by decide +kernel
theorem dX10_game_83 : decode cX10_game 83 = .ok (.iconst 0, 1) := by decide +kernel
theorem dX10_game_84 : decode cX10_game 84 = .ok (.istore 7, 2) := by decide +kernel
theorem dX10_game_86 : decode cX10_game 86 = .ok (.iload 7, 2) := by decide +kernel
theorem dX10_game_88 : decode cX10_game 88 = .ok (.iconst 4, 1) := by decide +kernel
theorem dX10_game_89 : decode cX10_game 89 = .ok (.if_icmp .ge 98, 3) := by decide +kernel
theorem dX10_game_92 : decode cX10_game 92 = .ok (.iload 7, 2) := by decide +kernel
theorem dX10_game_94 : decode cX10_game 94 = .ok (.iconst 2, 1) := by decide +kernel
theorem dX10_game_95 : decode cX10_game 95 = .ok (.idiv, 1) := by decide +kernel
theorem dX10_game_96 : decode cX10_game 96 = .ok (.istore 8, 2) := by decide +kernel
theorem dX10_game_98 : decode cX10_game 98 = .ok (.iload 7, 2) := by decide +kernel
theorem dX10_game_100 : decode cX10_game 100 = .ok (.iconst 2, 1) := by decide +kernel
theorem dX10_game_101 : decode cX10_game 101 = .ok (.irem, 1) := by decide +kernel
theorem dX10_game_102 : decode cX10_game 102 = .ok (.istore 9, 2) := by decide +kernel
theorem dX10_game_104 : decode cX10_game 104 = .ok (.aload_n 0, 1) := by decide +kernel
theorem dX10_game_105 : decode cX10_game 105 = .ok (.iload_n 1, 1) := by decide +kernel
theorem dX10_game_106 : decode cX10_game 106 = .ok (.iload_n 3, 1) := by decide +kernel
theorem dX10_game_107 : decode cX10_game 107 = .ok (.iconst 1, 1) := by decide +kernel
theorem dX10_game_108 : decode cX10_game 108 = .ok (.iload 8, 2) := by decide +kernel
theorem dX10_game_110 : decode cX10_game 110 = .ok (.isub, 1) := by decide +kernel
theorem dX10_game_111 : decode cX10_game 111 = .ok (.iload 9, 2) := by decide +kernel
theorem dX10_game_113 : decode cX10_game 113 = .ok (.invokevirtual 469, 3) := by decide +kernel
theorem dX10_game_116 : decode cX10_game 116 = .ok (.aload_n 0, 1) := by decide +kernel
theorem dX10_game_117 : decode cX10_game 117 = .ok (.iload_n 1, 1) := by decide +kernel
theorem dX10_game_118 : decode cX10_game 118 = .ok (.iload_n 3, 1) := by decide +kernel
theorem dX10_game_119 : decode cX10_game 119 = .ok (.iload 8, 2) := by decide +kernel
theorem dX10_game_121 : decode cX10_game 121 = .ok (.iload 9, 2) := by decide +kernel
theorem dX10_game_123 : decode cX10_game 123 = .ok (.invokevirtual 469, 3) := by decide +kernel
theorem dX10_game_126 : decode cX10_game 126 = .ok (.if_icmp .gt 55, 3) := by decide +kernel
theorem dX10_game_129 : decode cX10_game 129 = .ok (.aload_n 0, 1) := by decide +kernel
theorem dX10_game_130 : decode cX10_game 130 = .ok (.iload_n 2, 1) := by decide +kernel
theorem dX10_game_131 : decode cX10_game 131 = .ok (.iload_n 3, 1) := by decide +kernel
theorem dX10_game_132 : decode cX10_game 132 = .ok (.iconst 1, 1) := by decide +kernel
theorem dX10_game_133 : decode cX10_game 133 = .ok (.iload 9, 2) := by decide +kernel
theorem dX10_game_135 : decode cX10_game 135 = .ok (.isub, 1) := by decide +kernel
theorem dX10_game_136 : decode cX10_game 136 = .ok (.iload 8, 2) := by decide +kernel
theorem dX10_game_138 : decode cX10_game 138 = .ok (.invokevirtual 469, 3) := by decide +kernel
theorem dX10_game_141 : decode cX10_game 141 = .ok (.aload_n 0, 1) := by decide +kernel
theorem dX10_game_142 : decode cX10_game 142 = .ok (.iload_n 2, 1) := by decide +kernel
theorem dX10_game_143 : decode cX10_game 143 = .ok (.iload_n 3, 1) := by decide +kernel
theorem dX10_game_144 : decode cX10_game 144 = .ok (.iload 9, 2) := by decide +kernel
theorem dX10_game_146 : decode cX10_game 146 = .ok (.iload 8, 2) := by decide +kernel
theorem dX10_game_148 : decode cX10_game 148 = .ok (.invokevirtual 469, 3) := by decide +kernel
theorem dX10_game_151 : decode cX10_game 151 = .ok (.if_icmp .le 6, 3) := by decide +kernel
theorem dX10_game_154 : decode cX10_game 154 = .ok (.goto 27, 3) := by decide +kernel
theorem dX10_game_157 : decode cX10_game 157 = .ok (.iinc 5 1, 3) := by decide +kernel
theorem dX10_game_160 : decode cX10_game 160 = .ok (.iload 6, 2) := by decide +kernel
theorem dX10_game_162 : decode cX10_game 162 = .ok (.iconst (-1), 1) := by decide +kernel
theorem dX10_game_163 : decode cX10_game 163 = .ok (.if_icmp .ne 14, 3) := by decide +kernel
theorem dX10_game_166 : decode cX10_game 166 = .ok (.bipush 10, 2) := by decide +kernel
theorem dX10_game_168 : decode cX10_game 168 = .ok (.iload 8, 2) := by decide +kernel
theorem dX10_game_170 : decode cX10_game 170 = .ok (.imul, 1) := by decide +kernel
theorem dX10_game_171 : decode cX10_game 171 = .ok (.iload 9, 2) := by decide +kernel
theorem dX10_game_173 : decode cX10_game 173 = .ok (.iadd, 1) := by decide +kernel
theorem dX10_game_174 : decode cX10_game 174 = .ok (.goto 5, 3) := by decide +kernel
theorem dX10_game_177 : decode cX10_game 177 = .ok (.iload 6, 2) := by decide +kernel
theorem dX10_game_179 : decode cX10_game 179 = .ok (.istore 6, 2) := by decide +kernel
theorem dX10_game_181 : decode cX10_game 181 = .ok (.iinc 7 1, 3) := by decide +kernel
theorem dX10_game_184 : decode cX10_game 184 = .ok (.goto (-98), 3) := by decide +kernel
theorem dX10_game_187 : decode cX10_game 187 = .ok (.iload 4, 2) := by decide +kernel
theorem dX10_game_189 : decode cX10_game 189 = .ok (.ifCond .ne 8, 3) := by decide +kernel
theorem dX10_game_192 : decode cX10_game 192 = .ok (.iload 5, 2) := by decide +kernel
theorem dX10_game_194 : decode cX10_game 194 = .ok (.goto 5, 3) := by decide +kernel
theorem dX10_game_197 : decode cX10_game 197 = .ok (.iload 6, 2) := by decide +kernel
theorem dX10_game_199 : decode cX10_game 199 = .ok (.ireturn, 1) := by decide +kernel
theorem dX10_drawOf_0 : decode cX10_drawOf 0 = .ok (.aload_n 0, 1) := by decide +kernel
theorem dX10_drawOf_1 : decode cX10_drawOf 1 = .ok (.aload_n 0, 1) := by decide +kernel
theorem dX10_drawOf_2 : decode cX10_drawOf 2 = .ok (.getfield 473, 3) := by decide +kernel
theorem dX10_drawOf_5 : decode cX10_drawOf 5 = .ok (.ldc_w 476, 3) := by decide +kernel
theorem dX10_drawOf_8 : decode cX10_drawOf 8 = .ok (.imul, 1) := by decide +kernel
theorem dX10_drawOf_9 : decode cX10_drawOf 9 = .ok (.sipush 12345, 3) := by decide +kernel
theorem dX10_drawOf_12 : decode cX10_drawOf 12 = .ok (.iadd, 1) := by decide +kernel
theorem dX10_drawOf_13 : decode cX10_drawOf 13 = .ok (.putfield 473, 3) := by decide +kernel
theorem dX10_drawOf_16 : decode cX10_drawOf 16 = .ok (.aload_n 0, 1) := by decide +kernel
theorem dX10_drawOf_17 : decode cX10_drawOf 17 = .ok (.getfield 473, 3) := by decide +kernel
theorem dX10_drawOf_20 : decode cX10_drawOf 20 = .ok (.bipush 16, 2) := by decide +kernel
theorem dX10_drawOf_22 : decode cX10_drawOf 22 = .ok (.ishr, 1) := by decide +kernel
theorem dX10_drawOf_23 : decode cX10_drawOf 23 = .ok (.sipush 32767, 3) := by decide +kernel
theorem dX10_drawOf_26 : decode cX10_drawOf 26 = .ok (.iand, 1) := by decide +kernel
theorem dX10_drawOf_27 : decode cX10_drawOf 27 = .ok (.iload_n 1, 1) := by decide +kernel
theorem dX10_drawOf_28 : decode cX10_drawOf 28 = .ok (.irem, 1) := by decide +kernel
theorem dX10_drawOf_29 : decode cX10_drawOf 29 = .ok (.ireturn, 1) := by decide +kernel
theorem dX10_lark_0 : decode cX10_lark 0 = .ok (.aload_n 0, 1) := by decide +kernel
theorem dX10_lark_1 : decode cX10_lark 1 = .ok (.getfield 39, 3) := by decide +kernel
theorem dX10_lark_4 : decode cX10_lark 4 = .ok (.iconst 0, 1) := by decide +kernel
theorem dX10_lark_5 : decode cX10_lark 5 = .ok (.iaload, 1) := by decide +kernel
theorem dX10_lark_6 : decode cX10_lark 6 = .ok (.ifCond .eq 12, 3) := by decide +kernel
theorem dX10_lark_9 : decode cX10_lark 9 = .ok (.aload_n 0, 1) := by decide +kernel
theorem dX10_lark_10 : decode cX10_lark 10 = .ok (.getfield 39, 3) := by decide +kernel
theorem dX10_lark_13 : decode cX10_lark 13 = .ok (.iconst 2, 1) := by decide +kernel
theorem dX10_lark_14 : decode cX10_lark 14 = .ok (.iaload, 1) := by decide +kernel
theorem dX10_lark_15 : decode cX10_lark 15 = .ok (.ifCond .ne 4, 3) := by decide +kernel
theorem dX10_lark_18 : decode cX10_lark 18 = .ok (.return_, 1) := by decide +kernel
theorem dX10_lark_19 : decode cX10_lark 19 = .ok (.aload_n 0, 1) := by decide +kernel
theorem dX10_lark_20 : decode cX10_lark 20 = .ok (.aload_n 0, 1) := by decide +kernel
theorem dX10_lark_21 : decode cX10_lark 21 = .ok (.getfield 39, 3) := by decide +kernel
theorem dX10_lark_24 : decode cX10_lark 24 = .ok (.iconst 0, 1) := by decide +kernel
theorem dX10_lark_25 : decode cX10_lark 25 = .ok (.iaload, 1) := by decide +kernel
theorem dX10_lark_26 : decode cX10_lark 26 = .ok (.invokevirtual 477, 3) := by decide +kernel
theorem dX10_lark_29 : decode cX10_lark 29 = .ok (.istore_n 1, 1) := by decide +kernel
theorem dX10_lark_30 : decode cX10_lark 30 = .ok (.aload_n 0, 1) := by decide +kernel
theorem dX10_lark_31 : decode cX10_lark 31 = .ok (.aload_n 0, 1) := by decide +kernel
theorem dX10_lark_32 : decode cX10_lark 32 = .ok (.aload_n 0, 1) := by decide +kernel
theorem dX10_lark_33 : decode cX10_lark 33 = .ok (.getfield 39, 3) := by decide +kernel
theorem dX10_lark_36 : decode cX10_lark 36 = .ok (.iconst 2, 1) := by decide +kernel
theorem dX10_lark_37 : decode cX10_lark 37 = .ok (.iaload, 1) := by decide +kernel
theorem dX10_lark_38 : decode cX10_lark 38 = .ok (.invokevirtual 477, 3) := by decide +kernel
theorem dX10_lark_41 : decode cX10_lark 41 = .ok (.invokevirtual 359, 3) := by decide +kernel
theorem dX10_lark_44 : decode cX10_lark 44 = .ok (.istore_n 2, 1) := by decide +kernel
theorem dX10_lark_45 : decode cX10_lark 45 = .ok (.aload_n 0, 1) := by decide +kernel
theorem dX10_lark_46 : decode cX10_lark 46 = .ok (.iload_n 2, 1) := by decide +kernel
theorem dX10_lark_47 : decode cX10_lark 47 = .ok (.iconst (-1), 1) := by decide +kernel
theorem dX10_lark_48 : decode cX10_lark 48 = .ok (.invokevirtual 375, 3) := by decide +kernel
theorem dX10_lark_51 : decode cX10_lark 51 = .ok (.istore_n 3, 1) := by decide +kernel
theorem dX10_lark_52 : decode cX10_lark 52 = .ok (.iconst 0, 1) := by decide +kernel
theorem dX10_lark_53 : decode cX10_lark 53 = .ok (.istore 4, 2) := by decide +kernel
theorem dX10_lark_55 : decode cX10_lark 55 = .ok (.iload 4, 2) := by decide +kernel
theorem dX10_lark_57 : decode cX10_lark 57 = .ok (.aload_n 0, 1) := by decide +kernel
theorem dX10_lark_58 : decode cX10_lark 58 = .ok (.getfield 39, 3) := by decide +kernel
theorem dX10_lark_61 : decode cX10_lark 61 = .ok (.iconst 2, 1) := by decide +kernel
theorem dX10_lark_62 : decode cX10_lark 62 = .ok (.iaload, 1) := by decide +kernel
theorem dX10_lark_63 : decode cX10_lark 63 = .ok (.if_icmp .ge 35, 3) := by decide +kernel
theorem dX10_lark_66 : decode cX10_lark 66 = .ok (.aload_n 0, 1) := by decide +kernel
theorem dX10_lark_67 : decode cX10_lark 67 = .ok (.getfield 81, 3) := by decide +kernel
theorem dX10_lark_70 : decode cX10_lark 70 = .ok (.iload 4, 2) := by decide +kernel
theorem dX10_lark_72 : decode cX10_lark 72 = .ok (.dup2, 1) := by decide +kernel
theorem dX10_lark_73 : decode cX10_lark 73 = .ok (.iaload, 1) := by decide +kernel
theorem dX10_lark_74 : decode cX10_lark 74 = .ok (.iload_n 3, 1) := by decide +kernel
theorem dX10_lark_75 : decode cX10_lark 75 = .ok (.iload 4, 2) := by decide +kernel
theorem dX10_lark_77 : decode cX10_lark 77 = .ok (.invokestatic 298, 3) := by decide +kernel
theorem dX10_lark_80 : decode cX10_lark 80 = .ok (.ifCond .eq 9, 3) := by decide +kernel
theorem dX10_lark_83 : decode cX10_lark 83 = .ok (.iconst 1, 1) := by decide +kernel
theorem dX10_lark_84 : decode cX10_lark 84 = .ok (.iload_n 1, 1) := by decide +kernel
theorem dX10_lark_85 : decode cX10_lark 85 = .ok (.ishl, 1) := by decide +kernel
theorem dX10_lark_86 : decode cX10_lark 86 = .ok (.goto 4, 3) := by decide +kernel
theorem dX10_lark_89 : decode cX10_lark 89 = .ok (.iconst 0, 1) := by decide +kernel
theorem dX10_lark_90 : decode cX10_lark 90 = .ok (.ior, 1) := by decide +kernel
theorem dX10_lark_91 : decode cX10_lark 91 = .ok (.iastore, 1) := by decide +kernel
theorem dX10_lark_92 : decode cX10_lark 92 = .ok (.iinc 4 1, 3) := by decide +kernel
theorem dX10_lark_95 : decode cX10_lark 95 = .ok (.goto (-40), 3) := by decide +kernel
theorem dX10_lark_98 : decode cX10_lark 98 = .ok (.return_, 1) := by decide +kernel
theorem dX10_larks_0 : decode cX10_larks 0 = .ok (.aload_n 0, 1) := by decide +kernel
theorem dX10_larks_1 : decode cX10_larks 1 = .ok (.iconst 0, 1) := by decide +kernel
theorem dX10_larks_2 : decode cX10_larks 2 = .ok (.putfield 167, 3) := by decide +kernel
theorem dX10_larks_5 : decode cX10_larks 5 = .ok (.iload_n 3, 1) := by decide +kernel
theorem dX10_larks_6 : decode cX10_larks 6 = .ok (.i2l, 1) := by decide +kernel
theorem dX10_larks_7 : decode cX10_larks 7 = .ok (.lconst 0, 1) := by decide +kernel
theorem dX10_larks_8 : decode cX10_larks 8 = .ok (.ldc2_w 458, 3) := by decide +kernel
theorem dX10_larks_11 : decode cX10_larks 11 = .ok (.invokestatic 170, 3) := by decide +kernel
theorem dX10_larks_14 : decode cX10_larks 14 = .ok (.ifCond .ne 9, 3) := by decide +kernel
theorem dX10_larks_17 : decode cX10_larks 17 = .ok (.aload_n 0, 1) := by decide +kernel
theorem dX10_larks_18 : decode cX10_larks 18 = .ok (.iconst 1, 1) := by decide +kernel
theorem dX10_larks_19 : decode cX10_larks 19 = .ok (.invokevirtual 325, 3) := by decide +kernel
theorem dX10_larks_22 : decode cX10_larks 22 = .ok (.ireturn, 1) := by decide +kernel
theorem dX10_larks_23 : decode cX10_larks 23 = .ok (.iload_n 2, 1) := by decide +kernel
theorem dX10_larks_24 : decode cX10_larks 24 = .ok (.i2l, 1) := by decide +kernel
theorem dX10_larks_25 : decode cX10_larks 25 = .ok (.lconst 0, 1) := by decide +kernel
theorem dX10_larks_26 : decode cX10_larks 26 = .ok (.ldc2_w 433, 3) := by decide +kernel
theorem dX10_larks_29 : decode cX10_larks 29 = .ok (.invokestatic 170, 3) := by decide +kernel
theorem dX10_larks_32 : decode cX10_larks 32 = .ok (.ifCond .ne 9, 3) := by decide +kernel
theorem dX10_larks_35 : decode cX10_larks 35 = .ok (.aload_n 0, 1) := by decide +kernel
theorem dX10_larks_36 : decode cX10_larks 36 = .ok (.iconst 2, 1) := by decide +kernel
theorem dX10_larks_37 : decode cX10_larks 37 = .ok (.invokevirtual 325, 3) := by decide +kernel
theorem dX10_larks_40 : decode cX10_larks 40 = .ok (.ireturn, 1) := by decide +kernel
theorem dX10_larks_41 : decode cX10_larks 41 = .ok (.aload_n 0, 1) := by decide +kernel
theorem dX10_larks_42 : decode cX10_larks 42 = .ok (.aload_n 0, 1) := by decide +kernel
theorem dX10_larks_43 : decode cX10_larks 43 = .ok (.getfield 116, 3) := by decide +kernel
theorem dX10_larks_46 : decode cX10_larks 46 = .ok (.iconst 0, 1) := by decide +kernel
theorem dX10_larks_47 : decode cX10_larks 47 = .ok (.invokevirtual 406, 3) := by decide +kernel
theorem dX10_larks_50 : decode cX10_larks 50 = .ok (.aload_n 0, 1) := by decide +kernel
theorem dX10_larks_51 : decode cX10_larks 51 = .ok (.iload_n 1, 1) := by decide +kernel
theorem dX10_larks_52 : decode cX10_larks 52 = .ok (.putfield 473, 3) := by decide +kernel
theorem dX10_larks_55 : decode cX10_larks 55 = .ok (.aload_n 0, 1) := by decide +kernel
theorem dX10_larks_56 : decode cX10_larks 56 = .ok (.getfield 340, 3) := by decide +kernel
theorem dX10_larks_59 : decode cX10_larks 59 = .ok (.istore 4, 2) := by decide +kernel
theorem dX10_larks_61 : decode cX10_larks 61 = .ok (.iconst 0, 1) := by decide +kernel
theorem dX10_larks_62 : decode cX10_larks 62 = .ok (.istore 5, 2) := by decide +kernel
theorem dX10_larks_64 : decode cX10_larks 64 = .ok (.iload 5, 2) := by decide +kernel
theorem dX10_larks_66 : decode cX10_larks 66 = .ok (.iload_n 2, 1) := by decide +kernel
theorem dX10_larks_67 : decode cX10_larks 67 = .ok (.if_icmp .ge 17, 3) := by decide +kernel
theorem dX10_larks_70 : decode cX10_larks 70 = .ok (.aload_n 0, 1) := by decide +kernel
theorem dX10_larks_71 : decode cX10_larks 71 = .ok (.invokevirtual 480, 3) := by decide +kernel
theorem dX10_larks_74 : decode cX10_larks 74 = .ok (.aload_n 0, 1) := by decide +kernel
theorem dX10_larks_75 : decode cX10_larks 75 = .ok (.invokevirtual 389, 3) := by decide +kernel
theorem dX10_larks_78 : decode cX10_larks 78 = .ok (.iinc 5 1, 3) := by decide +kernel
theorem dX10_larks_81 : decode cX10_larks 81 = .ok (.goto (-17), 3) := by decide +kernel
theorem dX10_larks_84 : decode cX10_larks 84 = .ok (.aload_n 0, 1) := by decide +kernel
theorem dX10_larks_85 : decode cX10_larks 85 = .ok (.getfield 340, 3) := by decide +kernel
theorem dX10_larks_88 : decode cX10_larks 88 = .ok (.iload 4, 2) := by decide +kernel
theorem dX10_larks_90 : decode cX10_larks 90 = .ok (.isub, 1) := by decide +kernel
theorem dX10_larks_91 : decode cX10_larks 91 = .ok (.istore 5, 2) := by decide +kernel
theorem dX10_larks_93 : decode cX10_larks 93 = .ok (.iconst 0, 1) := by decide +kernel
theorem dX10_larks_94 : decode cX10_larks 94 = .ok (.istore 6, 2) := by decide +kernel
theorem dX10_larks_96 : decode cX10_larks 96 = .ok (.aload_n 0, 1) := by decide +kernel
theorem dX10_larks_97 : decode cX10_larks 97 = .ok (.getfield 39, 3) := by decide +kernel
theorem dX10_larks_100 : decode cX10_larks 100 = .ok (.iconst 2, 1) := by decide +kernel
theorem dX10_larks_101 : decode cX10_larks 101 = .ok (.iaload, 1) := by decide +kernel
theorem dX10_larks_102 : decode cX10_larks 102 = .ok (.ifCond .ne 7, 3) := by decide +kernel
theorem dX10_larks_105 : decode cX10_larks 105 = .ok (.iconst 0, 1) := by decide +kernel
theorem dX10_larks_106 : decode cX10_larks 106 = .ok (.goto 6, 3) := by decide +kernel
theorem dX10_larks_109 : decode cX10_larks 109 = .ok (.sipush (-9999), 3) := by decide +kernel
theorem dX10_larks_112 : decode cX10_larks 112 = .ok (.istore 7, 2) := by decide +kernel
theorem dX10_larks_114 : decode cX10_larks 114 = .ok (.iconst 0, 1) := by decide +kernel
theorem dX10_larks_115 : decode cX10_larks 115 = .ok (.istore 8, 2) := by decide +kernel
theorem dX10_larks_117 : decode cX10_larks 117 = .ok (.iload 8, 2) := by decide +kernel
theorem dX10_larks_119 : decode cX10_larks 119 = .ok (.aload_n 0, 1) := by decide +kernel
theorem dX10_larks_120 : decode cX10_larks 120 = .ok (.getfield 39, 3) := by decide +kernel
theorem dX10_larks_123 : decode cX10_larks 123 = .ok (.iconst 2, 1) := by decide +kernel
theorem dX10_larks_124 : decode cX10_larks 124 = .ok (.iaload, 1) := by decide +kernel
theorem dX10_larks_125 : decode cX10_larks 125 = .ok (.if_icmp .ge 38, 3) := by decide +kernel
theorem dX10_larks_128 : decode cX10_larks 128 = .ok (.iload 6, 2) := by decide +kernel
theorem dX10_larks_130 : decode cX10_larks 130 = .ok (.aload_n 0, 1) := by decide +kernel
theorem dX10_larks_131 : decode cX10_larks 131 = .ok (.getfield 81, 3) := by decide +kernel
theorem dX10_larks_134 : decode cX10_larks 134 = .ok (.iload 8, 2) := by decide +kernel
theorem dX10_larks_136 : decode cX10_larks 136 = .ok (.iaload, 1) := by decide +kernel
theorem dX10_larks_137 : decode cX10_larks 137 = .ok (.invokestatic 362, 3) := by decide +kernel
theorem dX10_larks_140 : decode cX10_larks 140 = .ok (.iadd, 1) := by decide +kernel
theorem dX10_larks_141 : decode cX10_larks 141 = .ok (.istore 6, 2) := by decide +kernel
theorem dX10_larks_143 : decode cX10_larks 143 = .ok (.iload 7, 2) := by decide +kernel
theorem dX10_larks_145 : decode cX10_larks 145 = .ok (.aload_n 0, 1) := by decide +kernel
theorem dX10_larks_146 : decode cX10_larks 146 = .ok (.getfield 83, 3) := by decide +kernel
theorem dX10_larks_149 : decode cX10_larks 149 = .ok (.iload 8, 2) := by decide +kernel
theorem dX10_larks_151 : decode cX10_larks 151 = .ok (.iaload, 1) := by decide +kernel
theorem dX10_larks_152 : decode cX10_larks 152 = .ok (.invokestatic 369, 3) := by decide +kernel
theorem dX10_larks_155 : decode cX10_larks 155 = .ok (.istore 7, 2) := by decide +kernel
theorem dX10_larks_157 : decode cX10_larks 157 = .ok (.iinc 8 1, 3) := by decide +kernel
theorem dX10_larks_160 : decode cX10_larks 160 = .ok (.goto (-43), 3) := by decide +kernel
theorem dX10_larks_163 : decode cX10_larks 163 = .ok (.aload_n 0, 1) := by decide +kernel
theorem dX10_larks_164 : decode cX10_larks 164 = .ok (.aload_n 0, 1) := by decide +kernel
theorem dX10_larks_165 : decode cX10_larks 165 = .ok (.getfield 116, 3) := by decide +kernel
theorem dX10_larks_168 : decode cX10_larks 168 = .ok (.iconst 0, 1) := by decide +kernel
theorem dX10_larks_169 : decode cX10_larks 169 = .ok (.invokevirtual 430, 3) := by decide +kernel
theorem dX10_larks_172 : decode cX10_larks 172 = .ok (.iload_n 3, 1) := by decide +kernel
theorem dX10_larks_173 : decode cX10_larks 173 = .ok (.ifCond .ne 8, 3) := by decide +kernel
theorem dX10_larks_176 : decode cX10_larks 176 = .ok (.iload 6, 2) := by decide +kernel
theorem dX10_larks_178 : decode cX10_larks 178 = .ok (.goto 15, 3) := by decide +kernel
theorem dX10_larks_181 : decode cX10_larks 181 = .ok (.iload_n 3, 1) := by decide +kernel
theorem dX10_larks_182 : decode cX10_larks 182 = .ok (.iconst 1, 1) := by decide +kernel
theorem dX10_larks_183 : decode cX10_larks 183 = .ok (.if_icmp .ne 8, 3) := by decide +kernel
theorem dX10_larks_186 : decode cX10_larks 186 = .ok (.iload 5, 2) := by decide +kernel
theorem dX10_larks_188 : decode cX10_larks 188 = .ok (.goto 5, 3) := by decide +kernel
theorem dX10_larks_191 : decode cX10_larks 191 = .ok (.iload 7, 2) := by decide +kernel
theorem dX10_larks_193 : decode cX10_larks 193 = .ok (.ireturn, 1) := by decide +kernel
theorem dX10_copyTo_0 : decode cX10_copyTo 0 = .ok (.iconst 0, 1) := by decide +kernel
theorem dX10_copyTo_1 : decode cX10_copyTo 1 = .ok (.istore_n 2, 1) := by decide +kernel
theorem dX10_copyTo_2 : decode cX10_copyTo 2 = .ok (.iload_n 2, 1) := by decide +kernel
theorem dX10_copyTo_3 : decode cX10_copyTo 3 = .ok (.aload_n 0, 1) := by decide +kernel
theorem dX10_copyTo_4 : decode cX10_copyTo 4 = .ok (.arraylength, 1) := by decide +kernel
theorem dX10_copyTo_5 : decode cX10_copyTo 5 = .ok (.if_icmp .ge 15, 3) := by decide +kernel
theorem dX10_copyTo_8 : decode cX10_copyTo 8 = .ok (.aload_n 0, 1) := by decide +kernel
theorem dX10_copyTo_9 : decode cX10_copyTo 9 = .ok (.iload_n 2, 1) := by decide +kernel
theorem dX10_copyTo_10 : decode cX10_copyTo 10 = .ok (.aload_n 1, 1) := by decide +kernel
theorem dX10_copyTo_11 : decode cX10_copyTo 11 = .ok (.iload_n 2, 1) := by decide +kernel
theorem dX10_copyTo_12 : decode cX10_copyTo 12 = .ok (.iaload, 1) := by decide +kernel
theorem dX10_copyTo_13 : decode cX10_copyTo 13 = .ok (.iastore, 1) := by decide +kernel
theorem dX10_copyTo_14 : decode cX10_copyTo 14 = .ok (.iinc 2 1, 3) := by decide +kernel
theorem dX10_copyTo_17 : decode cX10_copyTo 17 = .ok (.goto (-15), 3) := by decide +kernel
theorem dX10_copyTo_20 : decode cX10_copyTo 20 = .ok (.return_, 1) := by decide +kernel
theorem dX10_image_0 : decode cX10_image 0 = .ok (.aload_n 0, 1) := by decide +kernel
theorem dX10_image_1 : decode cX10_image 1 = .ok (.iconst 0, 1) := by decide +kernel
theorem dX10_image_2 : decode cX10_image 2 = .ok (.putfield 167, 3) := by decide +kernel
theorem dX10_image_5 : decode cX10_image 5 = .ok (.aload_n 0, 1) := by decide +kernel
theorem dX10_image_6 : decode cX10_image 6 = .ok (.iconst 1, 1) := by decide +kernel
theorem dX10_image_7 : decode cX10_image 7 = .ok (.putfield 352, 3) := by decide +kernel
theorem dX10_image_10 : decode cX10_image 10 = .ok (.aload_n 0, 1) := by decide +kernel
theorem dX10_image_11 : decode cX10_image 11 = .ok (.aload_n 0, 1) := by decide +kernel
theorem dX10_image_12 : decode cX10_image 12 = .ok (.getfield 346, 3) := by decide +kernel
theorem dX10_image_15 : decode cX10_image 15 = .ok (.putfield 483, 3) := by decide +kernel
theorem dX10_image_18 : decode cX10_image 18 = .ok (.aload_n 0, 1) := by decide +kernel
theorem dX10_image_19 : decode cX10_image 19 = .ok (.aload_n 0, 1) := by decide +kernel
theorem dX10_image_20 : decode cX10_image 20 = .ok (.getfield 349, 3) := by decide +kernel
theorem dX10_image_23 : decode cX10_image 23 = .ok (.putfield 486, 3) := by decide +kernel
theorem dX10_image_26 : decode cX10_image 26 = .ok (.aload_n 0, 1) := by decide +kernel
theorem dX10_image_27 : decode cX10_image 27 = .ok (.aload_n 0, 1) := by decide +kernel
theorem dX10_image_28 : decode cX10_image 28 = .ok (.getfield 149, 3) := by decide +kernel
theorem dX10_image_31 : decode cX10_image 31 = .ok (.iconst 0, 1) := by decide +kernel
theorem dX10_image_32 : decode cX10_image 32 = .ok (.invokevirtual 406, 3) := by decide +kernel
theorem dX10_image_35 : decode cX10_image 35 = .ok (.aload_n 0, 1) := by decide +kernel
theorem dX10_image_36 : decode cX10_image 36 = .ok (.getfield 152, 3) := by decide +kernel
theorem dX10_image_39 : decode cX10_image 39 = .ok (.aload_n 0, 1) := by decide +kernel
theorem dX10_image_40 : decode cX10_image 40 = .ok (.getfield 95, 3) := by decide +kernel
theorem dX10_image_43 : decode cX10_image 43 = .ok (.invokestatic 489, 3) := by decide +kernel
theorem dX10_image_46 : decode cX10_image 46 = .ok (.aload_n 0, 1) := by decide +kernel
theorem dX10_image_47 : decode cX10_image 47 = .ok (.getfield 155, 3) := by decide +kernel
theorem dX10_image_50 : decode cX10_image 50 = .ok (.aload_n 0, 1) := by decide +kernel
theorem dX10_image_51 : decode cX10_image 51 = .ok (.getfield 128, 3) := by decide +kernel
theorem dX10_image_54 : decode cX10_image 54 = .ok (.invokestatic 489, 3) := by decide +kernel
theorem dX10_image_57 : decode cX10_image 57 = .ok (.aload_n 0, 1) := by decide +kernel
theorem dX10_image_58 : decode cX10_image 58 = .ok (.getfield 158, 3) := by decide +kernel
theorem dX10_image_61 : decode cX10_image 61 = .ok (.aload_n 0, 1) := by decide +kernel
theorem dX10_image_62 : decode cX10_image 62 = .ok (.getfield 131, 3) := by decide +kernel
theorem dX10_image_65 : decode cX10_image 65 = .ok (.invokestatic 489, 3) := by decide +kernel
theorem dX10_image_68 : decode cX10_image 68 = .ok (.aload_n 0, 1) := by decide +kernel
theorem dX10_image_69 : decode cX10_image 69 = .ok (.getfield 161, 3) := by decide +kernel
theorem dX10_image_72 : decode cX10_image 72 = .ok (.aload_n 0, 1) := by decide +kernel
theorem dX10_image_73 : decode cX10_image 73 = .ok (.getfield 134, 3) := by decide +kernel
theorem dX10_image_76 : decode cX10_image 76 = .ok (.invokestatic 489, 3) := by decide +kernel
theorem dX10_image_79 : decode cX10_image 79 = .ok (.aload_n 0, 1) := by decide +kernel
theorem dX10_image_80 : decode cX10_image 80 = .ok (.getfield 164, 3) := by decide +kernel
theorem dX10_image_83 : decode cX10_image 83 = .ok (.aload_n 0, 1) := by decide +kernel
theorem dX10_image_84 : decode cX10_image 84 = .ok (.getfield 71, 3) := by decide +kernel
theorem dX10_image_87 : decode cX10_image 87 = .ok (.invokestatic 489, 3) := by decide +kernel
theorem dX10_image_90 : decode cX10_image 90 = .ok (.return_, 1) := by decide +kernel
theorem dX10_restore_0 : decode cX10_restore 0 = .ok (.aload_n 0, 1) := by decide +kernel
theorem dX10_restore_1 : decode cX10_restore 1 = .ok (.iconst 0, 1) := by decide +kernel
theorem dX10_restore_2 : decode cX10_restore 2 = .ok (.putfield 167, 3) := by decide +kernel
theorem dX10_restore_5 : decode cX10_restore 5 = .ok (.aload_n 0, 1) := by decide +kernel
theorem dX10_restore_6 : decode cX10_restore 6 = .ok (.getfield 352, 3) := by decide +kernel
theorem dX10_restore_9 : decode cX10_restore 9 = .ok (.ifCond .ne 5, 3) := by decide +kernel
theorem dX10_restore_12 : decode cX10_restore 12 = .ok (.iconst 0, 1) := by decide +kernel
theorem dX10_restore_13 : decode cX10_restore 13 = .ok (.ireturn, 1) := by decide +kernel
theorem dX10_restore_14 : decode cX10_restore 14 = .ok (.aload_n 0, 1) := by decide +kernel
theorem dX10_restore_15 : decode cX10_restore 15 = .ok (.aload_n 0, 1) := by decide +kernel
theorem dX10_restore_16 : decode cX10_restore 16 = .ok (.getfield 483, 3) := by decide +kernel
theorem dX10_restore_19 : decode cX10_restore 19 = .ok (.putfield 346, 3) := by decide +kernel
theorem dX10_restore_22 : decode cX10_restore 22 = .ok (.aload_n 0, 1) := by decide +kernel
theorem dX10_restore_23 : decode cX10_restore 23 = .ok (.aload_n 0, 1) := by decide +kernel
theorem dX10_restore_24 : decode cX10_restore 24 = .ok (.getfield 486, 3) := by decide +kernel
theorem dX10_restore_27 : decode cX10_restore 27 = .ok (.putfield 349, 3) := by decide +kernel
theorem dX10_restore_30 : decode cX10_restore 30 = .ok (.aload_n 0, 1) := by decide +kernel
theorem dX10_restore_31 : decode cX10_restore 31 = .ok (.aload_n 0, 1) := by decide +kernel
theorem dX10_restore_32 : decode cX10_restore 32 = .ok (.getfield 149, 3) := by decide +kernel
theorem dX10_restore_35 : decode cX10_restore 35 = .ok (.iconst 0, 1) := by decide +kernel
theorem dX10_restore_36 : decode cX10_restore 36 = .ok (.invokevirtual 430, 3) := by decide +kernel
theorem dX10_restore_39 : decode cX10_restore 39 = .ok (.aload_n 0, 1) := by decide +kernel
theorem dX10_restore_40 : decode cX10_restore 40 = .ok (.getfield 95, 3) := by decide +kernel
theorem dX10_restore_43 : decode cX10_restore 43 = .ok (.aload_n 0, 1) := by decide +kernel
theorem dX10_restore_44 : decode cX10_restore 44 = .ok (.getfield 152, 3) := by decide +kernel
theorem dX10_restore_47 : decode cX10_restore 47 = .ok (.invokestatic 489, 3) := by decide +kernel
theorem dX10_restore_50 : decode cX10_restore 50 = .ok (.aload_n 0, 1) := by decide +kernel
theorem dX10_restore_51 : decode cX10_restore 51 = .ok (.getfield 128, 3) := by decide +kernel
theorem dX10_restore_54 : decode cX10_restore 54 = .ok (.aload_n 0, 1) := by decide +kernel
theorem dX10_restore_55 : decode cX10_restore 55 = .ok (.getfield 155, 3) := by decide +kernel
theorem dX10_restore_58 : decode cX10_restore 58 = .ok (.invokestatic 489, 3) := by decide +kernel
theorem dX10_restore_61 : decode cX10_restore 61 = .ok (.aload_n 0, 1) := by decide +kernel
theorem dX10_restore_62 : decode cX10_restore 62 = .ok (.getfield 131, 3) := by decide +kernel
theorem dX10_restore_65 : decode cX10_restore 65 = .ok (.aload_n 0, 1) := by decide +kernel
theorem dX10_restore_66 : decode cX10_restore 66 = .ok (.getfield 158, 3) := by decide +kernel
theorem dX10_restore_69 : decode cX10_restore 69 = .ok (.invokestatic 489, 3) := by decide +kernel
theorem dX10_restore_72 : decode cX10_restore 72 = .ok (.aload_n 0, 1) := by decide +kernel
theorem dX10_restore_73 : decode cX10_restore 73 = .ok (.getfield 134, 3) := by decide +kernel
theorem dX10_restore_76 : decode cX10_restore 76 = .ok (.aload_n 0, 1) := by decide +kernel
theorem dX10_restore_77 : decode cX10_restore 77 = .ok (.getfield 161, 3) := by decide +kernel
theorem dX10_restore_80 : decode cX10_restore 80 = .ok (.invokestatic 489, 3) := by decide +kernel
theorem dX10_restore_83 : decode cX10_restore 83 = .ok (.aload_n 0, 1) := by decide +kernel
theorem dX10_restore_84 : decode cX10_restore 84 = .ok (.getfield 71, 3) := by decide +kernel
theorem dX10_restore_87 : decode cX10_restore 87 = .ok (.aload_n 0, 1) := by decide +kernel
theorem dX10_restore_88 : decode cX10_restore 88 = .ok (.getfield 164, 3) := by decide +kernel
theorem dX10_restore_91 : decode cX10_restore 91 = .ok (.invokestatic 489, 3) := by decide +kernel
theorem dX10_restore_94 : decode cX10_restore 94 = .ok (.iconst 1, 1) := by decide +kernel
theorem dX10_restore_95 : decode cX10_restore 95 = .ok (.ireturn, 1) := by decide +kernel
