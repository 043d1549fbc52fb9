theorem dX10_pack_123 : decode cX10_pack 123 = .ok (.iload 4, 2) := by decide +kernel
theorem dX10_pack_125 : decode cX10_pack 125 = .ok (.iadd, 1) := by decide +kernel
theorem dX10_pack_126 : decode cX10_pack 126 = .ok (.aload_n 0, 1) := by decide +kernel
theorem dX10_pack_127 : decode cX10_pack 127 = .ok (.getfield 89, 3) := by decide +kernel
theorem dX10_pack_130 : decode cX10_pack 130 = .ok (.iload 4, 2) := by decide +kernel
theorem dX10_pack_132 : decode cX10_pack 132 = .ok (.iaload, 1) := by decide +kernel
theorem dX10_pack_133 : decode cX10_pack 133 = .ok (.iastore, 1) := by decide +kernel
theorem dX10_pack_134 : decode cX10_pack 134 = .ok (.iinc 4 1, 3) := by decide +kernel
theorem dX10_pack_137 : decode cX10_pack 137 = .ok (.goto (-26), 3) := by decide +kernel
theorem dX10_pack_140 : decode cX10_pack 140 = .ok (.iload_n 3, 1) := by decide +kernel
theorem dX10_pack_141 : decode cX10_pack 141 = .ok (.aload_n 0, 1) := by decide +kernel
theorem dX10_pack_142 : decode cX10_pack 142 = .ok (.getfield 89, 3) := by decide +kernel
theorem dX10_pack_145 : decode cX10_pack 145 = .ok (.arraylength, 1) := by decide +kernel
theorem dX10_pack_146 : decode cX10_pack 146 = .ok (.iadd, 1) := by decide +kernel
theorem dX10_pack_147 : decode cX10_pack 147 = .ok (.istore_n 3, 1) := by decide +kernel
theorem dX10_pack_148 : decode cX10_pack 148 = .ok (.iconst 0, 1) := by decide +kernel
theorem dX10_pack_149 : decode cX10_pack 149 = .ok (.istore 4, 2) := by decide +kernel
theorem dX10_pack_151 : decode cX10_pack 151 = .ok (.iload 4, 2) := by decide +kernel
theorem dX10_pack_153 : decode cX10_pack 153 = .ok (.bipush 8, 2) := by decide +kernel
theorem dX10_pack_155 : decode cX10_pack 155 = .ok (.if_icmp .ge 22, 3) := by decide +kernel
theorem dX10_pack_158 : decode cX10_pack 158 = .ok (.aload_n 1, 1) := by decide +kernel
theorem dX10_pack_159 : decode cX10_pack 159 = .ok (.iload_n 3, 1) := by decide +kernel
theorem dX10_pack_160 : decode cX10_pack 160 = .ok (.iload 4, 2) := by decide +kernel
theorem dX10_pack_162 : decode cX10_pack 162 = .ok (.iadd, 1) := by decide +kernel
theorem dX10_pack_163 : decode cX10_pack 163 = .ok (.aload_n 0, 1) := by decide +kernel
theorem dX10_pack_164 : decode cX10_pack 164 = .ok (.getfield 92, 3) := by decide +kernel
theorem dX10_pack_167 : decode cX10_pack 167 = .ok (.iload 4, 2) := by decide +kernel
theorem dX10_pack_169 : decode cX10_pack 169 = .ok (.iaload, 1) := by decide +kernel
theorem dX10_pack_170 : decode cX10_pack 170 = .ok (.iastore, 1) := by decide +kernel
theorem dX10_pack_171 : decode cX10_pack 171 = .ok (.iinc 4 1, 3) := by decide +kernel
theorem dX10_pack_174 : decode cX10_pack 174 = .ok (.goto (-23), 3) := by decide +kernel
theorem dX10_pack_177 : decode cX10_pack 177 = .ok (.return_, 1) := by decide +kernel
theorem dX10_unpack_0 : decode cX10_unpack 0 = .ok (.aload_n 0, 1) := by decide +kernel
theorem dX10_unpack_1 : decode cX10_unpack 1 = .ok (.aload_n 1, 1) := by decide +kernel
theorem dX10_unpack_2 : decode cX10_unpack 2 = .ok (.iload_n 2, 1) := by decide +kernel
theorem dX10_unpack_3 : decode cX10_unpack 3 = .ok (.iaload, 1) := by decide +kernel
theorem dX10_unpack_4 : decode cX10_unpack 4 = .ok (.putfield 338, 3) := by decide +kernel
theorem dX10_unpack_7 : decode cX10_unpack 7 = .ok (.aload_n 0, 1) := by decide +kernel
theorem dX10_unpack_8 : decode cX10_unpack 8 = .ok (.aload_n 1, 1) := by decide +kernel
theorem dX10_unpack_9 : decode cX10_unpack 9 = .ok (.iload_n 2, 1) := by decide +kernel
theorem dX10_unpack_10 : decode cX10_unpack 10 = .ok (.iconst 1, 1) := by decide +kernel
theorem dX10_unpack_11 : decode cX10_unpack 11 = .ok (.iadd, 1) := by decide +kernel
theorem dX10_unpack_12 : decode cX10_unpack 12 = .ok (.iaload, 1) := by decide +kernel
theorem dX10_unpack_13 : decode cX10_unpack 13 = .ok (.putfield 340, 3) := by decide +kernel
theorem dX10_unpack_16 : decode cX10_unpack 16 = .ok (.iload_n 2, 1) := by decide +kernel
theorem dX10_unpack_17 : decode cX10_unpack 17 = .ok (.iconst 2, 1) := by decide +kernel
theorem dX10_unpack_18 : decode cX10_unpack 18 = .ok (.iadd, 1) := by decide +kernel
theorem dX10_unpack_19 : decode cX10_unpack 19 = .ok (.istore_n 3, 1) := by decide +kernel
theorem dX10_unpack_20 : decode cX10_unpack 20 = .ok (.iconst 0, 1) := by decide +kernel
theorem dX10_unpack_21 : decode cX10_unpack 21 = .ok (.istore 4, 2) := by decide +kernel
theorem dX10_unpack_23 : decode cX10_unpack 23 = .ok (.iload 4, 2) := by decide +kernel
theorem dX10_unpack_25 : decode cX10_unpack 25 = .ok (.bipush 6, 2) := by decide +kernel
theorem dX10_unpack_27 : decode cX10_unpack 27 = .ok (.if_icmp .ge 38, 3) := by decide +kernel
theorem dX10_unpack_30 : decode cX10_unpack 30 = .ok (.aload_n 0, 1) := by decide +kernel
theorem dX10_unpack_31 : decode cX10_unpack 31 = .ok (.getfield 81, 3) := by decide +kernel
theorem dX10_unpack_34 : decode cX10_unpack 34 = .ok (.iload 4, 2) := by decide +kernel
theorem dX10_unpack_36 : decode cX10_unpack 36 = .ok (.aload_n 1, 1) := by decide +kernel
theorem dX10_unpack_37 : decode cX10_unpack 37 = .ok (.iload_n 3, 1) := by decide +kernel
theorem dX10_unpack_38 : decode cX10_unpack 38 = .ok (.iload 4, 2) := by decide +kernel
theorem dX10_unpack_40 : decode cX10_unpack 40 = .ok (.iadd, 1) := by decide +kernel
theorem dX10_unpack_41 : decode cX10_unpack 41 = .ok (.iaload, 1) := by decide +kernel
theorem dX10_unpack_42 : decode cX10_unpack 42 = .ok (.iastore, 1) := by decide +kernel
theorem dX10_unpack_43 : decode cX10_unpack 43 = .ok (.aload_n 0, 1) := by decide +kernel
theorem dX10_unpack_44 : decode cX10_unpack 44 = .ok (.getfield 83, 3) := by decide +kernel
theorem dX10_unpack_47 : decode cX10_unpack 47 = .ok (.iload 4, 2) := by decide +kernel
theorem dX10_unpack_49 : decode cX10_unpack 49 = .ok (.aload_n 1, 1) := by decide +kernel
theorem dX10_unpack_50 : decode cX10_unpack 50 = .ok (.iload_n 3, 1) := by decide +kernel
theorem dX10_unpack_51 : decode cX10_unpack 51 = .ok (.bipush 6, 2) := by decide +kernel
theorem dX10_unpack_53 : decode cX10_unpack 53 = .ok (.iadd, 1) := by decide +kernel
theorem dX10_unpack_54 : decode cX10_unpack 54 = .ok (.iload 4, 2) := by decide +kernel
theorem dX10_unpack_56 : decode cX10_unpack 56 = .ok (.iadd, 1) := by decide +kernel
theorem dX10_unpack_57 : decode cX10_unpack 57 = .ok (.iaload, 1) := by decide +kernel
theorem dX10_unpack_58 : decode cX10_unpack 58 = .ok (.iastore, 1) := by decide +kernel
theorem dX10_unpack_59 : decode cX10_unpack 59 = .ok (.iinc 4 1, 3) := by decide +kernel
theorem dX10_unpack_62 : decode cX10_unpack 62 = .ok (.goto (-39), 3) := by decide +kernel
theorem dX10_unpack_65 : decode cX10_unpack 65 = .ok (.iinc 3 12, 3) := by decide +kernel
theorem dX10_unpack_68 : decode cX10_unpack 68 = .ok (.iconst 0, 1) := by decide +kernel
theorem dX10_unpack_69 : decode cX10_unpack 69 = .ok (.istore 4, 2) := by decide +kernel
theorem dX10_unpack_71 : decode cX10_unpack 71 = .ok (.iload 4, 2) := by decide +kernel
theorem dX10_unpack_73 : decode cX10_unpack 73 = .ok (.aload_n 0, 1) := by decide +kernel
theorem dX10_unpack_74 : decode cX10_unpack 74 = .ok (.getfield 86, 3) := by decide +kernel
theorem dX10_unpack_77 : decode cX10_unpack 77 = .ok (.arraylength, 1) := by decide +kernel
theorem dX10_unpack_78 : decode cX10_unpack 78 = .ok (.if_icmp .ge 22, 3) := by decide +kernel
theorem dX10_unpack_81 : decode cX10_unpack 81 = .ok (.aload_n 0, 1) := by decide +kernel
theorem dX10_unpack_82 : decode cX10_unpack 82 = .ok (.getfield 86, 3) := by decide +kernel
theorem dX10_unpack_85 : decode cX10_unpack 85 = .ok (.iload 4, 2) := by decide +kernel
theorem dX10_unpack_87 : decode cX10_unpack 87 = .ok (.aload_n 1, 1) := by decide +kernel
theorem dX10_unpack_88 : decode cX10_unpack 88 = .ok (.iload_n 3, 1) := by decide +kernel
theorem dX10_unpack_89 : decode cX10_unpack 89 = .ok (.iload 4, 2) := by decide +kernel
theorem dX10_unpack_91 : decode cX10_unpack 91 = .ok (.iadd, 1) := by decide +kernel
theorem dX10_unpack_92 : decode cX10_unpack 92 = .ok (.iaload, 1) := by decide +kernel
theorem dX10_unpack_93 : decode cX10_unpack 93 = .ok (.iastore, 1) := by decide +kernel
theorem dX10_unpack_94 : decode cX10_unpack 94 = .ok (.iinc 4 1, 3) := by decide +kernel
theorem dX10_unpack_97 : decode cX10_unpack 97 = .ok (.goto (-26), 3) := by decide +kernel
theorem dX10_unpack_100 : decode cX10_unpack 100 = .ok (.iload_n 3, 1) := by decide +kernel
theorem dX10_unpack_101 : decode cX10_unpack 101 = .ok (.aload_n 0, 1) := by decide +kernel
theorem dX10_unpack_102 : decode cX10_unpack 102 = .ok (.getfield 86, 3) := by decide +kernel
theorem dX10_unpack_105 : decode cX10_unpack 105 = .ok (.arraylength, 1) := by decide +kernel
theorem dX10_unpack_106 : decode cX10_unpack 106 = .ok (.iadd, 1) := by decide +kernel
theorem dX10_unpack_107 : decode cX10_unpack 107 = .ok (.istore_n 3, 1) := by decide +kernel
theorem dX10_unpack_108 : decode cX10_unpack 108 = .ok (.iconst 0, 1) := by decide +kernel
theorem dX10_unpack_109 : decode cX10_unpack 109 = .ok (.istore 4, 2) := by decide +kernel
theorem dX10_unpack_111 : decode cX10_unpack 111 = .ok (.iload 4, 2) := by decide +kernel
theorem dX10_unpack_113 : decode cX10_unpack 113 = .ok (.aload_n 0, 1) := by decide +kernel
theorem dX10_unpack_114 : decode cX10_unpack 114 = .ok (.getfield 89, 3) := by decide +kernel
theorem dX10_unpack_117 : decode cX10_unpack 117 = .ok (.arraylength, 1) := by decide +kernel
theorem dX10_unpack_118 : decode cX10_unpack 118 = .ok (.if_icmp .ge 22, 3) := by decide +kernel
theorem dX10_unpack_121 : decode cX10_unpack 121 = .ok (.aload_n 0, 1) := by decide +kernel
theorem dX10_unpack_122 : decode cX10_unpack 122 = .ok (.getfield 89, 3) := by decide +kernel
theorem dX10_unpack_125 : decode cX10_unpack 125 = .ok (.iload 4, 2) := by decide +kernel
theorem dX10_unpack_127 : decode cX10_unpack 127 = .ok (.aload_n 1, 1) := by decide +kernel
theorem dX10_unpack_128 : decode cX10_unpack 128 = .ok (.iload_n 3, 1) := by decide +kernel
theorem dX10_unpack_129 : decode cX10_unpack 129 = .ok (.iload 4, 2) := by decide +kernel
theorem dX10_unpack_131 : decode cX10_unpack 131 = .ok (.iadd, 1) := by decide +kernel
theorem dX10_unpack_132 : decode cX10_unpack 132 = .ok (.iaload, 1) := by decide +kernel
theorem dX10_unpack_133 : decode cX10_unpack 133 = .ok (.iastore, 1) := by decide +kernel
theorem dX10_unpack_134 : decode cX10_unpack 134 = .ok (.iinc 4 1, 3) := by decide +kernel
theorem dX10_unpack_137 : decode cX10_unpack 137 = .ok (.goto (-26), 3) := by decide +kernel
theorem dX10_unpack_140 : decode cX10_unpack 140 = .ok (.iload_n 3, 1) := by decide +kernel
theorem dX10_unpack_141 : decode cX10_unpack 141 = .ok (.aload_n 0, 1) := by decide +kernel
theorem dX10_unpack_142 : decode cX10_unpack 142 = .ok (.getfield 89, 3) := by decide +kernel
theorem dX10_unpack_145 : decode cX10_unpack 145 = .ok (.arraylength, 1) := by decide +kernel
theorem dX10_unpack_146 : decode cX10_unpack 146 = .ok (.iadd, 1) := by decide +kernel
theorem dX10_unpack_147 : decode cX10_unpack 147 = .ok (.istore_n 3, 1) := by decide +kernel
theorem dX10_unpack_148 : decode cX10_unpack 148 = .ok (.iconst 0, 1) := by decide +kernel
theorem dX10_unpack_149 : decode cX10_unpack 149 = .ok (.istore 4, 2) := by decide +kernel
theorem dX10_unpack_151 : decode cX10_unpack 151 = .ok (.iload 4, 2) := by decide +kernel
theorem dX10_unpack_153 : decode cX10_unpack 153 = .ok (.bipush 8, 2) := by decide +kernel
theorem dX10_unpack_155 : decode cX10_unpack 155 = .ok (.if_icmp .ge 22, 3) := by decide +kernel
theorem dX10_unpack_158 : decode cX10_unpack 158 = .ok (.aload_n 0, 1) := by decide +kernel
theorem dX10_unpack_159 : decode cX10_unpack 159 = .ok (.getfield 92, 3) := by decide +kernel
theorem dX10_unpack_162 : decode cX10_unpack 162 = .ok (.iload 4, 2) := by decide +kernel
theorem dX10_unpack_164 : decode cX10_unpack 164 = .ok (.aload_n 1, 1) := by decide +kernel
theorem dX10_unpack_165 : decode cX10_unpack 165 = .ok (.iload_n 3, 1) := by decide +kernel
theorem dX10_unpack_166 : decode cX10_unpack 166 = .ok (.iload 4, 2) := by decide +kernel
theorem dX10_unpack_168 : decode cX10_unpack 168 = .ok (.iadd, 1) := by decide +kernel
theorem dX10_unpack_169 : decode cX10_unpack 169 = .ok (.iaload, 1) := by decide +kernel
theorem dX10_unpack_170 : decode cX10_unpack 170 = .ok (.iastore, 1) := by decide +kernel
theorem dX10_unpack_171 : decode cX10_unpack 171 = .ok (.iinc 4 1, 3) := by decide +kernel
theorem dX10_unpack_174 : decode cX10_unpack 174 = .ok (.goto (-23), 3) := by decide +kernel
theorem dX10_unpack_177 : decode cX10_unpack 177 = .ok (.return_, 1) := by decide +kernel
theorem dX10_tellFars_0 : decode cX10_tellFars 0 = .ok (.iconst 0, 1) := by decide +kernel
theorem dX10_tellFars_1 : decode cX10_tellFars 1 = .ok (.istore_n 1, 1) := by decide +kernel
theorem dX10_tellFars_2 : decode cX10_tellFars 2 = .ok (.iload_n 1, 1) := by decide +kernel
theorem dX10_tellFars_3 : decode cX10_tellFars 3 = .ok (.aload_n 0, 1) := by decide +kernel
theorem dX10_tellFars_4 : decode cX10_tellFars 4 = .ok (.getfield 39, 3) := by decide +kernel
theorem dX10_tellFars_7 : decode cX10_tellFars 7 = .ok (.iconst 0, 1) := by decide +kernel
theorem dX10_tellFars_8 : decode cX10_tellFars 8 = .ok (.iaload, 1) := by decide +kernel
theorem dX10_tellFars_9 : decode cX10_tellFars 9 = .ok (.if_icmp .ge 77, 3) := by decide +kernel
theorem dX10_tellFars_12 : decode cX10_tellFars 12 = .ok (.iconst 0, 1) := by decide +kernel
theorem dX10_tellFars_13 : decode cX10_tellFars 13 = .ok (.istore_n 2, 1) := by decide +kernel
theorem dX10_tellFars_14 : decode cX10_tellFars 14 = .ok (.iload_n 2, 1) := by decide +kernel
theorem dX10_tellFars_15 : decode cX10_tellFars 15 = .ok (.aload_n 0, 1) := by decide +kernel
theorem dX10_tellFars_16 : decode cX10_tellFars 16 = .ok (.getfield 39, 3) := by decide +kernel
theorem dX10_tellFars_19 : decode cX10_tellFars 19 = .ok (.iconst 0, 1) := by decide +kernel
theorem dX10_tellFars_20 : decode cX10_tellFars 20 = .ok (.iaload, 1) := by decide +kernel
theorem dX10_tellFars_21 : decode cX10_tellFars 21 = .ok (.if_icmp .ge 59, 3) := by decide +kernel
theorem dX10_tellFars_24 : decode cX10_tellFars 24 = .ok (.aload_n 0, 1) := by decide +kernel
theorem dX10_tellFars_25 : decode cX10_tellFars 25 = .ok (.getfield 98, 3) := by decide +kernel
theorem dX10_tellFars_28 : decode cX10_tellFars 28 = .ok (.bipush 8, 2) := by decide +kernel
theorem dX10_tellFars_30 : decode cX10_tellFars 30 = .ok (.iload_n 1, 1) := by decide +kernel
theorem dX10_tellFars_31 : decode cX10_tellFars 31 = .ok (.imul, 1) := by decide +kernel
theorem dX10_tellFars_32 : decode cX10_tellFars 32 = .ok (.iload_n 2, 1) := by decide +kernel
theorem dX10_tellFars_33 : decode cX10_tellFars 33 = .ok (.iadd, 1) := by decide +kernel
theorem dX10_tellFars_34 : decode cX10_tellFars 34 = .ok (.iload_n 1, 1) := by decide +kernel
theorem dX10_tellFars_35 : decode cX10_tellFars 35 = .ok (.iload_n 2, 1) := by decide +kernel
theorem dX10_tellFars_36 : decode cX10_tellFars 36 = .ok (.if_icmp .ne 7, 3) := by decide +kernel
theorem dX10_tellFars_39 : decode cX10_tellFars 39 = .ok (.iconst 0, 1) := by decide +kernel
theorem dX10_tellFars_40 : decode cX10_tellFars 40 = .ok (.goto 33, 3) := by decide +kernel
theorem dX10_tellFars_43 : decode cX10_tellFars 43 = .ok (.aload_n 0, 1) := by decide +kernel
theorem dX10_tellFars_44 : decode cX10_tellFars 44 = .ok (.getfield 50, 3) := by decide +kernel
theorem dX10_tellFars_47 : decode cX10_tellFars 47 = .ok (.bipush 8, 2) := by decide +kernel
theorem dX10_tellFars_49 : decode cX10_tellFars 49 = .ok (.iload_n 1, 1) := by decide +kernel
theorem dX10_tellFars_50 : decode cX10_tellFars 50 = .ok (.imul, 1) := by decide +kernel
theorem dX10_tellFars_51 : decode cX10_tellFars 51 = .ok (.iload_n 2, 1) := by decide +kernel
theorem dX10_tellFars_52 : decode cX10_tellFars 52 = .ok (.iadd, 1) := by decide +kernel
theorem dX10_tellFars_53 : decode cX10_tellFars 53 = .ok (.iaload, 1) := by decide +kernel
theorem dX10_tellFars_54 : decode cX10_tellFars 54 = .ok (.ifCond .le 17, 3) := by decide +kernel
theorem dX10_tellFars_57 : decode cX10_tellFars 57 = .ok (.aload_n 0, 1) := by decide +kernel
theorem dX10_tellFars_58 : decode cX10_tellFars 58 = .ok (.getfield 50, 3) := by decide +kernel
theorem dX10_tellFars_61 : decode cX10_tellFars 61 = .ok (.bipush 8, 2) := by decide +kernel
theorem dX10_tellFars_63 : decode cX10_tellFars 63 = .ok (.iload_n 1, 1) := by decide +kernel
theorem dX10_tellFars_64 : decode cX10_tellFars 64 = .ok (.imul, 1) := by decide +kernel
theorem dX10_tellFars_65 : decode cX10_tellFars 65 = .ok (.iload_n 2, 1) := by decide +kernel
theorem dX10_tellFars_66 : decode cX10_tellFars 66 = .ok (.iadd, 1) := by decide +kernel
theorem dX10_tellFars_67 : decode cX10_tellFars 67 = .ok (.iaload, 1) := by decide +kernel
theorem dX10_tellFars_68 : decode cX10_tellFars 68 = .ok (.goto 5, 3) := by decide +kernel
theorem dX10_tellFars_71 : decode cX10_tellFars 71 = .ok (.ldc 203, 2) := by decide +kernel
theorem dX10_tellFars_73 : decode cX10_tellFars 73 = .ok (.iastore, 1) := by decide +kernel
theorem dX10_tellFars_74 : decode cX10_tellFars 74 = .ok (.iinc 2 1, 3) := by decide +kernel
theorem dX10_tellFars_77 : decode cX10_tellFars 77 = .ok (.goto (-63), 3) := by decide +kernel
theorem dX10_tellFars_80 : decode cX10_tellFars 80 = .ok (.iinc 1 1, 3) := by decide +kernel
theorem dX10_tellFars_83 : decode cX10_tellFars 83 = .ok (.goto (-81), 3) := by decide +kernel
theorem dX10_tellFars_86 : decode cX10_tellFars 86 = .ok (.iconst 0, 1) := by decide +kernel
theorem dX10_tellFars_87 : decode cX10_tellFars 87 = .ok (.istore_n 1, 1) := by decide +kernel
theorem dX10_tellFars_88 : decode cX10_tellFars 88 = .ok (.iload_n 1, 1) := by decide +kernel
theorem dX10_tellFars_89 : decode cX10_tellFars 89 = .ok (.aload_n 0, 1) := by decide +kernel
theorem dX10_tellFars_90 : decode cX10_tellFars 90 = .ok (.getfield 39, 3) := by decide +kernel
theorem dX10_tellFars_93 : decode cX10_tellFars 93 = .ok (.iconst 0, 1) := by decide +kernel
theorem dX10_tellFars_94 : decode cX10_tellFars 94 = .ok (.iaload, 1) := by decide +kernel
theorem dX10_tellFars_95 : decode cX10_tellFars 95 = .ok (.if_icmp .ge 93, 3) := by decide +kernel
theorem dX10_tellFars_98 : decode cX10_tellFars 98 = .ok (.iconst 0, 1) := by decide +kernel
theorem dX10_tellFars_99 : decode cX10_tellFars 99 = .ok (.istore_n 2, 1) := by decide +kernel
theorem dX10_tellFars_100 : decode cX10_tellFars 100 = .ok (.iload_n 2, 1) := by decide +kernel
theorem dX10_tellFars_101 : decode cX10_tellFars 101 = .ok (.aload_n 0, 1) := by decide +kernel
theorem dX10_tellFars_102 : decode cX10_tellFars 102 = .ok (.getfield 39, 3) := by decide +kernel
theorem dX10_tellFars_105 : decode cX10_tellFars 105 = .ok (.iconst 0, 1) := by decide +kernel
theorem dX10_tellFars_106 : decode cX10_tellFars 106 = .ok (.iaload, 1) := by decide +kernel
theorem dX10_tellFars_107 : decode cX10_tellFars 107 = .ok (.if_icmp .ge 75, 3) := by decide +kernel
theorem dX10_tellFars_110 : decode cX10_tellFars 110 = .ok (.iconst 0, 1) := by decide +kernel
theorem dX10_tellFars_111 : decode cX10_tellFars 111 = .ok (.istore_n 3, 1) := by decide +kernel
theorem dX10_tellFars_112 : decode cX10_tellFars 112 = .ok (.iload_n 3, 1) := by decide +kernel
theorem dX10_tellFars_113 : decode cX10_tellFars 113 = .ok (.aload_n 0, 1) := by decide +kernel
theorem dX10_tellFars_114 : decode cX10_tellFars 114 = .ok (.getfield 39, 3) := by decide +kernel
theorem dX10_tellFars_117 : decode cX10_tellFars 117 = .ok (.iconst 0, 1) := by decide +kernel
theorem dX10_tellFars_118 : decode cX10_tellFars 118 = .ok (.iaload, 1) := by decide +kernel
theorem dX10_tellFars_119 : decode cX10_tellFars 119 = .ok (.if_icmp .ge 57, 3) := by decide +kernel
theorem dX10_tellFars_122 : decode cX10_tellFars 122 = .ok (.aload_n 0, 1) := by decide +kernel
theorem dX10_tellFars_123 : decode cX10_tellFars 123 = .ok (.getfield 98, 3) := by decide +kernel
theorem dX10_tellFars_126 : decode cX10_tellFars 126 = .ok (.bipush 8, 2) := by decide +kernel
theorem dX10_tellFars_128 : decode cX10_tellFars 128 = .ok (.iload_n 2, 1) := by decide +kernel
theorem dX10_tellFars_129 : decode cX10_tellFars 129 = .ok (.imul, 1) := by decide +kernel
theorem dX10_tellFars_130 : decode cX10_tellFars 130 = .ok (.iload_n 3, 1) := by decide +kernel
theorem dX10_tellFars_131 : decode cX10_tellFars 131 = .ok (.iadd, 1) := by decide +kernel
theorem dX10_tellFars_132 : decode cX10_tellFars 132 = .ok (.aload_n 0, 1) := by decide +kernel
theorem dX10_tellFars_133 : decode cX10_tellFars 133 = .ok (.getfield 98, 3) := by decide +kernel
theorem dX10_tellFars_136 : decode cX10_tellFars 136 = .ok (.bipush 8, 2) := by decide +kernel
theorem dX10_tellFars_138 : decode cX10_tellFars 138 = .ok (.iload_n 2, 1) := by decide +kernel
theorem dX10_tellFars_139 : decode cX10_tellFars 139 = .ok (.imul, 1) := by decide +kernel
theorem dX10_tellFars_140 : decode cX10_tellFars 140 = .ok (.iload_n 3, 1) := by decide +kernel
theorem dX10_tellFars_141 : decode cX10_tellFars 141 = .ok (.iadd, 1) := by decide +kernel
theorem dX10_tellFars_142 : decode cX10_tellFars 142 = .ok (.iaload, 1) := by decide +kernel
theorem dX10_tellFars_143 : decode cX10_tellFars 143 = .ok (.aload_n 0, 1) := by decide +kernel
theorem dX10_tellFars_144 : decode cX10_tellFars 144 = .ok (.getfield 98, 3) := by decide +kernel
theorem dX10_tellFars_147 : decode cX10_tellFars 147 = .ok (.bipush 8, 2) := by decide +kernel
theorem dX10_tellFars_149 : decode cX10_tellFars 149 = .ok (.iload_n 2, 1) := by decide +kernel
theorem dX10_tellFars_150 : decode cX10_tellFars 150 = .ok (.imul, 1) := by decide +kernel
theorem dX10_tellFars_151 : decode cX10_tellFars 151 = .ok (.iload_n 1, 1) := by decide +kernel
theorem dX10_tellFars_152 : decode cX10_tellFars 152 = .ok (.iadd, 1) := by decide +kernel
theorem dX10_tellFars_153 : decode cX10_tellFars 153 = .ok (.iaload, 1) := by decide +kernel
theorem dX10_tellFars_154 : decode cX10_tellFars 154 = .ok (.aload_n 0, 1) := by decide +kernel
theorem dX10_tellFars_155 : decode cX10_tellFars 155 = .ok (.getfield 98, 3) := by decide +kernel
theorem dX10_tellFars_158 : decode cX10_tellFars 158 = .ok (.bipush 8, 2) := by decide +kernel
theorem dX10_tellFars_160 : decode cX10_tellFars 160 = .ok (.iload_n 1, 1) := by decide +kernel
theorem dX10_tellFars_161 : decode cX10_tellFars 161 = .ok (.imul, 1) := by decide +kernel
theorem dX10_tellFars_162 : decode cX10_tellFars 162 = .ok (.iload_n 3, 1) := by decide +kernel
theorem dX10_tellFars_163 : decode cX10_tellFars 163 = .ok (.iadd, 1) := by decide +kernel
theorem dX10_tellFars_164 : decode cX10_tellFars 164 = .ok (.iaload, 1) := by decide +kernel
theorem dX10_tellFars_165 : decode cX10_tellFars 165 = .ok (.iadd, 1) := by decide +kernel
theorem dX10_tellFars_166 : decode cX10_tellFars 166 = .ok (.invokestatic 204, 3) := by decide +kernel
theorem dX10_tellFars_169 : decode cX10_tellFars 169 = .ok (.iastore, 1) := by decide +kernel
theorem dX10_tellFars_170 : decode cX10_tellFars 170 = .ok (.iinc 3 1, 3) := by decide +kernel
theorem dX10_tellFars_173 : decode cX10_tellFars 173 = .ok (.goto (-61), 3) := by decide +kernel
theorem dX10_tellFars_176 : decode cX10_tellFars 176 = .ok (.iinc 2 1, 3) := by decide +kernel
theorem dX10_tellFars_179 : decode cX10_tellFars 179 = .ok (.goto (-79), 3) := by decide +kernel
theorem dX10_tellFars_182 : decode cX10_tellFars 182 = .ok (.iinc 1 1, 3) := by decide +kernel
theorem dX10_tellFars_185 : decode cX10_tellFars 185 = .ok (.goto (-97), 3) := by decide +kernel
theorem dX10_tellFars_188 : decode cX10_tellFars 188 = .ok (.return_, 1) := by decide +kernel
theorem dX10_reckon_0 : decode cX10_reckon 0 = .ok (.iload_n 0, 1) := by decide +kernel
theorem dX10_reckon_1 : decode cX10_reckon 1 = .ok (.tableswitch 103 (-26) (-20) #[89, 78, 67, 55, 51, 47, 43], 43) := by decide +kernel
theorem dX10_reckon_44 : decode cX10_reckon 44 = .ok (.iload_n 1, 1) := by decide +kernel
theorem dX10_reckon_45 : decode cX10_reckon 45 = .ok (.iload_n 2, 1) := by decide +kernel
theorem dX10_reckon_46 : decode cX10_reckon 46 = .ok (.iadd, 1) := by decide +kernel
theorem dX10_reckon_47 : decode cX10_reckon 47 = .ok (.ireturn, 1) := by decide +kernel
theorem dX10_reckon_48 : decode cX10_reckon 48 = .ok (.iload_n 1, 1) := by decide +kernel
theorem dX10_reckon_49 : decode cX10_reckon 49 = .ok (.iload_n 2, 1) := by decide +kernel
theorem dX10_reckon_50 : decode cX10_reckon 50 = .ok (.isub, 1) := by decide +kernel
theorem dX10_reckon_51 : decode cX10_reckon 51 = .ok (.ireturn, 1) := by decide +kernel
theorem dX10_reckon_52 : decode cX10_reckon 52 = .ok (.iload_n 1, 1) := by decide +kernel
theorem dX10_reckon_53 : decode cX10_reckon 53 = .ok (.iload_n 2, 1) := by decide +kernel
theorem dX10_reckon_54 : decode cX10_reckon 54 = .ok (.imul, 1) := by decide +kernel
theorem dX10_reckon_55 : decode cX10_reckon 55 = .ok (.ireturn, 1) := by decide +kernel
theorem dX10_reckon_56 : decode cX10_reckon 56 = .ok (.iload_n 2, 1) := by decide +kernel
theorem dX10_reckon_57 : decode cX10_reckon 57 = .ok (.ifCond .ne 7, 3) := by decide +kernel
theorem dX10_reckon_60 : decode cX10_reckon 60 = .ok (.iconst 0, 1) := by decide +kernel
theorem dX10_reckon_61 : decode cX10_reckon 61 = .ok (.goto 6, 3) := by decide +kernel
theorem dX10_reckon_64 : decode cX10_reckon 64 = .ok (.iload_n 1, 1) := by decide +kernel
theorem dX10_reckon_65 : decode cX10_reckon 65 = .ok (.iload_n 2, 1) := by decide +kernel
theorem dX10_reckon_66 : decode cX10_reckon 66 = .ok (.idiv, 1) := by decide +kernel
theorem dX10_reckon_67 : decode cX10_reckon 67 = .ok (.ireturn, 1) := by decide +kernel
theorem dX10_reckon_68 : decode cX10_reckon 68 = .ok (.iload_n 1, 1) := by decide +kernel
theorem dX10_reckon_69 : decode cX10_reckon 69 = .ok (.iload_n 2, 1) := by decide +kernel
theorem dX10_reckon_70 : decode cX10_reckon 70 = .ok (.if_icmp .ge 7, 3) := by decide +kernel
theorem dX10_reckon_73 : decode cX10_reckon 73 = .ok (.iconst 1, 1) := by decide +kernel
theorem dX10_reckon_74 : decode cX10_reckon 74 = .ok (.goto 4, 3) := by decide +kernel
theorem dX10_reckon_77 : decode cX10_reckon 77 = .ok (.iconst 0, 1) := by decide +kernel
theorem dX10_reckon_78 : decode cX10_reckon 78 = .ok (.ireturn, 1) := by decide +kernel
theorem dX10_reckon_79 : decode cX10_reckon 79 = .ok (.iload_n 1, 1) := by decide +kernel
theorem dX10_reckon_80 : decode cX10_reckon 80 = .ok (.iload_n 2, 1) := by decide +kernel
theorem dX10_reckon_81 : decode cX10_reckon 81 = .ok (.if_icmp .ne 7, 3) := by decide +kernel
theorem dX10_reckon_84 : decode cX10_reckon 84 = .ok (.iconst 1, 1) := by decide +kernel
theorem dX10_reckon_85 : decode cX10_reckon 85 = .ok (.goto 4, 3) := by decide +kernel
theorem dX10_reckon_88 : decode cX10_reckon 88 = .ok (.iconst 0, 1) := by decide +kernel
theorem dX10_reckon_89 : decode cX10_reckon 89 = .ok (.ireturn, 1) := by decide +kernel
theorem dX10_reckon_90 : decode cX10_reckon 90 = .ok (.iload_n 1, 1) := by decide +kernel
theorem dX10_reckon_91 : decode cX10_reckon 91 = .ok (.ifCond .eq 11, 3) := by decide +kernel
theorem dX10_reckon_94 : decode cX10_reckon 94 = .ok (.iload_n 2, 1) := by decide +kernel
theorem dX10_reckon_95 : decode cX10_reckon 95 = .ok (.ifCond .eq 7, 3) := by decide +kernel
theorem dX10_reckon_98 : decode cX10_reckon 98 = .ok (.iconst 1, 1) := by decide +kernel
theorem dX10_reckon_99 : decode cX10_reckon 99 = .ok (.goto 4, 3) := by decide +kernel
theorem dX10_reckon_102 : decode cX10_reckon 102 = .ok (.iconst 0, 1) := by decide +kernel
theorem dX10_reckon_103 : decode cX10_reckon 103 = .ok (.ireturn, 1) := by decide +kernel
theorem dX10_reckon_104 : decode cX10_reckon 104 = .ok (.iload_n 1, 1) := by decide +kernel
theorem dX10_reckon_105 : decode cX10_reckon 105 = .ok (.ifCond .ne 7, 3) := by decide +kernel
theorem dX10_reckon_108 : decode cX10_reckon 108 = .ok (.iload_n 2, 1) := by decide +kernel
theorem dX10_reckon_109 : decode cX10_reckon 109 = .ok (.ifCond .eq 7, 3) := by decide +kernel
theorem dX10_reckon_112 : decode cX10_reckon 112 = .ok (.iconst 1, 1) := by decide +kernel
theorem dX10_reckon_113 : decode cX10_reckon 113 = .ok (.goto 4, 3) := by decide +kernel
theorem dX10_reckon_116 : decode cX10_reckon 116 = .ok (.iconst 0, 1) := by decide +kernel
theorem dX10_reckon_117 : decode cX10_reckon 117 = .ok (.ireturn, 1) := by decide +kernel
theorem dX10_valueNow_0 : decode cX10_valueNow 0 = .ok (.iconst 0, 1) := by decide +kernel
theorem dX10_valueNow_1 : decode cX10_valueNow 1 = .ok (.istore_n 3, 1) := by decide +kernel
theorem dX10_valueNow_2 : decode cX10_valueNow 2 = .ok (.iconst 0, 1) := by decide +kernel
theorem dX10_valueNow_3 : decode cX10_valueNow 3 = .ok (.istore 4, 2) := by decide +kernel
theorem dX10_valueNow_5 : decode cX10_valueNow 5 = .ok (.iload 4, 2) := by decide +kernel
theorem dX10_valueNow_7 : decode cX10_valueNow 7 = .ok (.iload_n 2, 1) := by decide +kernel
theorem dX10_valueNow_8 : decode cX10_valueNow 8 = .ok (.if_icmp .ge 117, 3) := by decide +kernel
theorem dX10_valueNow_11 : decode cX10_valueNow 11 = .ok (.aload_n 1, 1) := by decide +kernel
theorem dX10_valueNow_12 : decode cX10_valueNow 12 = .ok (.iload 4, 2) := by decide +kernel
theorem dX10_valueNow_14 : decode cX10_valueNow 14 = .ok (.iaload, 1) := by decide +kernel
theorem dX10_valueNow_15 : decode cX10_valueNow 15 = .ok (.istore 5, 2) := by decide +kernel
theorem dX10_valueNow_17 : decode cX10_valueNow 17 = .ok (.iload 5, 2) := by decide +kernel
theorem dX10_valueNow_19 : decode cX10_valueNow 19 = .ok (.bipush (-20), 2) := by decide +kernel
theorem dX10_valueNow_21 : decode cX10_valueNow 21 = .ok (.if_icmp .le 34, 3) := by decide +kernel
theorem dX10_valueNow_24 : decode cX10_valueNow 24 = .ok (.aload_n 0, 1) := by decide +kernel
theorem dX10_valueNow_25 : decode cX10_valueNow 25 = .ok (.getfield 104, 3) := by decide +kernel
theorem dX10_valueNow_28 : decode cX10_valueNow 28 = .ok (.iload_n 3, 1) := by decide +kernel
theorem dX10_valueNow_29 : decode cX10_valueNow 29 = .ok (.iload 5, 2) := by decide +kernel
theorem dX10_valueNow_31 : decode cX10_valueNow 31 = .ok (.ifCond .lt 8, 3) := by decide +kernel
theorem dX10_valueNow_34 : decode cX10_valueNow 34 = .ok (.iload 5, 2) := by decide +kernel
theorem dX10_valueNow_36 : decode cX10_valueNow 36 = .ok (.goto 12, 3) := by decide +kernel
theorem dX10_valueNow_39 : decode cX10_valueNow 39 = .ok (.aload_n 0, 1) := by decide +kernel
theorem dX10_valueNow_40 : decode cX10_valueNow 40 = .ok (.getfield 101, 3) := by decide +kernel
theorem dX10_valueNow_43 : decode cX10_valueNow 43 = .ok (.iconst (-1), 1) := by decide +kernel
theorem dX10_valueNow_44 : decode cX10_valueNow 44 = .ok (.iload 5, 2) := by decide +kernel
theorem dX10_valueNow_46 : decode cX10_valueNow 46 = .ok (.isub, 1) := by decide +kernel
theorem dX10_valueNow_47 : decode cX10_valueNow 47 = .ok (.iaload, 1) := by decide +kernel
theorem dX10_valueNow_48 : decode cX10_valueNow 48 = .ok (.iastore, 1) := by decide +kernel
theorem dX10_valueNow_49 : decode cX10_valueNow 49 = .ok (.iinc 3 1, 3) := by decide +kernel
theorem dX10_valueNow_52 : decode cX10_valueNow 52 = .ok (.goto 67, 3) := by decide +kernel
theorem dX10_valueNow_55 : decode cX10_valueNow 55 = .ok (.iload 5, 2) := by decide +kernel
theorem dX10_valueNow_57 : decode cX10_valueNow 57 = .ok (.bipush (-28), 2) := by decide +kernel
theorem dX10_valueNow_59 : decode cX10_valueNow 59 = .ok (.if_icmp .ne 30, 3) := by decide +kernel
theorem dX10_valueNow_62 : decode cX10_valueNow 62 = .ok (.aload_n 0, 1) := by decide +kernel
theorem dX10_valueNow_63 : decode cX10_valueNow 63 = .ok (.getfield 104, 3) := by decide +kernel
theorem dX10_valueNow_66 : decode cX10_valueNow 66 = .ok (.iload_n 3, 1) := by decide +kernel
theorem dX10_valueNow_67 : decode cX10_valueNow 67 = .ok (.iconst 1, 1) := by decide +kernel
theorem dX10_valueNow_68 : decode cX10_valueNow 68 = .ok (.isub, 1) := by decide +kernel
theorem dX10_valueNow_69 : decode cX10_valueNow 69 = .ok (.aload_n 0, 1) := by decide +kernel
theorem dX10_valueNow_70 : decode cX10_valueNow 70 = .ok (.getfield 104, 3) := by decide +kernel
theorem dX10_valueNow_73 : decode cX10_valueNow 73 = .ok (.iload_n 3, 1) := by decide +kernel
theorem dX10_valueNow_74 : decode cX10_valueNow 74 = .ok (.iconst 1, 1) := by decide +kernel
theorem dX10_valueNow_75 : decode cX10_valueNow 75 = .ok (.isub, 1) := by decide +kernel
theorem dX10_valueNow_76 : decode cX10_valueNow 76 = .ok (.iaload, 1) := by decide +kernel
theorem dX10_valueNow_77 : decode cX10_valueNow 77 = .ok (.ifCond .eq 7, 3) := by decide +kernel
theorem dX10_valueNow_80 : decode cX10_valueNow 80 = .ok (.iconst 0, 1) := by decide +kernel
theorem dX10_valueNow_81 : decode cX10_valueNow 81 = .ok (.goto 4, 3) := by decide +kernel
theorem dX10_valueNow_84 : decode cX10_valueNow 84 = .ok (.iconst 1, 1) := by decide +kernel
theorem dX10_valueNow_85 : decode cX10_valueNow 85 = .ok (.iastore, 1) := by decide +kernel
theorem dX10_valueNow_86 : decode cX10_valueNow 86 = .ok (.goto 33, 3) := by decide +kernel
theorem dX10_valueNow_89 : decode cX10_valueNow 89 = .ok (.iinc 3 (-1), 3) := by decide +kernel
theorem dX10_valueNow_92 : decode cX10_valueNow 92 = .ok (.aload_n 0, 1) := by decide +kernel
theorem dX10_valueNow_93 : decode cX10_valueNow 93 = .ok (.getfield 104, 3) := by decide +kernel
theorem dX10_valueNow_96 : decode cX10_valueNow 96 = .ok (.iload_n 3, 1) := by decide +kernel
theorem dX10_valueNow_97 : decode cX10_valueNow 97 = .ok (.iconst 1, 1) := by decide +kernel
theorem dX10_valueNow_98 : decode cX10_valueNow 98 = .ok (.isub, 1) := by decide +kernel
theorem dX10_valueNow_99 : decode cX10_valueNow 99 = .ok (.iload 5, 2) := by decide +kernel
theorem dX10_valueNow_101 : decode cX10_valueNow 101 = .ok (.aload_n 0, 1) := by decide +kernel
theorem dX10_valueNow_102 : decode cX10_valueNow 102 = .ok (.getfield 104, 3) := by decide +kernel
theorem dX10_valueNow_105 : decode cX10_valueNow 105 = .ok (.iload_n 3, 1) := by decide +kernel
theorem dX10_valueNow_106 : decode cX10_valueNow 106 = .ok (.iconst 1, 1) := by decide +kernel
theorem dX10_valueNow_107 : decode cX10_valueNow 107 = .ok (.isub, 1) := by decide +kernel
theorem dX10_valueNow_108 : decode cX10_valueNow 108 = .ok (.iaload, 1) := by decide +kernel
theorem dX10_valueNow_109 : decode cX10_valueNow 109 = .ok (.aload_n 0, 1) := by decide +kernel
theorem dX10_valueNow_110 : decode cX10_valueNow 110 = .ok (.getfield 104, 3) := by decide +kernel
theorem dX10_valueNow_113 : decode cX10_valueNow 113 = .ok (.iload_n 3, 1) := by decide +kernel
theorem dX10_valueNow_114 : decode cX10_valueNow 114 = .ok (.iaload, 1) := by decide +kernel
theorem dX10_valueNow_115 : decode cX10_valueNow 115 = .ok (.invokestatic 355, 3) := by decide +kernel
theorem dX10_valueNow_118 : decode cX10_valueNow 118 = .ok (.iastore, 1) := by decide +kernel
theorem dX10_valueNow_119 : decode cX10_valueNow 119 = .ok (.iinc 4 1, 3) := by decide +kernel
theorem dX10_valueNow_122 : decode cX10_valueNow 122 = .ok (.goto (-117), 3) := by decide +kernel
theorem dX10_valueNow_125 : decode cX10_valueNow 125 = .ok (.aload_n 0, 1) := by decide +kernel
theorem dX10_valueNow_126 : decode cX10_valueNow 126 = .ok (.getfield 104, 3) := by decide +kernel
theorem dX10_valueNow_129 : decode cX10_valueNow 129 = .ok (.iconst 0, 1) := by decide +kernel
theorem dX10_valueNow_130 : decode cX10_valueNow 130 = .ok (.iaload, 1) := by decide +kernel
theorem dX10_valueNow_131 : decode cX10_valueNow 131 = .ok (.ireturn, 1) := by decide +kernel
theorem dX10_placeOf_0 : decode cX10_placeOf 0 = .ok (.aload_n 0, 1) := by decide +kernel
theorem dX10_placeOf_1 : decode cX10_placeOf 1 = .ok (.getfield 89, 3) := by decide +kernel
theorem dX10_placeOf_4 : decode cX10_placeOf 4 = .ok (.bipush 6, 2) := by decide +kernel
theorem dX10_placeOf_6 : decode cX10_placeOf 6 = .ok (.iload_n 1, 1) := by decide +kernel
theorem dX10_placeOf_7 : decode cX10_placeOf 7 = .ok (.imul, 1) := by decide +kernel
theorem dX10_placeOf_8 : decode cX10_placeOf 8 = .ok (.aload_n 0, 1) := by decide +kernel
theorem dX10_placeOf_9 : decode cX10_placeOf 9 = .ok (.getfield 338, 3) := by decide +kernel
theorem dX10_placeOf_12 : decode cX10_placeOf 12 = .ok (.aload_n 0, 1) := by decide +kernel
theorem dX10_placeOf_13 : decode cX10_placeOf 13 = .ok (.getfield 56, 3) := by decide +kernel
theorem dX10_placeOf_16 : decode cX10_placeOf 16 = .ok (.iload_n 1, 1) := by decide +kernel
theorem dX10_placeOf_17 : decode cX10_placeOf 17 = .ok (.iaload, 1) := by decide +kernel
theorem dX10_placeOf_18 : decode cX10_placeOf 18 = .ok (.irem, 1) := by decide +kernel
theorem dX10_placeOf_19 : decode cX10_placeOf 19 = .ok (.iadd, 1) := by decide +kernel
theorem dX10_placeOf_20 : decode cX10_placeOf 20 = .ok (.iaload, 1) := by decide +kernel
theorem dX10_placeOf_21 : decode cX10_placeOf 21 = .ok (.ireturn, 1) := by decide +kernel
theorem dX10_hearers_0 : decode cX10_hearers 0 = .ok (.iconst 0, 1) := by decide +kernel
theorem dX10_hearers_1 : decode cX10_hearers 1 = .ok (.istore_n 3, 1) := by decide +kernel
theorem dX10_hearers_2 : decode cX10_hearers 2 = .ok (.iconst 0, 1) := by decide +kernel
theorem dX10_hearers_3 : decode cX10_hearers 3 = .ok (.istore 4, 2) := by decide +kernel
theorem dX10_hearers_5 : decode cX10_hearers 5 = .ok (.iload 4, 2) := by decide +kernel
theorem dX10_hearers_7 : decode cX10_hearers 7 = .ok (.aload_n 0, 1) := by decide +kernel
theorem dX10_hearers_8 : decode cX10_hearers 8 = .ok (.getfield 39, 3) := by decide +kernel
theorem dX10_hearers_11 : decode cX10_hearers 11 = .ok (.iconst 2, 1) := by decide +kernel
theorem dX10_hearers_12 : decode cX10_hearers 12 = .ok (.iaload, 1) := by decide +kernel
theorem dX10_hearers_13 : decode cX10_hearers 13 = .ok (.if_icmp .ge 55, 3) := by decide +kernel
theorem dX10_hearers_16 : decode cX10_hearers 16 = .ok (.iload_n 3, 1) := by decide +kernel
theorem dX10_hearers_17 : decode cX10_hearers 17 = .ok (.iload 4, 2) := by decide +kernel
theorem dX10_hearers_19 : decode cX10_hearers 19 = .ok (.iload_n 2, 1) := by decide +kernel
theorem dX10_hearers_20 : decode cX10_hearers 20 = .ok (.if_icmp .eq 39, 3) := by decide +kernel
theorem dX10_hearers_23 : decode cX10_hearers 23 = .ok (.aload_n 0, 1) := by decide +kernel
theorem dX10_hearers_24 : decode cX10_hearers 24 = .ok (.iload 4, 2) := by decide +kernel
theorem dX10_hearers_26 : decode cX10_hearers 26 = .ok (.invokevirtual 359, 3) := by decide +kernel
theorem dX10_hearers_29 : decode cX10_hearers 29 = .ok (.iload_n 1, 1) := by decide +kernel
theorem dX10_hearers_30 : decode cX10_hearers 30 = .ok (.if_icmp .eq 22, 3) := by decide +kernel
theorem dX10_hearers_33 : decode cX10_hearers 33 = .ok (.aload_n 0, 1) := by decide +kernel
theorem dX10_hearers_34 : decode cX10_hearers 34 = .ok (.getfield 50, 3) := by decide +kernel
theorem dX10_hearers_37 : decode cX10_hearers 37 = .ok (.bipush 8, 2) := by decide +kernel
theorem dX10_hearers_39 : decode cX10_hearers 39 = .ok (.iload_n 1, 1) := by decide +kernel
theorem dX10_hearers_40 : decode cX10_hearers 40 = .ok (.imul, 1) := by decide +kernel
theorem dX10_hearers_41 : decode cX10_hearers 41 = .ok (.aload_n 0, 1) := by decide +kernel
theorem dX10_hearers_42 : decode cX10_hearers 42 = .ok (.iload 4, 2) := by decide +kernel
theorem dX10_hearers_44 : decode cX10_hearers 44 = .ok (.invokevirtual 359, 3) := by decide +kernel
theorem dX10_hearers_47 : decode cX10_hearers 47 = .ok (.iadd, 1) := by decide +kernel
theorem dX10_hearers_48 : decode cX10_hearers 48 = .ok (.iaload, 1) := by decide +kernel
theorem dX10_hearers_49 : decode cX10_hearers 49 = .ok (.ifCond .le 10, 3) := by decide +kernel
theorem dX10_hearers_52 : decode cX10_hearers 52 = .ok (.iconst 1, 1) := by decide +kernel
theorem dX10_hearers_53 : decode cX10_hearers 53 = .ok (.iload 4, 2) := by decide +kernel
theorem dX10_hearers_55 : decode cX10_hearers 55 = .ok (.ishl, 1) := by decide +kernel
theorem dX10_hearers_56 : decode cX10_hearers 56 = .ok (.goto 4, 3) := by decide +kernel
theorem dX10_hearers_59 : decode cX10_hearers 59 = .ok (.iconst 0, 1) := by decide +kernel
theorem dX10_hearers_60 : decode cX10_hearers 60 = .ok (.ior, 1) := by decide +kernel
theorem dX10_hearers_61 : decode cX10_hearers 61 = .ok (.istore_n 3, 1) := by decide +kernel
theorem dX10_hearers_62 : decode cX10_hearers 62 = .ok (.iinc 4 1, 3) := by decide +kernel
theorem dX10_hearers_65 : decode cX10_hearers 65 = .ok (.goto (-60), 3) := by decide +kernel
theorem dX10_hearers_68 : decode cX10_hearers 68 = .ok (.iload_n 3, 1) := by decide +kernel
theorem dX10_hearers_69 : decode cX10_hearers 69 = .ok (.ireturn, 1) := by decide +kernel
theorem dX10_tuneOf_0 : decode cX10_tuneOf 0 = .ok (.aload_n 0, 1) := by decide +kernel
theorem dX10_tuneOf_1 : decode cX10_tuneOf 1 = .ok (.iload_n 1, 1) := by decide +kernel
theorem dX10_tuneOf_2 : decode cX10_tuneOf 2 = .ok (.invokevirtual 359, 3) := by decide +kernel
theorem dX10_tuneOf_5 : decode cX10_tuneOf 5 = .ok (.istore_n 2, 1) := by decide +kernel
theorem dX10_tuneOf_6 : decode cX10_tuneOf 6 = .ok (.aload_n 0, 1) := by decide +kernel
theorem dX10_tuneOf_7 : decode cX10_tuneOf 7 = .ok (.getfield 39, 3) := by decide +kernel
theorem dX10_tuneOf_10 : decode cX10_tuneOf 10 = .ok (.iconst 3, 1) := by decide +kernel
theorem dX10_tuneOf_11 : decode cX10_tuneOf 11 = .ok (.iaload, 1) := by decide +kernel
theorem dX10_tuneOf_12 : decode cX10_tuneOf 12 = .ok (.ifCond .le 93, 3) := by decide +kernel
theorem dX10_tuneOf_15 : decode cX10_tuneOf 15 = .ok (.aload_n 0, 1) := by decide +kernel
theorem dX10_tuneOf_16 : decode cX10_tuneOf 16 = .ok (.getfield 101, 3) := by decide +kernel
theorem dX10_tuneOf_19 : decode cX10_tuneOf 19 = .ok (.iconst 0, 1) := by decide +kernel
theorem dX10_tuneOf_20 : decode cX10_tuneOf 20 = .ok (.aload_n 0, 1) := by decide +kernel
theorem dX10_tuneOf_21 : decode cX10_tuneOf 21 = .ok (.getfield 338, 3) := by decide +kernel
theorem dX10_tuneOf_24 : decode cX10_tuneOf 24 = .ok (.iastore, 1) := by decide +kernel
theorem dX10_tuneOf_25 : decode cX10_tuneOf 25 = .ok (.aload_n 0, 1) := by decide +kernel
theorem dX10_tuneOf_26 : decode cX10_tuneOf 26 = .ok (.getfield 101, 3) := by decide +kernel
theorem dX10_tuneOf_29 : decode cX10_tuneOf 29 = .ok (.iconst 1, 1) := by decide +kernel
theorem dX10_tuneOf_30 : decode cX10_tuneOf 30 = .ok (.iload_n 1, 1) := by decide +kernel
theorem dX10_tuneOf_31 : decode cX10_tuneOf 31 = .ok (.iastore, 1) := by decide +kernel
theorem dX10_tuneOf_32 : decode cX10_tuneOf 32 = .ok (.aload_n 0, 1) := by decide +kernel
theorem dX10_tuneOf_33 : decode cX10_tuneOf 33 = .ok (.getfield 101, 3) := by decide +kernel
theorem dX10_tuneOf_36 : decode cX10_tuneOf 36 = .ok (.iconst 2, 1) := by decide +kernel
theorem dX10_tuneOf_37 : decode cX10_tuneOf 37 = .ok (.iload_n 2, 1) := by decide +kernel
theorem dX10_tuneOf_38 : decode cX10_tuneOf 38 = .ok (.iastore, 1) := by decide +kernel
theorem dX10_tuneOf_39 : decode cX10_tuneOf 39 = .ok (.aload_n 0, 1) := by decide +kernel
theorem dX10_tuneOf_40 : decode cX10_tuneOf 40 = .ok (.getfield 101, 3) := by decide +kernel
theorem dX10_tuneOf_43 : decode cX10_tuneOf 43 = .ok (.iconst 3, 1) := by decide +kernel
theorem dX10_tuneOf_44 : decode cX10_tuneOf 44 = .ok (.aload_n 0, 1) := by decide +kernel
theorem dX10_tuneOf_45 : decode cX10_tuneOf 45 = .ok (.getfield 81, 3) := by decide +kernel
theorem dX10_tuneOf_48 : decode cX10_tuneOf 48 = .ok (.iload_n 1, 1) := by decide +kernel
theorem dX10_tuneOf_49 : decode cX10_tuneOf 49 = .ok (.iaload, 1) := by decide +kernel
theorem dX10_tuneOf_50 : decode cX10_tuneOf 50 = .ok (.invokestatic 362, 3) := by decide +kernel
theorem dX10_tuneOf_53 : decode cX10_tuneOf 53 = .ok (.iastore, 1) := by decide +kernel
theorem dX10_tuneOf_54 : decode cX10_tuneOf 54 = .ok (.aload_n 0, 1) := by decide +kernel
theorem dX10_tuneOf_55 : decode cX10_tuneOf 55 = .ok (.getfield 101, 3) := by decide +kernel
theorem dX10_tuneOf_58 : decode cX10_tuneOf 58 = .ok (.iconst 4, 1) := by decide +kernel
theorem dX10_tuneOf_59 : decode cX10_tuneOf 59 = .ok (.aload_n 0, 1) := by decide +kernel
theorem dX10_tuneOf_60 : decode cX10_tuneOf 60 = .ok (.getfield 83, 3) := by decide +kernel
theorem dX10_tuneOf_63 : decode cX10_tuneOf 63 = .ok (.iload_n 1, 1) := by decide +kernel
theorem dX10_tuneOf_64 : decode cX10_tuneOf 64 = .ok (.iaload, 1) := by decide +kernel
theorem dX10_tuneOf_65 : decode cX10_tuneOf 65 = .ok (.iastore, 1) := by decide +kernel
theorem dX10_tuneOf_66 : decode cX10_tuneOf 66 = .ok (.aload_n 0, 1) := by decide +kernel
theorem dX10_tuneOf_67 : decode cX10_tuneOf 67 = .ok (.aload_n 0, 1) := by decide +kernel
theorem dX10_tuneOf_68 : decode cX10_tuneOf 68 = .ok (.getfield 65, 3) := by decide +kernel
theorem dX10_tuneOf_71 : decode cX10_tuneOf 71 = .ok (.aload_n 0, 1) := by decide +kernel
theorem dX10_tuneOf_72 : decode cX10_tuneOf 72 = .ok (.getfield 39, 3) := by decide +kernel
theorem dX10_tuneOf_75 : decode cX10_tuneOf 75 = .ok (.iconst 3, 1) := by decide +kernel
theorem dX10_tuneOf_76 : decode cX10_tuneOf 76 = .ok (.iaload, 1) := by decide +kernel
theorem dX10_tuneOf_77 : decode cX10_tuneOf 77 = .ok (.invokevirtual 365, 3) := by decide +kernel
theorem dX10_tuneOf_80 : decode cX10_tuneOf 80 = .ok (.aload_n 0, 1) := by decide +kernel
theorem dX10_tuneOf_81 : decode cX10_tuneOf 81 = .ok (.getfield 39, 3) := by decide +kernel
theorem dX10_tuneOf_84 : decode cX10_tuneOf 84 = .ok (.iconst 0, 1) := by decide +kernel
theorem dX10_tuneOf_85 : decode cX10_tuneOf 85 = .ok (.iaload, 1) := by decide +kernel
theorem dX10_tuneOf_86 : decode cX10_tuneOf 86 = .ok (.irem, 1) := by decide +kernel
theorem dX10_tuneOf_87 : decode cX10_tuneOf 87 = .ok (.istore_n 2, 1) := by decide +kernel
theorem dX10_tuneOf_88 : decode cX10_tuneOf 88 = .ok (.iload_n 2, 1) := by decide +kernel
theorem dX10_tuneOf_89 : decode cX10_tuneOf 89 = .ok (.ifCond .ge 14, 3) := by decide +kernel
theorem dX10_tuneOf_92 : decode cX10_tuneOf 92 = .ok (.iload_n 2, 1) := by decide +kernel
theorem dX10_tuneOf_93 : decode cX10_tuneOf 93 = .ok (.aload_n 0, 1) := by decide +kernel
theorem dX10_tuneOf_94 : decode cX10_tuneOf 94 = .ok (.getfield 39, 3) := by decide +kernel
theorem dX10_tuneOf_97 : decode cX10_tuneOf 97 = .ok (.iconst 0, 1) := by decide +kernel
theorem dX10_tuneOf_98 : decode cX10_tuneOf 98 = .ok (.iaload, 1) := by decide +kernel
theorem dX10_tuneOf_99 : decode cX10_tuneOf 99 = .ok (.iadd, 1) := by decide +kernel
theorem dX10_tuneOf_100 : decode cX10_tuneOf 100 = .ok (.goto 4, 3) := by decide +kernel
theorem dX10_tuneOf_103 : decode cX10_tuneOf 103 = .ok (.iload_n 2, 1) := by decide +kernel
theorem dX10_tuneOf_104 : decode cX10_tuneOf 104 = .ok (.istore_n 2, 1) := by decide +kernel
theorem dX10_tuneOf_105 : decode cX10_tuneOf 105 = .ok (.aload_n 0, 1) := by decide +kernel
theorem dX10_tuneOf_106 : decode cX10_tuneOf 106 = .ok (.getfield 81, 3) := by decide +kernel
theorem dX10_tuneOf_109 : decode cX10_tuneOf 109 = .ok (.iload_n 1, 1) := by decide +kernel
theorem dX10_tuneOf_110 : decode cX10_tuneOf 110 = .ok (.iaload, 1) := by decide +kernel
theorem dX10_tuneOf_111 : decode cX10_tuneOf 111 = .ok (.iload_n 2, 1) := by decide +kernel
theorem dX10_tuneOf_112 : decode cX10_tuneOf 112 = .ok (.invokestatic 298, 3) := by decide +kernel
theorem dX10_tuneOf_115 : decode cX10_tuneOf 115 = .ok (.ifCond .eq 7, 3) := by decide +kernel
theorem dX10_tuneOf_118 : decode cX10_tuneOf 118 = .ok (.iload_n 2, 1) := by decide +kernel
theorem dX10_tuneOf_119 : decode cX10_tuneOf 119 = .ok (.goto 4, 3) := by decide +kernel
theorem dX10_tuneOf_122 : decode cX10_tuneOf 122 = .ok (.iconst (-1), 1) := by decide +kernel
theorem dX10_tuneOf_123 : decode cX10_tuneOf 123 = .ok (.ireturn, 1) := by decide +kernel
theorem dX10_isTrespass_0 : decode cX10_isTrespass 0 = .ok (.iload_n 2, 1) := by decide +kernel
theorem dX10_isTrespass_1 : decode cX10_isTrespass 1 = .ok (.aload_n 0, 1) := by decide +kernel
theorem dX10_isTrespass_2 : decode cX10_isTrespass 2 = .ok (.iload_n 1, 1) := by decide +kernel
theorem dX10_isTrespass_3 : decode cX10_isTrespass 3 = .ok (.invokevirtual 359, 3) := by decide +kernel
theorem dX10_isTrespass_6 : decode cX10_isTrespass 6 = .ok (.if_icmp .eq 41, 3) := by decide +kernel
theorem dX10_isTrespass_9 : decode cX10_isTrespass 9 = .ok (.aload_n 0, 1) := by decide +kernel
theorem dX10_isTrespass_10 : decode cX10_isTrespass 10 = .ok (.getfield 86, 3) := by decide +kernel
theorem dX10_isTrespass_13 : decode cX10_isTrespass 13 = .ok (.bipush 8, 2) := by decide +kernel
theorem dX10_isTrespass_15 : decode cX10_isTrespass 15 = .ok (.iload_n 1, 1) := by decide +kernel
theorem dX10_isTrespass_16 : decode cX10_isTrespass 16 = .ok (.imul, 1) := by decide +kernel
theorem dX10_isTrespass_17 : decode cX10_isTrespass 17 = .ok (.iload_n 2, 1) := by decide +kernel
theorem dX10_isTrespass_18 : decode cX10_isTrespass 18 = .ok (.iadd, 1) := by decide +kernel
theorem dX10_isTrespass_19 : decode cX10_isTrespass 19 = .ok (.iaload, 1) := by decide +kernel
theorem dX10_isTrespass_20 : decode cX10_isTrespass 20 = .ok (.ifCond .ne 27, 3) := by decide +kernel
theorem dX10_isTrespass_23 : decode cX10_isTrespass 23 = .ok (.aload_n 0, 1) := by decide +kernel
theorem dX10_isTrespass_24 : decode cX10_isTrespass 24 = .ok (.getfield 92, 3) := by decide +kernel
theorem dX10_isTrespass_27 : decode cX10_isTrespass 27 = .ok (.iload_n 2, 1) := by decide +kernel
theorem dX10_isTrespass_28 : decode cX10_isTrespass 28 = .ok (.iaload, 1) := by decide +kernel
theorem dX10_isTrespass_29 : decode cX10_isTrespass 29 = .ok (.iconst (-1), 1) := by decide +kernel
theorem dX10_isTrespass_30 : decode cX10_isTrespass 30 = .ok (.if_icmp .eq 17, 3) := by decide +kernel
theorem dX10_isTrespass_33 : decode cX10_isTrespass 33 = .ok (.aload_n 0, 1) := by decide +kernel
theorem dX10_isTrespass_34 : decode cX10_isTrespass 34 = .ok (.getfield 92, 3) := by decide +kernel
theorem dX10_isTrespass_37 : decode cX10_isTrespass 37 = .ok (.iload_n 2, 1) := by decide +kernel
theorem dX10_isTrespass_38 : decode cX10_isTrespass 38 = .ok (.iaload, 1) := by decide +kernel
theorem dX10_isTrespass_39 : decode cX10_isTrespass 39 = .ok (.iload_n 1, 1) := by decide +kernel
theorem dX10_isTrespass_40 : decode cX10_isTrespass 40 = .ok (.if_icmp .eq 7, 3) := by decide +kernel
theorem dX10_isTrespass_43 : decode cX10_isTrespass 43 = .ok (.iconst 1, 1) := by decide +kernel
theorem dX10_isTrespass_44 : decode cX10_isTrespass 44 = .ok (.goto 4, 3) := by decide +kernel
theorem dX10_isTrespass_47 : decode cX10_isTrespass 47 = .ok (.iconst 0, 1) := by decide +kernel
theorem dX10_isTrespass_48 : decode cX10_isTrespass 48 = .ok (.ireturn, 1) := by decide +kernel
theorem dX10_fineOf_0 : decode cX10_fineOf 0 = .ok (.aload_n 0, 1) := by decide +kernel
theorem dX10_fineOf_1 : decode cX10_fineOf 1 = .ok (.getfield 98, 3) := by decide +kernel
theorem dX10_fineOf_4 : decode cX10_fineOf 4 = .ok (.bipush 8, 2) := by decide +kernel
theorem dX10_fineOf_6 : decode cX10_fineOf 6 = .ok (.aload_n 0, 1) := by decide +kernel
theorem dX10_fineOf_7 : decode cX10_fineOf 7 = .ok (.iload_n 1, 1) := by decide +kernel
theorem dX10_fineOf_8 : decode cX10_fineOf 8 = .ok (.invokevirtual 359, 3) := by decide +kernel
theorem dX10_fineOf_11 : decode cX10_fineOf 11 = .ok (.imul, 1) := by decide +kernel
theorem dX10_fineOf_12 : decode cX10_fineOf 12 = .ok (.iload_n 2, 1) := by decide +kernel
theorem dX10_fineOf_13 : decode cX10_fineOf 13 = .ok (.iadd, 1) := by decide +kernel
theorem dX10_fineOf_14 : decode cX10_fineOf 14 = .ok (.iaload, 1) := by decide +kernel
theorem dX10_fineOf_15 : decode cX10_fineOf 15 = .ok (.ldc 203, 2) := by decide +kernel
theorem dX10_fineOf_17 : decode cX10_fineOf 17 = .ok (.if_icmp .lt 8, 3) := by decide +kernel
theorem dX10_fineOf_20 : decode cX10_fineOf 20 = .ok (.bipush 99, 2) := by decide +kernel
theorem dX10_fineOf_22 : decode cX10_fineOf 22 = .ok (.goto 18, 3) := by decide +kernel
theorem dX10_fineOf_25 : decode cX10_fineOf 25 = .ok (.aload_n 0, 1) := by decide +kernel
theorem dX10_fineOf_26 : decode cX10_fineOf 26 = .ok (.getfield 98, 3) := by decide +kernel
theorem dX10_fineOf_29 : decode cX10_fineOf 29 = .ok (.bipush 8, 2) := by decide +kernel
theorem dX10_fineOf_31 : decode cX10_fineOf 31 = .ok (.aload_n 0, 1) := by decide +kernel
theorem dX10_fineOf_32 : decode cX10_fineOf 32 = .ok (.iload_n 1, 1) := by decide +kernel
theorem dX10_fineOf_33 : decode cX10_fineOf 33 = .ok (.invokevirtual 359, 3) := by decide +kernel
theorem dX10_fineOf_36 : decode cX10_fineOf 36 = .ok (.imul, 1) := by decide +kernel
theorem dX10_fineOf_37 : decode cX10_fineOf 37 = .ok (.iload_n 2, 1) := by decide +kernel
theorem dX10_fineOf_38 : decode cX10_fineOf 38 = .ok (.iadd, 1) := by decide +kernel
theorem dX10_fineOf_39 : decode cX10_fineOf 39 = .ok (.iaload, 1) := by decide +kernel
theorem dX10_fineOf_40 : decode cX10_fineOf 40 = .ok (.istore 4, 2) := by decide +kernel
theorem dX10_fineOf_42 : decode cX10_fineOf 42 = .ok (.aload_n 0, 1) := by decide +kernel
theorem dX10_fineOf_43 : decode cX10_fineOf 43 = .ok (.getfield 39, 3) := by decide +kernel
theorem dX10_fineOf_46 : decode cX10_fineOf 46 = .ok (.iconst 4, 1) := by decide +kernel
theorem dX10_fineOf_47 : decode cX10_fineOf 47 = .ok (.iaload, 1) := by decide +kernel
theorem dX10_fineOf_48 : decode cX10_fineOf 48 = .ok (.ifCond .ne 11, 3) := by decide +kernel
theorem dX10_fineOf_51 : decode cX10_fineOf 51 = .ok (.bipush 99, 2) := by decide +kernel
theorem dX10_fineOf_53 : decode cX10_fineOf 53 = .ok (.iload 4, 2) := by decide +kernel
theorem dX10_fineOf_55 : decode cX10_fineOf 55 = .ok (.invokestatic 204, 3) := by decide +kernel
theorem dX10_fineOf_58 : decode cX10_fineOf 58 = .ok (.ireturn, 1) := by decide +kernel
theorem dX10_fineOf_59 : decode cX10_fineOf 59 = .ok (.aload_n 0, 1) := by decide +kernel
theorem dX10_fineOf_60 : decode cX10_fineOf 60 = .ok (.getfield 101, 3) := by decide +kernel
theorem dX10_fineOf_63 : decode cX10_fineOf 63 = .ok (.iconst 0, 1) := by decide +kernel
theorem dX10_fineOf_64 : decode cX10_fineOf 64 = .ok (.iload 4, 2) := by decide +kernel
theorem dX10_fineOf_66 : decode cX10_fineOf 66 = .ok (.iastore, 1) := by decide +kernel
theorem dX10_fineOf_67 : decode cX10_fineOf 67 = .ok (.aload_n 0, 1) := by decide +kernel
theorem dX10_fineOf_68 : decode cX10_fineOf 68 = .ok (.getfield 101, 3) := by decide +kernel
theorem dX10_fineOf_71 : decode cX10_fineOf 71 = .ok (.iconst 1, 1) := by decide +kernel
theorem dX10_fineOf_72 : decode cX10_fineOf 72 = .ok (.aload_n 0, 1) := by decide +kernel
theorem dX10_fineOf_73 : decode cX10_fineOf 73 = .ok (.getfield 43, 3) := by decide +kernel
theorem dX10_fineOf_76 : decode cX10_fineOf 76 = .ok (.iload_n 2, 1) := by decide +kernel
theorem dX10_fineOf_77 : decode cX10_fineOf 77 = .ok (.iaload, 1) := by decide +kernel
theorem dX10_fineOf_78 : decode cX10_fineOf 78 = .ok (.iastore, 1) := by decide +kernel
theorem dX10_fineOf_79 : decode cX10_fineOf 79 = .ok (.aload_n 0, 1) := by decide +kernel
theorem dX10_fineOf_80 : decode cX10_fineOf 80 = .ok (.getfield 101, 3) := by decide +kernel
theorem dX10_fineOf_83 : decode cX10_fineOf 83 = .ok (.iconst 2, 1) := by decide +kernel
theorem dX10_fineOf_84 : decode cX10_fineOf 84 = .ok (.aload_n 0, 1) := by decide +kernel
theorem dX10_fineOf_85 : decode cX10_fineOf 85 = .ok (.getfield 45, 3) := by decide +kernel
theorem dX10_fineOf_88 : decode cX10_fineOf 88 = .ok (.iload_n 2, 1) := by decide +kernel
theorem dX10_fineOf_89 : decode cX10_fineOf 89 = .ok (.iaload, 1) := by decide +kernel
theorem dX10_fineOf_90 : decode cX10_fineOf 90 = .ok (.iastore, 1) := by decide +kernel
theorem dX10_fineOf_91 : decode cX10_fineOf 91 = .ok (.aload_n 0, 1) := by decide +kernel
theorem dX10_fineOf_92 : decode cX10_fineOf 92 = .ok (.getfield 101, 3) := by decide +kernel
theorem dX10_fineOf_95 : decode cX10_fineOf 95 = .ok (.iconst 3, 1) := by decide +kernel
theorem dX10_fineOf_96 : decode cX10_fineOf 96 = .ok (.iload_n 3, 1) := by decide +kernel
theorem dX10_fineOf_97 : decode cX10_fineOf 97 = .ok (.iastore, 1) := by decide +kernel
theorem dX10_fineOf_98 : decode cX10_fineOf 98 = .ok (.aload_n 0, 1) := by decide +kernel
theorem dX10_fineOf_99 : decode cX10_fineOf 99 = .ok (.getfield 101, 3) := by decide +kernel
theorem dX10_fineOf_102 : decode cX10_fineOf 102 = .ok (.iconst 4, 1) := by decide +kernel
theorem dX10_fineOf_103 : decode cX10_fineOf 103 = .ok (.aload_n 0, 1) := by decide +kernel
theorem dX10_fineOf_104 : decode cX10_fineOf 104 = .ok (.getfield 83, 3) := by decide +kernel
theorem dX10_fineOf_107 : decode cX10_fineOf 107 = .ok (.iload_n 1, 1) := by decide +kernel
theorem dX10_fineOf_108 : decode cX10_fineOf 108 = .ok (.iaload, 1) := by decide +kernel
theorem dX10_fineOf_109 : decode cX10_fineOf 109 = .ok (.iastore, 1) := by decide +kernel
theorem dX10_fineOf_110 : decode cX10_fineOf 110 = .ok (.iconst 0, 1) := by decide +kernel
theorem dX10_fineOf_111 : decode cX10_fineOf 111 = .ok (.bipush 99, 2) := by decide +kernel
theorem dX10_fineOf_113 : decode cX10_fineOf 113 = .ok (.aload_n 0, 1) := by decide +kernel
theorem dX10_fineOf_114 : decode cX10_fineOf 114 = .ok (.aload_n 0, 1) := by decide +kernel
theorem dX10_fineOf_115 : decode cX10_fineOf 115 = .ok (.getfield 68, 3) := by decide +kernel
theorem dX10_fineOf_118 : decode cX10_fineOf 118 = .ok (.aload_n 0, 1) := by decide +kernel
theorem dX10_fineOf_119 : decode cX10_fineOf 119 = .ok (.getfield 39, 3) := by decide +kernel
theorem dX10_fineOf_122 : decode cX10_fineOf 122 = .ok (.iconst 4, 1) := by decide +kernel
theorem dX10_fineOf_123 : decode cX10_fineOf 123 = .ok (.iaload, 1) := by decide +kernel
theorem dX10_fineOf_124 : decode cX10_fineOf 124 = .ok (.invokevirtual 365, 3) := by decide +kernel
theorem dX10_fineOf_127 : decode cX10_fineOf 127 = .ok (.invokestatic 204, 3) := by decide +kernel
theorem dX10_fineOf_130 : decode cX10_fineOf 130 = .ok (.invokestatic 369, 3) := by decide +kernel
theorem dX10_fineOf_133 : decode cX10_fineOf 133 = .ok (.ireturn, 1) := by decide +kernel
theorem dX10_kept_0 : decode cX10_kept 0 = .ok (.sipush (-9999), 3) := by decide +kernel
theorem dX10_kept_3 : decode cX10_kept 3 = .ok (.sipush 9999, 3) := by decide +kernel
theorem dX10_kept_6 : decode cX10_kept 6 = .ok (.iload_n 0, 1) := by decide +kernel
theorem dX10_kept_7 : decode cX10_kept 7 = .ok (.invokestatic 204, 3) := by decide +kernel
theorem dX10_kept_10 : decode cX10_kept 10 = .ok (.invokestatic 369, 3) := by decide +kernel
theorem dX10_kept_13 : decode cX10_kept 13 = .ok (.ireturn, 1) := by decide +kernel
theorem dX10_sing_0 : decode cX10_sing 0 = .ok (.iload_n 1, 1) := by decide +kernel
theorem dX10_sing_1 : decode cX10_sing 1 = .ok (.aload_n 0, 1) := by decide +kernel
theorem dX10_sing_2 : decode cX10_sing 2 = .ok (.getfield 107, 3) := by decide +kernel
theorem dX10_sing_5 : decode cX10_sing 5 = .ok (.if_icmp .ne 7, 3) := by decide +kernel
theorem dX10_sing_8 : decode cX10_sing 8 = .ok (.iconst (-1), 1) := by decide +kernel
theorem dX10_sing_9 : decode cX10_sing 9 = .ok (.goto 8, 3) := by decide +kernel
theorem dX10_sing_12 : decode cX10_sing 12 = .ok (.aload_n 0, 1) := by decide +kernel
theorem dX10_sing_13 : decode cX10_sing 13 = .ok (.iload_n 1, 1) := by decide +kernel
theorem dX10_sing_14 : decode cX10_sing 14 = .ok (.invokevirtual 372, 3) := by decide +kernel
theorem dX10_sing_17 : decode cX10_sing 17 = .ok (.istore_n 2, 1) := by decide +kernel
theorem dX10_sing_18 : decode cX10_sing 18 = .ok (.aload_n 0, 1) := by decide +kernel
theorem dX10_sing_19 : decode cX10_sing 19 = .ok (.getfield 110, 3) := by decide +kernel
theorem dX10_sing_22 : decode cX10_sing 22 = .ok (.iload_n 1, 1) := by decide +kernel
theorem dX10_sing_23 : decode cX10_sing 23 = .ok (.iload_n 2, 1) := by decide +kernel
theorem dX10_sing_24 : decode cX10_sing 24 = .ok (.iastore, 1) := by decide +kernel
theorem dX10_sing_25 : decode cX10_sing 25 = .ok (.aload_n 0, 1) := by decide +kernel
theorem dX10_sing_26 : decode cX10_sing 26 = .ok (.getfield 113, 3) := by decide +kernel
theorem dX10_sing_29 : decode cX10_sing 29 = .ok (.iload_n 1, 1) := by decide +kernel
theorem dX10_sing_30 : decode cX10_sing 30 = .ok (.iconst (-1), 1) := by decide +kernel
theorem dX10_sing_31 : decode cX10_sing 31 = .ok (.iastore, 1) := by decide +kernel
theorem dX10_sing_32 : decode cX10_sing 32 = .ok (.iload_n 2, 1) := by decide +kernel
theorem dX10_sing_33 : decode cX10_sing 33 = .ok (.iconst (-1), 1) := by decide +kernel
theorem dX10_sing_34 : decode cX10_sing 34 = .ok (.if_icmp .ne 4, 3) := by decide +kernel
theorem dX10_sing_37 : decode cX10_sing 37 = .ok (.return_, 1) := by decide +kernel
theorem dX10_sing_38 : decode cX10_sing 38 = .ok (.aload_n 0, 1) := by decide +kernel
theorem dX10_sing_39 : decode cX10_sing 39 = .ok (.aload_n 0, 1) := by decide +kernel
theorem dX10_sing_40 : decode cX10_sing 40 = .ok (.iload_n 1, 1) := by decide +kernel
theorem dX10_sing_41 : decode cX10_sing 41 = .ok (.invokevirtual 359, 3) := by decide +kernel
theorem dX10_sing_44 : decode cX10_sing 44 = .ok (.iload_n 1, 1) := by decide +kernel
theorem dX10_sing_45 : decode cX10_sing 45 = .ok (.invokevirtual 375, 3) := by decide +kernel
theorem dX10_sing_48 : decode cX10_sing 48 = .ok (.istore_n 3, 1) := by decide +kernel
theorem dX10_sing_49 : decode cX10_sing 49 = .ok (.aload_n 0, 1) := by decide +kernel
theorem dX10_sing_50 : decode cX10_sing 50 = .ok (.iload_n 1, 1) := by decide +kernel
theorem dX10_sing_51 : decode cX10_sing 51 = .ok (.iload_n 2, 1) := by decide +kernel
theorem dX10_sing_52 : decode cX10_sing 52 = .ok (.invokevirtual 377, 3) := by decide +kernel
theorem dX10_sing_55 : decode cX10_sing 55 = .ok (.ifCond .eq 81, 3) := by decide +kernel
theorem dX10_sing_58 : decode cX10_sing 58 = .ok (.aload_n 0, 1) := by decide +kernel
theorem dX10_sing_59 : decode cX10_sing 59 = .ok (.iload_n 1, 1) := by decide +kernel
theorem dX10_sing_60 : decode cX10_sing 60 = .ok (.iload_n 2, 1) := by decide +kernel
theorem dX10_sing_61 : decode cX10_sing 61 = .ok (.iload_n 3, 1) := by decide +kernel
theorem dX10_sing_62 : decode cX10_sing 62 = .ok (.invokestatic 362, 3) := by decide +kernel
theorem dX10_sing_65 : decode cX10_sing 65 = .ok (.invokevirtual 380, 3) := by decide +kernel
theorem dX10_sing_68 : decode cX10_sing 68 = .ok (.istore 4, 2) := by decide +kernel
theorem dX10_sing_70 : decode cX10_sing 70 = .ok (.aload_n 0, 1) := by decide +kernel
theorem dX10_sing_71 : decode cX10_sing 71 = .ok (.getfield 83, 3) := by decide +kernel
theorem dX10_sing_74 : decode cX10_sing 74 = .ok (.iload_n 1, 1) := by decide +kernel
theorem dX10_sing_75 : decode cX10_sing 75 = .ok (.aload_n 0, 1) := by decide +kernel
theorem dX10_sing_76 : decode cX10_sing 76 = .ok (.getfield 83, 3) := by decide +kernel
theorem dX10_sing_79 : decode cX10_sing 79 = .ok (.iload_n 1, 1) := by decide +kernel
theorem dX10_sing_80 : decode cX10_sing 80 = .ok (.iaload, 1) := by decide +kernel
theorem dX10_sing_81 : decode cX10_sing 81 = .ok (.iload 4, 2) := by decide +kernel
theorem dX10_sing_83 : decode cX10_sing 83 = .ok (.isub, 1) := by decide +kernel
theorem dX10_sing_84 : decode cX10_sing 84 = .ok (.invokestatic 383, 3) := by decide +kernel
theorem dX10_sing_87 : decode cX10_sing 87 = .ok (.iastore, 1) := by decide +kernel
theorem dX10_sing_88 : decode cX10_sing 88 = .ok (.aload_n 0, 1) := by decide +kernel
theorem dX10_sing_89 : decode cX10_sing 89 = .ok (.getfield 83, 3) := by decide +kernel
theorem dX10_sing_92 : decode cX10_sing 92 = .ok (.aload_n 0, 1) := by decide +kernel
theorem dX10_sing_93 : decode cX10_sing 93 = .ok (.getfield 92, 3) := by decide +kernel
theorem dX10_sing_96 : decode cX10_sing 96 = .ok (.iload_n 2, 1) := by decide +kernel
theorem dX10_sing_97 : decode cX10_sing 97 = .ok (.iaload, 1) := by decide +kernel
theorem dX10_sing_98 : decode cX10_sing 98 = .ok (.aload_n 0, 1) := by decide +kernel
theorem dX10_sing_99 : decode cX10_sing 99 = .ok (.getfield 83, 3) := by decide +kernel
theorem dX10_sing_102 : decode cX10_sing 102 = .ok (.aload_n 0, 1) := by decide +kernel
theorem dX10_sing_103 : decode cX10_sing 103 = .ok (.getfield 92, 3) := by decide +kernel
theorem dX10_sing_106 : decode cX10_sing 106 = .ok (.iload_n 2, 1) := by decide +kernel
theorem dX10_sing_107 : decode cX10_sing 107 = .ok (.iaload, 1) := by decide +kernel
theorem dX10_sing_108 : decode cX10_sing 108 = .ok (.iaload, 1) := by decide +kernel
theorem dX10_sing_109 : decode cX10_sing 109 = .ok (.iload 4, 2) := by decide +kernel
theorem dX10_sing_111 : decode cX10_sing 111 = .ok (.iadd, 1) := by decide +kernel
theorem dX10_sing_112 : decode cX10_sing 112 = .ok (.invokestatic 383, 3) := by decide +kernel
theorem dX10_sing_115 : decode cX10_sing 115 = .ok (.iastore, 1) := by decide +kernel
theorem dX10_sing_116 : decode cX10_sing 116 = .ok (.aload_n 0, 1) := by decide +kernel
theorem dX10_sing_117 : decode cX10_sing 117 = .ok (.getfield 113, 3) := by decide +kernel
theorem dX10_sing_120 : decode cX10_sing 120 = .ok (.iload_n 1, 1) := by decide +kernel
theorem dX10_sing_121 : decode cX10_sing 121 = .ok (.iload_n 2, 1) := by decide +kernel
theorem dX10_sing_122 : decode cX10_sing 122 = .ok (.iastore, 1) := by decide +kernel
theorem dX10_sing_123 : decode cX10_sing 123 = .ok (.aload_n 0, 1) := by decide +kernel
theorem dX10_sing_124 : decode cX10_sing 124 = .ok (.dup, 1) := by decide +kernel
theorem dX10_sing_125 : decode cX10_sing 125 = .ok (.getfield 340, 3) := by decide +kernel
theorem dX10_sing_128 : decode cX10_sing 128 = .ok (.iconst 1, 1) := by decide +kernel
theorem dX10_sing_129 : decode cX10_sing 129 = .ok (.iadd, 1) := by decide +kernel
theorem dX10_sing_130 : decode cX10_sing 130 = .ok (.putfield 340, 3) := by decide +kernel
theorem dX10_sing_133 : decode cX10_sing 133 = .ok (.goto 41, 3) := by decide +kernel
theorem dX10_sing_136 : decode cX10_sing 136 = .ok (.iload_n 2, 1) := by decide +kernel
theorem dX10_sing_137 : decode cX10_sing 137 = .ok (.aload_n 0, 1) := by decide +kernel
theorem dX10_sing_138 : decode cX10_sing 138 = .ok (.iload_n 1, 1) := by decide +kernel
theorem dX10_sing_139 : decode cX10_sing 139 = .ok (.invokevirtual 359, 3) := by decide +kernel
theorem dX10_sing_142 : decode cX10_sing 142 = .ok (.if_icmp .eq 32, 3) := by decide +kernel
theorem dX10_sing_145 : decode cX10_sing 145 = .ok (.aload_n 0, 1) := by decide +kernel
theorem dX10_sing_146 : decode cX10_sing 146 = .ok (.getfield 86, 3) := by decide +kernel
theorem dX10_sing_149 : decode cX10_sing 149 = .ok (.bipush 8, 2) := by decide +kernel
theorem dX10_sing_151 : decode cX10_sing 151 = .ok (.iload_n 1, 1) := by decide +kernel
theorem dX10_sing_152 : decode cX10_sing 152 = .ok (.imul, 1) := by decide +kernel
theorem dX10_sing_153 : decode cX10_sing 153 = .ok (.iload_n 2, 1) := by decide +kernel
theorem dX10_sing_154 : decode cX10_sing 154 = .ok (.iadd, 1) := by decide +kernel
theorem dX10_sing_155 : decode cX10_sing 155 = .ok (.iaload, 1) := by decide +kernel
theorem dX10_sing_156 : decode cX10_sing 156 = .ok (.ifCond .le 18, 3) := by decide +kernel
theorem dX10_sing_159 : decode cX10_sing 159 = .ok (.aload_n 0, 1) := by decide +kernel
theorem dX10_sing_160 : decode cX10_sing 160 = .ok (.getfield 86, 3) := by decide +kernel
theorem dX10_sing_163 : decode cX10_sing 163 = .ok (.bipush 8, 2) := by decide +kernel
theorem dX10_sing_165 : decode cX10_sing 165 = .ok (.iload_n 1, 1) := by decide +kernel
theorem dX10_sing_166 : decode cX10_sing 166 = .ok (.imul, 1) := by decide +kernel
theorem dX10_sing_167 : decode cX10_sing 167 = .ok (.iload_n 2, 1) := by decide +kernel
theorem dX10_sing_168 : decode cX10_sing 168 = .ok (.iadd, 1) := by decide +kernel
theorem dX10_sing_169 : decode cX10_sing 169 = .ok (.dup2, 1) := by decide +kernel
theorem dX10_sing_170 : decode cX10_sing 170 = .ok (.iaload, 1) := by decide +kernel
theorem dX10_sing_171 : decode cX10_sing 171 = .ok (.iconst 1, 1) := by decide +kernel
theorem dX10_sing_172 : decode cX10_sing 172 = .ok (.isub, 1) := by decide +kernel
theorem dX10_sing_173 : decode cX10_sing 173 = .ok (.iastore, 1) := by decide +kernel
theorem dX10_sing_174 : decode cX10_sing 174 = .ok (.iconst 0, 1) := by decide +kernel
theorem dX10_sing_175 : decode cX10_sing 175 = .ok (.istore 4, 2) := by decide +kernel
theorem dX10_sing_177 : decode cX10_sing 177 = .ok (.iload 4, 2) := by decide +kernel
theorem dX10_sing_179 : decode cX10_sing 179 = .ok (.aload_n 0, 1) := by decide +kernel
theorem dX10_sing_180 : decode cX10_sing 180 = .ok (.getfield 39, 3) := by decide +kernel
theorem dX10_sing_183 : decode cX10_sing 183 = .ok (.iconst 2, 1) := by decide +kernel
theorem dX10_sing_184 : decode cX10_sing 184 = .ok (.iaload, 1) := by decide +kernel
theorem dX10_sing_185 : decode cX10_sing 185 = .ok (.if_icmp .ge 35, 3) := by decide +kernel
theorem dX10_sing_188 : decode cX10_sing 188 = .ok (.aload_n 0, 1) := by decide +kernel
theorem dX10_sing_189 : decode cX10_sing 189 = .ok (.getfield 81, 3) := by decide +kernel
theorem dX10_sing_192 : decode cX10_sing 192 = .ok (.iload 4, 2) := by decide +kernel
theorem dX10_sing_194 : decode cX10_sing 194 = .ok (.dup2, 1) := by decide +kernel
theorem dX10_sing_195 : decode cX10_sing 195 = .ok (.iaload, 1) := by decide +kernel
theorem dX10_sing_196 : decode cX10_sing 196 = .ok (.iload_n 3, 1) := by decide +kernel
theorem dX10_sing_197 : decode cX10_sing 197 = .ok (.iload 4, 2) := by decide +kernel
theorem dX10_sing_199 : decode cX10_sing 199 = .ok (.invokestatic 298, 3) := by decide +kernel
theorem dX10_sing_202 : decode cX10_sing 202 = .ok (.ifCond .eq 9, 3) := by decide +kernel
theorem dX10_sing_205 : decode cX10_sing 205 = .ok (.iconst 1, 1) := by decide +kernel
theorem dX10_sing_206 : decode cX10_sing 206 = .ok (.iload_n 2, 1) := by decide +kernel
theorem dX10_sing_207 : decode cX10_sing 207 = .ok (.ishl, 1) := by decide +kernel
theorem dX10_sing_208 : decode cX10_sing 208 = .ok (.goto 4, 3) := by decide +kernel
theorem dX10_sing_211 : decode cX10_sing 211 = .ok (.iconst 0, 1) := by decide +kernel
theorem dX10_sing_212 : decode cX10_sing 212 = .ok (.ior, 1) := by decide +kernel
theorem dX10_sing_213 : decode cX10_sing 213 = .ok (.iastore, 1) := by decide +kernel
theorem dX10_sing_214 : decode cX10_sing 214 = .ok (.iinc 4 1, 3) := by decide +kernel
theorem dX10_sing_217 : decode cX10_sing 217 = .ok (.goto (-40), 3) := by decide +kernel
theorem dX10_sing_220 : decode cX10_sing 220 = .ok (.return_, 1) := by decide +kernel
theorem dX10_anHour_0 : decode cX10_anHour 0 = .ok (.iconst 0, 1) := by decide +kernel
theorem dX10_anHour_1 : decode cX10_anHour 1 = .ok (.istore_n 1, 1) := by decide +kernel
theorem dX10_anHour_2 : decode cX10_anHour 2 = .ok (.iload_n 1, 1) := by decide +kernel
theorem dX10_anHour_3 : decode cX10_anHour 3 = .ok (.aload_n 0, 1) := by decide +kernel
theorem dX10_anHour_4 : decode cX10_anHour 4 = .ok (.getfield 39, 3) := by decide +kernel
theorem dX10_anHour_7 : decode cX10_anHour 7 = .ok (.iconst 2, 1) := by decide +kernel
theorem dX10_anHour_8 : decode cX10_anHour 8 = .ok (.iaload, 1) := by decide +kernel
theorem dX10_anHour_9 : decode cX10_anHour 9 = .ok (.if_icmp .ge 14, 3) := by decide +kernel
theorem dX10_anHour_12 : decode cX10_anHour 12 = .ok (.aload_n 0, 1) := by decide +kernel
theorem dX10_anHour_13 : decode cX10_anHour 13 = .ok (.iload_n 1, 1) := by decide +kernel
theorem dX10_anHour_14 : decode cX10_anHour 14 = .ok (.invokevirtual 386, 3) := by decide +kernel
theorem dX10_anHour_17 : decode cX10_anHour 17 = .ok (.iinc 1 1, 3) := by decide +kernel
theorem dX10_anHour_20 : decode cX10_anHour 20 = .ok (.goto (-18), 3) := by decide +kernel
theorem dX10_anHour_23 : decode cX10_anHour 23 = .ok (.aload_n 0, 1) := by decide +kernel
theorem dX10_anHour_24 : decode cX10_anHour 24 = .ok (.dup, 1) := by decide +kernel
theorem dX10_anHour_25 : decode cX10_anHour 25 = .ok (.getfield 338, 3) := by decide +kernel
theorem dX10_anHour_28 : decode cX10_anHour 28 = .ok (.iconst 1, 1) := by decide +kernel
theorem dX10_anHour_29 : decode cX10_anHour 29 = .ok (.iadd, 1) := by decide +kernel
theorem dX10_anHour_30 : decode cX10_anHour 30 = .ok (.putfield 338, 3) := by decide +kernel
theorem dX10_anHour_33 : decode cX10_anHour 33 = .ok (.return_, 1) := by decide +kernel
theorem dX10_goOn_0 : decode cX10_goOn 0 = .ok (.iconst 0, 1) := by decide +kernel
theorem dX10_goOn_1 : decode cX10_goOn 1 = .ok (.istore_n 2, 1) := by decide +kernel
theorem dX10_goOn_2 : decode cX10_goOn 2 = .ok (.iload_n 2, 1) := by decide +kernel
theorem dX10_goOn_3 : decode cX10_goOn 3 = .ok (.iload_n 1, 1) := by decide +kernel
theorem dX10_goOn_4 : decode cX10_goOn 4 = .ok (.if_icmp .ge 13, 3) := by decide +kernel
theorem dX10_goOn_7 : decode cX10_goOn 7 = .ok (.aload_n 0, 1) := by decide +kernel
theorem dX10_goOn_8 : decode cX10_goOn 8 = .ok (.invokevirtual 389, 3) := by decide +kernel
theorem dX10_goOn_11 : decode cX10_goOn 11 = .ok (.iinc 2 1, 3) := by decide +kernel
theorem dX10_goOn_14 : decode cX10_goOn 14 = .ok (.goto (-12), 3) := by decide +kernel
theorem dX10_goOn_17 : decode cX10_goOn 17 = .ok (.return_, 1) := by decide +kernel
theorem dX10_count_0 : decode cX10_count 0 = .ok (.aload_n 0, 1) := by decide +kernel
theorem dX10_count_1 : decode cX10_count 1 = .ok (.iconst 0, 1) := by decide +kernel
theorem dX10_count_2 : decode cX10_count 2 = .ok (.putfield 167, 3) := by decide +kernel
theorem dX10_count_5 : decode cX10_count 5 = .ok (.iload_n 1, 1) := by decide +kernel
theorem dX10_count_6 : decode cX10_count 6 = .ok (.tableswitch 100 0 10 #[58, 58, 58, 65, 70, 75, 80, 85, 90, 90, 90], 58) := by decide +kernel
theorem dX10_count_64 : decode cX10_count 64 = .ok (.aload_n 0, 1) := by decide +kernel
theorem dX10_count_65 : decode cX10_count 65 = .ok (.getfield 39, 3) := by decide +kernel
theorem dX10_count_68 : decode cX10_count 68 = .ok (.iload_n 1, 1) := by decide +kernel
theorem dX10_count_69 : decode cX10_count 69 = .ok (.iaload, 1) := by decide +kernel
theorem dX10_count_70 : decode cX10_count 70 = .ok (.ireturn, 1) := by decide +kernel
theorem dX10_count_71 : decode cX10_count 71 = .ok (.aload_n 0, 1) := by decide +kernel
theorem dX10_count_72 : decode cX10_count 72 = .ok (.getfield 338, 3) := by decide +kernel
theorem dX10_count_75 : decode cX10_count 75 = .ok (.ireturn, 1) := by decide +kernel
theorem dX10_count_76 : decode cX10_count 76 = .ok (.aload_n 0, 1) := by decide +kernel
theorem dX10_count_77 : decode cX10_count 77 = .ok (.getfield 340, 3) := by decide +kernel
theorem dX10_count_80 : decode cX10_count 80 = .ok (.ireturn, 1) := by decide +kernel
theorem dX10_count_81 : decode cX10_count 81 = .ok (.aload_n 0, 1) := by decide +kernel
theorem dX10_count_82 : decode cX10_count 82 = .ok (.getfield 346, 3) := by decide +kernel
theorem dX10_count_85 : decode cX10_count 85 = .ok (.ireturn, 1) := by decide +kernel
theorem dX10_count_86 : decode cX10_count 86 = .ok (.aload_n 0, 1) := by decide +kernel
theorem dX10_count_87 : decode cX10_count 87 = .ok (.getfield 349, 3) := by decide +kernel
theorem dX10_count_90 : decode cX10_count 90 = .ok (.ireturn, 1) := by decide +kernel
theorem dX10_count_91 : decode cX10_count 91 = .ok (.aload_n 0, 1) := by decide +kernel
theorem dX10_count_92 : decode cX10_count 92 = .ok (.getfield 174, 3) := by decide +kernel
theorem dX10_count_95 : decode cX10_count 95 = .ok (.ireturn, 1) := by decide +kernel
theorem dX10_count_96 : decode cX10_count 96 = .ok (.aload_n 0, 1) := by decide +kernel
theorem dX10_count_97 : decode cX10_count 97 = .ok (.getfield 71, 3) := by decide +kernel
theorem dX10_count_100 : decode cX10_count 100 = .ok (.iload_n 1, 1) := by decide +kernel
theorem dX10_count_101 : decode cX10_count 101 = .ok (.bipush 8, 2) := by decide +kernel
theorem dX10_count_103 : decode cX10_count 103 = .ok (.isub, 1) := by decide +kernel
theorem dX10_count_104 : decode cX10_count 104 = .ok (.iaload, 1) := by decide +kernel
theorem dX10_count_105 : decode cX10_count 105 = .ok (.ireturn, 1) := by decide +kernel
theorem dX10_count_106 : decode cX10_count 106 = .ok (.aload_n 0, 1) := by decide +kernel
theorem dX10_count_107 : decode cX10_count 107 = .ok (.iconst 1, 1) := by decide +kernel
theorem dX10_count_108 : decode cX10_count 108 = .ok (.invokevirtual 325, 3) := by decide +kernel
theorem dX10_count_111 : decode cX10_count 111 = .ok (.ireturn, 1) := by decide +kernel
theorem dX10_thirds_0 : decode cX10_thirds 0 = .ok (.iconst 0, 1) := by decide +kernel
theorem dX10_thirds_1 : decode cX10_thirds 1 = .ok (.istore_n 2, 1) := by decide +kernel
theorem dX10_thirds_2 : decode cX10_thirds 2 = .ok (.iconst 0, 1) := by decide +kernel
theorem dX10_thirds_3 : decode cX10_thirds 3 = .ok (.istore_n 3, 1) := by decide +kernel
theorem dX10_thirds_4 : decode cX10_thirds 4 = .ok (.iload_n 3, 1) := by decide +kernel
theorem dX10_thirds_5 : decode cX10_thirds 5 = .ok (.aload_n 0, 1) := by decide +kernel
theorem dX10_thirds_6 : decode cX10_thirds 6 = .ok (.getfield 39, 3) := by decide +kernel
theorem dX10_thirds_9 : decode cX10_thirds 9 = .ok (.iconst 0, 1) := by decide +kernel
theorem dX10_thirds_10 : decode cX10_thirds 10 = .ok (.iaload, 1) := by decide +kernel
theorem dX10_thirds_11 : decode cX10_thirds 11 = .ok (.if_icmp .ge 111, 3) := by decide +kernel
theorem dX10_thirds_14 : decode cX10_thirds 14 = .ok (.aload_n 0, 1) := by decide +kernel
theorem dX10_thirds_15 : decode cX10_thirds 15 = .ok (.getfield 45, 3) := by decide +kernel
theorem dX10_thirds_18 : decode cX10_thirds 18 = .ok (.iload_n 3, 1) := by decide +kernel
theorem dX10_thirds_19 : decode cX10_thirds 19 = .ok (.iaload, 1) := by decide +kernel
theorem dX10_thirds_20 : decode cX10_thirds 20 = .ok (.aload_n 0, 1) := by decide +kernel
theorem dX10_thirds_21 : decode cX10_thirds 21 = .ok (.getfield 45, 3) := by decide +kernel
theorem dX10_thirds_24 : decode cX10_thirds 24 = .ok (.iload_n 1, 1) := by decide +kernel
theorem dX10_thirds_25 : decode cX10_thirds 25 = .ok (.iaload, 1) := by decide +kernel
theorem dX10_thirds_26 : decode cX10_thirds 26 = .ok (.if_icmp .ne 7, 3) := by decide +kernel
theorem dX10_thirds_29 : decode cX10_thirds 29 = .ok (.iconst 1, 1) := by decide +kernel
theorem dX10_thirds_30 : decode cX10_thirds 30 = .ok (.goto 4, 3) := by decide +kernel
theorem dX10_thirds_33 : decode cX10_thirds 33 = .ok (.iconst 0, 1) := by decide +kernel
theorem dX10_thirds_34 : decode cX10_thirds 34 = .ok (.istore 4, 2) := by decide +kernel
theorem dX10_thirds_36 : decode cX10_thirds 36 = .ok (.iconst 0, 1) := by decide +kernel
theorem dX10_thirds_37 : decode cX10_thirds 37 = .ok (.istore 5, 2) := by decide +kernel
theorem dX10_thirds_39 : decode cX10_thirds 39 = .ok (.iload 5, 2) := by decide +kernel
theorem dX10_thirds_41 : decode cX10_thirds 41 = .ok (.aload_n 0, 1) := by decide +kernel
theorem dX10_thirds_42 : decode cX10_thirds 42 = .ok (.getfield 45, 3) := by decide +kernel
theorem dX10_thirds_45 : decode cX10_thirds 45 = .ok (.iload_n 1, 1) := by decide +kernel
theorem dX10_thirds_46 : decode cX10_thirds 46 = .ok (.iaload, 1) := by decide +kernel
theorem dX10_thirds_47 : decode cX10_thirds 47 = .ok (.if_icmp .ge 54, 3) := by decide +kernel
theorem dX10_thirds_50 : decode cX10_thirds 50 = .ok (.iload 4, 2) := by decide +kernel
theorem dX10_thirds_52 : decode cX10_thirds 52 = .ok (.ifCond .eq 49, 3) := by decide +kernel
theorem dX10_thirds_55 : decode cX10_thirds 55 = .ok (.aload_n 0, 1) := by decide +kernel
theorem dX10_thirds_56 : decode cX10_thirds 56 = .ok (.getfield 48, 3) := by decide +kernel
theorem dX10_thirds_59 : decode cX10_thirds 59 = .ok (.bipush 6, 2) := by decide +kernel
theorem dX10_thirds_61 : decode cX10_thirds 61 = .ok (.iload_n 3, 1) := by decide +kernel
theorem dX10_thirds_62 : decode cX10_thirds 62 = .ok (.imul, 1) := by decide +kernel
theorem dX10_thirds_63 : decode cX10_thirds 63 = .ok (.iload 5, 2) := by decide +kernel
theorem dX10_thirds_65 : decode cX10_thirds 65 = .ok (.iadd, 1) := by decide +kernel
theorem dX10_thirds_66 : decode cX10_thirds 66 = .ok (.iaload, 1) := by decide +kernel
theorem dX10_thirds_67 : decode cX10_thirds 67 = .ok (.aload_n 0, 1) := by decide +kernel
theorem dX10_thirds_68 : decode cX10_thirds 68 = .ok (.getfield 48, 3) := by decide +kernel
theorem dX10_thirds_71 : decode cX10_thirds 71 = .ok (.bipush 6, 2) := by decide +kernel
theorem dX10_thirds_73 : decode cX10_thirds 73 = .ok (.iload_n 1, 1) := by decide +kernel
theorem dX10_thirds_74 : decode cX10_thirds 74 = .ok (.imul, 1) := by decide +kernel
theorem dX10_thirds_75 : decode cX10_thirds 75 = .ok (.iload 5, 2) := by decide +kernel
theorem dX10_thirds_77 : decode cX10_thirds 77 = .ok (.iadd, 1) := by decide +kernel
theorem dX10_thirds_78 : decode cX10_thirds 78 = .ok (.iaload, 1) := by decide +kernel
theorem dX10_thirds_79 : decode cX10_thirds 79 = .ok (.bipush 8, 2) := by decide +kernel
theorem dX10_thirds_81 : decode cX10_thirds 81 = .ok (.iadd, 1) := by decide +kernel
theorem dX10_thirds_82 : decode cX10_thirds 82 = .ok (.bipush 10, 2) := by decide +kernel
theorem dX10_thirds_84 : decode cX10_thirds 84 = .ok (.irem, 1) := by decide +kernel
theorem dX10_thirds_85 : decode cX10_thirds 85 = .ok (.if_icmp .ne 7, 3) := by decide +kernel
theorem dX10_thirds_88 : decode cX10_thirds 88 = .ok (.iconst 1, 1) := by decide +kernel
theorem dX10_thirds_89 : decode cX10_thirds 89 = .ok (.goto 4, 3) := by decide +kernel
theorem dX10_thirds_92 : decode cX10_thirds 92 = .ok (.iconst 0, 1) := by decide +kernel
theorem dX10_thirds_93 : decode cX10_thirds 93 = .ok (.istore 4, 2) := by decide +kernel
theorem dX10_thirds_95 : decode cX10_thirds 95 = .ok (.iinc 5 1, 3) := by decide +kernel
theorem dX10_thirds_98 : decode cX10_thirds 98 = .ok (.goto (-59), 3) := by decide +kernel
theorem dX10_thirds_101 : decode cX10_thirds 101 = .ok (.iload_n 2, 1) := by decide +kernel
theorem dX10_thirds_102 : decode cX10_thirds 102 = .ok (.iload 4, 2) := by decide +kernel
theorem dX10_thirds_104 : decode cX10_thirds 104 = .ok (.ifCond .eq 9, 3) := by decide +kernel
theorem dX10_thirds_107 : decode cX10_thirds 107 = .ok (.iconst 1, 1) := by decide +kernel
theorem dX10_thirds_108 : decode cX10_thirds 108 = .ok (.iload_n 3, 1) := by decide +kernel
theorem dX10_thirds_109 : decode cX10_thirds 109 = .ok (.ishl, 1) := by decide +kernel
theorem dX10_thirds_110 : decode cX10_thirds 110 = .ok (.goto 4, 3) := by decide +kernel
theorem dX10_thirds_113 : decode cX10_thirds 113 = .ok (.iconst 0, 1) := by decide +kernel
theorem dX10_thirds_114 : decode cX10_thirds 114 = .ok (.ior, 1) := by decide +kernel
theorem dX10_thirds_115 : decode cX10_thirds 115 = .ok (.istore_n 2, 1) := by decide +kernel
theorem dX10_thirds_116 : decode cX10_thirds 116 = .ok (.iinc 3 1, 3) := by decide +kernel
theorem dX10_thirds_119 : decode cX10_thirds 119 = .ok (.goto (-115), 3) := by decide +kernel
theorem dX10_thirds_122 : decode cX10_thirds 122 = .ok (.iload_n 2, 1) := by decide +kernel
theorem dX10_thirds_123 : decode cX10_thirds 123 = .ok (.ireturn, 1) := by decide +kernel
theorem dX10_field_0 : decode cX10_field 0 = .ok (.aload_n 0, 1) := by decide +kernel
theorem dX10_field_1 : decode cX10_field 1 = .ok (.iconst 0, 1) := by decide +kernel
theorem dX10_field_2 : decode cX10_field 2 = .ok (.putfield 167, 3) := by decide +kernel
theorem dX10_field_5 : decode cX10_field 5 = .ok (.aload_n 0, 1) := by decide +kernel
theorem dX10_field_6 : decode cX10_field 6 = .ok (.iload_n 1, 1) := by decide +kernel
theorem dX10_field_7 : decode cX10_field 7 = .ok (.invokevirtual 392, 3) := by decide +kernel
theorem dX10_field_10 : decode cX10_field 10 = .ok (.ifCond .eq 15, 3) := by decide +kernel
theorem dX10_field_13 : decode cX10_field 13 = .ok (.iload_n 2, 1) := by decide +kernel
theorem dX10_field_14 : decode cX10_field 14 = .ok (.i2l, 1) := by decide +kernel
theorem dX10_field_15 : decode cX10_field 15 = .ok (.lconst 0, 1) := by decide +kernel
theorem dX10_field_16 : decode cX10_field 16 = .ok (.ldc2_w 395, 3) := by decide +kernel
theorem dX10_field_19 : decode cX10_field 19 = .ok (.invokestatic 170, 3) := by decide +kernel
theorem dX10_field_22 : decode cX10_field 22 = .ok (.ifCond .ne 9, 3) := by decide +kernel
theorem dX10_field_25 : decode cX10_field 25 = .ok (.aload_n 0, 1) := by decide +kernel
theorem dX10_field_26 : decode cX10_field 26 = .ok (.iconst 1, 1) := by decide +kernel
theorem dX10_field_27 : decode cX10_field 27 = .ok (.invokevirtual 325, 3) := by decide +kernel
theorem dX10_field_30 : decode cX10_field 30 = .ok (.ireturn, 1) := by decide +kernel
theorem dX10_field_31 : decode cX10_field 31 = .ok (.iload_n 2, 1) := by decide +kernel
theorem dX10_field_32 : decode cX10_field 32 = .ok (.iconst 3, 1) := by decide +kernel
theorem dX10_field_33 : decode cX10_field 33 = .ok (.if_icmp .ge 37, 3) := by decide +kernel
theorem dX10_field_36 : decode cX10_field 36 = .ok (.iload_n 2, 1) := by decide +kernel
theorem dX10_field_37 : decode cX10_field 37 = .ok (.ifCond .ne 12, 3) := by decide +kernel
theorem dX10_field_40 : decode cX10_field 40 = .ok (.aload_n 0, 1) := by decide +kernel
theorem dX10_field_41 : decode cX10_field 41 = .ok (.getfield 43, 3) := by decide +kernel
theorem dX10_field_44 : decode cX10_field 44 = .ok (.iload_n 1, 1) := by decide +kernel
theorem dX10_field_45 : decode cX10_field 45 = .ok (.iaload, 1) := by decide +kernel
theorem dX10_field_46 : decode cX10_field 46 = .ok (.goto 23, 3) := by decide +kernel
theorem dX10_field_49 : decode cX10_field 49 = .ok (.iload_n 2, 1) := by decide +kernel
theorem dX10_field_50 : decode cX10_field 50 = .ok (.iconst 1, 1) := by decide +kernel
theorem dX10_field_51 : decode cX10_field 51 = .ok (.if_icmp .ne 12, 3) := by decide +kernel
theorem dX10_field_54 : decode cX10_field 54 = .ok (.aload_n 0, 1) := by decide +kernel
theorem dX10_field_55 : decode cX10_field 55 = .ok (.getfield 45, 3) := by decide +kernel
theorem dX10_field_58 : decode cX10_field 58 = .ok (.iload_n 1, 1) := by decide +kernel
theorem dX10_field_59 : decode cX10_field 59 = .ok (.iaload, 1) := by decide +kernel
theorem dX10_field_60 : decode cX10_field 60 = .ok (.goto 9, 3) := by decide +kernel
theorem dX10_field_63 : decode cX10_field 63 = .ok (.aload_n 0, 1) := by decide +kernel
theorem dX10_field_64 : decode cX10_field 64 = .ok (.getfield 92, 3) := by decide +kernel
theorem dX10_field_67 : decode cX10_field 67 = .ok (.iload_n 1, 1) := by decide +kernel
theorem dX10_field_68 : decode cX10_field 68 = .ok (.iaload, 1) := by decide +kernel
theorem dX10_field_69 : decode cX10_field 69 = .ok (.ireturn, 1) := by decide +kernel
theorem dX10_field_70 : decode cX10_field 70 = .ok (.iconst 0, 1) := by decide +kernel
theorem dX10_field_71 : decode cX10_field 71 = .ok (.istore_n 3, 1) := by decide +kernel
theorem dX10_field_72 : decode cX10_field 72 = .ok (.iconst 0, 1) := by decide +kernel
theorem dX10_field_73 : decode cX10_field 73 = .ok (.istore 4, 2) := by decide +kernel
theorem dX10_field_75 : decode cX10_field 75 = .ok (.iconst 0, 1) := by decide +kernel
theorem dX10_field_76 : decode cX10_field 76 = .ok (.istore 5, 2) := by decide +kernel
theorem dX10_field_78 : decode cX10_field 78 = .ok (.iload 5, 2) := by decide +kernel
theorem dX10_field_80 : decode cX10_field 80 = .ok (.aload_n 0, 1) := by decide +kernel
theorem dX10_field_81 : decode cX10_field 81 = .ok (.getfield 39, 3) := by decide +kernel
theorem dX10_field_84 : decode cX10_field 84 = .ok (.iconst 2, 1) := by decide +kernel
theorem dX10_field_85 : decode cX10_field 85 = .ok (.iaload, 1) := by decide +kernel
theorem dX10_field_86 : decode cX10_field 86 = .ok (.if_icmp .ge 30, 3) := by decide +kernel
theorem dX10_field_89 : decode cX10_field 89 = .ok (.iload_n 3, 1) := by decide +kernel
theorem dX10_field_90 : decode cX10_field 90 = .ok (.aload_n 0, 1) := by decide +kernel
theorem dX10_field_91 : decode cX10_field 91 = .ok (.iload 5, 2) := by decide +kernel
theorem dX10_field_93 : decode cX10_field 93 = .ok (.invokevirtual 359, 3) := by decide +kernel
theorem dX10_field_96 : decode cX10_field 96 = .ok (.iload_n 1, 1) := by decide +kernel
theorem dX10_field_97 : decode cX10_field 97 = .ok (.if_icmp .ne 10, 3) := by decide +kernel
theorem dX10_field_100 : decode cX10_field 100 = .ok (.iconst 1, 1) := by decide +kernel
theorem dX10_field_101 : decode cX10_field 101 = .ok (.iload 5, 2) := by decide +kernel
theorem dX10_field_103 : decode cX10_field 103 = .ok (.ishl, 1) := by decide +kernel
theorem dX10_field_104 : decode cX10_field 104 = .ok (.goto 4, 3) := by decide +kernel
theorem dX10_field_107 : decode cX10_field 107 = .ok (.iconst 0, 1) := by decide +kernel
theorem dX10_field_108 : decode cX10_field 108 = .ok (.ior, 1) := by decide +kernel
theorem dX10_field_109 : decode cX10_field 109 = .ok (.istore_n 3, 1) := by decide +kernel
theorem dX10_field_110 : decode cX10_field 110 = .ok (.iinc 5 1, 3) := by decide +kernel
theorem dX10_field_113 : decode cX10_field 113 = .ok (.goto (-35), 3) := by decide +kernel
theorem dX10_field_116 : decode cX10_field 116 = .ok (.iconst 0, 1) := by decide +kernel
theorem dX10_field_117 : decode cX10_field 117 = .ok (.istore 5, 2) := by decide +kernel
theorem dX10_field_119 : decode cX10_field 119 = .ok (.iload 5, 2) := by decide +kernel
theorem dX10_field_121 : decode cX10_field 121 = .ok (.aload_n 0, 1) := by decide +kernel
theorem dX10_field_122 : decode cX10_field 122 = .ok (.getfield 39, 3) := by decide +kernel
theorem dX10_field_125 : decode cX10_field 125 = .ok (.iconst 0, 1) := by decide +kernel
theorem dX10_field_126 : decode cX10_field 126 = .ok (.iaload, 1) := by decide +kernel
theorem dX10_field_127 : decode cX10_field 127 = .ok (.if_icmp .ge 37, 3) := by decide +kernel
theorem dX10_field_130 : decode cX10_field 130 = .ok (.iload 4, 2) := by decide +kernel
theorem dX10_field_132 : decode cX10_field 132 = .ok (.aload_n 0, 1) := by decide +kernel
theorem dX10_field_133 : decode cX10_field 133 = .ok (.getfield 50, 3) := by decide +kernel
theorem dX10_field_136 : decode cX10_field 136 = .ok (.bipush 8, 2) := by decide +kernel
theorem dX10_field_138 : decode cX10_field 138 = .ok (.iload_n 1, 1) := by decide +kernel
theorem dX10_field_139 : decode cX10_field 139 = .ok (.imul, 1) := by decide +kernel
theorem dX10_field_140 : decode cX10_field 140 = .ok (.iload 5, 2) := by decide +kernel
theorem dX10_field_142 : decode cX10_field 142 = .ok (.iadd, 1) := by decide +kernel
theorem dX10_field_143 : decode cX10_field 143 = .ok (.iaload, 1) := by decide +kernel
theorem dX10_field_144 : decode cX10_field 144 = .ok (.ifCond .le 10, 3) := by decide +kernel
theorem dX10_field_147 : decode cX10_field 147 = .ok (.iconst 1, 1) := by decide +kernel
theorem dX10_field_148 : decode cX10_field 148 = .ok (.iload 5, 2) := by decide +kernel
theorem dX10_field_150 : decode cX10_field 150 = .ok (.ishl, 1) := by decide +kernel
theorem dX10_field_151 : decode cX10_field 151 = .ok (.goto 4, 3) := by decide +kernel
theorem dX10_field_154 : decode cX10_field 154 = .ok (.iconst 0, 1) := by decide +kernel
theorem dX10_field_155 : decode cX10_field 155 = .ok (.ior, 1) := by decide +kernel
theorem dX10_field_156 : decode cX10_field 156 = .ok (.istore 4, 2) := by decide +kernel
theorem dX10_field_158 : decode cX10_field 158 = .ok (.iinc 5 1, 3) := by decide +kernel
theorem dX10_field_161 : decode cX10_field 161 = .ok (.goto (-42), 3) := by decide +kernel
theorem dX10_field_164 : decode cX10_field 164 = .ok (.iload_n 2, 1) := by decide +kernel
theorem dX10_field_165 : decode cX10_field 165 = .ok (.iconst 3, 1) := by decide +kernel
theorem dX10_field_166 : decode cX10_field 166 = .ok (.if_icmp .ne 7, 3) := by decide +kernel
theorem dX10_field_169 : decode cX10_field 169 = .ok (.iload_n 3, 1) := by decide +kernel
theorem dX10_field_170 : decode cX10_field 170 = .ok (.goto 18, 3) := by decide +kernel
theorem dX10_field_173 : decode cX10_field 173 = .ok (.iload_n 2, 1) := by decide +kernel
theorem dX10_field_174 : decode cX10_field 174 = .ok (.iconst 4, 1) := by decide +kernel
theorem dX10_field_175 : decode cX10_field 175 = .ok (.if_icmp .ne 11, 3) := by decide +kernel
theorem dX10_field_178 : decode cX10_field 178 = .ok (.aload_n 0, 1) := by decide +kernel
theorem dX10_field_179 : decode cX10_field 179 = .ok (.iload_n 1, 1) := by decide +kernel
theorem dX10_field_180 : decode cX10_field 180 = .ok (.invokevirtual 397, 3) := by decide +kernel
theorem dX10_field_183 : decode cX10_field 183 = .ok (.goto 5, 3) := by decide +kernel
theorem dX10_field_186 : decode cX10_field 186 = .ok (.iload 4, 2) := by decide +kernel
theorem dX10_field_188 : decode cX10_field 188 = .ok (.ireturn, 1) := by decide +kernel
theorem dX10_note_0 : decode cX10_note 0 = .ok (.aload_n 0, 1) := by decide +kernel
theorem dX10_note_1 : decode cX10_note 1 = .ok (.iconst 0, 1) := by decide +kernel
theorem dX10_note_2 : decode cX10_note 2 = .ok (.putfield 167, 3) := by decide +kernel
theorem dX10_note_5 : decode cX10_note 5 = .ok (.aload_n 0, 1) := by decide +kernel
theorem dX10_note_6 : decode cX10_note 6 = .ok (.iload_n 1, 1) := by decide +kernel
theorem dX10_note_7 : decode cX10_note 7 = .ok (.invokevirtual 392, 3) := by decide +kernel
theorem dX10_note_10 : decode cX10_note 10 = .ok (.ifCond .eq 35, 3) := by decide +kernel
theorem dX10_note_13 : decode cX10_note 13 = .ok (.iload_n 2, 1) := by decide +kernel
theorem dX10_note_14 : decode cX10_note 14 = .ok (.i2l, 1) := by decide +kernel
theorem dX10_note_15 : decode cX10_note 15 = .ok (.lconst 0, 1) := by decide +kernel
theorem dX10_note_16 : decode cX10_note 16 = .ok (.aload_n 0, 1) := by decide +kernel
theorem dX10_note_17 : decode cX10_note 17 = .ok (.getfield 45, 3) := by decide +kernel
theorem dX10_note_20 : decode cX10_note 20 = .ok (.iload_n 1, 1) := by decide +kernel
theorem dX10_note_21 : decode cX10_note 21 = .ok (.iaload, 1) := by decide +kernel
theorem dX10_note_22 : decode cX10_note 22 = .ok (.iconst 1, 1) := by decide +kernel
theorem dX10_note_23 : decode cX10_note 23 = .ok (.isub, 1) := by decide +kernel
theorem dX10_note_24 : decode cX10_note 24 = .ok (.i2l, 1) := by decide +kernel
theorem dX10_note_25 : decode cX10_note 25 = .ok (.invokestatic 170, 3) := by decide +kernel
theorem dX10_note_28 : decode cX10_note 28 = .ok (.ifCond .eq 17, 3) := by decide +kernel
theorem dX10_note_31 : decode cX10_note 31 = .ok (.aload_n 0, 1) := by decide +kernel
theorem dX10_note_32 : decode cX10_note 32 = .ok (.getfield 48, 3) := by decide +kernel
theorem dX10_note_35 : decode cX10_note 35 = .ok (.bipush 6, 2) := by decide +kernel
theorem dX10_note_37 : decode cX10_note 37 = .ok (.iload_n 1, 1) := by decide +kernel
theorem dX10_note_38 : decode cX10_note 38 = .ok (.imul, 1) := by decide +kernel
theorem dX10_note_39 : decode cX10_note 39 = .ok (.iload_n 2, 1) := by decide +kernel
theorem dX10_note_40 : decode cX10_note 40 = .ok (.iadd, 1) := by decide +kernel
theorem dX10_note_41 : decode cX10_note 41 = .ok (.iaload, 1) := by decide +kernel
theorem dX10_note_42 : decode cX10_note 42 = .ok (.goto 8, 3) := by decide +kernel
theorem dX10_note_45 : decode cX10_note 45 = .ok (.aload_n 0, 1) := by decide +kernel
theorem dX10_note_46 : decode cX10_note 46 = .ok (.iconst 1, 1) := by decide +kernel
theorem dX10_note_47 : decode cX10_note 47 = .ok (.invokevirtual 325, 3) := by decide +kernel
theorem dX10_note_50 : decode cX10_note 50 = .ok (.ireturn, 1) := by decide +kernel
theorem dX10_free_0 : decode cX10_free 0 = .ok (.iconst 0, 1) := by decide +kernel
theorem dX10_free_1 : decode cX10_free 1 = .ok (.istore_n 2, 1) := by decide +kernel
theorem dX10_free_2 : decode cX10_free 2 = .ok (.iconst 0, 1) := by decide +kernel
theorem dX10_free_3 : decode cX10_free 3 = .ok (.istore_n 3, 1) := by decide +kernel
theorem dX10_free_4 : decode cX10_free 4 = .ok (.iload_n 3, 1) := by decide +kernel
theorem dX10_free_5 : decode cX10_free 5 = .ok (.aload_n 0, 1) := by decide +kernel
theorem dX10_free_6 : decode cX10_free 6 = .ok (.getfield 39, 3) := by decide +kernel
theorem dX10_free_9 : decode cX10_free 9 = .ok (.iconst 0, 1) := by decide +kernel
theorem dX10_free_10 : decode cX10_free 10 = .ok (.iaload, 1) := by decide +kernel
theorem dX10_free_11 : decode cX10_free 11 = .ok (.if_icmp .ge 41, 3) := by decide +kernel
theorem dX10_free_14 : decode cX10_free 14 = .ok (.iload_n 2, 1) := by decide +kernel
theorem dX10_free_15 : decode cX10_free 15 = .ok (.aload_n 0, 1) := by decide +kernel
theorem dX10_free_16 : decode cX10_free 16 = .ok (.getfield 81, 3) := by decide +kernel
theorem dX10_free_19 : decode cX10_free 19 = .ok (.iload_n 1, 1) := by decide +kernel
theorem dX10_free_20 : decode cX10_free 20 = .ok (.iaload, 1) := by decide +kernel
theorem dX10_free_21 : decode cX10_free 21 = .ok (.iload_n 3, 1) := by decide +kernel
theorem dX10_free_22 : decode cX10_free 22 = .ok (.invokestatic 298, 3) := by decide +kernel
theorem dX10_free_25 : decode cX10_free 25 = .ok (.ifCond .eq 18, 3) := by decide +kernel
theorem dX10_free_28 : decode cX10_free 28 = .ok (.aload_n 0, 1) := by decide +kernel
theorem dX10_free_29 : decode cX10_free 29 = .ok (.iload_n 1, 1) := by decide +kernel
theorem dX10_free_30 : decode cX10_free 30 = .ok (.iload_n 3, 1) := by decide +kernel
theorem dX10_free_31 : decode cX10_free 31 = .ok (.invokevirtual 377, 3) := by decide +kernel
theorem dX10_free_34 : decode cX10_free 34 = .ok (.ifCond .ne 9, 3) := by decide +kernel
theorem dX10_free_37 : decode cX10_free 37 = .ok (.iconst 1, 1) := by decide +kernel
theorem dX10_free_38 : decode cX10_free 38 = .ok (.iload_n 3, 1) := by decide +kernel
theorem dX10_free_39 : decode cX10_free 39 = .ok (.ishl, 1) := by decide +kernel
theorem dX10_free_40 : decode cX10_free 40 = .ok (.goto 4, 3) := by decide +kernel
theorem dX10_free_43 : decode cX10_free 43 = .ok (.iconst 0, 1) := by decide +kernel
theorem dX10_free_44 : decode cX10_free 44 = .ok (.ior, 1) := by decide +kernel
theorem dX10_free_45 : decode cX10_free 45 = .ok (.istore_n 2, 1) := by decide +kernel
theorem dX10_free_46 : decode cX10_free 46 = .ok (.iinc 3 1, 3) := by decide +kernel
theorem dX10_free_49 : decode cX10_free 49 = .ok (.goto (-45), 3) := by decide +kernel
theorem dX10_free_52 : decode cX10_free 52 = .ok (.iload_n 2, 1) := by decide +kernel
theorem dX10_free_53 : decode cX10_free 53 = .ok (.ireturn, 1) := by decide +kernel
theorem dX10_singer_0 : decode cX10_singer 0 = .ok (.aload_n 0, 1) := by decide +kernel
theorem dX10_singer_1 : decode cX10_singer 1 = .ok (.iconst 0, 1) := by decide +kernel
theorem dX10_singer_2 : decode cX10_singer 2 = .ok (.putfield 167, 3) := by decide +kernel
theorem dX10_singer_5 : decode cX10_singer 5 = .ok (.aload_n 0, 1) := by decide +kernel
theorem dX10_singer_6 : decode cX10_singer 6 = .ok (.iload_n 1, 1) := by decide +kernel
theorem dX10_singer_7 : decode cX10_singer 7 = .ok (.invokevirtual 400, 3) := by decide +kernel
theorem dX10_singer_10 : decode cX10_singer 10 = .ok (.ifCond .ne 9, 3) := by decide +kernel
theorem dX10_singer_13 : decode cX10_singer 13 = .ok (.aload_n 0, 1) := by decide +kernel
theorem dX10_singer_14 : decode cX10_singer 14 = .ok (.iconst 1, 1) := by decide +kernel
theorem dX10_singer_15 : decode cX10_singer 15 = .ok (.invokevirtual 325, 3) := by decide +kernel
theorem dX10_singer_18 : decode cX10_singer 18 = .ok (.ireturn, 1) := by decide +kernel
theorem dX10_singer_19 : decode cX10_singer 19 = .ok (.iload_n 2, 1) := by decide +kernel
theorem dX10_singer_20 : decode cX10_singer 20 = .ok (.tableswitch 79 0 5 #[40, 47, 53, 60, 67, 73], 40) := by decide +kernel
theorem dX10_singer_60 : decode cX10_singer 60 = .ok (.aload_n 0, 1) := by decide +kernel
theorem dX10_singer_61 : decode cX10_singer 61 = .ok (.getfield 56, 3) := by decide +kernel
theorem dX10_singer_64 : decode cX10_singer 64 = .ok (.iload_n 1, 1) := by decide +kernel
theorem dX10_singer_65 : decode cX10_singer 65 = .ok (.iaload, 1) := by decide +kernel
theorem dX10_singer_66 : decode cX10_singer 66 = .ok (.ireturn, 1) := by decide +kernel
theorem dX10_singer_67 : decode cX10_singer 67 = .ok (.aload_n 0, 1) := by decide +kernel
theorem dX10_singer_68 : decode cX10_singer 68 = .ok (.iload_n 1, 1) := by decide +kernel
theorem dX10_singer_69 : decode cX10_singer 69 = .ok (.invokevirtual 359, 3) := by decide +kernel
theorem dX10_singer_72 : decode cX10_singer 72 = .ok (.ireturn, 1) := by decide +kernel
theorem dX10_singer_73 : decode cX10_singer 73 = .ok (.aload_n 0, 1) := by decide +kernel
theorem dX10_singer_74 : decode cX10_singer 74 = .ok (.getfield 81, 3) := by decide +kernel
theorem dX10_singer_77 : decode cX10_singer 77 = .ok (.iload_n 1, 1) := by decide +kernel
theorem dX10_singer_78 : decode cX10_singer 78 = .ok (.iaload, 1) := by decide +kernel
theorem dX10_singer_79 : decode cX10_singer 79 = .ok (.ireturn, 1) := by decide +kernel
theorem dX10_singer_80 : decode cX10_singer 80 = .ok (.aload_n 0, 1) := by decide +kernel
theorem dX10_singer_81 : decode cX10_singer 81 = .ok (.getfield 83, 3) := by decide +kernel
theorem dX10_singer_84 : decode cX10_singer 84 = .ok (.iload_n 1, 1) := by decide +kernel
theorem dX10_singer_85 : decode cX10_singer 85 = .ok (.iaload, 1) := by decide +kernel
theorem dX10_singer_86 : decode cX10_singer 86 = .ok (.ireturn, 1) := by decide +kernel
theorem dX10_singer_87 : decode cX10_singer 87 = .ok (.aload_n 0, 1) := by decide +kernel
theorem dX10_singer_88 : decode cX10_singer 88 = .ok (.iload_n 1, 1) := by decide +kernel
theorem dX10_singer_89 : decode cX10_singer 89 = .ok (.invokevirtual 403, 3) := by decide +kernel
theorem dX10_singer_92 : decode cX10_singer 92 = .ok (.ireturn, 1) := by decide +kernel
theorem dX10_singer_93 : decode cX10_singer 93 = .ok (.aload_n 0, 1) := by decide +kernel
theorem dX10_singer_94 : decode cX10_singer 94 = .ok (.iload_n 1, 1) := by decide +kernel
theorem dX10_singer_95 : decode cX10_singer 95 = .ok (.invokevirtual 372, 3) := by decide +kernel
theorem dX10_singer_98 : decode cX10_singer 98 = .ok (.ireturn, 1) := by decide +kernel
theorem dX10_singer_99 : decode cX10_singer 99 = .ok (.aload_n 0, 1) := by decide +kernel
theorem dX10_singer_100 : decode cX10_singer 100 = .ok (.iconst 1, 1) := by decide +kernel
theorem dX10_singer_101 : decode cX10_singer 101 = .ok (.invokevirtual 325, 3) := by decide +kernel
theorem dX10_singer_104 : decode cX10_singer 104 = .ok (.ireturn, 1) := by decide +kernel
theorem dX10_way_0 : decode cX10_way 0 = .ok (.aload_n 0, 1) := by decide +kernel
theorem dX10_way_1 : decode cX10_way 1 = .ok (.iconst 0, 1) := by decide +kernel
theorem dX10_way_2 : decode cX10_way 2 = .ok (.putfield 167, 3) := by decide +kernel
theorem dX10_way_5 : decode cX10_way 5 = .ok (.aload_n 0, 1) := by decide +kernel
theorem dX10_way_6 : decode cX10_way 6 = .ok (.iload_n 1, 1) := by decide +kernel
theorem dX10_way_7 : decode cX10_way 7 = .ok (.invokevirtual 400, 3) := by decide +kernel
theorem dX10_way_10 : decode cX10_way 10 = .ok (.ifCond .eq 35, 3) := by decide +kernel
theorem dX10_way_13 : decode cX10_way 13 = .ok (.iload_n 2, 1) := by decide +kernel
theorem dX10_way_14 : decode cX10_way 14 = .ok (.i2l, 1) := by decide +kernel
theorem dX10_way_15 : decode cX10_way 15 = .ok (.lconst 0, 1) := by decide +kernel
theorem dX10_way_16 : decode cX10_way 16 = .ok (.aload_n 0, 1) := by decide +kernel
theorem dX10_way_17 : decode cX10_way 17 = .ok (.getfield 56, 3) := by decide +kernel
theorem dX10_way_20 : decode cX10_way 20 = .ok (.iload_n 1, 1) := by decide +kernel
theorem dX10_way_21 : decode cX10_way 21 = .ok (.iaload, 1) := by decide +kernel
theorem dX10_way_22 : decode cX10_way 22 = .ok (.iconst 1, 1) := by decide +kernel
theorem dX10_way_23 : decode cX10_way 23 = .ok (.isub, 1) := by decide +kernel
theorem dX10_way_24 : decode cX10_way 24 = .ok (.i2l, 1) := by decide +kernel
theorem dX10_way_25 : decode cX10_way 25 = .ok (.invokestatic 170, 3) := by decide +kernel
theorem dX10_way_28 : decode cX10_way 28 = .ok (.ifCond .eq 17, 3) := by decide +kernel
theorem dX10_way_31 : decode cX10_way 31 = .ok (.aload_n 0, 1) := by decide +kernel
theorem dX10_way_32 : decode cX10_way 32 = .ok (.getfield 89, 3) := by decide +kernel
theorem dX10_way_35 : decode cX10_way 35 = .ok (.bipush 6, 2) := by decide +kernel
theorem dX10_way_37 : decode cX10_way 37 = .ok (.iload_n 1, 1) := by decide +kernel
theorem dX10_way_38 : decode cX10_way 38 = .ok (.imul, 1) := by decide +kernel
theorem dX10_way_39 : decode cX10_way 39 = .ok (.iload_n 2, 1) := by decide +kernel
theorem dX10_way_40 : decode cX10_way 40 = .ok (.iadd, 1) := by decide +kernel
theorem dX10_way_41 : decode cX10_way 41 = .ok (.iaload, 1) := by decide +kernel
theorem dX10_way_42 : decode cX10_way 42 = .ok (.goto 8, 3) := by decide +kernel
theorem dX10_way_45 : decode cX10_way 45 = .ok (.aload_n 0, 1) := by decide +kernel
theorem dX10_way_46 : decode cX10_way 46 = .ok (.iconst 1, 1) := by decide +kernel
theorem dX10_way_47 : decode cX10_way 47 = .ok (.invokevirtual 325, 3) := by decide +kernel
theorem dX10_way_50 : decode cX10_way 50 = .ok (.ireturn, 1) := by decide +kernel
theorem dX10_earth_0 : decode cX10_earth 0 = .ok (.aload_n 0, 1) := by decide +kernel
theorem dX10_earth_1 : decode cX10_earth 1 = .ok (.iconst 0, 1) := by decide +kernel
theorem dX10_earth_2 : decode cX10_earth 2 = .ok (.putfield 167, 3) := by decide +kernel
theorem dX10_earth_5 : decode cX10_earth 5 = .ok (.aload_n 0, 1) := by decide +kernel
theorem dX10_earth_6 : decode cX10_earth 6 = .ok (.iload_n 1, 1) := by decide +kernel
theorem dX10_earth_7 : decode cX10_earth 7 = .ok (.invokevirtual 400, 3) := by decide +kernel
theorem dX10_earth_10 : decode cX10_earth 10 = .ok (.ifCond .eq 25, 3) := by decide +kernel
theorem dX10_earth_13 : decode cX10_earth 13 = .ok (.aload_n 0, 1) := by decide +kernel
theorem dX10_earth_14 : decode cX10_earth 14 = .ok (.iload_n 2, 1) := by decide +kernel
theorem dX10_earth_15 : decode cX10_earth 15 = .ok (.invokevirtual 392, 3) := by decide +kernel
theorem dX10_earth_18 : decode cX10_earth 18 = .ok (.ifCond .eq 17, 3) := by decide +kernel
theorem dX10_earth_21 : decode cX10_earth 21 = .ok (.aload_n 0, 1) := by decide +kernel
theorem dX10_earth_22 : decode cX10_earth 22 = .ok (.getfield 86, 3) := by decide +kernel
theorem dX10_earth_25 : decode cX10_earth 25 = .ok (.bipush 8, 2) := by decide +kernel
theorem dX10_earth_27 : decode cX10_earth 27 = .ok (.iload_n 1, 1) := by decide +kernel
theorem dX10_earth_28 : decode cX10_earth 28 = .ok (.imul, 1) := by decide +kernel
theorem dX10_earth_29 : decode cX10_earth 29 = .ok (.iload_n 2, 1) := by decide +kernel
theorem dX10_earth_30 : decode cX10_earth 30 = .ok (.iadd, 1) := by decide +kernel
theorem dX10_earth_31 : decode cX10_earth 31 = .ok (.iaload, 1) := by decide +kernel
theorem dX10_earth_32 : decode cX10_earth 32 = .ok (.goto 8, 3) := by decide +kernel
theorem dX10_earth_35 : decode cX10_earth 35 = .ok (.aload_n 0, 1) := by decide +kernel
theorem dX10_earth_36 : decode cX10_earth 36 = .ok (.iconst 1, 1) := by decide +kernel
theorem dX10_earth_37 : decode cX10_earth 37 = .ok (.invokevirtual 325, 3) := by decide +kernel
theorem dX10_earth_40 : decode cX10_earth 40 = .ok (.ireturn, 1) := by decide +kernel
theorem dX10_refuse_0 : decode cX10_refuse 0 = .ok (.aload_n 0, 1) := by decide +kernel
theorem dX10_refuse_1 : decode cX10_refuse 1 = .ok (.getfield 71, 3) := by decide +kernel
theorem dX10_refuse_4 : decode cX10_refuse 4 = .ok (.iload_n 1, 1) := by decide +kernel
theorem dX10_refuse_5 : decode cX10_refuse 5 = .ok (.dup2, 1) := by decide +kernel
theorem dX10_refuse_6 : decode cX10_refuse 6 = .ok (.iaload, 1) := by decide +kernel
theorem dX10_refuse_7 : decode cX10_refuse 7 = .ok (.iconst 1, 1) := by decide +kernel
theorem dX10_refuse_8 : decode cX10_refuse 8 = .ok (.iadd, 1) := by decide +kernel
theorem dX10_refuse_9 : decode cX10_refuse 9 = .ok (.iastore, 1) := by decide +kernel
theorem dX10_refuse_10 : decode cX10_refuse 10 = .ok (.iconst (-1), 1) := by decide +kernel
theorem dX10_refuse_11 : decode cX10_refuse 11 = .ok (.ireturn, 1) := by decide +kernel
theorem dX10_refuses_0 : decode cX10_refuses 0 = .ok (.aload_n 0, 1) := by decide +kernel
theorem dX10_refuses_1 : decode cX10_refuses 1 = .ok (.getfield 71, 3) := by decide +kernel
theorem dX10_refuses_4 : decode cX10_refuses 4 = .ok (.iconst 1, 1) := by decide +kernel
theorem dX10_refuses_5 : decode cX10_refuses 5 = .ok (.dup2, 1) := by decide +kernel
theorem dX10_refuses_6 : decode cX10_refuses 6 = .ok (.iaload, 1) := by decide +kernel
theorem dX10_refuses_7 : decode cX10_refuses 7 = .ok (.iconst 1, 1) := by decide +kernel
theorem dX10_refuses_8 : decode cX10_refuses 8 = .ok (.iadd, 1) := by decide +kernel
theorem dX10_refuses_9 : decode cX10_refuses 9 = .ok (.iastore, 1) := by decide +kernel
theorem dX10_refuses_10 : decode cX10_refuses 10 = .ok (.iconst 0, 1) := by decide +kernel
theorem dX10_refuses_11 : decode cX10_refuses 11 = .ok (.ireturn, 1) := by decide +kernel
theorem dX10_keep_0 : decode cX10_keep 0 = .ok (.aload_n 0, 1) := by decide +kernel
theorem dX10_keep_1 : decode cX10_keep 1 = .ok (.getfield 346, 3) := by decide +kernel
theorem dX10_keep_4 : decode cX10_keep 4 = .ok (.bipush 40, 2) := by decide +kernel
theorem dX10_keep_6 : decode cX10_keep 6 = .ok (.if_icmp .ne 46, 3) := by decide +kernel
theorem dX10_keep_9 : decode cX10_keep 9 = .ok (.bipush 106, 2) := by decide +kernel
theorem dX10_keep_11 : decode cX10_keep 11 = .ok (.istore_n 1, 1) := by decide +kernel
theorem dX10_keep_12 : decode cX10_keep 12 = .ok (.iload_n 1, 1) := by decide +kernel
theorem dX10_keep_13 : decode cX10_keep 13 = .ok (.aload_n 0, 1) := by decide +kernel
theorem dX10_keep_14 : decode cX10_keep 14 = .ok (.getfield 95, 3) := by decide +kernel
theorem dX10_keep_17 : decode cX10_keep 17 = .ok (.arraylength, 1) := by decide +kernel
theorem dX10_keep_18 : decode cX10_keep 18 = .ok (.if_icmp .ge 24, 3) := by decide +kernel
theorem dX10_keep_21 : decode cX10_keep 21 = .ok (.aload_n 0, 1) := by decide +kernel
theorem dX10_keep_22 : decode cX10_keep 22 = .ok (.getfield 95, 3) := by decide +kernel
theorem dX10_keep_25 : decode cX10_keep 25 = .ok (.iload_n 1, 1) := by decide +kernel
theorem dX10_keep_26 : decode cX10_keep 26 = .ok (.bipush 106, 2) := by decide +kernel
theorem dX10_keep_28 : decode cX10_keep 28 = .ok (.isub, 1) := by decide +kernel
theorem dX10_keep_29 : decode cX10_keep 29 = .ok (.aload_n 0, 1) := by decide +kernel
theorem dX10_keep_30 : decode cX10_keep 30 = .ok (.getfield 95, 3) := by decide +kernel
theorem dX10_keep_33 : decode cX10_keep 33 = .ok (.iload_n 1, 1) := by decide +kernel
theorem dX10_keep_34 : decode cX10_keep 34 = .ok (.iaload, 1) := by decide +kernel
theorem dX10_keep_35 : decode cX10_keep 35 = .ok (.iastore, 1) := by decide +kernel
theorem dX10_keep_36 : decode cX10_keep 36 = .ok (.iinc 1 1, 3) := by decide +kernel
theorem dX10_keep_39 : decode cX10_keep 39 = .ok (.goto (-27), 3) := by decide +kernel
theorem dX10_keep_42 : decode cX10_keep 42 = .ok (.aload_n 0, 1) := by decide +kernel
theorem dX10_keep_43 : decode cX10_keep 43 = .ok (.dup, 1) := by decide +kernel
theorem dX10_keep_44 : decode cX10_keep 44 = .ok (.getfield 346, 3) := by decide +kernel
theorem dX10_keep_47 : decode cX10_keep 47 = .ok (.iconst 1, 1) := by decide +kernel
theorem dX10_keep_48 : decode cX10_keep 48 = .ok (.isub, 1) := by decide +kernel
theorem dX10_keep_49 : decode cX10_keep 49 = .ok (.putfield 346, 3) := by decide +kernel
theorem dX10_keep_52 : decode cX10_keep 52 = .ok (.aload_n 0, 1) := by decide +kernel
theorem dX10_keep_53 : decode cX10_keep 53 = .ok (.aload_n 0, 1) := by decide +kernel
theorem dX10_keep_54 : decode cX10_keep 54 = .ok (.getfield 95, 3) := by decide +kernel
theorem dX10_keep_57 : decode cX10_keep 57 = .ok (.bipush 106, 2) := by decide +kernel
theorem dX10_keep_59 : decode cX10_keep 59 = .ok (.aload_n 0, 1) := by decide +kernel
theorem dX10_keep_60 : decode cX10_keep 60 = .ok (.getfield 346, 3) := by decide +kernel
theorem dX10_keep_63 : decode cX10_keep 63 = .ok (.imul, 1) := by decide +kernel
theorem dX10_keep_64 : decode cX10_keep 64 = .ok (.invokevirtual 406, 3) := by decide +kernel
theorem dX10_keep_67 : decode cX10_keep 67 = .ok (.aload_n 0, 1) := by decide +kernel
theorem dX10_keep_68 : decode cX10_keep 68 = .ok (.dup, 1) := by decide +kernel
theorem dX10_keep_69 : decode cX10_keep 69 = .ok (.getfield 346, 3) := by decide +kernel
theorem dX10_keep_72 : decode cX10_keep 72 = .ok (.iconst 1, 1) := by decide +kernel
theorem dX10_keep_73 : decode cX10_keep 73 = .ok (.iadd, 1) := by decide +kernel
theorem dX10_keep_74 : decode cX10_keep 74 = .ok (.putfield 346, 3) := by decide +kernel
theorem dX10_keep_77 : decode cX10_keep 77 = .ok (.return_, 1) := by decide +kernel
theorem dX10_hours_0 : decode cX10_hours 0 = .ok (.aload_n 0, 1) := by decide +kernel
theorem dX10_hours_1 : decode cX10_hours 1 = .ok (.iconst 0, 1) := by decide +kernel
theorem dX10_hours_2 : decode cX10_hours 2 = .ok (.putfield 167, 3) := by decide +kernel
theorem dX10_hours_5 : decode cX10_hours 5 = .ok (.iload_n 1, 1) := by decide +kernel
theorem dX10_hours_6 : decode cX10_hours 6 = .ok (.i2l, 1) := by decide +kernel
theorem dX10_hours_7 : decode cX10_hours 7 = .ok (.lconst 1, 1) := by decide +kernel
theorem dX10_hours_8 : decode cX10_hours 8 = .ok (.ldc2_w 410, 3) := by decide +kernel
theorem dX10_hours_11 : decode cX10_hours 11 = .ok (.invokestatic 170, 3) := by decide +kernel
theorem dX10_hours_14 : decode cX10_hours 14 = .ok (.ifCond .eq 15, 3) := by decide +kernel
theorem dX10_hours_17 : decode cX10_hours 17 = .ok (.aload_n 0, 1) := by decide +kernel
theorem dX10_hours_18 : decode cX10_hours 18 = .ok (.getfield 338, 3) := by decide +kernel
theorem dX10_hours_21 : decode cX10_hours 21 = .ok (.iload_n 1, 1) := by decide +kernel
theorem dX10_hours_22 : decode cX10_hours 22 = .ok (.iadd, 1) := by decide +kernel
theorem dX10_hours_23 : decode cX10_hours 23 = .ok (.sipush 9999, 3) := by decide +kernel
theorem dX10_hours_26 : decode cX10_hours 26 = .ok (.if_icmp .le 9, 3) := by decide +kernel
theorem dX10_hours_29 : decode cX10_hours 29 = .ok (.aload_n 0, 1) := by decide +kernel
theorem dX10_hours_30 : decode cX10_hours 30 = .ok (.iconst 1, 1) := by decide +kernel
theorem dX10_hours_31 : decode cX10_hours 31 = .ok (.invokevirtual 412, 3) := by decide +kernel
theorem dX10_hours_34 : decode cX10_hours 34 = .ok (.ireturn, 1) := by decide +kernel
theorem dX10_hours_35 : decode cX10_hours 35 = .ok (.aload_n 0, 1) := by decide +kernel
theorem dX10_hours_36 : decode cX10_hours 36 = .ok (.invokevirtual 415, 3) := by decide +kernel
theorem dX10_hours_39 : decode cX10_hours 39 = .ok (.aload_n 0, 1) := by decide +kernel
theorem dX10_hours_40 : decode cX10_hours 40 = .ok (.iload_n 1, 1) := by decide +kernel
theorem dX10_hours_41 : decode cX10_hours 41 = .ok (.invokevirtual 418, 3) := by decide +kernel
theorem dX10_hours_44 : decode cX10_hours 44 = .ok (.aload_n 0, 1) := by decide +kernel
theorem dX10_hours_45 : decode cX10_hours 45 = .ok (.getfield 338, 3) := by decide +kernel
theorem dX10_hours_48 : decode cX10_hours 48 = .ok (.ireturn, 1) := by decide +kernel
theorem dX10_teach_0 : decode cX10_teach 0 = .ok (.aload_n 0, 1) := by decide +kernel
theorem dX10_teach_1 : decode cX10_teach 1 = .ok (.iconst 0, 1) := by decide +kernel
theorem dX10_teach_2 : decode cX10_teach 2 = .ok (.putfield 167, 3) := by decide +kernel
theorem dX10_teach_5 : decode cX10_teach 5 = .ok (.aload_n 0, 1) := by decide +kernel
theorem dX10_teach_6 : decode cX10_teach 6 = .ok (.iload_n 1, 1) := by decide +kernel
theorem dX10_teach_7 : decode cX10_teach 7 = .ok (.invokevirtual 400, 3) := by decide +kernel
theorem dX10_teach_10 : decode cX10_teach 10 = .ok (.ifCond .eq 11, 3) := by decide +kernel
theorem dX10_teach_13 : decode cX10_teach 13 = .ok (.aload_n 0, 1) := by decide +kernel
theorem dX10_teach_14 : decode cX10_teach 14 = .ok (.iload_n 2, 1) := by decide +kernel
theorem dX10_teach_15 : decode cX10_teach 15 = .ok (.invokevirtual 392, 3) := by decide +kernel
theorem dX10_teach_18 : decode cX10_teach 18 = .ok (.ifCond .ne 9, 3) := by decide +kernel
theorem dX10_teach_21 : decode cX10_teach 21 = .ok (.aload_n 0, 1) := by decide +kernel
theorem dX10_teach_22 : decode cX10_teach 22 = .ok (.iconst 1, 1) := by decide +kernel
theorem dX10_teach_23 : decode cX10_teach 23 = .ok (.invokevirtual 421, 3) := by decide +kernel
theorem dX10_teach_26 : decode cX10_teach 26 = .ok (.ireturn, 1) := by decide +kernel
theorem dX10_teach_27 : decode cX10_teach 27 = .ok (.aload_n 0, 1) := by decide +kernel
theorem dX10_teach_28 : decode cX10_teach 28 = .ok (.getfield 81, 3) := by decide +kernel
theorem dX10_teach_31 : decode cX10_teach 31 = .ok (.iload_n 1, 1) := by decide +kernel
theorem dX10_teach_32 : decode cX10_teach 32 = .ok (.iaload, 1) := by decide +kernel
theorem dX10_teach_33 : decode cX10_teach 33 = .ok (.iload_n 2, 1) := by decide +kernel
theorem dX10_teach_34 : decode cX10_teach 34 = .ok (.invokestatic 298, 3) := by decide +kernel
theorem dX10_teach_37 : decode cX10_teach 37 = .ok (.ifCond .eq 8, 3) := by decide +kernel
theorem dX10_teach_40 : decode cX10_teach 40 = .ok (.aload_n 0, 1) := by decide +kernel
theorem dX10_teach_41 : decode cX10_teach 41 = .ok (.invokevirtual 424, 3) := by decide +kernel
theorem dX10_teach_44 : decode cX10_teach 44 = .ok (.ireturn, 1) := by decide +kernel
theorem dX10_teach_45 : decode cX10_teach 45 = .ok (.aload_n 0, 1) := by decide +kernel
theorem dX10_teach_46 : decode cX10_teach 46 = .ok (.invokevirtual 415, 3) := by decide +kernel
theorem dX10_teach_49 : decode cX10_teach 49 = .ok (.aload_n 0, 1) := by decide +kernel
theorem dX10_teach_50 : decode cX10_teach 50 = .ok (.getfield 81, 3) := by decide +kernel
theorem dX10_teach_53 : decode cX10_teach 53 = .ok (.iload_n 1, 1) := by decide +kernel
theorem dX10_teach_54 : decode cX10_teach 54 = .ok (.dup2, 1) := by decide +kernel
theorem dX10_teach_55 : decode cX10_teach 55 = .ok (.iaload, 1) := by decide +kernel
theorem dX10_teach_56 : decode cX10_teach 56 = .ok (.iconst 1, 1) := by decide +kernel
theorem dX10_teach_57 : decode cX10_teach 57 = .ok (.iload_n 2, 1) := by decide +kernel
theorem dX10_teach_58 : decode cX10_teach 58 = .ok (.ishl, 1) := by decide +kernel
theorem dX10_teach_59 : decode cX10_teach 59 = .ok (.ior, 1) := by decide +kernel
theorem dX10_teach_60 : decode cX10_teach 60 = .ok (.iastore, 1) := by decide +kernel
theorem dX10_teach_61 : decode cX10_teach 61 = .ok (.iconst 1, 1) := by decide +kernel
theorem dX10_teach_62 : decode cX10_teach 62 = .ok (.ireturn, 1) := by decide +kernel
theorem dX10_load_0 : decode cX10_load 0 = .ok (.aload_n 0, 1) := by decide +kernel
theorem dX10_load_1 : decode cX10_load 1 = .ok (.iconst 0, 1) := by decide +kernel
theorem dX10_load_2 : decode cX10_load 2 = .ok (.putfield 167, 3) := by decide +kernel
theorem dX10_load_5 : decode cX10_load 5 = .ok (.aload_n 0, 1) := by decide +kernel
theorem dX10_load_6 : decode cX10_load 6 = .ok (.iload_n 1, 1) := by decide +kernel
theorem dX10_load_7 : decode cX10_load 7 = .ok (.invokevirtual 400, 3) := by decide +kernel
theorem dX10_load_10 : decode cX10_load 10 = .ok (.ifCond .eq 11, 3) := by decide +kernel
theorem dX10_load_13 : decode cX10_load 13 = .ok (.aload_n 0, 1) := by decide +kernel
theorem dX10_load_14 : decode cX10_load 14 = .ok (.iload_n 2, 1) := by decide +kernel
theorem dX10_load_15 : decode cX10_load 15 = .ok (.invokevirtual 392, 3) := by decide +kernel
theorem dX10_load_18 : decode cX10_load 18 = .ok (.ifCond .ne 9, 3) := by decide +kernel
theorem dX10_load_21 : decode cX10_load 21 = .ok (.aload_n 0, 1) := by decide +kernel
theorem dX10_load_22 : decode cX10_load 22 = .ok (.iconst 1, 1) := by decide +kernel
theorem dX10_load_23 : decode cX10_load 23 = .ok (.invokevirtual 325, 3) := by decide +kernel
theorem dX10_load_26 : decode cX10_load 26 = .ok (.ireturn, 1) := by decide +kernel
theorem dX10_load_27 : decode cX10_load 27 = .ok (.iload_n 3, 1) := by decide +kernel
theorem dX10_load_28 : decode cX10_load 28 = .ok (.i2l, 1) := by decide +kernel
theorem dX10_load_29 : decode cX10_load 29 = .ok (.lconst 1, 1) := by decide +kernel
theorem dX10_load_30 : decode cX10_load 30 = .ok (.ldc2_w 428, 3) := by decide +kernel
theorem dX10_load_33 : decode cX10_load 33 = .ok (.invokestatic 170, 3) := by decide +kernel
theorem dX10_load_36 : decode cX10_load 36 = .ok (.ifCond .ne 9, 3) := by decide +kernel
theorem dX10_load_39 : decode cX10_load 39 = .ok (.aload_n 0, 1) := by decide +kernel
theorem dX10_load_40 : decode cX10_load 40 = .ok (.iconst 1, 1) := by decide +kernel
theorem dX10_load_41 : decode cX10_load 41 = .ok (.invokevirtual 412, 3) := by decide +kernel
theorem dX10_load_44 : decode cX10_load 44 = .ok (.ireturn, 1) := by decide +kernel
theorem dX10_load_45 : decode cX10_load 45 = .ok (.aload_n 0, 1) := by decide +kernel
theorem dX10_load_46 : decode cX10_load 46 = .ok (.invokevirtual 415, 3) := by decide +kernel
theorem dX10_load_49 : decode cX10_load 49 = .ok (.aload_n 0, 1) := by decide +kernel
theorem dX10_load_50 : decode cX10_load 50 = .ok (.getfield 86, 3) := by decide +kernel
theorem dX10_load_53 : decode cX10_load 53 = .ok (.bipush 8, 2) := by decide +kernel
theorem dX10_load_55 : decode cX10_load 55 = .ok (.iload_n 1, 1) := by decide +kernel
theorem dX10_load_56 : decode cX10_load 56 = .ok (.imul, 1) := by decide +kernel
theorem dX10_load_57 : decode cX10_load 57 = .ok (.iload_n 2, 1) := by decide +kernel
theorem dX10_load_58 : decode cX10_load 58 = .ok (.iadd, 1) := by decide +kernel
theorem dX10_load_59 : decode cX10_load 59 = .ok (.bipush 99, 2) := by decide +kernel
theorem dX10_load_61 : decode cX10_load 61 = .ok (.aload_n 0, 1) := by decide +kernel
theorem dX10_load_62 : decode cX10_load 62 = .ok (.getfield 86, 3) := by decide +kernel
theorem dX10_load_65 : decode cX10_load 65 = .ok (.bipush 8, 2) := by decide +kernel
theorem dX10_load_67 : decode cX10_load 67 = .ok (.iload_n 1, 1) := by decide +kernel
theorem dX10_load_68 : decode cX10_load 68 = .ok (.imul, 1) := by decide +kernel
theorem dX10_load_69 : decode cX10_load 69 = .ok (.iload_n 2, 1) := by decide +kernel
theorem dX10_load_70 : decode cX10_load 70 = .ok (.iadd, 1) := by decide +kernel
theorem dX10_load_71 : decode cX10_load 71 = .ok (.iaload, 1) := by decide +kernel
theorem dX10_load_72 : decode cX10_load 72 = .ok (.iload_n 3, 1) := by decide +kernel
theorem dX10_load_73 : decode cX10_load 73 = .ok (.iadd, 1) := by decide +kernel
theorem dX10_load_74 : decode cX10_load 74 = .ok (.invokestatic 204, 3) := by decide +kernel
theorem dX10_load_77 : decode cX10_load 77 = .ok (.iastore, 1) := by decide +kernel
theorem dX10_load_78 : decode cX10_load 78 = .ok (.aload_n 0, 1) := by decide +kernel
theorem dX10_load_79 : decode cX10_load 79 = .ok (.getfield 86, 3) := by decide +kernel
theorem dX10_load_82 : decode cX10_load 82 = .ok (.bipush 8, 2) := by decide +kernel
theorem dX10_load_84 : decode cX10_load 84 = .ok (.iload_n 1, 1) := by decide +kernel
theorem dX10_load_85 : decode cX10_load 85 = .ok (.imul, 1) := by decide +kernel
theorem dX10_load_86 : decode cX10_load 86 = .ok (.iload_n 2, 1) := by decide +kernel
theorem dX10_load_87 : decode cX10_load 87 = .ok (.iadd, 1) := by decide +kernel
theorem dX10_load_88 : decode cX10_load 88 = .ok (.iaload, 1) := by decide +kernel
theorem dX10_load_89 : decode cX10_load 89 = .ok (.ireturn, 1) := by decide +kernel
theorem dX10_change_0 : decode cX10_change 0 = .ok (.aload_n 0, 1) := by decide +kernel
theorem dX10_change_1 : decode cX10_change 1 = .ok (.iconst 0, 1) := by decide +kernel
theorem dX10_change_2 : decode cX10_change 2 = .ok (.putfield 167, 3) := by decide +kernel
theorem dX10_change_5 : decode cX10_change 5 = .ok (.aload_n 0, 1) := by decide +kernel
theorem dX10_change_6 : decode cX10_change 6 = .ok (.iload_n 1, 1) := by decide +kernel
theorem dX10_change_7 : decode cX10_change 7 = .ok (.invokevirtual 400, 3) := by decide +kernel
theorem dX10_change_10 : decode cX10_change 10 = .ok (.ifCond .eq 11, 3) := by decide +kernel
theorem dX10_change_13 : decode cX10_change 13 = .ok (.aload_n 0, 1) := by decide +kernel
theorem dX10_change_14 : decode cX10_change 14 = .ok (.iload_n 3, 1) := by decide +kernel
theorem dX10_change_15 : decode cX10_change 15 = .ok (.invokevirtual 392, 3) := by decide +kernel
theorem dX10_change_18 : decode cX10_change 18 = .ok (.ifCond .ne 9, 3) := by decide +kernel
theorem dX10_change_21 : decode cX10_change 21 = .ok (.aload_n 0, 1) := by decide +kernel
theorem dX10_change_22 : decode cX10_change 22 = .ok (.iconst 1, 1) := by decide +kernel
theorem dX10_change_23 : decode cX10_change 23 = .ok (.invokevirtual 325, 3) := by decide +kernel
theorem dX10_change_26 : decode cX10_change 26 = .ok (.ireturn, 1) := by decide +kernel
theorem dX10_change_27 : decode cX10_change 27 = .ok (.iload_n 2, 1) := by decide +kernel
theorem dX10_change_28 : decode cX10_change 28 = .ok (.i2l, 1) := by decide +kernel
theorem dX10_change_29 : decode cX10_change 29 = .ok (.lconst 0, 1) := by decide +kernel
theorem dX10_change_30 : decode cX10_change 30 = .ok (.aload_n 0, 1) := by decide +kernel
theorem dX10_change_31 : decode cX10_change 31 = .ok (.getfield 56, 3) := by decide +kernel
theorem dX10_change_34 : decode cX10_change 34 = .ok (.iload_n 1, 1) := by decide +kernel
theorem dX10_change_35 : decode cX10_change 35 = .ok (.iaload, 1) := by decide +kernel
theorem dX10_change_36 : decode cX10_change 36 = .ok (.iconst 1, 1) := by decide +kernel
theorem dX10_change_37 : decode cX10_change 37 = .ok (.isub, 1) := by decide +kernel
theorem dX10_change_38 : decode cX10_change 38 = .ok (.i2l, 1) := by decide +kernel
theorem dX10_change_39 : decode cX10_change 39 = .ok (.invokestatic 170, 3) := by decide +kernel
theorem dX10_change_42 : decode cX10_change 42 = .ok (.ifCond .ne 9, 3) := by decide +kernel
theorem dX10_change_45 : decode cX10_change 45 = .ok (.aload_n 0, 1) := by decide +kernel
theorem dX10_change_46 : decode cX10_change 46 = .ok (.iconst 1, 1) := by decide +kernel
theorem dX10_change_47 : decode cX10_change 47 = .ok (.invokevirtual 412, 3) := by decide +kernel
theorem dX10_change_50 : decode cX10_change 50 = .ok (.ireturn, 1) := by decide +kernel
theorem dX10_change_51 : decode cX10_change 51 = .ok (.aload_n 0, 1) := by decide +kernel
theorem dX10_change_52 : decode cX10_change 52 = .ok (.invokevirtual 415, 3) := by decide +kernel
theorem dX10_change_55 : decode cX10_change 55 = .ok (.aload_n 0, 1) := by decide +kernel
theorem dX10_change_56 : decode cX10_change 56 = .ok (.getfield 89, 3) := by decide +kernel
theorem dX10_change_59 : decode cX10_change 59 = .ok (.bipush 6, 2) := by decide +kernel
theorem dX10_change_61 : decode cX10_change 61 = .ok (.iload_n 1, 1) := by decide +kernel
theorem dX10_change_62 : decode cX10_change 62 = .ok (.imul, 1) := by decide +kernel
theorem dX10_change_63 : decode cX10_change 63 = .ok (.iload_n 2, 1) := by decide +kernel
theorem dX10_change_64 : decode cX10_change 64 = .ok (.iadd, 1) := by decide +kernel
theorem dX10_change_65 : decode cX10_change 65 = .ok (.iaload, 1) := by decide +kernel
theorem dX10_change_66 : decode cX10_change 66 = .ok (.istore 4, 2) := by decide +kernel
theorem dX10_change_68 : decode cX10_change 68 = .ok (.aload_n 0, 1) := by decide +kernel
theorem dX10_change_69 : decode cX10_change 69 = .ok (.getfield 89, 3) := by decide +kernel
theorem dX10_change_72 : decode cX10_change 72 = .ok (.bipush 6, 2) := by decide +kernel
theorem dX10_change_74 : decode cX10_change 74 = .ok (.iload_n 1, 1) := by decide +kernel
theorem dX10_change_75 : decode cX10_change 75 = .ok (.imul, 1) := by decide +kernel
theorem dX10_change_76 : decode cX10_change 76 = .ok (.iload_n 2, 1) := by decide +kernel
theorem dX10_change_77 : decode cX10_change 77 = .ok (.iadd, 1) := by decide +kernel
theorem dX10_change_78 : decode cX10_change 78 = .ok (.iload_n 3, 1) := by decide +kernel
theorem dX10_change_79 : decode cX10_change 79 = .ok (.iastore, 1) := by decide +kernel
theorem dX10_change_80 : decode cX10_change 80 = .ok (.iload 4, 2) := by decide +kernel
theorem dX10_change_82 : decode cX10_change 82 = .ok (.ireturn, 1) := by decide +kernel
theorem dX10_sell_0 : decode cX10_sell 0 = .ok (.aload_n 0, 1) := by decide +kernel
theorem dX10_sell_1 : decode cX10_sell 1 = .ok (.iconst 0, 1) := by decide +kernel
theorem dX10_sell_2 : decode cX10_sell 2 = .ok (.putfield 167, 3) := by decide +kernel
theorem dX10_sell_5 : decode cX10_sell 5 = .ok (.aload_n 0, 1) := by decide +kernel
theorem dX10_sell_6 : decode cX10_sell 6 = .ok (.iload_n 1, 1) := by decide +kernel
theorem dX10_sell_7 : decode cX10_sell 7 = .ok (.invokevirtual 392, 3) := by decide +kernel
theorem dX10_sell_10 : decode cX10_sell 10 = .ok (.ifCond .eq 16, 3) := by decide +kernel
theorem dX10_sell_13 : decode cX10_sell 13 = .ok (.iload_n 2, 1) := by decide +kernel
theorem dX10_sell_14 : decode cX10_sell 14 = .ok (.iconst (-1), 1) := by decide +kernel
theorem dX10_sell_15 : decode cX10_sell 15 = .ok (.if_icmp .eq 17, 3) := by decide +kernel
theorem dX10_sell_18 : decode cX10_sell 18 = .ok (.aload_n 0, 1) := by decide +kernel
theorem dX10_sell_19 : decode cX10_sell 19 = .ok (.iload_n 2, 1) := by decide +kernel
theorem dX10_sell_20 : decode cX10_sell 20 = .ok (.invokevirtual 400, 3) := by decide +kernel
theorem dX10_sell_23 : decode cX10_sell 23 = .ok (.ifCond .ne 9, 3) := by decide +kernel
theorem dX10_sell_26 : decode cX10_sell 26 = .ok (.aload_n 0, 1) := by decide +kernel
theorem dX10_sell_27 : decode cX10_sell 27 = .ok (.iconst 1, 1) := by decide +kernel
theorem dX10_sell_28 : decode cX10_sell 28 = .ok (.invokevirtual 421, 3) := by decide +kernel
theorem dX10_sell_31 : decode cX10_sell 31 = .ok (.ireturn, 1) := by decide +kernel
theorem dX10_sell_32 : decode cX10_sell 32 = .ok (.aload_n 0, 1) := by decide +kernel
theorem dX10_sell_33 : decode cX10_sell 33 = .ok (.getfield 92, 3) := by decide +kernel
theorem dX10_sell_36 : decode cX10_sell 36 = .ok (.iload_n 1, 1) := by decide +kernel
theorem dX10_sell_37 : decode cX10_sell 37 = .ok (.iaload, 1) := by decide +kernel
theorem dX10_sell_38 : decode cX10_sell 38 = .ok (.iload_n 2, 1) := by decide +kernel
theorem dX10_sell_39 : decode cX10_sell 39 = .ok (.if_icmp .ne 8, 3) := by decide +kernel
theorem dX10_sell_42 : decode cX10_sell 42 = .ok (.aload_n 0, 1) := by decide +kernel
theorem dX10_sell_43 : decode cX10_sell 43 = .ok (.invokevirtual 424, 3) := by decide +kernel
theorem dX10_sell_46 : decode cX10_sell 46 = .ok (.ireturn, 1) := by decide +kernel
theorem dX10_sell_47 : decode cX10_sell 47 = .ok (.aload_n 0, 1) := by decide +kernel
theorem dX10_sell_48 : decode cX10_sell 48 = .ok (.invokevirtual 415, 3) := by decide +kernel
theorem dX10_sell_51 : decode cX10_sell 51 = .ok (.aload_n 0, 1) := by decide +kernel
theorem dX10_sell_52 : decode cX10_sell 52 = .ok (.getfield 92, 3) := by decide +kernel
theorem dX10_sell_55 : decode cX10_sell 55 = .ok (.iload_n 1, 1) := by decide +kernel
theorem dX10_sell_56 : decode cX10_sell 56 = .ok (.iload_n 2, 1) := by decide +kernel
theorem dX10_sell_57 : decode cX10_sell 57 = .ok (.iastore, 1) := by decide +kernel
theorem dX10_sell_58 : decode cX10_sell 58 = .ok (.iconst 1, 1) := by decide +kernel
theorem dX10_sell_59 : decode cX10_sell 59 = .ok (.ireturn, 1) := by decide +kernel
theorem dX10_undo_0 : decode cX10_undo 0 = .ok (.aload_n 0, 1) := by decide +kernel
theorem dX10_undo_1 : decode cX10_undo 1 = .ok (.iconst 0, 1) := by decide +kernel
theorem dX10_undo_2 : decode cX10_undo 2 = .ok (.putfield 167, 3) := by decide +kernel
theorem dX10_undo_5 : decode cX10_undo 5 = .ok (.aload_n 0, 1) := by decide +kernel
theorem dX10_undo_6 : decode cX10_undo 6 = .ok (.getfield 346, 3) := by decide +kernel
theorem dX10_undo_9 : decode cX10_undo 9 = .ok (.ifCond .ne 5, 3) := by decide +kernel
theorem dX10_undo_12 : decode cX10_undo 12 = .ok (.iconst (-1), 1) := by decide +kernel
theorem dX10_undo_13 : decode cX10_undo 13 = .ok (.ireturn, 1) := by decide +kernel
theorem dX10_undo_14 : decode cX10_undo 14 = .ok (.aload_n 0, 1) := by decide +kernel
theorem dX10_undo_15 : decode cX10_undo 15 = .ok (.dup, 1) := by decide +kernel
theorem dX10_undo_16 : decode cX10_undo 16 = .ok (.getfield 346, 3) := by decide +kernel
theorem dX10_undo_19 : decode cX10_undo 19 = .ok (.iconst 1, 1) := by decide +kernel
theorem dX10_undo_20 : decode cX10_undo 20 = .ok (.isub, 1) := by decide +kernel
theorem dX10_undo_21 : decode cX10_undo 21 = .ok (.putfield 346, 3) := by decide +kernel
theorem dX10_undo_24 : decode cX10_undo 24 = .ok (.aload_n 0, 1) := by decide +kernel
theorem dX10_undo_25 : decode cX10_undo 25 = .ok (.aload_n 0, 1) := by decide +kernel
theorem dX10_undo_26 : decode cX10_undo 26 = .ok (.getfield 95, 3) := by decide +kernel
theorem dX10_undo_29 : decode cX10_undo 29 = .ok (.bipush 106, 2) := by decide +kernel
theorem dX10_undo_31 : decode cX10_undo 31 = .ok (.aload_n 0, 1) := by decide +kernel
theorem dX10_undo_32 : decode cX10_undo 32 = .ok (.getfield 346, 3) := by decide +kernel
theorem dX10_undo_35 : decode cX10_undo 35 = .ok (.imul, 1) := by decide +kernel
theorem dX10_undo_36 : decode cX10_undo 36 = .ok (.invokevirtual 430, 3) := by decide +kernel
theorem dX10_undo_39 : decode cX10_undo 39 = .ok (.aload_n 0, 1) := by decide +kernel
theorem dX10_undo_40 : decode cX10_undo 40 = .ok (.getfield 346, 3) := by decide +kernel
theorem dX10_undo_43 : decode cX10_undo 43 = .ok (.ireturn, 1) := by decide +kernel
theorem dX10_sung_0 : decode cX10_sung 0 = .ok (.aload_n 0, 1) := by decide +kernel
theorem dX10_sung_1 : decode cX10_sung 1 = .ok (.iconst 0, 1) := by decide +kernel
theorem dX10_sung_2 : decode cX10_sung 2 = .ok (.putfield 167, 3) := by decide +kernel
theorem dX10_sung_5 : decode cX10_sung 5 = .ok (.aload_n 0, 1) := by decide +kernel
theorem dX10_sung_6 : decode cX10_sung 6 = .ok (.iload_n 1, 1) := by decide +kernel
theorem dX10_sung_7 : decode cX10_sung 7 = .ok (.invokevirtual 400, 3) := by decide +kernel
theorem dX10_sung_10 : decode cX10_sung 10 = .ok (.ifCond .ne 9, 3) := by decide +kernel
theorem dX10_sung_13 : decode cX10_sung 13 = .ok (.aload_n 0, 1) := by decide +kernel
theorem dX10_sung_14 : decode cX10_sung 14 = .ok (.iconst 1, 1) := by decide +kernel
theorem dX10_sung_15 : decode cX10_sung 15 = .ok (.invokevirtual 325, 3) := by decide +kernel
theorem dX10_sung_18 : decode cX10_sung 18 = .ok (.ireturn, 1) := by decide +kernel
theorem dX10_sung_19 : decode cX10_sung 19 = .ok (.iload_n 2, 1) := by decide +kernel
theorem dX10_sung_20 : decode cX10_sung 20 = .ok (.i2l, 1) := by decide +kernel
theorem dX10_sung_21 : decode cX10_sung 21 = .ok (.lconst 1, 1) := by decide +kernel
theorem dX10_sung_22 : decode cX10_sung 22 = .ok (.ldc2_w 433, 3) := by decide +kernel
theorem dX10_sung_25 : decode cX10_sung 25 = .ok (.invokestatic 170, 3) := by decide +kernel
theorem dX10_sung_28 : decode cX10_sung 28 = .ok (.ifCond .ne 9, 3) := by decide +kernel
theorem dX10_sung_31 : decode cX10_sung 31 = .ok (.aload_n 0, 1) := by decide +kernel
theorem dX10_sung_32 : decode cX10_sung 32 = .ok (.iconst 2, 1) := by decide +kernel
theorem dX10_sung_33 : decode cX10_sung 33 = .ok (.invokevirtual 325, 3) := by decide +kernel
theorem dX10_sung_36 : decode cX10_sung 36 = .ok (.ireturn, 1) := by decide +kernel
theorem dX10_sung_37 : decode cX10_sung 37 = .ok (.aload_n 0, 1) := by decide +kernel
theorem dX10_sung_38 : decode cX10_sung 38 = .ok (.aload_n 0, 1) := by decide +kernel
theorem dX10_sung_39 : decode cX10_sung 39 = .ok (.getfield 116, 3) := by decide +kernel
theorem dX10_sung_42 : decode cX10_sung 42 = .ok (.iconst 0, 1) := by decide +kernel
theorem dX10_sung_43 : decode cX10_sung 43 = .ok (.invokevirtual 406, 3) := by decide +kernel
theorem dX10_sung_46 : decode cX10_sung 46 = .ok (.aload_n 0, 1) := by decide +kernel
theorem dX10_sung_47 : decode cX10_sung 47 = .ok (.iload_n 2, 1) := by decide +kernel
theorem dX10_sung_48 : decode cX10_sung 48 = .ok (.invokevirtual 418, 3) := by decide +kernel
theorem dX10_sung_51 : decode cX10_sung 51 = .ok (.aload_n 0, 1) := by decide +kernel
theorem dX10_sung_52 : decode cX10_sung 52 = .ok (.aload_n 0, 1) := by decide +kernel
theorem dX10_sung_53 : decode cX10_sung 53 = .ok (.getfield 116, 3) := by decide +kernel
theorem dX10_sung_56 : decode cX10_sung 56 = .ok (.iconst 0, 1) := by decide +kernel
theorem dX10_sung_57 : decode cX10_sung 57 = .ok (.invokevirtual 430, 3) := by decide +kernel
theorem dX10_sung_60 : decode cX10_sung 60 = .ok (.aload_n 0, 1) := by decide +kernel
theorem dX10_sung_61 : decode cX10_sung 61 = .ok (.getfield 110, 3) := by decide +kernel
theorem dX10_sung_64 : decode cX10_sung 64 = .ok (.iload_n 1, 1) := by decide +kernel
theorem dX10_sung_65 : decode cX10_sung 65 = .ok (.iaload, 1) := by decide +kernel
theorem dX10_sung_66 : decode cX10_sung 66 = .ok (.ireturn, 1) := by decide +kernel
theorem dX10_knownIn_0 : decode cX10_knownIn 0 = .ok (.aload_n 0, 1) := by decide +kernel
theorem dX10_knownIn_1 : decode cX10_knownIn 1 = .ok (.aload_n 0, 1) := by decide +kernel
theorem dX10_knownIn_2 : decode cX10_knownIn 2 = .ok (.getfield 116, 3) := by decide +kernel
theorem dX10_knownIn_5 : decode cX10_knownIn 5 = .ok (.iconst 0, 1) := by decide +kernel
theorem dX10_knownIn_6 : decode cX10_knownIn 6 = .ok (.invokevirtual 406, 3) := by decide +kernel
theorem dX10_knownIn_9 : decode cX10_knownIn 9 = .ok (.iconst (-1), 1) := by decide +kernel
theorem dX10_knownIn_10 : decode cX10_knownIn 10 = .ok (.istore_n 3, 1) := by decide +kernel
theorem dX10_knownIn_11 : decode cX10_knownIn 11 = .ok (.iconst 0, 1) := by decide +kernel
theorem dX10_knownIn_12 : decode cX10_knownIn 12 = .ok (.istore 4, 2) := by decide +kernel
theorem dX10_knownIn_14 : decode cX10_knownIn 14 = .ok (.iload 4, 2) := by decide +kernel
theorem dX10_knownIn_16 : decode cX10_knownIn 16 = .ok (.bipush 60, 2) := by decide +kernel
theorem dX10_knownIn_18 : decode cX10_knownIn 18 = .ok (.if_icmp .gt 84, 3) := by decide +kernel
theorem dX10_knownIn_21 : decode cX10_knownIn 21 = .ok (.iload_n 3, 1) := by decide +kernel
theorem dX10_knownIn_22 : decode cX10_knownIn 22 = .ok (.iconst (-1), 1) := by decide +kernel
theorem dX10_knownIn_23 : decode cX10_knownIn 23 = .ok (.if_icmp .ne 79, 3) := by decide +kernel
theorem dX10_knownIn_26 : decode cX10_knownIn 26 = .ok (.iconst 1, 1) := by decide +kernel
theorem dX10_knownIn_27 : decode cX10_knownIn 27 = .ok (.istore 5, 2) := by decide +kernel
theorem dX10_knownIn_29 : decode cX10_knownIn 29 = .ok (.iconst 0, 1) := by decide +kernel
theorem dX10_knownIn_30 : decode cX10_knownIn 30 = .ok (.istore 6, 2) := by decide +kernel
theorem dX10_knownIn_32 : decode cX10_knownIn 32 = .ok (.iload 6, 2) := by decide +kernel
theorem dX10_knownIn_34 : decode cX10_knownIn 34 = .ok (.aload_n 0, 1) := by decide +kernel
theorem dX10_knownIn_35 : decode cX10_knownIn 35 = .ok (.getfield 39, 3) := by decide +kernel
theorem dX10_knownIn_38 : decode cX10_knownIn 38 = .ok (.iconst 2, 1) := by decide +kernel
theorem dX10_knownIn_39 : decode cX10_knownIn 39 = .ok (.iaload, 1) := by decide +kernel
theorem dX10_knownIn_40 : decode cX10_knownIn 40 = .ok (.if_icmp .ge 44, 3) := by decide +kernel
theorem dX10_knownIn_43 : decode cX10_knownIn 43 = .ok (.iload 5, 2) := by decide +kernel
theorem dX10_knownIn_45 : decode cX10_knownIn 45 = .ok (.ifCond .eq 30, 3) := by decide +kernel
theorem dX10_knownIn_48 : decode cX10_knownIn 48 = .ok (.iload_n 1, 1) := by decide +kernel
theorem dX10_knownIn_49 : decode cX10_knownIn 49 = .ok (.iload 6, 2) := by decide +kernel
theorem dX10_knownIn_51 : decode cX10_knownIn 51 = .ok (.invokestatic 298, 3) := by decide +kernel
theorem dX10_knownIn_54 : decode cX10_knownIn 54 = .ok (.ifCond .eq 17, 3) := by decide +kernel
theorem dX10_knownIn_57 : decode cX10_knownIn 57 = .ok (.aload_n 0, 1) := by decide +kernel
theorem dX10_knownIn_58 : decode cX10_knownIn 58 = .ok (.getfield 81, 3) := by decide +kernel
theorem dX10_knownIn_61 : decode cX10_knownIn 61 = .ok (.iload 6, 2) := by decide +kernel
theorem dX10_knownIn_63 : decode cX10_knownIn 63 = .ok (.iaload, 1) := by decide +kernel
theorem dX10_knownIn_64 : decode cX10_knownIn 64 = .ok (.iload_n 2, 1) := by decide +kernel
theorem dX10_knownIn_65 : decode cX10_knownIn 65 = .ok (.invokestatic 298, 3) := by decide +kernel
theorem dX10_knownIn_68 : decode cX10_knownIn 68 = .ok (.ifCond .eq 7, 3) := by decide +kernel
theorem dX10_knownIn_71 : decode cX10_knownIn 71 = .ok (.iconst 1, 1) := by decide +kernel
theorem dX10_knownIn_72 : decode cX10_knownIn 72 = .ok (.goto 4, 3) := by decide +kernel
theorem dX10_knownIn_75 : decode cX10_knownIn 75 = .ok (.iconst 0, 1) := by decide +kernel
theorem dX10_knownIn_76 : decode cX10_knownIn 76 = .ok (.istore 5, 2) := by decide +kernel
theorem dX10_knownIn_78 : decode cX10_knownIn 78 = .ok (.iinc 6 1, 3) := by decide +kernel
theorem dX10_knownIn_81 : decode cX10_knownIn 81 = .ok (.goto (-49), 3) := by decide +kernel
theorem dX10_knownIn_84 : decode cX10_knownIn 84 = .ok (.iload 5, 2) := by decide +kernel
theorem dX10_knownIn_86 : decode cX10_knownIn 86 = .ok (.ifCond .eq 6, 3) := by decide +kernel
theorem dX10_knownIn_89 : decode cX10_knownIn 89 = .ok (.iload 4, 2) := by decide +kernel
theorem dX10_knownIn_91 : decode cX10_knownIn 91 = .ok (.istore_n 3, 1) := by decide +kernel
theorem dX10_knownIn_92 : decode cX10_knownIn 92 = .ok (.aload_n 0, 1) := by decide +kernel
theorem dX10_knownIn_93 : decode cX10_knownIn 93 = .ok (.invokevirtual 389, 3) := by decide +kernel
theorem dX10_knownIn_96 : decode cX10_knownIn 96 = .ok (.iinc 4 1, 3) := by decide +kernel
theorem dX10_knownIn_99 : decode cX10_knownIn 99 = .ok (.goto (-85), 3) := by decide +kernel
theorem dX10_knownIn_102 : decode cX10_knownIn 102 = .ok (.aload_n 0, 1) := by decide +kernel
theorem dX10_knownIn_103 : decode cX10_knownIn 103 = .ok (.aload_n 0, 1) := by decide +kernel
theorem dX10_knownIn_104 : decode cX10_knownIn 104 = .ok (.getfield 116, 3) := by decide +kernel
theorem dX10_knownIn_107 : decode cX10_knownIn 107 = .ok (.iconst 0, 1) := by decide +kernel
theorem dX10_knownIn_108 : decode cX10_knownIn 108 = .ok (.invokevirtual 430, 3) := by decide +kernel
theorem dX10_knownIn_111 : decode cX10_knownIn 111 = .ok (.iload_n 3, 1) := by decide +kernel
theorem dX10_knownIn_112 : decode cX10_knownIn 112 = .ok (.ireturn, 1) := by decide +kernel
theorem dX10_learnt_0 : decode cX10_learnt 0 = .ok (.aload_n 0, 1) := by decide +kernel
theorem dX10_learnt_1 : decode cX10_learnt 1 = .ok (.iconst 0, 1) := by decide +kernel
theorem dX10_learnt_2 : decode cX10_learnt 2 = .ok (.putfield 167, 3) := by decide +kernel
theorem dX10_learnt_5 : decode cX10_learnt 5 = .ok (.aload_n 0, 1) := by decide +kernel
theorem dX10_learnt_6 : decode cX10_learnt 6 = .ok (.iload_n 1, 1) := by decide +kernel
theorem dX10_learnt_7 : decode cX10_learnt 7 = .ok (.invokevirtual 400, 3) := by decide +kernel
theorem dX10_learnt_10 : decode cX10_learnt 10 = .ok (.ifCond .eq 22, 3) := by decide +kernel
theorem dX10_learnt_13 : decode cX10_learnt 13 = .ok (.aload_n 0, 1) := by decide +kernel
theorem dX10_learnt_14 : decode cX10_learnt 14 = .ok (.iload_n 2, 1) := by decide +kernel
theorem dX10_learnt_15 : decode cX10_learnt 15 = .ok (.invokevirtual 392, 3) := by decide +kernel
theorem dX10_learnt_18 : decode cX10_learnt 18 = .ok (.ifCond .eq 14, 3) := by decide +kernel
theorem dX10_learnt_21 : decode cX10_learnt 21 = .ok (.aload_n 0, 1) := by decide +kernel
theorem dX10_learnt_22 : decode cX10_learnt 22 = .ok (.iconst 1, 1) := by decide +kernel
theorem dX10_learnt_23 : decode cX10_learnt 23 = .ok (.iload_n 1, 1) := by decide +kernel
theorem dX10_learnt_24 : decode cX10_learnt 24 = .ok (.ishl, 1) := by decide +kernel
theorem dX10_learnt_25 : decode cX10_learnt 25 = .ok (.iload_n 2, 1) := by decide +kernel
theorem dX10_learnt_26 : decode cX10_learnt 26 = .ok (.invokevirtual 435, 3) := by decide +kernel
theorem dX10_learnt_29 : decode cX10_learnt 29 = .ok (.goto 8, 3) := by decide +kernel
theorem dX10_learnt_32 : decode cX10_learnt 32 = .ok (.aload_n 0, 1) := by decide +kernel
theorem dX10_learnt_33 : decode cX10_learnt 33 = .ok (.iconst 1, 1) := by decide +kernel
theorem dX10_learnt_34 : decode cX10_learnt 34 = .ok (.invokevirtual 325, 3) := by decide +kernel
theorem dX10_learnt_37 : decode cX10_learnt 37 = .ok (.ireturn, 1) := by decide +kernel
theorem dX10_purse_0 : decode cX10_purse 0 = .ok (.aload_n 0, 1) := by decide +kernel
theorem dX10_purse_1 : decode cX10_purse 1 = .ok (.iconst 0, 1) := by decide +kernel
theorem dX10_purse_2 : decode cX10_purse 2 = .ok (.putfield 167, 3) := by decide +kernel
theorem dX10_purse_5 : decode cX10_purse 5 = .ok (.aload_n 0, 1) := by decide +kernel
theorem dX10_purse_6 : decode cX10_purse 6 = .ok (.iload_n 1, 1) := by decide +kernel
theorem dX10_purse_7 : decode cX10_purse 7 = .ok (.invokevirtual 400, 3) := by decide +kernel
theorem dX10_purse_10 : decode cX10_purse 10 = .ok (.ifCond .ne 9, 3) := by decide +kernel
theorem dX10_purse_13 : decode cX10_purse 13 = .ok (.aload_n 0, 1) := by decide +kernel
theorem dX10_purse_14 : decode cX10_purse 14 = .ok (.iconst 1, 1) := by decide +kernel
theorem dX10_purse_15 : decode cX10_purse 15 = .ok (.invokevirtual 325, 3) := by decide +kernel
theorem dX10_purse_18 : decode cX10_purse 18 = .ok (.ireturn, 1) := by decide +kernel
theorem dX10_purse_19 : decode cX10_purse 19 = .ok (.iload_n 2, 1) := by decide +kernel
theorem dX10_purse_20 : decode cX10_purse 20 = .ok (.i2l, 1) := by decide +kernel
theorem dX10_purse_21 : decode cX10_purse 21 = .ok (.lconst 0, 1) := by decide +kernel
theorem dX10_purse_22 : decode cX10_purse 22 = .ok (.ldc2_w 433, 3) := by decide +kernel
theorem dX10_purse_25 : decode cX10_purse 25 = .ok (.invokestatic 170, 3) := by decide +kernel
theorem dX10_purse_28 : decode cX10_purse 28 = .ok (.ifCond .ne 9, 3) := by decide +kernel
theorem dX10_purse_31 : decode cX10_purse 31 = .ok (.aload_n 0, 1) := by decide +kernel
theorem dX10_purse_32 : decode cX10_purse 32 = .ok (.iconst 2, 1) := by decide +kernel
theorem dX10_purse_33 : decode cX10_purse 33 = .ok (.invokevirtual 325, 3) := by decide +kernel
theorem dX10_purse_36 : decode cX10_purse 36 = .ok (.ireturn, 1) := by decide +kernel
theorem dX10_purse_37 : decode cX10_purse 37 = .ok (.aload_n 0, 1) := by decide +kernel
theorem dX10_purse_38 : decode cX10_purse 38 = .ok (.aload_n 0, 1) := by decide +kernel
theorem dX10_purse_39 : decode cX10_purse 39 = .ok (.getfield 116, 3) := by decide +kernel
theorem dX10_purse_42 : decode cX10_purse 42 = .ok (.iconst 0, 1) := by decide +kernel
theorem dX10_purse_43 : decode cX10_purse 43 = .ok (.invokevirtual 406, 3) := by decide +kernel
theorem dX10_purse_46 : decode cX10_purse 46 = .ok (.aload_n 0, 1) := by decide +kernel
theorem dX10_purse_47 : decode cX10_purse 47 = .ok (.iload_n 2, 1) := by decide +kernel
theorem dX10_purse_48 : decode cX10_purse 48 = .ok (.invokevirtual 418, 3) := by decide +kernel
theorem dX10_purse_51 : decode cX10_purse 51 = .ok (.aload_n 0, 1) := by decide +kernel
theorem dX10_purse_52 : decode cX10_purse 52 = .ok (.getfield 83, 3) := by decide +kernel
theorem dX10_purse_55 : decode cX10_purse 55 = .ok (.iload_n 1, 1) := by decide +kernel
theorem dX10_purse_56 : decode cX10_purse 56 = .ok (.iaload, 1) := by decide +kernel
theorem dX10_purse_57 : decode cX10_purse 57 = .ok (.istore_n 3, 1) := by decide +kernel
theorem dX10_purse_58 : decode cX10_purse 58 = .ok (.aload_n 0, 1) := by decide +kernel
theorem dX10_purse_59 : decode cX10_purse 59 = .ok (.aload_n 0, 1) := by decide +kernel
theorem dX10_purse_60 : decode cX10_purse 60 = .ok (.getfield 116, 3) := by decide +kernel
theorem dX10_purse_63 : decode cX10_purse 63 = .ok (.iconst 0, 1) := by decide +kernel
theorem dX10_purse_64 : decode cX10_purse 64 = .ok (.invokevirtual 430, 3) := by decide +kernel
theorem dX10_purse_67 : decode cX10_purse 67 = .ok (.iload_n 3, 1) := by decide +kernel
theorem dX10_purse_68 : decode cX10_purse 68 = .ok (.ireturn, 1) := by decide +kernel
theorem dX10_trespasses_0 : decode cX10_trespasses 0 = .ok (.aload_n 0, 1) := by decide +kernel
theorem dX10_trespasses_1 : decode cX10_trespasses 1 = .ok (.iconst 0, 1) := by decide +kernel
theorem dX10_trespasses_2 : decode cX10_trespasses 2 = .ok (.putfield 167, 3) := by decide +kernel
theorem dX10_trespasses_5 : decode cX10_trespasses 5 = .ok (.aload_n 0, 1) := by decide +kernel
theorem dX10_trespasses_6 : decode cX10_trespasses 6 = .ok (.iload_n 1, 1) := by decide +kernel
theorem dX10_trespasses_7 : decode cX10_trespasses 7 = .ok (.invokevirtual 400, 3) := by decide +kernel
theorem dX10_trespasses_10 : decode cX10_trespasses 10 = .ok (.ifCond .eq 12, 3) := by decide +kernel
theorem dX10_trespasses_13 : decode cX10_trespasses 13 = .ok (.iload_n 3, 1) := by decide +kernel
theorem dX10_trespasses_14 : decode cX10_trespasses 14 = .ok (.ifCond .lt 8, 3) := by decide +kernel
theorem dX10_trespasses_17 : decode cX10_trespasses 17 = .ok (.iload_n 3, 1) := by decide +kernel
theorem dX10_trespasses_18 : decode cX10_trespasses 18 = .ok (.iconst 1, 1) := by decide +kernel
theorem dX10_trespasses_19 : decode cX10_trespasses 19 = .ok (.if_icmp .le 9, 3) := by decide +kernel
theorem dX10_trespasses_22 : decode cX10_trespasses 22 = .ok (.aload_n 0, 1) := by decide +kernel
theorem dX10_trespasses_23 : decode cX10_trespasses 23 = .ok (.iconst 1, 1) := by decide +kernel
theorem dX10_trespasses_24 : decode cX10_trespasses 24 = .ok (.invokevirtual 325, 3) := by decide +kernel
theorem dX10_trespasses_27 : decode cX10_trespasses 27 = .ok (.ireturn, 1) := by decide +kernel
theorem dX10_trespasses_28 : decode cX10_trespasses 28 = .ok (.iload_n 2, 1) := by decide +kernel
theorem dX10_trespasses_29 : decode cX10_trespasses 29 = .ok (.i2l, 1) := by decide +kernel
theorem dX10_trespasses_30 : decode cX10_trespasses 30 = .ok (.lconst 0, 1) := by decide +kernel
theorem dX10_trespasses_31 : decode cX10_trespasses 31 = .ok (.ldc2_w 433, 3) := by decide +kernel
theorem dX10_trespasses_34 : decode cX10_trespasses 34 = .ok (.invokestatic 170, 3) := by decide +kernel
theorem dX10_trespasses_37 : decode cX10_trespasses 37 = .ok (.ifCond .ne 9, 3) := by decide +kernel
theorem dX10_trespasses_40 : decode cX10_trespasses 40 = .ok (.aload_n 0, 1) := by decide +kernel
theorem dX10_trespasses_41 : decode cX10_trespasses 41 = .ok (.iconst 2, 1) := by decide +kernel
theorem dX10_trespasses_42 : decode cX10_trespasses 42 = .ok (.invokevirtual 325, 3) := by decide +kernel
theorem dX10_trespasses_45 : decode cX10_trespasses 45 = .ok (.ireturn, 1) := by decide +kernel
theorem dX10_trespasses_46 : decode cX10_trespasses 46 = .ok (.aload_n 0, 1) := by decide +kernel
theorem dX10_trespasses_47 : decode cX10_trespasses 47 = .ok (.aload_n 0, 1) := by decide +kernel
theorem dX10_trespasses_48 : decode cX10_trespasses 48 = .ok (.getfield 116, 3) := by decide +kernel
theorem dX10_trespasses_51 : decode cX10_trespasses 51 = .ok (.iconst 0, 1) := by decide +kernel
theorem dX10_trespasses_52 : decode cX10_trespasses 52 = .ok (.invokevirtual 406, 3) := by decide +kernel
theorem dX10_trespasses_55 : decode cX10_trespasses 55 = .ok (.iconst 0, 1) := by decide +kernel
theorem dX10_trespasses_56 : decode cX10_trespasses 56 = .ok (.istore 4, 2) := by decide +kernel
theorem dX10_trespasses_58 : decode cX10_trespasses 58 = .ok (.iconst 0, 1) := by decide +kernel
theorem dX10_trespasses_59 : decode cX10_trespasses 59 = .ok (.istore 5, 2) := by decide +kernel
theorem dX10_trespasses_61 : decode cX10_trespasses 61 = .ok (.iload 5, 2) := by decide +kernel
theorem dX10_trespasses_63 : decode cX10_trespasses 63 = .ok (.iload_n 2, 1) := by decide +kernel
theorem dX10_trespasses_64 : decode cX10_trespasses 64 = .ok (.if_icmp .ge 83, 3) := by decide +kernel
theorem dX10_trespasses_67 : decode cX10_trespasses 67 = .ok (.aload_n 0, 1) := by decide +kernel
theorem dX10_trespasses_68 : decode cX10_trespasses 68 = .ok (.invokevirtual 389, 3) := by decide +kernel
theorem dX10_trespasses_71 : decode cX10_trespasses 71 = .ok (.iconst 0, 1) := by decide +kernel
theorem dX10_trespasses_72 : decode cX10_trespasses 72 = .ok (.istore 6, 2) := by decide +kernel
theorem dX10_trespasses_74 : decode cX10_trespasses 74 = .ok (.iload 6, 2) := by decide +kernel
theorem dX10_trespasses_76 : decode cX10_trespasses 76 = .ok (.aload_n 0, 1) := by decide +kernel
theorem dX10_trespasses_77 : decode cX10_trespasses 77 = .ok (.getfield 39, 3) := by decide +kernel
theorem dX10_trespasses_80 : decode cX10_trespasses 80 = .ok (.iconst 2, 1) := by decide +kernel
theorem dX10_trespasses_81 : decode cX10_trespasses 81 = .ok (.iaload, 1) := by decide +kernel
theorem dX10_trespasses_82 : decode cX10_trespasses 82 = .ok (.if_icmp .ge 59, 3) := by decide +kernel
theorem dX10_trespasses_85 : decode cX10_trespasses 85 = .ok (.iload 4, 2) := by decide +kernel
theorem dX10_trespasses_87 : decode cX10_trespasses 87 = .ok (.aload_n 0, 1) := by decide +kernel
theorem dX10_trespasses_88 : decode cX10_trespasses 88 = .ok (.getfield 113, 3) := by decide +kernel
theorem dX10_trespasses_91 : decode cX10_trespasses 91 = .ok (.iload 6, 2) := by decide +kernel
theorem dX10_trespasses_93 : decode cX10_trespasses 93 = .ok (.iaload, 1) := by decide +kernel
theorem dX10_trespasses_94 : decode cX10_trespasses 94 = .ok (.iconst (-1), 1) := by decide +kernel
theorem dX10_trespasses_95 : decode cX10_trespasses 95 = .ok (.if_icmp .eq 36, 3) := by decide +kernel
theorem dX10_trespasses_98 : decode cX10_trespasses 98 = .ok (.iload_n 3, 1) := by decide +kernel
theorem dX10_trespasses_99 : decode cX10_trespasses 99 = .ok (.ifCond .ne 12, 3) := by decide +kernel
theorem dX10_trespasses_102 : decode cX10_trespasses 102 = .ok (.iload 6, 2) := by decide +kernel
theorem dX10_trespasses_104 : decode cX10_trespasses 104 = .ok (.iload_n 1, 1) := by decide +kernel
theorem dX10_trespasses_105 : decode cX10_trespasses 105 = .ok (.if_icmp .ne 26, 3) := by decide +kernel
theorem dX10_trespasses_108 : decode cX10_trespasses 108 = .ok (.goto 19, 3) := by decide +kernel
theorem dX10_trespasses_111 : decode cX10_trespasses 111 = .ok (.aload_n 0, 1) := by decide +kernel
theorem dX10_trespasses_112 : decode cX10_trespasses 112 = .ok (.getfield 92, 3) := by decide +kernel
theorem dX10_trespasses_115 : decode cX10_trespasses 115 = .ok (.aload_n 0, 1) := by decide +kernel
theorem dX10_trespasses_116 : decode cX10_trespasses 116 = .ok (.getfield 113, 3) := by decide +kernel
theorem dX10_trespasses_119 : decode cX10_trespasses 119 = .ok (.iload 6, 2) := by decide +kernel
theorem dX10_trespasses_121 : decode cX10_trespasses 121 = .ok (.iaload, 1) := by decide +kernel
theorem dX10_trespasses_122 : decode cX10_trespasses 122 = .ok (.iaload, 1) := by decide +kernel
theorem dX10_trespasses_123 : decode cX10_trespasses 123 = .ok (.iload_n 1, 1) := by decide +kernel
theorem dX10_trespasses_124 : decode cX10_trespasses 124 = .ok (.if_icmp .ne 7, 3) := by decide +kernel
theorem dX10_trespasses_127 : decode cX10_trespasses 127 = .ok (.iconst 1, 1) := by decide +kernel
theorem dX10_trespasses_128 : decode cX10_trespasses 128 = .ok (.goto 4, 3) := by decide +kernel
theorem dX10_trespasses_131 : decode cX10_trespasses 131 = .ok (.iconst 0, 1) := by decide +kernel
theorem dX10_trespasses_132 : decode cX10_trespasses 132 = .ok (.iadd, 1) := by decide +kernel
theorem dX10_trespasses_133 : decode cX10_trespasses 133 = .ok (.istore 4, 2) := by decide +kernel
theorem dX10_trespasses_135 : decode cX10_trespasses 135 = .ok (.iinc 6 1, 3) := by decide +kernel
theorem dX10_trespasses_138 : decode cX10_trespasses 138 = .ok (.goto (-64), 3) := by decide +kernel
theorem dX10_trespasses_141 : decode cX10_trespasses 141 = .ok (.iinc 5 1, 3) := by decide +kernel
theorem dX10_trespasses_144 : decode cX10_trespasses 144 = .ok (.goto (-83), 3) := by decide +kernel
theorem dX10_trespasses_147 : decode cX10_trespasses 147 = .ok (.aload_n 0, 1) := by decide +kernel
theorem dX10_trespasses_148 : decode cX10_trespasses 148 = .ok (.aload_n 0, 1) := by decide +kernel
theorem dX10_trespasses_149 : decode cX10_trespasses 149 = .ok (.getfield 116, 3) := by decide +kernel
theorem dX10_trespasses_152 : decode cX10_trespasses 152 = .ok (.iconst 0, 1) := by decide +kernel
theorem dX10_trespasses_153 : decode cX10_trespasses 153 = .ok (.invokevirtual 430, 3) := by decide +kernel
theorem dX10_trespasses_156 : decode cX10_trespasses 156 = .ok (.iload 4, 2) := by decide +kernel
theorem dX10_trespasses_158 : decode cX10_trespasses 158 = .ok (.ireturn, 1) := by decide +kernel
theorem dX10_allKnow_0 : decode cX10_allKnow 0 = .ok (.aload_n 0, 1) := by decide +kernel
theorem dX10_allKnow_1 : decode cX10_allKnow 1 = .ok (.iconst 0, 1) := by decide +kernel
theorem dX10_allKnow_2 : decode cX10_allKnow 2 = .ok (.putfield 167, 3) := by decide +kernel
theorem dX10_allKnow_5 : decode cX10_allKnow 5 = .ok (.aload_n 0, 1) := by decide +kernel
theorem dX10_allKnow_6 : decode cX10_allKnow 6 = .ok (.iload_n 1, 1) := by decide +kernel
theorem dX10_allKnow_7 : decode cX10_allKnow 7 = .ok (.invokevirtual 392, 3) := by decide +kernel
theorem dX10_allKnow_10 : decode cX10_allKnow 10 = .ok (.ifCond .eq 21, 3) := by decide +kernel
theorem dX10_allKnow_13 : decode cX10_allKnow 13 = .ok (.aload_n 0, 1) := by decide +kernel
theorem dX10_allKnow_14 : decode cX10_allKnow 14 = .ok (.iconst 1, 1) := by decide +kernel
theorem dX10_allKnow_15 : decode cX10_allKnow 15 = .ok (.aload_n 0, 1) := by decide +kernel
theorem dX10_allKnow_16 : decode cX10_allKnow 16 = .ok (.getfield 39, 3) := by decide +kernel
theorem dX10_allKnow_19 : decode cX10_allKnow 19 = .ok (.iconst 2, 1) := by decide +kernel
theorem dX10_allKnow_20 : decode cX10_allKnow 20 = .ok (.iaload, 1) := by decide +kernel
theorem dX10_allKnow_21 : decode cX10_allKnow 21 = .ok (.ishl, 1) := by decide +kernel
theorem dX10_allKnow_22 : decode cX10_allKnow 22 = .ok (.iconst 1, 1) := by decide +kernel
theorem dX10_allKnow_23 : decode cX10_allKnow 23 = .ok (.isub, 1) := by decide +kernel
theorem dX10_allKnow_24 : decode cX10_allKnow 24 = .ok (.iload_n 1, 1) := by decide +kernel
theorem dX10_allKnow_25 : decode cX10_allKnow 25 = .ok (.invokevirtual 435, 3) := by decide +kernel
theorem dX10_allKnow_28 : decode cX10_allKnow 28 = .ok (.goto 8, 3) := by decide +kernel
theorem dX10_allKnow_31 : decode cX10_allKnow 31 = .ok (.aload_n 0, 1) := by decide +kernel
theorem dX10_allKnow_32 : decode cX10_allKnow 32 = .ok (.iconst 1, 1) := by decide +kernel
theorem dX10_allKnow_33 : decode cX10_allKnow 33 = .ok (.invokevirtual 325, 3) := by decide +kernel
theorem dX10_allKnow_36 : decode cX10_allKnow 36 = .ok (.ireturn, 1) := by decide +kernel
theorem dX10_knownByOthers_0 : decode cX10_knownByOthers 0 = .ok (.aload_n 0, 1) := by decide +kernel
theorem dX10_knownByOthers_1 : decode cX10_knownByOthers 1 = .ok (.bipush 30, 2) := by decide +kernel
theorem dX10_knownByOthers_3 : decode cX10_knownByOthers 3 = .ok (.invokevirtual 418, 3) := by decide +kernel
theorem dX10_knownByOthers_6 : decode cX10_knownByOthers 6 = .ok (.iconst 0, 1) := by decide +kernel
theorem dX10_knownByOthers_7 : decode cX10_knownByOthers 7 = .ok (.istore_n 2, 1) := by decide +kernel
theorem dX10_knownByOthers_8 : decode cX10_knownByOthers 8 = .ok (.iconst 0, 1) := by decide +kernel
theorem dX10_knownByOthers_9 : decode cX10_knownByOthers 9 = .ok (.istore_n 3, 1) := by decide +kernel
theorem dX10_knownByOthers_10 : decode cX10_knownByOthers 10 = .ok (.iload_n 3, 1) := by decide +kernel
theorem dX10_knownByOthers_11 : decode cX10_knownByOthers 11 = .ok (.aload_n 0, 1) := by decide +kernel
theorem dX10_knownByOthers_12 : decode cX10_knownByOthers 12 = .ok (.getfield 39, 3) := by decide +kernel
theorem dX10_knownByOthers_15 : decode cX10_knownByOthers 15 = .ok (.iconst 2, 1) := by decide +kernel
theorem dX10_knownByOthers_16 : decode cX10_knownByOthers 16 = .ok (.iaload, 1) := by decide +kernel
theorem dX10_knownByOthers_17 : decode cX10_knownByOthers 17 = .ok (.if_icmp .ge 27, 3) := by decide +kernel
theorem dX10_knownByOthers_20 : decode cX10_knownByOthers 20 = .ok (.iload_n 2, 1) := by decide +kernel
theorem dX10_knownByOthers_21 : decode cX10_knownByOthers 21 = .ok (.iload_n 3, 1) := by decide +kernel
theorem dX10_knownByOthers_22 : decode cX10_knownByOthers 22 = .ok (.iload_n 1, 1) := by decide +kernel
theorem dX10_knownByOthers_23 : decode cX10_knownByOthers 23 = .ok (.if_icmp .ne 7, 3) := by decide +kernel
theorem dX10_knownByOthers_26 : decode cX10_knownByOthers 26 = .ok (.iconst 0, 1) := by decide +kernel
theorem dX10_knownByOthers_27 : decode cX10_knownByOthers 27 = .ok (.goto 9, 3) := by decide +kernel
theorem dX10_knownByOthers_30 : decode cX10_knownByOthers 30 = .ok (.aload_n 0, 1) := by decide +kernel
theorem dX10_knownByOthers_31 : decode cX10_knownByOthers 31 = .ok (.getfield 81, 3) := by decide +kernel
theorem dX10_knownByOthers_34 : decode cX10_knownByOthers 34 = .ok (.iload_n 3, 1) := by decide +kernel
theorem dX10_knownByOthers_35 : decode cX10_knownByOthers 35 = .ok (.iaload, 1) := by decide +kernel
theorem dX10_knownByOthers_36 : decode cX10_knownByOthers 36 = .ok (.ior, 1) := by decide +kernel
theorem dX10_knownByOthers_37 : decode cX10_knownByOthers 37 = .ok (.istore_n 2, 1) := by decide +kernel
theorem dX10_knownByOthers_38 : decode cX10_knownByOthers 38 = .ok (.iinc 3 1, 3) := by decide +kernel
theorem dX10_knownByOthers_41 : decode cX10_knownByOthers 41 = .ok (.goto (-31), 3) := by decide +kernel
theorem dX10_knownByOthers_44 : decode cX10_knownByOthers 44 = .ok (.aload_n 0, 1) := by decide +kernel
theorem dX10_knownByOthers_45 : decode cX10_knownByOthers 45 = .ok (.aload_n 0, 1) := by decide +kernel
theorem dX10_knownByOthers_46 : decode cX10_knownByOthers 46 = .ok (.getfield 116, 3) := by decide +kernel
theorem dX10_knownByOthers_49 : decode cX10_knownByOthers 49 = .ok (.iconst 0, 1) := by decide +kernel
theorem dX10_knownByOthers_50 : decode cX10_knownByOthers 50 = .ok (.invokevirtual 430, 3) := by decide +kernel
theorem dX10_knownByOthers_53 : decode cX10_knownByOthers 53 = .ok (.iload_n 2, 1) := by decide +kernel
theorem dX10_knownByOthers_54 : decode cX10_knownByOthers 54 = .ok (.ireturn, 1) := by decide +kernel
theorem dX10_lost_0 : decode cX10_lost 0 = .ok (.aload_n 0, 1) := by decide +kernel
theorem dX10_lost_1 : decode cX10_lost 1 = .ok (.iconst 0, 1) := by decide +kernel
theorem dX10_lost_2 : decode cX10_lost 2 = .ok (.putfield 167, 3) := by decide +kernel
theorem dX10_lost_5 : decode cX10_lost 5 = .ok (.aload_n 0, 1) := by decide +kernel
theorem dX10_lost_6 : decode cX10_lost 6 = .ok (.iload_n 1, 1) := by decide +kernel
theorem dX10_lost_7 : decode cX10_lost 7 = .ok (.invokevirtual 400, 3) := by decide +kernel
theorem dX10_lost_10 : decode cX10_lost 10 = .ok (.ifCond .ne 9, 3) := by decide +kernel
theorem dX10_lost_13 : decode cX10_lost 13 = .ok (.aload_n 0, 1) := by decide +kernel
theorem dX10_lost_14 : decode cX10_lost 14 = .ok (.iconst 1, 1) := by decide +kernel
