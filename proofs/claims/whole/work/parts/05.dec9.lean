theorem dX9_init_0 : decode cX9_init 0 = .ok (.aload_n 0, 1) := by decide +kernel
theorem dX9_init_1 : decode cX9_init 1 = .ok (.invokespecial 3, 3) := by decide +kernel
theorem dX9_init_4 : decode cX9_init 4 = .ok (.aload_n 0, 1) := by decide +kernel
theorem dX9_init_5 : decode cX9_init 5 = .ok (.sipush 700, 3) := by decide +kernel
theorem dX9_init_8 : decode cX9_init 8 = .ok (.newarray .byte, 2) := by decide +kernel
theorem dX9_init_10 : decode cX9_init 10 = .ok (.putfield 9, 3) := by decide +kernel
theorem dX9_init_13 : decode cX9_init 13 = .ok (.aload_n 0, 1) := by decide +kernel
theorem dX9_init_14 : decode cX9_init 14 = .ok (.new 13, 3) := by decide +kernel
theorem dX9_init_17 : decode cX9_init 17 = .ok (.dup, 1) := by decide +kernel
theorem dX9_init_18 : decode cX9_init 18 = .ok (.invokespecial 15, 3) := by decide +kernel
theorem dX9_init_21 : decode cX9_init 21 = .ok (.putfield 16, 3) := by decide +kernel
theorem dX9_init_24 : decode cX9_init 24 = .ok (.aload_n 0, 1) := by decide +kernel
theorem dX9_init_25 : decode cX9_init 25 = .ok (.new 13, 3) := by decide +kernel
theorem dX9_init_28 : decode cX9_init 28 = .ok (.dup, 1) := by decide +kernel
theorem dX9_init_29 : decode cX9_init 29 = .ok (.invokespecial 15, 3) := by decide +kernel
theorem dX9_init_32 : decode cX9_init 32 = .ok (.putfield 20, 3) := by decide +kernel
theorem dX9_init_35 : decode cX9_init 35 = .ok (.aload_n 0, 1) := by decide +kernel
theorem dX9_init_36 : decode cX9_init 36 = .ok (.new 23, 3) := by decide +kernel
theorem dX9_init_39 : decode cX9_init 39 = .ok (.dup, 1) := by decide +kernel
theorem dX9_init_40 : decode cX9_init 40 = .ok (.aload_n 0, 1) := by decide +kernel
theorem dX9_init_41 : decode cX9_init 41 = .ok (.getfield 9, 3) := by decide +kernel
theorem dX9_init_44 : decode cX9_init 44 = .ok (.aload_n 0, 1) := by decide +kernel
theorem dX9_init_45 : decode cX9_init 45 = .ok (.getfield 20, 3) := by decide +kernel
theorem dX9_init_48 : decode cX9_init 48 = .ok (.invokespecial 25, 3) := by decide +kernel
theorem dX9_init_51 : decode cX9_init 51 = .ok (.putfield 28, 3) := by decide +kernel
theorem dX9_init_54 : decode cX9_init 54 = .ok (.aload_n 0, 1) := by decide +kernel
theorem dX9_init_55 : decode cX9_init 55 = .ok (.new 32, 3) := by decide +kernel
theorem dX9_init_58 : decode cX9_init 58 = .ok (.dup, 1) := by decide +kernel
theorem dX9_init_59 : decode cX9_init 59 = .ok (.invokespecial 34, 3) := by decide +kernel
theorem dX9_init_62 : decode cX9_init 62 = .ok (.putfield 35, 3) := by decide +kernel
theorem dX9_init_65 : decode cX9_init 65 = .ok (.aload_n 0, 1) := by decide +kernel
theorem dX9_init_66 : decode cX9_init 66 = .ok (.new 32, 3) := by decide +kernel
theorem dX9_init_69 : decode cX9_init 69 = .ok (.dup, 1) := by decide +kernel
theorem dX9_init_70 : decode cX9_init 70 = .ok (.invokespecial 34, 3) := by decide +kernel
theorem dX9_init_73 : decode cX9_init 73 = .ok (.putfield 39, 3) := by decide +kernel
theorem dX9_init_76 : decode cX9_init 76 = .ok (.aload_n 0, 1) := by decide +kernel
theorem dX9_init_77 : decode cX9_init 77 = .ok (.new 42, 3) := by decide +kernel
theorem dX9_init_80 : decode cX9_init 80 = .ok (.dup, 1) := by decide +kernel
theorem dX9_init_81 : decode cX9_init 81 = .ok (.aload_n 0, 1) := by decide +kernel
theorem dX9_init_82 : decode cX9_init 82 = .ok (.getfield 16, 3) := by decide +kernel
theorem dX9_init_85 : decode cX9_init 85 = .ok (.invokespecial 44, 3) := by decide +kernel
theorem dX9_init_88 : decode cX9_init 88 = .ok (.putfield 47, 3) := by decide +kernel
theorem dX9_init_91 : decode cX9_init 91 = .ok (.aload_n 0, 1) := by decide +kernel
theorem dX9_init_92 : decode cX9_init 92 = .ok (.new 51, 3) := by decide +kernel
theorem dX9_init_95 : decode cX9_init 95 = .ok (.dup, 1) := by decide +kernel
theorem dX9_init_96 : decode cX9_init 96 = .ok (.aload_n 0, 1) := by decide +kernel
theorem dX9_init_97 : decode cX9_init 97 = .ok (.getfield 47, 3) := by decide +kernel
theorem dX9_init_100 : decode cX9_init 100 = .ok (.invokespecial 53, 3) := by decide +kernel
theorem dX9_init_103 : decode cX9_init 103 = .ok (.putfield 56, 3) := by decide +kernel
theorem dX9_init_106 : decode cX9_init 106 = .ok (.aload_n 0, 1) := by decide +kernel
theorem dX9_init_107 : decode cX9_init 107 = .ok (.new 60, 3) := by decide +kernel
theorem dX9_init_110 : decode cX9_init 110 = .ok (.dup, 1) := by decide +kernel
theorem dX9_init_111 : decode cX9_init 111 = .ok (.invokespecial 62, 3) := by decide +kernel
theorem dX9_init_114 : decode cX9_init 114 = .ok (.putfield 63, 3) := by decide +kernel
theorem dX9_init_117 : decode cX9_init 117 = .ok (.aload_n 0, 1) := by decide +kernel
theorem dX9_init_118 : decode cX9_init 118 = .ok (.iconst (-1), 1) := by decide +kernel
theorem dX9_init_119 : decode cX9_init 119 = .ok (.putfield 67, 3) := by decide +kernel
theorem dX9_init_122 : decode cX9_init 122 = .ok (.return_, 1) := by decide +kernel
theorem dX9_feed_0 : decode cX9_feed 0 = .ok (.aload_n 0, 1) := by decide +kernel
theorem dX9_feed_1 : decode cX9_feed 1 = .ok (.getfield 71, 3) := by decide +kernel
theorem dX9_feed_4 : decode cX9_feed 4 = .ok (.bipush 20, 2) := by decide +kernel
theorem dX9_feed_6 : decode cX9_feed 6 = .ok (.iadd, 1) := by decide +kernel
theorem dX9_feed_7 : decode cX9_feed 7 = .ok (.sipush 700, 3) := by decide +kernel
theorem dX9_feed_10 : decode cX9_feed 10 = .ok (.if_icmp .le 5, 3) := by decide +kernel
theorem dX9_feed_13 : decode cX9_feed 13 = .ok (.iconst (-1), 1) := by decide +kernel
theorem dX9_feed_14 : decode cX9_feed 14 = .ok (.ireturn, 1) := by decide +kernel
theorem dX9_feed_15 : decode cX9_feed 15 = .ok (.aload_n 0, 1) := by decide +kernel
theorem dX9_feed_16 : decode cX9_feed 16 = .ok (.iload_n 1, 1) := by decide +kernel
theorem dX9_feed_17 : decode cX9_feed 17 = .ok (.invokevirtual 74, 3) := by decide +kernel
theorem dX9_feed_20 : decode cX9_feed 20 = .ok (.aload_n 0, 1) := by decide +kernel
theorem dX9_feed_21 : decode cX9_feed 21 = .ok (.iload_n 2, 1) := by decide +kernel
theorem dX9_feed_22 : decode cX9_feed 22 = .ok (.invokevirtual 74, 3) := by decide +kernel
theorem dX9_feed_25 : decode cX9_feed 25 = .ok (.aload_n 0, 1) := by decide +kernel
theorem dX9_feed_26 : decode cX9_feed 26 = .ok (.iload_n 3, 1) := by decide +kernel
theorem dX9_feed_27 : decode cX9_feed 27 = .ok (.invokevirtual 74, 3) := by decide +kernel
theorem dX9_feed_30 : decode cX9_feed 30 = .ok (.aload_n 0, 1) := by decide +kernel
theorem dX9_feed_31 : decode cX9_feed 31 = .ok (.iload 4, 2) := by decide +kernel
theorem dX9_feed_33 : decode cX9_feed 33 = .ok (.invokevirtual 74, 3) := by decide +kernel
theorem dX9_feed_36 : decode cX9_feed 36 = .ok (.aload_n 0, 1) := by decide +kernel
theorem dX9_feed_37 : decode cX9_feed 37 = .ok (.iload 5, 2) := by decide +kernel
theorem dX9_feed_39 : decode cX9_feed 39 = .ok (.invokevirtual 74, 3) := by decide +kernel
theorem dX9_feed_42 : decode cX9_feed 42 = .ok (.aload_n 0, 1) := by decide +kernel
theorem dX9_feed_43 : decode cX9_feed 43 = .ok (.getfield 71, 3) := by decide +kernel
theorem dX9_feed_46 : decode cX9_feed 46 = .ok (.ireturn, 1) := by decide +kernel
theorem dX9_putBytes_0 : decode cX9_putBytes 0 = .ok (.bipush 24, 2) := by decide +kernel
theorem dX9_putBytes_2 : decode cX9_putBytes 2 = .ok (.istore_n 2, 1) := by decide +kernel
theorem dX9_putBytes_3 : decode cX9_putBytes 3 = .ok (.iload_n 2, 1) := by decide +kernel
theorem dX9_putBytes_4 : decode cX9_putBytes 4 = .ok (.ifCond .lt 42, 3) := by decide +kernel
theorem dX9_putBytes_7 : decode cX9_putBytes 7 = .ok (.aload_n 0, 1) := by decide +kernel
theorem dX9_putBytes_8 : decode cX9_putBytes 8 = .ok (.getfield 71, 3) := by decide +kernel
theorem dX9_putBytes_11 : decode cX9_putBytes 11 = .ok (.sipush 700, 3) := by decide +kernel
theorem dX9_putBytes_14 : decode cX9_putBytes 14 = .ok (.if_icmp .ge 26, 3) := by decide +kernel
theorem dX9_putBytes_17 : decode cX9_putBytes 17 = .ok (.aload_n 0, 1) := by decide +kernel
theorem dX9_putBytes_18 : decode cX9_putBytes 18 = .ok (.getfield 9, 3) := by decide +kernel
theorem dX9_putBytes_21 : decode cX9_putBytes 21 = .ok (.aload_n 0, 1) := by decide +kernel
theorem dX9_putBytes_22 : decode cX9_putBytes 22 = .ok (.getfield 71, 3) := by decide +kernel
theorem dX9_putBytes_25 : decode cX9_putBytes 25 = .ok (.iload_n 1, 1) := by decide +kernel
theorem dX9_putBytes_26 : decode cX9_putBytes 26 = .ok (.iload_n 2, 1) := by decide +kernel
theorem dX9_putBytes_27 : decode cX9_putBytes 27 = .ok (.ishr, 1) := by decide +kernel
theorem dX9_putBytes_28 : decode cX9_putBytes 28 = .ok (.i2b, 1) := by decide +kernel
theorem dX9_putBytes_29 : decode cX9_putBytes 29 = .ok (.bastore, 1) := by decide +kernel
theorem dX9_putBytes_30 : decode cX9_putBytes 30 = .ok (.aload_n 0, 1) := by decide +kernel
theorem dX9_putBytes_31 : decode cX9_putBytes 31 = .ok (.dup, 1) := by decide +kernel
theorem dX9_putBytes_32 : decode cX9_putBytes 32 = .ok (.getfield 71, 3) := by decide +kernel
theorem dX9_putBytes_35 : decode cX9_putBytes 35 = .ok (.iconst 1, 1) := by decide +kernel
theorem dX9_putBytes_36 : decode cX9_putBytes 36 = .ok (.iadd, 1) := by decide +kernel
theorem dX9_putBytes_37 : decode cX9_putBytes 37 = .ok (.putfield 71, 3) := by decide +kernel
theorem dX9_putBytes_40 : decode cX9_putBytes 40 = .ok (.iinc 2 (-8), 3) := by decide +kernel
theorem dX9_putBytes_43 : decode cX9_putBytes 43 = .ok (.goto (-40), 3) := by decide +kernel
theorem dX9_putBytes_46 : decode cX9_putBytes 46 = .ok (.return_, 1) := by decide +kernel
theorem dX9_valley_0 : decode cX9_valley 0 = .ok (.iload_n 1, 1) := by decide +kernel
theorem dX9_valley_1 : decode cX9_valley 1 = .ok (.ifCond .lt 11, 3) := by decide +kernel
theorem dX9_valley_4 : decode cX9_valley 4 = .ok (.iload_n 1, 1) := by decide +kernel
theorem dX9_valley_5 : decode cX9_valley 5 = .ok (.aload_n 0, 1) := by decide +kernel
theorem dX9_valley_6 : decode cX9_valley 6 = .ok (.getfield 71, 3) := by decide +kernel
theorem dX9_valley_9 : decode cX9_valley 9 = .ok (.if_icmp .le 13, 3) := by decide +kernel
theorem dX9_valley_12 : decode cX9_valley 12 = .ok (.new 78, 3) := by decide +kernel
theorem dX9_valley_15 : decode cX9_valley 15 = .ok (.dup, 1) := by decide +kernel
theorem dX9_valley_16 : decode cX9_valley 16 = .ok (.ldc 80, 2) := by decide +kernel
theorem dX9_valley_18 : decode cX9_valley 18 = .ok (.invokespecial 82, 3) := by decide +kernel
theorem dX9_valley_21 : decode cX9_valley 21 = .ok (.athrow, 1) := by decide +kernel
theorem dX9_valley_22 : decode cX9_valley 22 = .ok (.aload_n 0, 1) := by decide +kernel
theorem dX9_valley_23 : decode cX9_valley 23 = .ok (.getfield 28, 3) := by decide +kernel
theorem dX9_valley_26 : decode cX9_valley 26 = .ok (.iload_n 1, 1) := by decide +kernel
theorem dX9_valley_27 : decode cX9_valley 27 = .ok (.aload_n 0, 1) := by decide +kernel
theorem dX9_valley_28 : decode cX9_valley 28 = .ok (.getfield 20, 3) := by decide +kernel
theorem dX9_valley_31 : decode cX9_valley 31 = .ok (.invokevirtual 85, 3) := by decide +kernel
theorem dX9_valley_34 : decode cX9_valley 34 = .ok (.istore_n 2, 1) := by decide +kernel
theorem dX9_valley_35 : decode cX9_valley 35 = .ok (.aload_n 0, 1) := by decide +kernel
theorem dX9_valley_36 : decode cX9_valley 36 = .ok (.iconst 0, 1) := by decide +kernel
theorem dX9_valley_37 : decode cX9_valley 37 = .ok (.putfield 71, 3) := by decide +kernel
theorem dX9_valley_40 : decode cX9_valley 40 = .ok (.aload_n 0, 1) := by decide +kernel
theorem dX9_valley_41 : decode cX9_valley 41 = .ok (.aload_n 0, 1) := by decide +kernel
theorem dX9_valley_42 : decode cX9_valley 42 = .ok (.getfield 28, 3) := by decide +kernel
theorem dX9_valley_45 : decode cX9_valley 45 = .ok (.getfield 89, 3) := by decide +kernel
theorem dX9_valley_48 : decode cX9_valley 48 = .ok (.putfield 67, 3) := by decide +kernel
theorem dX9_valley_51 : decode cX9_valley 51 = .ok (.iload_n 2, 1) := by decide +kernel
theorem dX9_valley_52 : decode cX9_valley 52 = .ok (.ifCond .eq 13, 3) := by decide +kernel
theorem dX9_valley_55 : decode cX9_valley 55 = .ok (.aload_n 0, 1) := by decide +kernel
theorem dX9_valley_56 : decode cX9_valley 56 = .ok (.getfield 35, 3) := by decide +kernel
theorem dX9_valley_59 : decode cX9_valley 59 = .ok (.iconst 0, 1) := by decide +kernel
theorem dX9_valley_60 : decode cX9_valley 60 = .ok (.invokevirtual 92, 3) := by decide +kernel
theorem dX9_valley_63 : decode cX9_valley 63 = .ok (.iload_n 2, 1) := by decide +kernel
theorem dX9_valley_64 : decode cX9_valley 64 = .ok (.ireturn, 1) := by decide +kernel
theorem dX9_valley_65 : decode cX9_valley 65 = .ok (.aload_n 0, 1) := by decide +kernel
theorem dX9_valley_66 : decode cX9_valley 66 = .ok (.getfield 16, 3) := by decide +kernel
theorem dX9_valley_69 : decode cX9_valley 69 = .ok (.astore_n 3, 1) := by decide +kernel
theorem dX9_valley_70 : decode cX9_valley 70 = .ok (.aload_n 0, 1) := by decide +kernel
theorem dX9_valley_71 : decode cX9_valley 71 = .ok (.aload_n 0, 1) := by decide +kernel
theorem dX9_valley_72 : decode cX9_valley 72 = .ok (.getfield 20, 3) := by decide +kernel
theorem dX9_valley_75 : decode cX9_valley 75 = .ok (.putfield 16, 3) := by decide +kernel
theorem dX9_valley_78 : decode cX9_valley 78 = .ok (.aload_n 0, 1) := by decide +kernel
theorem dX9_valley_79 : decode cX9_valley 79 = .ok (.aload_n 3, 1) := by decide +kernel
theorem dX9_valley_80 : decode cX9_valley 80 = .ok (.putfield 20, 3) := by decide +kernel
theorem dX9_valley_83 : decode cX9_valley 83 = .ok (.aload_n 0, 1) := by decide +kernel
theorem dX9_valley_84 : decode cX9_valley 84 = .ok (.getfield 35, 3) := by decide +kernel
theorem dX9_valley_87 : decode cX9_valley 87 = .ok (.aload_n 0, 1) := by decide +kernel
theorem dX9_valley_88 : decode cX9_valley 88 = .ok (.getfield 16, 3) := by decide +kernel
theorem dX9_valley_91 : decode cX9_valley 91 = .ok (.invokevirtual 95, 3) := by decide +kernel
theorem dX9_valley_94 : decode cX9_valley 94 = .ok (.aload_n 0, 1) := by decide +kernel
theorem dX9_valley_95 : decode cX9_valley 95 = .ok (.iconst 0, 1) := by decide +kernel
theorem dX9_valley_96 : decode cX9_valley 96 = .ok (.putfield 98, 3) := by decide +kernel
theorem dX9_valley_99 : decode cX9_valley 99 = .ok (.iconst 0, 1) := by decide +kernel
theorem dX9_valley_100 : decode cX9_valley 100 = .ok (.ireturn, 1) := by decide +kernel
theorem dX9_fault_0 : decode cX9_fault 0 = .ok (.aload_n 0, 1) := by decide +kernel
theorem dX9_fault_1 : decode cX9_fault 1 = .ok (.getfield 67, 3) := by decide +kernel
theorem dX9_fault_4 : decode cX9_fault 4 = .ok (.ireturn, 1) := by decide +kernel
theorem dX9_count_0 : decode cX9_count 0 = .ok (.iload_n 1, 1) := by decide +kernel
theorem dX9_count_1 : decode cX9_count 1 = .ok (.tableswitch 137 0 10 #[59, 67, 75, 83, 93, 103, 111, 119, 124, 124, 124], 59) := by decide +kernel
theorem dX9_count_60 : decode cX9_count 60 = .ok (.aload_n 0, 1) := by decide +kernel
theorem dX9_count_61 : decode cX9_count 61 = .ok (.getfield 16, 3) := by decide +kernel
theorem dX9_count_64 : decode cX9_count 64 = .ok (.getfield 102, 3) := by decide +kernel
theorem dX9_count_67 : decode cX9_count 67 = .ok (.ireturn, 1) := by decide +kernel
theorem dX9_count_68 : decode cX9_count 68 = .ok (.aload_n 0, 1) := by decide +kernel
theorem dX9_count_69 : decode cX9_count 69 = .ok (.getfield 16, 3) := by decide +kernel
theorem dX9_count_72 : decode cX9_count 72 = .ok (.getfield 105, 3) := by decide +kernel
theorem dX9_count_75 : decode cX9_count 75 = .ok (.ireturn, 1) := by decide +kernel
theorem dX9_count_76 : decode cX9_count 76 = .ok (.aload_n 0, 1) := by decide +kernel
theorem dX9_count_77 : decode cX9_count 77 = .ok (.getfield 16, 3) := by decide +kernel
theorem dX9_count_80 : decode cX9_count 80 = .ok (.getfield 108, 3) := by decide +kernel
theorem dX9_count_83 : decode cX9_count 83 = .ok (.ireturn, 1) := by decide +kernel
theorem dX9_count_84 : decode cX9_count 84 = .ok (.aload_n 0, 1) := by decide +kernel
theorem dX9_count_85 : decode cX9_count 85 = .ok (.getfield 35, 3) := by decide +kernel
theorem dX9_count_88 : decode cX9_count 88 = .ok (.getfield 111, 3) := by decide +kernel
theorem dX9_count_91 : decode cX9_count 91 = .ok (.iconst 0, 1) := by decide +kernel
theorem dX9_count_92 : decode cX9_count 92 = .ok (.iaload, 1) := by decide +kernel
theorem dX9_count_93 : decode cX9_count 93 = .ok (.ireturn, 1) := by decide +kernel
theorem dX9_count_94 : decode cX9_count 94 = .ok (.aload_n 0, 1) := by decide +kernel
theorem dX9_count_95 : decode cX9_count 95 = .ok (.getfield 35, 3) := by decide +kernel
theorem dX9_count_98 : decode cX9_count 98 = .ok (.getfield 111, 3) := by decide +kernel
theorem dX9_count_101 : decode cX9_count 101 = .ok (.iconst 1, 1) := by decide +kernel
theorem dX9_count_102 : decode cX9_count 102 = .ok (.iaload, 1) := by decide +kernel
theorem dX9_count_103 : decode cX9_count 103 = .ok (.ireturn, 1) := by decide +kernel
theorem dX9_count_104 : decode cX9_count 104 = .ok (.aload_n 0, 1) := by decide +kernel
theorem dX9_count_105 : decode cX9_count 105 = .ok (.getfield 35, 3) := by decide +kernel
theorem dX9_count_108 : decode cX9_count 108 = .ok (.getfield 115, 3) := by decide +kernel
theorem dX9_count_111 : decode cX9_count 111 = .ok (.ireturn, 1) := by decide +kernel
theorem dX9_count_112 : decode cX9_count 112 = .ok (.aload_n 0, 1) := by decide +kernel
theorem dX9_count_113 : decode cX9_count 113 = .ok (.getfield 35, 3) := by decide +kernel
theorem dX9_count_116 : decode cX9_count 116 = .ok (.getfield 118, 3) := by decide +kernel
theorem dX9_count_119 : decode cX9_count 119 = .ok (.ireturn, 1) := by decide +kernel
theorem dX9_count_120 : decode cX9_count 120 = .ok (.aload_n 0, 1) := by decide +kernel
theorem dX9_count_121 : decode cX9_count 121 = .ok (.getfield 71, 3) := by decide +kernel
theorem dX9_count_124 : decode cX9_count 124 = .ok (.ireturn, 1) := by decide +kernel
theorem dX9_count_125 : decode cX9_count 125 = .ok (.aload_n 0, 1) := by decide +kernel
theorem dX9_count_126 : decode cX9_count 126 = .ok (.getfield 35, 3) := by decide +kernel
theorem dX9_count_129 : decode cX9_count 129 = .ok (.getfield 121, 3) := by decide +kernel
theorem dX9_count_132 : decode cX9_count 132 = .ok (.iload_n 1, 1) := by decide +kernel
theorem dX9_count_133 : decode cX9_count 133 = .ok (.bipush 8, 2) := by decide +kernel
theorem dX9_count_135 : decode cX9_count 135 = .ok (.isub, 1) := by decide +kernel
theorem dX9_count_136 : decode cX9_count 136 = .ok (.iaload, 1) := by decide +kernel
theorem dX9_count_137 : decode cX9_count 137 = .ok (.ireturn, 1) := by decide +kernel
theorem dX9_count_138 : decode cX9_count 138 = .ok (.new 124, 3) := by decide +kernel
theorem dX9_count_141 : decode cX9_count 141 = .ok (.dup, 1) := by decide +kernel
theorem dX9_count_142 : decode cX9_count 142 = .ok (.ldc 126, 2) := by decide +kernel
theorem dX9_count_144 : decode cX9_count 144 = .ok (.invokespecial 128, 3) := by decide +kernel
theorem dX9_count_147 : decode cX9_count 147 = .ok (.athrow, 1) := by decide +kernel
theorem dX9_field_0 : decode cX9_field 0 = .ok (.aload_n 0, 1) := by decide +kernel
theorem dX9_field_1 : decode cX9_field 1 = .ok (.iload_n 1, 1) := by decide +kernel
theorem dX9_field_2 : decode cX9_field 2 = .ok (.invokevirtual 129, 3) := by decide +kernel
theorem dX9_field_5 : decode cX9_field 5 = .ok (.iload_n 2, 1) := by decide +kernel
theorem dX9_field_6 : decode cX9_field 6 = .ok (.tableswitch 100 0 5 #[38, 48, 58, 71, 77, 90], 38) := by decide +kernel
theorem dX9_field_44 : decode cX9_field 44 = .ok (.aload_n 0, 1) := by decide +kernel
theorem dX9_field_45 : decode cX9_field 45 = .ok (.getfield 16, 3) := by decide +kernel
theorem dX9_field_48 : decode cX9_field 48 = .ok (.getfield 132, 3) := by decide +kernel
theorem dX9_field_51 : decode cX9_field 51 = .ok (.iload_n 1, 1) := by decide +kernel
theorem dX9_field_52 : decode cX9_field 52 = .ok (.iaload, 1) := by decide +kernel
theorem dX9_field_53 : decode cX9_field 53 = .ok (.ireturn, 1) := by decide +kernel
theorem dX9_field_54 : decode cX9_field 54 = .ok (.aload_n 0, 1) := by decide +kernel
theorem dX9_field_55 : decode cX9_field 55 = .ok (.getfield 16, 3) := by decide +kernel
theorem dX9_field_58 : decode cX9_field 58 = .ok (.getfield 135, 3) := by decide +kernel
theorem dX9_field_61 : decode cX9_field 61 = .ok (.iload_n 1, 1) := by decide +kernel
theorem dX9_field_62 : decode cX9_field 62 = .ok (.iaload, 1) := by decide +kernel
theorem dX9_field_63 : decode cX9_field 63 = .ok (.ireturn, 1) := by decide +kernel
theorem dX9_field_64 : decode cX9_field 64 = .ok (.aload_n 0, 1) := by decide +kernel
theorem dX9_field_65 : decode cX9_field 65 = .ok (.getfield 35, 3) := by decide +kernel
theorem dX9_field_68 : decode cX9_field 68 = .ok (.getfield 111, 3) := by decide +kernel
theorem dX9_field_71 : decode cX9_field 71 = .ok (.bipush 98, 2) := by decide +kernel
theorem dX9_field_73 : decode cX9_field 73 = .ok (.iload_n 1, 1) := by decide +kernel
theorem dX9_field_74 : decode cX9_field 74 = .ok (.iadd, 1) := by decide +kernel
theorem dX9_field_75 : decode cX9_field 75 = .ok (.iaload, 1) := by decide +kernel
theorem dX9_field_76 : decode cX9_field 76 = .ok (.ireturn, 1) := by decide +kernel
theorem dX9_field_77 : decode cX9_field 77 = .ok (.aload_n 0, 1) := by decide +kernel
theorem dX9_field_78 : decode cX9_field 78 = .ok (.iload_n 1, 1) := by decide +kernel
theorem dX9_field_79 : decode cX9_field 79 = .ok (.invokevirtual 138, 3) := by decide +kernel
theorem dX9_field_82 : decode cX9_field 82 = .ok (.ireturn, 1) := by decide +kernel
theorem dX9_field_83 : decode cX9_field 83 = .ok (.aload_n 0, 1) := by decide +kernel
theorem dX9_field_84 : decode cX9_field 84 = .ok (.getfield 63, 3) := by decide +kernel
theorem dX9_field_87 : decode cX9_field 87 = .ok (.aload_n 0, 1) := by decide +kernel
theorem dX9_field_88 : decode cX9_field 88 = .ok (.getfield 16, 3) := by decide +kernel
theorem dX9_field_91 : decode cX9_field 91 = .ok (.iload_n 1, 1) := by decide +kernel
theorem dX9_field_92 : decode cX9_field 92 = .ok (.invokevirtual 142, 3) := by decide +kernel
theorem dX9_field_95 : decode cX9_field 95 = .ok (.ireturn, 1) := by decide +kernel
theorem dX9_field_96 : decode cX9_field 96 = .ok (.aload_n 0, 1) := by decide +kernel
theorem dX9_field_97 : decode cX9_field 97 = .ok (.getfield 16, 3) := by decide +kernel
theorem dX9_field_100 : decode cX9_field 100 = .ok (.getfield 146, 3) := by decide +kernel
theorem dX9_field_103 : decode cX9_field 103 = .ok (.iload_n 1, 1) := by decide +kernel
theorem dX9_field_104 : decode cX9_field 104 = .ok (.iaload, 1) := by decide +kernel
theorem dX9_field_105 : decode cX9_field 105 = .ok (.ireturn, 1) := by decide +kernel
theorem dX9_field_106 : decode cX9_field 106 = .ok (.new 124, 3) := by decide +kernel
theorem dX9_field_109 : decode cX9_field 109 = .ok (.dup, 1) := by decide +kernel
theorem dX9_field_110 : decode cX9_field 110 = .ok (.ldc 149, 2) := by decide +kernel
theorem dX9_field_112 : decode cX9_field 112 = .ok (.invokespecial 128, 3) := by decide +kernel
theorem dX9_field_115 : decode cX9_field 115 = .ok (.athrow, 1) := by decide +kernel
theorem dX9_whoIsIn_0 : decode cX9_whoIsIn 0 = .ok (.iconst 0, 1) := by decide +kernel
theorem dX9_whoIsIn_1 : decode cX9_whoIsIn 1 = .ok (.istore_n 2, 1) := by decide +kernel
theorem dX9_whoIsIn_2 : decode cX9_whoIsIn 2 = .ok (.iconst 0, 1) := by decide +kernel
theorem dX9_whoIsIn_3 : decode cX9_whoIsIn 3 = .ok (.istore_n 3, 1) := by decide +kernel
theorem dX9_whoIsIn_4 : decode cX9_whoIsIn 4 = .ok (.iload_n 3, 1) := by decide +kernel
theorem dX9_whoIsIn_5 : decode cX9_whoIsIn 5 = .ok (.aload_n 0, 1) := by decide +kernel
theorem dX9_whoIsIn_6 : decode cX9_whoIsIn 6 = .ok (.getfield 16, 3) := by decide +kernel
theorem dX9_whoIsIn_9 : decode cX9_whoIsIn 9 = .ok (.getfield 108, 3) := by decide +kernel
theorem dX9_whoIsIn_12 : decode cX9_whoIsIn 12 = .ok (.if_icmp .ge 34, 3) := by decide +kernel
theorem dX9_whoIsIn_15 : decode cX9_whoIsIn 15 = .ok (.aload_n 0, 1) := by decide +kernel
theorem dX9_whoIsIn_16 : decode cX9_whoIsIn 16 = .ok (.getfield 16, 3) := by decide +kernel
theorem dX9_whoIsIn_19 : decode cX9_whoIsIn 19 = .ok (.aload_n 0, 1) := by decide +kernel
theorem dX9_whoIsIn_20 : decode cX9_whoIsIn 20 = .ok (.getfield 35, 3) := by decide +kernel
theorem dX9_whoIsIn_23 : decode cX9_whoIsIn 23 = .ok (.getfield 111, 3) := by decide +kernel
theorem dX9_whoIsIn_26 : decode cX9_whoIsIn 26 = .ok (.iload_n 3, 1) := by decide +kernel
theorem dX9_whoIsIn_27 : decode cX9_whoIsIn 27 = .ok (.invokevirtual 151, 3) := by decide +kernel
theorem dX9_whoIsIn_30 : decode cX9_whoIsIn 30 = .ok (.iload_n 1, 1) := by decide +kernel
theorem dX9_whoIsIn_31 : decode cX9_whoIsIn 31 = .ok (.if_icmp .ne 9, 3) := by decide +kernel
theorem dX9_whoIsIn_34 : decode cX9_whoIsIn 34 = .ok (.iload_n 2, 1) := by decide +kernel
theorem dX9_whoIsIn_35 : decode cX9_whoIsIn 35 = .ok (.iconst 1, 1) := by decide +kernel
theorem dX9_whoIsIn_36 : decode cX9_whoIsIn 36 = .ok (.iload_n 3, 1) := by decide +kernel
theorem dX9_whoIsIn_37 : decode cX9_whoIsIn 37 = .ok (.ishl, 1) := by decide +kernel
theorem dX9_whoIsIn_38 : decode cX9_whoIsIn 38 = .ok (.ior, 1) := by decide +kernel
theorem dX9_whoIsIn_39 : decode cX9_whoIsIn 39 = .ok (.istore_n 2, 1) := by decide +kernel
theorem dX9_whoIsIn_40 : decode cX9_whoIsIn 40 = .ok (.iinc 3 1, 3) := by decide +kernel
theorem dX9_whoIsIn_43 : decode cX9_whoIsIn 43 = .ok (.goto (-39), 3) := by decide +kernel
theorem dX9_whoIsIn_46 : decode cX9_whoIsIn 46 = .ok (.iload_n 2, 1) := by decide +kernel
theorem dX9_whoIsIn_47 : decode cX9_whoIsIn 47 = .ok (.ireturn, 1) := by decide +kernel
theorem dX9_note_0 : decode cX9_note 0 = .ok (.aload_n 0, 1) := by decide +kernel
theorem dX9_note_1 : decode cX9_note 1 = .ok (.iload_n 1, 1) := by decide +kernel
theorem dX9_note_2 : decode cX9_note 2 = .ok (.invokevirtual 129, 3) := by decide +kernel
theorem dX9_note_5 : decode cX9_note 5 = .ok (.iload_n 2, 1) := by decide +kernel
theorem dX9_note_6 : decode cX9_note 6 = .ok (.ifCond .lt 16, 3) := by decide +kernel
theorem dX9_note_9 : decode cX9_note 9 = .ok (.iload_n 2, 1) := by decide +kernel
theorem dX9_note_10 : decode cX9_note 10 = .ok (.aload_n 0, 1) := by decide +kernel
theorem dX9_note_11 : decode cX9_note 11 = .ok (.getfield 16, 3) := by decide +kernel
theorem dX9_note_14 : decode cX9_note 14 = .ok (.getfield 135, 3) := by decide +kernel
theorem dX9_note_17 : decode cX9_note 17 = .ok (.iload_n 1, 1) := by decide +kernel
theorem dX9_note_18 : decode cX9_note 18 = .ok (.iaload, 1) := by decide +kernel
theorem dX9_note_19 : decode cX9_note 19 = .ok (.if_icmp .lt 13, 3) := by decide +kernel
theorem dX9_note_22 : decode cX9_note 22 = .ok (.new 124, 3) := by decide +kernel
theorem dX9_note_25 : decode cX9_note 25 = .ok (.dup, 1) := by decide +kernel
theorem dX9_note_26 : decode cX9_note 26 = .ok (.ldc 155, 2) := by decide +kernel
theorem dX9_note_28 : decode cX9_note 28 = .ok (.invokespecial 128, 3) := by decide +kernel
theorem dX9_note_31 : decode cX9_note 31 = .ok (.athrow, 1) := by decide +kernel
theorem dX9_note_32 : decode cX9_note 32 = .ok (.aload_n 0, 1) := by decide +kernel
theorem dX9_note_33 : decode cX9_note 33 = .ok (.getfield 16, 3) := by decide +kernel
theorem dX9_note_36 : decode cX9_note 36 = .ok (.getfield 157, 3) := by decide +kernel
theorem dX9_note_39 : decode cX9_note 39 = .ok (.iload_n 1, 1) := by decide +kernel
theorem dX9_note_40 : decode cX9_note 40 = .ok (.bipush 6, 2) := by decide +kernel
theorem dX9_note_42 : decode cX9_note 42 = .ok (.imul, 1) := by decide +kernel
theorem dX9_note_43 : decode cX9_note 43 = .ok (.iload_n 2, 1) := by decide +kernel
theorem dX9_note_44 : decode cX9_note 44 = .ok (.iadd, 1) := by decide +kernel
theorem dX9_note_45 : decode cX9_note 45 = .ok (.iaload, 1) := by decide +kernel
theorem dX9_note_46 : decode cX9_note 46 = .ok (.ireturn, 1) := by decide +kernel
theorem dX9_singer_0 : decode cX9_singer 0 = .ok (.aload_n 0, 1) := by decide +kernel
theorem dX9_singer_1 : decode cX9_singer 1 = .ok (.iload_n 1, 1) := by decide +kernel
theorem dX9_singer_2 : decode cX9_singer 2 = .ok (.invokevirtual 160, 3) := by decide +kernel
theorem dX9_singer_5 : decode cX9_singer 5 = .ok (.iload_n 2, 1) := by decide +kernel
theorem dX9_singer_6 : decode cX9_singer 6 = .ok (.tableswitch 143 0 5 #[38, 48, 64, 76, 89, 116], 38) := by decide +kernel
theorem dX9_singer_44 : decode cX9_singer 44 = .ok (.aload_n 0, 1) := by decide +kernel
theorem dX9_singer_45 : decode cX9_singer 45 = .ok (.getfield 16, 3) := by decide +kernel
theorem dX9_singer_48 : decode cX9_singer 48 = .ok (.getfield 163, 3) := by decide +kernel
theorem dX9_singer_51 : decode cX9_singer 51 = .ok (.iload_n 1, 1) := by decide +kernel
theorem dX9_singer_52 : decode cX9_singer 52 = .ok (.iaload, 1) := by decide +kernel
theorem dX9_singer_53 : decode cX9_singer 53 = .ok (.ireturn, 1) := by decide +kernel
theorem dX9_singer_54 : decode cX9_singer 54 = .ok (.aload_n 0, 1) := by decide +kernel
theorem dX9_singer_55 : decode cX9_singer 55 = .ok (.getfield 16, 3) := by decide +kernel
theorem dX9_singer_58 : decode cX9_singer 58 = .ok (.aload_n 0, 1) := by decide +kernel
theorem dX9_singer_59 : decode cX9_singer 59 = .ok (.getfield 35, 3) := by decide +kernel
theorem dX9_singer_62 : decode cX9_singer 62 = .ok (.getfield 111, 3) := by decide +kernel
theorem dX9_singer_65 : decode cX9_singer 65 = .ok (.iload_n 1, 1) := by decide +kernel
theorem dX9_singer_66 : decode cX9_singer 66 = .ok (.invokevirtual 151, 3) := by decide +kernel
theorem dX9_singer_69 : decode cX9_singer 69 = .ok (.ireturn, 1) := by decide +kernel
theorem dX9_singer_70 : decode cX9_singer 70 = .ok (.aload_n 0, 1) := by decide +kernel
theorem dX9_singer_71 : decode cX9_singer 71 = .ok (.getfield 35, 3) := by decide +kernel
theorem dX9_singer_74 : decode cX9_singer 74 = .ok (.getfield 111, 3) := by decide +kernel
theorem dX9_singer_77 : decode cX9_singer 77 = .ok (.iconst 2, 1) := by decide +kernel
theorem dX9_singer_78 : decode cX9_singer 78 = .ok (.iload_n 1, 1) := by decide +kernel
theorem dX9_singer_79 : decode cX9_singer 79 = .ok (.iadd, 1) := by decide +kernel
theorem dX9_singer_80 : decode cX9_singer 80 = .ok (.iaload, 1) := by decide +kernel
theorem dX9_singer_81 : decode cX9_singer 81 = .ok (.ireturn, 1) := by decide +kernel
theorem dX9_singer_82 : decode cX9_singer 82 = .ok (.aload_n 0, 1) := by decide +kernel
theorem dX9_singer_83 : decode cX9_singer 83 = .ok (.getfield 35, 3) := by decide +kernel
theorem dX9_singer_86 : decode cX9_singer 86 = .ok (.getfield 111, 3) := by decide +kernel
theorem dX9_singer_89 : decode cX9_singer 89 = .ok (.bipush 8, 2) := by decide +kernel
theorem dX9_singer_91 : decode cX9_singer 91 = .ok (.iload_n 1, 1) := by decide +kernel
theorem dX9_singer_92 : decode cX9_singer 92 = .ok (.iadd, 1) := by decide +kernel
theorem dX9_singer_93 : decode cX9_singer 93 = .ok (.iaload, 1) := by decide +kernel
theorem dX9_singer_94 : decode cX9_singer 94 = .ok (.ireturn, 1) := by decide +kernel
theorem dX9_singer_95 : decode cX9_singer 95 = .ok (.aload_n 0, 1) := by decide +kernel
theorem dX9_singer_96 : decode cX9_singer 96 = .ok (.getfield 47, 3) := by decide +kernel
theorem dX9_singer_99 : decode cX9_singer 99 = .ok (.aload_n 0, 1) := by decide +kernel
theorem dX9_singer_100 : decode cX9_singer 100 = .ok (.getfield 16, 3) := by decide +kernel
theorem dX9_singer_103 : decode cX9_singer 103 = .ok (.aload_n 0, 1) := by decide +kernel
theorem dX9_singer_104 : decode cX9_singer 104 = .ok (.getfield 35, 3) := by decide +kernel
theorem dX9_singer_107 : decode cX9_singer 107 = .ok (.getfield 111, 3) := by decide +kernel
theorem dX9_singer_110 : decode cX9_singer 110 = .ok (.invokevirtual 166, 3) := by decide +kernel
theorem dX9_singer_113 : decode cX9_singer 113 = .ok (.aload_n 0, 1) := by decide +kernel
theorem dX9_singer_114 : decode cX9_singer 114 = .ok (.getfield 47, 3) := by decide +kernel
theorem dX9_singer_117 : decode cX9_singer 117 = .ok (.iload_n 1, 1) := by decide +kernel
theorem dX9_singer_118 : decode cX9_singer 118 = .ok (.invokevirtual 170, 3) := by decide +kernel
theorem dX9_singer_121 : decode cX9_singer 121 = .ok (.ireturn, 1) := by decide +kernel
theorem dX9_singer_122 : decode cX9_singer 122 = .ok (.aload_n 0, 1) := by decide +kernel
theorem dX9_singer_123 : decode cX9_singer 123 = .ok (.getfield 47, 3) := by decide +kernel
theorem dX9_singer_126 : decode cX9_singer 126 = .ok (.aload_n 0, 1) := by decide +kernel
theorem dX9_singer_127 : decode cX9_singer 127 = .ok (.getfield 16, 3) := by decide +kernel
theorem dX9_singer_130 : decode cX9_singer 130 = .ok (.aload_n 0, 1) := by decide +kernel
theorem dX9_singer_131 : decode cX9_singer 131 = .ok (.getfield 35, 3) := by decide +kernel
theorem dX9_singer_134 : decode cX9_singer 134 = .ok (.getfield 111, 3) := by decide +kernel
theorem dX9_singer_137 : decode cX9_singer 137 = .ok (.invokevirtual 166, 3) := by decide +kernel
theorem dX9_singer_140 : decode cX9_singer 140 = .ok (.aload_n 0, 1) := by decide +kernel
theorem dX9_singer_141 : decode cX9_singer 141 = .ok (.getfield 47, 3) := by decide +kernel
theorem dX9_singer_144 : decode cX9_singer 144 = .ok (.iload_n 1, 1) := by decide +kernel
theorem dX9_singer_145 : decode cX9_singer 145 = .ok (.invokevirtual 173, 3) := by decide +kernel
theorem dX9_singer_148 : decode cX9_singer 148 = .ok (.ireturn, 1) := by decide +kernel
theorem dX9_singer_149 : decode cX9_singer 149 = .ok (.new 124, 3) := by decide +kernel
theorem dX9_singer_152 : decode cX9_singer 152 = .ok (.dup, 1) := by decide +kernel
theorem dX9_singer_153 : decode cX9_singer 153 = .ok (.ldc 176, 2) := by decide +kernel
theorem dX9_singer_155 : decode cX9_singer 155 = .ok (.invokespecial 128, 3) := by decide +kernel
theorem dX9_singer_158 : decode cX9_singer 158 = .ok (.athrow, 1) := by decide +kernel
theorem dX9_way_0 : decode cX9_way 0 = .ok (.aload_n 0, 1) := by decide +kernel
theorem dX9_way_1 : decode cX9_way 1 = .ok (.iload_n 1, 1) := by decide +kernel
theorem dX9_way_2 : decode cX9_way 2 = .ok (.invokevirtual 160, 3) := by decide +kernel
theorem dX9_way_5 : decode cX9_way 5 = .ok (.iload_n 2, 1) := by decide +kernel
theorem dX9_way_6 : decode cX9_way 6 = .ok (.ifCond .lt 16, 3) := by decide +kernel
theorem dX9_way_9 : decode cX9_way 9 = .ok (.iload_n 2, 1) := by decide +kernel
theorem dX9_way_10 : decode cX9_way 10 = .ok (.aload_n 0, 1) := by decide +kernel
theorem dX9_way_11 : decode cX9_way 11 = .ok (.getfield 16, 3) := by decide +kernel
theorem dX9_way_14 : decode cX9_way 14 = .ok (.getfield 163, 3) := by decide +kernel
theorem dX9_way_17 : decode cX9_way 17 = .ok (.iload_n 1, 1) := by decide +kernel
theorem dX9_way_18 : decode cX9_way 18 = .ok (.iaload, 1) := by decide +kernel
theorem dX9_way_19 : decode cX9_way 19 = .ok (.if_icmp .lt 13, 3) := by decide +kernel
theorem dX9_way_22 : decode cX9_way 22 = .ok (.new 124, 3) := by decide +kernel
theorem dX9_way_25 : decode cX9_way 25 = .ok (.dup, 1) := by decide +kernel
theorem dX9_way_26 : decode cX9_way 26 = .ok (.ldc 178, 2) := by decide +kernel
theorem dX9_way_28 : decode cX9_way 28 = .ok (.invokespecial 128, 3) := by decide +kernel
theorem dX9_way_31 : decode cX9_way 31 = .ok (.athrow, 1) := by decide +kernel
theorem dX9_way_32 : decode cX9_way 32 = .ok (.aload_n 0, 1) := by decide +kernel
theorem dX9_way_33 : decode cX9_way 33 = .ok (.getfield 35, 3) := by decide +kernel
theorem dX9_way_36 : decode cX9_way 36 = .ok (.getfield 111, 3) := by decide +kernel
theorem dX9_way_39 : decode cX9_way 39 = .ok (.bipush 62, 2) := by decide +kernel
theorem dX9_way_41 : decode cX9_way 41 = .ok (.iload_n 1, 1) := by decide +kernel
theorem dX9_way_42 : decode cX9_way 42 = .ok (.bipush 6, 2) := by decide +kernel
theorem dX9_way_44 : decode cX9_way 44 = .ok (.imul, 1) := by decide +kernel
theorem dX9_way_45 : decode cX9_way 45 = .ok (.iadd, 1) := by decide +kernel
theorem dX9_way_46 : decode cX9_way 46 = .ok (.iload_n 2, 1) := by decide +kernel
theorem dX9_way_47 : decode cX9_way 47 = .ok (.iadd, 1) := by decide +kernel
theorem dX9_way_48 : decode cX9_way 48 = .ok (.iaload, 1) := by decide +kernel
theorem dX9_way_49 : decode cX9_way 49 = .ok (.ireturn, 1) := by decide +kernel
theorem dX9_earth_0 : decode cX9_earth 0 = .ok (.aload_n 0, 1) := by decide +kernel
theorem dX9_earth_1 : decode cX9_earth 1 = .ok (.iload_n 1, 1) := by decide +kernel
theorem dX9_earth_2 : decode cX9_earth 2 = .ok (.invokevirtual 160, 3) := by decide +kernel
theorem dX9_earth_5 : decode cX9_earth 5 = .ok (.aload_n 0, 1) := by decide +kernel
theorem dX9_earth_6 : decode cX9_earth 6 = .ok (.iload_n 2, 1) := by decide +kernel
theorem dX9_earth_7 : decode cX9_earth 7 = .ok (.invokevirtual 129, 3) := by decide +kernel
theorem dX9_earth_10 : decode cX9_earth 10 = .ok (.aload_n 0, 1) := by decide +kernel
theorem dX9_earth_11 : decode cX9_earth 11 = .ok (.getfield 35, 3) := by decide +kernel
theorem dX9_earth_14 : decode cX9_earth 14 = .ok (.getfield 111, 3) := by decide +kernel
theorem dX9_earth_17 : decode cX9_earth 17 = .ok (.bipush 14, 2) := by decide +kernel
theorem dX9_earth_19 : decode cX9_earth 19 = .ok (.iload_n 1, 1) := by decide +kernel
theorem dX9_earth_20 : decode cX9_earth 20 = .ok (.bipush 8, 2) := by decide +kernel
theorem dX9_earth_22 : decode cX9_earth 22 = .ok (.imul, 1) := by decide +kernel
theorem dX9_earth_23 : decode cX9_earth 23 = .ok (.iadd, 1) := by decide +kernel
theorem dX9_earth_24 : decode cX9_earth 24 = .ok (.iload_n 2, 1) := by decide +kernel
theorem dX9_earth_25 : decode cX9_earth 25 = .ok (.iadd, 1) := by decide +kernel
theorem dX9_earth_26 : decode cX9_earth 26 = .ok (.iaload, 1) := by decide +kernel
theorem dX9_earth_27 : decode cX9_earth 27 = .ok (.ireturn, 1) := by decide +kernel
theorem dX9_hours_0 : decode cX9_hours 0 = .ok (.iload_n 1, 1) := by decide +kernel
theorem dX9_hours_1 : decode cX9_hours 1 = .ok (.iconst 1, 1) := by decide +kernel
theorem dX9_hours_2 : decode cX9_hours 2 = .ok (.if_icmp .lt 26, 3) := by decide +kernel
theorem dX9_hours_5 : decode cX9_hours 5 = .ok (.iload_n 1, 1) := by decide +kernel
theorem dX9_hours_6 : decode cX9_hours 6 = .ok (.bipush 30, 2) := by decide +kernel
theorem dX9_hours_8 : decode cX9_hours 8 = .ok (.if_icmp .gt 20, 3) := by decide +kernel
theorem dX9_hours_11 : decode cX9_hours 11 = .ok (.aload_n 0, 1) := by decide +kernel
theorem dX9_hours_12 : decode cX9_hours 12 = .ok (.getfield 35, 3) := by decide +kernel
theorem dX9_hours_15 : decode cX9_hours 15 = .ok (.getfield 111, 3) := by decide +kernel
theorem dX9_hours_18 : decode cX9_hours 18 = .ok (.iconst 0, 1) := by decide +kernel
theorem dX9_hours_19 : decode cX9_hours 19 = .ok (.iaload, 1) := by decide +kernel
theorem dX9_hours_20 : decode cX9_hours 20 = .ok (.iload_n 1, 1) := by decide +kernel
theorem dX9_hours_21 : decode cX9_hours 21 = .ok (.iadd, 1) := by decide +kernel
theorem dX9_hours_22 : decode cX9_hours 22 = .ok (.sipush 9999, 3) := by decide +kernel
theorem dX9_hours_25 : decode cX9_hours 25 = .ok (.if_icmp .le 13, 3) := by decide +kernel
theorem dX9_hours_28 : decode cX9_hours 28 = .ok (.aload_n 0, 1) := by decide +kernel
theorem dX9_hours_29 : decode cX9_hours 29 = .ok (.getfield 35, 3) := by decide +kernel
theorem dX9_hours_32 : decode cX9_hours 32 = .ok (.iconst 1, 1) := by decide +kernel
theorem dX9_hours_33 : decode cX9_hours 33 = .ok (.invokevirtual 92, 3) := by decide +kernel
theorem dX9_hours_36 : decode cX9_hours 36 = .ok (.iconst (-1), 1) := by decide +kernel
theorem dX9_hours_37 : decode cX9_hours 37 = .ok (.ireturn, 1) := by decide +kernel
theorem dX9_hours_38 : decode cX9_hours 38 = .ok (.aload_n 0, 1) := by decide +kernel
theorem dX9_hours_39 : decode cX9_hours 39 = .ok (.getfield 35, 3) := by decide +kernel
theorem dX9_hours_42 : decode cX9_hours 42 = .ok (.invokevirtual 180, 3) := by decide +kernel
theorem dX9_hours_45 : decode cX9_hours 45 = .ok (.aload_n 0, 1) := by decide +kernel
theorem dX9_hours_46 : decode cX9_hours 46 = .ok (.getfield 47, 3) := by decide +kernel
theorem dX9_hours_49 : decode cX9_hours 49 = .ok (.aload_n 0, 1) := by decide +kernel
theorem dX9_hours_50 : decode cX9_hours 50 = .ok (.getfield 16, 3) := by decide +kernel
theorem dX9_hours_53 : decode cX9_hours 53 = .ok (.aload_n 0, 1) := by decide +kernel
theorem dX9_hours_54 : decode cX9_hours 54 = .ok (.getfield 35, 3) := by decide +kernel
theorem dX9_hours_57 : decode cX9_hours 57 = .ok (.getfield 111, 3) := by decide +kernel
theorem dX9_hours_60 : decode cX9_hours 60 = .ok (.invokevirtual 166, 3) := by decide +kernel
theorem dX9_hours_63 : decode cX9_hours 63 = .ok (.aload_n 0, 1) := by decide +kernel
theorem dX9_hours_64 : decode cX9_hours 64 = .ok (.getfield 47, 3) := by decide +kernel
theorem dX9_hours_67 : decode cX9_hours 67 = .ok (.iload_n 1, 1) := by decide +kernel
theorem dX9_hours_68 : decode cX9_hours 68 = .ok (.invokevirtual 183, 3) := by decide +kernel
theorem dX9_hours_71 : decode cX9_hours 71 = .ok (.aload_n 0, 1) := by decide +kernel
theorem dX9_hours_72 : decode cX9_hours 72 = .ok (.getfield 47, 3) := by decide +kernel
theorem dX9_hours_75 : decode cX9_hours 75 = .ok (.getfield 186, 3) := by decide +kernel
theorem dX9_hours_78 : decode cX9_hours 78 = .ok (.iconst 0, 1) := by decide +kernel
theorem dX9_hours_79 : decode cX9_hours 79 = .ok (.aload_n 0, 1) := by decide +kernel
theorem dX9_hours_80 : decode cX9_hours 80 = .ok (.getfield 35, 3) := by decide +kernel
theorem dX9_hours_83 : decode cX9_hours 83 = .ok (.getfield 111, 3) := by decide +kernel
theorem dX9_hours_86 : decode cX9_hours 86 = .ok (.iconst 0, 1) := by decide +kernel
theorem dX9_hours_87 : decode cX9_hours 87 = .ok (.bipush 106, 2) := by decide +kernel
theorem dX9_hours_89 : decode cX9_hours 89 = .ok (.invokestatic 187, 3) := by decide +kernel
theorem dX9_hours_92 : decode cX9_hours 92 = .ok (.aload_n 0, 1) := by decide +kernel
theorem dX9_hours_93 : decode cX9_hours 93 = .ok (.getfield 35, 3) := by decide +kernel
theorem dX9_hours_96 : decode cX9_hours 96 = .ok (.getfield 111, 3) := by decide +kernel
theorem dX9_hours_99 : decode cX9_hours 99 = .ok (.iconst 0, 1) := by decide +kernel
theorem dX9_hours_100 : decode cX9_hours 100 = .ok (.iaload, 1) := by decide +kernel
theorem dX9_hours_101 : decode cX9_hours 101 = .ok (.ireturn, 1) := by decide +kernel
theorem dX9_teach_0 : decode cX9_teach 0 = .ok (.aload_n 0, 1) := by decide +kernel
theorem dX9_teach_1 : decode cX9_teach 1 = .ok (.iload_n 1, 1) := by decide +kernel
theorem dX9_teach_2 : decode cX9_teach 2 = .ok (.invokevirtual 160, 3) := by decide +kernel
theorem dX9_teach_5 : decode cX9_teach 5 = .ok (.aload_n 0, 1) := by decide +kernel
theorem dX9_teach_6 : decode cX9_teach 6 = .ok (.iload_n 2, 1) := by decide +kernel
theorem dX9_teach_7 : decode cX9_teach 7 = .ok (.invokevirtual 129, 3) := by decide +kernel
theorem dX9_teach_10 : decode cX9_teach 10 = .ok (.aload_n 0, 1) := by decide +kernel
theorem dX9_teach_11 : decode cX9_teach 11 = .ok (.getfield 35, 3) := by decide +kernel
theorem dX9_teach_14 : decode cX9_teach 14 = .ok (.getfield 111, 3) := by decide +kernel
theorem dX9_teach_17 : decode cX9_teach 17 = .ok (.iconst 2, 1) := by decide +kernel
theorem dX9_teach_18 : decode cX9_teach 18 = .ok (.iload_n 1, 1) := by decide +kernel
theorem dX9_teach_19 : decode cX9_teach 19 = .ok (.iadd, 1) := by decide +kernel
theorem dX9_teach_20 : decode cX9_teach 20 = .ok (.iaload, 1) := by decide +kernel
theorem dX9_teach_21 : decode cX9_teach 21 = .ok (.iload_n 2, 1) := by decide +kernel
theorem dX9_teach_22 : decode cX9_teach 22 = .ok (.ishr, 1) := by decide +kernel
theorem dX9_teach_23 : decode cX9_teach 23 = .ok (.iconst 1, 1) := by decide +kernel
theorem dX9_teach_24 : decode cX9_teach 24 = .ok (.iand, 1) := by decide +kernel
theorem dX9_teach_25 : decode cX9_teach 25 = .ok (.ifCond .eq 13, 3) := by decide +kernel
theorem dX9_teach_28 : decode cX9_teach 28 = .ok (.aload_n 0, 1) := by decide +kernel
theorem dX9_teach_29 : decode cX9_teach 29 = .ok (.getfield 35, 3) := by decide +kernel
theorem dX9_teach_32 : decode cX9_teach 32 = .ok (.iconst 1, 1) := by decide +kernel
theorem dX9_teach_33 : decode cX9_teach 33 = .ok (.invokevirtual 92, 3) := by decide +kernel
theorem dX9_teach_36 : decode cX9_teach 36 = .ok (.iconst 0, 1) := by decide +kernel
theorem dX9_teach_37 : decode cX9_teach 37 = .ok (.ireturn, 1) := by decide +kernel
theorem dX9_teach_38 : decode cX9_teach 38 = .ok (.aload_n 0, 1) := by decide +kernel
theorem dX9_teach_39 : decode cX9_teach 39 = .ok (.getfield 35, 3) := by decide +kernel
theorem dX9_teach_42 : decode cX9_teach 42 = .ok (.invokevirtual 180, 3) := by decide +kernel
theorem dX9_teach_45 : decode cX9_teach 45 = .ok (.aload_n 0, 1) := by decide +kernel
theorem dX9_teach_46 : decode cX9_teach 46 = .ok (.getfield 35, 3) := by decide +kernel
theorem dX9_teach_49 : decode cX9_teach 49 = .ok (.getfield 111, 3) := by decide +kernel
theorem dX9_teach_52 : decode cX9_teach 52 = .ok (.iconst 2, 1) := by decide +kernel
theorem dX9_teach_53 : decode cX9_teach 53 = .ok (.iload_n 1, 1) := by decide +kernel
theorem dX9_teach_54 : decode cX9_teach 54 = .ok (.iadd, 1) := by decide +kernel
theorem dX9_teach_55 : decode cX9_teach 55 = .ok (.dup2, 1) := by decide +kernel
theorem dX9_teach_56 : decode cX9_teach 56 = .ok (.iaload, 1) := by decide +kernel
theorem dX9_teach_57 : decode cX9_teach 57 = .ok (.iconst 1, 1) := by decide +kernel
theorem dX9_teach_58 : decode cX9_teach 58 = .ok (.iload_n 2, 1) := by decide +kernel
theorem dX9_teach_59 : decode cX9_teach 59 = .ok (.ishl, 1) := by decide +kernel
theorem dX9_teach_60 : decode cX9_teach 60 = .ok (.ior, 1) := by decide +kernel
theorem dX9_teach_61 : decode cX9_teach 61 = .ok (.iastore, 1) := by decide +kernel
theorem dX9_teach_62 : decode cX9_teach 62 = .ok (.iconst 1, 1) := by decide +kernel
theorem dX9_teach_63 : decode cX9_teach 63 = .ok (.ireturn, 1) := by decide +kernel
theorem dX9_load_0 : decode cX9_load 0 = .ok (.aload_n 0, 1) := by decide +kernel
theorem dX9_load_1 : decode cX9_load 1 = .ok (.iload_n 1, 1) := by decide +kernel
theorem dX9_load_2 : decode cX9_load 2 = .ok (.invokevirtual 160, 3) := by decide +kernel
theorem dX9_load_5 : decode cX9_load 5 = .ok (.aload_n 0, 1) := by decide +kernel
theorem dX9_load_6 : decode cX9_load 6 = .ok (.iload_n 2, 1) := by decide +kernel
theorem dX9_load_7 : decode cX9_load 7 = .ok (.invokevirtual 129, 3) := by decide +kernel
theorem dX9_load_10 : decode cX9_load 10 = .ok (.iload_n 3, 1) := by decide +kernel
theorem dX9_load_11 : decode cX9_load 11 = .ok (.iconst 1, 1) := by decide +kernel
theorem dX9_load_12 : decode cX9_load 12 = .ok (.if_icmp .lt 9, 3) := by decide +kernel
theorem dX9_load_15 : decode cX9_load 15 = .ok (.iload_n 3, 1) := by decide +kernel
theorem dX9_load_16 : decode cX9_load 16 = .ok (.bipush 9, 2) := by decide +kernel
theorem dX9_load_18 : decode cX9_load 18 = .ok (.if_icmp .le 13, 3) := by decide +kernel
theorem dX9_load_21 : decode cX9_load 21 = .ok (.aload_n 0, 1) := by decide +kernel
theorem dX9_load_22 : decode cX9_load 22 = .ok (.getfield 35, 3) := by decide +kernel
theorem dX9_load_25 : decode cX9_load 25 = .ok (.iconst 1, 1) := by decide +kernel
theorem dX9_load_26 : decode cX9_load 26 = .ok (.invokevirtual 92, 3) := by decide +kernel
theorem dX9_load_29 : decode cX9_load 29 = .ok (.iconst (-1), 1) := by decide +kernel
theorem dX9_load_30 : decode cX9_load 30 = .ok (.ireturn, 1) := by decide +kernel
theorem dX9_load_31 : decode cX9_load 31 = .ok (.aload_n 0, 1) := by decide +kernel
theorem dX9_load_32 : decode cX9_load 32 = .ok (.getfield 35, 3) := by decide +kernel
theorem dX9_load_35 : decode cX9_load 35 = .ok (.invokevirtual 180, 3) := by decide +kernel
theorem dX9_load_38 : decode cX9_load 38 = .ok (.bipush 14, 2) := by decide +kernel
theorem dX9_load_40 : decode cX9_load 40 = .ok (.iload_n 1, 1) := by decide +kernel
theorem dX9_load_41 : decode cX9_load 41 = .ok (.bipush 8, 2) := by decide +kernel
theorem dX9_load_43 : decode cX9_load 43 = .ok (.imul, 1) := by decide +kernel
theorem dX9_load_44 : decode cX9_load 44 = .ok (.iadd, 1) := by decide +kernel
theorem dX9_load_45 : decode cX9_load 45 = .ok (.iload_n 2, 1) := by decide +kernel
theorem dX9_load_46 : decode cX9_load 46 = .ok (.iadd, 1) := by decide +kernel
theorem dX9_load_47 : decode cX9_load 47 = .ok (.istore 4, 2) := by decide +kernel
theorem dX9_load_49 : decode cX9_load 49 = .ok (.aload_n 0, 1) := by decide +kernel
theorem dX9_load_50 : decode cX9_load 50 = .ok (.getfield 35, 3) := by decide +kernel
theorem dX9_load_53 : decode cX9_load 53 = .ok (.getfield 111, 3) := by decide +kernel
theorem dX9_load_56 : decode cX9_load 56 = .ok (.iload 4, 2) := by decide +kernel
theorem dX9_load_58 : decode cX9_load 58 = .ok (.bipush 99, 2) := by decide +kernel
theorem dX9_load_60 : decode cX9_load 60 = .ok (.aload_n 0, 1) := by decide +kernel
theorem dX9_load_61 : decode cX9_load 61 = .ok (.getfield 35, 3) := by decide +kernel
theorem dX9_load_64 : decode cX9_load 64 = .ok (.getfield 111, 3) := by decide +kernel
theorem dX9_load_67 : decode cX9_load 67 = .ok (.iload 4, 2) := by decide +kernel
theorem dX9_load_69 : decode cX9_load 69 = .ok (.iaload, 1) := by decide +kernel
theorem dX9_load_70 : decode cX9_load 70 = .ok (.iload_n 3, 1) := by decide +kernel
theorem dX9_load_71 : decode cX9_load 71 = .ok (.iadd, 1) := by decide +kernel
theorem dX9_load_72 : decode cX9_load 72 = .ok (.invokestatic 193, 3) := by decide +kernel
theorem dX9_load_75 : decode cX9_load 75 = .ok (.iastore, 1) := by decide +kernel
theorem dX9_load_76 : decode cX9_load 76 = .ok (.aload_n 0, 1) := by decide +kernel
theorem dX9_load_77 : decode cX9_load 77 = .ok (.getfield 35, 3) := by decide +kernel
theorem dX9_load_80 : decode cX9_load 80 = .ok (.getfield 111, 3) := by decide +kernel
theorem dX9_load_83 : decode cX9_load 83 = .ok (.iload 4, 2) := by decide +kernel
theorem dX9_load_85 : decode cX9_load 85 = .ok (.iaload, 1) := by decide +kernel
theorem dX9_load_86 : decode cX9_load 86 = .ok (.ireturn, 1) := by decide +kernel
theorem dX9_change_0 : decode cX9_change 0 = .ok (.aload_n 0, 1) := by decide +kernel
theorem dX9_change_1 : decode cX9_change 1 = .ok (.iload_n 1, 1) := by decide +kernel
theorem dX9_change_2 : decode cX9_change 2 = .ok (.invokevirtual 160, 3) := by decide +kernel
theorem dX9_change_5 : decode cX9_change 5 = .ok (.aload_n 0, 1) := by decide +kernel
theorem dX9_change_6 : decode cX9_change 6 = .ok (.iload_n 3, 1) := by decide +kernel
theorem dX9_change_7 : decode cX9_change 7 = .ok (.invokevirtual 129, 3) := by decide +kernel
theorem dX9_change_10 : decode cX9_change 10 = .ok (.iload_n 2, 1) := by decide +kernel
theorem dX9_change_11 : decode cX9_change 11 = .ok (.ifCond .lt 16, 3) := by decide +kernel
theorem dX9_change_14 : decode cX9_change 14 = .ok (.iload_n 2, 1) := by decide +kernel
theorem dX9_change_15 : decode cX9_change 15 = .ok (.aload_n 0, 1) := by decide +kernel
theorem dX9_change_16 : decode cX9_change 16 = .ok (.getfield 16, 3) := by decide +kernel
theorem dX9_change_19 : decode cX9_change 19 = .ok (.getfield 163, 3) := by decide +kernel
theorem dX9_change_22 : decode cX9_change 22 = .ok (.iload_n 1, 1) := by decide +kernel
theorem dX9_change_23 : decode cX9_change 23 = .ok (.iaload, 1) := by decide +kernel
theorem dX9_change_24 : decode cX9_change 24 = .ok (.if_icmp .lt 13, 3) := by decide +kernel
theorem dX9_change_27 : decode cX9_change 27 = .ok (.aload_n 0, 1) := by decide +kernel
theorem dX9_change_28 : decode cX9_change 28 = .ok (.getfield 35, 3) := by decide +kernel
theorem dX9_change_31 : decode cX9_change 31 = .ok (.iconst 1, 1) := by decide +kernel
theorem dX9_change_32 : decode cX9_change 32 = .ok (.invokevirtual 92, 3) := by decide +kernel
theorem dX9_change_35 : decode cX9_change 35 = .ok (.iconst (-1), 1) := by decide +kernel
theorem dX9_change_36 : decode cX9_change 36 = .ok (.ireturn, 1) := by decide +kernel
theorem dX9_change_37 : decode cX9_change 37 = .ok (.aload_n 0, 1) := by decide +kernel
theorem dX9_change_38 : decode cX9_change 38 = .ok (.getfield 35, 3) := by decide +kernel
theorem dX9_change_41 : decode cX9_change 41 = .ok (.invokevirtual 180, 3) := by decide +kernel
theorem dX9_change_44 : decode cX9_change 44 = .ok (.bipush 62, 2) := by decide +kernel
theorem dX9_change_46 : decode cX9_change 46 = .ok (.iload_n 1, 1) := by decide +kernel
theorem dX9_change_47 : decode cX9_change 47 = .ok (.bipush 6, 2) := by decide +kernel
theorem dX9_change_49 : decode cX9_change 49 = .ok (.imul, 1) := by decide +kernel
theorem dX9_change_50 : decode cX9_change 50 = .ok (.iadd, 1) := by decide +kernel
theorem dX9_change_51 : decode cX9_change 51 = .ok (.iload_n 2, 1) := by decide +kernel
theorem dX9_change_52 : decode cX9_change 52 = .ok (.iadd, 1) := by decide +kernel
theorem dX9_change_53 : decode cX9_change 53 = .ok (.istore 4, 2) := by decide +kernel
theorem dX9_change_55 : decode cX9_change 55 = .ok (.aload_n 0, 1) := by decide +kernel
theorem dX9_change_56 : decode cX9_change 56 = .ok (.getfield 35, 3) := by decide +kernel
theorem dX9_change_59 : decode cX9_change 59 = .ok (.getfield 111, 3) := by decide +kernel
theorem dX9_change_62 : decode cX9_change 62 = .ok (.iload 4, 2) := by decide +kernel
theorem dX9_change_64 : decode cX9_change 64 = .ok (.iaload, 1) := by decide +kernel
theorem dX9_change_65 : decode cX9_change 65 = .ok (.istore 5, 2) := by decide +kernel
theorem dX9_change_67 : decode cX9_change 67 = .ok (.aload_n 0, 1) := by decide +kernel
theorem dX9_change_68 : decode cX9_change 68 = .ok (.getfield 35, 3) := by decide +kernel
theorem dX9_change_71 : decode cX9_change 71 = .ok (.getfield 111, 3) := by decide +kernel
theorem dX9_change_74 : decode cX9_change 74 = .ok (.iload 4, 2) := by decide +kernel
theorem dX9_change_76 : decode cX9_change 76 = .ok (.iload_n 3, 1) := by decide +kernel
theorem dX9_change_77 : decode cX9_change 77 = .ok (.iastore, 1) := by decide +kernel
theorem dX9_change_78 : decode cX9_change 78 = .ok (.iload 5, 2) := by decide +kernel
theorem dX9_change_80 : decode cX9_change 80 = .ok (.ireturn, 1) := by decide +kernel
theorem dX9_sell_0 : decode cX9_sell 0 = .ok (.aload_n 0, 1) := by decide +kernel
theorem dX9_sell_1 : decode cX9_sell 1 = .ok (.iload_n 1, 1) := by decide +kernel
theorem dX9_sell_2 : decode cX9_sell 2 = .ok (.invokevirtual 129, 3) := by decide +kernel
theorem dX9_sell_5 : decode cX9_sell 5 = .ok (.iload_n 2, 1) := by decide +kernel
theorem dX9_sell_6 : decode cX9_sell 6 = .ok (.iconst (-1), 1) := by decide +kernel
theorem dX9_sell_7 : decode cX9_sell 7 = .ok (.if_icmp .eq 8, 3) := by decide +kernel
theorem dX9_sell_10 : decode cX9_sell 10 = .ok (.aload_n 0, 1) := by decide +kernel
theorem dX9_sell_11 : decode cX9_sell 11 = .ok (.iload_n 2, 1) := by decide +kernel
theorem dX9_sell_12 : decode cX9_sell 12 = .ok (.invokevirtual 160, 3) := by decide +kernel
theorem dX9_sell_15 : decode cX9_sell 15 = .ok (.aload_n 0, 1) := by decide +kernel
theorem dX9_sell_16 : decode cX9_sell 16 = .ok (.getfield 35, 3) := by decide +kernel
theorem dX9_sell_19 : decode cX9_sell 19 = .ok (.getfield 111, 3) := by decide +kernel
theorem dX9_sell_22 : decode cX9_sell 22 = .ok (.bipush 98, 2) := by decide +kernel
theorem dX9_sell_24 : decode cX9_sell 24 = .ok (.iload_n 1, 1) := by decide +kernel
theorem dX9_sell_25 : decode cX9_sell 25 = .ok (.iadd, 1) := by decide +kernel
theorem dX9_sell_26 : decode cX9_sell 26 = .ok (.iaload, 1) := by decide +kernel
theorem dX9_sell_27 : decode cX9_sell 27 = .ok (.iload_n 2, 1) := by decide +kernel
theorem dX9_sell_28 : decode cX9_sell 28 = .ok (.if_icmp .ne 13, 3) := by decide +kernel
theorem dX9_sell_31 : decode cX9_sell 31 = .ok (.aload_n 0, 1) := by decide +kernel
theorem dX9_sell_32 : decode cX9_sell 32 = .ok (.getfield 35, 3) := by decide +kernel
theorem dX9_sell_35 : decode cX9_sell 35 = .ok (.iconst 1, 1) := by decide +kernel
theorem dX9_sell_36 : decode cX9_sell 36 = .ok (.invokevirtual 92, 3) := by decide +kernel
theorem dX9_sell_39 : decode cX9_sell 39 = .ok (.iconst 0, 1) := by decide +kernel
theorem dX9_sell_40 : decode cX9_sell 40 = .ok (.ireturn, 1) := by decide +kernel
theorem dX9_sell_41 : decode cX9_sell 41 = .ok (.aload_n 0, 1) := by decide +kernel
theorem dX9_sell_42 : decode cX9_sell 42 = .ok (.getfield 35, 3) := by decide +kernel
theorem dX9_sell_45 : decode cX9_sell 45 = .ok (.invokevirtual 180, 3) := by decide +kernel
theorem dX9_sell_48 : decode cX9_sell 48 = .ok (.aload_n 0, 1) := by decide +kernel
theorem dX9_sell_49 : decode cX9_sell 49 = .ok (.getfield 35, 3) := by decide +kernel
theorem dX9_sell_52 : decode cX9_sell 52 = .ok (.getfield 111, 3) := by decide +kernel
theorem dX9_sell_55 : decode cX9_sell 55 = .ok (.bipush 98, 2) := by decide +kernel
theorem dX9_sell_57 : decode cX9_sell 57 = .ok (.iload_n 1, 1) := by decide +kernel
theorem dX9_sell_58 : decode cX9_sell 58 = .ok (.iadd, 1) := by decide +kernel
theorem dX9_sell_59 : decode cX9_sell 59 = .ok (.iload_n 2, 1) := by decide +kernel
theorem dX9_sell_60 : decode cX9_sell 60 = .ok (.iastore, 1) := by decide +kernel
theorem dX9_sell_61 : decode cX9_sell 61 = .ok (.iconst 1, 1) := by decide +kernel
theorem dX9_sell_62 : decode cX9_sell 62 = .ok (.ireturn, 1) := by decide +kernel
theorem dX9_undo_0 : decode cX9_undo 0 = .ok (.aload_n 0, 1) := by decide +kernel
theorem dX9_undo_1 : decode cX9_undo 1 = .ok (.getfield 35, 3) := by decide +kernel
theorem dX9_undo_4 : decode cX9_undo 4 = .ok (.invokevirtual 199, 3) := by decide +kernel
theorem dX9_undo_7 : decode cX9_undo 7 = .ok (.ifCond .eq 13, 3) := by decide +kernel
theorem dX9_undo_10 : decode cX9_undo 10 = .ok (.aload_n 0, 1) := by decide +kernel
theorem dX9_undo_11 : decode cX9_undo 11 = .ok (.getfield 35, 3) := by decide +kernel
theorem dX9_undo_14 : decode cX9_undo 14 = .ok (.getfield 115, 3) := by decide +kernel
theorem dX9_undo_17 : decode cX9_undo 17 = .ok (.goto 4, 3) := by decide +kernel
theorem dX9_undo_20 : decode cX9_undo 20 = .ok (.iconst (-1), 1) := by decide +kernel
theorem dX9_undo_21 : decode cX9_undo 21 = .ok (.ireturn, 1) := by decide +kernel
theorem dX9_sung_0 : decode cX9_sung 0 = .ok (.aload_n 0, 1) := by decide +kernel
theorem dX9_sung_1 : decode cX9_sung 1 = .ok (.iload_n 1, 1) := by decide +kernel
theorem dX9_sung_2 : decode cX9_sung 2 = .ok (.invokevirtual 160, 3) := by decide +kernel
theorem dX9_sung_5 : decode cX9_sung 5 = .ok (.aload_n 0, 1) := by decide +kernel
theorem dX9_sung_6 : decode cX9_sung 6 = .ok (.iload_n 2, 1) := by decide +kernel
theorem dX9_sung_7 : decode cX9_sung 7 = .ok (.iconst 1, 1) := by decide +kernel
theorem dX9_sung_8 : decode cX9_sung 8 = .ok (.invokevirtual 203, 3) := by decide +kernel
theorem dX9_sung_11 : decode cX9_sung 11 = .ok (.aload_n 0, 1) := by decide +kernel
theorem dX9_sung_12 : decode cX9_sung 12 = .ok (.getfield 47, 3) := by decide +kernel
theorem dX9_sung_15 : decode cX9_sung 15 = .ok (.aload_n 0, 1) := by decide +kernel
theorem dX9_sung_16 : decode cX9_sung 16 = .ok (.getfield 16, 3) := by decide +kernel
theorem dX9_sung_19 : decode cX9_sung 19 = .ok (.aload_n 0, 1) := by decide +kernel
theorem dX9_sung_20 : decode cX9_sung 20 = .ok (.getfield 35, 3) := by decide +kernel
theorem dX9_sung_23 : decode cX9_sung 23 = .ok (.getfield 111, 3) := by decide +kernel
theorem dX9_sung_26 : decode cX9_sung 26 = .ok (.invokevirtual 166, 3) := by decide +kernel
theorem dX9_sung_29 : decode cX9_sung 29 = .ok (.aload_n 0, 1) := by decide +kernel
theorem dX9_sung_30 : decode cX9_sung 30 = .ok (.getfield 47, 3) := by decide +kernel
theorem dX9_sung_33 : decode cX9_sung 33 = .ok (.iload_n 2, 1) := by decide +kernel
theorem dX9_sung_34 : decode cX9_sung 34 = .ok (.invokevirtual 183, 3) := by decide +kernel
theorem dX9_sung_37 : decode cX9_sung 37 = .ok (.aload_n 0, 1) := by decide +kernel
theorem dX9_sung_38 : decode cX9_sung 38 = .ok (.getfield 47, 3) := by decide +kernel
theorem dX9_sung_41 : decode cX9_sung 41 = .ok (.getfield 207, 3) := by decide +kernel
theorem dX9_sung_44 : decode cX9_sung 44 = .ok (.iload_n 1, 1) := by decide +kernel
theorem dX9_sung_45 : decode cX9_sung 45 = .ok (.iaload, 1) := by decide +kernel
theorem dX9_sung_46 : decode cX9_sung 46 = .ok (.ireturn, 1) := by decide +kernel
theorem dX9_learnt_0 : decode cX9_learnt 0 = .ok (.aload_n 0, 1) := by decide +kernel
theorem dX9_learnt_1 : decode cX9_learnt 1 = .ok (.iload_n 1, 1) := by decide +kernel
theorem dX9_learnt_2 : decode cX9_learnt 2 = .ok (.invokevirtual 160, 3) := by decide +kernel
theorem dX9_learnt_5 : decode cX9_learnt 5 = .ok (.aload_n 0, 1) := by decide +kernel
theorem dX9_learnt_6 : decode cX9_learnt 6 = .ok (.iload_n 2, 1) := by decide +kernel
theorem dX9_learnt_7 : decode cX9_learnt 7 = .ok (.invokevirtual 129, 3) := by decide +kernel
theorem dX9_learnt_10 : decode cX9_learnt 10 = .ok (.aload_n 0, 1) := by decide +kernel
theorem dX9_learnt_11 : decode cX9_learnt 11 = .ok (.iconst 1, 1) := by decide +kernel
theorem dX9_learnt_12 : decode cX9_learnt 12 = .ok (.iload_n 1, 1) := by decide +kernel
theorem dX9_learnt_13 : decode cX9_learnt 13 = .ok (.ishl, 1) := by decide +kernel
theorem dX9_learnt_14 : decode cX9_learnt 14 = .ok (.iload_n 2, 1) := by decide +kernel
theorem dX9_learnt_15 : decode cX9_learnt 15 = .ok (.invokevirtual 210, 3) := by decide +kernel
theorem dX9_learnt_18 : decode cX9_learnt 18 = .ok (.ireturn, 1) := by decide +kernel
theorem dX9_behindHowMany_0 : decode cX9_behindHowMany 0 = .ok (.aload_n 0, 1) := by decide +kernel
theorem dX9_behindHowMany_1 : decode cX9_behindHowMany 1 = .ok (.getfield 47, 3) := by decide +kernel
theorem dX9_behindHowMany_4 : decode cX9_behindHowMany 4 = .ok (.aload_n 0, 1) := by decide +kernel
theorem dX9_behindHowMany_5 : decode cX9_behindHowMany 5 = .ok (.getfield 16, 3) := by decide +kernel
theorem dX9_behindHowMany_8 : decode cX9_behindHowMany 8 = .ok (.aload_n 0, 1) := by decide +kernel
theorem dX9_behindHowMany_9 : decode cX9_behindHowMany 9 = .ok (.getfield 35, 3) := by decide +kernel
theorem dX9_behindHowMany_12 : decode cX9_behindHowMany 12 = .ok (.getfield 111, 3) := by decide +kernel
theorem dX9_behindHowMany_15 : decode cX9_behindHowMany 15 = .ok (.invokevirtual 166, 3) := by decide +kernel
theorem dX9_behindHowMany_18 : decode cX9_behindHowMany 18 = .ok (.iconst 0, 1) := by decide +kernel
theorem dX9_behindHowMany_19 : decode cX9_behindHowMany 19 = .ok (.istore_n 3, 1) := by decide +kernel
theorem dX9_behindHowMany_20 : decode cX9_behindHowMany 20 = .ok (.iload_n 3, 1) := by decide +kernel
theorem dX9_behindHowMany_21 : decode cX9_behindHowMany 21 = .ok (.bipush 60, 2) := by decide +kernel
theorem dX9_behindHowMany_23 : decode cX9_behindHowMany 23 = .ok (.if_icmp .gt 31, 3) := by decide +kernel
theorem dX9_behindHowMany_26 : decode cX9_behindHowMany 26 = .ok (.aload_n 0, 1) := by decide +kernel
theorem dX9_behindHowMany_27 : decode cX9_behindHowMany 27 = .ok (.getfield 47, 3) := by decide +kernel
theorem dX9_behindHowMany_30 : decode cX9_behindHowMany 30 = .ok (.iload_n 1, 1) := by decide +kernel
theorem dX9_behindHowMany_31 : decode cX9_behindHowMany 31 = .ok (.iload_n 2, 1) := by decide +kernel
theorem dX9_behindHowMany_32 : decode cX9_behindHowMany 32 = .ok (.invokevirtual 213, 3) := by decide +kernel
theorem dX9_behindHowMany_35 : decode cX9_behindHowMany 35 = .ok (.ifCond .eq 5, 3) := by decide +kernel
theorem dX9_behindHowMany_38 : decode cX9_behindHowMany 38 = .ok (.iload_n 3, 1) := by decide +kernel
theorem dX9_behindHowMany_39 : decode cX9_behindHowMany 39 = .ok (.ireturn, 1) := by decide +kernel
theorem dX9_behindHowMany_40 : decode cX9_behindHowMany 40 = .ok (.aload_n 0, 1) := by decide +kernel
theorem dX9_behindHowMany_41 : decode cX9_behindHowMany 41 = .ok (.getfield 47, 3) := by decide +kernel
theorem dX9_behindHowMany_44 : decode cX9_behindHowMany 44 = .ok (.iconst 1, 1) := by decide +kernel
theorem dX9_behindHowMany_45 : decode cX9_behindHowMany 45 = .ok (.invokevirtual 183, 3) := by decide +kernel
theorem dX9_behindHowMany_48 : decode cX9_behindHowMany 48 = .ok (.iinc 3 1, 3) := by decide +kernel
theorem dX9_behindHowMany_51 : decode cX9_behindHowMany 51 = .ok (.goto (-31), 3) := by decide +kernel
theorem dX9_behindHowMany_54 : decode cX9_behindHowMany 54 = .ok (.iconst (-1), 1) := by decide +kernel
theorem dX9_behindHowMany_55 : decode cX9_behindHowMany 55 = .ok (.ireturn, 1) := by decide +kernel
theorem dX9_purse_0 : decode cX9_purse 0 = .ok (.aload_n 0, 1) := by decide +kernel
theorem dX9_purse_1 : decode cX9_purse 1 = .ok (.iload_n 1, 1) := by decide +kernel
theorem dX9_purse_2 : decode cX9_purse 2 = .ok (.invokevirtual 160, 3) := by decide +kernel
theorem dX9_purse_5 : decode cX9_purse 5 = .ok (.aload_n 0, 1) := by decide +kernel
theorem dX9_purse_6 : decode cX9_purse 6 = .ok (.iload_n 2, 1) := by decide +kernel
theorem dX9_purse_7 : decode cX9_purse 7 = .ok (.iconst 0, 1) := by decide +kernel
theorem dX9_purse_8 : decode cX9_purse 8 = .ok (.invokevirtual 203, 3) := by decide +kernel
theorem dX9_purse_11 : decode cX9_purse 11 = .ok (.aload_n 0, 1) := by decide +kernel
theorem dX9_purse_12 : decode cX9_purse 12 = .ok (.getfield 47, 3) := by decide +kernel
theorem dX9_purse_15 : decode cX9_purse 15 = .ok (.aload_n 0, 1) := by decide +kernel
theorem dX9_purse_16 : decode cX9_purse 16 = .ok (.getfield 16, 3) := by decide +kernel
theorem dX9_purse_19 : decode cX9_purse 19 = .ok (.aload_n 0, 1) := by decide +kernel
theorem dX9_purse_20 : decode cX9_purse 20 = .ok (.getfield 35, 3) := by decide +kernel
theorem dX9_purse_23 : decode cX9_purse 23 = .ok (.getfield 111, 3) := by decide +kernel
theorem dX9_purse_26 : decode cX9_purse 26 = .ok (.invokevirtual 166, 3) := by decide +kernel
theorem dX9_purse_29 : decode cX9_purse 29 = .ok (.aload_n 0, 1) := by decide +kernel
theorem dX9_purse_30 : decode cX9_purse 30 = .ok (.getfield 47, 3) := by decide +kernel
theorem dX9_purse_33 : decode cX9_purse 33 = .ok (.iload_n 2, 1) := by decide +kernel
theorem dX9_purse_34 : decode cX9_purse 34 = .ok (.invokevirtual 183, 3) := by decide +kernel
theorem dX9_purse_37 : decode cX9_purse 37 = .ok (.aload_n 0, 1) := by decide +kernel
theorem dX9_purse_38 : decode cX9_purse 38 = .ok (.getfield 47, 3) := by decide +kernel
theorem dX9_purse_41 : decode cX9_purse 41 = .ok (.getfield 186, 3) := by decide +kernel
theorem dX9_purse_44 : decode cX9_purse 44 = .ok (.bipush 8, 2) := by decide +kernel
theorem dX9_purse_46 : decode cX9_purse 46 = .ok (.iload_n 1, 1) := by decide +kernel
theorem dX9_purse_47 : decode cX9_purse 47 = .ok (.iadd, 1) := by decide +kernel
theorem dX9_purse_48 : decode cX9_purse 48 = .ok (.iaload, 1) := by decide +kernel
theorem dX9_purse_49 : decode cX9_purse 49 = .ok (.ireturn, 1) := by decide +kernel
theorem dX9_trespasses_0 : decode cX9_trespasses 0 = .ok (.aload_n 0, 1) := by decide +kernel
theorem dX9_trespasses_1 : decode cX9_trespasses 1 = .ok (.iload_n 1, 1) := by decide +kernel
theorem dX9_trespasses_2 : decode cX9_trespasses 2 = .ok (.invokevirtual 160, 3) := by decide +kernel
theorem dX9_trespasses_5 : decode cX9_trespasses 5 = .ok (.aload_n 0, 1) := by decide +kernel
theorem dX9_trespasses_6 : decode cX9_trespasses 6 = .ok (.iload_n 3, 1) := by decide +kernel
theorem dX9_trespasses_7 : decode cX9_trespasses 7 = .ok (.iconst 1, 1) := by decide +kernel
theorem dX9_trespasses_8 : decode cX9_trespasses 8 = .ok (.invokevirtual 217, 3) := by decide +kernel
theorem dX9_trespasses_11 : decode cX9_trespasses 11 = .ok (.aload_n 0, 1) := by decide +kernel
theorem dX9_trespasses_12 : decode cX9_trespasses 12 = .ok (.iload_n 2, 1) := by decide +kernel
theorem dX9_trespasses_13 : decode cX9_trespasses 13 = .ok (.iconst 0, 1) := by decide +kernel
theorem dX9_trespasses_14 : decode cX9_trespasses 14 = .ok (.invokevirtual 203, 3) := by decide +kernel
theorem dX9_trespasses_17 : decode cX9_trespasses 17 = .ok (.aload_n 0, 1) := by decide +kernel
theorem dX9_trespasses_18 : decode cX9_trespasses 18 = .ok (.getfield 47, 3) := by decide +kernel
theorem dX9_trespasses_21 : decode cX9_trespasses 21 = .ok (.aload_n 0, 1) := by decide +kernel
theorem dX9_trespasses_22 : decode cX9_trespasses 22 = .ok (.getfield 16, 3) := by decide +kernel
theorem dX9_trespasses_25 : decode cX9_trespasses 25 = .ok (.aload_n 0, 1) := by decide +kernel
theorem dX9_trespasses_26 : decode cX9_trespasses 26 = .ok (.getfield 35, 3) := by decide +kernel
theorem dX9_trespasses_29 : decode cX9_trespasses 29 = .ok (.getfield 111, 3) := by decide +kernel
theorem dX9_trespasses_32 : decode cX9_trespasses 32 = .ok (.invokevirtual 166, 3) := by decide +kernel
theorem dX9_trespasses_35 : decode cX9_trespasses 35 = .ok (.aload_n 0, 1) := by decide +kernel
theorem dX9_trespasses_36 : decode cX9_trespasses 36 = .ok (.getfield 47, 3) := by decide +kernel
theorem dX9_trespasses_39 : decode cX9_trespasses 39 = .ok (.iload_n 2, 1) := by decide +kernel
theorem dX9_trespasses_40 : decode cX9_trespasses 40 = .ok (.invokevirtual 183, 3) := by decide +kernel
theorem dX9_trespasses_43 : decode cX9_trespasses 43 = .ok (.iload_n 3, 1) := by decide +kernel
theorem dX9_trespasses_44 : decode cX9_trespasses 44 = .ok (.ifCond .ne 15, 3) := by decide +kernel
theorem dX9_trespasses_47 : decode cX9_trespasses 47 = .ok (.aload_n 0, 1) := by decide +kernel
theorem dX9_trespasses_48 : decode cX9_trespasses 48 = .ok (.getfield 47, 3) := by decide +kernel
theorem dX9_trespasses_51 : decode cX9_trespasses 51 = .ok (.getfield 220, 3) := by decide +kernel
theorem dX9_trespasses_54 : decode cX9_trespasses 54 = .ok (.iload_n 1, 1) := by decide +kernel
theorem dX9_trespasses_55 : decode cX9_trespasses 55 = .ok (.iaload, 1) := by decide +kernel
theorem dX9_trespasses_56 : decode cX9_trespasses 56 = .ok (.goto 11, 3) := by decide +kernel
theorem dX9_trespasses_59 : decode cX9_trespasses 59 = .ok (.aload_n 0, 1) := by decide +kernel
theorem dX9_trespasses_60 : decode cX9_trespasses 60 = .ok (.getfield 47, 3) := by decide +kernel
theorem dX9_trespasses_63 : decode cX9_trespasses 63 = .ok (.iload_n 1, 1) := by decide +kernel
theorem dX9_trespasses_64 : decode cX9_trespasses 64 = .ok (.invokevirtual 223, 3) := by decide +kernel
theorem dX9_trespasses_67 : decode cX9_trespasses 67 = .ok (.ireturn, 1) := by decide +kernel
theorem dX9_allKnow_0 : decode cX9_allKnow 0 = .ok (.aload_n 0, 1) := by decide +kernel
theorem dX9_allKnow_1 : decode cX9_allKnow 1 = .ok (.iload_n 1, 1) := by decide +kernel
theorem dX9_allKnow_2 : decode cX9_allKnow 2 = .ok (.invokevirtual 129, 3) := by decide +kernel
theorem dX9_allKnow_5 : decode cX9_allKnow 5 = .ok (.aload_n 0, 1) := by decide +kernel
theorem dX9_allKnow_6 : decode cX9_allKnow 6 = .ok (.iconst 1, 1) := by decide +kernel
theorem dX9_allKnow_7 : decode cX9_allKnow 7 = .ok (.aload_n 0, 1) := by decide +kernel
theorem dX9_allKnow_8 : decode cX9_allKnow 8 = .ok (.getfield 16, 3) := by decide +kernel
theorem dX9_allKnow_11 : decode cX9_allKnow 11 = .ok (.getfield 108, 3) := by decide +kernel
theorem dX9_allKnow_14 : decode cX9_allKnow 14 = .ok (.ishl, 1) := by decide +kernel
theorem dX9_allKnow_15 : decode cX9_allKnow 15 = .ok (.iconst 1, 1) := by decide +kernel
theorem dX9_allKnow_16 : decode cX9_allKnow 16 = .ok (.isub, 1) := by decide +kernel
theorem dX9_allKnow_17 : decode cX9_allKnow 17 = .ok (.iload_n 1, 1) := by decide +kernel
theorem dX9_allKnow_18 : decode cX9_allKnow 18 = .ok (.invokevirtual 210, 3) := by decide +kernel
theorem dX9_allKnow_21 : decode cX9_allKnow 21 = .ok (.ireturn, 1) := by decide +kernel
theorem dX9_lost_0 : decode cX9_lost 0 = .ok (.aload_n 0, 1) := by decide +kernel
theorem dX9_lost_1 : decode cX9_lost 1 = .ok (.iload_n 1, 1) := by decide +kernel
theorem dX9_lost_2 : decode cX9_lost 2 = .ok (.invokevirtual 160, 3) := by decide +kernel
theorem dX9_lost_5 : decode cX9_lost 5 = .ok (.aload_n 0, 1) := by decide +kernel
theorem dX9_lost_6 : decode cX9_lost 6 = .ok (.getfield 47, 3) := by decide +kernel
theorem dX9_lost_9 : decode cX9_lost 9 = .ok (.aload_n 0, 1) := by decide +kernel
theorem dX9_lost_10 : decode cX9_lost 10 = .ok (.getfield 16, 3) := by decide +kernel
theorem dX9_lost_13 : decode cX9_lost 13 = .ok (.aload_n 0, 1) := by decide +kernel
theorem dX9_lost_14 : decode cX9_lost 14 = .ok (.getfield 35, 3) := by decide +kernel
theorem dX9_lost_17 : decode cX9_lost 17 = .ok (.getfield 111, 3) := by decide +kernel
theorem dX9_lost_20 : decode cX9_lost 20 = .ok (.invokevirtual 166, 3) := by decide +kernel
theorem dX9_lost_23 : decode cX9_lost 23 = .ok (.aload_n 0, 1) := by decide +kernel
theorem dX9_lost_24 : decode cX9_lost 24 = .ok (.getfield 47, 3) := by decide +kernel
theorem dX9_lost_27 : decode cX9_lost 27 = .ok (.iload_n 1, 1) := by decide +kernel
theorem dX9_lost_28 : decode cX9_lost 28 = .ok (.invokevirtual 226, 3) := by decide +kernel
theorem dX9_lost_31 : decode cX9_lost 31 = .ok (.istore_n 2, 1) := by decide +kernel
theorem dX9_lost_32 : decode cX9_lost 32 = .ok (.aload_n 0, 1) := by decide +kernel
theorem dX9_lost_33 : decode cX9_lost 33 = .ok (.getfield 47, 3) := by decide +kernel
theorem dX9_lost_36 : decode cX9_lost 36 = .ok (.bipush 30, 2) := by decide +kernel
theorem dX9_lost_38 : decode cX9_lost 38 = .ok (.invokevirtual 183, 3) := by decide +kernel
theorem dX9_lost_41 : decode cX9_lost 41 = .ok (.aload_n 0, 1) := by decide +kernel
theorem dX9_lost_42 : decode cX9_lost 42 = .ok (.getfield 47, 3) := by decide +kernel
theorem dX9_lost_45 : decode cX9_lost 45 = .ok (.iload_n 1, 1) := by decide +kernel
theorem dX9_lost_46 : decode cX9_lost 46 = .ok (.invokevirtual 226, 3) := by decide +kernel
theorem dX9_lost_49 : decode cX9_lost 49 = .ok (.iload_n 2, 1) := by decide +kernel
theorem dX9_lost_50 : decode cX9_lost 50 = .ok (.iconst (-1), 1) := by decide +kernel
theorem dX9_lost_51 : decode cX9_lost 51 = .ok (.ixor, 1) := by decide +kernel
theorem dX9_lost_52 : decode cX9_lost 52 = .ok (.iand, 1) := by decide +kernel
theorem dX9_lost_53 : decode cX9_lost 53 = .ok (.ireturn, 1) := by decide +kernel
theorem dX9_needed_0 : decode cX9_needed 0 = .ok (.aload_n 0, 1) := by decide +kernel
theorem dX9_needed_1 : decode cX9_needed 1 = .ok (.iload_n 1, 1) := by decide +kernel
theorem dX9_needed_2 : decode cX9_needed 2 = .ok (.invokevirtual 160, 3) := by decide +kernel
theorem dX9_needed_5 : decode cX9_needed 5 = .ok (.aload_n 0, 1) := by decide +kernel
theorem dX9_needed_6 : decode cX9_needed 6 = .ok (.iload_n 2, 1) := by decide +kernel
theorem dX9_needed_7 : decode cX9_needed 7 = .ok (.invokevirtual 129, 3) := by decide +kernel
theorem dX9_needed_10 : decode cX9_needed 10 = .ok (.aload_n 0, 1) := by decide +kernel
theorem dX9_needed_11 : decode cX9_needed 11 = .ok (.iload_n 3, 1) := by decide +kernel
theorem dX9_needed_12 : decode cX9_needed 12 = .ok (.iconst 1, 1) := by decide +kernel
theorem dX9_needed_13 : decode cX9_needed 13 = .ok (.invokevirtual 203, 3) := by decide +kernel
theorem dX9_needed_16 : decode cX9_needed 16 = .ok (.aload_n 0, 1) := by decide +kernel
theorem dX9_needed_17 : decode cX9_needed 17 = .ok (.getfield 35, 3) := by decide +kernel
theorem dX9_needed_20 : decode cX9_needed 20 = .ok (.getfield 111, 3) := by decide +kernel
theorem dX9_needed_23 : decode cX9_needed 23 = .ok (.bipush 98, 2) := by decide +kernel
theorem dX9_needed_25 : decode cX9_needed 25 = .ok (.iload_n 2, 1) := by decide +kernel
theorem dX9_needed_26 : decode cX9_needed 26 = .ok (.iadd, 1) := by decide +kernel
theorem dX9_needed_27 : decode cX9_needed 27 = .ok (.iaload, 1) := by decide +kernel
theorem dX9_needed_28 : decode cX9_needed 28 = .ok (.istore 4, 2) := by decide +kernel
theorem dX9_needed_30 : decode cX9_needed 30 = .ok (.iload 4, 2) := by decide +kernel
theorem dX9_needed_32 : decode cX9_needed 32 = .ok (.iconst (-1), 1) := by decide +kernel
theorem dX9_needed_33 : decode cX9_needed 33 = .ok (.if_icmp .eq 9, 3) := by decide +kernel
theorem dX9_needed_36 : decode cX9_needed 36 = .ok (.iload 4, 2) := by decide +kernel
theorem dX9_needed_38 : decode cX9_needed 38 = .ok (.iload_n 1, 1) := by decide +kernel
theorem dX9_needed_39 : decode cX9_needed 39 = .ok (.if_icmp .ne 5, 3) := by decide +kernel
theorem dX9_needed_42 : decode cX9_needed 42 = .ok (.iconst 0, 1) := by decide +kernel
theorem dX9_needed_43 : decode cX9_needed 43 = .ok (.ireturn, 1) := by decide +kernel
theorem dX9_needed_44 : decode cX9_needed 44 = .ok (.aload_n 0, 1) := by decide +kernel
theorem dX9_needed_45 : decode cX9_needed 45 = .ok (.getfield 47, 3) := by decide +kernel
theorem dX9_needed_48 : decode cX9_needed 48 = .ok (.aload_n 0, 1) := by decide +kernel
theorem dX9_needed_49 : decode cX9_needed 49 = .ok (.getfield 16, 3) := by decide +kernel
theorem dX9_needed_52 : decode cX9_needed 52 = .ok (.aload_n 0, 1) := by decide +kernel
theorem dX9_needed_53 : decode cX9_needed 53 = .ok (.getfield 35, 3) := by decide +kernel
theorem dX9_needed_56 : decode cX9_needed 56 = .ok (.getfield 111, 3) := by decide +kernel
theorem dX9_needed_59 : decode cX9_needed 59 = .ok (.invokevirtual 166, 3) := by decide +kernel
theorem dX9_needed_62 : decode cX9_needed 62 = .ok (.bipush 14, 2) := by decide +kernel
theorem dX9_needed_64 : decode cX9_needed 64 = .ok (.iload_n 1, 1) := by decide +kernel
theorem dX9_needed_65 : decode cX9_needed 65 = .ok (.bipush 8, 2) := by decide +kernel
theorem dX9_needed_67 : decode cX9_needed 67 = .ok (.imul, 1) := by decide +kernel
theorem dX9_needed_68 : decode cX9_needed 68 = .ok (.iadd, 1) := by decide +kernel
theorem dX9_needed_69 : decode cX9_needed 69 = .ok (.iload_n 2, 1) := by decide +kernel
theorem dX9_needed_70 : decode cX9_needed 70 = .ok (.iadd, 1) := by decide +kernel
theorem dX9_needed_71 : decode cX9_needed 71 = .ok (.istore 5, 2) := by decide +kernel
theorem dX9_needed_73 : decode cX9_needed 73 = .ok (.aload_n 0, 1) := by decide +kernel
theorem dX9_needed_74 : decode cX9_needed 74 = .ok (.getfield 47, 3) := by decide +kernel
theorem dX9_needed_77 : decode cX9_needed 77 = .ok (.getfield 186, 3) := by decide +kernel
theorem dX9_needed_80 : decode cX9_needed 80 = .ok (.iload 5, 2) := by decide +kernel
theorem dX9_needed_82 : decode cX9_needed 82 = .ok (.bipush 99, 2) := by decide +kernel
theorem dX9_needed_84 : decode cX9_needed 84 = .ok (.iastore, 1) := by decide +kernel
theorem dX9_needed_85 : decode cX9_needed 85 = .ok (.aload_n 0, 1) := by decide +kernel
theorem dX9_needed_86 : decode cX9_needed 86 = .ok (.getfield 47, 3) := by decide +kernel
theorem dX9_needed_89 : decode cX9_needed 89 = .ok (.iload_n 3, 1) := by decide +kernel
theorem dX9_needed_90 : decode cX9_needed 90 = .ok (.invokevirtual 183, 3) := by decide +kernel
theorem dX9_needed_93 : decode cX9_needed 93 = .ok (.bipush 99, 2) := by decide +kernel
theorem dX9_needed_95 : decode cX9_needed 95 = .ok (.aload_n 0, 1) := by decide +kernel
theorem dX9_needed_96 : decode cX9_needed 96 = .ok (.getfield 47, 3) := by decide +kernel
theorem dX9_needed_99 : decode cX9_needed 99 = .ok (.getfield 186, 3) := by decide +kernel
theorem dX9_needed_102 : decode cX9_needed 102 = .ok (.iload 5, 2) := by decide +kernel
theorem dX9_needed_104 : decode cX9_needed 104 = .ok (.iaload, 1) := by decide +kernel
theorem dX9_needed_105 : decode cX9_needed 105 = .ok (.isub, 1) := by decide +kernel
theorem dX9_needed_106 : decode cX9_needed 106 = .ok (.ireturn, 1) := by decide +kernel
theorem dX9_common_0 : decode cX9_common 0 = .ok (.aload_n 0, 1) := by decide +kernel
theorem dX9_common_1 : decode cX9_common 1 = .ok (.iload_n 1, 1) := by decide +kernel
theorem dX9_common_2 : decode cX9_common 2 = .ok (.invokevirtual 129, 3) := by decide +kernel
theorem dX9_common_5 : decode cX9_common 5 = .ok (.aload_n 0, 1) := by decide +kernel
theorem dX9_common_6 : decode cX9_common 6 = .ok (.iload_n 2, 1) := by decide +kernel
theorem dX9_common_7 : decode cX9_common 7 = .ok (.invokevirtual 129, 3) := by decide +kernel
theorem dX9_common_10 : decode cX9_common 10 = .ok (.aload_n 0, 1) := by decide +kernel
theorem dX9_common_11 : decode cX9_common 11 = .ok (.getfield 63, 3) := by decide +kernel
theorem dX9_common_14 : decode cX9_common 14 = .ok (.aload_n 0, 1) := by decide +kernel
theorem dX9_common_15 : decode cX9_common 15 = .ok (.getfield 16, 3) := by decide +kernel
theorem dX9_common_18 : decode cX9_common 18 = .ok (.iload_n 1, 1) := by decide +kernel
theorem dX9_common_19 : decode cX9_common 19 = .ok (.iload_n 2, 1) := by decide +kernel
theorem dX9_common_20 : decode cX9_common 20 = .ok (.invokevirtual 229, 3) := by decide +kernel
theorem dX9_common_23 : decode cX9_common 23 = .ok (.ireturn, 1) := by decide +kernel
theorem dX9_nearest_0 : decode cX9_nearest 0 = .ok (.aload_n 0, 1) := by decide +kernel
theorem dX9_nearest_1 : decode cX9_nearest 1 = .ok (.getfield 63, 3) := by decide +kernel
theorem dX9_nearest_4 : decode cX9_nearest 4 = .ok (.aload_n 0, 1) := by decide +kernel
theorem dX9_nearest_5 : decode cX9_nearest 5 = .ok (.getfield 16, 3) := by decide +kernel
theorem dX9_nearest_8 : decode cX9_nearest 8 = .ok (.invokevirtual 233, 3) := by decide +kernel
theorem dX9_nearest_11 : decode cX9_nearest 11 = .ok (.ireturn, 1) := by decide +kernel
theorem dX9_far_0 : decode cX9_far 0 = .ok (.aload_n 0, 1) := by decide +kernel
theorem dX9_far_1 : decode cX9_far 1 = .ok (.iload_n 1, 1) := by decide +kernel
theorem dX9_far_2 : decode cX9_far 2 = .ok (.invokevirtual 129, 3) := by decide +kernel
theorem dX9_far_5 : decode cX9_far 5 = .ok (.aload_n 0, 1) := by decide +kernel
theorem dX9_far_6 : decode cX9_far 6 = .ok (.iload_n 2, 1) := by decide +kernel
theorem dX9_far_7 : decode cX9_far 7 = .ok (.invokevirtual 129, 3) := by decide +kernel
theorem dX9_far_10 : decode cX9_far 10 = .ok (.aload_n 0, 1) := by decide +kernel
theorem dX9_far_11 : decode cX9_far 11 = .ok (.getfield 16, 3) := by decide +kernel
theorem dX9_far_14 : decode cX9_far 14 = .ok (.getfield 237, 3) := by decide +kernel
theorem dX9_far_17 : decode cX9_far 17 = .ok (.iload_n 1, 1) := by decide +kernel
theorem dX9_far_18 : decode cX9_far 18 = .ok (.bipush 8, 2) := by decide +kernel
theorem dX9_far_20 : decode cX9_far 20 = .ok (.imul, 1) := by decide +kernel
theorem dX9_far_21 : decode cX9_far 21 = .ok (.iload_n 2, 1) := by decide +kernel
theorem dX9_far_22 : decode cX9_far 22 = .ok (.iadd, 1) := by decide +kernel
theorem dX9_far_23 : decode cX9_far 23 = .ok (.iaload, 1) := by decide +kernel
theorem dX9_far_24 : decode cX9_far 24 = .ok (.istore_n 3, 1) := by decide +kernel
theorem dX9_far_25 : decode cX9_far 25 = .ok (.iload_n 3, 1) := by decide +kernel
theorem dX9_far_26 : decode cX9_far 26 = .ok (.ldc 240, 2) := by decide +kernel
theorem dX9_far_28 : decode cX9_far 28 = .ok (.if_icmp .lt 7, 3) := by decide +kernel
theorem dX9_far_31 : decode cX9_far 31 = .ok (.iconst (-1), 1) := by decide +kernel
theorem dX9_far_32 : decode cX9_far 32 = .ok (.goto 4, 3) := by decide +kernel
theorem dX9_far_35 : decode cX9_far 35 = .ok (.iload_n 3, 1) := by decide +kernel
theorem dX9_far_36 : decode cX9_far 36 = .ok (.ireturn, 1) := by decide +kernel
theorem dX9_round_0 : decode cX9_round 0 = .ok (.aload_n 0, 1) := by decide +kernel
theorem dX9_round_1 : decode cX9_round 1 = .ok (.iload_n 1, 1) := by decide +kernel
theorem dX9_round_2 : decode cX9_round 2 = .ok (.invokevirtual 129, 3) := by decide +kernel
theorem dX9_round_5 : decode cX9_round 5 = .ok (.aload_n 0, 1) := by decide +kernel
theorem dX9_round_6 : decode cX9_round 6 = .ok (.getfield 63, 3) := by decide +kernel
theorem dX9_round_9 : decode cX9_round 9 = .ok (.aload_n 0, 1) := by decide +kernel
theorem dX9_round_10 : decode cX9_round 10 = .ok (.getfield 16, 3) := by decide +kernel
theorem dX9_round_13 : decode cX9_round 13 = .ok (.invokevirtual 241, 3) := by decide +kernel
theorem dX9_round_16 : decode cX9_round 16 = .ok (.ireturn, 1) := by decide +kernel
theorem dX9_wedding_0 : decode cX9_wedding 0 = .ok (.aload_n 0, 1) := by decide +kernel
theorem dX9_wedding_1 : decode cX9_wedding 1 = .ok (.iload_n 1, 1) := by decide +kernel
theorem dX9_wedding_2 : decode cX9_wedding 2 = .ok (.iconst 1, 1) := by decide +kernel
theorem dX9_wedding_3 : decode cX9_wedding 3 = .ok (.invokevirtual 217, 3) := by decide +kernel
theorem dX9_wedding_6 : decode cX9_wedding 6 = .ok (.aload_n 0, 1) := by decide +kernel
theorem dX9_wedding_7 : decode cX9_wedding 7 = .ok (.getfield 63, 3) := by decide +kernel
theorem dX9_wedding_10 : decode cX9_wedding 10 = .ok (.aload_n 0, 1) := by decide +kernel
theorem dX9_wedding_11 : decode cX9_wedding 11 = .ok (.getfield 16, 3) := by decide +kernel
theorem dX9_wedding_14 : decode cX9_wedding 14 = .ok (.aload_n 0, 1) := by decide +kernel
theorem dX9_wedding_15 : decode cX9_wedding 15 = .ok (.getfield 35, 3) := by decide +kernel
theorem dX9_wedding_18 : decode cX9_wedding 18 = .ok (.getfield 111, 3) := by decide +kernel
theorem dX9_wedding_21 : decode cX9_wedding 21 = .ok (.iload_n 1, 1) := by decide +kernel
theorem dX9_wedding_22 : decode cX9_wedding 22 = .ok (.ifCond .ne 7, 3) := by decide +kernel
theorem dX9_wedding_25 : decode cX9_wedding 25 = .ok (.iconst 1, 1) := by decide +kernel
theorem dX9_wedding_26 : decode cX9_wedding 26 = .ok (.goto 4, 3) := by decide +kernel
theorem dX9_wedding_29 : decode cX9_wedding 29 = .ok (.iconst 0, 1) := by decide +kernel
theorem dX9_wedding_30 : decode cX9_wedding 30 = .ok (.invokevirtual 244, 3) := by decide +kernel
theorem dX9_wedding_33 : decode cX9_wedding 33 = .ok (.ireturn, 1) := by decide +kernel
theorem dX9_heirs_0 : decode cX9_heirs 0 = .ok (.iload_n 1, 1) := by decide +kernel
theorem dX9_heirs_1 : decode cX9_heirs 1 = .ok (.iconst 1, 1) := by decide +kernel
theorem dX9_heirs_2 : decode cX9_heirs 2 = .ok (.if_icmp .lt 8, 3) := by decide +kernel
theorem dX9_heirs_5 : decode cX9_heirs 5 = .ok (.iload_n 1, 1) := by decide +kernel
theorem dX9_heirs_6 : decode cX9_heirs 6 = .ok (.iconst 4, 1) := by decide +kernel
theorem dX9_heirs_7 : decode cX9_heirs 7 = .ok (.if_icmp .le 13, 3) := by decide +kernel
theorem dX9_heirs_10 : decode cX9_heirs 10 = .ok (.new 78, 3) := by decide +kernel
theorem dX9_heirs_13 : decode cX9_heirs 13 = .ok (.dup, 1) := by decide +kernel
theorem dX9_heirs_14 : decode cX9_heirs 14 = .ok (.ldc 248, 2) := by decide +kernel
theorem dX9_heirs_16 : decode cX9_heirs 16 = .ok (.invokespecial 82, 3) := by decide +kernel
theorem dX9_heirs_19 : decode cX9_heirs 19 = .ok (.athrow, 1) := by decide +kernel
theorem dX9_heirs_20 : decode cX9_heirs 20 = .ok (.aload_n 0, 1) := by decide +kernel
theorem dX9_heirs_21 : decode cX9_heirs 21 = .ok (.getfield 63, 3) := by decide +kernel
theorem dX9_heirs_24 : decode cX9_heirs 24 = .ok (.aload_n 0, 1) := by decide +kernel
theorem dX9_heirs_25 : decode cX9_heirs 25 = .ok (.getfield 16, 3) := by decide +kernel
theorem dX9_heirs_28 : decode cX9_heirs 28 = .ok (.iload_n 1, 1) := by decide +kernel
theorem dX9_heirs_29 : decode cX9_heirs 29 = .ok (.invokevirtual 250, 3) := by decide +kernel
theorem dX9_heirs_32 : decode cX9_heirs 32 = .ok (.ireturn, 1) := by decide +kernel
theorem dX9_hear_0 : decode cX9_hear 0 = .ok (.aload_n 0, 1) := by decide +kernel
theorem dX9_hear_1 : decode cX9_hear 1 = .ok (.iload_n 1, 1) := by decide +kernel
theorem dX9_hear_2 : decode cX9_hear 2 = .ok (.invokevirtual 129, 3) := by decide +kernel
theorem dX9_hear_5 : decode cX9_hear 5 = .ok (.iload_n 3, 1) := by decide +kernel
theorem dX9_hear_6 : decode cX9_hear 6 = .ok (.iconst (-1), 1) := by decide +kernel
theorem dX9_hear_7 : decode cX9_hear 7 = .ok (.if_icmp .eq 8, 3) := by decide +kernel
theorem dX9_hear_10 : decode cX9_hear 10 = .ok (.aload_n 0, 1) := by decide +kernel
theorem dX9_hear_11 : decode cX9_hear 11 = .ok (.iload_n 3, 1) := by decide +kernel
theorem dX9_hear_12 : decode cX9_hear 12 = .ok (.invokevirtual 129, 3) := by decide +kernel
theorem dX9_hear_15 : decode cX9_hear 15 = .ok (.iload_n 2, 1) := by decide +kernel
theorem dX9_hear_16 : decode cX9_hear 16 = .ok (.iconst 1, 1) := by decide +kernel
theorem dX9_hear_17 : decode cX9_hear 17 = .ok (.if_icmp .lt 21, 3) := by decide +kernel
theorem dX9_hear_20 : decode cX9_hear 20 = .ok (.iload_n 2, 1) := by decide +kernel
theorem dX9_hear_21 : decode cX9_hear 21 = .ok (.bipush 30, 2) := by decide +kernel
theorem dX9_hear_23 : decode cX9_hear 23 = .ok (.if_icmp .gt 15, 3) := by decide +kernel
theorem dX9_hear_26 : decode cX9_hear 26 = .ok (.aload_n 0, 1) := by decide +kernel
theorem dX9_hear_27 : decode cX9_hear 27 = .ok (.getfield 35, 3) := by decide +kernel
theorem dX9_hear_30 : decode cX9_hear 30 = .ok (.getfield 118, 3) := by decide +kernel
theorem dX9_hear_33 : decode cX9_hear 33 = .ok (.bipush 8, 2) := by decide +kernel
theorem dX9_hear_35 : decode cX9_hear 35 = .ok (.if_icmp .lt 13, 3) := by decide +kernel
theorem dX9_hear_38 : decode cX9_hear 38 = .ok (.aload_n 0, 1) := by decide +kernel
theorem dX9_hear_39 : decode cX9_hear 39 = .ok (.getfield 35, 3) := by decide +kernel
theorem dX9_hear_42 : decode cX9_hear 42 = .ok (.iconst 2, 1) := by decide +kernel
theorem dX9_hear_43 : decode cX9_hear 43 = .ok (.invokevirtual 92, 3) := by decide +kernel
theorem dX9_hear_46 : decode cX9_hear 46 = .ok (.iconst (-1), 1) := by decide +kernel
theorem dX9_hear_47 : decode cX9_hear 47 = .ok (.ireturn, 1) := by decide +kernel
theorem dX9_hear_48 : decode cX9_hear 48 = .ok (.aload_n 0, 1) := by decide +kernel
theorem dX9_hear_49 : decode cX9_hear 49 = .ok (.getfield 35, 3) := by decide +kernel
theorem dX9_hear_52 : decode cX9_hear 52 = .ok (.iload_n 1, 1) := by decide +kernel
theorem dX9_hear_53 : decode cX9_hear 53 = .ok (.iload_n 2, 1) := by decide +kernel
theorem dX9_hear_54 : decode cX9_hear 54 = .ok (.iload_n 3, 1) := by decide +kernel
theorem dX9_hear_55 : decode cX9_hear 55 = .ok (.invokevirtual 253, 3) := by decide +kernel
theorem dX9_hear_58 : decode cX9_hear 58 = .ok (.aload_n 0, 1) := by decide +kernel
theorem dX9_hear_59 : decode cX9_hear 59 = .ok (.getfield 35, 3) := by decide +kernel
theorem dX9_hear_62 : decode cX9_hear 62 = .ok (.getfield 118, 3) := by decide +kernel
theorem dX9_hear_65 : decode cX9_hear 65 = .ok (.ireturn, 1) := by decide +kernel
theorem dX9_otherwise_0 : decode cX9_otherwise 0 = .ok (.aload_n 0, 1) := by decide +kernel
theorem dX9_otherwise_1 : decode cX9_otherwise 1 = .ok (.iload_n 1, 1) := by decide +kernel
theorem dX9_otherwise_2 : decode cX9_otherwise 2 = .ok (.iconst 2, 1) := by decide +kernel
theorem dX9_otherwise_3 : decode cX9_otherwise 3 = .ok (.invokevirtual 217, 3) := by decide +kernel
theorem dX9_otherwise_6 : decode cX9_otherwise 6 = .ok (.iload_n 1, 1) := by decide +kernel
theorem dX9_otherwise_7 : decode cX9_otherwise 7 = .ok (.iconst 2, 1) := by decide +kernel
theorem dX9_otherwise_8 : decode cX9_otherwise 8 = .ok (.if_icmp .ne 27, 3) := by decide +kernel
theorem dX9_otherwise_11 : decode cX9_otherwise 11 = .ok (.aload_n 0, 1) := by decide +kernel
theorem dX9_otherwise_12 : decode cX9_otherwise 12 = .ok (.getfield 56, 3) := by decide +kernel
theorem dX9_otherwise_15 : decode cX9_otherwise 15 = .ok (.aload_n 0, 1) := by decide +kernel
theorem dX9_otherwise_16 : decode cX9_otherwise 16 = .ok (.getfield 16, 3) := by decide +kernel
theorem dX9_otherwise_19 : decode cX9_otherwise 19 = .ok (.aload_n 0, 1) := by decide +kernel
theorem dX9_otherwise_20 : decode cX9_otherwise 20 = .ok (.getfield 35, 3) := by decide +kernel
theorem dX9_otherwise_23 : decode cX9_otherwise 23 = .ok (.invokevirtual 257, 3) := by decide +kernel
theorem dX9_otherwise_26 : decode cX9_otherwise 26 = .ok (.ifCond .eq 7, 3) := by decide +kernel
theorem dX9_otherwise_29 : decode cX9_otherwise 29 = .ok (.iconst 1, 1) := by decide +kernel
theorem dX9_otherwise_30 : decode cX9_otherwise 30 = .ok (.goto 4, 3) := by decide +kernel
theorem dX9_otherwise_33 : decode cX9_otherwise 33 = .ok (.iconst 0, 1) := by decide +kernel
theorem dX9_otherwise_34 : decode cX9_otherwise 34 = .ok (.ireturn, 1) := by decide +kernel
theorem dX9_otherwise_35 : decode cX9_otherwise 35 = .ok (.aload_n 0, 1) := by decide +kernel
theorem dX9_otherwise_36 : decode cX9_otherwise 36 = .ok (.getfield 56, 3) := by decide +kernel
theorem dX9_otherwise_39 : decode cX9_otherwise 39 = .ok (.aload_n 0, 1) := by decide +kernel
theorem dX9_otherwise_40 : decode cX9_otherwise 40 = .ok (.getfield 16, 3) := by decide +kernel
theorem dX9_otherwise_43 : decode cX9_otherwise 43 = .ok (.aload_n 0, 1) := by decide +kernel
theorem dX9_otherwise_44 : decode cX9_otherwise 44 = .ok (.getfield 35, 3) := by decide +kernel
theorem dX9_otherwise_47 : decode cX9_otherwise 47 = .ok (.invokevirtual 261, 3) := by decide +kernel
theorem dX9_otherwise_50 : decode cX9_otherwise 50 = .ok (.iload_n 1, 1) := by decide +kernel
theorem dX9_otherwise_51 : decode cX9_otherwise 51 = .ok (.ifCond .ne 13, 3) := by decide +kernel
theorem dX9_otherwise_54 : decode cX9_otherwise 54 = .ok (.aload_n 0, 1) := by decide +kernel
theorem dX9_otherwise_55 : decode cX9_otherwise 55 = .ok (.getfield 56, 3) := by decide +kernel
theorem dX9_otherwise_58 : decode cX9_otherwise 58 = .ok (.getfield 265, 3) := by decide +kernel
theorem dX9_otherwise_61 : decode cX9_otherwise 61 = .ok (.goto 10, 3) := by decide +kernel
theorem dX9_otherwise_64 : decode cX9_otherwise 64 = .ok (.aload_n 0, 1) := by decide +kernel
theorem dX9_otherwise_65 : decode cX9_otherwise 65 = .ok (.getfield 56, 3) := by decide +kernel
theorem dX9_otherwise_68 : decode cX9_otherwise 68 = .ok (.getfield 268, 3) := by decide +kernel
theorem dX9_otherwise_71 : decode cX9_otherwise 71 = .ok (.ireturn, 1) := by decide +kernel
theorem dX9_listen_0 : decode cX9_listen 0 = .ok (.aload_n 0, 1) := by decide +kernel
theorem dX9_listen_1 : decode cX9_listen 1 = .ok (.iload_n 1, 1) := by decide +kernel
theorem dX9_listen_2 : decode cX9_listen 2 = .ok (.iconst 1, 1) := by decide +kernel
theorem dX9_listen_3 : decode cX9_listen 3 = .ok (.invokevirtual 217, 3) := by decide +kernel
theorem dX9_listen_6 : decode cX9_listen 6 = .ok (.aload_n 0, 1) := by decide +kernel
theorem dX9_listen_7 : decode cX9_listen 7 = .ok (.getfield 56, 3) := by decide +kernel
theorem dX9_listen_10 : decode cX9_listen 10 = .ok (.aload_n 0, 1) := by decide +kernel
theorem dX9_listen_11 : decode cX9_listen 11 = .ok (.getfield 16, 3) := by decide +kernel
theorem dX9_listen_14 : decode cX9_listen 14 = .ok (.aload_n 0, 1) := by decide +kernel
theorem dX9_listen_15 : decode cX9_listen 15 = .ok (.getfield 35, 3) := by decide +kernel
theorem dX9_listen_18 : decode cX9_listen 18 = .ok (.invokevirtual 261, 3) := by decide +kernel
theorem dX9_listen_21 : decode cX9_listen 21 = .ok (.aload_n 0, 1) := by decide +kernel
theorem dX9_listen_22 : decode cX9_listen 22 = .ok (.getfield 56, 3) := by decide +kernel
theorem dX9_listen_25 : decode cX9_listen 25 = .ok (.invokevirtual 271, 3) := by decide +kernel
theorem dX9_listen_28 : decode cX9_listen 28 = .ok (.istore_n 2, 1) := by decide +kernel
theorem dX9_listen_29 : decode cX9_listen 29 = .ok (.iload_n 1, 1) := by decide +kernel
theorem dX9_listen_30 : decode cX9_listen 30 = .ok (.ifCond .ne 5, 3) := by decide +kernel
theorem dX9_listen_33 : decode cX9_listen 33 = .ok (.iload_n 2, 1) := by decide +kernel
theorem dX9_listen_34 : decode cX9_listen 34 = .ok (.ireturn, 1) := by decide +kernel
theorem dX9_listen_35 : decode cX9_listen 35 = .ok (.iload_n 2, 1) := by decide +kernel
theorem dX9_listen_36 : decode cX9_listen 36 = .ok (.iconst (-1), 1) := by decide +kernel
theorem dX9_listen_37 : decode cX9_listen 37 = .ok (.if_icmp .ne 7, 3) := by decide +kernel
theorem dX9_listen_40 : decode cX9_listen 40 = .ok (.iconst 0, 1) := by decide +kernel
theorem dX9_listen_41 : decode cX9_listen 41 = .ok (.goto 15, 3) := by decide +kernel
theorem dX9_listen_44 : decode cX9_listen 44 = .ok (.aload_n 0, 1) := by decide +kernel
theorem dX9_listen_45 : decode cX9_listen 45 = .ok (.getfield 56, 3) := by decide +kernel
theorem dX9_listen_48 : decode cX9_listen 48 = .ok (.getfield 275, 3) := by decide +kernel
theorem dX9_listen_51 : decode cX9_listen 51 = .ok (.iload_n 2, 1) := by decide +kernel
theorem dX9_listen_52 : decode cX9_listen 52 = .ok (.iaload, 1) := by decide +kernel
theorem dX9_listen_53 : decode cX9_listen 53 = .ok (.invokestatic 278, 3) := by decide +kernel
theorem dX9_listen_56 : decode cX9_listen 56 = .ok (.ireturn, 1) := by decide +kernel
theorem dX9_forget_0 : decode cX9_forget 0 = .ok (.aload_n 0, 1) := by decide +kernel
theorem dX9_forget_1 : decode cX9_forget 1 = .ok (.getfield 35, 3) := by decide +kernel
theorem dX9_forget_4 : decode cX9_forget 4 = .ok (.iconst 0, 1) := by decide +kernel
theorem dX9_forget_5 : decode cX9_forget 5 = .ok (.putfield 118, 3) := by decide +kernel
theorem dX9_forget_8 : decode cX9_forget 8 = .ok (.return_, 1) := by decide +kernel
theorem dX9_game_0 : decode cX9_game 0 = .ok (.aload_n 0, 1) := by decide +kernel
theorem dX9_game_1 : decode cX9_game 1 = .ok (.iload_n 1, 1) := by decide +kernel
theorem dX9_game_2 : decode cX9_game 2 = .ok (.invokevirtual 160, 3) := by decide +kernel
theorem dX9_game_5 : decode cX9_game 5 = .ok (.aload_n 0, 1) := by decide +kernel
theorem dX9_game_6 : decode cX9_game 6 = .ok (.iload_n 2, 1) := by decide +kernel
theorem dX9_game_7 : decode cX9_game 7 = .ok (.invokevirtual 160, 3) := by decide +kernel
theorem dX9_game_10 : decode cX9_game 10 = .ok (.aload_n 0, 1) := by decide +kernel
theorem dX9_game_11 : decode cX9_game 11 = .ok (.iload_n 3, 1) := by decide +kernel
theorem dX9_game_12 : decode cX9_game 12 = .ok (.invokevirtual 129, 3) := by decide +kernel
theorem dX9_game_15 : decode cX9_game 15 = .ok (.aload_n 0, 1) := by decide +kernel
theorem dX9_game_16 : decode cX9_game 16 = .ok (.iload 4, 2) := by decide +kernel
theorem dX9_game_18 : decode cX9_game 18 = .ok (.iconst 1, 1) := by decide +kernel
theorem dX9_game_19 : decode cX9_game 19 = .ok (.invokevirtual 217, 3) := by decide +kernel
theorem dX9_game_22 : decode cX9_game 22 = .ok (.aload_n 0, 1) := by decide +kernel
theorem dX9_game_23 : decode cX9_game 23 = .ok (.getfield 47, 3) := by decide +kernel
theorem dX9_game_26 : decode cX9_game 26 = .ok (.aload_n 0, 1) := by decide +kernel
theorem dX9_game_27 : decode cX9_game 27 = .ok (.getfield 16, 3) := by decide +kernel
theorem dX9_game_30 : decode cX9_game 30 = .ok (.aload_n 0, 1) := by decide +kernel
theorem dX9_game_31 : decode cX9_game 31 = .ok (.getfield 35, 3) := by decide +kernel
theorem dX9_game_34 : decode cX9_game 34 = .ok (.getfield 111, 3) := by decide +kernel
theorem dX9_game_37 : decode cX9_game 37 = .ok (.invokevirtual 166, 3) := by decide +kernel
theorem dX9_game_40 : decode cX9_game 40 = .ok (.iload_n 1, 1) := by decide +kernel
theorem dX9_game_41 : decode cX9_game 41 = .ok (.iload_n 2, 1) := by decide +kernel
theorem dX9_game_42 : decode cX9_game 42 = .ok (.if_icmp .eq 21, 3) := by decide +kernel
theorem dX9_game_45 : decode cX9_game 45 = .ok (.aload_n 0, 1) := by decide +kernel
theorem dX9_game_46 : decode cX9_game 46 = .ok (.getfield 47, 3) := by decide +kernel
theorem dX9_game_49 : decode cX9_game 49 = .ok (.iconst 1, 1) := by decide +kernel
theorem dX9_game_50 : decode cX9_game 50 = .ok (.iload_n 1, 1) := by decide +kernel
theorem dX9_game_51 : decode cX9_game 51 = .ok (.ishl, 1) := by decide +kernel
theorem dX9_game_52 : decode cX9_game 52 = .ok (.iconst 1, 1) := by decide +kernel
theorem dX9_game_53 : decode cX9_game 53 = .ok (.iload_n 2, 1) := by decide +kernel
theorem dX9_game_54 : decode cX9_game 54 = .ok (.ishl, 1) := by decide +kernel
theorem dX9_game_55 : decode cX9_game 55 = .ok (.ior, 1) := by decide +kernel
theorem dX9_game_56 : decode cX9_game 56 = .ok (.iload_n 3, 1) := by decide +kernel
theorem dX9_game_57 : decode cX9_game 57 = .ok (.invokevirtual 213, 3) := by decide +kernel
theorem dX9_game_60 : decode cX9_game 60 = .ok (.ifCond .ne 14, 3) := by decide +kernel
theorem dX9_game_63 : decode cX9_game 63 = .ok (.new 78, 3) := by decide +kernel
theorem dX9_game_66 : decode cX9_game 66 = .ok (.dup, 1) := by decide +kernel
theorem dX9_game_67 : decode cX9_game 67 = .ok (.ldc_w 283, 3) := by decide +kernel
theorem dX9_game_70 : decode cX9_game 70 = .ok (.invokespecial 82, 3) := by decide +kernel
theorem dX9_game_73 : decode cX9_game 73 = .ok (.athrow, 1) := by decide +kernel
theorem dX9_game_74 : decode cX9_game 74 = .ok (.iconst 0, 1) := by decide +kernel
theorem dX9_game_75 : decode cX9_game 75 = .ok (.istore 5, 2) := by decide +kernel
theorem dX9_game_77 : decode cX9_game 77 = .ok (.iconst (-1), 1) := by decide +kernel
theorem dX9_game_78 : decode cX9_game 78 = .ok (.istore 6, 2) := by decide +kernel
theorem dX9_game_80 : decode cX9_game 80 = .ok (.iconst 0, 1) := by decide +kernel
theorem dX9_game_81 : decode cX9_game 81 = .ok (.istore 7, 2) := by decide +kernel
theorem dX9_game_83 : decode cX9_game 83 = .ok (.iload 7, 2) := by decide +kernel
theorem dX9_game_85 : decode cX9_game 85 = .ok (.iconst 4, 1) := by decide +kernel
theorem dX9_game_86 : decode cX9_game 86 = .ok (.if_icmp .ge 55, 3) := by decide +kernel
theorem dX9_game_89 : decode cX9_game 89 = .ok (.aload_n 0, 1) := by decide +kernel
theorem dX9_game_90 : decode cX9_game 90 = .ok (.iload_n 1, 1) := by decide +kernel
theorem dX9_game_91 : decode cX9_game 91 = .ok (.iload_n 2, 1) := by decide +kernel
theorem dX9_game_92 : decode cX9_game 92 = .ok (.iload_n 3, 1) := by decide +kernel
theorem dX9_game_93 : decode cX9_game 93 = .ok (.iload 7, 2) := by decide +kernel
theorem dX9_game_95 : decode cX9_game 95 = .ok (.iconst 1, 1) := by decide +kernel
theorem dX9_game_96 : decode cX9_game 96 = .ok (.ishr, 1) := by decide +kernel
theorem dX9_game_97 : decode cX9_game 97 = .ok (.iload 7, 2) := by decide +kernel
theorem dX9_game_99 : decode cX9_game 99 = .ok (.iconst 1, 1) := by decide +kernel
theorem dX9_game_100 : decode cX9_game 100 = .ok (.iand, 1) := by decide +kernel
theorem dX9_game_101 : decode cX9_game 101 = .ok (.invokevirtual 285, 3) := by decide +kernel
theorem dX9_game_104 : decode cX9_game 104 = .ok (.ifCond .eq 31, 3) := by decide +kernel
theorem dX9_game_107 : decode cX9_game 107 = .ok (.iinc 5 1, 3) := by decide +kernel
theorem dX9_game_110 : decode cX9_game 110 = .ok (.iload 6, 2) := by decide +kernel
theorem dX9_game_112 : decode cX9_game 112 = .ok (.iconst (-1), 1) := by decide +kernel
theorem dX9_game_113 : decode cX9_game 113 = .ok (.if_icmp .ne 18, 3) := by decide +kernel
theorem dX9_game_116 : decode cX9_game 116 = .ok (.iload 7, 2) := by decide +kernel
theorem dX9_game_118 : decode cX9_game 118 = .ok (.iconst 1, 1) := by decide +kernel
theorem dX9_game_119 : decode cX9_game 119 = .ok (.ishr, 1) := by decide +kernel
theorem dX9_game_120 : decode cX9_game 120 = .ok (.bipush 10, 2) := by decide +kernel
theorem dX9_game_122 : decode cX9_game 122 = .ok (.imul, 1) := by decide +kernel
theorem dX9_game_123 : decode cX9_game 123 = .ok (.iload 7, 2) := by decide +kernel
theorem dX9_game_125 : decode cX9_game 125 = .ok (.iconst 1, 1) := by decide +kernel
theorem dX9_game_126 : decode cX9_game 126 = .ok (.iand, 1) := by decide +kernel
theorem dX9_game_127 : decode cX9_game 127 = .ok (.iadd, 1) := by decide +kernel
theorem dX9_game_128 : decode cX9_game 128 = .ok (.goto 5, 3) := by decide +kernel
theorem dX9_game_131 : decode cX9_game 131 = .ok (.iload 6, 2) := by decide +kernel
theorem dX9_game_133 : decode cX9_game 133 = .ok (.istore 6, 2) := by decide +kernel
theorem dX9_game_135 : decode cX9_game 135 = .ok (.iinc 7 1, 3) := by decide +kernel
theorem dX9_game_138 : decode cX9_game 138 = .ok (.goto (-55), 3) := by decide +kernel
theorem dX9_game_141 : decode cX9_game 141 = .ok (.iload 4, 2) := by decide +kernel
theorem dX9_game_143 : decode cX9_game 143 = .ok (.ifCond .ne 8, 3) := by decide +kernel
theorem dX9_game_146 : decode cX9_game 146 = .ok (.iload 5, 2) := by decide +kernel
theorem dX9_game_148 : decode cX9_game 148 = .ok (.goto 5, 3) := by decide +kernel
theorem dX9_game_151 : decode cX9_game 151 = .ok (.iload 6, 2) := by decide +kernel
theorem dX9_game_153 : decode cX9_game 153 = .ok (.ireturn, 1) := by decide +kernel
theorem dX9_rests_0 : decode cX9_rests 0 = .ok (.aload_n 0, 1) := by decide +kernel
theorem dX9_rests_1 : decode cX9_rests 1 = .ok (.iload_n 1, 1) := by decide +kernel
theorem dX9_rests_2 : decode cX9_rests 2 = .ok (.iload_n 3, 1) := by decide +kernel
theorem dX9_rests_3 : decode cX9_rests 3 = .ok (.iload 4, 2) := by decide +kernel
theorem dX9_rests_5 : decode cX9_rests 5 = .ok (.iload 5, 2) := by decide +kernel
theorem dX9_rests_7 : decode cX9_rests 7 = .ok (.invokevirtual 289, 3) := by decide +kernel
theorem dX9_rests_10 : decode cX9_rests 10 = .ok (.aload_n 0, 1) := by decide +kernel
theorem dX9_rests_11 : decode cX9_rests 11 = .ok (.iload_n 1, 1) := by decide +kernel
theorem dX9_rests_12 : decode cX9_rests 12 = .ok (.iload_n 3, 1) := by decide +kernel
theorem dX9_rests_13 : decode cX9_rests 13 = .ok (.iconst 1, 1) := by decide +kernel
theorem dX9_rests_14 : decode cX9_rests 14 = .ok (.iload 4, 2) := by decide +kernel
theorem dX9_rests_16 : decode cX9_rests 16 = .ok (.isub, 1) := by decide +kernel
theorem dX9_rests_17 : decode cX9_rests 17 = .ok (.iload 5, 2) := by decide +kernel
theorem dX9_rests_19 : decode cX9_rests 19 = .ok (.invokevirtual 289, 3) := by decide +kernel
theorem dX9_rests_22 : decode cX9_rests 22 = .ok (.if_icmp .lt 32, 3) := by decide +kernel
theorem dX9_rests_25 : decode cX9_rests 25 = .ok (.aload_n 0, 1) := by decide +kernel
theorem dX9_rests_26 : decode cX9_rests 26 = .ok (.iload_n 2, 1) := by decide +kernel
theorem dX9_rests_27 : decode cX9_rests 27 = .ok (.iload_n 3, 1) := by decide +kernel
theorem dX9_rests_28 : decode cX9_rests 28 = .ok (.iload 5, 2) := by decide +kernel
theorem dX9_rests_30 : decode cX9_rests 30 = .ok (.iload 4, 2) := by decide +kernel
theorem dX9_rests_32 : decode cX9_rests 32 = .ok (.invokevirtual 289, 3) := by decide +kernel
theorem dX9_rests_35 : decode cX9_rests 35 = .ok (.aload_n 0, 1) := by decide +kernel
theorem dX9_rests_36 : decode cX9_rests 36 = .ok (.iload_n 2, 1) := by decide +kernel
theorem dX9_rests_37 : decode cX9_rests 37 = .ok (.iload_n 3, 1) := by decide +kernel
theorem dX9_rests_38 : decode cX9_rests 38 = .ok (.iconst 1, 1) := by decide +kernel
theorem dX9_rests_39 : decode cX9_rests 39 = .ok (.iload 5, 2) := by decide +kernel
theorem dX9_rests_41 : decode cX9_rests 41 = .ok (.isub, 1) := by decide +kernel
theorem dX9_rests_42 : decode cX9_rests 42 = .ok (.iload 4, 2) := by decide +kernel
theorem dX9_rests_44 : decode cX9_rests 44 = .ok (.invokevirtual 289, 3) := by decide +kernel
theorem dX9_rests_47 : decode cX9_rests 47 = .ok (.if_icmp .lt 7, 3) := by decide +kernel
theorem dX9_rests_50 : decode cX9_rests 50 = .ok (.iconst 1, 1) := by decide +kernel
theorem dX9_rests_51 : decode cX9_rests 51 = .ok (.goto 4, 3) := by decide +kernel
theorem dX9_rests_54 : decode cX9_rests 54 = .ok (.iconst 0, 1) := by decide +kernel
theorem dX9_rests_55 : decode cX9_rests 55 = .ok (.ireturn, 1) := by decide +kernel
theorem dX9_gain_0 : decode cX9_gain 0 = .ok (.iload_n 3, 1) := by decide +kernel
theorem dX9_gain_1 : decode cX9_gain 1 = .ok (.ifCond .ne 5, 3) := by decide +kernel
theorem dX9_gain_4 : decode cX9_gain 4 = .ok (.iconst 0, 1) := by decide +kernel
theorem dX9_gain_5 : decode cX9_gain 5 = .ok (.ireturn, 1) := by decide +kernel
theorem dX9_gain_6 : decode cX9_gain 6 = .ok (.iload 4, 2) := by decide +kernel
theorem dX9_gain_8 : decode cX9_gain 8 = .ok (.ifCond .ne 15, 3) := by decide +kernel
theorem dX9_gain_11 : decode cX9_gain 11 = .ok (.aload_n 0, 1) := by decide +kernel
theorem dX9_gain_12 : decode cX9_gain 12 = .ok (.getfield 16, 3) := by decide +kernel
theorem dX9_gain_15 : decode cX9_gain 15 = .ok (.getfield 132, 3) := by decide +kernel
theorem dX9_gain_18 : decode cX9_gain 18 = .ok (.iload_n 2, 1) := by decide +kernel
theorem dX9_gain_19 : decode cX9_gain 19 = .ok (.iaload, 1) := by decide +kernel
theorem dX9_gain_20 : decode cX9_gain 20 = .ok (.goto 14, 3) := by decide +kernel
theorem dX9_gain_23 : decode cX9_gain 23 = .ok (.aload_n 0, 1) := by decide +kernel
theorem dX9_gain_24 : decode cX9_gain 24 = .ok (.getfield 16, 3) := by decide +kernel
theorem dX9_gain_27 : decode cX9_gain 27 = .ok (.getfield 132, 3) := by decide +kernel
theorem dX9_gain_30 : decode cX9_gain 30 = .ok (.iload_n 2, 1) := by decide +kernel
theorem dX9_gain_31 : decode cX9_gain 31 = .ok (.iaload, 1) := by decide +kernel
theorem dX9_gain_32 : decode cX9_gain 32 = .ok (.iconst 2, 1) := by decide +kernel
theorem dX9_gain_33 : decode cX9_gain 33 = .ok (.idiv, 1) := by decide +kernel
theorem dX9_gain_34 : decode cX9_gain 34 = .ok (.istore 5, 2) := by decide +kernel
theorem dX9_gain_36 : decode cX9_gain 36 = .ok (.aload_n 0, 1) := by decide +kernel
theorem dX9_gain_37 : decode cX9_gain 37 = .ok (.getfield 47, 3) := by decide +kernel
theorem dX9_gain_40 : decode cX9_gain 40 = .ok (.iload_n 1, 1) := by decide +kernel
theorem dX9_gain_41 : decode cX9_gain 41 = .ok (.iload_n 2, 1) := by decide +kernel
theorem dX9_gain_42 : decode cX9_gain 42 = .ok (.invokevirtual 293, 3) := by decide +kernel
theorem dX9_gain_45 : decode cX9_gain 45 = .ok (.ifCond .eq 19, 3) := by decide +kernel
theorem dX9_gain_48 : decode cX9_gain 48 = .ok (.iload 5, 2) := by decide +kernel
theorem dX9_gain_50 : decode cX9_gain 50 = .ok (.aload_n 0, 1) := by decide +kernel
theorem dX9_gain_51 : decode cX9_gain 51 = .ok (.getfield 47, 3) := by decide +kernel
theorem dX9_gain_54 : decode cX9_gain 54 = .ok (.iload_n 1, 1) := by decide +kernel
theorem dX9_gain_55 : decode cX9_gain 55 = .ok (.iload_n 2, 1) := by decide +kernel
theorem dX9_gain_56 : decode cX9_gain 56 = .ok (.iconst 0, 1) := by decide +kernel
theorem dX9_gain_57 : decode cX9_gain 57 = .ok (.invokevirtual 296, 3) := by decide +kernel
theorem dX9_gain_60 : decode cX9_gain 60 = .ok (.isub, 1) := by decide +kernel
theorem dX9_gain_61 : decode cX9_gain 61 = .ok (.goto 5, 3) := by decide +kernel
theorem dX9_gain_64 : decode cX9_gain 64 = .ok (.iload 5, 2) := by decide +kernel
theorem dX9_gain_66 : decode cX9_gain 66 = .ok (.ireturn, 1) := by decide +kernel
theorem dX9_larks_0 : decode cX9_larks 0 = .ok (.aload_n 0, 1) := by decide +kernel
theorem dX9_larks_1 : decode cX9_larks 1 = .ok (.iload_n 3, 1) := by decide +kernel
theorem dX9_larks_2 : decode cX9_larks 2 = .ok (.iconst 2, 1) := by decide +kernel
theorem dX9_larks_3 : decode cX9_larks 3 = .ok (.invokevirtual 217, 3) := by decide +kernel
theorem dX9_larks_6 : decode cX9_larks 6 = .ok (.aload_n 0, 1) := by decide +kernel
theorem dX9_larks_7 : decode cX9_larks 7 = .ok (.iload_n 2, 1) := by decide +kernel
theorem dX9_larks_8 : decode cX9_larks 8 = .ok (.iconst 0, 1) := by decide +kernel
theorem dX9_larks_9 : decode cX9_larks 9 = .ok (.invokevirtual 203, 3) := by decide +kernel
theorem dX9_larks_12 : decode cX9_larks 12 = .ok (.aload_n 0, 1) := by decide +kernel
theorem dX9_larks_13 : decode cX9_larks 13 = .ok (.getfield 47, 3) := by decide +kernel
theorem dX9_larks_16 : decode cX9_larks 16 = .ok (.aload_n 0, 1) := by decide +kernel
theorem dX9_larks_17 : decode cX9_larks 17 = .ok (.getfield 16, 3) := by decide +kernel
theorem dX9_larks_20 : decode cX9_larks 20 = .ok (.aload_n 0, 1) := by decide +kernel
theorem dX9_larks_21 : decode cX9_larks 21 = .ok (.getfield 35, 3) := by decide +kernel
theorem dX9_larks_24 : decode cX9_larks 24 = .ok (.getfield 111, 3) := by decide +kernel
theorem dX9_larks_27 : decode cX9_larks 27 = .ok (.invokevirtual 166, 3) := by decide +kernel
theorem dX9_larks_30 : decode cX9_larks 30 = .ok (.aload_n 0, 1) := by decide +kernel
theorem dX9_larks_31 : decode cX9_larks 31 = .ok (.getfield 47, 3) := by decide +kernel
theorem dX9_larks_34 : decode cX9_larks 34 = .ok (.iload_n 1, 1) := by decide +kernel
theorem dX9_larks_35 : decode cX9_larks 35 = .ok (.iload_n 2, 1) := by decide +kernel
theorem dX9_larks_36 : decode cX9_larks 36 = .ok (.invokevirtual 300, 3) := by decide +kernel
theorem dX9_larks_39 : decode cX9_larks 39 = .ok (.iload_n 3, 1) := by decide +kernel
theorem dX9_larks_40 : decode cX9_larks 40 = .ok (.ifCond .ne 11, 3) := by decide +kernel
theorem dX9_larks_43 : decode cX9_larks 43 = .ok (.aload_n 0, 1) := by decide +kernel
theorem dX9_larks_44 : decode cX9_larks 44 = .ok (.getfield 47, 3) := by decide +kernel
theorem dX9_larks_47 : decode cX9_larks 47 = .ok (.invokevirtual 303, 3) := by decide +kernel
theorem dX9_larks_50 : decode cX9_larks 50 = .ok (.ireturn, 1) := by decide +kernel
theorem dX9_larks_51 : decode cX9_larks 51 = .ok (.iload_n 3, 1) := by decide +kernel
theorem dX9_larks_52 : decode cX9_larks 52 = .ok (.iconst 1, 1) := by decide +kernel
theorem dX9_larks_53 : decode cX9_larks 53 = .ok (.if_icmp .ne 25, 3) := by decide +kernel
theorem dX9_larks_56 : decode cX9_larks 56 = .ok (.aload_n 0, 1) := by decide +kernel
theorem dX9_larks_57 : decode cX9_larks 57 = .ok (.getfield 47, 3) := by decide +kernel
theorem dX9_larks_60 : decode cX9_larks 60 = .ok (.getfield 186, 3) := by decide +kernel
theorem dX9_larks_63 : decode cX9_larks 63 = .ok (.iconst 1, 1) := by decide +kernel
theorem dX9_larks_64 : decode cX9_larks 64 = .ok (.iaload, 1) := by decide +kernel
theorem dX9_larks_65 : decode cX9_larks 65 = .ok (.aload_n 0, 1) := by decide +kernel
theorem dX9_larks_66 : decode cX9_larks 66 = .ok (.getfield 35, 3) := by decide +kernel
theorem dX9_larks_69 : decode cX9_larks 69 = .ok (.getfield 111, 3) := by decide +kernel
theorem dX9_larks_72 : decode cX9_larks 72 = .ok (.iconst 1, 1) := by decide +kernel
theorem dX9_larks_73 : decode cX9_larks 73 = .ok (.iaload, 1) := by decide +kernel
theorem dX9_larks_74 : decode cX9_larks 74 = .ok (.isub, 1) := by decide +kernel
theorem dX9_larks_75 : decode cX9_larks 75 = .ok (.goto 10, 3) := by decide +kernel
theorem dX9_larks_78 : decode cX9_larks 78 = .ok (.aload_n 0, 1) := by decide +kernel
theorem dX9_larks_79 : decode cX9_larks 79 = .ok (.getfield 47, 3) := by decide +kernel
theorem dX9_larks_82 : decode cX9_larks 82 = .ok (.invokevirtual 306, 3) := by decide +kernel
theorem dX9_larks_85 : decode cX9_larks 85 = .ok (.ireturn, 1) := by decide +kernel
theorem dX9_image_0 : decode cX9_image 0 = .ok (.aload_n 0, 1) := by decide +kernel
theorem dX9_image_1 : decode cX9_image 1 = .ok (.getfield 39, 3) := by decide +kernel
theorem dX9_image_4 : decode cX9_image 4 = .ok (.aload_n 0, 1) := by decide +kernel
theorem dX9_image_5 : decode cX9_image 5 = .ok (.getfield 35, 3) := by decide +kernel
theorem dX9_image_8 : decode cX9_image 8 = .ok (.invokevirtual 309, 3) := by decide +kernel
theorem dX9_image_11 : decode cX9_image 11 = .ok (.aload_n 0, 1) := by decide +kernel
theorem dX9_image_12 : decode cX9_image 12 = .ok (.iconst 1, 1) := by decide +kernel
theorem dX9_image_13 : decode cX9_image 13 = .ok (.putfield 98, 3) := by decide +kernel
theorem dX9_image_16 : decode cX9_image 16 = .ok (.return_, 1) := by decide +kernel
theorem dX9_restore_0 : decode cX9_restore 0 = .ok (.aload_n 0, 1) := by decide +kernel
theorem dX9_restore_1 : decode cX9_restore 1 = .ok (.getfield 98, 3) := by decide +kernel
theorem dX9_restore_4 : decode cX9_restore 4 = .ok (.ifCond .ne 5, 3) := by decide +kernel
theorem dX9_restore_7 : decode cX9_restore 7 = .ok (.iconst 0, 1) := by decide +kernel
theorem dX9_restore_8 : decode cX9_restore 8 = .ok (.ireturn, 1) := by decide +kernel
theorem dX9_restore_9 : decode cX9_restore 9 = .ok (.aload_n 0, 1) := by decide +kernel
theorem dX9_restore_10 : decode cX9_restore 10 = .ok (.getfield 35, 3) := by decide +kernel
theorem dX9_restore_13 : decode cX9_restore 13 = .ok (.aload_n 0, 1) := by decide +kernel
theorem dX9_restore_14 : decode cX9_restore 14 = .ok (.getfield 39, 3) := by decide +kernel
theorem dX9_restore_17 : decode cX9_restore 17 = .ok (.invokevirtual 309, 3) := by decide +kernel
theorem dX9_restore_20 : decode cX9_restore 20 = .ok (.iconst 1, 1) := by decide +kernel
theorem dX9_restore_21 : decode cX9_restore 21 = .ok (.ireturn, 1) := by decide +kernel
theorem dX9_needField_0 : decode cX9_needField 0 = .ok (.iload_n 1, 1) := by decide +kernel
theorem dX9_needField_1 : decode cX9_needField 1 = .ok (.ifCond .lt 14, 3) := by decide +kernel
theorem dX9_needField_4 : decode cX9_needField 4 = .ok (.iload_n 1, 1) := by decide +kernel
theorem dX9_needField_5 : decode cX9_needField 5 = .ok (.aload_n 0, 1) := by decide +kernel
theorem dX9_needField_6 : decode cX9_needField 6 = .ok (.getfield 16, 3) := by decide +kernel
theorem dX9_needField_9 : decode cX9_needField 9 = .ok (.getfield 102, 3) := by decide +kernel
theorem dX9_needField_12 : decode cX9_needField 12 = .ok (.if_icmp .lt 14, 3) := by decide +kernel
theorem dX9_needField_15 : decode cX9_needField 15 = .ok (.new 124, 3) := by decide +kernel
theorem dX9_needField_18 : decode cX9_needField 18 = .ok (.dup, 1) := by decide +kernel
theorem dX9_needField_19 : decode cX9_needField 19 = .ok (.ldc_w 313, 3) := by decide +kernel
theorem dX9_needField_22 : decode cX9_needField 22 = .ok (.invokespecial 128, 3) := by decide +kernel
theorem dX9_needField_25 : decode cX9_needField 25 = .ok (.athrow, 1) := by decide +kernel
theorem dX9_needField_26 : decode cX9_needField 26 = .ok (.return_, 1) := by decide +kernel
theorem dX9_needSinger_0 : decode cX9_needSinger 0 = .ok (.iload_n 1, 1) := by decide +kernel
theorem dX9_needSinger_1 : decode cX9_needSinger 1 = .ok (.ifCond .lt 14, 3) := by decide +kernel
theorem dX9_needSinger_4 : decode cX9_needSinger 4 = .ok (.iload_n 1, 1) := by decide +kernel
theorem dX9_needSinger_5 : decode cX9_needSinger 5 = .ok (.aload_n 0, 1) := by decide +kernel
theorem dX9_needSinger_6 : decode cX9_needSinger 6 = .ok (.getfield 16, 3) := by decide +kernel
theorem dX9_needSinger_9 : decode cX9_needSinger 9 = .ok (.getfield 108, 3) := by decide +kernel
theorem dX9_needSinger_12 : decode cX9_needSinger 12 = .ok (.if_icmp .lt 14, 3) := by decide +kernel
theorem dX9_needSinger_15 : decode cX9_needSinger 15 = .ok (.new 124, 3) := by decide +kernel
theorem dX9_needSinger_18 : decode cX9_needSinger 18 = .ok (.dup, 1) := by decide +kernel
theorem dX9_needSinger_19 : decode cX9_needSinger 19 = .ok (.ldc_w 315, 3) := by decide +kernel
theorem dX9_needSinger_22 : decode cX9_needSinger 22 = .ok (.invokespecial 128, 3) := by decide +kernel
theorem dX9_needSinger_25 : decode cX9_needSinger 25 = .ok (.athrow, 1) := by decide +kernel
theorem dX9_needSinger_26 : decode cX9_needSinger 26 = .ok (.return_, 1) := by decide +kernel
theorem dX9_needWhat_0 : decode cX9_needWhat 0 = .ok (.iload_n 1, 1) := by decide +kernel
theorem dX9_needWhat_1 : decode cX9_needWhat 1 = .ok (.ifCond .lt 8, 3) := by decide +kernel
theorem dX9_needWhat_4 : decode cX9_needWhat 4 = .ok (.iload_n 1, 1) := by decide +kernel
theorem dX9_needWhat_5 : decode cX9_needWhat 5 = .ok (.iload_n 2, 1) := by decide +kernel
theorem dX9_needWhat_6 : decode cX9_needWhat 6 = .ok (.if_icmp .le 14, 3) := by decide +kernel
theorem dX9_needWhat_9 : decode cX9_needWhat 9 = .ok (.new 124, 3) := by decide +kernel
theorem dX9_needWhat_12 : decode cX9_needWhat 12 = .ok (.dup, 1) := by decide +kernel
theorem dX9_needWhat_13 : decode cX9_needWhat 13 = .ok (.ldc_w 317, 3) := by decide +kernel
theorem dX9_needWhat_16 : decode cX9_needWhat 16 = .ok (.invokespecial 128, 3) := by decide +kernel
theorem dX9_needWhat_19 : decode cX9_needWhat 19 = .ok (.athrow, 1) := by decide +kernel
theorem dX9_needWhat_20 : decode cX9_needWhat 20 = .ok (.return_, 1) := by decide +kernel
theorem dX9_needHours_0 : decode cX9_needHours 0 = .ok (.iload_n 1, 1) := by decide +kernel
theorem dX9_needHours_1 : decode cX9_needHours 1 = .ok (.iload_n 2, 1) := by decide +kernel
theorem dX9_needHours_2 : decode cX9_needHours 2 = .ok (.if_icmp .lt 9, 3) := by decide +kernel
theorem dX9_needHours_5 : decode cX9_needHours 5 = .ok (.iload_n 1, 1) := by decide +kernel
theorem dX9_needHours_6 : decode cX9_needHours 6 = .ok (.bipush 60, 2) := by decide +kernel
theorem dX9_needHours_8 : decode cX9_needHours 8 = .ok (.if_icmp .le 14, 3) := by decide +kernel
theorem dX9_needHours_11 : decode cX9_needHours 11 = .ok (.new 78, 3) := by decide +kernel
theorem dX9_needHours_14 : decode cX9_needHours 14 = .ok (.dup, 1) := by decide +kernel
theorem dX9_needHours_15 : decode cX9_needHours 15 = .ok (.ldc_w 319, 3) := by decide +kernel
theorem dX9_needHours_18 : decode cX9_needHours 18 = .ok (.invokespecial 82, 3) := by decide +kernel
theorem dX9_needHours_21 : decode cX9_needHours 21 = .ok (.athrow, 1) := by decide +kernel
theorem dX9_needHours_22 : decode cX9_needHours 22 = .ok (.return_, 1) := by decide +kernel
