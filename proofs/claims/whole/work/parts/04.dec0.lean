theorem dX0_init_0 : decode cX0_init 0 = .ok (.aload_n 0, 1) := by decide +kernel
theorem dX0_init_1 : decode cX0_init 1 = .ok (.invokespecial 3, 3) := by decide +kernel
theorem dX0_init_4 : decode cX0_init 4 = .ok (.aload_n 0, 1) := by decide +kernel
theorem dX0_init_5 : decode cX0_init 5 = .ok (.bipush 106, 2) := by decide +kernel
theorem dX0_init_7 : decode cX0_init 7 = .ok (.newarray .int, 2) := by decide +kernel
theorem dX0_init_9 : decode cX0_init 9 = .ok (.putfield 9, 3) := by decide +kernel
theorem dX0_init_12 : decode cX0_init 12 = .ok (.aload_n 0, 1) := by decide +kernel
theorem dX0_init_13 : decode cX0_init 13 = .ok (.bipush 6, 2) := by decide +kernel
theorem dX0_init_15 : decode cX0_init 15 = .ok (.newarray .int, 2) := by decide +kernel
theorem dX0_init_17 : decode cX0_init 17 = .ok (.putfield 15, 3) := by decide +kernel
theorem dX0_init_20 : decode cX0_init 20 = .ok (.aload_n 0, 1) := by decide +kernel
theorem dX0_init_21 : decode cX0_init 21 = .ok (.bipush 6, 2) := by decide +kernel
theorem dX0_init_23 : decode cX0_init 23 = .ok (.newarray .int, 2) := by decide +kernel
theorem dX0_init_25 : decode cX0_init 25 = .ok (.putfield 18, 3) := by decide +kernel
theorem dX0_init_28 : decode cX0_init 28 = .ok (.aload_n 0, 1) := by decide +kernel
theorem dX0_init_29 : decode cX0_init 29 = .ok (.bipush 6, 2) := by decide +kernel
theorem dX0_init_31 : decode cX0_init 31 = .ok (.newarray .int, 2) := by decide +kernel
theorem dX0_init_33 : decode cX0_init 33 = .ok (.putfield 21, 3) := by decide +kernel
theorem dX0_init_36 : decode cX0_init 36 = .ok (.aload_n 0, 1) := by decide +kernel
theorem dX0_init_37 : decode cX0_init 37 = .ok (.bipush 8, 2) := by decide +kernel
theorem dX0_init_39 : decode cX0_init 39 = .ok (.newarray .int, 2) := by decide +kernel
theorem dX0_init_41 : decode cX0_init 41 = .ok (.putfield 24, 3) := by decide +kernel
theorem dX0_init_44 : decode cX0_init 44 = .ok (.aload_n 0, 1) := by decide +kernel
theorem dX0_init_45 : decode cX0_init 45 = .ok (.iconst 5, 1) := by decide +kernel
theorem dX0_init_46 : decode cX0_init 46 = .ok (.newarray .int, 2) := by decide +kernel
theorem dX0_init_48 : decode cX0_init 48 = .ok (.putfield 27, 3) := by decide +kernel
theorem dX0_init_51 : decode cX0_init 51 = .ok (.aload_n 0, 1) := by decide +kernel
theorem dX0_init_52 : decode cX0_init 52 = .ok (.aload_n 1, 1) := by decide +kernel
theorem dX0_init_53 : decode cX0_init 53 = .ok (.putfield 30, 3) := by decide +kernel
theorem dX0_init_56 : decode cX0_init 56 = .ok (.return_, 1) := by decide +kernel
theorem dX0_begin_0 : decode cX0_begin 0 = .ok (.aload_n 0, 1) := by decide +kernel
theorem dX0_begin_1 : decode cX0_begin 1 = .ok (.aload_n 1, 1) := by decide +kernel
theorem dX0_begin_2 : decode cX0_begin 2 = .ok (.putfield 30, 3) := by decide +kernel
theorem dX0_begin_5 : decode cX0_begin 5 = .ok (.aload_n 2, 1) := by decide +kernel
theorem dX0_begin_6 : decode cX0_begin 6 = .ok (.iconst 0, 1) := by decide +kernel
theorem dX0_begin_7 : decode cX0_begin 7 = .ok (.aload_n 0, 1) := by decide +kernel
theorem dX0_begin_8 : decode cX0_begin 8 = .ok (.getfield 9, 3) := by decide +kernel
theorem dX0_begin_11 : decode cX0_begin 11 = .ok (.iconst 0, 1) := by decide +kernel
theorem dX0_begin_12 : decode cX0_begin 12 = .ok (.bipush 106, 2) := by decide +kernel
theorem dX0_begin_14 : decode cX0_begin 14 = .ok (.invokestatic 34, 3) := by decide +kernel
theorem dX0_begin_17 : decode cX0_begin 17 = .ok (.aload_n 0, 1) := by decide +kernel
theorem dX0_begin_18 : decode cX0_begin 18 = .ok (.getfield 21, 3) := by decide +kernel
theorem dX0_begin_21 : decode cX0_begin 21 = .ok (.iconst 0, 1) := by decide +kernel
theorem dX0_begin_22 : decode cX0_begin 22 = .ok (.invokestatic 40, 3) := by decide +kernel
theorem dX0_begin_25 : decode cX0_begin 25 = .ok (.aload_n 0, 1) := by decide +kernel
theorem dX0_begin_26 : decode cX0_begin 26 = .ok (.getfield 24, 3) := by decide +kernel
theorem dX0_begin_29 : decode cX0_begin 29 = .ok (.iconst 0, 1) := by decide +kernel
theorem dX0_begin_30 : decode cX0_begin 30 = .ok (.invokestatic 40, 3) := by decide +kernel
theorem dX0_begin_33 : decode cX0_begin 33 = .ok (.aload_n 0, 1) := by decide +kernel
theorem dX0_begin_34 : decode cX0_begin 34 = .ok (.invokevirtual 46, 3) := by decide +kernel
theorem dX0_begin_37 : decode cX0_begin 37 = .ok (.return_, 1) := by decide +kernel
theorem dX0_findPlaces_0 : decode cX0_findPlaces 0 = .ok (.iconst 0, 1) := by decide +kernel
theorem dX0_findPlaces_1 : decode cX0_findPlaces 1 = .ok (.istore_n 1, 1) := by decide +kernel
theorem dX0_findPlaces_2 : decode cX0_findPlaces 2 = .ok (.iload_n 1, 1) := by decide +kernel
theorem dX0_findPlaces_3 : decode cX0_findPlaces 3 = .ok (.aload_n 0, 1) := by decide +kernel
theorem dX0_findPlaces_4 : decode cX0_findPlaces 4 = .ok (.getfield 30, 3) := by decide +kernel
theorem dX0_findPlaces_7 : decode cX0_findPlaces 7 = .ok (.getfield 49, 3) := by decide +kernel
theorem dX0_findPlaces_10 : decode cX0_findPlaces 10 = .ok (.if_icmp .ge 27, 3) := by decide +kernel
theorem dX0_findPlaces_13 : decode cX0_findPlaces 13 = .ok (.aload_n 0, 1) := by decide +kernel
theorem dX0_findPlaces_14 : decode cX0_findPlaces 14 = .ok (.getfield 15, 3) := by decide +kernel
theorem dX0_findPlaces_17 : decode cX0_findPlaces 17 = .ok (.iload_n 1, 1) := by decide +kernel
theorem dX0_findPlaces_18 : decode cX0_findPlaces 18 = .ok (.aload_n 0, 1) := by decide +kernel
theorem dX0_findPlaces_19 : decode cX0_findPlaces 19 = .ok (.getfield 30, 3) := by decide +kernel
theorem dX0_findPlaces_22 : decode cX0_findPlaces 22 = .ok (.aload_n 0, 1) := by decide +kernel
theorem dX0_findPlaces_23 : decode cX0_findPlaces 23 = .ok (.getfield 9, 3) := by decide +kernel
theorem dX0_findPlaces_26 : decode cX0_findPlaces 26 = .ok (.iload_n 1, 1) := by decide +kernel
theorem dX0_findPlaces_27 : decode cX0_findPlaces 27 = .ok (.invokevirtual 55, 3) := by decide +kernel
theorem dX0_findPlaces_30 : decode cX0_findPlaces 30 = .ok (.iastore, 1) := by decide +kernel
theorem dX0_findPlaces_31 : decode cX0_findPlaces 31 = .ok (.iinc 1 1, 3) := by decide +kernel
theorem dX0_findPlaces_34 : decode cX0_findPlaces 34 = .ok (.goto (-32), 3) := by decide +kernel
theorem dX0_findPlaces_37 : decode cX0_findPlaces 37 = .ok (.return_, 1) := by decide +kernel
theorem dX0_go_0 : decode cX0_go 0 = .ok (.iconst 0, 1) := by decide +kernel
theorem dX0_go_1 : decode cX0_go 1 = .ok (.istore_n 2, 1) := by decide +kernel
theorem dX0_go_2 : decode cX0_go 2 = .ok (.iload_n 2, 1) := by decide +kernel
theorem dX0_go_3 : decode cX0_go 3 = .ok (.iload_n 1, 1) := by decide +kernel
theorem dX0_go_4 : decode cX0_go 4 = .ok (.if_icmp .ge 13, 3) := by decide +kernel
theorem dX0_go_7 : decode cX0_go 7 = .ok (.aload_n 0, 1) := by decide +kernel
theorem dX0_go_8 : decode cX0_go 8 = .ok (.invokevirtual 59, 3) := by decide +kernel
theorem dX0_go_11 : decode cX0_go 11 = .ok (.iinc 2 1, 3) := by decide +kernel
theorem dX0_go_14 : decode cX0_go 14 = .ok (.goto (-12), 3) := by decide +kernel
theorem dX0_go_17 : decode cX0_go 17 = .ok (.return_, 1) := by decide +kernel
theorem dX0_goHour_0 : decode cX0_goHour 0 = .ok (.aload_n 0, 1) := by decide +kernel
theorem dX0_goHour_1 : decode cX0_goHour 1 = .ok (.invokevirtual 46, 3) := by decide +kernel
theorem dX0_goHour_4 : decode cX0_goHour 4 = .ok (.iconst 0, 1) := by decide +kernel
theorem dX0_goHour_5 : decode cX0_goHour 5 = .ok (.istore_n 1, 1) := by decide +kernel
theorem dX0_goHour_6 : decode cX0_goHour 6 = .ok (.iload_n 1, 1) := by decide +kernel
theorem dX0_goHour_7 : decode cX0_goHour 7 = .ok (.aload_n 0, 1) := by decide +kernel
theorem dX0_goHour_8 : decode cX0_goHour 8 = .ok (.getfield 30, 3) := by decide +kernel
theorem dX0_goHour_11 : decode cX0_goHour 11 = .ok (.getfield 49, 3) := by decide +kernel
theorem dX0_goHour_14 : decode cX0_goHour 14 = .ok (.if_icmp .ge 41, 3) := by decide +kernel
theorem dX0_goHour_17 : decode cX0_goHour 17 = .ok (.aload_n 0, 1) := by decide +kernel
theorem dX0_goHour_18 : decode cX0_goHour 18 = .ok (.getfield 18, 3) := by decide +kernel
theorem dX0_goHour_21 : decode cX0_goHour 21 = .ok (.iload_n 1, 1) := by decide +kernel
theorem dX0_goHour_22 : decode cX0_goHour 22 = .ok (.aload_n 0, 1) := by decide +kernel
theorem dX0_goHour_23 : decode cX0_goHour 23 = .ok (.iload_n 1, 1) := by decide +kernel
theorem dX0_goHour_24 : decode cX0_goHour 24 = .ok (.invokevirtual 62, 3) := by decide +kernel
theorem dX0_goHour_27 : decode cX0_goHour 27 = .ok (.iastore, 1) := by decide +kernel
theorem dX0_goHour_28 : decode cX0_goHour 28 = .ok (.aload_n 0, 1) := by decide +kernel
theorem dX0_goHour_29 : decode cX0_goHour 29 = .ok (.getfield 18, 3) := by decide +kernel
theorem dX0_goHour_32 : decode cX0_goHour 32 = .ok (.iload_n 1, 1) := by decide +kernel
theorem dX0_goHour_33 : decode cX0_goHour 33 = .ok (.iaload, 1) := by decide +kernel
theorem dX0_goHour_34 : decode cX0_goHour 34 = .ok (.iconst (-1), 1) := by decide +kernel
theorem dX0_goHour_35 : decode cX0_goHour 35 = .ok (.if_icmp .eq 14, 3) := by decide +kernel
theorem dX0_goHour_38 : decode cX0_goHour 38 = .ok (.aload_n 0, 1) := by decide +kernel
theorem dX0_goHour_39 : decode cX0_goHour 39 = .ok (.iload_n 1, 1) := by decide +kernel
theorem dX0_goHour_40 : decode cX0_goHour 40 = .ok (.aload_n 0, 1) := by decide +kernel
theorem dX0_goHour_41 : decode cX0_goHour 41 = .ok (.getfield 18, 3) := by decide +kernel
theorem dX0_goHour_44 : decode cX0_goHour 44 = .ok (.iload_n 1, 1) := by decide +kernel
theorem dX0_goHour_45 : decode cX0_goHour 45 = .ok (.iaload, 1) := by decide +kernel
theorem dX0_goHour_46 : decode cX0_goHour 46 = .ok (.invokevirtual 66, 3) := by decide +kernel
theorem dX0_goHour_49 : decode cX0_goHour 49 = .ok (.iinc 1 1, 3) := by decide +kernel
theorem dX0_goHour_52 : decode cX0_goHour 52 = .ok (.goto (-46), 3) := by decide +kernel
theorem dX0_goHour_55 : decode cX0_goHour 55 = .ok (.aload_n 0, 1) := by decide +kernel
theorem dX0_goHour_56 : decode cX0_goHour 56 = .ok (.getfield 9, 3) := by decide +kernel
theorem dX0_goHour_59 : decode cX0_goHour 59 = .ok (.iconst 0, 1) := by decide +kernel
theorem dX0_goHour_60 : decode cX0_goHour 60 = .ok (.dup2, 1) := by decide +kernel
theorem dX0_goHour_61 : decode cX0_goHour 61 = .ok (.iaload, 1) := by decide +kernel
theorem dX0_goHour_62 : decode cX0_goHour 62 = .ok (.iconst 1, 1) := by decide +kernel
theorem dX0_goHour_63 : decode cX0_goHour 63 = .ok (.iadd, 1) := by decide +kernel
theorem dX0_goHour_64 : decode cX0_goHour 64 = .ok (.iastore, 1) := by decide +kernel
theorem dX0_goHour_65 : decode cX0_goHour 65 = .ok (.return_, 1) := by decide +kernel
theorem dX0_tuneOf_0 : decode cX0_tuneOf 0 = .ok (.aload_n 0, 1) := by decide +kernel
theorem dX0_tuneOf_1 : decode cX0_tuneOf 1 = .ok (.getfield 15, 3) := by decide +kernel
theorem dX0_tuneOf_4 : decode cX0_tuneOf 4 = .ok (.iload_n 1, 1) := by decide +kernel
theorem dX0_tuneOf_5 : decode cX0_tuneOf 5 = .ok (.iaload, 1) := by decide +kernel
theorem dX0_tuneOf_6 : decode cX0_tuneOf 6 = .ok (.istore_n 2, 1) := by decide +kernel
theorem dX0_tuneOf_7 : decode cX0_tuneOf 7 = .ok (.aload_n 0, 1) := by decide +kernel
theorem dX0_tuneOf_8 : decode cX0_tuneOf 8 = .ok (.getfield 30, 3) := by decide +kernel
theorem dX0_tuneOf_11 : decode cX0_tuneOf 11 = .ok (.getfield 70, 3) := by decide +kernel
theorem dX0_tuneOf_14 : decode cX0_tuneOf 14 = .ok (.getfield 74, 3) := by decide +kernel
theorem dX0_tuneOf_17 : decode cX0_tuneOf 17 = .ok (.ifCond .eq 101, 3) := by decide +kernel
theorem dX0_tuneOf_20 : decode cX0_tuneOf 20 = .ok (.aload_n 0, 1) := by decide +kernel
theorem dX0_tuneOf_21 : decode cX0_tuneOf 21 = .ok (.getfield 30, 3) := by decide +kernel
theorem dX0_tuneOf_24 : decode cX0_tuneOf 24 = .ok (.getfield 80, 3) := by decide +kernel
theorem dX0_tuneOf_27 : decode cX0_tuneOf 27 = .ok (.ifCond .le 91, 3) := by decide +kernel
theorem dX0_tuneOf_30 : decode cX0_tuneOf 30 = .ok (.aload_n 0, 1) := by decide +kernel
theorem dX0_tuneOf_31 : decode cX0_tuneOf 31 = .ok (.getfield 27, 3) := by decide +kernel
theorem dX0_tuneOf_34 : decode cX0_tuneOf 34 = .ok (.iconst 0, 1) := by decide +kernel
theorem dX0_tuneOf_35 : decode cX0_tuneOf 35 = .ok (.aload_n 0, 1) := by decide +kernel
theorem dX0_tuneOf_36 : decode cX0_tuneOf 36 = .ok (.getfield 9, 3) := by decide +kernel
theorem dX0_tuneOf_39 : decode cX0_tuneOf 39 = .ok (.iconst 0, 1) := by decide +kernel
theorem dX0_tuneOf_40 : decode cX0_tuneOf 40 = .ok (.iaload, 1) := by decide +kernel
theorem dX0_tuneOf_41 : decode cX0_tuneOf 41 = .ok (.iastore, 1) := by decide +kernel
theorem dX0_tuneOf_42 : decode cX0_tuneOf 42 = .ok (.aload_n 0, 1) := by decide +kernel
theorem dX0_tuneOf_43 : decode cX0_tuneOf 43 = .ok (.getfield 27, 3) := by decide +kernel
theorem dX0_tuneOf_46 : decode cX0_tuneOf 46 = .ok (.iconst 1, 1) := by decide +kernel
theorem dX0_tuneOf_47 : decode cX0_tuneOf 47 = .ok (.iload_n 1, 1) := by decide +kernel
theorem dX0_tuneOf_48 : decode cX0_tuneOf 48 = .ok (.iastore, 1) := by decide +kernel
theorem dX0_tuneOf_49 : decode cX0_tuneOf 49 = .ok (.aload_n 0, 1) := by decide +kernel
theorem dX0_tuneOf_50 : decode cX0_tuneOf 50 = .ok (.getfield 27, 3) := by decide +kernel
theorem dX0_tuneOf_53 : decode cX0_tuneOf 53 = .ok (.iconst 2, 1) := by decide +kernel
theorem dX0_tuneOf_54 : decode cX0_tuneOf 54 = .ok (.aload_n 0, 1) := by decide +kernel
theorem dX0_tuneOf_55 : decode cX0_tuneOf 55 = .ok (.getfield 15, 3) := by decide +kernel
theorem dX0_tuneOf_58 : decode cX0_tuneOf 58 = .ok (.iload_n 1, 1) := by decide +kernel
theorem dX0_tuneOf_59 : decode cX0_tuneOf 59 = .ok (.iaload, 1) := by decide +kernel
theorem dX0_tuneOf_60 : decode cX0_tuneOf 60 = .ok (.iastore, 1) := by decide +kernel
theorem dX0_tuneOf_61 : decode cX0_tuneOf 61 = .ok (.aload_n 0, 1) := by decide +kernel
theorem dX0_tuneOf_62 : decode cX0_tuneOf 62 = .ok (.getfield 27, 3) := by decide +kernel
theorem dX0_tuneOf_65 : decode cX0_tuneOf 65 = .ok (.iconst 3, 1) := by decide +kernel
theorem dX0_tuneOf_66 : decode cX0_tuneOf 66 = .ok (.aload_n 0, 1) := by decide +kernel
theorem dX0_tuneOf_67 : decode cX0_tuneOf 67 = .ok (.getfield 9, 3) := by decide +kernel
theorem dX0_tuneOf_70 : decode cX0_tuneOf 70 = .ok (.iconst 2, 1) := by decide +kernel
theorem dX0_tuneOf_71 : decode cX0_tuneOf 71 = .ok (.iload_n 1, 1) := by decide +kernel
theorem dX0_tuneOf_72 : decode cX0_tuneOf 72 = .ok (.iadd, 1) := by decide +kernel
theorem dX0_tuneOf_73 : decode cX0_tuneOf 73 = .ok (.iaload, 1) := by decide +kernel
theorem dX0_tuneOf_74 : decode cX0_tuneOf 74 = .ok (.invokestatic 83, 3) := by decide +kernel
theorem dX0_tuneOf_77 : decode cX0_tuneOf 77 = .ok (.iastore, 1) := by decide +kernel
theorem dX0_tuneOf_78 : decode cX0_tuneOf 78 = .ok (.aload_n 0, 1) := by decide +kernel
theorem dX0_tuneOf_79 : decode cX0_tuneOf 79 = .ok (.getfield 27, 3) := by decide +kernel
theorem dX0_tuneOf_82 : decode cX0_tuneOf 82 = .ok (.iconst 4, 1) := by decide +kernel
theorem dX0_tuneOf_83 : decode cX0_tuneOf 83 = .ok (.aload_n 0, 1) := by decide +kernel
theorem dX0_tuneOf_84 : decode cX0_tuneOf 84 = .ok (.getfield 9, 3) := by decide +kernel
theorem dX0_tuneOf_87 : decode cX0_tuneOf 87 = .ok (.bipush 8, 2) := by decide +kernel
theorem dX0_tuneOf_89 : decode cX0_tuneOf 89 = .ok (.iload_n 1, 1) := by decide +kernel
theorem dX0_tuneOf_90 : decode cX0_tuneOf 90 = .ok (.iadd, 1) := by decide +kernel
theorem dX0_tuneOf_91 : decode cX0_tuneOf 91 = .ok (.iaload, 1) := by decide +kernel
theorem dX0_tuneOf_92 : decode cX0_tuneOf 92 = .ok (.iastore, 1) := by decide +kernel
theorem dX0_tuneOf_93 : decode cX0_tuneOf 93 = .ok (.aload_n 0, 1) := by decide +kernel
theorem dX0_tuneOf_94 : decode cX0_tuneOf 94 = .ok (.getfield 30, 3) := by decide +kernel
theorem dX0_tuneOf_97 : decode cX0_tuneOf 97 = .ok (.getfield 70, 3) := by decide +kernel
theorem dX0_tuneOf_100 : decode cX0_tuneOf 100 = .ok (.aload_n 0, 1) := by decide +kernel
theorem dX0_tuneOf_101 : decode cX0_tuneOf 101 = .ok (.getfield 27, 3) := by decide +kernel
theorem dX0_tuneOf_104 : decode cX0_tuneOf 104 = .ok (.invokevirtual 88, 3) := by decide +kernel
theorem dX0_tuneOf_107 : decode cX0_tuneOf 107 = .ok (.aload_n 0, 1) := by decide +kernel
theorem dX0_tuneOf_108 : decode cX0_tuneOf 108 = .ok (.getfield 30, 3) := by decide +kernel
theorem dX0_tuneOf_111 : decode cX0_tuneOf 111 = .ok (.getfield 80, 3) := by decide +kernel
theorem dX0_tuneOf_114 : decode cX0_tuneOf 114 = .ok (.invokestatic 92, 3) := by decide +kernel
theorem dX0_tuneOf_117 : decode cX0_tuneOf 117 = .ok (.istore_n 2, 1) := by decide +kernel
theorem dX0_tuneOf_118 : decode cX0_tuneOf 118 = .ok (.aload_n 0, 1) := by decide +kernel
theorem dX0_tuneOf_119 : decode cX0_tuneOf 119 = .ok (.getfield 9, 3) := by decide +kernel
theorem dX0_tuneOf_122 : decode cX0_tuneOf 122 = .ok (.iconst 2, 1) := by decide +kernel
theorem dX0_tuneOf_123 : decode cX0_tuneOf 123 = .ok (.iload_n 1, 1) := by decide +kernel
theorem dX0_tuneOf_124 : decode cX0_tuneOf 124 = .ok (.iadd, 1) := by decide +kernel
theorem dX0_tuneOf_125 : decode cX0_tuneOf 125 = .ok (.iaload, 1) := by decide +kernel
theorem dX0_tuneOf_126 : decode cX0_tuneOf 126 = .ok (.iload_n 2, 1) := by decide +kernel
theorem dX0_tuneOf_127 : decode cX0_tuneOf 127 = .ok (.ishr, 1) := by decide +kernel
theorem dX0_tuneOf_128 : decode cX0_tuneOf 128 = .ok (.iconst 1, 1) := by decide +kernel
theorem dX0_tuneOf_129 : decode cX0_tuneOf 129 = .ok (.iand, 1) := by decide +kernel
theorem dX0_tuneOf_130 : decode cX0_tuneOf 130 = .ok (.ifCond .eq 7, 3) := by decide +kernel
theorem dX0_tuneOf_133 : decode cX0_tuneOf 133 = .ok (.iload_n 2, 1) := by decide +kernel
theorem dX0_tuneOf_134 : decode cX0_tuneOf 134 = .ok (.goto 4, 3) := by decide +kernel
theorem dX0_tuneOf_137 : decode cX0_tuneOf 137 = .ok (.iconst (-1), 1) := by decide +kernel
theorem dX0_tuneOf_138 : decode cX0_tuneOf 138 = .ok (.ireturn, 1) := by decide +kernel
theorem dX0_letSing_0 : decode cX0_letSing 0 = .ok (.aload_n 0, 1) := by decide +kernel
theorem dX0_letSing_1 : decode cX0_letSing 1 = .ok (.aload_n 0, 1) := by decide +kernel
theorem dX0_letSing_2 : decode cX0_letSing 2 = .ok (.getfield 15, 3) := by decide +kernel
theorem dX0_letSing_5 : decode cX0_letSing 5 = .ok (.iload_n 1, 1) := by decide +kernel
theorem dX0_letSing_6 : decode cX0_letSing 6 = .ok (.iaload, 1) := by decide +kernel
theorem dX0_letSing_7 : decode cX0_letSing 7 = .ok (.iload_n 2, 1) := by decide +kernel
theorem dX0_letSing_8 : decode cX0_letSing 8 = .ok (.iload_n 1, 1) := by decide +kernel
theorem dX0_letSing_9 : decode cX0_letSing 9 = .ok (.invokevirtual 98, 3) := by decide +kernel
theorem dX0_letSing_12 : decode cX0_letSing 12 = .ok (.istore_n 3, 1) := by decide +kernel
theorem dX0_letSing_13 : decode cX0_letSing 13 = .ok (.bipush 14, 2) := by decide +kernel
theorem dX0_letSing_15 : decode cX0_letSing 15 = .ok (.iload_n 1, 1) := by decide +kernel
theorem dX0_letSing_16 : decode cX0_letSing 16 = .ok (.bipush 8, 2) := by decide +kernel
theorem dX0_letSing_18 : decode cX0_letSing 18 = .ok (.imul, 1) := by decide +kernel
theorem dX0_letSing_19 : decode cX0_letSing 19 = .ok (.iadd, 1) := by decide +kernel
theorem dX0_letSing_20 : decode cX0_letSing 20 = .ok (.iload_n 2, 1) := by decide +kernel
theorem dX0_letSing_21 : decode cX0_letSing 21 = .ok (.iadd, 1) := by decide +kernel
theorem dX0_letSing_22 : decode cX0_letSing 22 = .ok (.istore 4, 2) := by decide +kernel
theorem dX0_letSing_24 : decode cX0_letSing 24 = .ok (.aload_n 0, 1) := by decide +kernel
theorem dX0_letSing_25 : decode cX0_letSing 25 = .ok (.iload_n 1, 1) := by decide +kernel
theorem dX0_letSing_26 : decode cX0_letSing 26 = .ok (.iload_n 2, 1) := by decide +kernel
theorem dX0_letSing_27 : decode cX0_letSing 27 = .ok (.invokevirtual 102, 3) := by decide +kernel
theorem dX0_letSing_30 : decode cX0_letSing 30 = .ok (.ifCond .eq 112, 3) := by decide +kernel
theorem dX0_letSing_33 : decode cX0_letSing 33 = .ok (.aload_n 0, 1) := by decide +kernel
theorem dX0_letSing_34 : decode cX0_letSing 34 = .ok (.iload_n 1, 1) := by decide +kernel
theorem dX0_letSing_35 : decode cX0_letSing 35 = .ok (.iload_n 2, 1) := by decide +kernel
theorem dX0_letSing_36 : decode cX0_letSing 36 = .ok (.iload_n 3, 1) := by decide +kernel
theorem dX0_letSing_37 : decode cX0_letSing 37 = .ok (.invokevirtual 106, 3) := by decide +kernel
theorem dX0_letSing_40 : decode cX0_letSing 40 = .ok (.istore 5, 2) := by decide +kernel
theorem dX0_letSing_42 : decode cX0_letSing 42 = .ok (.aload_n 0, 1) := by decide +kernel
theorem dX0_letSing_43 : decode cX0_letSing 43 = .ok (.getfield 9, 3) := by decide +kernel
theorem dX0_letSing_46 : decode cX0_letSing 46 = .ok (.bipush 98, 2) := by decide +kernel
theorem dX0_letSing_48 : decode cX0_letSing 48 = .ok (.iload_n 2, 1) := by decide +kernel
theorem dX0_letSing_49 : decode cX0_letSing 49 = .ok (.iadd, 1) := by decide +kernel
theorem dX0_letSing_50 : decode cX0_letSing 50 = .ok (.iaload, 1) := by decide +kernel
theorem dX0_letSing_51 : decode cX0_letSing 51 = .ok (.istore 6, 2) := by decide +kernel
theorem dX0_letSing_53 : decode cX0_letSing 53 = .ok (.aload_n 0, 1) := by decide +kernel
theorem dX0_letSing_54 : decode cX0_letSing 54 = .ok (.getfield 9, 3) := by decide +kernel
theorem dX0_letSing_57 : decode cX0_letSing 57 = .ok (.bipush 8, 2) := by decide +kernel
theorem dX0_letSing_59 : decode cX0_letSing 59 = .ok (.iload_n 1, 1) := by decide +kernel
theorem dX0_letSing_60 : decode cX0_letSing 60 = .ok (.iadd, 1) := by decide +kernel
theorem dX0_letSing_61 : decode cX0_letSing 61 = .ok (.sipush (-9999), 3) := by decide +kernel
theorem dX0_letSing_64 : decode cX0_letSing 64 = .ok (.aload_n 0, 1) := by decide +kernel
theorem dX0_letSing_65 : decode cX0_letSing 65 = .ok (.getfield 9, 3) := by decide +kernel
theorem dX0_letSing_68 : decode cX0_letSing 68 = .ok (.bipush 8, 2) := by decide +kernel
theorem dX0_letSing_70 : decode cX0_letSing 70 = .ok (.iload_n 1, 1) := by decide +kernel
theorem dX0_letSing_71 : decode cX0_letSing 71 = .ok (.iadd, 1) := by decide +kernel
theorem dX0_letSing_72 : decode cX0_letSing 72 = .ok (.iaload, 1) := by decide +kernel
theorem dX0_letSing_73 : decode cX0_letSing 73 = .ok (.iload 5, 2) := by decide +kernel
theorem dX0_letSing_75 : decode cX0_letSing 75 = .ok (.isub, 1) := by decide +kernel
theorem dX0_letSing_76 : decode cX0_letSing 76 = .ok (.invokestatic 109, 3) := by decide +kernel
theorem dX0_letSing_79 : decode cX0_letSing 79 = .ok (.iastore, 1) := by decide +kernel
theorem dX0_letSing_80 : decode cX0_letSing 80 = .ok (.aload_n 0, 1) := by decide +kernel
theorem dX0_letSing_81 : decode cX0_letSing 81 = .ok (.getfield 9, 3) := by decide +kernel
theorem dX0_letSing_84 : decode cX0_letSing 84 = .ok (.bipush 8, 2) := by decide +kernel
theorem dX0_letSing_86 : decode cX0_letSing 86 = .ok (.iload 6, 2) := by decide +kernel
theorem dX0_letSing_88 : decode cX0_letSing 88 = .ok (.iadd, 1) := by decide +kernel
theorem dX0_letSing_89 : decode cX0_letSing 89 = .ok (.sipush 9999, 3) := by decide +kernel
theorem dX0_letSing_92 : decode cX0_letSing 92 = .ok (.aload_n 0, 1) := by decide +kernel
theorem dX0_letSing_93 : decode cX0_letSing 93 = .ok (.getfield 9, 3) := by decide +kernel
theorem dX0_letSing_96 : decode cX0_letSing 96 = .ok (.bipush 8, 2) := by decide +kernel
theorem dX0_letSing_98 : decode cX0_letSing 98 = .ok (.iload 6, 2) := by decide +kernel
theorem dX0_letSing_100 : decode cX0_letSing 100 = .ok (.iadd, 1) := by decide +kernel
theorem dX0_letSing_101 : decode cX0_letSing 101 = .ok (.iaload, 1) := by decide +kernel
theorem dX0_letSing_102 : decode cX0_letSing 102 = .ok (.iload 5, 2) := by decide +kernel
theorem dX0_letSing_104 : decode cX0_letSing 104 = .ok (.iadd, 1) := by decide +kernel
theorem dX0_letSing_105 : decode cX0_letSing 105 = .ok (.invokestatic 112, 3) := by decide +kernel
theorem dX0_letSing_108 : decode cX0_letSing 108 = .ok (.iastore, 1) := by decide +kernel
theorem dX0_letSing_109 : decode cX0_letSing 109 = .ok (.aload_n 0, 1) := by decide +kernel
theorem dX0_letSing_110 : decode cX0_letSing 110 = .ok (.getfield 9, 3) := by decide +kernel
theorem dX0_letSing_113 : decode cX0_letSing 113 = .ok (.iconst 1, 1) := by decide +kernel
theorem dX0_letSing_114 : decode cX0_letSing 114 = .ok (.dup2, 1) := by decide +kernel
theorem dX0_letSing_115 : decode cX0_letSing 115 = .ok (.iaload, 1) := by decide +kernel
theorem dX0_letSing_116 : decode cX0_letSing 116 = .ok (.iconst 1, 1) := by decide +kernel
theorem dX0_letSing_117 : decode cX0_letSing 117 = .ok (.iadd, 1) := by decide +kernel
theorem dX0_letSing_118 : decode cX0_letSing 118 = .ok (.iastore, 1) := by decide +kernel
theorem dX0_letSing_119 : decode cX0_letSing 119 = .ok (.aload_n 0, 1) := by decide +kernel
theorem dX0_letSing_120 : decode cX0_letSing 120 = .ok (.getfield 21, 3) := by decide +kernel
theorem dX0_letSing_123 : decode cX0_letSing 123 = .ok (.iload_n 1, 1) := by decide +kernel
theorem dX0_letSing_124 : decode cX0_letSing 124 = .ok (.dup2, 1) := by decide +kernel
theorem dX0_letSing_125 : decode cX0_letSing 125 = .ok (.iaload, 1) := by decide +kernel
theorem dX0_letSing_126 : decode cX0_letSing 126 = .ok (.iconst 1, 1) := by decide +kernel
theorem dX0_letSing_127 : decode cX0_letSing 127 = .ok (.iadd, 1) := by decide +kernel
theorem dX0_letSing_128 : decode cX0_letSing 128 = .ok (.iastore, 1) := by decide +kernel
theorem dX0_letSing_129 : decode cX0_letSing 129 = .ok (.aload_n 0, 1) := by decide +kernel
theorem dX0_letSing_130 : decode cX0_letSing 130 = .ok (.getfield 24, 3) := by decide +kernel
theorem dX0_letSing_133 : decode cX0_letSing 133 = .ok (.iload_n 2, 1) := by decide +kernel
theorem dX0_letSing_134 : decode cX0_letSing 134 = .ok (.dup2, 1) := by decide +kernel
theorem dX0_letSing_135 : decode cX0_letSing 135 = .ok (.iaload, 1) := by decide +kernel
theorem dX0_letSing_136 : decode cX0_letSing 136 = .ok (.iconst 1, 1) := by decide +kernel
theorem dX0_letSing_137 : decode cX0_letSing 137 = .ok (.iadd, 1) := by decide +kernel
theorem dX0_letSing_138 : decode cX0_letSing 138 = .ok (.iastore, 1) := by decide +kernel
theorem dX0_letSing_139 : decode cX0_letSing 139 = .ok (.goto 34, 3) := by decide +kernel
theorem dX0_letSing_142 : decode cX0_letSing 142 = .ok (.iload_n 2, 1) := by decide +kernel
theorem dX0_letSing_143 : decode cX0_letSing 143 = .ok (.aload_n 0, 1) := by decide +kernel
theorem dX0_letSing_144 : decode cX0_letSing 144 = .ok (.getfield 15, 3) := by decide +kernel
theorem dX0_letSing_147 : decode cX0_letSing 147 = .ok (.iload_n 1, 1) := by decide +kernel
theorem dX0_letSing_148 : decode cX0_letSing 148 = .ok (.iaload, 1) := by decide +kernel
theorem dX0_letSing_149 : decode cX0_letSing 149 = .ok (.if_icmp .eq 24, 3) := by decide +kernel
theorem dX0_letSing_152 : decode cX0_letSing 152 = .ok (.aload_n 0, 1) := by decide +kernel
theorem dX0_letSing_153 : decode cX0_letSing 153 = .ok (.getfield 9, 3) := by decide +kernel
theorem dX0_letSing_156 : decode cX0_letSing 156 = .ok (.iload 4, 2) := by decide +kernel
theorem dX0_letSing_158 : decode cX0_letSing 158 = .ok (.iaload, 1) := by decide +kernel
theorem dX0_letSing_159 : decode cX0_letSing 159 = .ok (.ifCond .le 14, 3) := by decide +kernel
theorem dX0_letSing_162 : decode cX0_letSing 162 = .ok (.aload_n 0, 1) := by decide +kernel
theorem dX0_letSing_163 : decode cX0_letSing 163 = .ok (.getfield 9, 3) := by decide +kernel
theorem dX0_letSing_166 : decode cX0_letSing 166 = .ok (.iload 4, 2) := by decide +kernel
theorem dX0_letSing_168 : decode cX0_letSing 168 = .ok (.dup2, 1) := by decide +kernel
theorem dX0_letSing_169 : decode cX0_letSing 169 = .ok (.iaload, 1) := by decide +kernel
theorem dX0_letSing_170 : decode cX0_letSing 170 = .ok (.iconst 1, 1) := by decide +kernel
theorem dX0_letSing_171 : decode cX0_letSing 171 = .ok (.isub, 1) := by decide +kernel
theorem dX0_letSing_172 : decode cX0_letSing 172 = .ok (.iastore, 1) := by decide +kernel
theorem dX0_letSing_173 : decode cX0_letSing 173 = .ok (.return_, 1) := by decide +kernel
theorem dX0_spread_0 : decode cX0_spread 0 = .ok (.aload_n 0, 1) := by decide +kernel
theorem dX0_spread_1 : decode cX0_spread 1 = .ok (.getfield 30, 3) := by decide +kernel
theorem dX0_spread_4 : decode cX0_spread 4 = .ok (.getfield 115, 3) := by decide +kernel
theorem dX0_spread_7 : decode cX0_spread 7 = .ok (.iload_n 1, 1) := by decide +kernel
theorem dX0_spread_8 : decode cX0_spread 8 = .ok (.iaload, 1) := by decide +kernel
theorem dX0_spread_9 : decode cX0_spread 9 = .ok (.iconst 1, 1) := by decide +kernel
theorem dX0_spread_10 : decode cX0_spread 10 = .ok (.iload_n 1, 1) := by decide +kernel
theorem dX0_spread_11 : decode cX0_spread 11 = .ok (.ishl, 1) := by decide +kernel
theorem dX0_spread_12 : decode cX0_spread 12 = .ok (.ior, 1) := by decide +kernel
theorem dX0_spread_13 : decode cX0_spread 13 = .ok (.istore 4, 2) := by decide +kernel
theorem dX0_spread_15 : decode cX0_spread 15 = .ok (.iconst 0, 1) := by decide +kernel
theorem dX0_spread_16 : decode cX0_spread 16 = .ok (.istore 5, 2) := by decide +kernel
theorem dX0_spread_18 : decode cX0_spread 18 = .ok (.iconst 0, 1) := by decide +kernel
theorem dX0_spread_19 : decode cX0_spread 19 = .ok (.istore 6, 2) := by decide +kernel
theorem dX0_spread_21 : decode cX0_spread 21 = .ok (.iload 6, 2) := by decide +kernel
theorem dX0_spread_23 : decode cX0_spread 23 = .ok (.aload_n 0, 1) := by decide +kernel
theorem dX0_spread_24 : decode cX0_spread 24 = .ok (.getfield 30, 3) := by decide +kernel
theorem dX0_spread_27 : decode cX0_spread 27 = .ok (.getfield 49, 3) := by decide +kernel
theorem dX0_spread_30 : decode cX0_spread 30 = .ok (.if_icmp .ge 48, 3) := by decide +kernel
theorem dX0_spread_33 : decode cX0_spread 33 = .ok (.iload 6, 2) := by decide +kernel
theorem dX0_spread_35 : decode cX0_spread 35 = .ok (.iload_n 3, 1) := by decide +kernel
theorem dX0_spread_36 : decode cX0_spread 36 = .ok (.if_icmp .eq 36, 3) := by decide +kernel
theorem dX0_spread_39 : decode cX0_spread 39 = .ok (.iload 4, 2) := by decide +kernel
theorem dX0_spread_41 : decode cX0_spread 41 = .ok (.aload_n 0, 1) := by decide +kernel
theorem dX0_spread_42 : decode cX0_spread 42 = .ok (.getfield 15, 3) := by decide +kernel
theorem dX0_spread_45 : decode cX0_spread 45 = .ok (.iload 6, 2) := by decide +kernel
theorem dX0_spread_47 : decode cX0_spread 47 = .ok (.iaload, 1) := by decide +kernel
theorem dX0_spread_48 : decode cX0_spread 48 = .ok (.ishr, 1) := by decide +kernel
theorem dX0_spread_49 : decode cX0_spread 49 = .ok (.iconst 1, 1) := by decide +kernel
theorem dX0_spread_50 : decode cX0_spread 50 = .ok (.iand, 1) := by decide +kernel
theorem dX0_spread_51 : decode cX0_spread 51 = .ok (.ifCond .eq 21, 3) := by decide +kernel
theorem dX0_spread_54 : decode cX0_spread 54 = .ok (.aload_n 0, 1) := by decide +kernel
theorem dX0_spread_55 : decode cX0_spread 55 = .ok (.getfield 9, 3) := by decide +kernel
theorem dX0_spread_58 : decode cX0_spread 58 = .ok (.iconst 2, 1) := by decide +kernel
theorem dX0_spread_59 : decode cX0_spread 59 = .ok (.iload 6, 2) := by decide +kernel
theorem dX0_spread_61 : decode cX0_spread 61 = .ok (.iadd, 1) := by decide +kernel
theorem dX0_spread_62 : decode cX0_spread 62 = .ok (.dup2, 1) := by decide +kernel
theorem dX0_spread_63 : decode cX0_spread 63 = .ok (.iaload, 1) := by decide +kernel
theorem dX0_spread_64 : decode cX0_spread 64 = .ok (.iconst 1, 1) := by decide +kernel
theorem dX0_spread_65 : decode cX0_spread 65 = .ok (.iload_n 2, 1) := by decide +kernel
theorem dX0_spread_66 : decode cX0_spread 66 = .ok (.ishl, 1) := by decide +kernel
theorem dX0_spread_67 : decode cX0_spread 67 = .ok (.ior, 1) := by decide +kernel
theorem dX0_spread_68 : decode cX0_spread 68 = .ok (.iastore, 1) := by decide +kernel
theorem dX0_spread_69 : decode cX0_spread 69 = .ok (.iinc 5 1, 3) := by decide +kernel
theorem dX0_spread_72 : decode cX0_spread 72 = .ok (.iinc 6 1, 3) := by decide +kernel
theorem dX0_spread_75 : decode cX0_spread 75 = .ok (.goto (-54), 3) := by decide +kernel
theorem dX0_spread_78 : decode cX0_spread 78 = .ok (.iload 5, 2) := by decide +kernel
theorem dX0_spread_80 : decode cX0_spread 80 = .ok (.ireturn, 1) := by decide +kernel
theorem dX0_wouldTrespass_0 : decode cX0_wouldTrespass 0 = .ok (.aload_n 0, 1) := by decide +kernel
theorem dX0_wouldTrespass_1 : decode cX0_wouldTrespass 1 = .ok (.getfield 9, 3) := by decide +kernel
theorem dX0_wouldTrespass_4 : decode cX0_wouldTrespass 4 = .ok (.bipush 98, 2) := by decide +kernel
theorem dX0_wouldTrespass_6 : decode cX0_wouldTrespass 6 = .ok (.iload_n 2, 1) := by decide +kernel
theorem dX0_wouldTrespass_7 : decode cX0_wouldTrespass 7 = .ok (.iadd, 1) := by decide +kernel
theorem dX0_wouldTrespass_8 : decode cX0_wouldTrespass 8 = .ok (.iaload, 1) := by decide +kernel
theorem dX0_wouldTrespass_9 : decode cX0_wouldTrespass 9 = .ok (.istore_n 3, 1) := by decide +kernel
theorem dX0_wouldTrespass_10 : decode cX0_wouldTrespass 10 = .ok (.iload_n 2, 1) := by decide +kernel
theorem dX0_wouldTrespass_11 : decode cX0_wouldTrespass 11 = .ok (.aload_n 0, 1) := by decide +kernel
theorem dX0_wouldTrespass_12 : decode cX0_wouldTrespass 12 = .ok (.getfield 15, 3) := by decide +kernel
theorem dX0_wouldTrespass_15 : decode cX0_wouldTrespass 15 = .ok (.iload_n 1, 1) := by decide +kernel
theorem dX0_wouldTrespass_16 : decode cX0_wouldTrespass 16 = .ok (.iaload, 1) := by decide +kernel
theorem dX0_wouldTrespass_17 : decode cX0_wouldTrespass 17 = .ok (.if_icmp .eq 34, 3) := by decide +kernel
theorem dX0_wouldTrespass_20 : decode cX0_wouldTrespass 20 = .ok (.aload_n 0, 1) := by decide +kernel
theorem dX0_wouldTrespass_21 : decode cX0_wouldTrespass 21 = .ok (.getfield 9, 3) := by decide +kernel
theorem dX0_wouldTrespass_24 : decode cX0_wouldTrespass 24 = .ok (.bipush 14, 2) := by decide +kernel
theorem dX0_wouldTrespass_26 : decode cX0_wouldTrespass 26 = .ok (.iload_n 1, 1) := by decide +kernel
theorem dX0_wouldTrespass_27 : decode cX0_wouldTrespass 27 = .ok (.bipush 8, 2) := by decide +kernel
theorem dX0_wouldTrespass_29 : decode cX0_wouldTrespass 29 = .ok (.imul, 1) := by decide +kernel
theorem dX0_wouldTrespass_30 : decode cX0_wouldTrespass 30 = .ok (.iadd, 1) := by decide +kernel
theorem dX0_wouldTrespass_31 : decode cX0_wouldTrespass 31 = .ok (.iload_n 2, 1) := by decide +kernel
theorem dX0_wouldTrespass_32 : decode cX0_wouldTrespass 32 = .ok (.iadd, 1) := by decide +kernel
theorem dX0_wouldTrespass_33 : decode cX0_wouldTrespass 33 = .ok (.iaload, 1) := by decide +kernel
theorem dX0_wouldTrespass_34 : decode cX0_wouldTrespass 34 = .ok (.ifCond .ne 17, 3) := by decide +kernel
theorem dX0_wouldTrespass_37 : decode cX0_wouldTrespass 37 = .ok (.iload_n 3, 1) := by decide +kernel
theorem dX0_wouldTrespass_38 : decode cX0_wouldTrespass 38 = .ok (.iconst (-1), 1) := by decide +kernel
theorem dX0_wouldTrespass_39 : decode cX0_wouldTrespass 39 = .ok (.if_icmp .eq 12, 3) := by decide +kernel
theorem dX0_wouldTrespass_42 : decode cX0_wouldTrespass 42 = .ok (.iload_n 3, 1) := by decide +kernel
theorem dX0_wouldTrespass_43 : decode cX0_wouldTrespass 43 = .ok (.iload_n 1, 1) := by decide +kernel
theorem dX0_wouldTrespass_44 : decode cX0_wouldTrespass 44 = .ok (.if_icmp .eq 7, 3) := by decide +kernel
theorem dX0_wouldTrespass_47 : decode cX0_wouldTrespass 47 = .ok (.iconst 1, 1) := by decide +kernel
theorem dX0_wouldTrespass_48 : decode cX0_wouldTrespass 48 = .ok (.goto 4, 3) := by decide +kernel
theorem dX0_wouldTrespass_51 : decode cX0_wouldTrespass 51 = .ok (.iconst 0, 1) := by decide +kernel
theorem dX0_wouldTrespass_52 : decode cX0_wouldTrespass 52 = .ok (.ireturn, 1) := by decide +kernel
theorem dX0_fineOf_0 : decode cX0_fineOf 0 = .ok (.aload_n 0, 1) := by decide +kernel
theorem dX0_fineOf_1 : decode cX0_fineOf 1 = .ok (.getfield 30, 3) := by decide +kernel
theorem dX0_fineOf_4 : decode cX0_fineOf 4 = .ok (.getfield 118, 3) := by decide +kernel
theorem dX0_fineOf_7 : decode cX0_fineOf 7 = .ok (.aload_n 0, 1) := by decide +kernel
theorem dX0_fineOf_8 : decode cX0_fineOf 8 = .ok (.getfield 15, 3) := by decide +kernel
theorem dX0_fineOf_11 : decode cX0_fineOf 11 = .ok (.iload_n 1, 1) := by decide +kernel
theorem dX0_fineOf_12 : decode cX0_fineOf 12 = .ok (.iaload, 1) := by decide +kernel
theorem dX0_fineOf_13 : decode cX0_fineOf 13 = .ok (.bipush 8, 2) := by decide +kernel
theorem dX0_fineOf_15 : decode cX0_fineOf 15 = .ok (.imul, 1) := by decide +kernel
theorem dX0_fineOf_16 : decode cX0_fineOf 16 = .ok (.iload_n 2, 1) := by decide +kernel
theorem dX0_fineOf_17 : decode cX0_fineOf 17 = .ok (.iadd, 1) := by decide +kernel
theorem dX0_fineOf_18 : decode cX0_fineOf 18 = .ok (.iaload, 1) := by decide +kernel
theorem dX0_fineOf_19 : decode cX0_fineOf 19 = .ok (.istore 4, 2) := by decide +kernel
theorem dX0_fineOf_21 : decode cX0_fineOf 21 = .ok (.iload 4, 2) := by decide +kernel
theorem dX0_fineOf_23 : decode cX0_fineOf 23 = .ok (.ldc 121, 2) := by decide +kernel
theorem dX0_fineOf_25 : decode cX0_fineOf 25 = .ok (.if_icmp .lt 8, 3) := by decide +kernel
theorem dX0_fineOf_28 : decode cX0_fineOf 28 = .ok (.bipush 99, 2) := by decide +kernel
theorem dX0_fineOf_30 : decode cX0_fineOf 30 = .ok (.goto 5, 3) := by decide +kernel
theorem dX0_fineOf_33 : decode cX0_fineOf 33 = .ok (.iload 4, 2) := by decide +kernel
theorem dX0_fineOf_35 : decode cX0_fineOf 35 = .ok (.istore 5, 2) := by decide +kernel
theorem dX0_fineOf_37 : decode cX0_fineOf 37 = .ok (.aload_n 0, 1) := by decide +kernel
theorem dX0_fineOf_38 : decode cX0_fineOf 38 = .ok (.getfield 30, 3) := by decide +kernel
theorem dX0_fineOf_41 : decode cX0_fineOf 41 = .ok (.getfield 122, 3) := by decide +kernel
theorem dX0_fineOf_44 : decode cX0_fineOf 44 = .ok (.getfield 74, 3) := by decide +kernel
theorem dX0_fineOf_47 : decode cX0_fineOf 47 = .ok (.ifCond .eq 79, 3) := by decide +kernel
theorem dX0_fineOf_50 : decode cX0_fineOf 50 = .ok (.aload_n 0, 1) := by decide +kernel
theorem dX0_fineOf_51 : decode cX0_fineOf 51 = .ok (.getfield 27, 3) := by decide +kernel
theorem dX0_fineOf_54 : decode cX0_fineOf 54 = .ok (.iconst 0, 1) := by decide +kernel
theorem dX0_fineOf_55 : decode cX0_fineOf 55 = .ok (.iload 5, 2) := by decide +kernel
theorem dX0_fineOf_57 : decode cX0_fineOf 57 = .ok (.iastore, 1) := by decide +kernel
theorem dX0_fineOf_58 : decode cX0_fineOf 58 = .ok (.aload_n 0, 1) := by decide +kernel
theorem dX0_fineOf_59 : decode cX0_fineOf 59 = .ok (.getfield 27, 3) := by decide +kernel
theorem dX0_fineOf_62 : decode cX0_fineOf 62 = .ok (.iconst 1, 1) := by decide +kernel
theorem dX0_fineOf_63 : decode cX0_fineOf 63 = .ok (.aload_n 0, 1) := by decide +kernel
theorem dX0_fineOf_64 : decode cX0_fineOf 64 = .ok (.getfield 30, 3) := by decide +kernel
theorem dX0_fineOf_67 : decode cX0_fineOf 67 = .ok (.getfield 125, 3) := by decide +kernel
theorem dX0_fineOf_70 : decode cX0_fineOf 70 = .ok (.iload_n 2, 1) := by decide +kernel
theorem dX0_fineOf_71 : decode cX0_fineOf 71 = .ok (.iaload, 1) := by decide +kernel
theorem dX0_fineOf_72 : decode cX0_fineOf 72 = .ok (.iastore, 1) := by decide +kernel
theorem dX0_fineOf_73 : decode cX0_fineOf 73 = .ok (.aload_n 0, 1) := by decide +kernel
theorem dX0_fineOf_74 : decode cX0_fineOf 74 = .ok (.getfield 27, 3) := by decide +kernel
theorem dX0_fineOf_77 : decode cX0_fineOf 77 = .ok (.iconst 2, 1) := by decide +kernel
theorem dX0_fineOf_78 : decode cX0_fineOf 78 = .ok (.aload_n 0, 1) := by decide +kernel
theorem dX0_fineOf_79 : decode cX0_fineOf 79 = .ok (.getfield 30, 3) := by decide +kernel
theorem dX0_fineOf_82 : decode cX0_fineOf 82 = .ok (.getfield 128, 3) := by decide +kernel
theorem dX0_fineOf_85 : decode cX0_fineOf 85 = .ok (.iload_n 2, 1) := by decide +kernel
theorem dX0_fineOf_86 : decode cX0_fineOf 86 = .ok (.iaload, 1) := by decide +kernel
theorem dX0_fineOf_87 : decode cX0_fineOf 87 = .ok (.iastore, 1) := by decide +kernel
theorem dX0_fineOf_88 : decode cX0_fineOf 88 = .ok (.aload_n 0, 1) := by decide +kernel
theorem dX0_fineOf_89 : decode cX0_fineOf 89 = .ok (.getfield 27, 3) := by decide +kernel
theorem dX0_fineOf_92 : decode cX0_fineOf 92 = .ok (.iconst 3, 1) := by decide +kernel
theorem dX0_fineOf_93 : decode cX0_fineOf 93 = .ok (.iload_n 3, 1) := by decide +kernel
theorem dX0_fineOf_94 : decode cX0_fineOf 94 = .ok (.iastore, 1) := by decide +kernel
theorem dX0_fineOf_95 : decode cX0_fineOf 95 = .ok (.aload_n 0, 1) := by decide +kernel
theorem dX0_fineOf_96 : decode cX0_fineOf 96 = .ok (.getfield 27, 3) := by decide +kernel
theorem dX0_fineOf_99 : decode cX0_fineOf 99 = .ok (.iconst 4, 1) := by decide +kernel
theorem dX0_fineOf_100 : decode cX0_fineOf 100 = .ok (.aload_n 0, 1) := by decide +kernel
theorem dX0_fineOf_101 : decode cX0_fineOf 101 = .ok (.getfield 9, 3) := by decide +kernel
theorem dX0_fineOf_104 : decode cX0_fineOf 104 = .ok (.bipush 8, 2) := by decide +kernel
theorem dX0_fineOf_106 : decode cX0_fineOf 106 = .ok (.iload_n 1, 1) := by decide +kernel
theorem dX0_fineOf_107 : decode cX0_fineOf 107 = .ok (.iadd, 1) := by decide +kernel
theorem dX0_fineOf_108 : decode cX0_fineOf 108 = .ok (.iaload, 1) := by decide +kernel
theorem dX0_fineOf_109 : decode cX0_fineOf 109 = .ok (.iastore, 1) := by decide +kernel
theorem dX0_fineOf_110 : decode cX0_fineOf 110 = .ok (.aload_n 0, 1) := by decide +kernel
theorem dX0_fineOf_111 : decode cX0_fineOf 111 = .ok (.getfield 30, 3) := by decide +kernel
theorem dX0_fineOf_114 : decode cX0_fineOf 114 = .ok (.getfield 122, 3) := by decide +kernel
theorem dX0_fineOf_117 : decode cX0_fineOf 117 = .ok (.aload_n 0, 1) := by decide +kernel
theorem dX0_fineOf_118 : decode cX0_fineOf 118 = .ok (.getfield 27, 3) := by decide +kernel
theorem dX0_fineOf_121 : decode cX0_fineOf 121 = .ok (.invokevirtual 88, 3) := by decide +kernel
theorem dX0_fineOf_124 : decode cX0_fineOf 124 = .ok (.istore 5, 2) := by decide +kernel
theorem dX0_fineOf_126 : decode cX0_fineOf 126 = .ok (.iconst 0, 1) := by decide +kernel
theorem dX0_fineOf_127 : decode cX0_fineOf 127 = .ok (.bipush 99, 2) := by decide +kernel
theorem dX0_fineOf_129 : decode cX0_fineOf 129 = .ok (.iload 5, 2) := by decide +kernel
theorem dX0_fineOf_131 : decode cX0_fineOf 131 = .ok (.invokestatic 112, 3) := by decide +kernel
theorem dX0_fineOf_134 : decode cX0_fineOf 134 = .ok (.invokestatic 109, 3) := by decide +kernel
theorem dX0_fineOf_137 : decode cX0_fineOf 137 = .ok (.ireturn, 1) := by decide +kernel
theorem dX0_freeTunes_0 : decode cX0_freeTunes 0 = .ok (.iconst 0, 1) := by decide +kernel
theorem dX0_freeTunes_1 : decode cX0_freeTunes 1 = .ok (.istore_n 2, 1) := by decide +kernel
theorem dX0_freeTunes_2 : decode cX0_freeTunes 2 = .ok (.iconst 0, 1) := by decide +kernel
theorem dX0_freeTunes_3 : decode cX0_freeTunes 3 = .ok (.istore_n 3, 1) := by decide +kernel
theorem dX0_freeTunes_4 : decode cX0_freeTunes 4 = .ok (.iload_n 3, 1) := by decide +kernel
theorem dX0_freeTunes_5 : decode cX0_freeTunes 5 = .ok (.aload_n 0, 1) := by decide +kernel
theorem dX0_freeTunes_6 : decode cX0_freeTunes 6 = .ok (.getfield 30, 3) := by decide +kernel
theorem dX0_freeTunes_9 : decode cX0_freeTunes 9 = .ok (.getfield 80, 3) := by decide +kernel
theorem dX0_freeTunes_12 : decode cX0_freeTunes 12 = .ok (.if_icmp .ge 39, 3) := by decide +kernel
theorem dX0_freeTunes_15 : decode cX0_freeTunes 15 = .ok (.aload_n 0, 1) := by decide +kernel
theorem dX0_freeTunes_16 : decode cX0_freeTunes 16 = .ok (.getfield 9, 3) := by decide +kernel
theorem dX0_freeTunes_19 : decode cX0_freeTunes 19 = .ok (.iconst 2, 1) := by decide +kernel
theorem dX0_freeTunes_20 : decode cX0_freeTunes 20 = .ok (.iload_n 1, 1) := by decide +kernel
theorem dX0_freeTunes_21 : decode cX0_freeTunes 21 = .ok (.iadd, 1) := by decide +kernel
theorem dX0_freeTunes_22 : decode cX0_freeTunes 22 = .ok (.iaload, 1) := by decide +kernel
theorem dX0_freeTunes_23 : decode cX0_freeTunes 23 = .ok (.iload_n 3, 1) := by decide +kernel
theorem dX0_freeTunes_24 : decode cX0_freeTunes 24 = .ok (.ishr, 1) := by decide +kernel
theorem dX0_freeTunes_25 : decode cX0_freeTunes 25 = .ok (.iconst 1, 1) := by decide +kernel
theorem dX0_freeTunes_26 : decode cX0_freeTunes 26 = .ok (.iand, 1) := by decide +kernel
theorem dX0_freeTunes_27 : decode cX0_freeTunes 27 = .ok (.ifCond .eq 18, 3) := by decide +kernel
theorem dX0_freeTunes_30 : decode cX0_freeTunes 30 = .ok (.aload_n 0, 1) := by decide +kernel
theorem dX0_freeTunes_31 : decode cX0_freeTunes 31 = .ok (.iload_n 1, 1) := by decide +kernel
theorem dX0_freeTunes_32 : decode cX0_freeTunes 32 = .ok (.iload_n 3, 1) := by decide +kernel
theorem dX0_freeTunes_33 : decode cX0_freeTunes 33 = .ok (.invokevirtual 102, 3) := by decide +kernel
theorem dX0_freeTunes_36 : decode cX0_freeTunes 36 = .ok (.ifCond .ne 9, 3) := by decide +kernel
theorem dX0_freeTunes_39 : decode cX0_freeTunes 39 = .ok (.iload_n 2, 1) := by decide +kernel
theorem dX0_freeTunes_40 : decode cX0_freeTunes 40 = .ok (.iconst 1, 1) := by decide +kernel
theorem dX0_freeTunes_41 : decode cX0_freeTunes 41 = .ok (.iload_n 3, 1) := by decide +kernel
theorem dX0_freeTunes_42 : decode cX0_freeTunes 42 = .ok (.ishl, 1) := by decide +kernel
theorem dX0_freeTunes_43 : decode cX0_freeTunes 43 = .ok (.ior, 1) := by decide +kernel
theorem dX0_freeTunes_44 : decode cX0_freeTunes 44 = .ok (.istore_n 2, 1) := by decide +kernel
theorem dX0_freeTunes_45 : decode cX0_freeTunes 45 = .ok (.iinc 3 1, 3) := by decide +kernel
theorem dX0_freeTunes_48 : decode cX0_freeTunes 48 = .ok (.goto (-44), 3) := by decide +kernel
theorem dX0_freeTunes_51 : decode cX0_freeTunes 51 = .ok (.iload_n 2, 1) := by decide +kernel
theorem dX0_freeTunes_52 : decode cX0_freeTunes 52 = .ok (.ireturn, 1) := by decide +kernel
theorem dX0_know_0 : decode cX0_know 0 = .ok (.iconst 0, 1) := by decide +kernel
theorem dX0_know_1 : decode cX0_know 1 = .ok (.istore_n 3, 1) := by decide +kernel
theorem dX0_know_2 : decode cX0_know 2 = .ok (.iload_n 3, 1) := by decide +kernel
theorem dX0_know_3 : decode cX0_know 3 = .ok (.aload_n 0, 1) := by decide +kernel
theorem dX0_know_4 : decode cX0_know 4 = .ok (.getfield 30, 3) := by decide +kernel
theorem dX0_know_7 : decode cX0_know 7 = .ok (.getfield 49, 3) := by decide +kernel
theorem dX0_know_10 : decode cX0_know 10 = .ok (.if_icmp .ge 34, 3) := by decide +kernel
theorem dX0_know_13 : decode cX0_know 13 = .ok (.iload_n 1, 1) := by decide +kernel
theorem dX0_know_14 : decode cX0_know 14 = .ok (.iload_n 3, 1) := by decide +kernel
theorem dX0_know_15 : decode cX0_know 15 = .ok (.ishr, 1) := by decide +kernel
theorem dX0_know_16 : decode cX0_know 16 = .ok (.iconst 1, 1) := by decide +kernel
theorem dX0_know_17 : decode cX0_know 17 = .ok (.iand, 1) := by decide +kernel
theorem dX0_know_18 : decode cX0_know 18 = .ok (.ifCond .eq 20, 3) := by decide +kernel
theorem dX0_know_21 : decode cX0_know 21 = .ok (.aload_n 0, 1) := by decide +kernel
theorem dX0_know_22 : decode cX0_know 22 = .ok (.getfield 9, 3) := by decide +kernel
theorem dX0_know_25 : decode cX0_know 25 = .ok (.iconst 2, 1) := by decide +kernel
theorem dX0_know_26 : decode cX0_know 26 = .ok (.iload_n 3, 1) := by decide +kernel
theorem dX0_know_27 : decode cX0_know 27 = .ok (.iadd, 1) := by decide +kernel
theorem dX0_know_28 : decode cX0_know 28 = .ok (.iaload, 1) := by decide +kernel
theorem dX0_know_29 : decode cX0_know 29 = .ok (.iload_n 2, 1) := by decide +kernel
theorem dX0_know_30 : decode cX0_know 30 = .ok (.ishr, 1) := by decide +kernel
theorem dX0_know_31 : decode cX0_know 31 = .ok (.iconst 1, 1) := by decide +kernel
theorem dX0_know_32 : decode cX0_know 32 = .ok (.iand, 1) := by decide +kernel
theorem dX0_know_33 : decode cX0_know 33 = .ok (.ifCond .ne 5, 3) := by decide +kernel
theorem dX0_know_36 : decode cX0_know 36 = .ok (.iconst 0, 1) := by decide +kernel
theorem dX0_know_37 : decode cX0_know 37 = .ok (.ireturn, 1) := by decide +kernel
theorem dX0_know_38 : decode cX0_know 38 = .ok (.iinc 3 1, 3) := by decide +kernel
theorem dX0_know_41 : decode cX0_know 41 = .ok (.goto (-39), 3) := by decide +kernel
theorem dX0_know_44 : decode cX0_know 44 = .ok (.iconst 1, 1) := by decide +kernel
theorem dX0_know_45 : decode cX0_know 45 = .ok (.ireturn, 1) := by decide +kernel
theorem dX0_knownByOthers_0 : decode cX0_knownByOthers 0 = .ok (.iconst 0, 1) := by decide +kernel
theorem dX0_knownByOthers_1 : decode cX0_knownByOthers 1 = .ok (.istore_n 2, 1) := by decide +kernel
theorem dX0_knownByOthers_2 : decode cX0_knownByOthers 2 = .ok (.iconst 0, 1) := by decide +kernel
theorem dX0_knownByOthers_3 : decode cX0_knownByOthers 3 = .ok (.istore_n 3, 1) := by decide +kernel
theorem dX0_knownByOthers_4 : decode cX0_knownByOthers 4 = .ok (.iload_n 3, 1) := by decide +kernel
theorem dX0_knownByOthers_5 : decode cX0_knownByOthers 5 = .ok (.aload_n 0, 1) := by decide +kernel
theorem dX0_knownByOthers_6 : decode cX0_knownByOthers 6 = .ok (.getfield 30, 3) := by decide +kernel
theorem dX0_knownByOthers_9 : decode cX0_knownByOthers 9 = .ok (.getfield 49, 3) := by decide +kernel
theorem dX0_knownByOthers_12 : decode cX0_knownByOthers 12 = .ok (.if_icmp .ge 25, 3) := by decide +kernel
theorem dX0_knownByOthers_15 : decode cX0_knownByOthers 15 = .ok (.iload_n 3, 1) := by decide +kernel
theorem dX0_knownByOthers_16 : decode cX0_knownByOthers 16 = .ok (.iload_n 1, 1) := by decide +kernel
theorem dX0_knownByOthers_17 : decode cX0_knownByOthers 17 = .ok (.if_icmp .eq 14, 3) := by decide +kernel
theorem dX0_knownByOthers_20 : decode cX0_knownByOthers 20 = .ok (.iload_n 2, 1) := by decide +kernel
theorem dX0_knownByOthers_21 : decode cX0_knownByOthers 21 = .ok (.aload_n 0, 1) := by decide +kernel
theorem dX0_knownByOthers_22 : decode cX0_knownByOthers 22 = .ok (.getfield 9, 3) := by decide +kernel
theorem dX0_knownByOthers_25 : decode cX0_knownByOthers 25 = .ok (.iconst 2, 1) := by decide +kernel
theorem dX0_knownByOthers_26 : decode cX0_knownByOthers 26 = .ok (.iload_n 3, 1) := by decide +kernel
theorem dX0_knownByOthers_27 : decode cX0_knownByOthers 27 = .ok (.iadd, 1) := by decide +kernel
theorem dX0_knownByOthers_28 : decode cX0_knownByOthers 28 = .ok (.iaload, 1) := by decide +kernel
theorem dX0_knownByOthers_29 : decode cX0_knownByOthers 29 = .ok (.ior, 1) := by decide +kernel
theorem dX0_knownByOthers_30 : decode cX0_knownByOthers 30 = .ok (.istore_n 2, 1) := by decide +kernel
theorem dX0_knownByOthers_31 : decode cX0_knownByOthers 31 = .ok (.iinc 3 1, 3) := by decide +kernel
theorem dX0_knownByOthers_34 : decode cX0_knownByOthers 34 = .ok (.goto (-30), 3) := by decide +kernel
theorem dX0_knownByOthers_37 : decode cX0_knownByOthers 37 = .ok (.iload_n 2, 1) := by decide +kernel
theorem dX0_knownByOthers_38 : decode cX0_knownByOthers 38 = .ok (.ireturn, 1) := by decide +kernel
theorem dX0_trespassesAgainst_0 : decode cX0_trespassesAgainst 0 = .ok (.iconst 0, 1) := by decide +kernel
theorem dX0_trespassesAgainst_1 : decode cX0_trespassesAgainst 1 = .ok (.istore_n 2, 1) := by decide +kernel
theorem dX0_trespassesAgainst_2 : decode cX0_trespassesAgainst 2 = .ok (.iconst 0, 1) := by decide +kernel
theorem dX0_trespassesAgainst_3 : decode cX0_trespassesAgainst 3 = .ok (.istore_n 3, 1) := by decide +kernel
theorem dX0_trespassesAgainst_4 : decode cX0_trespassesAgainst 4 = .ok (.iload_n 3, 1) := by decide +kernel
theorem dX0_trespassesAgainst_5 : decode cX0_trespassesAgainst 5 = .ok (.aload_n 0, 1) := by decide +kernel
theorem dX0_trespassesAgainst_6 : decode cX0_trespassesAgainst 6 = .ok (.getfield 30, 3) := by decide +kernel
theorem dX0_trespassesAgainst_9 : decode cX0_trespassesAgainst 9 = .ok (.getfield 80, 3) := by decide +kernel
theorem dX0_trespassesAgainst_12 : decode cX0_trespassesAgainst 12 = .ok (.if_icmp .ge 31, 3) := by decide +kernel
theorem dX0_trespassesAgainst_15 : decode cX0_trespassesAgainst 15 = .ok (.aload_n 0, 1) := by decide +kernel
theorem dX0_trespassesAgainst_16 : decode cX0_trespassesAgainst 16 = .ok (.getfield 9, 3) := by decide +kernel
theorem dX0_trespassesAgainst_19 : decode cX0_trespassesAgainst 19 = .ok (.bipush 98, 2) := by decide +kernel
theorem dX0_trespassesAgainst_21 : decode cX0_trespassesAgainst 21 = .ok (.iload_n 3, 1) := by decide +kernel
theorem dX0_trespassesAgainst_22 : decode cX0_trespassesAgainst 22 = .ok (.iadd, 1) := by decide +kernel
theorem dX0_trespassesAgainst_23 : decode cX0_trespassesAgainst 23 = .ok (.iaload, 1) := by decide +kernel
theorem dX0_trespassesAgainst_24 : decode cX0_trespassesAgainst 24 = .ok (.iload_n 1, 1) := by decide +kernel
theorem dX0_trespassesAgainst_25 : decode cX0_trespassesAgainst 25 = .ok (.if_icmp .ne 12, 3) := by decide +kernel
theorem dX0_trespassesAgainst_28 : decode cX0_trespassesAgainst 28 = .ok (.iload_n 2, 1) := by decide +kernel
theorem dX0_trespassesAgainst_29 : decode cX0_trespassesAgainst 29 = .ok (.aload_n 0, 1) := by decide +kernel
theorem dX0_trespassesAgainst_30 : decode cX0_trespassesAgainst 30 = .ok (.getfield 24, 3) := by decide +kernel
theorem dX0_trespassesAgainst_33 : decode cX0_trespassesAgainst 33 = .ok (.iload_n 3, 1) := by decide +kernel
theorem dX0_trespassesAgainst_34 : decode cX0_trespassesAgainst 34 = .ok (.iaload, 1) := by decide +kernel
theorem dX0_trespassesAgainst_35 : decode cX0_trespassesAgainst 35 = .ok (.iadd, 1) := by decide +kernel
theorem dX0_trespassesAgainst_36 : decode cX0_trespassesAgainst 36 = .ok (.istore_n 2, 1) := by decide +kernel
theorem dX0_trespassesAgainst_37 : decode cX0_trespassesAgainst 37 = .ok (.iinc 3 1, 3) := by decide +kernel
theorem dX0_trespassesAgainst_40 : decode cX0_trespassesAgainst 40 = .ok (.goto (-36), 3) := by decide +kernel
theorem dX0_trespassesAgainst_43 : decode cX0_trespassesAgainst 43 = .ok (.iload_n 2, 1) := by decide +kernel
theorem dX0_trespassesAgainst_44 : decode cX0_trespassesAgainst 44 = .ok (.ireturn, 1) := by decide +kernel
theorem dX0_leastSungIn_0 : decode cX0_leastSungIn 0 = .ok (.iconst (-1), 1) := by decide +kernel
theorem dX0_leastSungIn_1 : decode cX0_leastSungIn 1 = .ok (.istore_n 2, 1) := by decide +kernel
theorem dX0_leastSungIn_2 : decode cX0_leastSungIn 2 = .ok (.iconst 0, 1) := by decide +kernel
theorem dX0_leastSungIn_3 : decode cX0_leastSungIn 3 = .ok (.istore_n 3, 1) := by decide +kernel
theorem dX0_leastSungIn_4 : decode cX0_leastSungIn 4 = .ok (.iload_n 3, 1) := by decide +kernel
theorem dX0_leastSungIn_5 : decode cX0_leastSungIn 5 = .ok (.aload_n 0, 1) := by decide +kernel
theorem dX0_leastSungIn_6 : decode cX0_leastSungIn 6 = .ok (.getfield 30, 3) := by decide +kernel
theorem dX0_leastSungIn_9 : decode cX0_leastSungIn 9 = .ok (.getfield 49, 3) := by decide +kernel
theorem dX0_leastSungIn_12 : decode cX0_leastSungIn 12 = .ok (.if_icmp .ge 51, 3) := by decide +kernel
theorem dX0_leastSungIn_15 : decode cX0_leastSungIn 15 = .ok (.aload_n 0, 1) := by decide +kernel
theorem dX0_leastSungIn_16 : decode cX0_leastSungIn 16 = .ok (.getfield 15, 3) := by decide +kernel
theorem dX0_leastSungIn_19 : decode cX0_leastSungIn 19 = .ok (.iload_n 3, 1) := by decide +kernel
theorem dX0_leastSungIn_20 : decode cX0_leastSungIn 20 = .ok (.iaload, 1) := by decide +kernel
theorem dX0_leastSungIn_21 : decode cX0_leastSungIn 21 = .ok (.iload_n 1, 1) := by decide +kernel
theorem dX0_leastSungIn_22 : decode cX0_leastSungIn 22 = .ok (.if_icmp .ne 35, 3) := by decide +kernel
theorem dX0_leastSungIn_25 : decode cX0_leastSungIn 25 = .ok (.aload_n 0, 1) := by decide +kernel
theorem dX0_leastSungIn_26 : decode cX0_leastSungIn 26 = .ok (.getfield 18, 3) := by decide +kernel
theorem dX0_leastSungIn_29 : decode cX0_leastSungIn 29 = .ok (.iload_n 3, 1) := by decide +kernel
theorem dX0_leastSungIn_30 : decode cX0_leastSungIn 30 = .ok (.iaload, 1) := by decide +kernel
theorem dX0_leastSungIn_31 : decode cX0_leastSungIn 31 = .ok (.iconst (-1), 1) := by decide +kernel
theorem dX0_leastSungIn_32 : decode cX0_leastSungIn 32 = .ok (.if_icmp .eq 25, 3) := by decide +kernel
theorem dX0_leastSungIn_35 : decode cX0_leastSungIn 35 = .ok (.iload_n 2, 1) := by decide +kernel
theorem dX0_leastSungIn_36 : decode cX0_leastSungIn 36 = .ok (.iconst (-1), 1) := by decide +kernel
theorem dX0_leastSungIn_37 : decode cX0_leastSungIn 37 = .ok (.if_icmp .eq 13, 3) := by decide +kernel
theorem dX0_leastSungIn_40 : decode cX0_leastSungIn 40 = .ok (.aload_n 0, 1) := by decide +kernel
theorem dX0_leastSungIn_41 : decode cX0_leastSungIn 41 = .ok (.getfield 18, 3) := by decide +kernel
theorem dX0_leastSungIn_44 : decode cX0_leastSungIn 44 = .ok (.iload_n 3, 1) := by decide +kernel
theorem dX0_leastSungIn_45 : decode cX0_leastSungIn 45 = .ok (.iaload, 1) := by decide +kernel
theorem dX0_leastSungIn_46 : decode cX0_leastSungIn 46 = .ok (.iload_n 2, 1) := by decide +kernel
theorem dX0_leastSungIn_47 : decode cX0_leastSungIn 47 = .ok (.if_icmp .ge 10, 3) := by decide +kernel
theorem dX0_leastSungIn_50 : decode cX0_leastSungIn 50 = .ok (.aload_n 0, 1) := by decide +kernel
theorem dX0_leastSungIn_51 : decode cX0_leastSungIn 51 = .ok (.getfield 18, 3) := by decide +kernel
theorem dX0_leastSungIn_54 : decode cX0_leastSungIn 54 = .ok (.iload_n 3, 1) := by decide +kernel
theorem dX0_leastSungIn_55 : decode cX0_leastSungIn 55 = .ok (.iaload, 1) := by decide +kernel
theorem dX0_leastSungIn_56 : decode cX0_leastSungIn 56 = .ok (.istore_n 2, 1) := by decide +kernel
theorem dX0_leastSungIn_57 : decode cX0_leastSungIn 57 = .ok (.iinc 3 1, 3) := by decide +kernel
theorem dX0_leastSungIn_60 : decode cX0_leastSungIn 60 = .ok (.goto (-56), 3) := by decide +kernel
theorem dX0_leastSungIn_63 : decode cX0_leastSungIn 63 = .ok (.iload_n 2, 1) := by decide +kernel
theorem dX0_leastSungIn_64 : decode cX0_leastSungIn 64 = .ok (.ireturn, 1) := by decide +kernel
theorem dX0_wasSungIn_0 : decode cX0_wasSungIn 0 = .ok (.iload_n 2, 1) := by decide +kernel
theorem dX0_wasSungIn_1 : decode cX0_wasSungIn 1 = .ok (.iconst (-1), 1) := by decide +kernel
theorem dX0_wasSungIn_2 : decode cX0_wasSungIn 2 = .ok (.if_icmp .ne 18, 3) := by decide +kernel
theorem dX0_wasSungIn_5 : decode cX0_wasSungIn 5 = .ok (.aload_n 0, 1) := by decide +kernel
theorem dX0_wasSungIn_6 : decode cX0_wasSungIn 6 = .ok (.iload_n 1, 1) := by decide +kernel
theorem dX0_wasSungIn_7 : decode cX0_wasSungIn 7 = .ok (.invokevirtual 131, 3) := by decide +kernel
theorem dX0_wasSungIn_10 : decode cX0_wasSungIn 10 = .ok (.iconst (-1), 1) := by decide +kernel
theorem dX0_wasSungIn_11 : decode cX0_wasSungIn 11 = .ok (.if_icmp .ne 7, 3) := by decide +kernel
theorem dX0_wasSungIn_14 : decode cX0_wasSungIn 14 = .ok (.iconst 1, 1) := by decide +kernel
theorem dX0_wasSungIn_15 : decode cX0_wasSungIn 15 = .ok (.goto 4, 3) := by decide +kernel
theorem dX0_wasSungIn_18 : decode cX0_wasSungIn 18 = .ok (.iconst 0, 1) := by decide +kernel
theorem dX0_wasSungIn_19 : decode cX0_wasSungIn 19 = .ok (.ireturn, 1) := by decide +kernel
theorem dX0_wasSungIn_20 : decode cX0_wasSungIn 20 = .ok (.iconst 0, 1) := by decide +kernel
theorem dX0_wasSungIn_21 : decode cX0_wasSungIn 21 = .ok (.istore_n 3, 1) := by decide +kernel
theorem dX0_wasSungIn_22 : decode cX0_wasSungIn 22 = .ok (.iload_n 3, 1) := by decide +kernel
theorem dX0_wasSungIn_23 : decode cX0_wasSungIn 23 = .ok (.aload_n 0, 1) := by decide +kernel
theorem dX0_wasSungIn_24 : decode cX0_wasSungIn 24 = .ok (.getfield 30, 3) := by decide +kernel
theorem dX0_wasSungIn_27 : decode cX0_wasSungIn 27 = .ok (.getfield 49, 3) := by decide +kernel
theorem dX0_wasSungIn_30 : decode cX0_wasSungIn 30 = .ok (.if_icmp .ge 31, 3) := by decide +kernel
theorem dX0_wasSungIn_33 : decode cX0_wasSungIn 33 = .ok (.aload_n 0, 1) := by decide +kernel
theorem dX0_wasSungIn_34 : decode cX0_wasSungIn 34 = .ok (.getfield 15, 3) := by decide +kernel
theorem dX0_wasSungIn_37 : decode cX0_wasSungIn 37 = .ok (.iload_n 3, 1) := by decide +kernel
theorem dX0_wasSungIn_38 : decode cX0_wasSungIn 38 = .ok (.iaload, 1) := by decide +kernel
theorem dX0_wasSungIn_39 : decode cX0_wasSungIn 39 = .ok (.iload_n 1, 1) := by decide +kernel
theorem dX0_wasSungIn_40 : decode cX0_wasSungIn 40 = .ok (.if_icmp .ne 15, 3) := by decide +kernel
theorem dX0_wasSungIn_43 : decode cX0_wasSungIn 43 = .ok (.aload_n 0, 1) := by decide +kernel
theorem dX0_wasSungIn_44 : decode cX0_wasSungIn 44 = .ok (.getfield 18, 3) := by decide +kernel
theorem dX0_wasSungIn_47 : decode cX0_wasSungIn 47 = .ok (.iload_n 3, 1) := by decide +kernel
theorem dX0_wasSungIn_48 : decode cX0_wasSungIn 48 = .ok (.iaload, 1) := by decide +kernel
theorem dX0_wasSungIn_49 : decode cX0_wasSungIn 49 = .ok (.iload_n 2, 1) := by decide +kernel
theorem dX0_wasSungIn_50 : decode cX0_wasSungIn 50 = .ok (.if_icmp .ne 5, 3) := by decide +kernel
theorem dX0_wasSungIn_53 : decode cX0_wasSungIn 53 = .ok (.iconst 1, 1) := by decide +kernel
theorem dX0_wasSungIn_54 : decode cX0_wasSungIn 54 = .ok (.ireturn, 1) := by decide +kernel
theorem dX0_wasSungIn_55 : decode cX0_wasSungIn 55 = .ok (.iinc 3 1, 3) := by decide +kernel
theorem dX0_wasSungIn_58 : decode cX0_wasSungIn 58 = .ok (.goto (-36), 3) := by decide +kernel
theorem dX0_wasSungIn_61 : decode cX0_wasSungIn 61 = .ok (.iconst 0, 1) := by decide +kernel
theorem dX0_wasSungIn_62 : decode cX0_wasSungIn 62 = .ok (.ireturn, 1) := by decide +kernel
theorem dX0_goWithLarks_0 : decode cX0_goWithLarks 0 = .ok (.iload_n 1, 1) := by decide +kernel
theorem dX0_goWithLarks_1 : decode cX0_goWithLarks 1 = .ok (.istore_n 3, 1) := by decide +kernel
theorem dX0_goWithLarks_2 : decode cX0_goWithLarks 2 = .ok (.iconst 0, 1) := by decide +kernel
theorem dX0_goWithLarks_3 : decode cX0_goWithLarks 3 = .ok (.istore 4, 2) := by decide +kernel
theorem dX0_goWithLarks_5 : decode cX0_goWithLarks 5 = .ok (.iload 4, 2) := by decide +kernel
theorem dX0_goWithLarks_7 : decode cX0_goWithLarks 7 = .ok (.iload_n 2, 1) := by decide +kernel
theorem dX0_goWithLarks_8 : decode cX0_goWithLarks 8 = .ok (.if_icmp .ge 98, 3) := by decide +kernel
theorem dX0_goWithLarks_11 : decode cX0_goWithLarks 11 = .ok (.aload_n 0, 1) := by decide +kernel
theorem dX0_goWithLarks_12 : decode cX0_goWithLarks 12 = .ok (.getfield 30, 3) := by decide +kernel
theorem dX0_goWithLarks_15 : decode cX0_goWithLarks 15 = .ok (.getfield 80, 3) := by decide +kernel
theorem dX0_goWithLarks_18 : decode cX0_goWithLarks 18 = .ok (.ifCond .le 78, 3) := by decide +kernel
theorem dX0_goWithLarks_21 : decode cX0_goWithLarks 21 = .ok (.aload_n 0, 1) := by decide +kernel
theorem dX0_goWithLarks_22 : decode cX0_goWithLarks 22 = .ok (.getfield 30, 3) := by decide +kernel
theorem dX0_goWithLarks_25 : decode cX0_goWithLarks 25 = .ok (.getfield 49, 3) := by decide +kernel
theorem dX0_goWithLarks_28 : decode cX0_goWithLarks 28 = .ok (.ifCond .le 68, 3) := by decide +kernel
theorem dX0_goWithLarks_31 : decode cX0_goWithLarks 31 = .ok (.iload_n 3, 1) := by decide +kernel
theorem dX0_goWithLarks_32 : decode cX0_goWithLarks 32 = .ok (.invokestatic 134, 3) := by decide +kernel
theorem dX0_goWithLarks_35 : decode cX0_goWithLarks 35 = .ok (.istore_n 3, 1) := by decide +kernel
theorem dX0_goWithLarks_36 : decode cX0_goWithLarks 36 = .ok (.iload_n 3, 1) := by decide +kernel
theorem dX0_goWithLarks_37 : decode cX0_goWithLarks 37 = .ok (.bipush 16, 2) := by decide +kernel
theorem dX0_goWithLarks_39 : decode cX0_goWithLarks 39 = .ok (.ishr, 1) := by decide +kernel
theorem dX0_goWithLarks_40 : decode cX0_goWithLarks 40 = .ok (.sipush 32767, 3) := by decide +kernel
theorem dX0_goWithLarks_43 : decode cX0_goWithLarks 43 = .ok (.iand, 1) := by decide +kernel
theorem dX0_goWithLarks_44 : decode cX0_goWithLarks 44 = .ok (.aload_n 0, 1) := by decide +kernel
theorem dX0_goWithLarks_45 : decode cX0_goWithLarks 45 = .ok (.getfield 30, 3) := by decide +kernel
theorem dX0_goWithLarks_48 : decode cX0_goWithLarks 48 = .ok (.getfield 80, 3) := by decide +kernel
theorem dX0_goWithLarks_51 : decode cX0_goWithLarks 51 = .ok (.irem, 1) := by decide +kernel
theorem dX0_goWithLarks_52 : decode cX0_goWithLarks 52 = .ok (.istore 5, 2) := by decide +kernel
theorem dX0_goWithLarks_54 : decode cX0_goWithLarks 54 = .ok (.iload_n 3, 1) := by decide +kernel
theorem dX0_goWithLarks_55 : decode cX0_goWithLarks 55 = .ok (.invokestatic 134, 3) := by decide +kernel
theorem dX0_goWithLarks_58 : decode cX0_goWithLarks 58 = .ok (.istore_n 3, 1) := by decide +kernel
theorem dX0_goWithLarks_59 : decode cX0_goWithLarks 59 = .ok (.iload_n 3, 1) := by decide +kernel
theorem dX0_goWithLarks_60 : decode cX0_goWithLarks 60 = .ok (.bipush 16, 2) := by decide +kernel
theorem dX0_goWithLarks_62 : decode cX0_goWithLarks 62 = .ok (.ishr, 1) := by decide +kernel
theorem dX0_goWithLarks_63 : decode cX0_goWithLarks 63 = .ok (.sipush 32767, 3) := by decide +kernel
theorem dX0_goWithLarks_66 : decode cX0_goWithLarks 66 = .ok (.iand, 1) := by decide +kernel
theorem dX0_goWithLarks_67 : decode cX0_goWithLarks 67 = .ok (.aload_n 0, 1) := by decide +kernel
theorem dX0_goWithLarks_68 : decode cX0_goWithLarks 68 = .ok (.getfield 30, 3) := by decide +kernel
theorem dX0_goWithLarks_71 : decode cX0_goWithLarks 71 = .ok (.getfield 49, 3) := by decide +kernel
theorem dX0_goWithLarks_74 : decode cX0_goWithLarks 74 = .ok (.irem, 1) := by decide +kernel
theorem dX0_goWithLarks_75 : decode cX0_goWithLarks 75 = .ok (.istore 6, 2) := by decide +kernel
theorem dX0_goWithLarks_77 : decode cX0_goWithLarks 77 = .ok (.aload_n 0, 1) := by decide +kernel
theorem dX0_goWithLarks_78 : decode cX0_goWithLarks 78 = .ok (.invokevirtual 46, 3) := by decide +kernel
theorem dX0_goWithLarks_81 : decode cX0_goWithLarks 81 = .ok (.aload_n 0, 1) := by decide +kernel
theorem dX0_goWithLarks_82 : decode cX0_goWithLarks 82 = .ok (.aload_n 0, 1) := by decide +kernel
theorem dX0_goWithLarks_83 : decode cX0_goWithLarks 83 = .ok (.getfield 15, 3) := by decide +kernel
theorem dX0_goWithLarks_86 : decode cX0_goWithLarks 86 = .ok (.iload 6, 2) := by decide +kernel
theorem dX0_goWithLarks_88 : decode cX0_goWithLarks 88 = .ok (.iaload, 1) := by decide +kernel
theorem dX0_goWithLarks_89 : decode cX0_goWithLarks 89 = .ok (.iload 5, 2) := by decide +kernel
theorem dX0_goWithLarks_91 : decode cX0_goWithLarks 91 = .ok (.iconst (-1), 1) := by decide +kernel
theorem dX0_goWithLarks_92 : decode cX0_goWithLarks 92 = .ok (.invokevirtual 98, 3) := by decide +kernel
theorem dX0_goWithLarks_95 : decode cX0_goWithLarks 95 = .ok (.pop, 1) := by decide +kernel
theorem dX0_goWithLarks_96 : decode cX0_goWithLarks 96 = .ok (.aload_n 0, 1) := by decide +kernel
theorem dX0_goWithLarks_97 : decode cX0_goWithLarks 97 = .ok (.invokevirtual 59, 3) := by decide +kernel
theorem dX0_goWithLarks_100 : decode cX0_goWithLarks 100 = .ok (.iinc 4 1, 3) := by decide +kernel
theorem dX0_goWithLarks_103 : decode cX0_goWithLarks 103 = .ok (.goto (-98), 3) := by decide +kernel
theorem dX0_goWithLarks_106 : decode cX0_goWithLarks 106 = .ok (.return_, 1) := by decide +kernel
theorem dX0_nextSeed_0 : decode cX0_nextSeed 0 = .ok (.iload_n 0, 1) := by decide +kernel
theorem dX0_nextSeed_1 : decode cX0_nextSeed 1 = .ok (.ldc 137, 2) := by decide +kernel
theorem dX0_nextSeed_3 : decode cX0_nextSeed 3 = .ok (.imul, 1) := by decide +kernel
theorem dX0_nextSeed_4 : decode cX0_nextSeed 4 = .ok (.sipush 12345, 3) := by decide +kernel
theorem dX0_nextSeed_7 : decode cX0_nextSeed 7 = .ok (.iadd, 1) := by decide +kernel
theorem dX0_nextSeed_8 : decode cX0_nextSeed 8 = .ok (.ireturn, 1) := by decide +kernel
theorem dX0_knownTogether_0 : decode cX0_knownTogether 0 = .ok (.iconst 0, 1) := by decide +kernel
theorem dX0_knownTogether_1 : decode cX0_knownTogether 1 = .ok (.istore_n 1, 1) := by decide +kernel
theorem dX0_knownTogether_2 : decode cX0_knownTogether 2 = .ok (.iconst 0, 1) := by decide +kernel
theorem dX0_knownTogether_3 : decode cX0_knownTogether 3 = .ok (.istore_n 2, 1) := by decide +kernel
theorem dX0_knownTogether_4 : decode cX0_knownTogether 4 = .ok (.iload_n 2, 1) := by decide +kernel
theorem dX0_knownTogether_5 : decode cX0_knownTogether 5 = .ok (.aload_n 0, 1) := by decide +kernel
theorem dX0_knownTogether_6 : decode cX0_knownTogether 6 = .ok (.getfield 30, 3) := by decide +kernel
theorem dX0_knownTogether_9 : decode cX0_knownTogether 9 = .ok (.getfield 49, 3) := by decide +kernel
theorem dX0_knownTogether_12 : decode cX0_knownTogether 12 = .ok (.if_icmp .ge 23, 3) := by decide +kernel
theorem dX0_knownTogether_15 : decode cX0_knownTogether 15 = .ok (.iload_n 1, 1) := by decide +kernel
theorem dX0_knownTogether_16 : decode cX0_knownTogether 16 = .ok (.aload_n 0, 1) := by decide +kernel
theorem dX0_knownTogether_17 : decode cX0_knownTogether 17 = .ok (.getfield 9, 3) := by decide +kernel
theorem dX0_knownTogether_20 : decode cX0_knownTogether 20 = .ok (.iconst 2, 1) := by decide +kernel
theorem dX0_knownTogether_21 : decode cX0_knownTogether 21 = .ok (.iload_n 2, 1) := by decide +kernel
theorem dX0_knownTogether_22 : decode cX0_knownTogether 22 = .ok (.iadd, 1) := by decide +kernel
theorem dX0_knownTogether_23 : decode cX0_knownTogether 23 = .ok (.iaload, 1) := by decide +kernel
theorem dX0_knownTogether_24 : decode cX0_knownTogether 24 = .ok (.invokestatic 83, 3) := by decide +kernel
theorem dX0_knownTogether_27 : decode cX0_knownTogether 27 = .ok (.iadd, 1) := by decide +kernel
theorem dX0_knownTogether_28 : decode cX0_knownTogether 28 = .ok (.istore_n 1, 1) := by decide +kernel
theorem dX0_knownTogether_29 : decode cX0_knownTogether 29 = .ok (.iinc 2 1, 3) := by decide +kernel
theorem dX0_knownTogether_32 : decode cX0_knownTogether 32 = .ok (.goto (-28), 3) := by decide +kernel
theorem dX0_knownTogether_35 : decode cX0_knownTogether 35 = .ok (.iload_n 1, 1) := by decide +kernel
theorem dX0_knownTogether_36 : decode cX0_knownTogether 36 = .ok (.ireturn, 1) := by decide +kernel
theorem dX0_greatestPurse_0 : decode cX0_greatestPurse 0 = .ok (.aload_n 0, 1) := by decide +kernel
theorem dX0_greatestPurse_1 : decode cX0_greatestPurse 1 = .ok (.getfield 30, 3) := by decide +kernel
theorem dX0_greatestPurse_4 : decode cX0_greatestPurse 4 = .ok (.getfield 49, 3) := by decide +kernel
theorem dX0_greatestPurse_7 : decode cX0_greatestPurse 7 = .ok (.iconst 1, 1) := by decide +kernel
theorem dX0_greatestPurse_8 : decode cX0_greatestPurse 8 = .ok (.if_icmp .ge 5, 3) := by decide +kernel
theorem dX0_greatestPurse_11 : decode cX0_greatestPurse 11 = .ok (.iconst 0, 1) := by decide +kernel
theorem dX0_greatestPurse_12 : decode cX0_greatestPurse 12 = .ok (.ireturn, 1) := by decide +kernel
theorem dX0_greatestPurse_13 : decode cX0_greatestPurse 13 = .ok (.aload_n 0, 1) := by decide +kernel
theorem dX0_greatestPurse_14 : decode cX0_greatestPurse 14 = .ok (.getfield 9, 3) := by decide +kernel
theorem dX0_greatestPurse_17 : decode cX0_greatestPurse 17 = .ok (.bipush 8, 2) := by decide +kernel
theorem dX0_greatestPurse_19 : decode cX0_greatestPurse 19 = .ok (.iaload, 1) := by decide +kernel
theorem dX0_greatestPurse_20 : decode cX0_greatestPurse 20 = .ok (.istore_n 1, 1) := by decide +kernel
theorem dX0_greatestPurse_21 : decode cX0_greatestPurse 21 = .ok (.iconst 1, 1) := by decide +kernel
theorem dX0_greatestPurse_22 : decode cX0_greatestPurse 22 = .ok (.istore_n 2, 1) := by decide +kernel
theorem dX0_greatestPurse_23 : decode cX0_greatestPurse 23 = .ok (.iload_n 2, 1) := by decide +kernel
theorem dX0_greatestPurse_24 : decode cX0_greatestPurse 24 = .ok (.aload_n 0, 1) := by decide +kernel
theorem dX0_greatestPurse_25 : decode cX0_greatestPurse 25 = .ok (.getfield 30, 3) := by decide +kernel
theorem dX0_greatestPurse_28 : decode cX0_greatestPurse 28 = .ok (.getfield 49, 3) := by decide +kernel
theorem dX0_greatestPurse_31 : decode cX0_greatestPurse 31 = .ok (.if_icmp .ge 23, 3) := by decide +kernel
theorem dX0_greatestPurse_34 : decode cX0_greatestPurse 34 = .ok (.iload_n 1, 1) := by decide +kernel
theorem dX0_greatestPurse_35 : decode cX0_greatestPurse 35 = .ok (.aload_n 0, 1) := by decide +kernel
theorem dX0_greatestPurse_36 : decode cX0_greatestPurse 36 = .ok (.getfield 9, 3) := by decide +kernel
theorem dX0_greatestPurse_39 : decode cX0_greatestPurse 39 = .ok (.bipush 8, 2) := by decide +kernel
theorem dX0_greatestPurse_41 : decode cX0_greatestPurse 41 = .ok (.iload_n 2, 1) := by decide +kernel
theorem dX0_greatestPurse_42 : decode cX0_greatestPurse 42 = .ok (.iadd, 1) := by decide +kernel
theorem dX0_greatestPurse_43 : decode cX0_greatestPurse 43 = .ok (.iaload, 1) := by decide +kernel
theorem dX0_greatestPurse_44 : decode cX0_greatestPurse 44 = .ok (.invokestatic 109, 3) := by decide +kernel
theorem dX0_greatestPurse_47 : decode cX0_greatestPurse 47 = .ok (.istore_n 1, 1) := by decide +kernel
theorem dX0_greatestPurse_48 : decode cX0_greatestPurse 48 = .ok (.iinc 2 1, 3) := by decide +kernel
theorem dX0_greatestPurse_51 : decode cX0_greatestPurse 51 = .ok (.goto (-28), 3) := by decide +kernel
theorem dX0_greatestPurse_54 : decode cX0_greatestPurse 54 = .ok (.iload_n 1, 1) := by decide +kernel
theorem dX0_greatestPurse_55 : decode cX0_greatestPurse 55 = .ok (.ireturn, 1) := by decide +kernel
theorem dX1_init_0 : decode cX1_init 0 = .ok (.aload_n 0, 1) := by decide +kernel
theorem dX1_init_1 : decode cX1_init 1 = .ok (.invokespecial 3, 3) := by decide +kernel
theorem dX1_init_4 : decode cX1_init 4 = .ok (.aload_n 0, 1) := by decide +kernel
theorem dX1_init_5 : decode cX1_init 5 = .ok (.bipush 8, 2) := by decide +kernel
theorem dX1_init_7 : decode cX1_init 7 = .ok (.newarray .int, 2) := by decide +kernel
theorem dX1_init_9 : decode cX1_init 9 = .ok (.putfield 9, 3) := by decide +kernel
theorem dX1_init_12 : decode cX1_init 12 = .ok (.aload_n 0, 1) := by decide +kernel
theorem dX1_init_13 : decode cX1_init 13 = .ok (.bipush 8, 2) := by decide +kernel
theorem dX1_init_15 : decode cX1_init 15 = .ok (.newarray .int, 2) := by decide +kernel
theorem dX1_init_17 : decode cX1_init 17 = .ok (.putfield 15, 3) := by decide +kernel
theorem dX1_init_20 : decode cX1_init 20 = .ok (.aload_n 0, 1) := by decide +kernel
theorem dX1_init_21 : decode cX1_init 21 = .ok (.aload_n 1, 1) := by decide +kernel
theorem dX1_init_22 : decode cX1_init 22 = .ok (.putfield 18, 3) := by decide +kernel
theorem dX1_init_25 : decode cX1_init 25 = .ok (.return_, 1) := by decide +kernel
theorem dX1_explore_0 : decode cX1_explore 0 = .ok (.aload_n 0, 1) := by decide +kernel
theorem dX1_explore_1 : decode cX1_explore 1 = .ok (.iconst 0, 1) := by decide +kernel
theorem dX1_explore_2 : decode cX1_explore 2 = .ok (.putfield 22, 3) := by decide +kernel
theorem dX1_explore_5 : decode cX1_explore 5 = .ok (.aload_n 0, 1) := by decide +kernel
theorem dX1_explore_6 : decode cX1_explore 6 = .ok (.iconst (-1), 1) := by decide +kernel
theorem dX1_explore_7 : decode cX1_explore 7 = .ok (.putfield 26, 3) := by decide +kernel
theorem dX1_explore_10 : decode cX1_explore 10 = .ok (.aload_n 0, 1) := by decide +kernel
theorem dX1_explore_11 : decode cX1_explore 11 = .ok (.aload_n 1, 1) := by decide +kernel
theorem dX1_explore_12 : decode cX1_explore 12 = .ok (.getfield 29, 3) := by decide +kernel
theorem dX1_explore_15 : decode cX1_explore 15 = .ok (.putfield 34, 3) := by decide +kernel
theorem dX1_explore_18 : decode cX1_explore 18 = .ok (.aload_n 0, 1) := by decide +kernel
theorem dX1_explore_19 : decode cX1_explore 19 = .ok (.getfield 9, 3) := by decide +kernel
theorem dX1_explore_22 : decode cX1_explore 22 = .ok (.iconst 0, 1) := by decide +kernel
theorem dX1_explore_23 : decode cX1_explore 23 = .ok (.invokestatic 35, 3) := by decide +kernel
theorem dX1_explore_26 : decode cX1_explore 26 = .ok (.iconst 0, 1) := by decide +kernel
theorem dX1_explore_27 : decode cX1_explore 27 = .ok (.istore_n 3, 1) := by decide +kernel
theorem dX1_explore_28 : decode cX1_explore 28 = .ok (.iload_n 3, 1) := by decide +kernel
theorem dX1_explore_29 : decode cX1_explore 29 = .ok (.aload_n 1, 1) := by decide +kernel
theorem dX1_explore_30 : decode cX1_explore 30 = .ok (.getfield 41, 3) := by decide +kernel
theorem dX1_explore_33 : decode cX1_explore 33 = .ok (.if_icmp .ge 101, 3) := by decide +kernel
theorem dX1_explore_36 : decode cX1_explore 36 = .ok (.iconst 0, 1) := by decide +kernel
theorem dX1_explore_37 : decode cX1_explore 37 = .ok (.istore 4, 2) := by decide +kernel
theorem dX1_explore_39 : decode cX1_explore 39 = .ok (.iload 4, 2) := by decide +kernel
theorem dX1_explore_41 : decode cX1_explore 41 = .ok (.aload_n 1, 1) := by decide +kernel
theorem dX1_explore_42 : decode cX1_explore 42 = .ok (.getfield 44, 3) := by decide +kernel
theorem dX1_explore_45 : decode cX1_explore 45 = .ok (.iload_n 3, 1) := by decide +kernel
theorem dX1_explore_46 : decode cX1_explore 46 = .ok (.iaload, 1) := by decide +kernel
theorem dX1_explore_47 : decode cX1_explore 47 = .ok (.if_icmp .ge 81, 3) := by decide +kernel
theorem dX1_explore_50 : decode cX1_explore 50 = .ok (.bipush 62, 2) := by decide +kernel
theorem dX1_explore_52 : decode cX1_explore 52 = .ok (.iload_n 3, 1) := by decide +kernel
theorem dX1_explore_53 : decode cX1_explore 53 = .ok (.bipush 6, 2) := by decide +kernel
theorem dX1_explore_55 : decode cX1_explore 55 = .ok (.imul, 1) := by decide +kernel
theorem dX1_explore_56 : decode cX1_explore 56 = .ok (.iadd, 1) := by decide +kernel
theorem dX1_explore_57 : decode cX1_explore 57 = .ok (.iload 4, 2) := by decide +kernel
theorem dX1_explore_59 : decode cX1_explore 59 = .ok (.iadd, 1) := by decide +kernel
theorem dX1_explore_60 : decode cX1_explore 60 = .ok (.istore 5, 2) := by decide +kernel
theorem dX1_explore_62 : decode cX1_explore 62 = .ok (.iconst 0, 1) := by decide +kernel
theorem dX1_explore_63 : decode cX1_explore 63 = .ok (.istore 6, 2) := by decide +kernel
theorem dX1_explore_65 : decode cX1_explore 65 = .ok (.iload 6, 2) := by decide +kernel
theorem dX1_explore_67 : decode cX1_explore 67 = .ok (.aload_n 0, 1) := by decide +kernel
theorem dX1_explore_68 : decode cX1_explore 68 = .ok (.getfield 34, 3) := by decide +kernel
theorem dX1_explore_71 : decode cX1_explore 71 = .ok (.if_icmp .ge 51, 3) := by decide +kernel
theorem dX1_explore_74 : decode cX1_explore 74 = .ok (.iload 6, 2) := by decide +kernel
theorem dX1_explore_76 : decode cX1_explore 76 = .ok (.aload_n 2, 1) := by decide +kernel
theorem dX1_explore_77 : decode cX1_explore 77 = .ok (.getfield 47, 3) := by decide +kernel
theorem dX1_explore_80 : decode cX1_explore 80 = .ok (.iload 5, 2) := by decide +kernel
theorem dX1_explore_82 : decode cX1_explore 82 = .ok (.iaload, 1) := by decide +kernel
theorem dX1_explore_83 : decode cX1_explore 83 = .ok (.if_icmp .eq 33, 3) := by decide +kernel
theorem dX1_explore_86 : decode cX1_explore 86 = .ok (.aload_n 0, 1) := by decide +kernel
theorem dX1_explore_87 : decode cX1_explore 87 = .ok (.aload_n 1, 1) := by decide +kernel
theorem dX1_explore_88 : decode cX1_explore 88 = .ok (.aload_n 2, 1) := by decide +kernel
theorem dX1_explore_89 : decode cX1_explore 89 = .ok (.iload 5, 2) := by decide +kernel
theorem dX1_explore_91 : decode cX1_explore 91 = .ok (.iload 6, 2) := by decide +kernel
theorem dX1_explore_93 : decode cX1_explore 93 = .ok (.invokevirtual 52, 3) := by decide +kernel
theorem dX1_explore_96 : decode cX1_explore 96 = .ok (.ifCond .eq 20, 3) := by decide +kernel
theorem dX1_explore_99 : decode cX1_explore 99 = .ok (.aload_n 0, 1) := by decide +kernel
theorem dX1_explore_100 : decode cX1_explore 100 = .ok (.iload_n 3, 1) := by decide +kernel
theorem dX1_explore_101 : decode cX1_explore 101 = .ok (.bipush 100, 2) := by decide +kernel
theorem dX1_explore_103 : decode cX1_explore 103 = .ok (.imul, 1) := by decide +kernel
theorem dX1_explore_104 : decode cX1_explore 104 = .ok (.iload 4, 2) := by decide +kernel
theorem dX1_explore_106 : decode cX1_explore 106 = .ok (.bipush 10, 2) := by decide +kernel
theorem dX1_explore_108 : decode cX1_explore 108 = .ok (.imul, 1) := by decide +kernel
theorem dX1_explore_109 : decode cX1_explore 109 = .ok (.iadd, 1) := by decide +kernel
theorem dX1_explore_110 : decode cX1_explore 110 = .ok (.iload 6, 2) := by decide +kernel
theorem dX1_explore_112 : decode cX1_explore 112 = .ok (.iadd, 1) := by decide +kernel
theorem dX1_explore_113 : decode cX1_explore 113 = .ok (.invokevirtual 56, 3) := by decide +kernel
theorem dX1_explore_116 : decode cX1_explore 116 = .ok (.iinc 6 1, 3) := by decide +kernel
theorem dX1_explore_119 : decode cX1_explore 119 = .ok (.goto (-54), 3) := by decide +kernel
theorem dX1_explore_122 : decode cX1_explore 122 = .ok (.iinc 4 1, 3) := by decide +kernel
theorem dX1_explore_125 : decode cX1_explore 125 = .ok (.goto (-86), 3) := by decide +kernel
theorem dX1_explore_128 : decode cX1_explore 128 = .ok (.iinc 3 1, 3) := by decide +kernel
theorem dX1_explore_131 : decode cX1_explore 131 = .ok (.goto (-103), 3) := by decide +kernel
theorem dX1_explore_134 : decode cX1_explore 134 = .ok (.return_, 1) := by decide +kernel
theorem dX1_addFound_0 : decode cX1_addFound 0 = .ok (.aload_n 0, 1) := by decide +kernel
theorem dX1_addFound_1 : decode cX1_addFound 1 = .ok (.aload_n 0, 1) := by decide +kernel
theorem dX1_addFound_2 : decode cX1_addFound 2 = .ok (.getfield 22, 3) := by decide +kernel
theorem dX1_addFound_5 : decode cX1_addFound 5 = .ok (.ifCond .ne 7, 3) := by decide +kernel
theorem dX1_addFound_8 : decode cX1_addFound 8 = .ok (.iload_n 1, 1) := by decide +kernel
theorem dX1_addFound_9 : decode cX1_addFound 9 = .ok (.goto 7, 3) := by decide +kernel
theorem dX1_addFound_12 : decode cX1_addFound 12 = .ok (.aload_n 0, 1) := by decide +kernel
theorem dX1_addFound_13 : decode cX1_addFound 13 = .ok (.getfield 26, 3) := by decide +kernel
theorem dX1_addFound_16 : decode cX1_addFound 16 = .ok (.putfield 26, 3) := by decide +kernel
theorem dX1_addFound_19 : decode cX1_addFound 19 = .ok (.aload_n 0, 1) := by decide +kernel
theorem dX1_addFound_20 : decode cX1_addFound 20 = .ok (.dup, 1) := by decide +kernel
theorem dX1_addFound_21 : decode cX1_addFound 21 = .ok (.getfield 22, 3) := by decide +kernel
theorem dX1_addFound_24 : decode cX1_addFound 24 = .ok (.iconst 1, 1) := by decide +kernel
theorem dX1_addFound_25 : decode cX1_addFound 25 = .ok (.iadd, 1) := by decide +kernel
theorem dX1_addFound_26 : decode cX1_addFound 26 = .ok (.putfield 22, 3) := by decide +kernel
theorem dX1_addFound_29 : decode cX1_addFound 29 = .ok (.iconst 0, 1) := by decide +kernel
theorem dX1_addFound_30 : decode cX1_addFound 30 = .ok (.istore_n 2, 1) := by decide +kernel
theorem dX1_addFound_31 : decode cX1_addFound 31 = .ok (.iload_n 2, 1) := by decide +kernel
theorem dX1_addFound_32 : decode cX1_addFound 32 = .ok (.aload_n 0, 1) := by decide +kernel
theorem dX1_addFound_33 : decode cX1_addFound 33 = .ok (.getfield 34, 3) := by decide +kernel
theorem dX1_addFound_36 : decode cX1_addFound 36 = .ok (.if_icmp .ge 28, 3) := by decide +kernel
theorem dX1_addFound_39 : decode cX1_addFound 39 = .ok (.aload_n 0, 1) := by decide +kernel
theorem dX1_addFound_40 : decode cX1_addFound 40 = .ok (.getfield 9, 3) := by decide +kernel
theorem dX1_addFound_43 : decode cX1_addFound 43 = .ok (.iload_n 2, 1) := by decide +kernel
theorem dX1_addFound_44 : decode cX1_addFound 44 = .ok (.dup2, 1) := by decide +kernel
theorem dX1_addFound_45 : decode cX1_addFound 45 = .ok (.iaload, 1) := by decide +kernel
theorem dX1_addFound_46 : decode cX1_addFound 46 = .ok (.iconst 1, 1) := by decide +kernel
theorem dX1_addFound_47 : decode cX1_addFound 47 = .ok (.aload_n 0, 1) := by decide +kernel
theorem dX1_addFound_48 : decode cX1_addFound 48 = .ok (.getfield 15, 3) := by decide +kernel
theorem dX1_addFound_51 : decode cX1_addFound 51 = .ok (.iload_n 2, 1) := by decide +kernel
theorem dX1_addFound_52 : decode cX1_addFound 52 = .ok (.iaload, 1) := by decide +kernel
theorem dX1_addFound_53 : decode cX1_addFound 53 = .ok (.iconst 1, 1) := by decide +kernel
theorem dX1_addFound_54 : decode cX1_addFound 54 = .ok (.iadd, 1) := by decide +kernel
theorem dX1_addFound_55 : decode cX1_addFound 55 = .ok (.ishl, 1) := by decide +kernel
theorem dX1_addFound_56 : decode cX1_addFound 56 = .ok (.ior, 1) := by decide +kernel
theorem dX1_addFound_57 : decode cX1_addFound 57 = .ok (.iastore, 1) := by decide +kernel
theorem dX1_addFound_58 : decode cX1_addFound 58 = .ok (.iinc 2 1, 3) := by decide +kernel
theorem dX1_addFound_61 : decode cX1_addFound 61 = .ok (.goto (-30), 3) := by decide +kernel
theorem dX1_addFound_64 : decode cX1_addFound 64 = .ok (.return_, 1) := by decide +kernel
theorem dX1_holdsAsItIs_0 : decode cX1_holdsAsItIs 0 = .ok (.aload_n 0, 1) := by decide +kernel
theorem dX1_holdsAsItIs_1 : decode cX1_holdsAsItIs 1 = .ok (.aload_n 1, 1) := by decide +kernel
theorem dX1_holdsAsItIs_2 : decode cX1_holdsAsItIs 2 = .ok (.getfield 29, 3) := by decide +kernel
theorem dX1_holdsAsItIs_5 : decode cX1_holdsAsItIs 5 = .ok (.putfield 34, 3) := by decide +kernel
theorem dX1_holdsAsItIs_8 : decode cX1_holdsAsItIs 8 = .ok (.aload_n 0, 1) := by decide +kernel
theorem dX1_holdsAsItIs_9 : decode cX1_holdsAsItIs 9 = .ok (.aload_n 1, 1) := by decide +kernel
theorem dX1_holdsAsItIs_10 : decode cX1_holdsAsItIs 10 = .ok (.aload_n 2, 1) := by decide +kernel
theorem dX1_holdsAsItIs_11 : decode cX1_holdsAsItIs 11 = .ok (.iconst (-1), 1) := by decide +kernel
theorem dX1_holdsAsItIs_12 : decode cX1_holdsAsItIs 12 = .ok (.iconst (-1), 1) := by decide +kernel
theorem dX1_holdsAsItIs_13 : decode cX1_holdsAsItIs 13 = .ok (.invokevirtual 52, 3) := by decide +kernel
theorem dX1_holdsAsItIs_16 : decode cX1_holdsAsItIs 16 = .ok (.ireturn, 1) := by decide +kernel
theorem dX1_holds_0 : decode cX1_holds 0 = .ok (.aload_n 0, 1) := by decide +kernel
theorem dX1_holds_1 : decode cX1_holds 1 = .ok (.getfield 18, 3) := by decide +kernel
theorem dX1_holds_4 : decode cX1_holds 4 = .ok (.aload_n 1, 1) := by decide +kernel
theorem dX1_holds_5 : decode cX1_holds 5 = .ok (.aload_n 2, 1) := by decide +kernel
theorem dX1_holds_6 : decode cX1_holds 6 = .ok (.getfield 47, 3) := by decide +kernel
theorem dX1_holds_9 : decode cX1_holds 9 = .ok (.invokevirtual 60, 3) := by decide +kernel
theorem dX1_holds_12 : decode cX1_holds 12 = .ok (.iload_n 3, 1) := by decide +kernel
theorem dX1_holds_13 : decode cX1_holds 13 = .ok (.bipush 62, 2) := by decide +kernel
theorem dX1_holds_15 : decode cX1_holds 15 = .ok (.if_icmp .lt 20, 3) := by decide +kernel
theorem dX1_holds_18 : decode cX1_holds 18 = .ok (.iload_n 3, 1) := by decide +kernel
theorem dX1_holds_19 : decode cX1_holds 19 = .ok (.bipush 98, 2) := by decide +kernel
theorem dX1_holds_21 : decode cX1_holds 21 = .ok (.if_icmp .ge 14, 3) := by decide +kernel
theorem dX1_holds_24 : decode cX1_holds 24 = .ok (.aload_n 0, 1) := by decide +kernel
theorem dX1_holds_25 : decode cX1_holds 25 = .ok (.getfield 18, 3) := by decide +kernel
theorem dX1_holds_28 : decode cX1_holds 28 = .ok (.getfield 66, 3) := by decide +kernel
theorem dX1_holds_31 : decode cX1_holds 31 = .ok (.iload_n 3, 1) := by decide +kernel
theorem dX1_holds_32 : decode cX1_holds 32 = .ok (.iload 4, 2) := by decide +kernel
theorem dX1_holds_34 : decode cX1_holds 34 = .ok (.iastore, 1) := by decide +kernel
theorem dX1_holds_35 : decode cX1_holds 35 = .ok (.iconst 1, 1) := by decide +kernel
theorem dX1_holds_36 : decode cX1_holds 36 = .ok (.aload_n 2, 1) := by decide +kernel
theorem dX1_holds_37 : decode cX1_holds 37 = .ok (.invokevirtual 67, 3) := by decide +kernel
theorem dX1_holds_40 : decode cX1_holds 40 = .ok (.invokestatic 71, 3) := by decide +kernel
theorem dX1_holds_43 : decode cX1_holds 43 = .ok (.istore 5, 2) := by decide +kernel
theorem dX1_holds_45 : decode cX1_holds 45 = .ok (.iconst 1, 1) := by decide +kernel
theorem dX1_holds_46 : decode cX1_holds 46 = .ok (.istore 6, 2) := by decide +kernel
theorem dX1_holds_48 : decode cX1_holds 48 = .ok (.iload 6, 2) := by decide +kernel
theorem dX1_holds_50 : decode cX1_holds 50 = .ok (.iload 5, 2) := by decide +kernel
theorem dX1_holds_52 : decode cX1_holds 52 = .ok (.if_icmp .gt 112, 3) := by decide +kernel
theorem dX1_holds_55 : decode cX1_holds 55 = .ok (.aload_n 0, 1) := by decide +kernel
theorem dX1_holds_56 : decode cX1_holds 56 = .ok (.getfield 18, 3) := by decide +kernel
theorem dX1_holds_59 : decode cX1_holds 59 = .ok (.invokevirtual 77, 3) := by decide +kernel
theorem dX1_holds_62 : decode cX1_holds 62 = .ok (.iconst 0, 1) := by decide +kernel
theorem dX1_holds_63 : decode cX1_holds 63 = .ok (.istore 7, 2) := by decide +kernel
theorem dX1_holds_65 : decode cX1_holds 65 = .ok (.iload 7, 2) := by decide +kernel
theorem dX1_holds_67 : decode cX1_holds 67 = .ok (.aload_n 2, 1) := by decide +kernel
theorem dX1_holds_68 : decode cX1_holds 68 = .ok (.getfield 80, 3) := by decide +kernel
theorem dX1_holds_71 : decode cX1_holds 71 = .ok (.if_icmp .ge 47, 3) := by decide +kernel
theorem dX1_holds_74 : decode cX1_holds 74 = .ok (.aload_n 2, 1) := by decide +kernel
theorem dX1_holds_75 : decode cX1_holds 75 = .ok (.getfield 83, 3) := by decide +kernel
theorem dX1_holds_78 : decode cX1_holds 78 = .ok (.iload 7, 2) := by decide +kernel
theorem dX1_holds_80 : decode cX1_holds 80 = .ok (.iaload, 1) := by decide +kernel
theorem dX1_holds_81 : decode cX1_holds 81 = .ok (.iload 6, 2) := by decide +kernel
theorem dX1_holds_83 : decode cX1_holds 83 = .ok (.if_icmp .ne 29, 3) := by decide +kernel
theorem dX1_holds_86 : decode cX1_holds 86 = .ok (.aload_n 0, 1) := by decide +kernel
theorem dX1_holds_87 : decode cX1_holds 87 = .ok (.getfield 18, 3) := by decide +kernel
theorem dX1_holds_90 : decode cX1_holds 90 = .ok (.aload_n 2, 1) := by decide +kernel
theorem dX1_holds_91 : decode cX1_holds 91 = .ok (.getfield 86, 3) := by decide +kernel
theorem dX1_holds_94 : decode cX1_holds 94 = .ok (.iload 7, 2) := by decide +kernel
theorem dX1_holds_96 : decode cX1_holds 96 = .ok (.iaload, 1) := by decide +kernel
theorem dX1_holds_97 : decode cX1_holds 97 = .ok (.aload_n 2, 1) := by decide +kernel
theorem dX1_holds_98 : decode cX1_holds 98 = .ok (.getfield 89, 3) := by decide +kernel
theorem dX1_holds_101 : decode cX1_holds 101 = .ok (.iload 7, 2) := by decide +kernel
theorem dX1_holds_103 : decode cX1_holds 103 = .ok (.iaload, 1) := by decide +kernel
theorem dX1_holds_104 : decode cX1_holds 104 = .ok (.invokevirtual 92, 3) := by decide +kernel
theorem dX1_holds_107 : decode cX1_holds 107 = .ok (.ifCond .ne 5, 3) := by decide +kernel
theorem dX1_holds_110 : decode cX1_holds 110 = .ok (.iconst 0, 1) := by decide +kernel
theorem dX1_holds_111 : decode cX1_holds 111 = .ok (.ireturn, 1) := by decide +kernel
theorem dX1_holds_112 : decode cX1_holds 112 = .ok (.iinc 7 1, 3) := by decide +kernel
theorem dX1_holds_115 : decode cX1_holds 115 = .ok (.goto (-50), 3) := by decide +kernel
theorem dX1_holds_118 : decode cX1_holds 118 = .ok (.iconst 0, 1) := by decide +kernel
theorem dX1_holds_119 : decode cX1_holds 119 = .ok (.istore 7, 2) := by decide +kernel
theorem dX1_holds_121 : decode cX1_holds 121 = .ok (.iload 6, 2) := by decide +kernel
theorem dX1_holds_123 : decode cX1_holds 123 = .ok (.iconst 1, 1) := by decide +kernel
theorem dX1_holds_124 : decode cX1_holds 124 = .ok (.if_icmp .ne 34, 3) := by decide +kernel
theorem dX1_holds_127 : decode cX1_holds 127 = .ok (.iload 7, 2) := by decide +kernel
theorem dX1_holds_129 : decode cX1_holds 129 = .ok (.aload_n 0, 1) := by decide +kernel
theorem dX1_holds_130 : decode cX1_holds 130 = .ok (.getfield 34, 3) := by decide +kernel
theorem dX1_holds_133 : decode cX1_holds 133 = .ok (.if_icmp .ge 25, 3) := by decide +kernel
theorem dX1_holds_136 : decode cX1_holds 136 = .ok (.aload_n 0, 1) := by decide +kernel
theorem dX1_holds_137 : decode cX1_holds 137 = .ok (.getfield 15, 3) := by decide +kernel
theorem dX1_holds_140 : decode cX1_holds 140 = .ok (.iload 7, 2) := by decide +kernel
theorem dX1_holds_142 : decode cX1_holds 142 = .ok (.aload_n 0, 1) := by decide +kernel
theorem dX1_holds_143 : decode cX1_holds 143 = .ok (.getfield 18, 3) := by decide +kernel
theorem dX1_holds_146 : decode cX1_holds 146 = .ok (.iload 7, 2) := by decide +kernel
theorem dX1_holds_148 : decode cX1_holds 148 = .ok (.invokevirtual 96, 3) := by decide +kernel
theorem dX1_holds_151 : decode cX1_holds 151 = .ok (.iastore, 1) := by decide +kernel
theorem dX1_holds_152 : decode cX1_holds 152 = .ok (.iinc 7 1, 3) := by decide +kernel
theorem dX1_holds_155 : decode cX1_holds 155 = .ok (.goto (-34), 3) := by decide +kernel
theorem dX1_holds_158 : decode cX1_holds 158 = .ok (.iinc 6 1, 3) := by decide +kernel
theorem dX1_holds_161 : decode cX1_holds 161 = .ok (.goto (-113), 3) := by decide +kernel
theorem dX1_holds_164 : decode cX1_holds 164 = .ok (.iconst 1, 1) := by decide +kernel
theorem dX1_holds_165 : decode cX1_holds 165 = .ok (.ireturn, 1) := by decide +kernel
theorem dX1_mostUnlike_0 : decode cX1_mostUnlike 0 = .ok (.iconst (-1), 1) := by decide +kernel
theorem dX1_mostUnlike_1 : decode cX1_mostUnlike 1 = .ok (.istore_n 1, 1) := by decide +kernel
theorem dX1_mostUnlike_2 : decode cX1_mostUnlike 2 = .ok (.iconst 0, 1) := by decide +kernel
theorem dX1_mostUnlike_3 : decode cX1_mostUnlike 3 = .ok (.istore_n 2, 1) := by decide +kernel
theorem dX1_mostUnlike_4 : decode cX1_mostUnlike 4 = .ok (.iload_n 2, 1) := by decide +kernel
theorem dX1_mostUnlike_5 : decode cX1_mostUnlike 5 = .ok (.aload_n 0, 1) := by decide +kernel
theorem dX1_mostUnlike_6 : decode cX1_mostUnlike 6 = .ok (.getfield 34, 3) := by decide +kernel
theorem dX1_mostUnlike_9 : decode cX1_mostUnlike 9 = .ok (.if_icmp .ge 44, 3) := by decide +kernel
theorem dX1_mostUnlike_12 : decode cX1_mostUnlike 12 = .ok (.aload_n 0, 1) := by decide +kernel
theorem dX1_mostUnlike_13 : decode cX1_mostUnlike 13 = .ok (.getfield 22, 3) := by decide +kernel
theorem dX1_mostUnlike_16 : decode cX1_mostUnlike 16 = .ok (.ifCond .le 37, 3) := by decide +kernel
theorem dX1_mostUnlike_19 : decode cX1_mostUnlike 19 = .ok (.iload_n 1, 1) := by decide +kernel
theorem dX1_mostUnlike_20 : decode cX1_mostUnlike 20 = .ok (.iconst (-1), 1) := by decide +kernel
theorem dX1_mostUnlike_21 : decode cX1_mostUnlike 21 = .ok (.if_icmp .eq 24, 3) := by decide +kernel
theorem dX1_mostUnlike_24 : decode cX1_mostUnlike 24 = .ok (.aload_n 0, 1) := by decide +kernel
theorem dX1_mostUnlike_25 : decode cX1_mostUnlike 25 = .ok (.getfield 9, 3) := by decide +kernel
theorem dX1_mostUnlike_28 : decode cX1_mostUnlike 28 = .ok (.iload_n 2, 1) := by decide +kernel
theorem dX1_mostUnlike_29 : decode cX1_mostUnlike 29 = .ok (.iaload, 1) := by decide +kernel
theorem dX1_mostUnlike_30 : decode cX1_mostUnlike 30 = .ok (.invokestatic 100, 3) := by decide +kernel
theorem dX1_mostUnlike_33 : decode cX1_mostUnlike 33 = .ok (.aload_n 0, 1) := by decide +kernel
theorem dX1_mostUnlike_34 : decode cX1_mostUnlike 34 = .ok (.getfield 9, 3) := by decide +kernel
theorem dX1_mostUnlike_37 : decode cX1_mostUnlike 37 = .ok (.iload_n 1, 1) := by decide +kernel
theorem dX1_mostUnlike_38 : decode cX1_mostUnlike 38 = .ok (.iaload, 1) := by decide +kernel
theorem dX1_mostUnlike_39 : decode cX1_mostUnlike 39 = .ok (.invokestatic 100, 3) := by decide +kernel
theorem dX1_mostUnlike_42 : decode cX1_mostUnlike 42 = .ok (.if_icmp .le 5, 3) := by decide +kernel
theorem dX1_mostUnlike_45 : decode cX1_mostUnlike 45 = .ok (.iload_n 2, 1) := by decide +kernel
theorem dX1_mostUnlike_46 : decode cX1_mostUnlike 46 = .ok (.istore_n 1, 1) := by decide +kernel
theorem dX1_mostUnlike_47 : decode cX1_mostUnlike 47 = .ok (.iinc 2 1, 3) := by decide +kernel
theorem dX1_mostUnlike_50 : decode cX1_mostUnlike 50 = .ok (.goto (-46), 3) := by decide +kernel
theorem dX1_mostUnlike_53 : decode cX1_mostUnlike 53 = .ok (.iload_n 1, 1) := by decide +kernel
theorem dX1_mostUnlike_54 : decode cX1_mostUnlike 54 = .ok (.ireturn, 1) := by decide +kernel
theorem dX2_init_0 : decode cX2_init 0 = .ok (.aload_n 0, 1) := by decide +kernel
theorem dX2_init_1 : decode cX2_init 1 = .ok (.invokespecial 3, 3) := by decide +kernel
theorem dX2_init_4 : decode cX2_init 4 = .ok (.aload_n 0, 1) := by decide +kernel
theorem dX2_init_5 : decode cX2_init 5 = .ok (.bipush 96, 2) := by decide +kernel
theorem dX2_init_7 : decode cX2_init 7 = .ok (.newarray .int, 2) := by decide +kernel
theorem dX2_init_9 : decode cX2_init 9 = .ok (.putfield 9, 3) := by decide +kernel
theorem dX2_init_12 : decode cX2_init 12 = .ok (.aload_n 0, 1) := by decide +kernel
theorem dX2_init_13 : decode cX2_init 13 = .ok (.aload_n 1, 1) := by decide +kernel
theorem dX2_init_14 : decode cX2_init 14 = .ok (.putfield 15, 3) := by decide +kernel
theorem dX2_init_17 : decode cX2_init 17 = .ok (.return_, 1) := by decide +kernel
theorem dX2_read_0 : decode cX2_read 0 = .ok (.aload_n 0, 1) := by decide +kernel
theorem dX2_read_1 : decode cX2_read 1 = .ok (.iconst 0, 1) := by decide +kernel
theorem dX2_read_2 : decode cX2_read 2 = .ok (.putfield 19, 3) := by decide +kernel
theorem dX2_read_5 : decode cX2_read 5 = .ok (.aload_n 0, 1) := by decide +kernel
theorem dX2_read_6 : decode cX2_read 6 = .ok (.iconst 0, 1) := by decide +kernel
theorem dX2_read_7 : decode cX2_read 7 = .ok (.putfield 23, 3) := by decide +kernel
theorem dX2_read_10 : decode cX2_read 10 = .ok (.aload_n 1, 1) := by decide +kernel
theorem dX2_read_11 : decode cX2_read 11 = .ok (.iload_n 3, 1) := by decide +kernel
theorem dX2_read_12 : decode cX2_read 12 = .ok (.invokevirtual 26, 3) := by decide +kernel
theorem dX2_read_15 : decode cX2_read 15 = .ok (.aload_n 0, 1) := by decide +kernel
theorem dX2_read_16 : decode cX2_read 16 = .ok (.iconst 1, 1) := by decide +kernel
theorem dX2_read_17 : decode cX2_read 17 = .ok (.invokevirtual 32, 3) := by decide +kernel
theorem dX2_read_20 : decode cX2_read 20 = .ok (.iconst 0, 1) := by decide +kernel
theorem dX2_read_21 : decode cX2_read 21 = .ok (.istore 4, 2) := by decide +kernel
theorem dX2_read_23 : decode cX2_read 23 = .ok (.iconst 0, 1) := by decide +kernel
theorem dX2_read_24 : decode cX2_read 24 = .ok (.istore 5, 2) := by decide +kernel
theorem dX2_read_26 : decode cX2_read 26 = .ok (.iload 5, 2) := by decide +kernel
theorem dX2_read_28 : decode cX2_read 28 = .ok (.sipush 700, 3) := by decide +kernel
theorem dX2_read_31 : decode cX2_read 31 = .ok (.if_icmp .gt 49, 3) := by decide +kernel
theorem dX2_read_34 : decode cX2_read 34 = .ok (.iload 4, 2) := by decide +kernel
theorem dX2_read_36 : decode cX2_read 36 = .ok (.ifCond .ne 44, 3) := by decide +kernel
theorem dX2_read_39 : decode cX2_read 39 = .ok (.aload_n 0, 1) := by decide +kernel
theorem dX2_read_40 : decode cX2_read 40 = .ok (.getfield 36, 3) := by decide +kernel
theorem dX2_read_43 : decode cX2_read 43 = .ok (.ifCond .eq 12, 3) := by decide +kernel
theorem dX2_read_46 : decode cX2_read 46 = .ok (.aload_n 0, 1) := by decide +kernel
theorem dX2_read_47 : decode cX2_read 47 = .ok (.aload_n 1, 1) := by decide +kernel
theorem dX2_read_48 : decode cX2_read 48 = .ok (.iload_n 2, 1) := by decide +kernel
theorem dX2_read_49 : decode cX2_read 49 = .ok (.invokevirtual 40, 3) := by decide +kernel
theorem dX2_read_52 : decode cX2_read 52 = .ok (.goto 8, 3) := by decide +kernel
theorem dX2_read_55 : decode cX2_read 55 = .ok (.aload_n 0, 1) := by decide +kernel
theorem dX2_read_56 : decode cX2_read 56 = .ok (.aload_n 1, 1) := by decide +kernel
theorem dX2_read_57 : decode cX2_read 57 = .ok (.invokevirtual 44, 3) := by decide +kernel
theorem dX2_read_60 : decode cX2_read 60 = .ok (.istore 4, 2) := by decide +kernel
theorem dX2_read_62 : decode cX2_read 62 = .ok (.iload 4, 2) := by decide +kernel
theorem dX2_read_64 : decode cX2_read 64 = .ok (.ifCond .ne 10, 3) := by decide +kernel
theorem dX2_read_67 : decode cX2_read 67 = .ok (.aload_n 0, 1) := by decide +kernel
theorem dX2_read_68 : decode cX2_read 68 = .ok (.getfield 15, 3) := by decide +kernel
theorem dX2_read_71 : decode cX2_read 71 = .ok (.invokevirtual 48, 3) := by decide +kernel
theorem dX2_read_74 : decode cX2_read 74 = .ok (.iinc 5 1, 3) := by decide +kernel
theorem dX2_read_77 : decode cX2_read 77 = .ok (.goto (-51), 3) := by decide +kernel
theorem dX2_read_80 : decode cX2_read 80 = .ok (.aload_n 1, 1) := by decide +kernel
theorem dX2_read_81 : decode cX2_read 81 = .ok (.iload 4, 2) := by decide +kernel
theorem dX2_read_83 : decode cX2_read 83 = .ok (.iconst (-1), 1) := by decide +kernel
theorem dX2_read_84 : decode cX2_read 84 = .ok (.if_icmp .ne 7, 3) := by decide +kernel
theorem dX2_read_87 : decode cX2_read 87 = .ok (.iconst 1, 1) := by decide +kernel
theorem dX2_read_88 : decode cX2_read 88 = .ok (.goto 4, 3) := by decide +kernel
theorem dX2_read_91 : decode cX2_read 91 = .ok (.iconst 0, 1) := by decide +kernel
theorem dX2_read_92 : decode cX2_read 92 = .ok (.putfield 53, 3) := by decide +kernel
theorem dX2_read_95 : decode cX2_read 95 = .ok (.iload 4, 2) := by decide +kernel
theorem dX2_read_97 : decode cX2_read 97 = .ok (.iconst (-1), 1) := by decide +kernel
theorem dX2_read_98 : decode cX2_read 98 = .ok (.if_icmp .ne 7, 3) := by decide +kernel
theorem dX2_read_101 : decode cX2_read 101 = .ok (.iconst 0, 1) := by decide +kernel
theorem dX2_read_102 : decode cX2_read 102 = .ok (.goto 5, 3) := by decide +kernel
theorem dX2_read_105 : decode cX2_read 105 = .ok (.iload 4, 2) := by decide +kernel
theorem dX2_read_107 : decode cX2_read 107 = .ok (.ireturn, 1) := by decide +kernel
theorem dX2_expectPart_0 : decode cX2_expectPart 0 = .ok (.aload_n 0, 1) := by decide +kernel
theorem dX2_expectPart_1 : decode cX2_expectPart 1 = .ok (.iconst 1, 1) := by decide +kernel
theorem dX2_expectPart_2 : decode cX2_expectPart 2 = .ok (.putfield 36, 3) := by decide +kernel
theorem dX2_expectPart_5 : decode cX2_expectPart 5 = .ok (.aload_n 0, 1) := by decide +kernel
theorem dX2_expectPart_6 : decode cX2_expectPart 6 = .ok (.iload_n 1, 1) := by decide +kernel
theorem dX2_expectPart_7 : decode cX2_expectPart 7 = .ok (.putfield 56, 3) := by decide +kernel
theorem dX2_expectPart_10 : decode cX2_expectPart 10 = .ok (.aload_n 0, 1) := by decide +kernel
theorem dX2_expectPart_11 : decode cX2_expectPart 11 = .ok (.iconst 0, 1) := by decide +kernel
theorem dX2_expectPart_12 : decode cX2_expectPart 12 = .ok (.putfield 59, 3) := by decide +kernel
theorem dX2_expectPart_15 : decode cX2_expectPart 15 = .ok (.return_, 1) := by decide +kernel
theorem dX2_readPart_0 : decode cX2_readPart 0 = .ok (.aload_n 0, 1) := by decide +kernel
theorem dX2_readPart_1 : decode cX2_readPart 1 = .ok (.getfield 15, 3) := by decide +kernel
theorem dX2_readPart_4 : decode cX2_readPart 4 = .ok (.getfield 62, 3) := by decide +kernel
theorem dX2_readPart_7 : decode cX2_readPart 7 = .ok (.istore_n 3, 1) := by decide +kernel
theorem dX2_readPart_8 : decode cX2_readPart 8 = .ok (.iload_n 3, 1) := by decide +kernel
theorem dX2_readPart_9 : decode cX2_readPart 9 = .ok (.iconst 2, 1) := by decide +kernel
theorem dX2_readPart_10 : decode cX2_readPart 10 = .ok (.if_icmp .eq 16, 3) := by decide +kernel
theorem dX2_readPart_13 : decode cX2_readPart 13 = .ok (.iload_n 3, 1) := by decide +kernel
theorem dX2_readPart_14 : decode cX2_readPart 14 = .ok (.iconst 1, 1) := by decide +kernel
theorem dX2_readPart_15 : decode cX2_readPart 15 = .ok (.if_icmp .eq 11, 3) := by decide +kernel
theorem dX2_readPart_18 : decode cX2_readPart 18 = .ok (.iload_n 3, 1) := by decide +kernel
theorem dX2_readPart_19 : decode cX2_readPart 19 = .ok (.bipush 40, 2) := by decide +kernel
theorem dX2_readPart_21 : decode cX2_readPart 21 = .ok (.if_icmp .eq 5, 3) := by decide +kernel
theorem dX2_readPart_24 : decode cX2_readPart 24 = .ok (.iconst 1, 1) := by decide +kernel
theorem dX2_readPart_25 : decode cX2_readPart 25 = .ok (.ireturn, 1) := by decide +kernel
theorem dX2_readPart_26 : decode cX2_readPart 26 = .ok (.aload_n 0, 1) := by decide +kernel
theorem dX2_readPart_27 : decode cX2_readPart 27 = .ok (.getfield 23, 3) := by decide +kernel
theorem dX2_readPart_30 : decode cX2_readPart 30 = .ok (.bipush 6, 2) := by decide +kernel
theorem dX2_readPart_32 : decode cX2_readPart 32 = .ok (.if_icmp .ge 13, 3) := by decide +kernel
theorem dX2_readPart_35 : decode cX2_readPart 35 = .ok (.aload_n 0, 1) := by decide +kernel
theorem dX2_readPart_36 : decode cX2_readPart 36 = .ok (.getfield 15, 3) := by decide +kernel
theorem dX2_readPart_39 : decode cX2_readPart 39 = .ok (.invokevirtual 65, 3) := by decide +kernel
theorem dX2_readPart_42 : decode cX2_readPart 42 = .ok (.ifCond .eq 5, 3) := by decide +kernel
theorem dX2_readPart_45 : decode cX2_readPart 45 = .ok (.iconst 2, 1) := by decide +kernel
theorem dX2_readPart_46 : decode cX2_readPart 46 = .ok (.ireturn, 1) := by decide +kernel
theorem dX2_readPart_47 : decode cX2_readPart 47 = .ok (.iload_n 3, 1) := by decide +kernel
theorem dX2_readPart_48 : decode cX2_readPart 48 = .ok (.bipush 40, 2) := by decide +kernel
theorem dX2_readPart_50 : decode cX2_readPart 50 = .ok (.if_icmp .ne 25, 3) := by decide +kernel
theorem dX2_readPart_53 : decode cX2_readPart 53 = .ok (.aload_n 0, 1) := by decide +kernel
theorem dX2_readPart_54 : decode cX2_readPart 54 = .ok (.iconst 0, 1) := by decide +kernel
theorem dX2_readPart_55 : decode cX2_readPart 55 = .ok (.invokevirtual 69, 3) := by decide +kernel
theorem dX2_readPart_58 : decode cX2_readPart 58 = .ok (.aload_n 0, 1) := by decide +kernel
theorem dX2_readPart_59 : decode cX2_readPart 59 = .ok (.dup, 1) := by decide +kernel
theorem dX2_readPart_60 : decode cX2_readPart 60 = .ok (.getfield 23, 3) := by decide +kernel
theorem dX2_readPart_63 : decode cX2_readPart 63 = .ok (.iconst 1, 1) := by decide +kernel
theorem dX2_readPart_64 : decode cX2_readPart 64 = .ok (.iadd, 1) := by decide +kernel
theorem dX2_readPart_65 : decode cX2_readPart 65 = .ok (.putfield 23, 3) := by decide +kernel
theorem dX2_readPart_68 : decode cX2_readPart 68 = .ok (.aload_n 0, 1) := by decide +kernel
theorem dX2_readPart_69 : decode cX2_readPart 69 = .ok (.iconst 1, 1) := by decide +kernel
theorem dX2_readPart_70 : decode cX2_readPart 70 = .ok (.invokevirtual 32, 3) := by decide +kernel
theorem dX2_readPart_73 : decode cX2_readPart 73 = .ok (.iconst 0, 1) := by decide +kernel
theorem dX2_readPart_74 : decode cX2_readPart 74 = .ok (.ireturn, 1) := by decide +kernel
theorem dX2_readPart_75 : decode cX2_readPart 75 = .ok (.aload_n 0, 1) := by decide +kernel
theorem dX2_readPart_76 : decode cX2_readPart 76 = .ok (.getfield 56, 3) := by decide +kernel
theorem dX2_readPart_79 : decode cX2_readPart 79 = .ok (.ifCond .eq 20, 3) := by decide +kernel
theorem dX2_readPart_82 : decode cX2_readPart 82 = .ok (.aload_n 0, 1) := by decide +kernel
theorem dX2_readPart_83 : decode cX2_readPart 83 = .ok (.getfield 15, 3) := by decide +kernel
theorem dX2_readPart_86 : decode cX2_readPart 86 = .ok (.ldc 72, 2) := by decide +kernel
theorem dX2_readPart_88 : decode cX2_readPart 88 = .ok (.invokevirtual 74, 3) := by decide +kernel
theorem dX2_readPart_91 : decode cX2_readPart 91 = .ok (.ifCond .eq 8, 3) := by decide +kernel
theorem dX2_readPart_94 : decode cX2_readPart 94 = .ok (.aload_n 0, 1) := by decide +kernel
theorem dX2_readPart_95 : decode cX2_readPart 95 = .ok (.invokevirtual 78, 3) := by decide +kernel
theorem dX2_readPart_98 : decode cX2_readPart 98 = .ok (.ireturn, 1) := by decide +kernel
theorem dX2_readPart_99 : decode cX2_readPart 99 = .ok (.iload_n 3, 1) := by decide +kernel
theorem dX2_readPart_100 : decode cX2_readPart 100 = .ok (.iconst 2, 1) := by decide +kernel
theorem dX2_readPart_101 : decode cX2_readPart 101 = .ok (.if_icmp .ne 13, 3) := by decide +kernel
theorem dX2_readPart_104 : decode cX2_readPart 104 = .ok (.aload_n 0, 1) := by decide +kernel
theorem dX2_readPart_105 : decode cX2_readPart 105 = .ok (.getfield 15, 3) := by decide +kernel
theorem dX2_readPart_108 : decode cX2_readPart 108 = .ok (.getfield 82, 3) := by decide +kernel
theorem dX2_readPart_111 : decode cX2_readPart 111 = .ok (.goto 8, 3) := by decide +kernel
theorem dX2_readPart_114 : decode cX2_readPart 114 = .ok (.aload_n 0, 1) := by decide +kernel
theorem dX2_readPart_115 : decode cX2_readPart 115 = .ok (.iload_n 2, 1) := by decide +kernel
theorem dX2_readPart_116 : decode cX2_readPart 116 = .ok (.invokevirtual 85, 3) := by decide +kernel
theorem dX2_readPart_119 : decode cX2_readPart 119 = .ok (.istore 4, 2) := by decide +kernel
theorem dX2_readPart_121 : decode cX2_readPart 121 = .ok (.iload 4, 2) := by decide +kernel
theorem dX2_readPart_123 : decode cX2_readPart 123 = .ok (.iconst (-1), 1) := by decide +kernel
theorem dX2_readPart_124 : decode cX2_readPart 124 = .ok (.if_icmp .ne 5, 3) := by decide +kernel
theorem dX2_readPart_127 : decode cX2_readPart 127 = .ok (.iconst 3, 1) := by decide +kernel
theorem dX2_readPart_128 : decode cX2_readPart 128 = .ok (.ireturn, 1) := by decide +kernel
theorem dX2_readPart_129 : decode cX2_readPart 129 = .ok (.aload_n 1, 1) := by decide +kernel
theorem dX2_readPart_130 : decode cX2_readPart 130 = .ok (.iload 4, 2) := by decide +kernel
theorem dX2_readPart_132 : decode cX2_readPart 132 = .ok (.invokevirtual 89, 3) := by decide +kernel
theorem dX2_readPart_135 : decode cX2_readPart 135 = .ok (.aload_n 0, 1) := by decide +kernel
theorem dX2_readPart_136 : decode cX2_readPart 136 = .ok (.iconst 0, 1) := by decide +kernel
theorem dX2_readPart_137 : decode cX2_readPart 137 = .ok (.putfield 36, 3) := by decide +kernel
theorem dX2_readPart_140 : decode cX2_readPart 140 = .ok (.iconst 0, 1) := by decide +kernel
theorem dX2_readPart_141 : decode cX2_readPart 141 = .ok (.ireturn, 1) := by decide +kernel
theorem dX2_readNot_0 : decode cX2_readNot 0 = .ok (.aload_n 0, 1) := by decide +kernel
theorem dX2_readNot_1 : decode cX2_readNot 1 = .ok (.getfield 59, 3) := by decide +kernel
theorem dX2_readNot_4 : decode cX2_readNot 4 = .ok (.bipush 6, 2) := by decide +kernel
theorem dX2_readNot_6 : decode cX2_readNot 6 = .ok (.if_icmp .lt 5, 3) := by decide +kernel
theorem dX2_readNot_9 : decode cX2_readNot 9 = .ok (.iconst 2, 1) := by decide +kernel
theorem dX2_readNot_10 : decode cX2_readNot 10 = .ok (.ireturn, 1) := by decide +kernel
theorem dX2_readNot_11 : decode cX2_readNot 11 = .ok (.aload_n 0, 1) := by decide +kernel
theorem dX2_readNot_12 : decode cX2_readNot 12 = .ok (.dup, 1) := by decide +kernel
theorem dX2_readNot_13 : decode cX2_readNot 13 = .ok (.getfield 59, 3) := by decide +kernel
theorem dX2_readNot_16 : decode cX2_readNot 16 = .ok (.iconst 1, 1) := by decide +kernel
theorem dX2_readNot_17 : decode cX2_readNot 17 = .ok (.iadd, 1) := by decide +kernel
theorem dX2_readNot_18 : decode cX2_readNot 18 = .ok (.putfield 59, 3) := by decide +kernel
theorem dX2_readNot_21 : decode cX2_readNot 21 = .ok (.aload_n 0, 1) := by decide +kernel
theorem dX2_readNot_22 : decode cX2_readNot 22 = .ok (.bipush (-4), 2) := by decide +kernel
theorem dX2_readNot_24 : decode cX2_readNot 24 = .ok (.invokevirtual 69, 3) := by decide +kernel
theorem dX2_readNot_27 : decode cX2_readNot 27 = .ok (.iconst 0, 1) := by decide +kernel
theorem dX2_readNot_28 : decode cX2_readNot 28 = .ok (.ireturn, 1) := by decide +kernel
theorem dX2_valueHere_0 : decode cX2_valueHere 0 = .ok (.aload_n 0, 1) := by decide +kernel
theorem dX2_valueHere_1 : decode cX2_valueHere 1 = .ok (.getfield 15, 3) := by decide +kernel
theorem dX2_valueHere_4 : decode cX2_valueHere 4 = .ok (.ldc 92, 2) := by decide +kernel
theorem dX2_valueHere_6 : decode cX2_valueHere 6 = .ok (.invokevirtual 74, 3) := by decide +kernel
theorem dX2_valueHere_9 : decode cX2_valueHere 9 = .ok (.ifCond .eq 6, 3) := by decide +kernel
theorem dX2_valueHere_12 : decode cX2_valueHere 12 = .ok (.bipush (-24), 2) := by decide +kernel
theorem dX2_valueHere_14 : decode cX2_valueHere 14 = .ok (.ireturn, 1) := by decide +kernel
theorem dX2_valueHere_15 : decode cX2_valueHere 15 = .ok (.aload_n 0, 1) := by decide +kernel
theorem dX2_valueHere_16 : decode cX2_valueHere 16 = .ok (.getfield 15, 3) := by decide +kernel
theorem dX2_valueHere_19 : decode cX2_valueHere 19 = .ok (.iload_n 1, 1) := by decide +kernel
theorem dX2_valueHere_20 : decode cX2_valueHere 20 = .ok (.ifCond .eq 8, 3) := by decide +kernel
theorem dX2_valueHere_23 : decode cX2_valueHere 23 = .ok (.ldc 94, 2) := by decide +kernel
theorem dX2_valueHere_25 : decode cX2_valueHere 25 = .ok (.goto 5, 3) := by decide +kernel
theorem dX2_valueHere_28 : decode cX2_valueHere 28 = .ok (.ldc 96, 2) := by decide +kernel
theorem dX2_valueHere_30 : decode cX2_valueHere 30 = .ok (.invokevirtual 74, 3) := by decide +kernel
theorem dX2_valueHere_33 : decode cX2_valueHere 33 = .ok (.ifCond .eq 6, 3) := by decide +kernel
theorem dX2_valueHere_36 : decode cX2_valueHere 36 = .ok (.bipush (-20), 2) := by decide +kernel
theorem dX2_valueHere_38 : decode cX2_valueHere 38 = .ok (.ireturn, 1) := by decide +kernel
theorem dX2_valueHere_39 : decode cX2_valueHere 39 = .ok (.aload_n 0, 1) := by decide +kernel
theorem dX2_valueHere_40 : decode cX2_valueHere 40 = .ok (.getfield 15, 3) := by decide +kernel
theorem dX2_valueHere_43 : decode cX2_valueHere 43 = .ok (.iload_n 1, 1) := by decide +kernel
theorem dX2_valueHere_44 : decode cX2_valueHere 44 = .ok (.ifCond .eq 8, 3) := by decide +kernel
theorem dX2_valueHere_47 : decode cX2_valueHere 47 = .ok (.ldc 98, 2) := by decide +kernel
theorem dX2_valueHere_49 : decode cX2_valueHere 49 = .ok (.goto 5, 3) := by decide +kernel
theorem dX2_valueHere_52 : decode cX2_valueHere 52 = .ok (.ldc 100, 2) := by decide +kernel
theorem dX2_valueHere_54 : decode cX2_valueHere 54 = .ok (.invokevirtual 74, 3) := by decide +kernel
theorem dX2_valueHere_57 : decode cX2_valueHere 57 = .ok (.ifCond .eq 6, 3) := by decide +kernel
theorem dX2_valueHere_60 : decode cX2_valueHere 60 = .ok (.bipush (-21), 2) := by decide +kernel
theorem dX2_valueHere_62 : decode cX2_valueHere 62 = .ok (.ireturn, 1) := by decide +kernel
theorem dX2_valueHere_63 : decode cX2_valueHere 63 = .ok (.aload_n 0, 1) := by decide +kernel
theorem dX2_valueHere_64 : decode cX2_valueHere 64 = .ok (.getfield 15, 3) := by decide +kernel
theorem dX2_valueHere_67 : decode cX2_valueHere 67 = .ok (.iload_n 1, 1) := by decide +kernel
theorem dX2_valueHere_68 : decode cX2_valueHere 68 = .ok (.ifCond .eq 8, 3) := by decide +kernel
theorem dX2_valueHere_71 : decode cX2_valueHere 71 = .ok (.ldc 102, 2) := by decide +kernel
theorem dX2_valueHere_73 : decode cX2_valueHere 73 = .ok (.goto 5, 3) := by decide +kernel
theorem dX2_valueHere_76 : decode cX2_valueHere 76 = .ok (.ldc 104, 2) := by decide +kernel
theorem dX2_valueHere_78 : decode cX2_valueHere 78 = .ok (.invokevirtual 74, 3) := by decide +kernel
theorem dX2_valueHere_81 : decode cX2_valueHere 81 = .ok (.ifCond .eq 6, 3) := by decide +kernel
theorem dX2_valueHere_84 : decode cX2_valueHere 84 = .ok (.bipush (-22), 2) := by decide +kernel
theorem dX2_valueHere_86 : decode cX2_valueHere 86 = .ok (.ireturn, 1) := by decide +kernel
theorem dX2_valueHere_87 : decode cX2_valueHere 87 = .ok (.aload_n 0, 1) := by decide +kernel
theorem dX2_valueHere_88 : decode cX2_valueHere 88 = .ok (.getfield 15, 3) := by decide +kernel
theorem dX2_valueHere_91 : decode cX2_valueHere 91 = .ok (.iload_n 1, 1) := by decide +kernel
theorem dX2_valueHere_92 : decode cX2_valueHere 92 = .ok (.ifCond .eq 8, 3) := by decide +kernel
theorem dX2_valueHere_95 : decode cX2_valueHere 95 = .ok (.ldc 106, 2) := by decide +kernel
theorem dX2_valueHere_97 : decode cX2_valueHere 97 = .ok (.goto 5, 3) := by decide +kernel
theorem dX2_valueHere_100 : decode cX2_valueHere 100 = .ok (.ldc 108, 2) := by decide +kernel
theorem dX2_valueHere_102 : decode cX2_valueHere 102 = .ok (.invokevirtual 74, 3) := by decide +kernel
theorem dX2_valueHere_105 : decode cX2_valueHere 105 = .ok (.ifCond .eq 6, 3) := by decide +kernel
theorem dX2_valueHere_108 : decode cX2_valueHere 108 = .ok (.bipush (-23), 2) := by decide +kernel
theorem dX2_valueHere_110 : decode cX2_valueHere 110 = .ok (.ireturn, 1) := by decide +kernel
theorem dX2_valueHere_111 : decode cX2_valueHere 111 = .ok (.iconst (-1), 1) := by decide +kernel
theorem dX2_valueHere_112 : decode cX2_valueHere 112 = .ok (.ireturn, 1) := by decide +kernel
theorem dX2_readBehindPart_0 : decode cX2_readBehindPart 0 = .ok (.aload_n 0, 1) := by decide +kernel
theorem dX2_readBehindPart_1 : decode cX2_readBehindPart 1 = .ok (.getfield 15, 3) := by decide +kernel
theorem dX2_readBehindPart_4 : decode cX2_readBehindPart 4 = .ok (.getfield 62, 3) := by decide +kernel
theorem dX2_readBehindPart_7 : decode cX2_readBehindPart 7 = .ok (.bipush 41, 2) := by decide +kernel
theorem dX2_readBehindPart_9 : decode cX2_readBehindPart 9 = .ok (.if_icmp .ne 38, 3) := by decide +kernel
theorem dX2_readBehindPart_12 : decode cX2_readBehindPart 12 = .ok (.aload_n 0, 1) := by decide +kernel
theorem dX2_readBehindPart_13 : decode cX2_readBehindPart 13 = .ok (.getfield 23, 3) := by decide +kernel
theorem dX2_readBehindPart_16 : decode cX2_readBehindPart 16 = .ok (.ifCond .le 31, 3) := by decide +kernel
theorem dX2_readBehindPart_19 : decode cX2_readBehindPart 19 = .ok (.aload_n 0, 1) := by decide +kernel
theorem dX2_readBehindPart_20 : decode cX2_readBehindPart 20 = .ok (.aload_n 1, 1) := by decide +kernel
theorem dX2_readBehindPart_21 : decode cX2_readBehindPart 21 = .ok (.iconst 1, 1) := by decide +kernel
theorem dX2_readBehindPart_22 : decode cX2_readBehindPart 22 = .ok (.invokevirtual 110, 3) := by decide +kernel
theorem dX2_readBehindPart_25 : decode cX2_readBehindPart 25 = .ok (.aload_n 0, 1) := by decide +kernel
theorem dX2_readBehindPart_26 : decode cX2_readBehindPart 26 = .ok (.dup, 1) := by decide +kernel
theorem dX2_readBehindPart_27 : decode cX2_readBehindPart 27 = .ok (.getfield 19, 3) := by decide +kernel
theorem dX2_readBehindPart_30 : decode cX2_readBehindPart 30 = .ok (.iconst 1, 1) := by decide +kernel
theorem dX2_readBehindPart_31 : decode cX2_readBehindPart 31 = .ok (.isub, 1) := by decide +kernel
theorem dX2_readBehindPart_32 : decode cX2_readBehindPart 32 = .ok (.putfield 19, 3) := by decide +kernel
theorem dX2_readBehindPart_35 : decode cX2_readBehindPart 35 = .ok (.aload_n 0, 1) := by decide +kernel
theorem dX2_readBehindPart_36 : decode cX2_readBehindPart 36 = .ok (.dup, 1) := by decide +kernel
theorem dX2_readBehindPart_37 : decode cX2_readBehindPart 37 = .ok (.getfield 23, 3) := by decide +kernel
theorem dX2_readBehindPart_40 : decode cX2_readBehindPart 40 = .ok (.iconst 1, 1) := by decide +kernel
theorem dX2_readBehindPart_41 : decode cX2_readBehindPart 41 = .ok (.isub, 1) := by decide +kernel
theorem dX2_readBehindPart_42 : decode cX2_readBehindPart 42 = .ok (.putfield 23, 3) := by decide +kernel
theorem dX2_readBehindPart_45 : decode cX2_readBehindPart 45 = .ok (.iconst 0, 1) := by decide +kernel
theorem dX2_readBehindPart_46 : decode cX2_readBehindPart 46 = .ok (.ireturn, 1) := by decide +kernel
theorem dX2_readBehindPart_47 : decode cX2_readBehindPart 47 = .ok (.aload_n 0, 1) := by decide +kernel
theorem dX2_readBehindPart_48 : decode cX2_readBehindPart 48 = .ok (.getfield 15, 3) := by decide +kernel
theorem dX2_readBehindPart_51 : decode cX2_readBehindPart 51 = .ok (.getfield 62, 3) := by decide +kernel
theorem dX2_readBehindPart_54 : decode cX2_readBehindPart 54 = .ok (.bipush 59, 2) := by decide +kernel
theorem dX2_readBehindPart_56 : decode cX2_readBehindPart 56 = .ok (.if_icmp .ne 18, 3) := by decide +kernel
theorem dX2_readBehindPart_59 : decode cX2_readBehindPart 59 = .ok (.aload_n 0, 1) := by decide +kernel
theorem dX2_readBehindPart_60 : decode cX2_readBehindPart 60 = .ok (.getfield 23, 3) := by decide +kernel
theorem dX2_readBehindPart_63 : decode cX2_readBehindPart 63 = .ok (.ifCond .ne 11, 3) := by decide +kernel
theorem dX2_readBehindPart_66 : decode cX2_readBehindPart 66 = .ok (.aload_n 0, 1) := by decide +kernel
theorem dX2_readBehindPart_67 : decode cX2_readBehindPart 67 = .ok (.aload_n 1, 1) := by decide +kernel
theorem dX2_readBehindPart_68 : decode cX2_readBehindPart 68 = .ok (.iconst 1, 1) := by decide +kernel
theorem dX2_readBehindPart_69 : decode cX2_readBehindPart 69 = .ok (.invokevirtual 110, 3) := by decide +kernel
theorem dX2_readBehindPart_72 : decode cX2_readBehindPart 72 = .ok (.iconst (-1), 1) := by decide +kernel
theorem dX2_readBehindPart_73 : decode cX2_readBehindPart 73 = .ok (.ireturn, 1) := by decide +kernel
theorem dX2_readBehindPart_74 : decode cX2_readBehindPart 74 = .ok (.aload_n 0, 1) := by decide +kernel
theorem dX2_readBehindPart_75 : decode cX2_readBehindPart 75 = .ok (.invokevirtual 114, 3) := by decide +kernel
theorem dX2_readBehindPart_78 : decode cX2_readBehindPart 78 = .ok (.istore_n 2, 1) := by decide +kernel
theorem dX2_readBehindPart_79 : decode cX2_readBehindPart 79 = .ok (.iload_n 2, 1) := by decide +kernel
theorem dX2_readBehindPart_80 : decode cX2_readBehindPart 80 = .ok (.iconst (-1), 1) := by decide +kernel
theorem dX2_readBehindPart_81 : decode cX2_readBehindPart 81 = .ok (.if_icmp .ne 5, 3) := by decide +kernel
theorem dX2_readBehindPart_84 : decode cX2_readBehindPart 84 = .ok (.iconst 1, 1) := by decide +kernel
theorem dX2_readBehindPart_85 : decode cX2_readBehindPart 85 = .ok (.ireturn, 1) := by decide +kernel
theorem dX2_readBehindPart_86 : decode cX2_readBehindPart 86 = .ok (.iload_n 2, 1) := by decide +kernel
theorem dX2_readBehindPart_87 : decode cX2_readBehindPart 87 = .ok (.invokestatic 117, 3) := by decide +kernel
theorem dX2_readBehindPart_90 : decode cX2_readBehindPart 90 = .ok (.istore_n 3, 1) := by decide +kernel
theorem dX2_readBehindPart_91 : decode cX2_readBehindPart 91 = .ok (.iload_n 3, 1) := by decide +kernel
theorem dX2_readBehindPart_92 : decode cX2_readBehindPart 92 = .ok (.bipush (-5), 2) := by decide +kernel
theorem dX2_readBehindPart_94 : decode cX2_readBehindPart 94 = .ok (.invokestatic 117, 3) := by decide +kernel
theorem dX2_readBehindPart_97 : decode cX2_readBehindPart 97 = .ok (.if_icmp .ne 7, 3) := by decide +kernel
theorem dX2_readBehindPart_100 : decode cX2_readBehindPart 100 = .ok (.iconst 1, 1) := by decide +kernel
theorem dX2_readBehindPart_101 : decode cX2_readBehindPart 101 = .ok (.goto 4, 3) := by decide +kernel
theorem dX2_readBehindPart_104 : decode cX2_readBehindPart 104 = .ok (.iconst 0, 1) := by decide +kernel
theorem dX2_readBehindPart_105 : decode cX2_readBehindPart 105 = .ok (.istore 4, 2) := by decide +kernel
theorem dX2_readBehindPart_107 : decode cX2_readBehindPart 107 = .ok (.aload_n 0, 1) := by decide +kernel
theorem dX2_readBehindPart_108 : decode cX2_readBehindPart 108 = .ok (.aload_n 1, 1) := by decide +kernel
theorem dX2_readBehindPart_109 : decode cX2_readBehindPart 109 = .ok (.iload 4, 2) := by decide +kernel
theorem dX2_readBehindPart_111 : decode cX2_readBehindPart 111 = .ok (.ifCond .eq 9, 3) := by decide +kernel
theorem dX2_readBehindPart_114 : decode cX2_readBehindPart 114 = .ok (.iload_n 3, 1) := by decide +kernel
theorem dX2_readBehindPart_115 : decode cX2_readBehindPart 115 = .ok (.iconst 1, 1) := by decide +kernel
theorem dX2_readBehindPart_116 : decode cX2_readBehindPart 116 = .ok (.iadd, 1) := by decide +kernel
theorem dX2_readBehindPart_117 : decode cX2_readBehindPart 117 = .ok (.goto 4, 3) := by decide +kernel
theorem dX2_readBehindPart_120 : decode cX2_readBehindPart 120 = .ok (.iload_n 3, 1) := by decide +kernel
theorem dX2_readBehindPart_121 : decode cX2_readBehindPart 121 = .ok (.invokevirtual 110, 3) := by decide +kernel
theorem dX2_readBehindPart_124 : decode cX2_readBehindPart 124 = .ok (.iload 4, 2) := by decide +kernel
theorem dX2_readBehindPart_126 : decode cX2_readBehindPart 126 = .ok (.ifCond .eq 30, 3) := by decide +kernel
theorem dX2_readBehindPart_129 : decode cX2_readBehindPart 129 = .ok (.aload_n 0, 1) := by decide +kernel
theorem dX2_readBehindPart_130 : decode cX2_readBehindPart 130 = .ok (.getfield 19, 3) := by decide +kernel
theorem dX2_readBehindPart_133 : decode cX2_readBehindPart 133 = .ok (.ifCond .le 23, 3) := by decide +kernel
theorem dX2_readBehindPart_136 : decode cX2_readBehindPart 136 = .ok (.aload_n 0, 1) := by decide +kernel
theorem dX2_readBehindPart_137 : decode cX2_readBehindPart 137 = .ok (.getfield 9, 3) := by decide +kernel
theorem dX2_readBehindPart_140 : decode cX2_readBehindPart 140 = .ok (.aload_n 0, 1) := by decide +kernel
theorem dX2_readBehindPart_141 : decode cX2_readBehindPart 141 = .ok (.getfield 19, 3) := by decide +kernel
theorem dX2_readBehindPart_144 : decode cX2_readBehindPart 144 = .ok (.iconst 1, 1) := by decide +kernel
theorem dX2_readBehindPart_145 : decode cX2_readBehindPart 145 = .ok (.isub, 1) := by decide +kernel
theorem dX2_readBehindPart_146 : decode cX2_readBehindPart 146 = .ok (.iaload, 1) := by decide +kernel
theorem dX2_readBehindPart_147 : decode cX2_readBehindPart 147 = .ok (.invokestatic 117, 3) := by decide +kernel
theorem dX2_readBehindPart_150 : decode cX2_readBehindPart 150 = .ok (.iload_n 3, 1) := by decide +kernel
theorem dX2_readBehindPart_151 : decode cX2_readBehindPart 151 = .ok (.if_icmp .ne 5, 3) := by decide +kernel
theorem dX2_readBehindPart_154 : decode cX2_readBehindPart 154 = .ok (.iconst 1, 1) := by decide +kernel
theorem dX2_readBehindPart_155 : decode cX2_readBehindPart 155 = .ok (.ireturn, 1) := by decide +kernel
theorem dX2_readBehindPart_156 : decode cX2_readBehindPart 156 = .ok (.aload_n 0, 1) := by decide +kernel
theorem dX2_readBehindPart_157 : decode cX2_readBehindPart 157 = .ok (.iload_n 2, 1) := by decide +kernel
theorem dX2_readBehindPart_158 : decode cX2_readBehindPart 158 = .ok (.invokevirtual 69, 3) := by decide +kernel
theorem dX2_readBehindPart_161 : decode cX2_readBehindPart 161 = .ok (.aload_n 0, 1) := by decide +kernel
theorem dX2_readBehindPart_162 : decode cX2_readBehindPart 162 = .ok (.iload_n 2, 1) := by decide +kernel
theorem dX2_readBehindPart_163 : decode cX2_readBehindPart 163 = .ok (.bipush (-2), 2) := by decide +kernel
theorem dX2_readBehindPart_165 : decode cX2_readBehindPart 165 = .ok (.if_icmp .eq 9, 3) := by decide +kernel
theorem dX2_readBehindPart_168 : decode cX2_readBehindPart 168 = .ok (.iload_n 2, 1) := by decide +kernel
theorem dX2_readBehindPart_169 : decode cX2_readBehindPart 169 = .ok (.bipush (-3), 2) := by decide +kernel
theorem dX2_readBehindPart_171 : decode cX2_readBehindPart 171 = .ok (.if_icmp .ne 7, 3) := by decide +kernel
theorem dX2_readBehindPart_174 : decode cX2_readBehindPart 174 = .ok (.iconst 1, 1) := by decide +kernel
theorem dX2_readBehindPart_175 : decode cX2_readBehindPart 175 = .ok (.goto 4, 3) := by decide +kernel
theorem dX2_readBehindPart_178 : decode cX2_readBehindPart 178 = .ok (.iconst 0, 1) := by decide +kernel
theorem dX2_readBehindPart_179 : decode cX2_readBehindPart 179 = .ok (.invokevirtual 32, 3) := by decide +kernel
theorem dX2_readBehindPart_182 : decode cX2_readBehindPart 182 = .ok (.iconst 0, 1) := by decide +kernel
theorem dX2_readBehindPart_183 : decode cX2_readBehindPart 183 = .ok (.ireturn, 1) := by decide +kernel
theorem dX2_operatorHere_0 : decode cX2_operatorHere 0 = .ok (.aload_n 0, 1) := by decide +kernel
theorem dX2_operatorHere_1 : decode cX2_operatorHere 1 = .ok (.getfield 15, 3) := by decide +kernel
theorem dX2_operatorHere_4 : decode cX2_operatorHere 4 = .ok (.getfield 62, 3) := by decide +kernel
theorem dX2_operatorHere_7 : decode cX2_operatorHere 7 = .ok (.lookupswitch 119 #[(1, 65), (42, 113), (43, 107), (45, 110), (47, 116), (60, 101), (61, 104)], 65) := by decide +kernel
theorem dX2_operatorHere_72 : decode cX2_operatorHere 72 = .ok (.aload_n 0, 1) := by decide +kernel
theorem dX2_operatorHere_73 : decode cX2_operatorHere 73 = .ok (.getfield 15, 3) := by decide +kernel
theorem dX2_operatorHere_76 : decode cX2_operatorHere 76 = .ok (.ldc 121, 2) := by decide +kernel
theorem dX2_operatorHere_78 : decode cX2_operatorHere 78 = .ok (.invokevirtual 74, 3) := by decide +kernel
theorem dX2_operatorHere_81 : decode cX2_operatorHere 81 = .ok (.ifCond .eq 8, 3) := by decide +kernel
theorem dX2_operatorHere_84 : decode cX2_operatorHere 84 = .ok (.bipush (-2), 2) := by decide +kernel
theorem dX2_operatorHere_86 : decode cX2_operatorHere 86 = .ok (.goto 21, 3) := by decide +kernel
theorem dX2_operatorHere_89 : decode cX2_operatorHere 89 = .ok (.aload_n 0, 1) := by decide +kernel
theorem dX2_operatorHere_90 : decode cX2_operatorHere 90 = .ok (.getfield 15, 3) := by decide +kernel
theorem dX2_operatorHere_93 : decode cX2_operatorHere 93 = .ok (.ldc 123, 2) := by decide +kernel
theorem dX2_operatorHere_95 : decode cX2_operatorHere 95 = .ok (.invokevirtual 74, 3) := by decide +kernel
theorem dX2_operatorHere_98 : decode cX2_operatorHere 98 = .ok (.ifCond .eq 8, 3) := by decide +kernel
theorem dX2_operatorHere_101 : decode cX2_operatorHere 101 = .ok (.bipush (-3), 2) := by decide +kernel
theorem dX2_operatorHere_103 : decode cX2_operatorHere 103 = .ok (.goto 4, 3) := by decide +kernel
theorem dX2_operatorHere_106 : decode cX2_operatorHere 106 = .ok (.iconst (-1), 1) := by decide +kernel
theorem dX2_operatorHere_107 : decode cX2_operatorHere 107 = .ok (.ireturn, 1) := by decide +kernel
theorem dX2_operatorHere_108 : decode cX2_operatorHere 108 = .ok (.bipush (-5), 2) := by decide +kernel
theorem dX2_operatorHere_110 : decode cX2_operatorHere 110 = .ok (.ireturn, 1) := by decide +kernel
theorem dX2_operatorHere_111 : decode cX2_operatorHere 111 = .ok (.bipush (-6), 2) := by decide +kernel
theorem dX2_operatorHere_113 : decode cX2_operatorHere 113 = .ok (.ireturn, 1) := by decide +kernel
theorem dX2_operatorHere_114 : decode cX2_operatorHere 114 = .ok (.bipush (-7), 2) := by decide +kernel
theorem dX2_operatorHere_116 : decode cX2_operatorHere 116 = .ok (.ireturn, 1) := by decide +kernel
theorem dX2_operatorHere_117 : decode cX2_operatorHere 117 = .ok (.bipush (-8), 2) := by decide +kernel
theorem dX2_operatorHere_119 : decode cX2_operatorHere 119 = .ok (.ireturn, 1) := by decide +kernel
theorem dX2_operatorHere_120 : decode cX2_operatorHere 120 = .ok (.bipush (-9), 2) := by decide +kernel
theorem dX2_operatorHere_122 : decode cX2_operatorHere 122 = .ok (.ireturn, 1) := by decide +kernel
theorem dX2_operatorHere_123 : decode cX2_operatorHere 123 = .ok (.bipush (-10), 2) := by decide +kernel
theorem dX2_operatorHere_125 : decode cX2_operatorHere 125 = .ok (.ireturn, 1) := by decide +kernel
theorem dX2_operatorHere_126 : decode cX2_operatorHere 126 = .ok (.iconst (-1), 1) := by decide +kernel
theorem dX2_operatorHere_127 : decode cX2_operatorHere 127 = .ok (.ireturn, 1) := by decide +kernel
theorem dX2_rankOf_0 : decode cX2_rankOf 0 = .ok (.iload_n 0, 1) := by decide +kernel
theorem dX2_rankOf_1 : decode cX2_rankOf 1 = .ok (.tableswitch 64 (-10) (-2) #[61, 61, 59, 59, 57, 57, 55, 53, 51], 51) := by decide +kernel
theorem dX2_rankOf_52 : decode cX2_rankOf 52 = .ok (.iconst 1, 1) := by decide +kernel
theorem dX2_rankOf_53 : decode cX2_rankOf 53 = .ok (.ireturn, 1) := by decide +kernel
theorem dX2_rankOf_54 : decode cX2_rankOf 54 = .ok (.iconst 2, 1) := by decide +kernel
theorem dX2_rankOf_55 : decode cX2_rankOf 55 = .ok (.ireturn, 1) := by decide +kernel
theorem dX2_rankOf_56 : decode cX2_rankOf 56 = .ok (.iconst 3, 1) := by decide +kernel
theorem dX2_rankOf_57 : decode cX2_rankOf 57 = .ok (.ireturn, 1) := by decide +kernel
theorem dX2_rankOf_58 : decode cX2_rankOf 58 = .ok (.iconst 4, 1) := by decide +kernel
theorem dX2_rankOf_59 : decode cX2_rankOf 59 = .ok (.ireturn, 1) := by decide +kernel
theorem dX2_rankOf_60 : decode cX2_rankOf 60 = .ok (.iconst 5, 1) := by decide +kernel
theorem dX2_rankOf_61 : decode cX2_rankOf 61 = .ok (.ireturn, 1) := by decide +kernel
theorem dX2_rankOf_62 : decode cX2_rankOf 62 = .ok (.bipush 6, 2) := by decide +kernel
theorem dX2_rankOf_64 : decode cX2_rankOf 64 = .ok (.ireturn, 1) := by decide +kernel
theorem dX2_rankOf_65 : decode cX2_rankOf 65 = .ok (.iconst 0, 1) := by decide +kernel
theorem dX2_rankOf_66 : decode cX2_rankOf 66 = .ok (.ireturn, 1) := by decide +kernel
theorem dX2_hold_0 : decode cX2_hold 0 = .ok (.aload_n 0, 1) := by decide +kernel
theorem dX2_hold_1 : decode cX2_hold 1 = .ok (.getfield 19, 3) := by decide +kernel
theorem dX2_hold_4 : decode cX2_hold 4 = .ok (.aload_n 0, 1) := by decide +kernel
theorem dX2_hold_5 : decode cX2_hold 5 = .ok (.getfield 9, 3) := by decide +kernel
theorem dX2_hold_8 : decode cX2_hold 8 = .ok (.arraylength, 1) := by decide +kernel
theorem dX2_hold_9 : decode cX2_hold 9 = .ok (.if_icmp .ge 23, 3) := by decide +kernel
theorem dX2_hold_12 : decode cX2_hold 12 = .ok (.aload_n 0, 1) := by decide +kernel
theorem dX2_hold_13 : decode cX2_hold 13 = .ok (.getfield 9, 3) := by decide +kernel
theorem dX2_hold_16 : decode cX2_hold 16 = .ok (.aload_n 0, 1) := by decide +kernel
theorem dX2_hold_17 : decode cX2_hold 17 = .ok (.getfield 19, 3) := by decide +kernel
theorem dX2_hold_20 : decode cX2_hold 20 = .ok (.iload_n 1, 1) := by decide +kernel
theorem dX2_hold_21 : decode cX2_hold 21 = .ok (.iastore, 1) := by decide +kernel
theorem dX2_hold_22 : decode cX2_hold 22 = .ok (.aload_n 0, 1) := by decide +kernel
theorem dX2_hold_23 : decode cX2_hold 23 = .ok (.dup, 1) := by decide +kernel
theorem dX2_hold_24 : decode cX2_hold 24 = .ok (.getfield 19, 3) := by decide +kernel
theorem dX2_hold_27 : decode cX2_hold 27 = .ok (.iconst 1, 1) := by decide +kernel
theorem dX2_hold_28 : decode cX2_hold 28 = .ok (.iadd, 1) := by decide +kernel
theorem dX2_hold_29 : decode cX2_hold 29 = .ok (.putfield 19, 3) := by decide +kernel
theorem dX2_hold_32 : decode cX2_hold 32 = .ok (.return_, 1) := by decide +kernel
theorem dX2_release_0 : decode cX2_release 0 = .ok (.aload_n 0, 1) := by decide +kernel
theorem dX2_release_1 : decode cX2_release 1 = .ok (.getfield 19, 3) := by decide +kernel
theorem dX2_release_4 : decode cX2_release 4 = .ok (.ifCond .le 47, 3) := by decide +kernel
theorem dX2_release_7 : decode cX2_release 7 = .ok (.aload_n 0, 1) := by decide +kernel
theorem dX2_release_8 : decode cX2_release 8 = .ok (.getfield 9, 3) := by decide +kernel
theorem dX2_release_11 : decode cX2_release 11 = .ok (.aload_n 0, 1) := by decide +kernel
theorem dX2_release_12 : decode cX2_release 12 = .ok (.getfield 19, 3) := by decide +kernel
theorem dX2_release_15 : decode cX2_release 15 = .ok (.iconst 1, 1) := by decide +kernel
theorem dX2_release_16 : decode cX2_release 16 = .ok (.isub, 1) := by decide +kernel
theorem dX2_release_17 : decode cX2_release 17 = .ok (.iaload, 1) := by decide +kernel
theorem dX2_release_18 : decode cX2_release 18 = .ok (.invokestatic 117, 3) := by decide +kernel
theorem dX2_release_21 : decode cX2_release 21 = .ok (.iload_n 2, 1) := by decide +kernel
theorem dX2_release_22 : decode cX2_release 22 = .ok (.if_icmp .lt 29, 3) := by decide +kernel
theorem dX2_release_25 : decode cX2_release 25 = .ok (.aload_n 0, 1) := by decide +kernel
theorem dX2_release_26 : decode cX2_release 26 = .ok (.dup, 1) := by decide +kernel
theorem dX2_release_27 : decode cX2_release 27 = .ok (.getfield 19, 3) := by decide +kernel
theorem dX2_release_30 : decode cX2_release 30 = .ok (.iconst 1, 1) := by decide +kernel
theorem dX2_release_31 : decode cX2_release 31 = .ok (.isub, 1) := by decide +kernel
theorem dX2_release_32 : decode cX2_release 32 = .ok (.putfield 19, 3) := by decide +kernel
theorem dX2_release_35 : decode cX2_release 35 = .ok (.aload_n 1, 1) := by decide +kernel
theorem dX2_release_36 : decode cX2_release 36 = .ok (.aload_n 0, 1) := by decide +kernel
theorem dX2_release_37 : decode cX2_release 37 = .ok (.getfield 9, 3) := by decide +kernel
theorem dX2_release_40 : decode cX2_release 40 = .ok (.aload_n 0, 1) := by decide +kernel
theorem dX2_release_41 : decode cX2_release 41 = .ok (.getfield 19, 3) := by decide +kernel
theorem dX2_release_44 : decode cX2_release 44 = .ok (.iaload, 1) := by decide +kernel
theorem dX2_release_45 : decode cX2_release 45 = .ok (.invokevirtual 89, 3) := by decide +kernel
theorem dX2_release_48 : decode cX2_release 48 = .ok (.goto (-48), 3) := by decide +kernel
theorem dX2_release_51 : decode cX2_release 51 = .ok (.return_, 1) := by decide +kernel
theorem dX3_init_0 : decode cX3_init 0 = .ok (.aload_n 0, 1) := by decide +kernel
theorem dX3_init_1 : decode cX3_init 1 = .ok (.invokespecial 1, 3) := by decide +kernel
theorem dX3_init_4 : decode cX3_init 4 = .ok (.aload_n 0, 1) := by decide +kernel
theorem dX3_init_5 : decode cX3_init 5 = .ok (.bipush 40, 2) := by decide +kernel
theorem dX3_init_7 : decode cX3_init 7 = .ok (.newarray .int, 2) := by decide +kernel
theorem dX3_init_9 : decode cX3_init 9 = .ok (.putfield 7, 3) := by decide +kernel
theorem dX3_init_12 : decode cX3_init 12 = .ok (.aload_n 0, 1) := by decide +kernel
theorem dX3_init_13 : decode cX3_init 13 = .ok (.aload_n 1, 1) := by decide +kernel
theorem dX3_init_14 : decode cX3_init 14 = .ok (.putfield 13, 3) := by decide +kernel
theorem dX3_init_17 : decode cX3_init 17 = .ok (.return_, 1) := by decide +kernel
theorem dX3_begin_0 : decode cX3_begin 0 = .ok (.aload_n 0, 1) := by decide +kernel
theorem dX3_begin_1 : decode cX3_begin 1 = .ok (.iconst 0, 1) := by decide +kernel
theorem dX3_begin_2 : decode cX3_begin 2 = .ok (.putfield 16, 3) := by decide +kernel
theorem dX3_begin_5 : decode cX3_begin 5 = .ok (.aload_n 0, 1) := by decide +kernel
theorem dX3_begin_6 : decode cX3_begin 6 = .ok (.iload_n 1, 1) := by decide +kernel
theorem dX3_begin_7 : decode cX3_begin 7 = .ok (.putfield 20, 3) := by decide +kernel
theorem dX3_begin_10 : decode cX3_begin 10 = .ok (.aload_n 0, 1) := by decide +kernel
theorem dX3_begin_11 : decode cX3_begin 11 = .ok (.iload_n 1, 1) := by decide +kernel
theorem dX3_begin_12 : decode cX3_begin 12 = .ok (.putfield 24, 3) := by decide +kernel
theorem dX3_begin_15 : decode cX3_begin 15 = .ok (.return_, 1) := by decide +kernel
theorem dX3_end_0 : decode cX3_end 0 = .ok (.aload_n 0, 1) := by decide +kernel
theorem dX3_end_1 : decode cX3_end 1 = .ok (.getfield 24, 3) := by decide +kernel
theorem dX3_end_4 : decode cX3_end 4 = .ok (.ireturn, 1) := by decide +kernel
theorem dX3_add_0 : decode cX3_add 0 = .ok (.aload_n 0, 1) := by decide +kernel
theorem dX3_add_1 : decode cX3_add 1 = .ok (.getfield 24, 3) := by decide +kernel
theorem dX3_add_4 : decode cX3_add 4 = .ok (.ifCond .lt 74, 3) := by decide +kernel
theorem dX3_add_7 : decode cX3_add 7 = .ok (.aload_n 0, 1) := by decide +kernel
theorem dX3_add_8 : decode cX3_add 8 = .ok (.getfield 24, 3) := by decide +kernel
theorem dX3_add_11 : decode cX3_add 11 = .ok (.aload_n 0, 1) := by decide +kernel
theorem dX3_add_12 : decode cX3_add 12 = .ok (.getfield 13, 3) := by decide +kernel
theorem dX3_add_15 : decode cX3_add 15 = .ok (.arraylength, 1) := by decide +kernel
theorem dX3_add_16 : decode cX3_add 16 = .ok (.iconst 1, 1) := by decide +kernel
theorem dX3_add_17 : decode cX3_add 17 = .ok (.isub, 1) := by decide +kernel
theorem dX3_add_18 : decode cX3_add 18 = .ok (.if_icmp .ge 60, 3) := by decide +kernel
theorem dX3_add_21 : decode cX3_add 21 = .ok (.aload_n 0, 1) := by decide +kernel
theorem dX3_add_22 : decode cX3_add 22 = .ok (.getfield 13, 3) := by decide +kernel
theorem dX3_add_25 : decode cX3_add 25 = .ok (.aload_n 0, 1) := by decide +kernel
theorem dX3_add_26 : decode cX3_add 26 = .ok (.getfield 24, 3) := by decide +kernel
theorem dX3_add_29 : decode cX3_add 29 = .ok (.iload_n 1, 1) := by decide +kernel
theorem dX3_add_30 : decode cX3_add 30 = .ok (.bipush (-4), 2) := by decide +kernel
theorem dX3_add_32 : decode cX3_add 32 = .ok (.if_icmp .ne 7, 3) := by decide +kernel
theorem dX3_add_35 : decode cX3_add 35 = .ok (.iconst 0, 1) := by decide +kernel
theorem dX3_add_36 : decode cX3_add 36 = .ok (.goto 4, 3) := by decide +kernel
theorem dX3_add_39 : decode cX3_add 39 = .ok (.iload_n 1, 1) := by decide +kernel
theorem dX3_add_40 : decode cX3_add 40 = .ok (.iastore, 1) := by decide +kernel
theorem dX3_add_41 : decode cX3_add 41 = .ok (.aload_n 0, 1) := by decide +kernel
theorem dX3_add_42 : decode cX3_add 42 = .ok (.dup, 1) := by decide +kernel
theorem dX3_add_43 : decode cX3_add 43 = .ok (.getfield 24, 3) := by decide +kernel
theorem dX3_add_46 : decode cX3_add 46 = .ok (.iconst 1, 1) := by decide +kernel
theorem dX3_add_47 : decode cX3_add 47 = .ok (.iadd, 1) := by decide +kernel
theorem dX3_add_48 : decode cX3_add 48 = .ok (.putfield 24, 3) := by decide +kernel
theorem dX3_add_51 : decode cX3_add 51 = .ok (.iload_n 1, 1) := by decide +kernel
theorem dX3_add_52 : decode cX3_add 52 = .ok (.bipush (-4), 2) := by decide +kernel
theorem dX3_add_54 : decode cX3_add 54 = .ok (.if_icmp .ne 24, 3) := by decide +kernel
theorem dX3_add_57 : decode cX3_add 57 = .ok (.aload_n 0, 1) := by decide +kernel
theorem dX3_add_58 : decode cX3_add 58 = .ok (.getfield 13, 3) := by decide +kernel
theorem dX3_add_61 : decode cX3_add 61 = .ok (.aload_n 0, 1) := by decide +kernel
theorem dX3_add_62 : decode cX3_add 62 = .ok (.getfield 24, 3) := by decide +kernel
theorem dX3_add_65 : decode cX3_add 65 = .ok (.bipush (-6), 2) := by decide +kernel
theorem dX3_add_67 : decode cX3_add 67 = .ok (.iastore, 1) := by decide +kernel
theorem dX3_add_68 : decode cX3_add 68 = .ok (.aload_n 0, 1) := by decide +kernel
theorem dX3_add_69 : decode cX3_add 69 = .ok (.dup, 1) := by decide +kernel
theorem dX3_add_70 : decode cX3_add 70 = .ok (.getfield 24, 3) := by decide +kernel
theorem dX3_add_73 : decode cX3_add 73 = .ok (.iconst 1, 1) := by decide +kernel
theorem dX3_add_74 : decode cX3_add 74 = .ok (.iadd, 1) := by decide +kernel
theorem dX3_add_75 : decode cX3_add 75 = .ok (.putfield 24, 3) := by decide +kernel
theorem dX3_add_78 : decode cX3_add 78 = .ok (.return_, 1) := by decide +kernel
theorem dX3_answer_0 : decode cX3_answer 0 = .ok (.iconst 0, 1) := by decide +kernel
theorem dX3_answer_1 : decode cX3_answer 1 = .ok (.istore_n 2, 1) := by decide +kernel
theorem dX3_answer_2 : decode cX3_answer 2 = .ok (.aload_n 0, 1) := by decide +kernel
theorem dX3_answer_3 : decode cX3_answer 3 = .ok (.getfield 20, 3) := by decide +kernel
theorem dX3_answer_6 : decode cX3_answer 6 = .ok (.istore_n 3, 1) := by decide +kernel
theorem dX3_answer_7 : decode cX3_answer 7 = .ok (.iload_n 3, 1) := by decide +kernel
theorem dX3_answer_8 : decode cX3_answer 8 = .ok (.aload_n 0, 1) := by decide +kernel
theorem dX3_answer_9 : decode cX3_answer 9 = .ok (.getfield 24, 3) := by decide +kernel
theorem dX3_answer_12 : decode cX3_answer 12 = .ok (.if_icmp .ge 284, 3) := by decide +kernel
theorem dX3_answer_15 : decode cX3_answer 15 = .ok (.aload_n 0, 1) := by decide +kernel
theorem dX3_answer_16 : decode cX3_answer 16 = .ok (.getfield 13, 3) := by decide +kernel
theorem dX3_answer_19 : decode cX3_answer 19 = .ok (.iload_n 3, 1) := by decide +kernel
theorem dX3_answer_20 : decode cX3_answer 20 = .ok (.iaload, 1) := by decide +kernel
theorem dX3_answer_21 : decode cX3_answer 21 = .ok (.istore 4, 2) := by decide +kernel
theorem dX3_answer_23 : decode cX3_answer 23 = .ok (.iload 4, 2) := by decide +kernel
theorem dX3_answer_25 : decode cX3_answer 25 = .ok (.ifCond .ge 10, 3) := by decide +kernel
theorem dX3_answer_28 : decode cX3_answer 28 = .ok (.iload 4, 2) := by decide +kernel
theorem dX3_answer_30 : decode cX3_answer 30 = .ok (.bipush (-20), 2) := by decide +kernel
theorem dX3_answer_32 : decode cX3_answer 32 = .ok (.if_icmp .gt 53, 3) := by decide +kernel
theorem dX3_answer_35 : decode cX3_answer 35 = .ok (.iload_n 2, 1) := by decide +kernel
theorem dX3_answer_36 : decode cX3_answer 36 = .ok (.aload_n 0, 1) := by decide +kernel
theorem dX3_answer_37 : decode cX3_answer 37 = .ok (.getfield 7, 3) := by decide +kernel
theorem dX3_answer_40 : decode cX3_answer 40 = .ok (.arraylength, 1) := by decide +kernel
theorem dX3_answer_41 : decode cX3_answer 41 = .ok (.if_icmp .ge 13, 3) := by decide +kernel
theorem dX3_answer_44 : decode cX3_answer 44 = .ok (.bipush (-20), 2) := by decide +kernel
theorem dX3_answer_46 : decode cX3_answer 46 = .ok (.iload 4, 2) := by decide +kernel
theorem dX3_answer_48 : decode cX3_answer 48 = .ok (.isub, 1) := by decide +kernel
theorem dX3_answer_49 : decode cX3_answer 49 = .ok (.aload_n 1, 1) := by decide +kernel
theorem dX3_answer_50 : decode cX3_answer 50 = .ok (.arraylength, 1) := by decide +kernel
theorem dX3_answer_51 : decode cX3_answer 51 = .ok (.if_icmp .lt 5, 3) := by decide +kernel
theorem dX3_answer_54 : decode cX3_answer 54 = .ok (.iconst 0, 1) := by decide +kernel
theorem dX3_answer_55 : decode cX3_answer 55 = .ok (.ireturn, 1) := by decide +kernel
theorem dX3_answer_56 : decode cX3_answer 56 = .ok (.aload_n 0, 1) := by decide +kernel
theorem dX3_answer_57 : decode cX3_answer 57 = .ok (.getfield 7, 3) := by decide +kernel
theorem dX3_answer_60 : decode cX3_answer 60 = .ok (.iload_n 2, 1) := by decide +kernel
theorem dX3_answer_61 : decode cX3_answer 61 = .ok (.iload 4, 2) := by decide +kernel
theorem dX3_answer_63 : decode cX3_answer 63 = .ok (.ifCond .lt 8, 3) := by decide +kernel
theorem dX3_answer_66 : decode cX3_answer 66 = .ok (.iload 4, 2) := by decide +kernel
theorem dX3_answer_68 : decode cX3_answer 68 = .ok (.goto 10, 3) := by decide +kernel
theorem dX3_answer_71 : decode cX3_answer 71 = .ok (.aload_n 1, 1) := by decide +kernel
theorem dX3_answer_72 : decode cX3_answer 72 = .ok (.bipush (-20), 2) := by decide +kernel
theorem dX3_answer_74 : decode cX3_answer 74 = .ok (.iload 4, 2) := by decide +kernel
theorem dX3_answer_76 : decode cX3_answer 76 = .ok (.isub, 1) := by decide +kernel
theorem dX3_answer_77 : decode cX3_answer 77 = .ok (.iaload, 1) := by decide +kernel
theorem dX3_answer_78 : decode cX3_answer 78 = .ok (.iastore, 1) := by decide +kernel
theorem dX3_answer_79 : decode cX3_answer 79 = .ok (.iinc 2 1, 3) := by decide +kernel
theorem dX3_answer_82 : decode cX3_answer 82 = .ok (.goto 208, 3) := by decide +kernel
theorem dX3_answer_85 : decode cX3_answer 85 = .ok (.iload_n 2, 1) := by decide +kernel
theorem dX3_answer_86 : decode cX3_answer 86 = .ok (.iconst 2, 1) := by decide +kernel
theorem dX3_answer_87 : decode cX3_answer 87 = .ok (.if_icmp .lt 203, 3) := by decide +kernel
theorem dX3_answer_90 : decode cX3_answer 90 = .ok (.iinc 2 (-1), 3) := by decide +kernel
theorem dX3_answer_93 : decode cX3_answer 93 = .ok (.aload_n 0, 1) := by decide +kernel
theorem dX3_answer_94 : decode cX3_answer 94 = .ok (.getfield 7, 3) := by decide +kernel
theorem dX3_answer_97 : decode cX3_answer 97 = .ok (.iload_n 2, 1) := by decide +kernel
theorem dX3_answer_98 : decode cX3_answer 98 = .ok (.iconst 1, 1) := by decide +kernel
theorem dX3_answer_99 : decode cX3_answer 99 = .ok (.isub, 1) := by decide +kernel
theorem dX3_answer_100 : decode cX3_answer 100 = .ok (.iaload, 1) := by decide +kernel
theorem dX3_answer_101 : decode cX3_answer 101 = .ok (.istore 5, 2) := by decide +kernel
theorem dX3_answer_103 : decode cX3_answer 103 = .ok (.aload_n 0, 1) := by decide +kernel
theorem dX3_answer_104 : decode cX3_answer 104 = .ok (.getfield 7, 3) := by decide +kernel
theorem dX3_answer_107 : decode cX3_answer 107 = .ok (.iload_n 2, 1) := by decide +kernel
theorem dX3_answer_108 : decode cX3_answer 108 = .ok (.iaload, 1) := by decide +kernel
theorem dX3_answer_109 : decode cX3_answer 109 = .ok (.istore 6, 2) := by decide +kernel
theorem dX3_answer_111 : decode cX3_answer 111 = .ok (.iload 4, 2) := by decide +kernel
theorem dX3_answer_113 : decode cX3_answer 113 = .ok (.tableswitch 151 (-9) (-2) #[141, 131, 121, 104, 87, 151, 67, 47], 47) := by decide +kernel
theorem dX3_answer_160 : decode cX3_answer 160 = .ok (.iload 5, 2) := by decide +kernel
theorem dX3_answer_162 : decode cX3_answer 162 = .ok (.ifCond .ne 8, 3) := by decide +kernel
theorem dX3_answer_165 : decode cX3_answer 165 = .ok (.iload 6, 2) := by decide +kernel
theorem dX3_answer_167 : decode cX3_answer 167 = .ok (.ifCond .eq 7, 3) := by decide +kernel
theorem dX3_answer_170 : decode cX3_answer 170 = .ok (.iconst 1, 1) := by decide +kernel
theorem dX3_answer_171 : decode cX3_answer 171 = .ok (.goto 4, 3) := by decide +kernel
theorem dX3_answer_174 : decode cX3_answer 174 = .ok (.iconst 0, 1) := by decide +kernel
theorem dX3_answer_175 : decode cX3_answer 175 = .ok (.istore 5, 2) := by decide +kernel
theorem dX3_answer_177 : decode cX3_answer 177 = .ok (.goto 103, 3) := by decide +kernel
theorem dX3_answer_180 : decode cX3_answer 180 = .ok (.iload 5, 2) := by decide +kernel
theorem dX3_answer_182 : decode cX3_answer 182 = .ok (.ifCond .eq 12, 3) := by decide +kernel
theorem dX3_answer_185 : decode cX3_answer 185 = .ok (.iload 6, 2) := by decide +kernel
theorem dX3_answer_187 : decode cX3_answer 187 = .ok (.ifCond .eq 7, 3) := by decide +kernel
theorem dX3_answer_190 : decode cX3_answer 190 = .ok (.iconst 1, 1) := by decide +kernel
theorem dX3_answer_191 : decode cX3_answer 191 = .ok (.goto 4, 3) := by decide +kernel
theorem dX3_answer_194 : decode cX3_answer 194 = .ok (.iconst 0, 1) := by decide +kernel
theorem dX3_answer_195 : decode cX3_answer 195 = .ok (.istore 5, 2) := by decide +kernel
theorem dX3_answer_197 : decode cX3_answer 197 = .ok (.goto 83, 3) := by decide +kernel
theorem dX3_answer_200 : decode cX3_answer 200 = .ok (.iload 5, 2) := by decide +kernel
theorem dX3_answer_202 : decode cX3_answer 202 = .ok (.iload 6, 2) := by decide +kernel
theorem dX3_answer_204 : decode cX3_answer 204 = .ok (.if_icmp .ge 7, 3) := by decide +kernel
theorem dX3_answer_207 : decode cX3_answer 207 = .ok (.iconst 1, 1) := by decide +kernel
theorem dX3_answer_208 : decode cX3_answer 208 = .ok (.goto 4, 3) := by decide +kernel
theorem dX3_answer_211 : decode cX3_answer 211 = .ok (.iconst 0, 1) := by decide +kernel
theorem dX3_answer_212 : decode cX3_answer 212 = .ok (.istore 5, 2) := by decide +kernel
theorem dX3_answer_214 : decode cX3_answer 214 = .ok (.goto 66, 3) := by decide +kernel
theorem dX3_answer_217 : decode cX3_answer 217 = .ok (.iload 5, 2) := by decide +kernel
theorem dX3_answer_219 : decode cX3_answer 219 = .ok (.iload 6, 2) := by decide +kernel
theorem dX3_answer_221 : decode cX3_answer 221 = .ok (.if_icmp .ne 7, 3) := by decide +kernel
theorem dX3_answer_224 : decode cX3_answer 224 = .ok (.iconst 1, 1) := by decide +kernel
theorem dX3_answer_225 : decode cX3_answer 225 = .ok (.goto 4, 3) := by decide +kernel
theorem dX3_answer_228 : decode cX3_answer 228 = .ok (.iconst 0, 1) := by decide +kernel
theorem dX3_answer_229 : decode cX3_answer 229 = .ok (.istore 5, 2) := by decide +kernel
theorem dX3_answer_231 : decode cX3_answer 231 = .ok (.goto 49, 3) := by decide +kernel
theorem dX3_answer_234 : decode cX3_answer 234 = .ok (.iload 5, 2) := by decide +kernel
theorem dX3_answer_236 : decode cX3_answer 236 = .ok (.iload 6, 2) := by decide +kernel
theorem dX3_answer_238 : decode cX3_answer 238 = .ok (.iadd, 1) := by decide +kernel
theorem dX3_answer_239 : decode cX3_answer 239 = .ok (.istore 5, 2) := by decide +kernel
theorem dX3_answer_241 : decode cX3_answer 241 = .ok (.goto 39, 3) := by decide +kernel
theorem dX3_answer_244 : decode cX3_answer 244 = .ok (.iload 5, 2) := by decide +kernel
theorem dX3_answer_246 : decode cX3_answer 246 = .ok (.iload 6, 2) := by decide +kernel
theorem dX3_answer_248 : decode cX3_answer 248 = .ok (.isub, 1) := by decide +kernel
theorem dX3_answer_249 : decode cX3_answer 249 = .ok (.istore 5, 2) := by decide +kernel
theorem dX3_answer_251 : decode cX3_answer 251 = .ok (.goto 29, 3) := by decide +kernel
theorem dX3_answer_254 : decode cX3_answer 254 = .ok (.iload 5, 2) := by decide +kernel
theorem dX3_answer_256 : decode cX3_answer 256 = .ok (.iload 6, 2) := by decide +kernel
theorem dX3_answer_258 : decode cX3_answer 258 = .ok (.imul, 1) := by decide +kernel
theorem dX3_answer_259 : decode cX3_answer 259 = .ok (.istore 5, 2) := by decide +kernel
theorem dX3_answer_261 : decode cX3_answer 261 = .ok (.goto 19, 3) := by decide +kernel
theorem dX3_answer_264 : decode cX3_answer 264 = .ok (.iload 6, 2) := by decide +kernel
theorem dX3_answer_266 : decode cX3_answer 266 = .ok (.ifCond .ne 7, 3) := by decide +kernel
theorem dX3_answer_269 : decode cX3_answer 269 = .ok (.iconst 0, 1) := by decide +kernel
theorem dX3_answer_270 : decode cX3_answer 270 = .ok (.goto 8, 3) := by decide +kernel
theorem dX3_answer_273 : decode cX3_answer 273 = .ok (.iload 5, 2) := by decide +kernel
theorem dX3_answer_275 : decode cX3_answer 275 = .ok (.iload 6, 2) := by decide +kernel
theorem dX3_answer_277 : decode cX3_answer 277 = .ok (.idiv, 1) := by decide +kernel
theorem dX3_answer_278 : decode cX3_answer 278 = .ok (.istore 5, 2) := by decide +kernel
theorem dX3_answer_280 : decode cX3_answer 280 = .ok (.aload_n 0, 1) := by decide +kernel
theorem dX3_answer_281 : decode cX3_answer 281 = .ok (.getfield 7, 3) := by decide +kernel
theorem dX3_answer_284 : decode cX3_answer 284 = .ok (.iload_n 2, 1) := by decide +kernel
theorem dX3_answer_285 : decode cX3_answer 285 = .ok (.iconst 1, 1) := by decide +kernel
theorem dX3_answer_286 : decode cX3_answer 286 = .ok (.isub, 1) := by decide +kernel
theorem dX3_answer_287 : decode cX3_answer 287 = .ok (.iload 5, 2) := by decide +kernel
theorem dX3_answer_289 : decode cX3_answer 289 = .ok (.iastore, 1) := by decide +kernel
theorem dX3_answer_290 : decode cX3_answer 290 = .ok (.iinc 3 1, 3) := by decide +kernel
theorem dX3_answer_293 : decode cX3_answer 293 = .ok (.goto (-286), 3) := by decide +kernel
theorem dX3_answer_296 : decode cX3_answer 296 = .ok (.iload_n 2, 1) := by decide +kernel
theorem dX3_answer_297 : decode cX3_answer 297 = .ok (.ifCond .le 14, 3) := by decide +kernel
theorem dX3_answer_300 : decode cX3_answer 300 = .ok (.aload_n 0, 1) := by decide +kernel
theorem dX3_answer_301 : decode cX3_answer 301 = .ok (.getfield 7, 3) := by decide +kernel
theorem dX3_answer_304 : decode cX3_answer 304 = .ok (.iload_n 2, 1) := by decide +kernel
theorem dX3_answer_305 : decode cX3_answer 305 = .ok (.iconst 1, 1) := by decide +kernel
theorem dX3_answer_306 : decode cX3_answer 306 = .ok (.isub, 1) := by decide +kernel
theorem dX3_answer_307 : decode cX3_answer 307 = .ok (.iaload, 1) := by decide +kernel
theorem dX3_answer_308 : decode cX3_answer 308 = .ok (.goto 4, 3) := by decide +kernel
theorem dX3_answer_311 : decode cX3_answer 311 = .ok (.iconst 0, 1) := by decide +kernel
theorem dX3_answer_312 : decode cX3_answer 312 = .ok (.ireturn, 1) := by decide +kernel
theorem dX4_init_0 : decode cX4_init 0 = .ok (.aload_n 0, 1) := by decide +kernel
theorem dX4_init_1 : decode cX4_init 1 = .ok (.invokespecial 3, 3) := by decide +kernel
theorem dX4_init_4 : decode cX4_init 4 = .ok (.aload_n 0, 1) := by decide +kernel
theorem dX4_init_5 : decode cX4_init 5 = .ok (.bipush 106, 2) := by decide +kernel
theorem dX4_init_7 : decode cX4_init 7 = .ok (.newarray .int, 2) := by decide +kernel
theorem dX4_init_9 : decode cX4_init 9 = .ok (.putfield 9, 3) := by decide +kernel
theorem dX4_init_12 : decode cX4_init 12 = .ok (.aload_n 0, 1) := by decide +kernel
theorem dX4_init_13 : decode cX4_init 13 = .ok (.bipush 40, 2) := by decide +kernel
theorem dX4_init_15 : decode cX4_init 15 = .ok (.bipush 106, 2) := by decide +kernel
theorem dX4_init_17 : decode cX4_init 17 = .ok (.multianewarray 15 2, 4) := by decide +kernel
theorem dX4_init_21 : decode cX4_init 21 = .ok (.putfield 17, 3) := by decide +kernel
theorem dX4_init_24 : decode cX4_init 24 = .ok (.aload_n 0, 1) := by decide +kernel
theorem dX4_init_25 : decode cX4_init 25 = .ok (.bipush 8, 2) := by decide +kernel
theorem dX4_init_27 : decode cX4_init 27 = .ok (.newarray .int, 2) := by decide +kernel
theorem dX4_init_29 : decode cX4_init 29 = .ok (.putfield 20, 3) := by decide +kernel
theorem dX4_init_32 : decode cX4_init 32 = .ok (.aload_n 0, 1) := by decide +kernel
theorem dX4_init_33 : decode cX4_init 33 = .ok (.bipush 8, 2) := by decide +kernel
theorem dX4_init_35 : decode cX4_init 35 = .ok (.newarray .int, 2) := by decide +kernel
theorem dX4_init_37 : decode cX4_init 37 = .ok (.putfield 23, 3) := by decide +kernel
theorem dX4_init_40 : decode cX4_init 40 = .ok (.aload_n 0, 1) := by decide +kernel
theorem dX4_init_41 : decode cX4_init 41 = .ok (.bipush 8, 2) := by decide +kernel
theorem dX4_init_43 : decode cX4_init 43 = .ok (.newarray .int, 2) := by decide +kernel
theorem dX4_init_45 : decode cX4_init 45 = .ok (.putfield 26, 3) := by decide +kernel
theorem dX4_init_48 : decode cX4_init 48 = .ok (.aload_n 0, 1) := by decide +kernel
theorem dX4_init_49 : decode cX4_init 49 = .ok (.iconst 3, 1) := by decide +kernel
theorem dX4_init_50 : decode cX4_init 50 = .ok (.newarray .int, 2) := by decide +kernel
theorem dX4_init_52 : decode cX4_init 52 = .ok (.putfield 29, 3) := by decide +kernel
theorem dX4_init_55 : decode cX4_init 55 = .ok (.return_, 1) := by decide +kernel
theorem dX4_startAnew_0 : decode cX4_startAnew 0 = .ok (.aload_n 0, 1) := by decide +kernel
theorem dX4_startAnew_1 : decode cX4_startAnew 1 = .ok (.getfield 9, 3) := by decide +kernel
theorem dX4_startAnew_4 : decode cX4_startAnew 4 = .ok (.iconst 0, 1) := by decide +kernel
theorem dX4_startAnew_5 : decode cX4_startAnew 5 = .ok (.invokestatic 32, 3) := by decide +kernel
theorem dX4_startAnew_8 : decode cX4_startAnew 8 = .ok (.aload_n 1, 1) := by decide +kernel
theorem dX4_startAnew_9 : decode cX4_startAnew 9 = .ok (.getfield 38, 3) := by decide +kernel
theorem dX4_startAnew_12 : decode cX4_startAnew 12 = .ok (.iconst 0, 1) := by decide +kernel
theorem dX4_startAnew_13 : decode cX4_startAnew 13 = .ok (.aload_n 0, 1) := by decide +kernel
theorem dX4_startAnew_14 : decode cX4_startAnew 14 = .ok (.getfield 9, 3) := by decide +kernel
theorem dX4_startAnew_17 : decode cX4_startAnew 17 = .ok (.iconst 2, 1) := by decide +kernel
theorem dX4_startAnew_18 : decode cX4_startAnew 18 = .ok (.bipush 6, 2) := by decide +kernel
theorem dX4_startAnew_20 : decode cX4_startAnew 20 = .ok (.invokestatic 43, 3) := by decide +kernel
theorem dX4_startAnew_23 : decode cX4_startAnew 23 = .ok (.aload_n 1, 1) := by decide +kernel
theorem dX4_startAnew_24 : decode cX4_startAnew 24 = .ok (.getfield 49, 3) := by decide +kernel
theorem dX4_startAnew_27 : decode cX4_startAnew 27 = .ok (.iconst 0, 1) := by decide +kernel
theorem dX4_startAnew_28 : decode cX4_startAnew 28 = .ok (.aload_n 0, 1) := by decide +kernel
theorem dX4_startAnew_29 : decode cX4_startAnew 29 = .ok (.getfield 9, 3) := by decide +kernel
theorem dX4_startAnew_32 : decode cX4_startAnew 32 = .ok (.bipush 62, 2) := by decide +kernel
theorem dX4_startAnew_34 : decode cX4_startAnew 34 = .ok (.bipush 36, 2) := by decide +kernel
theorem dX4_startAnew_36 : decode cX4_startAnew 36 = .ok (.invokestatic 43, 3) := by decide +kernel
theorem dX4_startAnew_39 : decode cX4_startAnew 39 = .ok (.aload_n 1, 1) := by decide +kernel
theorem dX4_startAnew_40 : decode cX4_startAnew 40 = .ok (.getfield 52, 3) := by decide +kernel
theorem dX4_startAnew_43 : decode cX4_startAnew 43 = .ok (.iconst 0, 1) := by decide +kernel
theorem dX4_startAnew_44 : decode cX4_startAnew 44 = .ok (.aload_n 0, 1) := by decide +kernel
theorem dX4_startAnew_45 : decode cX4_startAnew 45 = .ok (.getfield 9, 3) := by decide +kernel
theorem dX4_startAnew_48 : decode cX4_startAnew 48 = .ok (.bipush 98, 2) := by decide +kernel
theorem dX4_startAnew_50 : decode cX4_startAnew 50 = .ok (.bipush 8, 2) := by decide +kernel
theorem dX4_startAnew_52 : decode cX4_startAnew 52 = .ok (.invokestatic 43, 3) := by decide +kernel
theorem dX4_startAnew_55 : decode cX4_startAnew 55 = .ok (.aload_n 0, 1) := by decide +kernel
theorem dX4_startAnew_56 : decode cX4_startAnew 56 = .ok (.iconst 0, 1) := by decide +kernel
theorem dX4_startAnew_57 : decode cX4_startAnew 57 = .ok (.putfield 55, 3) := by decide +kernel
theorem dX4_startAnew_60 : decode cX4_startAnew 60 = .ok (.aload_n 0, 1) := by decide +kernel
theorem dX4_startAnew_61 : decode cX4_startAnew 61 = .ok (.iconst 0, 1) := by decide +kernel
theorem dX4_startAnew_62 : decode cX4_startAnew 62 = .ok (.putfield 59, 3) := by decide +kernel
theorem dX4_startAnew_65 : decode cX4_startAnew 65 = .ok (.aload_n 0, 1) := by decide +kernel
theorem dX4_startAnew_66 : decode cX4_startAnew 66 = .ok (.iconst 0, 1) := by decide +kernel
theorem dX4_startAnew_67 : decode cX4_startAnew 67 = .ok (.putfield 62, 3) := by decide +kernel
theorem dX4_startAnew_70 : decode cX4_startAnew 70 = .ok (.return_, 1) := by decide +kernel
theorem dX4_refuse_0 : decode cX4_refuse 0 = .ok (.aload_n 0, 1) := by decide +kernel
theorem dX4_refuse_1 : decode cX4_refuse 1 = .ok (.getfield 29, 3) := by decide +kernel
theorem dX4_refuse_4 : decode cX4_refuse 4 = .ok (.iload_n 1, 1) := by decide +kernel
theorem dX4_refuse_5 : decode cX4_refuse 5 = .ok (.dup2, 1) := by decide +kernel
theorem dX4_refuse_6 : decode cX4_refuse 6 = .ok (.iaload, 1) := by decide +kernel
theorem dX4_refuse_7 : decode cX4_refuse 7 = .ok (.iconst 1, 1) := by decide +kernel
theorem dX4_refuse_8 : decode cX4_refuse 8 = .ok (.iadd, 1) := by decide +kernel
theorem dX4_refuse_9 : decode cX4_refuse 9 = .ok (.iastore, 1) := by decide +kernel
theorem dX4_refuse_10 : decode cX4_refuse 10 = .ok (.return_, 1) := by decide +kernel
theorem dX4_keepAct_0 : decode cX4_keepAct 0 = .ok (.aload_n 0, 1) := by decide +kernel
theorem dX4_keepAct_1 : decode cX4_keepAct 1 = .ok (.getfield 59, 3) := by decide +kernel
theorem dX4_keepAct_4 : decode cX4_keepAct 4 = .ok (.bipush 40, 2) := by decide +kernel
theorem dX4_keepAct_6 : decode cX4_keepAct 6 = .ok (.if_icmp .lt 22, 3) := by decide +kernel
theorem dX4_keepAct_9 : decode cX4_keepAct 9 = .ok (.aload_n 0, 1) := by decide +kernel
theorem dX4_keepAct_10 : decode cX4_keepAct 10 = .ok (.aload_n 0, 1) := by decide +kernel
theorem dX4_keepAct_11 : decode cX4_keepAct 11 = .ok (.getfield 55, 3) := by decide +kernel
theorem dX4_keepAct_14 : decode cX4_keepAct 14 = .ok (.iconst 1, 1) := by decide +kernel
theorem dX4_keepAct_15 : decode cX4_keepAct 15 = .ok (.iadd, 1) := by decide +kernel
theorem dX4_keepAct_16 : decode cX4_keepAct 16 = .ok (.bipush 40, 2) := by decide +kernel
theorem dX4_keepAct_18 : decode cX4_keepAct 18 = .ok (.irem, 1) := by decide +kernel
theorem dX4_keepAct_19 : decode cX4_keepAct 19 = .ok (.putfield 55, 3) := by decide +kernel
theorem dX4_keepAct_22 : decode cX4_keepAct 22 = .ok (.aload_n 0, 1) := by decide +kernel
theorem dX4_keepAct_23 : decode cX4_keepAct 23 = .ok (.bipush 39, 2) := by decide +kernel
theorem dX4_keepAct_25 : decode cX4_keepAct 25 = .ok (.putfield 59, 3) := by decide +kernel
theorem dX4_keepAct_28 : decode cX4_keepAct 28 = .ok (.aload_n 0, 1) := by decide +kernel
theorem dX4_keepAct_29 : decode cX4_keepAct 29 = .ok (.getfield 9, 3) := by decide +kernel
theorem dX4_keepAct_32 : decode cX4_keepAct 32 = .ok (.iconst 0, 1) := by decide +kernel
theorem dX4_keepAct_33 : decode cX4_keepAct 33 = .ok (.aload_n 0, 1) := by decide +kernel
theorem dX4_keepAct_34 : decode cX4_keepAct 34 = .ok (.getfield 17, 3) := by decide +kernel
theorem dX4_keepAct_37 : decode cX4_keepAct 37 = .ok (.aload_n 0, 1) := by decide +kernel
theorem dX4_keepAct_38 : decode cX4_keepAct 38 = .ok (.getfield 55, 3) := by decide +kernel
theorem dX4_keepAct_41 : decode cX4_keepAct 41 = .ok (.aload_n 0, 1) := by decide +kernel
theorem dX4_keepAct_42 : decode cX4_keepAct 42 = .ok (.getfield 59, 3) := by decide +kernel
theorem dX4_keepAct_45 : decode cX4_keepAct 45 = .ok (.iadd, 1) := by decide +kernel
theorem dX4_keepAct_46 : decode cX4_keepAct 46 = .ok (.bipush 40, 2) := by decide +kernel
theorem dX4_keepAct_48 : decode cX4_keepAct 48 = .ok (.irem, 1) := by decide +kernel
theorem dX4_keepAct_49 : decode cX4_keepAct 49 = .ok (.aaload, 1) := by decide +kernel
theorem dX4_keepAct_50 : decode cX4_keepAct 50 = .ok (.iconst 0, 1) := by decide +kernel
theorem dX4_keepAct_51 : decode cX4_keepAct 51 = .ok (.bipush 106, 2) := by decide +kernel
theorem dX4_keepAct_53 : decode cX4_keepAct 53 = .ok (.invokestatic 43, 3) := by decide +kernel
theorem dX4_keepAct_56 : decode cX4_keepAct 56 = .ok (.aload_n 0, 1) := by decide +kernel
theorem dX4_keepAct_57 : decode cX4_keepAct 57 = .ok (.dup, 1) := by decide +kernel
theorem dX4_keepAct_58 : decode cX4_keepAct 58 = .ok (.getfield 59, 3) := by decide +kernel
theorem dX4_keepAct_61 : decode cX4_keepAct 61 = .ok (.iconst 1, 1) := by decide +kernel
theorem dX4_keepAct_62 : decode cX4_keepAct 62 = .ok (.iadd, 1) := by decide +kernel
theorem dX4_keepAct_63 : decode cX4_keepAct 63 = .ok (.putfield 59, 3) := by decide +kernel
theorem dX4_keepAct_66 : decode cX4_keepAct 66 = .ok (.return_, 1) := by decide +kernel
theorem dX4_undoAct_0 : decode cX4_undoAct 0 = .ok (.aload_n 0, 1) := by decide +kernel
theorem dX4_undoAct_1 : decode cX4_undoAct 1 = .ok (.getfield 59, 3) := by decide +kernel
theorem dX4_undoAct_4 : decode cX4_undoAct 4 = .ok (.iconst 1, 1) := by decide +kernel
theorem dX4_undoAct_5 : decode cX4_undoAct 5 = .ok (.if_icmp .ge 5, 3) := by decide +kernel
theorem dX4_undoAct_8 : decode cX4_undoAct 8 = .ok (.iconst 0, 1) := by decide +kernel
theorem dX4_undoAct_9 : decode cX4_undoAct 9 = .ok (.ireturn, 1) := by decide +kernel
theorem dX4_undoAct_10 : decode cX4_undoAct 10 = .ok (.aload_n 0, 1) := by decide +kernel
theorem dX4_undoAct_11 : decode cX4_undoAct 11 = .ok (.dup, 1) := by decide +kernel
theorem dX4_undoAct_12 : decode cX4_undoAct 12 = .ok (.getfield 59, 3) := by decide +kernel
theorem dX4_undoAct_15 : decode cX4_undoAct 15 = .ok (.iconst 1, 1) := by decide +kernel
theorem dX4_undoAct_16 : decode cX4_undoAct 16 = .ok (.isub, 1) := by decide +kernel
theorem dX4_undoAct_17 : decode cX4_undoAct 17 = .ok (.putfield 59, 3) := by decide +kernel
theorem dX4_undoAct_20 : decode cX4_undoAct 20 = .ok (.aload_n 0, 1) := by decide +kernel
theorem dX4_undoAct_21 : decode cX4_undoAct 21 = .ok (.getfield 17, 3) := by decide +kernel
theorem dX4_undoAct_24 : decode cX4_undoAct 24 = .ok (.aload_n 0, 1) := by decide +kernel
theorem dX4_undoAct_25 : decode cX4_undoAct 25 = .ok (.getfield 55, 3) := by decide +kernel
theorem dX4_undoAct_28 : decode cX4_undoAct 28 = .ok (.aload_n 0, 1) := by decide +kernel
theorem dX4_undoAct_29 : decode cX4_undoAct 29 = .ok (.getfield 59, 3) := by decide +kernel
theorem dX4_undoAct_32 : decode cX4_undoAct 32 = .ok (.iadd, 1) := by decide +kernel
theorem dX4_undoAct_33 : decode cX4_undoAct 33 = .ok (.bipush 40, 2) := by decide +kernel
theorem dX4_undoAct_35 : decode cX4_undoAct 35 = .ok (.irem, 1) := by decide +kernel
theorem dX4_undoAct_36 : decode cX4_undoAct 36 = .ok (.aaload, 1) := by decide +kernel
theorem dX4_undoAct_37 : decode cX4_undoAct 37 = .ok (.iconst 0, 1) := by decide +kernel
theorem dX4_undoAct_38 : decode cX4_undoAct 38 = .ok (.aload_n 0, 1) := by decide +kernel
theorem dX4_undoAct_39 : decode cX4_undoAct 39 = .ok (.getfield 9, 3) := by decide +kernel
theorem dX4_undoAct_42 : decode cX4_undoAct 42 = .ok (.iconst 0, 1) := by decide +kernel
theorem dX4_undoAct_43 : decode cX4_undoAct 43 = .ok (.bipush 106, 2) := by decide +kernel
theorem dX4_undoAct_45 : decode cX4_undoAct 45 = .ok (.invokestatic 43, 3) := by decide +kernel
theorem dX4_undoAct_48 : decode cX4_undoAct 48 = .ok (.iconst 1, 1) := by decide +kernel
theorem dX4_undoAct_49 : decode cX4_undoAct 49 = .ok (.ireturn, 1) := by decide +kernel
theorem dX4_addHeard_0 : decode cX4_addHeard 0 = .ok (.aload_n 0, 1) := by decide +kernel
theorem dX4_addHeard_1 : decode cX4_addHeard 1 = .ok (.getfield 62, 3) := by decide +kernel
theorem dX4_addHeard_4 : decode cX4_addHeard 4 = .ok (.bipush 8, 2) := by decide +kernel
theorem dX4_addHeard_6 : decode cX4_addHeard 6 = .ok (.if_icmp .ge 43, 3) := by decide +kernel
theorem dX4_addHeard_9 : decode cX4_addHeard 9 = .ok (.aload_n 0, 1) := by decide +kernel
theorem dX4_addHeard_10 : decode cX4_addHeard 10 = .ok (.getfield 20, 3) := by decide +kernel
theorem dX4_addHeard_13 : decode cX4_addHeard 13 = .ok (.aload_n 0, 1) := by decide +kernel
theorem dX4_addHeard_14 : decode cX4_addHeard 14 = .ok (.getfield 62, 3) := by decide +kernel
theorem dX4_addHeard_17 : decode cX4_addHeard 17 = .ok (.iload_n 1, 1) := by decide +kernel
theorem dX4_addHeard_18 : decode cX4_addHeard 18 = .ok (.iastore, 1) := by decide +kernel
theorem dX4_addHeard_19 : decode cX4_addHeard 19 = .ok (.aload_n 0, 1) := by decide +kernel
theorem dX4_addHeard_20 : decode cX4_addHeard 20 = .ok (.getfield 23, 3) := by decide +kernel
theorem dX4_addHeard_23 : decode cX4_addHeard 23 = .ok (.aload_n 0, 1) := by decide +kernel
theorem dX4_addHeard_24 : decode cX4_addHeard 24 = .ok (.getfield 62, 3) := by decide +kernel
theorem dX4_addHeard_27 : decode cX4_addHeard 27 = .ok (.iload_n 2, 1) := by decide +kernel
theorem dX4_addHeard_28 : decode cX4_addHeard 28 = .ok (.iastore, 1) := by decide +kernel
theorem dX4_addHeard_29 : decode cX4_addHeard 29 = .ok (.aload_n 0, 1) := by decide +kernel
theorem dX4_addHeard_30 : decode cX4_addHeard 30 = .ok (.getfield 26, 3) := by decide +kernel
theorem dX4_addHeard_33 : decode cX4_addHeard 33 = .ok (.aload_n 0, 1) := by decide +kernel
theorem dX4_addHeard_34 : decode cX4_addHeard 34 = .ok (.getfield 62, 3) := by decide +kernel
theorem dX4_addHeard_37 : decode cX4_addHeard 37 = .ok (.iload_n 3, 1) := by decide +kernel
theorem dX4_addHeard_38 : decode cX4_addHeard 38 = .ok (.iastore, 1) := by decide +kernel
theorem dX4_addHeard_39 : decode cX4_addHeard 39 = .ok (.aload_n 0, 1) := by decide +kernel
theorem dX4_addHeard_40 : decode cX4_addHeard 40 = .ok (.dup, 1) := by decide +kernel
theorem dX4_addHeard_41 : decode cX4_addHeard 41 = .ok (.getfield 62, 3) := by decide +kernel
theorem dX4_addHeard_44 : decode cX4_addHeard 44 = .ok (.iconst 1, 1) := by decide +kernel
theorem dX4_addHeard_45 : decode cX4_addHeard 45 = .ok (.iadd, 1) := by decide +kernel
theorem dX4_addHeard_46 : decode cX4_addHeard 46 = .ok (.putfield 62, 3) := by decide +kernel
theorem dX4_addHeard_49 : decode cX4_addHeard 49 = .ok (.return_, 1) := by decide +kernel
theorem dX4_lastHeardHour_0 : decode cX4_lastHeardHour 0 = .ok (.iconst 0, 1) := by decide +kernel
theorem dX4_lastHeardHour_1 : decode cX4_lastHeardHour 1 = .ok (.istore_n 1, 1) := by decide +kernel
theorem dX4_lastHeardHour_2 : decode cX4_lastHeardHour 2 = .ok (.iconst 0, 1) := by decide +kernel
theorem dX4_lastHeardHour_3 : decode cX4_lastHeardHour 3 = .ok (.istore_n 2, 1) := by decide +kernel
theorem dX4_lastHeardHour_4 : decode cX4_lastHeardHour 4 = .ok (.iload_n 2, 1) := by decide +kernel
theorem dX4_lastHeardHour_5 : decode cX4_lastHeardHour 5 = .ok (.aload_n 0, 1) := by decide +kernel
theorem dX4_lastHeardHour_6 : decode cX4_lastHeardHour 6 = .ok (.getfield 62, 3) := by decide +kernel
theorem dX4_lastHeardHour_9 : decode cX4_lastHeardHour 9 = .ok (.if_icmp .ge 20, 3) := by decide +kernel
theorem dX4_lastHeardHour_12 : decode cX4_lastHeardHour 12 = .ok (.iload_n 1, 1) := by decide +kernel
theorem dX4_lastHeardHour_13 : decode cX4_lastHeardHour 13 = .ok (.aload_n 0, 1) := by decide +kernel
theorem dX4_lastHeardHour_14 : decode cX4_lastHeardHour 14 = .ok (.getfield 23, 3) := by decide +kernel
theorem dX4_lastHeardHour_17 : decode cX4_lastHeardHour 17 = .ok (.iload_n 2, 1) := by decide +kernel
theorem dX4_lastHeardHour_18 : decode cX4_lastHeardHour 18 = .ok (.iaload, 1) := by decide +kernel
theorem dX4_lastHeardHour_19 : decode cX4_lastHeardHour 19 = .ok (.invokestatic 65, 3) := by decide +kernel
theorem dX4_lastHeardHour_22 : decode cX4_lastHeardHour 22 = .ok (.istore_n 1, 1) := by decide +kernel
theorem dX4_lastHeardHour_23 : decode cX4_lastHeardHour 23 = .ok (.iinc 2 1, 3) := by decide +kernel
theorem dX4_lastHeardHour_26 : decode cX4_lastHeardHour 26 = .ok (.goto (-22), 3) := by decide +kernel
theorem dX4_lastHeardHour_29 : decode cX4_lastHeardHour 29 = .ok (.iload_n 1, 1) := by decide +kernel
theorem dX4_lastHeardHour_30 : decode cX4_lastHeardHour 30 = .ok (.ireturn, 1) := by decide +kernel
theorem dX4_copy_0 : decode cX4_copy 0 = .ok (.aload_n 1, 1) := by decide +kernel
theorem dX4_copy_1 : decode cX4_copy 1 = .ok (.getfield 9, 3) := by decide +kernel
theorem dX4_copy_4 : decode cX4_copy 4 = .ok (.iconst 0, 1) := by decide +kernel
theorem dX4_copy_5 : decode cX4_copy 5 = .ok (.aload_n 0, 1) := by decide +kernel
theorem dX4_copy_6 : decode cX4_copy 6 = .ok (.getfield 9, 3) := by decide +kernel
theorem dX4_copy_9 : decode cX4_copy 9 = .ok (.iconst 0, 1) := by decide +kernel
theorem dX4_copy_10 : decode cX4_copy 10 = .ok (.bipush 106, 2) := by decide +kernel
theorem dX4_copy_12 : decode cX4_copy 12 = .ok (.invokestatic 43, 3) := by decide +kernel
theorem dX4_copy_15 : decode cX4_copy 15 = .ok (.aload_n 0, 1) := by decide +kernel
theorem dX4_copy_16 : decode cX4_copy 16 = .ok (.aload_n 1, 1) := by decide +kernel
theorem dX4_copy_17 : decode cX4_copy 17 = .ok (.getfield 55, 3) := by decide +kernel
theorem dX4_copy_20 : decode cX4_copy 20 = .ok (.putfield 55, 3) := by decide +kernel
theorem dX4_copy_23 : decode cX4_copy 23 = .ok (.aload_n 0, 1) := by decide +kernel
theorem dX4_copy_24 : decode cX4_copy 24 = .ok (.aload_n 1, 1) := by decide +kernel
theorem dX4_copy_25 : decode cX4_copy 25 = .ok (.getfield 59, 3) := by decide +kernel
theorem dX4_copy_28 : decode cX4_copy 28 = .ok (.putfield 59, 3) := by decide +kernel
theorem dX4_copy_31 : decode cX4_copy 31 = .ok (.iconst 0, 1) := by decide +kernel
theorem dX4_copy_32 : decode cX4_copy 32 = .ok (.istore_n 2, 1) := by decide +kernel
theorem dX4_copy_33 : decode cX4_copy 33 = .ok (.iload_n 2, 1) := by decide +kernel
theorem dX4_copy_34 : decode cX4_copy 34 = .ok (.aload_n 0, 1) := by decide +kernel
theorem dX4_copy_35 : decode cX4_copy 35 = .ok (.getfield 59, 3) := by decide +kernel
theorem dX4_copy_38 : decode cX4_copy 38 = .ok (.if_icmp .ge 38, 3) := by decide +kernel
theorem dX4_copy_41 : decode cX4_copy 41 = .ok (.aload_n 0, 1) := by decide +kernel
theorem dX4_copy_42 : decode cX4_copy 42 = .ok (.getfield 55, 3) := by decide +kernel
theorem dX4_copy_45 : decode cX4_copy 45 = .ok (.iload_n 2, 1) := by decide +kernel
theorem dX4_copy_46 : decode cX4_copy 46 = .ok (.iadd, 1) := by decide +kernel
theorem dX4_copy_47 : decode cX4_copy 47 = .ok (.bipush 40, 2) := by decide +kernel
theorem dX4_copy_49 : decode cX4_copy 49 = .ok (.irem, 1) := by decide +kernel
theorem dX4_copy_50 : decode cX4_copy 50 = .ok (.istore_n 3, 1) := by decide +kernel
theorem dX4_copy_51 : decode cX4_copy 51 = .ok (.aload_n 1, 1) := by decide +kernel
theorem dX4_copy_52 : decode cX4_copy 52 = .ok (.getfield 17, 3) := by decide +kernel
theorem dX4_copy_55 : decode cX4_copy 55 = .ok (.iload_n 3, 1) := by decide +kernel
theorem dX4_copy_56 : decode cX4_copy 56 = .ok (.aaload, 1) := by decide +kernel
theorem dX4_copy_57 : decode cX4_copy 57 = .ok (.iconst 0, 1) := by decide +kernel
theorem dX4_copy_58 : decode cX4_copy 58 = .ok (.aload_n 0, 1) := by decide +kernel
theorem dX4_copy_59 : decode cX4_copy 59 = .ok (.getfield 17, 3) := by decide +kernel
theorem dX4_copy_62 : decode cX4_copy 62 = .ok (.iload_n 3, 1) := by decide +kernel
theorem dX4_copy_63 : decode cX4_copy 63 = .ok (.aaload, 1) := by decide +kernel
theorem dX4_copy_64 : decode cX4_copy 64 = .ok (.iconst 0, 1) := by decide +kernel
theorem dX4_copy_65 : decode cX4_copy 65 = .ok (.bipush 106, 2) := by decide +kernel
theorem dX4_copy_67 : decode cX4_copy 67 = .ok (.invokestatic 43, 3) := by decide +kernel
theorem dX4_copy_70 : decode cX4_copy 70 = .ok (.iinc 2 1, 3) := by decide +kernel
theorem dX4_copy_73 : decode cX4_copy 73 = .ok (.goto (-40), 3) := by decide +kernel
theorem dX4_copy_76 : decode cX4_copy 76 = .ok (.aload_n 0, 1) := by decide +kernel
theorem dX4_copy_77 : decode cX4_copy 77 = .ok (.aload_n 1, 1) := by decide +kernel
theorem dX4_copy_78 : decode cX4_copy 78 = .ok (.getfield 62, 3) := by decide +kernel
theorem dX4_copy_81 : decode cX4_copy 81 = .ok (.putfield 62, 3) := by decide +kernel
theorem dX4_copy_84 : decode cX4_copy 84 = .ok (.aload_n 1, 1) := by decide +kernel
theorem dX4_copy_85 : decode cX4_copy 85 = .ok (.getfield 20, 3) := by decide +kernel
theorem dX4_copy_88 : decode cX4_copy 88 = .ok (.iconst 0, 1) := by decide +kernel
theorem dX4_copy_89 : decode cX4_copy 89 = .ok (.aload_n 0, 1) := by decide +kernel
theorem dX4_copy_90 : decode cX4_copy 90 = .ok (.getfield 20, 3) := by decide +kernel
theorem dX4_copy_93 : decode cX4_copy 93 = .ok (.iconst 0, 1) := by decide +kernel
theorem dX4_copy_94 : decode cX4_copy 94 = .ok (.bipush 8, 2) := by decide +kernel
theorem dX4_copy_96 : decode cX4_copy 96 = .ok (.invokestatic 43, 3) := by decide +kernel
theorem dX4_copy_99 : decode cX4_copy 99 = .ok (.aload_n 1, 1) := by decide +kernel
theorem dX4_copy_100 : decode cX4_copy 100 = .ok (.getfield 23, 3) := by decide +kernel
theorem dX4_copy_103 : decode cX4_copy 103 = .ok (.iconst 0, 1) := by decide +kernel
theorem dX4_copy_104 : decode cX4_copy 104 = .ok (.aload_n 0, 1) := by decide +kernel
theorem dX4_copy_105 : decode cX4_copy 105 = .ok (.getfield 23, 3) := by decide +kernel
theorem dX4_copy_108 : decode cX4_copy 108 = .ok (.iconst 0, 1) := by decide +kernel
theorem dX4_copy_109 : decode cX4_copy 109 = .ok (.bipush 8, 2) := by decide +kernel
theorem dX4_copy_111 : decode cX4_copy 111 = .ok (.invokestatic 43, 3) := by decide +kernel
theorem dX4_copy_114 : decode cX4_copy 114 = .ok (.aload_n 1, 1) := by decide +kernel
theorem dX4_copy_115 : decode cX4_copy 115 = .ok (.getfield 26, 3) := by decide +kernel
theorem dX4_copy_118 : decode cX4_copy 118 = .ok (.iconst 0, 1) := by decide +kernel
theorem dX4_copy_119 : decode cX4_copy 119 = .ok (.aload_n 0, 1) := by decide +kernel
theorem dX4_copy_120 : decode cX4_copy 120 = .ok (.getfield 26, 3) := by decide +kernel
theorem dX4_copy_123 : decode cX4_copy 123 = .ok (.iconst 0, 1) := by decide +kernel
theorem dX4_copy_124 : decode cX4_copy 124 = .ok (.bipush 8, 2) := by decide +kernel
theorem dX4_copy_126 : decode cX4_copy 126 = .ok (.invokestatic 43, 3) := by decide +kernel
theorem dX4_copy_129 : decode cX4_copy 129 = .ok (.aload_n 1, 1) := by decide +kernel
theorem dX4_copy_130 : decode cX4_copy 130 = .ok (.getfield 29, 3) := by decide +kernel
theorem dX4_copy_133 : decode cX4_copy 133 = .ok (.iconst 0, 1) := by decide +kernel
theorem dX4_copy_134 : decode cX4_copy 134 = .ok (.aload_n 0, 1) := by decide +kernel
theorem dX4_copy_135 : decode cX4_copy 135 = .ok (.getfield 29, 3) := by decide +kernel
theorem dX4_copy_138 : decode cX4_copy 138 = .ok (.iconst 0, 1) := by decide +kernel
theorem dX4_copy_139 : decode cX4_copy 139 = .ok (.iconst 3, 1) := by decide +kernel
theorem dX4_copy_140 : decode cX4_copy 140 = .ok (.invokestatic 43, 3) := by decide +kernel
theorem dX4_copy_143 : decode cX4_copy 143 = .ok (.return_, 1) := by decide +kernel
theorem dX5_init_0 : decode cX5_init 0 = .ok (.aload_n 0, 1) := by decide +kernel
theorem dX5_init_1 : decode cX5_init 1 = .ok (.invokespecial 3, 3) := by decide +kernel
theorem dX5_init_4 : decode cX5_init 4 = .ok (.aload_n 0, 1) := by decide +kernel
theorem dX5_init_5 : decode cX5_init 5 = .ok (.sipush 2048, 3) := by decide +kernel
theorem dX5_init_8 : decode cX5_init 8 = .ok (.newarray .int, 2) := by decide +kernel
theorem dX5_init_10 : decode cX5_init 10 = .ok (.putfield 9, 3) := by decide +kernel
theorem dX5_init_13 : decode cX5_init 13 = .ok (.return_, 1) := by decide +kernel
theorem dX5_thirds_0 : decode cX5_thirds 0 = .ok (.iconst 0, 1) := by decide +kernel
theorem dX5_thirds_1 : decode cX5_thirds 1 = .ok (.istore_n 3, 1) := by decide +kernel
theorem dX5_thirds_2 : decode cX5_thirds 2 = .ok (.iconst 0, 1) := by decide +kernel
theorem dX5_thirds_3 : decode cX5_thirds 3 = .ok (.istore 4, 2) := by decide +kernel
theorem dX5_thirds_5 : decode cX5_thirds 5 = .ok (.iload 4, 2) := by decide +kernel
theorem dX5_thirds_7 : decode cX5_thirds 7 = .ok (.aload_n 1, 1) := by decide +kernel
theorem dX5_thirds_8 : decode cX5_thirds 8 = .ok (.getfield 15, 3) := by decide +kernel
theorem dX5_thirds_11 : decode cX5_thirds 11 = .ok (.if_icmp .ge 26, 3) := by decide +kernel
theorem dX5_thirds_14 : decode cX5_thirds 14 = .ok (.aload_n 1, 1) := by decide +kernel
theorem dX5_thirds_15 : decode cX5_thirds 15 = .ok (.iload 4, 2) := by decide +kernel
theorem dX5_thirds_17 : decode cX5_thirds 17 = .ok (.iload_n 2, 1) := by decide +kernel
theorem dX5_thirds_18 : decode cX5_thirds 18 = .ok (.invokestatic 21, 3) := by decide +kernel
theorem dX5_thirds_21 : decode cX5_thirds 21 = .ok (.ifCond .eq 10, 3) := by decide +kernel
theorem dX5_thirds_24 : decode cX5_thirds 24 = .ok (.iload_n 3, 1) := by decide +kernel
theorem dX5_thirds_25 : decode cX5_thirds 25 = .ok (.iconst 1, 1) := by decide +kernel
theorem dX5_thirds_26 : decode cX5_thirds 26 = .ok (.iload 4, 2) := by decide +kernel
theorem dX5_thirds_28 : decode cX5_thirds 28 = .ok (.ishl, 1) := by decide +kernel
theorem dX5_thirds_29 : decode cX5_thirds 29 = .ok (.ior, 1) := by decide +kernel
theorem dX5_thirds_30 : decode cX5_thirds 30 = .ok (.istore_n 3, 1) := by decide +kernel
theorem dX5_thirds_31 : decode cX5_thirds 31 = .ok (.iinc 4 1, 3) := by decide +kernel
theorem dX5_thirds_34 : decode cX5_thirds 34 = .ok (.goto (-29), 3) := by decide +kernel
theorem dX5_thirds_37 : decode cX5_thirds 37 = .ok (.iload_n 3, 1) := by decide +kernel
theorem dX5_thirds_38 : decode cX5_thirds 38 = .ok (.ireturn, 1) := by decide +kernel
theorem dX5_isThirdLower_0 : decode cX5_isThirdLower 0 = .ok (.aload_n 0, 1) := by decide +kernel
theorem dX5_isThirdLower_1 : decode cX5_isThirdLower 1 = .ok (.getfield 25, 3) := by decide +kernel
theorem dX5_isThirdLower_4 : decode cX5_isThirdLower 4 = .ok (.iload_n 2, 1) := by decide +kernel
theorem dX5_isThirdLower_5 : decode cX5_isThirdLower 5 = .ok (.iaload, 1) := by decide +kernel
theorem dX5_isThirdLower_6 : decode cX5_isThirdLower 6 = .ok (.istore_n 3, 1) := by decide +kernel
theorem dX5_isThirdLower_7 : decode cX5_isThirdLower 7 = .ok (.aload_n 0, 1) := by decide +kernel
theorem dX5_isThirdLower_8 : decode cX5_isThirdLower 8 = .ok (.getfield 25, 3) := by decide +kernel
theorem dX5_isThirdLower_11 : decode cX5_isThirdLower 11 = .ok (.iload_n 1, 1) := by decide +kernel
theorem dX5_isThirdLower_12 : decode cX5_isThirdLower 12 = .ok (.iaload, 1) := by decide +kernel
theorem dX5_isThirdLower_13 : decode cX5_isThirdLower 13 = .ok (.iload_n 3, 1) := by decide +kernel
theorem dX5_isThirdLower_14 : decode cX5_isThirdLower 14 = .ok (.if_icmp .eq 5, 3) := by decide +kernel
theorem dX5_isThirdLower_17 : decode cX5_isThirdLower 17 = .ok (.iconst 0, 1) := by decide +kernel
theorem dX5_isThirdLower_18 : decode cX5_isThirdLower 18 = .ok (.ireturn, 1) := by decide +kernel
theorem dX5_isThirdLower_19 : decode cX5_isThirdLower 19 = .ok (.iconst 0, 1) := by decide +kernel
theorem dX5_isThirdLower_20 : decode cX5_isThirdLower 20 = .ok (.istore 4, 2) := by decide +kernel
theorem dX5_isThirdLower_22 : decode cX5_isThirdLower 22 = .ok (.iload 4, 2) := by decide +kernel
theorem dX5_isThirdLower_24 : decode cX5_isThirdLower 24 = .ok (.iload_n 3, 1) := by decide +kernel
theorem dX5_isThirdLower_25 : decode cX5_isThirdLower 25 = .ok (.if_icmp .ge 44, 3) := by decide +kernel
theorem dX5_isThirdLower_28 : decode cX5_isThirdLower 28 = .ok (.aload_n 0, 1) := by decide +kernel
theorem dX5_isThirdLower_29 : decode cX5_isThirdLower 29 = .ok (.getfield 28, 3) := by decide +kernel
theorem dX5_isThirdLower_32 : decode cX5_isThirdLower 32 = .ok (.iload_n 1, 1) := by decide +kernel
theorem dX5_isThirdLower_33 : decode cX5_isThirdLower 33 = .ok (.bipush 6, 2) := by decide +kernel
theorem dX5_isThirdLower_35 : decode cX5_isThirdLower 35 = .ok (.imul, 1) := by decide +kernel
theorem dX5_isThirdLower_36 : decode cX5_isThirdLower 36 = .ok (.iload 4, 2) := by decide +kernel
theorem dX5_isThirdLower_38 : decode cX5_isThirdLower 38 = .ok (.iadd, 1) := by decide +kernel
theorem dX5_isThirdLower_39 : decode cX5_isThirdLower 39 = .ok (.iaload, 1) := by decide +kernel
theorem dX5_isThirdLower_40 : decode cX5_isThirdLower 40 = .ok (.aload_n 0, 1) := by decide +kernel
theorem dX5_isThirdLower_41 : decode cX5_isThirdLower 41 = .ok (.getfield 28, 3) := by decide +kernel
theorem dX5_isThirdLower_44 : decode cX5_isThirdLower 44 = .ok (.iload_n 2, 1) := by decide +kernel
theorem dX5_isThirdLower_45 : decode cX5_isThirdLower 45 = .ok (.bipush 6, 2) := by decide +kernel
theorem dX5_isThirdLower_47 : decode cX5_isThirdLower 47 = .ok (.imul, 1) := by decide +kernel
theorem dX5_isThirdLower_48 : decode cX5_isThirdLower 48 = .ok (.iload 4, 2) := by decide +kernel
theorem dX5_isThirdLower_50 : decode cX5_isThirdLower 50 = .ok (.iadd, 1) := by decide +kernel
theorem dX5_isThirdLower_51 : decode cX5_isThirdLower 51 = .ok (.iaload, 1) := by decide +kernel
theorem dX5_isThirdLower_52 : decode cX5_isThirdLower 52 = .ok (.bipush 8, 2) := by decide +kernel
theorem dX5_isThirdLower_54 : decode cX5_isThirdLower 54 = .ok (.iadd, 1) := by decide +kernel
theorem dX5_isThirdLower_55 : decode cX5_isThirdLower 55 = .ok (.bipush 10, 2) := by decide +kernel
theorem dX5_isThirdLower_57 : decode cX5_isThirdLower 57 = .ok (.irem, 1) := by decide +kernel
theorem dX5_isThirdLower_58 : decode cX5_isThirdLower 58 = .ok (.if_icmp .eq 5, 3) := by decide +kernel
theorem dX5_isThirdLower_61 : decode cX5_isThirdLower 61 = .ok (.iconst 0, 1) := by decide +kernel
theorem dX5_isThirdLower_62 : decode cX5_isThirdLower 62 = .ok (.ireturn, 1) := by decide +kernel
theorem dX5_isThirdLower_63 : decode cX5_isThirdLower 63 = .ok (.iinc 4 1, 3) := by decide +kernel
theorem dX5_isThirdLower_66 : decode cX5_isThirdLower 66 = .ok (.goto (-44), 3) := by decide +kernel
theorem dX5_isThirdLower_69 : decode cX5_isThirdLower 69 = .ok (.iconst 1, 1) := by decide +kernel
theorem dX5_isThirdLower_70 : decode cX5_isThirdLower 70 = .ok (.ireturn, 1) := by decide +kernel
theorem dX5_inCommon_0 : decode cX5_inCommon 0 = .ok (.aload_n 1, 1) := by decide +kernel
theorem dX5_inCommon_1 : decode cX5_inCommon 1 = .ok (.getfield 25, 3) := by decide +kernel
theorem dX5_inCommon_4 : decode cX5_inCommon 4 = .ok (.iload_n 2, 1) := by decide +kernel
theorem dX5_inCommon_5 : decode cX5_inCommon 5 = .ok (.iaload, 1) := by decide +kernel
theorem dX5_inCommon_6 : decode cX5_inCommon 6 = .ok (.istore 4, 2) := by decide +kernel
theorem dX5_inCommon_8 : decode cX5_inCommon 8 = .ok (.aload_n 1, 1) := by decide +kernel
theorem dX5_inCommon_9 : decode cX5_inCommon 9 = .ok (.getfield 25, 3) := by decide +kernel
theorem dX5_inCommon_12 : decode cX5_inCommon 12 = .ok (.iload_n 3, 1) := by decide +kernel
theorem dX5_inCommon_13 : decode cX5_inCommon 13 = .ok (.iaload, 1) := by decide +kernel
theorem dX5_inCommon_14 : decode cX5_inCommon 14 = .ok (.istore 5, 2) := by decide +kernel
theorem dX5_inCommon_16 : decode cX5_inCommon 16 = .ok (.iconst 0, 1) := by decide +kernel
theorem dX5_inCommon_17 : decode cX5_inCommon 17 = .ok (.istore 6, 2) := by decide +kernel
theorem dX5_inCommon_19 : decode cX5_inCommon 19 = .ok (.iload 6, 2) := by decide +kernel
theorem dX5_inCommon_21 : decode cX5_inCommon 21 = .ok (.iload 5, 2) := by decide +kernel
theorem dX5_inCommon_23 : decode cX5_inCommon 23 = .ok (.if_icmp .gt 17, 3) := by decide +kernel
theorem dX5_inCommon_26 : decode cX5_inCommon 26 = .ok (.aload_n 0, 1) := by decide +kernel
theorem dX5_inCommon_27 : decode cX5_inCommon 27 = .ok (.getfield 9, 3) := by decide +kernel
theorem dX5_inCommon_30 : decode cX5_inCommon 30 = .ok (.iload 6, 2) := by decide +kernel
theorem dX5_inCommon_32 : decode cX5_inCommon 32 = .ok (.iconst 0, 1) := by decide +kernel
theorem dX5_inCommon_33 : decode cX5_inCommon 33 = .ok (.iastore, 1) := by decide +kernel
theorem dX5_inCommon_34 : decode cX5_inCommon 34 = .ok (.iinc 6 1, 3) := by decide +kernel
theorem dX5_inCommon_37 : decode cX5_inCommon 37 = .ok (.goto (-18), 3) := by decide +kernel
theorem dX5_inCommon_40 : decode cX5_inCommon 40 = .ok (.iconst 0, 1) := by decide +kernel
theorem dX5_inCommon_41 : decode cX5_inCommon 41 = .ok (.istore 6, 2) := by decide +kernel
theorem dX5_inCommon_43 : decode cX5_inCommon 43 = .ok (.iload 6, 2) := by decide +kernel
theorem dX5_inCommon_45 : decode cX5_inCommon 45 = .ok (.iload 4, 2) := by decide +kernel
theorem dX5_inCommon_47 : decode cX5_inCommon 47 = .ok (.if_icmp .ge 110, 3) := by decide +kernel
theorem dX5_inCommon_50 : decode cX5_inCommon 50 = .ok (.iconst 0, 1) := by decide +kernel
theorem dX5_inCommon_51 : decode cX5_inCommon 51 = .ok (.istore 7, 2) := by decide +kernel
theorem dX5_inCommon_53 : decode cX5_inCommon 53 = .ok (.iconst 0, 1) := by decide +kernel
theorem dX5_inCommon_54 : decode cX5_inCommon 54 = .ok (.istore 8, 2) := by decide +kernel
theorem dX5_inCommon_56 : decode cX5_inCommon 56 = .ok (.iload 8, 2) := by decide +kernel
theorem dX5_inCommon_58 : decode cX5_inCommon 58 = .ok (.iload 5, 2) := by decide +kernel
theorem dX5_inCommon_60 : decode cX5_inCommon 60 = .ok (.if_icmp .ge 91, 3) := by decide +kernel
theorem dX5_inCommon_63 : decode cX5_inCommon 63 = .ok (.aload_n 0, 1) := by decide +kernel
theorem dX5_inCommon_64 : decode cX5_inCommon 64 = .ok (.getfield 9, 3) := by decide +kernel
theorem dX5_inCommon_67 : decode cX5_inCommon 67 = .ok (.iload 8, 2) := by decide +kernel
theorem dX5_inCommon_69 : decode cX5_inCommon 69 = .ok (.iconst 1, 1) := by decide +kernel
theorem dX5_inCommon_70 : decode cX5_inCommon 70 = .ok (.iadd, 1) := by decide +kernel
theorem dX5_inCommon_71 : decode cX5_inCommon 71 = .ok (.iaload, 1) := by decide +kernel
theorem dX5_inCommon_72 : decode cX5_inCommon 72 = .ok (.istore 9, 2) := by decide +kernel
theorem dX5_inCommon_74 : decode cX5_inCommon 74 = .ok (.aload_n 1, 1) := by decide +kernel
theorem dX5_inCommon_75 : decode cX5_inCommon 75 = .ok (.getfield 28, 3) := by decide +kernel
theorem dX5_inCommon_78 : decode cX5_inCommon 78 = .ok (.iload_n 2, 1) := by decide +kernel
theorem dX5_inCommon_79 : decode cX5_inCommon 79 = .ok (.bipush 6, 2) := by decide +kernel
theorem dX5_inCommon_81 : decode cX5_inCommon 81 = .ok (.imul, 1) := by decide +kernel
theorem dX5_inCommon_82 : decode cX5_inCommon 82 = .ok (.iload 6, 2) := by decide +kernel
theorem dX5_inCommon_84 : decode cX5_inCommon 84 = .ok (.iadd, 1) := by decide +kernel
theorem dX5_inCommon_85 : decode cX5_inCommon 85 = .ok (.iaload, 1) := by decide +kernel
theorem dX5_inCommon_86 : decode cX5_inCommon 86 = .ok (.aload_n 1, 1) := by decide +kernel
theorem dX5_inCommon_87 : decode cX5_inCommon 87 = .ok (.getfield 28, 3) := by decide +kernel
theorem dX5_inCommon_90 : decode cX5_inCommon 90 = .ok (.iload_n 3, 1) := by decide +kernel
theorem dX5_inCommon_91 : decode cX5_inCommon 91 = .ok (.bipush 6, 2) := by decide +kernel
theorem dX5_inCommon_93 : decode cX5_inCommon 93 = .ok (.imul, 1) := by decide +kernel
theorem dX5_inCommon_94 : decode cX5_inCommon 94 = .ok (.iload 8, 2) := by decide +kernel
theorem dX5_inCommon_96 : decode cX5_inCommon 96 = .ok (.iadd, 1) := by decide +kernel
theorem dX5_inCommon_97 : decode cX5_inCommon 97 = .ok (.iaload, 1) := by decide +kernel
theorem dX5_inCommon_98 : decode cX5_inCommon 98 = .ok (.if_icmp .ne 7, 3) := by decide +kernel
theorem dX5_inCommon_101 : decode cX5_inCommon 101 = .ok (.iconst 1, 1) := by decide +kernel
theorem dX5_inCommon_102 : decode cX5_inCommon 102 = .ok (.goto 4, 3) := by decide +kernel
theorem dX5_inCommon_105 : decode cX5_inCommon 105 = .ok (.iconst 0, 1) := by decide +kernel
theorem dX5_inCommon_106 : decode cX5_inCommon 106 = .ok (.istore 10, 2) := by decide +kernel
theorem dX5_inCommon_108 : decode cX5_inCommon 108 = .ok (.aload_n 0, 1) := by decide +kernel
theorem dX5_inCommon_109 : decode cX5_inCommon 109 = .ok (.getfield 9, 3) := by decide +kernel
theorem dX5_inCommon_112 : decode cX5_inCommon 112 = .ok (.iload 8, 2) := by decide +kernel
theorem dX5_inCommon_114 : decode cX5_inCommon 114 = .ok (.iconst 1, 1) := by decide +kernel
theorem dX5_inCommon_115 : decode cX5_inCommon 115 = .ok (.iadd, 1) := by decide +kernel
theorem dX5_inCommon_116 : decode cX5_inCommon 116 = .ok (.iload 10, 2) := by decide +kernel
theorem dX5_inCommon_118 : decode cX5_inCommon 118 = .ok (.ifCond .eq 10, 3) := by decide +kernel
theorem dX5_inCommon_121 : decode cX5_inCommon 121 = .ok (.iload 7, 2) := by decide +kernel
theorem dX5_inCommon_123 : decode cX5_inCommon 123 = .ok (.iconst 1, 1) := by decide +kernel
theorem dX5_inCommon_124 : decode cX5_inCommon 124 = .ok (.iadd, 1) := by decide +kernel
theorem dX5_inCommon_125 : decode cX5_inCommon 125 = .ok (.goto 15, 3) := by decide +kernel
theorem dX5_inCommon_128 : decode cX5_inCommon 128 = .ok (.iload 9, 2) := by decide +kernel
theorem dX5_inCommon_130 : decode cX5_inCommon 130 = .ok (.aload_n 0, 1) := by decide +kernel
theorem dX5_inCommon_131 : decode cX5_inCommon 131 = .ok (.getfield 9, 3) := by decide +kernel
theorem dX5_inCommon_134 : decode cX5_inCommon 134 = .ok (.iload 8, 2) := by decide +kernel
theorem dX5_inCommon_136 : decode cX5_inCommon 136 = .ok (.iaload, 1) := by decide +kernel
theorem dX5_inCommon_137 : decode cX5_inCommon 137 = .ok (.invokestatic 31, 3) := by decide +kernel
theorem dX5_inCommon_140 : decode cX5_inCommon 140 = .ok (.iastore, 1) := by decide +kernel
theorem dX5_inCommon_141 : decode cX5_inCommon 141 = .ok (.iload 9, 2) := by decide +kernel
theorem dX5_inCommon_143 : decode cX5_inCommon 143 = .ok (.istore 7, 2) := by decide +kernel
theorem dX5_inCommon_145 : decode cX5_inCommon 145 = .ok (.iinc 8 1, 3) := by decide +kernel
theorem dX5_inCommon_148 : decode cX5_inCommon 148 = .ok (.goto (-92), 3) := by decide +kernel
theorem dX5_inCommon_151 : decode cX5_inCommon 151 = .ok (.iinc 6 1, 3) := by decide +kernel
theorem dX5_inCommon_154 : decode cX5_inCommon 154 = .ok (.goto (-111), 3) := by decide +kernel
theorem dX5_inCommon_157 : decode cX5_inCommon 157 = .ok (.aload_n 0, 1) := by decide +kernel
theorem dX5_inCommon_158 : decode cX5_inCommon 158 = .ok (.getfield 9, 3) := by decide +kernel
theorem dX5_inCommon_161 : decode cX5_inCommon 161 = .ok (.iload 5, 2) := by decide +kernel
theorem dX5_inCommon_163 : decode cX5_inCommon 163 = .ok (.iaload, 1) := by decide +kernel
theorem dX5_inCommon_164 : decode cX5_inCommon 164 = .ok (.ireturn, 1) := by decide +kernel
theorem dX5_nearestCouple_0 : decode cX5_nearestCouple 0 = .ok (.iconst (-1), 1) := by decide +kernel
theorem dX5_nearestCouple_1 : decode cX5_nearestCouple 1 = .ok (.istore_n 2, 1) := by decide +kernel
theorem dX5_nearestCouple_2 : decode cX5_nearestCouple 2 = .ok (.iconst (-1), 1) := by decide +kernel
theorem dX5_nearestCouple_3 : decode cX5_nearestCouple 3 = .ok (.istore_n 3, 1) := by decide +kernel
theorem dX5_nearestCouple_4 : decode cX5_nearestCouple 4 = .ok (.iconst 0, 1) := by decide +kernel
theorem dX5_nearestCouple_5 : decode cX5_nearestCouple 5 = .ok (.istore 4, 2) := by decide +kernel
theorem dX5_nearestCouple_7 : decode cX5_nearestCouple 7 = .ok (.iload 4, 2) := by decide +kernel
theorem dX5_nearestCouple_9 : decode cX5_nearestCouple 9 = .ok (.aload_n 1, 1) := by decide +kernel
theorem dX5_nearestCouple_10 : decode cX5_nearestCouple 10 = .ok (.getfield 15, 3) := by decide +kernel
theorem dX5_nearestCouple_13 : decode cX5_nearestCouple 13 = .ok (.if_icmp .ge 59, 3) := by decide +kernel
theorem dX5_nearestCouple_16 : decode cX5_nearestCouple 16 = .ok (.iload 4, 2) := by decide +kernel
theorem dX5_nearestCouple_18 : decode cX5_nearestCouple 18 = .ok (.iconst 1, 1) := by decide +kernel
theorem dX5_nearestCouple_19 : decode cX5_nearestCouple 19 = .ok (.iadd, 1) := by decide +kernel
theorem dX5_nearestCouple_20 : decode cX5_nearestCouple 20 = .ok (.istore 5, 2) := by decide +kernel
theorem dX5_nearestCouple_22 : decode cX5_nearestCouple 22 = .ok (.iload 5, 2) := by decide +kernel
theorem dX5_nearestCouple_24 : decode cX5_nearestCouple 24 = .ok (.aload_n 1, 1) := by decide +kernel
theorem dX5_nearestCouple_25 : decode cX5_nearestCouple 25 = .ok (.getfield 15, 3) := by decide +kernel
theorem dX5_nearestCouple_28 : decode cX5_nearestCouple 28 = .ok (.if_icmp .ge 38, 3) := by decide +kernel
theorem dX5_nearestCouple_31 : decode cX5_nearestCouple 31 = .ok (.aload_n 0, 1) := by decide +kernel
theorem dX5_nearestCouple_32 : decode cX5_nearestCouple 32 = .ok (.aload_n 1, 1) := by decide +kernel
theorem dX5_nearestCouple_33 : decode cX5_nearestCouple 33 = .ok (.iload 4, 2) := by decide +kernel
theorem dX5_nearestCouple_35 : decode cX5_nearestCouple 35 = .ok (.iload 5, 2) := by decide +kernel
theorem dX5_nearestCouple_37 : decode cX5_nearestCouple 37 = .ok (.invokevirtual 37, 3) := by decide +kernel
theorem dX5_nearestCouple_40 : decode cX5_nearestCouple 40 = .ok (.istore 6, 2) := by decide +kernel
theorem dX5_nearestCouple_42 : decode cX5_nearestCouple 42 = .ok (.iload 6, 2) := by decide +kernel
theorem dX5_nearestCouple_44 : decode cX5_nearestCouple 44 = .ok (.iload_n 2, 1) := by decide +kernel
theorem dX5_nearestCouple_45 : decode cX5_nearestCouple 45 = .ok (.if_icmp .le 15, 3) := by decide +kernel
theorem dX5_nearestCouple_48 : decode cX5_nearestCouple 48 = .ok (.iload 6, 2) := by decide +kernel
theorem dX5_nearestCouple_50 : decode cX5_nearestCouple 50 = .ok (.istore_n 2, 1) := by decide +kernel
theorem dX5_nearestCouple_51 : decode cX5_nearestCouple 51 = .ok (.iload 4, 2) := by decide +kernel
theorem dX5_nearestCouple_53 : decode cX5_nearestCouple 53 = .ok (.bipush 10, 2) := by decide +kernel
theorem dX5_nearestCouple_55 : decode cX5_nearestCouple 55 = .ok (.imul, 1) := by decide +kernel
theorem dX5_nearestCouple_56 : decode cX5_nearestCouple 56 = .ok (.iload 5, 2) := by decide +kernel
theorem dX5_nearestCouple_58 : decode cX5_nearestCouple 58 = .ok (.iadd, 1) := by decide +kernel
theorem dX5_nearestCouple_59 : decode cX5_nearestCouple 59 = .ok (.istore_n 3, 1) := by decide +kernel
theorem dX5_nearestCouple_60 : decode cX5_nearestCouple 60 = .ok (.iinc 5 1, 3) := by decide +kernel
theorem dX5_nearestCouple_63 : decode cX5_nearestCouple 63 = .ok (.goto (-41), 3) := by decide +kernel
theorem dX5_nearestCouple_66 : decode cX5_nearestCouple 66 = .ok (.iinc 4 1, 3) := by decide +kernel
theorem dX5_nearestCouple_69 : decode cX5_nearestCouple 69 = .ok (.goto (-62), 3) := by decide +kernel
theorem dX5_nearestCouple_72 : decode cX5_nearestCouple 72 = .ok (.iload_n 3, 1) := by decide +kernel
theorem dX5_nearestCouple_73 : decode cX5_nearestCouple 73 = .ok (.ireturn, 1) := by decide +kernel
theorem dX5_tour_0 : decode cX5_tour 0 = .ok (.iconst 1, 1) := by decide +kernel
theorem dX5_tour_1 : decode cX5_tour 1 = .ok (.aload_n 1, 1) := by decide +kernel
theorem dX5_tour_2 : decode cX5_tour 2 = .ok (.getfield 15, 3) := by decide +kernel
theorem dX5_tour_5 : decode cX5_tour 5 = .ok (.ishl, 1) := by decide +kernel
theorem dX5_tour_6 : decode cX5_tour 6 = .ok (.istore_n 2, 1) := by decide +kernel
theorem dX5_tour_7 : decode cX5_tour 7 = .ok (.aload_n 0, 1) := by decide +kernel
theorem dX5_tour_8 : decode cX5_tour 8 = .ok (.getfield 9, 3) := by decide +kernel
theorem dX5_tour_11 : decode cX5_tour 11 = .ok (.ldc 41, 2) := by decide +kernel
theorem dX5_tour_13 : decode cX5_tour 13 = .ok (.invokestatic 42, 3) := by decide +kernel
theorem dX5_tour_16 : decode cX5_tour 16 = .ok (.aload_n 0, 1) := by decide +kernel
theorem dX5_tour_17 : decode cX5_tour 17 = .ok (.getfield 9, 3) := by decide +kernel
theorem dX5_tour_20 : decode cX5_tour 20 = .ok (.bipush 8, 2) := by decide +kernel
theorem dX5_tour_22 : decode cX5_tour 22 = .ok (.iconst 0, 1) := by decide +kernel
theorem dX5_tour_23 : decode cX5_tour 23 = .ok (.iastore, 1) := by decide +kernel
theorem dX5_tour_24 : decode cX5_tour 24 = .ok (.iconst 1, 1) := by decide +kernel
theorem dX5_tour_25 : decode cX5_tour 25 = .ok (.istore_n 3, 1) := by decide +kernel
theorem dX5_tour_26 : decode cX5_tour 26 = .ok (.iload_n 3, 1) := by decide +kernel
theorem dX5_tour_27 : decode cX5_tour 27 = .ok (.iload_n 2, 1) := by decide +kernel
theorem dX5_tour_28 : decode cX5_tour 28 = .ok (.if_icmp .ge 52, 3) := by decide +kernel
theorem dX5_tour_31 : decode cX5_tour 31 = .ok (.iconst 0, 1) := by decide +kernel
theorem dX5_tour_32 : decode cX5_tour 32 = .ok (.istore 4, 2) := by decide +kernel
theorem dX5_tour_34 : decode cX5_tour 34 = .ok (.iload 4, 2) := by decide +kernel
theorem dX5_tour_36 : decode cX5_tour 36 = .ok (.aload_n 1, 1) := by decide +kernel
theorem dX5_tour_37 : decode cX5_tour 37 = .ok (.getfield 15, 3) := by decide +kernel
theorem dX5_tour_40 : decode cX5_tour 40 = .ok (.if_icmp .ge 34, 3) := by decide +kernel
theorem dX5_tour_43 : decode cX5_tour 43 = .ok (.aload_n 0, 1) := by decide +kernel
theorem dX5_tour_44 : decode cX5_tour 44 = .ok (.getfield 9, 3) := by decide +kernel
theorem dX5_tour_47 : decode cX5_tour 47 = .ok (.iload_n 3, 1) := by decide +kernel
theorem dX5_tour_48 : decode cX5_tour 48 = .ok (.bipush 8, 2) := by decide +kernel
theorem dX5_tour_50 : decode cX5_tour 50 = .ok (.imul, 1) := by decide +kernel
theorem dX5_tour_51 : decode cX5_tour 51 = .ok (.iload 4, 2) := by decide +kernel
theorem dX5_tour_53 : decode cX5_tour 53 = .ok (.iadd, 1) := by decide +kernel
theorem dX5_tour_54 : decode cX5_tour 54 = .ok (.iaload, 1) := by decide +kernel
theorem dX5_tour_55 : decode cX5_tour 55 = .ok (.ldc 41, 2) := by decide +kernel
theorem dX5_tour_57 : decode cX5_tour 57 = .ok (.if_icmp .ge 11, 3) := by decide +kernel
theorem dX5_tour_60 : decode cX5_tour 60 = .ok (.aload_n 0, 1) := by decide +kernel
theorem dX5_tour_61 : decode cX5_tour 61 = .ok (.aload_n 1, 1) := by decide +kernel
theorem dX5_tour_62 : decode cX5_tour 62 = .ok (.iload_n 3, 1) := by decide +kernel
theorem dX5_tour_63 : decode cX5_tour 63 = .ok (.iload 4, 2) := by decide +kernel
theorem dX5_tour_65 : decode cX5_tour 65 = .ok (.invokevirtual 48, 3) := by decide +kernel
theorem dX5_tour_68 : decode cX5_tour 68 = .ok (.iinc 4 1, 3) := by decide +kernel
theorem dX5_tour_71 : decode cX5_tour 71 = .ok (.goto (-37), 3) := by decide +kernel
theorem dX5_tour_74 : decode cX5_tour 74 = .ok (.iinc 3 2, 3) := by decide +kernel
theorem dX5_tour_77 : decode cX5_tour 77 = .ok (.goto (-51), 3) := by decide +kernel
theorem dX5_tour_80 : decode cX5_tour 80 = .ok (.ldc 41, 2) := by decide +kernel
theorem dX5_tour_82 : decode cX5_tour 82 = .ok (.istore_n 3, 1) := by decide +kernel
theorem dX5_tour_83 : decode cX5_tour 83 = .ok (.iconst 0, 1) := by decide +kernel
theorem dX5_tour_84 : decode cX5_tour 84 = .ok (.istore 4, 2) := by decide +kernel
theorem dX5_tour_86 : decode cX5_tour 86 = .ok (.iload 4, 2) := by decide +kernel
theorem dX5_tour_88 : decode cX5_tour 88 = .ok (.aload_n 1, 1) := by decide +kernel
theorem dX5_tour_89 : decode cX5_tour 89 = .ok (.getfield 15, 3) := by decide +kernel
theorem dX5_tour_92 : decode cX5_tour 92 = .ok (.if_icmp .ge 39, 3) := by decide +kernel
theorem dX5_tour_95 : decode cX5_tour 95 = .ok (.iload_n 3, 1) := by decide +kernel
theorem dX5_tour_96 : decode cX5_tour 96 = .ok (.aload_n 0, 1) := by decide +kernel
theorem dX5_tour_97 : decode cX5_tour 97 = .ok (.getfield 9, 3) := by decide +kernel
theorem dX5_tour_100 : decode cX5_tour 100 = .ok (.iload_n 2, 1) := by decide +kernel
theorem dX5_tour_101 : decode cX5_tour 101 = .ok (.iconst 1, 1) := by decide +kernel
theorem dX5_tour_102 : decode cX5_tour 102 = .ok (.isub, 1) := by decide +kernel
theorem dX5_tour_103 : decode cX5_tour 103 = .ok (.bipush 8, 2) := by decide +kernel
theorem dX5_tour_105 : decode cX5_tour 105 = .ok (.imul, 1) := by decide +kernel
theorem dX5_tour_106 : decode cX5_tour 106 = .ok (.iload 4, 2) := by decide +kernel
theorem dX5_tour_108 : decode cX5_tour 108 = .ok (.iadd, 1) := by decide +kernel
theorem dX5_tour_109 : decode cX5_tour 109 = .ok (.iaload, 1) := by decide +kernel
theorem dX5_tour_110 : decode cX5_tour 110 = .ok (.aload_n 1, 1) := by decide +kernel
theorem dX5_tour_111 : decode cX5_tour 111 = .ok (.getfield 52, 3) := by decide +kernel
theorem dX5_tour_114 : decode cX5_tour 114 = .ok (.iload 4, 2) := by decide +kernel
theorem dX5_tour_116 : decode cX5_tour 116 = .ok (.bipush 8, 2) := by decide +kernel
theorem dX5_tour_118 : decode cX5_tour 118 = .ok (.imul, 1) := by decide +kernel
theorem dX5_tour_119 : decode cX5_tour 119 = .ok (.iaload, 1) := by decide +kernel
theorem dX5_tour_120 : decode cX5_tour 120 = .ok (.iadd, 1) := by decide +kernel
theorem dX5_tour_121 : decode cX5_tour 121 = .ok (.invokestatic 55, 3) := by decide +kernel
theorem dX5_tour_124 : decode cX5_tour 124 = .ok (.istore_n 3, 1) := by decide +kernel
theorem dX5_tour_125 : decode cX5_tour 125 = .ok (.iinc 4 1, 3) := by decide +kernel
theorem dX5_tour_128 : decode cX5_tour 128 = .ok (.goto (-42), 3) := by decide +kernel
theorem dX5_tour_131 : decode cX5_tour 131 = .ok (.iload_n 3, 1) := by decide +kernel
theorem dX5_tour_132 : decode cX5_tour 132 = .ok (.ldc 41, 2) := by decide +kernel
theorem dX5_tour_134 : decode cX5_tour 134 = .ok (.if_icmp .lt 7, 3) := by decide +kernel
theorem dX5_tour_137 : decode cX5_tour 137 = .ok (.iconst (-1), 1) := by decide +kernel
theorem dX5_tour_138 : decode cX5_tour 138 = .ok (.goto 4, 3) := by decide +kernel
theorem dX5_tour_141 : decode cX5_tour 141 = .ok (.iload_n 3, 1) := by decide +kernel
theorem dX5_tour_142 : decode cX5_tour 142 = .ok (.ireturn, 1) := by decide +kernel
theorem dX5_goOn_0 : decode cX5_goOn 0 = .ok (.aload_n 0, 1) := by decide +kernel
theorem dX5_goOn_1 : decode cX5_goOn 1 = .ok (.getfield 9, 3) := by decide +kernel
theorem dX5_goOn_4 : decode cX5_goOn 4 = .ok (.iload_n 2, 1) := by decide +kernel
theorem dX5_goOn_5 : decode cX5_goOn 5 = .ok (.bipush 8, 2) := by decide +kernel
theorem dX5_goOn_7 : decode cX5_goOn 7 = .ok (.imul, 1) := by decide +kernel
theorem dX5_goOn_8 : decode cX5_goOn 8 = .ok (.iload_n 3, 1) := by decide +kernel
theorem dX5_goOn_9 : decode cX5_goOn 9 = .ok (.iadd, 1) := by decide +kernel
theorem dX5_goOn_10 : decode cX5_goOn 10 = .ok (.iaload, 1) := by decide +kernel
theorem dX5_goOn_11 : decode cX5_goOn 11 = .ok (.istore 4, 2) := by decide +kernel
theorem dX5_goOn_13 : decode cX5_goOn 13 = .ok (.iconst 0, 1) := by decide +kernel
theorem dX5_goOn_14 : decode cX5_goOn 14 = .ok (.istore 5, 2) := by decide +kernel
theorem dX5_goOn_16 : decode cX5_goOn 16 = .ok (.iload 5, 2) := by decide +kernel
theorem dX5_goOn_18 : decode cX5_goOn 18 = .ok (.aload_n 1, 1) := by decide +kernel
theorem dX5_goOn_19 : decode cX5_goOn 19 = .ok (.getfield 15, 3) := by decide +kernel
theorem dX5_goOn_22 : decode cX5_goOn 22 = .ok (.if_icmp .ge 64, 3) := by decide +kernel
theorem dX5_goOn_25 : decode cX5_goOn 25 = .ok (.iload_n 2, 1) := by decide +kernel
theorem dX5_goOn_26 : decode cX5_goOn 26 = .ok (.iload 5, 2) := by decide +kernel
theorem dX5_goOn_28 : decode cX5_goOn 28 = .ok (.ishr, 1) := by decide +kernel
theorem dX5_goOn_29 : decode cX5_goOn 29 = .ok (.iconst 1, 1) := by decide +kernel
theorem dX5_goOn_30 : decode cX5_goOn 30 = .ok (.iand, 1) := by decide +kernel
theorem dX5_goOn_31 : decode cX5_goOn 31 = .ok (.ifCond .ne 49, 3) := by decide +kernel
theorem dX5_goOn_34 : decode cX5_goOn 34 = .ok (.iload_n 2, 1) := by decide +kernel
theorem dX5_goOn_35 : decode cX5_goOn 35 = .ok (.iconst 1, 1) := by decide +kernel
theorem dX5_goOn_36 : decode cX5_goOn 36 = .ok (.iload 5, 2) := by decide +kernel
theorem dX5_goOn_38 : decode cX5_goOn 38 = .ok (.ishl, 1) := by decide +kernel
theorem dX5_goOn_39 : decode cX5_goOn 39 = .ok (.ior, 1) := by decide +kernel
theorem dX5_goOn_40 : decode cX5_goOn 40 = .ok (.bipush 8, 2) := by decide +kernel
theorem dX5_goOn_42 : decode cX5_goOn 42 = .ok (.imul, 1) := by decide +kernel
theorem dX5_goOn_43 : decode cX5_goOn 43 = .ok (.iload 5, 2) := by decide +kernel
theorem dX5_goOn_45 : decode cX5_goOn 45 = .ok (.iadd, 1) := by decide +kernel
theorem dX5_goOn_46 : decode cX5_goOn 46 = .ok (.istore 6, 2) := by decide +kernel
theorem dX5_goOn_48 : decode cX5_goOn 48 = .ok (.aload_n 0, 1) := by decide +kernel
theorem dX5_goOn_49 : decode cX5_goOn 49 = .ok (.getfield 9, 3) := by decide +kernel
theorem dX5_goOn_52 : decode cX5_goOn 52 = .ok (.iload 6, 2) := by decide +kernel
theorem dX5_goOn_54 : decode cX5_goOn 54 = .ok (.aload_n 0, 1) := by decide +kernel
theorem dX5_goOn_55 : decode cX5_goOn 55 = .ok (.getfield 9, 3) := by decide +kernel
theorem dX5_goOn_58 : decode cX5_goOn 58 = .ok (.iload 6, 2) := by decide +kernel
theorem dX5_goOn_60 : decode cX5_goOn 60 = .ok (.iaload, 1) := by decide +kernel
theorem dX5_goOn_61 : decode cX5_goOn 61 = .ok (.iload 4, 2) := by decide +kernel
theorem dX5_goOn_63 : decode cX5_goOn 63 = .ok (.aload_n 1, 1) := by decide +kernel
theorem dX5_goOn_64 : decode cX5_goOn 64 = .ok (.getfield 52, 3) := by decide +kernel
theorem dX5_goOn_67 : decode cX5_goOn 67 = .ok (.iload_n 3, 1) := by decide +kernel
theorem dX5_goOn_68 : decode cX5_goOn 68 = .ok (.bipush 8, 2) := by decide +kernel
theorem dX5_goOn_70 : decode cX5_goOn 70 = .ok (.imul, 1) := by decide +kernel
theorem dX5_goOn_71 : decode cX5_goOn 71 = .ok (.iload 5, 2) := by decide +kernel
theorem dX5_goOn_73 : decode cX5_goOn 73 = .ok (.iadd, 1) := by decide +kernel
theorem dX5_goOn_74 : decode cX5_goOn 74 = .ok (.iaload, 1) := by decide +kernel
theorem dX5_goOn_75 : decode cX5_goOn 75 = .ok (.iadd, 1) := by decide +kernel
theorem dX5_goOn_76 : decode cX5_goOn 76 = .ok (.invokestatic 55, 3) := by decide +kernel
theorem dX5_goOn_79 : decode cX5_goOn 79 = .ok (.iastore, 1) := by decide +kernel
theorem dX5_goOn_80 : decode cX5_goOn 80 = .ok (.iinc 5 1, 3) := by decide +kernel
theorem dX5_goOn_83 : decode cX5_goOn 83 = .ok (.goto (-67), 3) := by decide +kernel
theorem dX5_goOn_86 : decode cX5_goOn 86 = .ok (.return_, 1) := by decide +kernel
theorem dX5_meeting_0 : decode cX5_meeting 0 = .ok (.ldc 41, 2) := by decide +kernel
theorem dX5_meeting_2 : decode cX5_meeting 2 = .ok (.istore 4, 2) := by decide +kernel
theorem dX5_meeting_4 : decode cX5_meeting 4 = .ok (.iconst (-1), 1) := by decide +kernel
theorem dX5_meeting_5 : decode cX5_meeting 5 = .ok (.istore 5, 2) := by decide +kernel
theorem dX5_meeting_7 : decode cX5_meeting 7 = .ok (.iconst 0, 1) := by decide +kernel
theorem dX5_meeting_8 : decode cX5_meeting 8 = .ok (.istore 6, 2) := by decide +kernel
theorem dX5_meeting_10 : decode cX5_meeting 10 = .ok (.iload 6, 2) := by decide +kernel
theorem dX5_meeting_12 : decode cX5_meeting 12 = .ok (.aload_n 1, 1) := by decide +kernel
theorem dX5_meeting_13 : decode cX5_meeting 13 = .ok (.getfield 15, 3) := by decide +kernel
theorem dX5_meeting_16 : decode cX5_meeting 16 = .ok (.if_icmp .ge 68, 3) := by decide +kernel
theorem dX5_meeting_19 : decode cX5_meeting 19 = .ok (.iconst 0, 1) := by decide +kernel
theorem dX5_meeting_20 : decode cX5_meeting 20 = .ok (.istore 7, 2) := by decide +kernel
theorem dX5_meeting_22 : decode cX5_meeting 22 = .ok (.iconst 0, 1) := by decide +kernel
theorem dX5_meeting_23 : decode cX5_meeting 23 = .ok (.istore 8, 2) := by decide +kernel
theorem dX5_meeting_25 : decode cX5_meeting 25 = .ok (.iload 8, 2) := by decide +kernel
theorem dX5_meeting_27 : decode cX5_meeting 27 = .ok (.aload_n 1, 1) := by decide +kernel
theorem dX5_meeting_28 : decode cX5_meeting 28 = .ok (.getfield 58, 3) := by decide +kernel
theorem dX5_meeting_31 : decode cX5_meeting 31 = .ok (.if_icmp .ge 32, 3) := by decide +kernel
theorem dX5_meeting_34 : decode cX5_meeting 34 = .ok (.iload 7, 2) := by decide +kernel
theorem dX5_meeting_36 : decode cX5_meeting 36 = .ok (.aload_n 1, 1) := by decide +kernel
theorem dX5_meeting_37 : decode cX5_meeting 37 = .ok (.getfield 52, 3) := by decide +kernel
theorem dX5_meeting_40 : decode cX5_meeting 40 = .ok (.aload_n 1, 1) := by decide +kernel
theorem dX5_meeting_41 : decode cX5_meeting 41 = .ok (.aload_n 2, 1) := by decide +kernel
theorem dX5_meeting_42 : decode cX5_meeting 42 = .ok (.iload 8, 2) := by decide +kernel
theorem dX5_meeting_44 : decode cX5_meeting 44 = .ok (.invokevirtual 61, 3) := by decide +kernel
theorem dX5_meeting_47 : decode cX5_meeting 47 = .ok (.bipush 8, 2) := by decide +kernel
theorem dX5_meeting_49 : decode cX5_meeting 49 = .ok (.imul, 1) := by decide +kernel
theorem dX5_meeting_50 : decode cX5_meeting 50 = .ok (.iload 6, 2) := by decide +kernel
theorem dX5_meeting_52 : decode cX5_meeting 52 = .ok (.iadd, 1) := by decide +kernel
theorem dX5_meeting_53 : decode cX5_meeting 53 = .ok (.iaload, 1) := by decide +kernel
theorem dX5_meeting_54 : decode cX5_meeting 54 = .ok (.iadd, 1) := by decide +kernel
theorem dX5_meeting_55 : decode cX5_meeting 55 = .ok (.istore 7, 2) := by decide +kernel
theorem dX5_meeting_57 : decode cX5_meeting 57 = .ok (.iinc 8 1, 3) := by decide +kernel
theorem dX5_meeting_60 : decode cX5_meeting 60 = .ok (.goto (-35), 3) := by decide +kernel
theorem dX5_meeting_63 : decode cX5_meeting 63 = .ok (.iload 7, 2) := by decide +kernel
theorem dX5_meeting_65 : decode cX5_meeting 65 = .ok (.iload 4, 2) := by decide +kernel
theorem dX5_meeting_67 : decode cX5_meeting 67 = .ok (.if_icmp .ge 11, 3) := by decide +kernel
theorem dX5_meeting_70 : decode cX5_meeting 70 = .ok (.iload 7, 2) := by decide +kernel
theorem dX5_meeting_72 : decode cX5_meeting 72 = .ok (.istore 4, 2) := by decide +kernel
theorem dX5_meeting_74 : decode cX5_meeting 74 = .ok (.iload 6, 2) := by decide +kernel
theorem dX5_meeting_76 : decode cX5_meeting 76 = .ok (.istore 5, 2) := by decide +kernel
theorem dX5_meeting_78 : decode cX5_meeting 78 = .ok (.iinc 6 1, 3) := by decide +kernel
theorem dX5_meeting_81 : decode cX5_meeting 81 = .ok (.goto (-71), 3) := by decide +kernel
theorem dX5_meeting_84 : decode cX5_meeting 84 = .ok (.iload_n 3, 1) := by decide +kernel
theorem dX5_meeting_85 : decode cX5_meeting 85 = .ok (.ifCond .ne 9, 3) := by decide +kernel
theorem dX5_meeting_88 : decode cX5_meeting 88 = .ok (.iload 5, 2) := by decide +kernel
theorem dX5_meeting_90 : decode cX5_meeting 90 = .ok (.iconst (-1), 1) := by decide +kernel
theorem dX5_meeting_91 : decode cX5_meeting 91 = .ok (.if_icmp .ne 8, 3) := by decide +kernel
theorem dX5_meeting_94 : decode cX5_meeting 94 = .ok (.iload 5, 2) := by decide +kernel
theorem dX5_meeting_96 : decode cX5_meeting 96 = .ok (.goto 5, 3) := by decide +kernel
theorem dX5_meeting_99 : decode cX5_meeting 99 = .ok (.iload 4, 2) := by decide +kernel
theorem dX5_meeting_101 : decode cX5_meeting 101 = .ok (.ireturn, 1) := by decide +kernel
theorem dX5_share_0 : decode cX5_share 0 = .ok (.iconst 1, 1) := by decide +kernel
theorem dX5_share_1 : decode cX5_share 1 = .ok (.aload_n 1, 1) := by decide +kernel
theorem dX5_share_2 : decode cX5_share 2 = .ok (.getfield 15, 3) := by decide +kernel
theorem dX5_share_5 : decode cX5_share 5 = .ok (.ishl, 1) := by decide +kernel
theorem dX5_share_6 : decode cX5_share 6 = .ok (.istore_n 3, 1) := by decide +kernel
theorem dX5_share_7 : decode cX5_share 7 = .ok (.iconst 0, 1) := by decide +kernel
theorem dX5_share_8 : decode cX5_share 8 = .ok (.istore 4, 2) := by decide +kernel
theorem dX5_share_10 : decode cX5_share 10 = .ok (.iload 4, 2) := by decide +kernel
theorem dX5_share_12 : decode cX5_share 12 = .ok (.iload_n 3, 1) := by decide +kernel
theorem dX5_share_13 : decode cX5_share 13 = .ok (.if_icmp .ge 70, 3) := by decide +kernel
theorem dX5_share_16 : decode cX5_share 16 = .ok (.iconst 0, 1) := by decide +kernel
theorem dX5_share_17 : decode cX5_share 17 = .ok (.istore 5, 2) := by decide +kernel
theorem dX5_share_19 : decode cX5_share 19 = .ok (.iconst 0, 1) := by decide +kernel
theorem dX5_share_20 : decode cX5_share 20 = .ok (.istore 6, 2) := by decide +kernel
theorem dX5_share_22 : decode cX5_share 22 = .ok (.iload 6, 2) := by decide +kernel
theorem dX5_share_24 : decode cX5_share 24 = .ok (.aload_n 1, 1) := by decide +kernel
theorem dX5_share_25 : decode cX5_share 25 = .ok (.getfield 15, 3) := by decide +kernel
theorem dX5_share_28 : decode cX5_share 28 = .ok (.if_icmp .ge 29, 3) := by decide +kernel
theorem dX5_share_31 : decode cX5_share 31 = .ok (.iload 5, 2) := by decide +kernel
theorem dX5_share_33 : decode cX5_share 33 = .ok (.iload 4, 2) := by decide +kernel
theorem dX5_share_35 : decode cX5_share 35 = .ok (.iload 6, 2) := by decide +kernel
theorem dX5_share_37 : decode cX5_share 37 = .ok (.ishr, 1) := by decide +kernel
theorem dX5_share_38 : decode cX5_share 38 = .ok (.iconst 1, 1) := by decide +kernel
theorem dX5_share_39 : decode cX5_share 39 = .ok (.iand, 1) := by decide +kernel
theorem dX5_share_40 : decode cX5_share 40 = .ok (.aload_n 1, 1) := by decide +kernel
theorem dX5_share_41 : decode cX5_share 41 = .ok (.getfield 65, 3) := by decide +kernel
theorem dX5_share_44 : decode cX5_share 44 = .ok (.iload 6, 2) := by decide +kernel
theorem dX5_share_46 : decode cX5_share 46 = .ok (.iaload, 1) := by decide +kernel
theorem dX5_share_47 : decode cX5_share 47 = .ok (.imul, 1) := by decide +kernel
theorem dX5_share_48 : decode cX5_share 48 = .ok (.iadd, 1) := by decide +kernel
theorem dX5_share_49 : decode cX5_share 49 = .ok (.istore 5, 2) := by decide +kernel
theorem dX5_share_51 : decode cX5_share 51 = .ok (.iinc 6 1, 3) := by decide +kernel
theorem dX5_share_54 : decode cX5_share 54 = .ok (.goto (-32), 3) := by decide +kernel
theorem dX5_share_57 : decode cX5_share 57 = .ok (.aload_n 0, 1) := by decide +kernel
theorem dX5_share_58 : decode cX5_share 58 = .ok (.getfield 9, 3) := by decide +kernel
theorem dX5_share_61 : decode cX5_share 61 = .ok (.iload 4, 2) := by decide +kernel
theorem dX5_share_63 : decode cX5_share 63 = .ok (.iload 5, 2) := by decide +kernel
theorem dX5_share_65 : decode cX5_share 65 = .ok (.iastore, 1) := by decide +kernel
theorem dX5_share_66 : decode cX5_share 66 = .ok (.aload_n 0, 1) := by decide +kernel
theorem dX5_share_67 : decode cX5_share 67 = .ok (.getfield 9, 3) := by decide +kernel
theorem dX5_share_70 : decode cX5_share 70 = .ok (.iload_n 3, 1) := by decide +kernel
theorem dX5_share_71 : decode cX5_share 71 = .ok (.iload 4, 2) := by decide +kernel
theorem dX5_share_73 : decode cX5_share 73 = .ok (.iadd, 1) := by decide +kernel
theorem dX5_share_74 : decode cX5_share 74 = .ok (.iload 5, 2) := by decide +kernel
theorem dX5_share_76 : decode cX5_share 76 = .ok (.iastore, 1) := by decide +kernel
theorem dX5_share_77 : decode cX5_share 77 = .ok (.iinc 4 1, 3) := by decide +kernel
theorem dX5_share_80 : decode cX5_share 80 = .ok (.goto (-70), 3) := by decide +kernel
theorem dX5_share_83 : decode cX5_share 83 = .ok (.iconst 1, 1) := by decide +kernel
theorem dX5_share_84 : decode cX5_share 84 = .ok (.istore 4, 2) := by decide +kernel
theorem dX5_share_86 : decode cX5_share 86 = .ok (.iload 4, 2) := by decide +kernel
theorem dX5_share_88 : decode cX5_share 88 = .ok (.iload_n 2, 1) := by decide +kernel
theorem dX5_share_89 : decode cX5_share 89 = .ok (.if_icmp .ge 87, 3) := by decide +kernel
theorem dX5_share_92 : decode cX5_share 92 = .ok (.iload_n 3, 1) := by decide +kernel
theorem dX5_share_93 : decode cX5_share 93 = .ok (.iconst 1, 1) := by decide +kernel
theorem dX5_share_94 : decode cX5_share 94 = .ok (.isub, 1) := by decide +kernel
theorem dX5_share_95 : decode cX5_share 95 = .ok (.istore 5, 2) := by decide +kernel
theorem dX5_share_97 : decode cX5_share 97 = .ok (.iload 5, 2) := by decide +kernel
theorem dX5_share_99 : decode cX5_share 99 = .ok (.ifCond .le 71, 3) := by decide +kernel
theorem dX5_share_102 : decode cX5_share 102 = .ok (.iload 5, 2) := by decide +kernel
theorem dX5_share_104 : decode cX5_share 104 = .ok (.istore 6, 2) := by decide +kernel
theorem dX5_share_106 : decode cX5_share 106 = .ok (.iload 6, 2) := by decide +kernel
theorem dX5_share_108 : decode cX5_share 108 = .ok (.ifCond .le 56, 3) := by decide +kernel
theorem dX5_share_111 : decode cX5_share 111 = .ok (.aload_n 0, 1) := by decide +kernel
theorem dX5_share_112 : decode cX5_share 112 = .ok (.getfield 9, 3) := by decide +kernel
theorem dX5_share_115 : decode cX5_share 115 = .ok (.iload 5, 2) := by decide +kernel
theorem dX5_share_117 : decode cX5_share 117 = .ok (.aload_n 0, 1) := by decide +kernel
theorem dX5_share_118 : decode cX5_share 118 = .ok (.getfield 9, 3) := by decide +kernel
theorem dX5_share_121 : decode cX5_share 121 = .ok (.iload 5, 2) := by decide +kernel
theorem dX5_share_123 : decode cX5_share 123 = .ok (.iaload, 1) := by decide +kernel
theorem dX5_share_124 : decode cX5_share 124 = .ok (.aload_n 0, 1) := by decide +kernel
theorem dX5_share_125 : decode cX5_share 125 = .ok (.getfield 9, 3) := by decide +kernel
theorem dX5_share_128 : decode cX5_share 128 = .ok (.iload_n 3, 1) := by decide +kernel
theorem dX5_share_129 : decode cX5_share 129 = .ok (.iload 6, 2) := by decide +kernel
theorem dX5_share_131 : decode cX5_share 131 = .ok (.iadd, 1) := by decide +kernel
theorem dX5_share_132 : decode cX5_share 132 = .ok (.iaload, 1) := by decide +kernel
theorem dX5_share_133 : decode cX5_share 133 = .ok (.aload_n 0, 1) := by decide +kernel
theorem dX5_share_134 : decode cX5_share 134 = .ok (.getfield 9, 3) := by decide +kernel
theorem dX5_share_137 : decode cX5_share 137 = .ok (.iload 5, 2) := by decide +kernel
theorem dX5_share_139 : decode cX5_share 139 = .ok (.iload 6, 2) := by decide +kernel
theorem dX5_share_141 : decode cX5_share 141 = .ok (.iconst (-1), 1) := by decide +kernel
theorem dX5_share_142 : decode cX5_share 142 = .ok (.ixor, 1) := by decide +kernel
theorem dX5_share_143 : decode cX5_share 143 = .ok (.iand, 1) := by decide +kernel
theorem dX5_share_144 : decode cX5_share 144 = .ok (.iaload, 1) := by decide +kernel
theorem dX5_share_145 : decode cX5_share 145 = .ok (.invokestatic 31, 3) := by decide +kernel
theorem dX5_share_148 : decode cX5_share 148 = .ok (.invokestatic 55, 3) := by decide +kernel
theorem dX5_share_151 : decode cX5_share 151 = .ok (.iastore, 1) := by decide +kernel
theorem dX5_share_152 : decode cX5_share 152 = .ok (.iload 6, 2) := by decide +kernel
theorem dX5_share_154 : decode cX5_share 154 = .ok (.iconst 1, 1) := by decide +kernel
theorem dX5_share_155 : decode cX5_share 155 = .ok (.isub, 1) := by decide +kernel
theorem dX5_share_156 : decode cX5_share 156 = .ok (.iload 5, 2) := by decide +kernel
theorem dX5_share_158 : decode cX5_share 158 = .ok (.iand, 1) := by decide +kernel
theorem dX5_share_159 : decode cX5_share 159 = .ok (.istore 6, 2) := by decide +kernel
theorem dX5_share_161 : decode cX5_share 161 = .ok (.goto (-55), 3) := by decide +kernel
theorem dX5_share_164 : decode cX5_share 164 = .ok (.iinc 5 (-1), 3) := by decide +kernel
theorem dX5_share_167 : decode cX5_share 167 = .ok (.goto (-70), 3) := by decide +kernel
theorem dX5_share_170 : decode cX5_share 170 = .ok (.iinc 4 1, 3) := by decide +kernel
theorem dX5_share_173 : decode cX5_share 173 = .ok (.goto (-87), 3) := by decide +kernel
theorem dX5_share_176 : decode cX5_share 176 = .ok (.aload_n 0, 1) := by decide +kernel
theorem dX5_share_177 : decode cX5_share 177 = .ok (.getfield 9, 3) := by decide +kernel
theorem dX5_share_180 : decode cX5_share 180 = .ok (.iload_n 3, 1) := by decide +kernel
theorem dX5_share_181 : decode cX5_share 181 = .ok (.iconst 1, 1) := by decide +kernel
theorem dX5_share_182 : decode cX5_share 182 = .ok (.isub, 1) := by decide +kernel
theorem dX5_share_183 : decode cX5_share 183 = .ok (.iaload, 1) := by decide +kernel
theorem dX5_share_184 : decode cX5_share 184 = .ok (.ireturn, 1) := by decide +kernel
theorem dX6_init_0 : decode cX6_init 0 = .ok (.aload_n 0, 1) := by decide +kernel
theorem dX6_init_1 : decode cX6_init 1 = .ok (.invokespecial 3, 3) := by decide +kernel
theorem dX6_init_4 : decode cX6_init 4 = .ok (.aload_n 0, 1) := by decide +kernel
theorem dX6_init_5 : decode cX6_init 5 = .ok (.new 9, 3) := by decide +kernel
theorem dX6_init_8 : decode cX6_init 8 = .ok (.dup, 1) := by decide +kernel
theorem dX6_init_9 : decode cX6_init 9 = .ok (.aload_n 1, 1) := by decide +kernel
theorem dX6_init_10 : decode cX6_init 10 = .ok (.invokespecial 11, 3) := by decide +kernel
theorem dX6_init_13 : decode cX6_init 13 = .ok (.putfield 14, 3) := by decide +kernel
theorem dX6_init_16 : decode cX6_init 16 = .ok (.aload_n 0, 1) := by decide +kernel
theorem dX6_init_17 : decode cX6_init 17 = .ok (.new 20, 3) := by decide +kernel
theorem dX6_init_20 : decode cX6_init 20 = .ok (.dup, 1) := by decide +kernel
theorem dX6_init_21 : decode cX6_init 21 = .ok (.aload_n 0, 1) := by decide +kernel
theorem dX6_init_22 : decode cX6_init 22 = .ok (.getfield 14, 3) := by decide +kernel
theorem dX6_init_25 : decode cX6_init 25 = .ok (.invokespecial 22, 3) := by decide +kernel
theorem dX6_init_28 : decode cX6_init 28 = .ok (.putfield 25, 3) := by decide +kernel
theorem dX6_init_31 : decode cX6_init 31 = .ok (.aload_n 0, 1) := by decide +kernel
theorem dX6_init_32 : decode cX6_init 32 = .ok (.aload_n 2, 1) := by decide +kernel
theorem dX6_init_33 : decode cX6_init 33 = .ok (.putfield 29, 3) := by decide +kernel
theorem dX6_init_36 : decode cX6_init 36 = .ok (.return_, 1) := by decide +kernel
theorem dX6_tell_0 : decode cX6_tell 0 = .ok (.aload_n 0, 1) := by decide +kernel
theorem dX6_tell_1 : decode cX6_tell 1 = .ok (.aload_n 2, 1) := by decide +kernel
theorem dX6_tell_2 : decode cX6_tell 2 = .ok (.putfield 29, 3) := by decide +kernel
theorem dX6_tell_5 : decode cX6_tell 5 = .ok (.aload_n 0, 1) := by decide +kernel
theorem dX6_tell_6 : decode cX6_tell 6 = .ok (.getfield 29, 3) := by decide +kernel
theorem dX6_tell_9 : decode cX6_tell 9 = .ok (.invokevirtual 33, 3) := by decide +kernel
theorem dX6_tell_12 : decode cX6_tell 12 = .ok (.aload_n 0, 1) := by decide +kernel
theorem dX6_tell_13 : decode cX6_tell 13 = .ok (.iconst 0, 1) := by decide +kernel
theorem dX6_tell_14 : decode cX6_tell 14 = .ok (.putfield 38, 3) := by decide +kernel
theorem dX6_tell_17 : decode cX6_tell 17 = .ok (.aload_n 0, 1) := by decide +kernel
theorem dX6_tell_18 : decode cX6_tell 18 = .ok (.iconst (-1), 1) := by decide +kernel
theorem dX6_tell_19 : decode cX6_tell 19 = .ok (.putfield 42, 3) := by decide +kernel
theorem dX6_tell_22 : decode cX6_tell 22 = .ok (.aload_n 0, 1) := by decide +kernel
theorem dX6_tell_23 : decode cX6_tell 23 = .ok (.getfield 14, 3) := by decide +kernel
theorem dX6_tell_26 : decode cX6_tell 26 = .ok (.iload_n 1, 1) := by decide +kernel
theorem dX6_tell_27 : decode cX6_tell 27 = .ok (.invokevirtual 45, 3) := by decide +kernel
theorem dX6_tell_30 : decode cX6_tell 30 = .ok (.iconst 0, 1) := by decide +kernel
theorem dX6_tell_31 : decode cX6_tell 31 = .ok (.istore_n 3, 1) := by decide +kernel
theorem dX6_tell_32 : decode cX6_tell 32 = .ok (.iload_n 3, 1) := by decide +kernel
theorem dX6_tell_33 : decode cX6_tell 33 = .ok (.sipush 700, 3) := by decide +kernel
theorem dX6_tell_36 : decode cX6_tell 36 = .ok (.if_icmp .gt 181, 3) := by decide +kernel
theorem dX6_tell_39 : decode cX6_tell 39 = .ok (.aload_n 0, 1) := by decide +kernel
theorem dX6_tell_40 : decode cX6_tell 40 = .ok (.getfield 38, 3) := by decide +kernel
theorem dX6_tell_43 : decode cX6_tell 43 = .ok (.ifCond .ne 174, 3) := by decide +kernel
theorem dX6_tell_46 : decode cX6_tell 46 = .ok (.aload_n 0, 1) := by decide +kernel
theorem dX6_tell_47 : decode cX6_tell 47 = .ok (.getfield 14, 3) := by decide +kernel
theorem dX6_tell_50 : decode cX6_tell 50 = .ok (.getfield 49, 3) := by decide +kernel
theorem dX6_tell_53 : decode cX6_tell 53 = .ok (.ifCond .eq 164, 3) := by decide +kernel
theorem dX6_tell_56 : decode cX6_tell 56 = .ok (.aload_n 0, 1) := by decide +kernel
theorem dX6_tell_57 : decode cX6_tell 57 = .ok (.getfield 14, 3) := by decide +kernel
theorem dX6_tell_60 : decode cX6_tell 60 = .ok (.ldc 52, 2) := by decide +kernel
theorem dX6_tell_62 : decode cX6_tell 62 = .ok (.invokevirtual 54, 3) := by decide +kernel
theorem dX6_tell_65 : decode cX6_tell 65 = .ok (.ifCond .eq 10, 3) := by decide +kernel
theorem dX6_tell_68 : decode cX6_tell 68 = .ok (.aload_n 0, 1) := by decide +kernel
theorem dX6_tell_69 : decode cX6_tell 69 = .ok (.invokevirtual 58, 3) := by decide +kernel
theorem dX6_tell_72 : decode cX6_tell 72 = .ok (.goto 139, 3) := by decide +kernel
theorem dX6_tell_75 : decode cX6_tell 75 = .ok (.aload_n 0, 1) := by decide +kernel
theorem dX6_tell_76 : decode cX6_tell 76 = .ok (.getfield 14, 3) := by decide +kernel
theorem dX6_tell_79 : decode cX6_tell 79 = .ok (.ldc 61, 2) := by decide +kernel
theorem dX6_tell_81 : decode cX6_tell 81 = .ok (.invokevirtual 54, 3) := by decide +kernel
theorem dX6_tell_84 : decode cX6_tell 84 = .ok (.ifCond .eq 10, 3) := by decide +kernel
theorem dX6_tell_87 : decode cX6_tell 87 = .ok (.aload_n 0, 1) := by decide +kernel
theorem dX6_tell_88 : decode cX6_tell 88 = .ok (.invokevirtual 63, 3) := by decide +kernel
theorem dX6_tell_91 : decode cX6_tell 91 = .ok (.goto 120, 3) := by decide +kernel
theorem dX6_tell_94 : decode cX6_tell 94 = .ok (.aload_n 0, 1) := by decide +kernel
theorem dX6_tell_95 : decode cX6_tell 95 = .ok (.getfield 14, 3) := by decide +kernel
theorem dX6_tell_98 : decode cX6_tell 98 = .ok (.ldc 66, 2) := by decide +kernel
theorem dX6_tell_100 : decode cX6_tell 100 = .ok (.invokevirtual 54, 3) := by decide +kernel
theorem dX6_tell_103 : decode cX6_tell 103 = .ok (.ifCond .eq 10, 3) := by decide +kernel
theorem dX6_tell_106 : decode cX6_tell 106 = .ok (.aload_n 0, 1) := by decide +kernel
theorem dX6_tell_107 : decode cX6_tell 107 = .ok (.invokevirtual 68, 3) := by decide +kernel
theorem dX6_tell_110 : decode cX6_tell 110 = .ok (.goto 101, 3) := by decide +kernel
theorem dX6_tell_113 : decode cX6_tell 113 = .ok (.aload_n 0, 1) := by decide +kernel
theorem dX6_tell_114 : decode cX6_tell 114 = .ok (.getfield 14, 3) := by decide +kernel
theorem dX6_tell_117 : decode cX6_tell 117 = .ok (.ldc 71, 2) := by decide +kernel
theorem dX6_tell_119 : decode cX6_tell 119 = .ok (.invokevirtual 54, 3) := by decide +kernel
theorem dX6_tell_122 : decode cX6_tell 122 = .ok (.ifCond .eq 10, 3) := by decide +kernel
theorem dX6_tell_125 : decode cX6_tell 125 = .ok (.aload_n 0, 1) := by decide +kernel
theorem dX6_tell_126 : decode cX6_tell 126 = .ok (.invokevirtual 73, 3) := by decide +kernel
theorem dX6_tell_129 : decode cX6_tell 129 = .ok (.goto 82, 3) := by decide +kernel
theorem dX6_tell_132 : decode cX6_tell 132 = .ok (.aload_n 0, 1) := by decide +kernel
theorem dX6_tell_133 : decode cX6_tell 133 = .ok (.getfield 14, 3) := by decide +kernel
theorem dX6_tell_136 : decode cX6_tell 136 = .ok (.ldc 76, 2) := by decide +kernel
theorem dX6_tell_138 : decode cX6_tell 138 = .ok (.invokevirtual 54, 3) := by decide +kernel
theorem dX6_tell_141 : decode cX6_tell 141 = .ok (.ifCond .eq 10, 3) := by decide +kernel
theorem dX6_tell_144 : decode cX6_tell 144 = .ok (.aload_n 0, 1) := by decide +kernel
theorem dX6_tell_145 : decode cX6_tell 145 = .ok (.invokevirtual 78, 3) := by decide +kernel
theorem dX6_tell_148 : decode cX6_tell 148 = .ok (.goto 63, 3) := by decide +kernel
theorem dX6_tell_151 : decode cX6_tell 151 = .ok (.aload_n 0, 1) := by decide +kernel
theorem dX6_tell_152 : decode cX6_tell 152 = .ok (.getfield 14, 3) := by decide +kernel
theorem dX6_tell_155 : decode cX6_tell 155 = .ok (.ldc 81, 2) := by decide +kernel
theorem dX6_tell_157 : decode cX6_tell 157 = .ok (.invokevirtual 54, 3) := by decide +kernel
theorem dX6_tell_160 : decode cX6_tell 160 = .ok (.ifCond .eq 18, 3) := by decide +kernel
theorem dX6_tell_163 : decode cX6_tell 163 = .ok (.aload_n 0, 1) := by decide +kernel
theorem dX6_tell_164 : decode cX6_tell 164 = .ok (.aload_n 0, 1) := by decide +kernel
theorem dX6_tell_165 : decode cX6_tell 165 = .ok (.getfield 29, 3) := by decide +kernel
theorem dX6_tell_168 : decode cX6_tell 168 = .ok (.getfield 83, 3) := by decide +kernel
theorem dX6_tell_171 : decode cX6_tell 171 = .ok (.iconst 1, 1) := by decide +kernel
theorem dX6_tell_172 : decode cX6_tell 172 = .ok (.invokevirtual 86, 3) := by decide +kernel
theorem dX6_tell_175 : decode cX6_tell 175 = .ok (.goto 36, 3) := by decide +kernel
theorem dX6_tell_178 : decode cX6_tell 178 = .ok (.aload_n 0, 1) := by decide +kernel
theorem dX6_tell_179 : decode cX6_tell 179 = .ok (.getfield 14, 3) := by decide +kernel
theorem dX6_tell_182 : decode cX6_tell 182 = .ok (.ldc 90, 2) := by decide +kernel
theorem dX6_tell_184 : decode cX6_tell 184 = .ok (.invokevirtual 54, 3) := by decide +kernel
theorem dX6_tell_187 : decode cX6_tell 187 = .ok (.ifCond .eq 18, 3) := by decide +kernel
theorem dX6_tell_190 : decode cX6_tell 190 = .ok (.aload_n 0, 1) := by decide +kernel
theorem dX6_tell_191 : decode cX6_tell 191 = .ok (.aload_n 0, 1) := by decide +kernel
theorem dX6_tell_192 : decode cX6_tell 192 = .ok (.getfield 29, 3) := by decide +kernel
theorem dX6_tell_195 : decode cX6_tell 195 = .ok (.getfield 92, 3) := by decide +kernel
theorem dX6_tell_198 : decode cX6_tell 198 = .ok (.iconst 0, 1) := by decide +kernel
theorem dX6_tell_199 : decode cX6_tell 199 = .ok (.invokevirtual 86, 3) := by decide +kernel
theorem dX6_tell_202 : decode cX6_tell 202 = .ok (.goto 9, 3) := by decide +kernel
theorem dX6_tell_205 : decode cX6_tell 205 = .ok (.aload_n 0, 1) := by decide +kernel
theorem dX6_tell_206 : decode cX6_tell 206 = .ok (.iconst 1, 1) := by decide +kernel
theorem dX6_tell_207 : decode cX6_tell 207 = .ok (.invokevirtual 94, 3) := by decide +kernel
theorem dX6_tell_210 : decode cX6_tell 210 = .ok (.pop, 1) := by decide +kernel
theorem dX6_tell_211 : decode cX6_tell 211 = .ok (.iinc 3 1, 3) := by decide +kernel
theorem dX6_tell_214 : decode cX6_tell 214 = .ok (.goto (-182), 3) := by decide +kernel
theorem dX6_tell_217 : decode cX6_tell 217 = .ok (.aload_n 0, 1) := by decide +kernel
theorem dX6_tell_218 : decode cX6_tell 218 = .ok (.getfield 38, 3) := by decide +kernel
theorem dX6_tell_221 : decode cX6_tell 221 = .ok (.ifCond .ne 10, 3) := by decide +kernel
theorem dX6_tell_224 : decode cX6_tell 224 = .ok (.aload_n 0, 1) := by decide +kernel
theorem dX6_tell_225 : decode cX6_tell 225 = .ok (.getfield 29, 3) := by decide +kernel
theorem dX6_tell_228 : decode cX6_tell 228 = .ok (.invokevirtual 98, 3) := by decide +kernel
theorem dX6_tell_231 : decode cX6_tell 231 = .ok (.aload_n 0, 1) := by decide +kernel
theorem dX6_tell_232 : decode cX6_tell 232 = .ok (.getfield 38, 3) := by decide +kernel
theorem dX6_tell_235 : decode cX6_tell 235 = .ok (.ireturn, 1) := by decide +kernel
theorem dX6_refuse_0 : decode cX6_refuse 0 = .ok (.aload_n 0, 1) := by decide +kernel
theorem dX6_refuse_1 : decode cX6_refuse 1 = .ok (.getfield 38, 3) := by decide +kernel
theorem dX6_refuse_4 : decode cX6_refuse 4 = .ok (.ifCond .ne 19, 3) := by decide +kernel
theorem dX6_refuse_7 : decode cX6_refuse 7 = .ok (.aload_n 0, 1) := by decide +kernel
theorem dX6_refuse_8 : decode cX6_refuse 8 = .ok (.iload_n 1, 1) := by decide +kernel
theorem dX6_refuse_9 : decode cX6_refuse 9 = .ok (.putfield 38, 3) := by decide +kernel
theorem dX6_refuse_12 : decode cX6_refuse 12 = .ok (.aload_n 0, 1) := by decide +kernel
theorem dX6_refuse_13 : decode cX6_refuse 13 = .ok (.aload_n 0, 1) := by decide +kernel
theorem dX6_refuse_14 : decode cX6_refuse 14 = .ok (.getfield 14, 3) := by decide +kernel
theorem dX6_refuse_17 : decode cX6_refuse 17 = .ok (.getfield 101, 3) := by decide +kernel
theorem dX6_refuse_20 : decode cX6_refuse 20 = .ok (.putfield 42, 3) := by decide +kernel
theorem dX6_refuse_23 : decode cX6_refuse 23 = .ok (.iconst 0, 1) := by decide +kernel
theorem dX6_refuse_24 : decode cX6_refuse 24 = .ok (.ireturn, 1) := by decide +kernel
theorem dX6_pass_0 : decode cX6_pass 0 = .ok (.aload_n 0, 1) := by decide +kernel
theorem dX6_pass_1 : decode cX6_pass 1 = .ok (.getfield 38, 3) := by decide +kernel
theorem dX6_pass_4 : decode cX6_pass 4 = .ok (.ifCond .ne 10, 3) := by decide +kernel
theorem dX6_pass_7 : decode cX6_pass 7 = .ok (.aload_n 0, 1) := by decide +kernel
theorem dX6_pass_8 : decode cX6_pass 8 = .ok (.getfield 14, 3) := by decide +kernel
theorem dX6_pass_11 : decode cX6_pass 11 = .ok (.invokevirtual 104, 3) := by decide +kernel
theorem dX6_pass_14 : decode cX6_pass 14 = .ok (.return_, 1) := by decide +kernel
theorem dX6_passEnd_0 : decode cX6_passEnd 0 = .ok (.aload_n 0, 1) := by decide +kernel
theorem dX6_passEnd_1 : decode cX6_passEnd 1 = .ok (.getfield 38, 3) := by decide +kernel
theorem dX6_passEnd_4 : decode cX6_passEnd 4 = .ok (.ifCond .ne 21, 3) := by decide +kernel
theorem dX6_passEnd_7 : decode cX6_passEnd 7 = .ok (.aload_n 0, 1) := by decide +kernel
theorem dX6_passEnd_8 : decode cX6_passEnd 8 = .ok (.getfield 14, 3) := by decide +kernel
theorem dX6_passEnd_11 : decode cX6_passEnd 11 = .ok (.getfield 49, 3) := by decide +kernel
theorem dX6_passEnd_14 : decode cX6_passEnd 14 = .ok (.bipush 59, 2) := by decide +kernel
theorem dX6_passEnd_16 : decode cX6_passEnd 16 = .ok (.if_icmp .eq 9, 3) := by decide +kernel
theorem dX6_passEnd_19 : decode cX6_passEnd 19 = .ok (.aload_n 0, 1) := by decide +kernel
theorem dX6_passEnd_20 : decode cX6_passEnd 20 = .ok (.iconst 1, 1) := by decide +kernel
theorem dX6_passEnd_21 : decode cX6_passEnd 21 = .ok (.invokevirtual 94, 3) := by decide +kernel
theorem dX6_passEnd_24 : decode cX6_passEnd 24 = .ok (.pop, 1) := by decide +kernel
theorem dX6_passEnd_25 : decode cX6_passEnd 25 = .ok (.aload_n 0, 1) := by decide +kernel
theorem dX6_passEnd_26 : decode cX6_passEnd 26 = .ok (.invokevirtual 107, 3) := by decide +kernel
theorem dX6_passEnd_29 : decode cX6_passEnd 29 = .ok (.return_, 1) := by decide +kernel
theorem dX6_numberHere_0 : decode cX6_numberHere 0 = .ok (.aload_n 0, 1) := by decide +kernel
theorem dX6_numberHere_1 : decode cX6_numberHere 1 = .ok (.getfield 38, 3) := by decide +kernel
theorem dX6_numberHere_4 : decode cX6_numberHere 4 = .ok (.ifCond .eq 5, 3) := by decide +kernel
theorem dX6_numberHere_7 : decode cX6_numberHere 7 = .ok (.iconst 0, 1) := by decide +kernel
theorem dX6_numberHere_8 : decode cX6_numberHere 8 = .ok (.ireturn, 1) := by decide +kernel
theorem dX6_numberHere_9 : decode cX6_numberHere 9 = .ok (.aload_n 0, 1) := by decide +kernel
theorem dX6_numberHere_10 : decode cX6_numberHere 10 = .ok (.getfield 14, 3) := by decide +kernel
theorem dX6_numberHere_13 : decode cX6_numberHere 13 = .ok (.getfield 49, 3) := by decide +kernel
theorem dX6_numberHere_16 : decode cX6_numberHere 16 = .ok (.iconst 2, 1) := by decide +kernel
theorem dX6_numberHere_17 : decode cX6_numberHere 17 = .ok (.if_icmp .eq 9, 3) := by decide +kernel
theorem dX6_numberHere_20 : decode cX6_numberHere 20 = .ok (.aload_n 0, 1) := by decide +kernel
theorem dX6_numberHere_21 : decode cX6_numberHere 21 = .ok (.iconst 1, 1) := by decide +kernel
theorem dX6_numberHere_22 : decode cX6_numberHere 22 = .ok (.invokevirtual 94, 3) := by decide +kernel
theorem dX6_numberHere_25 : decode cX6_numberHere 25 = .ok (.ireturn, 1) := by decide +kernel
theorem dX6_numberHere_26 : decode cX6_numberHere 26 = .ok (.aload_n 0, 1) := by decide +kernel
theorem dX6_numberHere_27 : decode cX6_numberHere 27 = .ok (.getfield 14, 3) := by decide +kernel
theorem dX6_numberHere_30 : decode cX6_numberHere 30 = .ok (.invokevirtual 110, 3) := by decide +kernel
theorem dX6_numberHere_33 : decode cX6_numberHere 33 = .ok (.ifCond .eq 9, 3) := by decide +kernel
theorem dX6_numberHere_36 : decode cX6_numberHere 36 = .ok (.aload_n 0, 1) := by decide +kernel
theorem dX6_numberHere_37 : decode cX6_numberHere 37 = .ok (.iconst 2, 1) := by decide +kernel
theorem dX6_numberHere_38 : decode cX6_numberHere 38 = .ok (.invokevirtual 94, 3) := by decide +kernel
theorem dX6_numberHere_41 : decode cX6_numberHere 41 = .ok (.ireturn, 1) := by decide +kernel
theorem dX6_numberHere_42 : decode cX6_numberHere 42 = .ok (.aload_n 0, 1) := by decide +kernel
theorem dX6_numberHere_43 : decode cX6_numberHere 43 = .ok (.getfield 14, 3) := by decide +kernel
theorem dX6_numberHere_46 : decode cX6_numberHere 46 = .ok (.getfield 114, 3) := by decide +kernel
theorem dX6_numberHere_49 : decode cX6_numberHere 49 = .ok (.iload_n 1, 1) := by decide +kernel
theorem dX6_numberHere_50 : decode cX6_numberHere 50 = .ok (.if_icmp .lt 14, 3) := by decide +kernel
theorem dX6_numberHere_53 : decode cX6_numberHere 53 = .ok (.aload_n 0, 1) := by decide +kernel
theorem dX6_numberHere_54 : decode cX6_numberHere 54 = .ok (.getfield 14, 3) := by decide +kernel
theorem dX6_numberHere_57 : decode cX6_numberHere 57 = .ok (.getfield 114, 3) := by decide +kernel
theorem dX6_numberHere_60 : decode cX6_numberHere 60 = .ok (.iload_n 2, 1) := by decide +kernel
theorem dX6_numberHere_61 : decode cX6_numberHere 61 = .ok (.if_icmp .le 9, 3) := by decide +kernel
theorem dX6_numberHere_64 : decode cX6_numberHere 64 = .ok (.aload_n 0, 1) := by decide +kernel
theorem dX6_numberHere_65 : decode cX6_numberHere 65 = .ok (.iload_n 3, 1) := by decide +kernel
theorem dX6_numberHere_66 : decode cX6_numberHere 66 = .ok (.invokevirtual 94, 3) := by decide +kernel
theorem dX6_numberHere_69 : decode cX6_numberHere 69 = .ok (.ireturn, 1) := by decide +kernel
theorem dX6_numberHere_70 : decode cX6_numberHere 70 = .ok (.aload_n 0, 1) := by decide +kernel
theorem dX6_numberHere_71 : decode cX6_numberHere 71 = .ok (.getfield 14, 3) := by decide +kernel
theorem dX6_numberHere_74 : decode cX6_numberHere 74 = .ok (.getfield 114, 3) := by decide +kernel
theorem dX6_numberHere_77 : decode cX6_numberHere 77 = .ok (.ireturn, 1) := by decide +kernel
theorem dX6_fieldHere_0 : decode cX6_fieldHere 0 = .ok (.aload_n 0, 1) := by decide +kernel
theorem dX6_fieldHere_1 : decode cX6_fieldHere 1 = .ok (.iconst 0, 1) := by decide +kernel
theorem dX6_fieldHere_2 : decode cX6_fieldHere 2 = .ok (.aload_n 0, 1) := by decide +kernel
theorem dX6_fieldHere_3 : decode cX6_fieldHere 3 = .ok (.getfield 29, 3) := by decide +kernel
theorem dX6_fieldHere_6 : decode cX6_fieldHere 6 = .ok (.getfield 117, 3) := by decide +kernel
theorem dX6_fieldHere_9 : decode cX6_fieldHere 9 = .ok (.iconst 1, 1) := by decide +kernel
theorem dX6_fieldHere_10 : decode cX6_fieldHere 10 = .ok (.isub, 1) := by decide +kernel
theorem dX6_fieldHere_11 : decode cX6_fieldHere 11 = .ok (.iconst 3, 1) := by decide +kernel
theorem dX6_fieldHere_12 : decode cX6_fieldHere 12 = .ok (.invokevirtual 120, 3) := by decide +kernel
theorem dX6_fieldHere_15 : decode cX6_fieldHere 15 = .ok (.ireturn, 1) := by decide +kernel
theorem dX6_singerHere_0 : decode cX6_singerHere 0 = .ok (.aload_n 0, 1) := by decide +kernel
theorem dX6_singerHere_1 : decode cX6_singerHere 1 = .ok (.iconst 0, 1) := by decide +kernel
theorem dX6_singerHere_2 : decode cX6_singerHere 2 = .ok (.aload_n 0, 1) := by decide +kernel
theorem dX6_singerHere_3 : decode cX6_singerHere 3 = .ok (.getfield 29, 3) := by decide +kernel
theorem dX6_singerHere_6 : decode cX6_singerHere 6 = .ok (.getfield 124, 3) := by decide +kernel
theorem dX6_singerHere_9 : decode cX6_singerHere 9 = .ok (.iconst 1, 1) := by decide +kernel
theorem dX6_singerHere_10 : decode cX6_singerHere 10 = .ok (.isub, 1) := by decide +kernel
theorem dX6_singerHere_11 : decode cX6_singerHere 11 = .ok (.iconst 3, 1) := by decide +kernel
theorem dX6_singerHere_12 : decode cX6_singerHere 12 = .ok (.invokevirtual 120, 3) := by decide +kernel
theorem dX6_singerHere_15 : decode cX6_singerHere 15 = .ok (.ireturn, 1) := by decide +kernel
theorem dX6_fieldLine_0 : decode cX6_fieldLine 0 = .ok (.aload_n 0, 1) := by decide +kernel
theorem dX6_fieldLine_1 : decode cX6_fieldLine 1 = .ok (.getfield 29, 3) := by decide +kernel
theorem dX6_fieldLine_4 : decode cX6_fieldLine 4 = .ok (.getfield 117, 3) := by decide +kernel
theorem dX6_fieldLine_7 : decode cX6_fieldLine 7 = .ok (.istore_n 1, 1) := by decide +kernel
theorem dX6_fieldLine_8 : decode cX6_fieldLine 8 = .ok (.iload_n 1, 1) := by decide +kernel
theorem dX6_fieldLine_9 : decode cX6_fieldLine 9 = .ok (.bipush 8, 2) := by decide +kernel
theorem dX6_fieldLine_11 : decode cX6_fieldLine 11 = .ok (.if_icmp .lt 10, 3) := by decide +kernel
theorem dX6_fieldLine_14 : decode cX6_fieldLine 14 = .ok (.aload_n 0, 1) := by decide +kernel
theorem dX6_fieldLine_15 : decode cX6_fieldLine 15 = .ok (.iconst 2, 1) := by decide +kernel
theorem dX6_fieldLine_16 : decode cX6_fieldLine 16 = .ok (.invokevirtual 94, 3) := by decide +kernel
theorem dX6_fieldLine_19 : decode cX6_fieldLine 19 = .ok (.pop, 1) := by decide +kernel
theorem dX6_fieldLine_20 : decode cX6_fieldLine 20 = .ok (.return_, 1) := by decide +kernel
theorem dX6_fieldLine_21 : decode cX6_fieldLine 21 = .ok (.aload_n 0, 1) := by decide +kernel
theorem dX6_fieldLine_22 : decode cX6_fieldLine 22 = .ok (.invokevirtual 107, 3) := by decide +kernel
theorem dX6_fieldLine_25 : decode cX6_fieldLine 25 = .ok (.aload_n 0, 1) := by decide +kernel
theorem dX6_fieldLine_26 : decode cX6_fieldLine 26 = .ok (.getfield 29, 3) := by decide +kernel
theorem dX6_fieldLine_29 : decode cX6_fieldLine 29 = .ok (.getfield 127, 3) := by decide +kernel
theorem dX6_fieldLine_32 : decode cX6_fieldLine 32 = .ok (.iload_n 1, 1) := by decide +kernel
theorem dX6_fieldLine_33 : decode cX6_fieldLine 33 = .ok (.aload_n 0, 1) := by decide +kernel
theorem dX6_fieldLine_34 : decode cX6_fieldLine 34 = .ok (.iconst 1, 1) := by decide +kernel
theorem dX6_fieldLine_35 : decode cX6_fieldLine 35 = .ok (.bipush 99, 2) := by decide +kernel
theorem dX6_fieldLine_37 : decode cX6_fieldLine 37 = .ok (.iconst 2, 1) := by decide +kernel
theorem dX6_fieldLine_38 : decode cX6_fieldLine 38 = .ok (.invokevirtual 120, 3) := by decide +kernel
theorem dX6_fieldLine_41 : decode cX6_fieldLine 41 = .ok (.iastore, 1) := by decide +kernel
theorem dX6_fieldLine_42 : decode cX6_fieldLine 42 = .ok (.aload_n 0, 1) := by decide +kernel
theorem dX6_fieldLine_43 : decode cX6_fieldLine 43 = .ok (.invokevirtual 107, 3) := by decide +kernel
theorem dX6_fieldLine_46 : decode cX6_fieldLine 46 = .ok (.iconst 0, 1) := by decide +kernel
theorem dX6_fieldLine_47 : decode cX6_fieldLine 47 = .ok (.istore_n 2, 1) := by decide +kernel
theorem dX6_fieldLine_48 : decode cX6_fieldLine 48 = .ok (.iconst 0, 1) := by decide +kernel
theorem dX6_fieldLine_49 : decode cX6_fieldLine 49 = .ok (.istore_n 3, 1) := by decide +kernel
theorem dX6_fieldLine_50 : decode cX6_fieldLine 50 = .ok (.iload_n 3, 1) := by decide +kernel
theorem dX6_fieldLine_51 : decode cX6_fieldLine 51 = .ok (.bipush 6, 2) := by decide +kernel
theorem dX6_fieldLine_53 : decode cX6_fieldLine 53 = .ok (.if_icmp .gt 74, 3) := by decide +kernel
theorem dX6_fieldLine_56 : decode cX6_fieldLine 56 = .ok (.aload_n 0, 1) := by decide +kernel
theorem dX6_fieldLine_57 : decode cX6_fieldLine 57 = .ok (.getfield 38, 3) := by decide +kernel
theorem dX6_fieldLine_60 : decode cX6_fieldLine 60 = .ok (.ifCond .ne 67, 3) := by decide +kernel
theorem dX6_fieldLine_63 : decode cX6_fieldLine 63 = .ok (.iload_n 3, 1) := by decide +kernel
theorem dX6_fieldLine_64 : decode cX6_fieldLine 64 = .ok (.iconst 2, 1) := by decide +kernel
theorem dX6_fieldLine_65 : decode cX6_fieldLine 65 = .ok (.if_icmp .lt 14, 3) := by decide +kernel
theorem dX6_fieldLine_68 : decode cX6_fieldLine 68 = .ok (.aload_n 0, 1) := by decide +kernel
theorem dX6_fieldLine_69 : decode cX6_fieldLine 69 = .ok (.getfield 14, 3) := by decide +kernel
theorem dX6_fieldLine_72 : decode cX6_fieldLine 72 = .ok (.getfield 49, 3) := by decide +kernel
theorem dX6_fieldLine_75 : decode cX6_fieldLine 75 = .ok (.iconst 2, 1) := by decide +kernel
theorem dX6_fieldLine_76 : decode cX6_fieldLine 76 = .ok (.if_icmp .ne 51, 3) := by decide +kernel
theorem dX6_fieldLine_79 : decode cX6_fieldLine 79 = .ok (.iload_n 3, 1) := by decide +kernel
theorem dX6_fieldLine_80 : decode cX6_fieldLine 80 = .ok (.bipush 6, 2) := by decide +kernel
theorem dX6_fieldLine_82 : decode cX6_fieldLine 82 = .ok (.if_icmp .ne 10, 3) := by decide +kernel
theorem dX6_fieldLine_85 : decode cX6_fieldLine 85 = .ok (.aload_n 0, 1) := by decide +kernel
theorem dX6_fieldLine_86 : decode cX6_fieldLine 86 = .ok (.iconst 2, 1) := by decide +kernel
theorem dX6_fieldLine_87 : decode cX6_fieldLine 87 = .ok (.invokevirtual 94, 3) := by decide +kernel
theorem dX6_fieldLine_90 : decode cX6_fieldLine 90 = .ok (.pop, 1) := by decide +kernel
theorem dX6_fieldLine_91 : decode cX6_fieldLine 91 = .ok (.return_, 1) := by decide +kernel
theorem dX6_fieldLine_92 : decode cX6_fieldLine 92 = .ok (.aload_n 0, 1) := by decide +kernel
theorem dX6_fieldLine_93 : decode cX6_fieldLine 93 = .ok (.getfield 29, 3) := by decide +kernel
theorem dX6_fieldLine_96 : decode cX6_fieldLine 96 = .ok (.getfield 131, 3) := by decide +kernel
theorem dX6_fieldLine_99 : decode cX6_fieldLine 99 = .ok (.iload_n 1, 1) := by decide +kernel
theorem dX6_fieldLine_100 : decode cX6_fieldLine 100 = .ok (.bipush 6, 2) := by decide +kernel
theorem dX6_fieldLine_102 : decode cX6_fieldLine 102 = .ok (.imul, 1) := by decide +kernel
theorem dX6_fieldLine_103 : decode cX6_fieldLine 103 = .ok (.iload_n 3, 1) := by decide +kernel
theorem dX6_fieldLine_104 : decode cX6_fieldLine 104 = .ok (.iadd, 1) := by decide +kernel
theorem dX6_fieldLine_105 : decode cX6_fieldLine 105 = .ok (.aload_n 0, 1) := by decide +kernel
theorem dX6_fieldLine_106 : decode cX6_fieldLine 106 = .ok (.iconst 0, 1) := by decide +kernel
theorem dX6_fieldLine_107 : decode cX6_fieldLine 107 = .ok (.bipush 9, 2) := by decide +kernel
theorem dX6_fieldLine_109 : decode cX6_fieldLine 109 = .ok (.iconst 2, 1) := by decide +kernel
theorem dX6_fieldLine_110 : decode cX6_fieldLine 110 = .ok (.invokevirtual 120, 3) := by decide +kernel
theorem dX6_fieldLine_113 : decode cX6_fieldLine 113 = .ok (.iastore, 1) := by decide +kernel
theorem dX6_fieldLine_114 : decode cX6_fieldLine 114 = .ok (.aload_n 0, 1) := by decide +kernel
theorem dX6_fieldLine_115 : decode cX6_fieldLine 115 = .ok (.invokevirtual 107, 3) := by decide +kernel
theorem dX6_fieldLine_118 : decode cX6_fieldLine 118 = .ok (.iinc 2 1, 3) := by decide +kernel
theorem dX6_fieldLine_121 : decode cX6_fieldLine 121 = .ok (.iinc 3 1, 3) := by decide +kernel
theorem dX6_fieldLine_124 : decode cX6_fieldLine 124 = .ok (.goto (-74), 3) := by decide +kernel
theorem dX6_fieldLine_127 : decode cX6_fieldLine 127 = .ok (.aload_n 0, 1) := by decide +kernel
theorem dX6_fieldLine_128 : decode cX6_fieldLine 128 = .ok (.invokevirtual 134, 3) := by decide +kernel
theorem dX6_fieldLine_131 : decode cX6_fieldLine 131 = .ok (.aload_n 0, 1) := by decide +kernel
theorem dX6_fieldLine_132 : decode cX6_fieldLine 132 = .ok (.getfield 38, 3) := by decide +kernel
theorem dX6_fieldLine_135 : decode cX6_fieldLine 135 = .ok (.ifCond .ne 26, 3) := by decide +kernel
theorem dX6_fieldLine_138 : decode cX6_fieldLine 138 = .ok (.aload_n 0, 1) := by decide +kernel
theorem dX6_fieldLine_139 : decode cX6_fieldLine 139 = .ok (.getfield 29, 3) := by decide +kernel
theorem dX6_fieldLine_142 : decode cX6_fieldLine 142 = .ok (.getfield 137, 3) := by decide +kernel
theorem dX6_fieldLine_145 : decode cX6_fieldLine 145 = .ok (.iload_n 1, 1) := by decide +kernel
theorem dX6_fieldLine_146 : decode cX6_fieldLine 146 = .ok (.iload_n 2, 1) := by decide +kernel
theorem dX6_fieldLine_147 : decode cX6_fieldLine 147 = .ok (.iastore, 1) := by decide +kernel
theorem dX6_fieldLine_148 : decode cX6_fieldLine 148 = .ok (.aload_n 0, 1) := by decide +kernel
theorem dX6_fieldLine_149 : decode cX6_fieldLine 149 = .ok (.getfield 29, 3) := by decide +kernel
theorem dX6_fieldLine_152 : decode cX6_fieldLine 152 = .ok (.dup, 1) := by decide +kernel
theorem dX6_fieldLine_153 : decode cX6_fieldLine 153 = .ok (.getfield 117, 3) := by decide +kernel
theorem dX6_fieldLine_156 : decode cX6_fieldLine 156 = .ok (.iconst 1, 1) := by decide +kernel
theorem dX6_fieldLine_157 : decode cX6_fieldLine 157 = .ok (.iadd, 1) := by decide +kernel
theorem dX6_fieldLine_158 : decode cX6_fieldLine 158 = .ok (.putfield 117, 3) := by decide +kernel
theorem dX6_fieldLine_161 : decode cX6_fieldLine 161 = .ok (.return_, 1) := by decide +kernel
theorem dX6_pathLine_0 : decode cX6_pathLine 0 = .ok (.aload_n 0, 1) := by decide +kernel
theorem dX6_pathLine_1 : decode cX6_pathLine 1 = .ok (.getfield 29, 3) := by decide +kernel
theorem dX6_pathLine_4 : decode cX6_pathLine 4 = .ok (.getfield 140, 3) := by decide +kernel
theorem dX6_pathLine_7 : decode cX6_pathLine 7 = .ok (.bipush 14, 2) := by decide +kernel
theorem dX6_pathLine_9 : decode cX6_pathLine 9 = .ok (.if_icmp .lt 10, 3) := by decide +kernel
theorem dX6_pathLine_12 : decode cX6_pathLine 12 = .ok (.aload_n 0, 1) := by decide +kernel
theorem dX6_pathLine_13 : decode cX6_pathLine 13 = .ok (.iconst 2, 1) := by decide +kernel
theorem dX6_pathLine_14 : decode cX6_pathLine 14 = .ok (.invokevirtual 94, 3) := by decide +kernel
theorem dX6_pathLine_17 : decode cX6_pathLine 17 = .ok (.pop, 1) := by decide +kernel
theorem dX6_pathLine_18 : decode cX6_pathLine 18 = .ok (.return_, 1) := by decide +kernel
theorem dX6_pathLine_19 : decode cX6_pathLine 19 = .ok (.aload_n 0, 1) := by decide +kernel
theorem dX6_pathLine_20 : decode cX6_pathLine 20 = .ok (.invokevirtual 107, 3) := by decide +kernel
theorem dX6_pathLine_23 : decode cX6_pathLine 23 = .ok (.aload_n 0, 1) := by decide +kernel
theorem dX6_pathLine_24 : decode cX6_pathLine 24 = .ok (.invokevirtual 143, 3) := by decide +kernel
theorem dX6_pathLine_27 : decode cX6_pathLine 27 = .ok (.istore_n 1, 1) := by decide +kernel
theorem dX6_pathLine_28 : decode cX6_pathLine 28 = .ok (.aload_n 0, 1) := by decide +kernel
theorem dX6_pathLine_29 : decode cX6_pathLine 29 = .ok (.invokevirtual 107, 3) := by decide +kernel
theorem dX6_pathLine_32 : decode cX6_pathLine 32 = .ok (.aload_n 0, 1) := by decide +kernel
theorem dX6_pathLine_33 : decode cX6_pathLine 33 = .ok (.invokevirtual 143, 3) := by decide +kernel
theorem dX6_pathLine_36 : decode cX6_pathLine 36 = .ok (.istore_n 2, 1) := by decide +kernel
theorem dX6_pathLine_37 : decode cX6_pathLine 37 = .ok (.aload_n 0, 1) := by decide +kernel
theorem dX6_pathLine_38 : decode cX6_pathLine 38 = .ok (.getfield 38, 3) := by decide +kernel
theorem dX6_pathLine_41 : decode cX6_pathLine 41 = .ok (.ifCond .ne 30, 3) := by decide +kernel
theorem dX6_pathLine_44 : decode cX6_pathLine 44 = .ok (.iload_n 1, 1) := by decide +kernel
theorem dX6_pathLine_45 : decode cX6_pathLine 45 = .ok (.iload_n 2, 1) := by decide +kernel
theorem dX6_pathLine_46 : decode cX6_pathLine 46 = .ok (.if_icmp .eq 19, 3) := by decide +kernel
theorem dX6_pathLine_49 : decode cX6_pathLine 49 = .ok (.aload_n 0, 1) := by decide +kernel
theorem dX6_pathLine_50 : decode cX6_pathLine 50 = .ok (.getfield 29, 3) := by decide +kernel
theorem dX6_pathLine_53 : decode cX6_pathLine 53 = .ok (.getfield 147, 3) := by decide +kernel
theorem dX6_pathLine_56 : decode cX6_pathLine 56 = .ok (.iload_n 1, 1) := by decide +kernel
theorem dX6_pathLine_57 : decode cX6_pathLine 57 = .ok (.iaload, 1) := by decide +kernel
theorem dX6_pathLine_58 : decode cX6_pathLine 58 = .ok (.iload_n 2, 1) := by decide +kernel
theorem dX6_pathLine_59 : decode cX6_pathLine 59 = .ok (.ishr, 1) := by decide +kernel
theorem dX6_pathLine_60 : decode cX6_pathLine 60 = .ok (.iconst 1, 1) := by decide +kernel
theorem dX6_pathLine_61 : decode cX6_pathLine 61 = .ok (.iand, 1) := by decide +kernel
theorem dX6_pathLine_62 : decode cX6_pathLine 62 = .ok (.ifCond .eq 9, 3) := by decide +kernel
theorem dX6_pathLine_65 : decode cX6_pathLine 65 = .ok (.aload_n 0, 1) := by decide +kernel
theorem dX6_pathLine_66 : decode cX6_pathLine 66 = .ok (.iconst 4, 1) := by decide +kernel
theorem dX6_pathLine_67 : decode cX6_pathLine 67 = .ok (.invokevirtual 94, 3) := by decide +kernel
theorem dX6_pathLine_70 : decode cX6_pathLine 70 = .ok (.pop, 1) := by decide +kernel
theorem dX6_pathLine_71 : decode cX6_pathLine 71 = .ok (.aload_n 0, 1) := by decide +kernel
theorem dX6_pathLine_72 : decode cX6_pathLine 72 = .ok (.invokevirtual 107, 3) := by decide +kernel
theorem dX6_pathLine_75 : decode cX6_pathLine 75 = .ok (.aload_n 0, 1) := by decide +kernel
theorem dX6_pathLine_76 : decode cX6_pathLine 76 = .ok (.iconst 1, 1) := by decide +kernel
theorem dX6_pathLine_77 : decode cX6_pathLine 77 = .ok (.bipush 20, 2) := by decide +kernel
theorem dX6_pathLine_79 : decode cX6_pathLine 79 = .ok (.iconst 2, 1) := by decide +kernel
theorem dX6_pathLine_80 : decode cX6_pathLine 80 = .ok (.invokevirtual 120, 3) := by decide +kernel
theorem dX6_pathLine_83 : decode cX6_pathLine 83 = .ok (.istore_n 3, 1) := by decide +kernel
theorem dX6_pathLine_84 : decode cX6_pathLine 84 = .ok (.aload_n 0, 1) := by decide +kernel
theorem dX6_pathLine_85 : decode cX6_pathLine 85 = .ok (.invokevirtual 107, 3) := by decide +kernel
theorem dX6_pathLine_88 : decode cX6_pathLine 88 = .ok (.aload_n 0, 1) := by decide +kernel
theorem dX6_pathLine_89 : decode cX6_pathLine 89 = .ok (.invokevirtual 134, 3) := by decide +kernel
theorem dX6_pathLine_92 : decode cX6_pathLine 92 = .ok (.aload_n 0, 1) := by decide +kernel
theorem dX6_pathLine_93 : decode cX6_pathLine 93 = .ok (.getfield 38, 3) := by decide +kernel
theorem dX6_pathLine_96 : decode cX6_pathLine 96 = .ok (.ifCond .ne 13, 3) := by decide +kernel
theorem dX6_pathLine_99 : decode cX6_pathLine 99 = .ok (.aload_n 0, 1) := by decide +kernel
theorem dX6_pathLine_100 : decode cX6_pathLine 100 = .ok (.getfield 29, 3) := by decide +kernel
theorem dX6_pathLine_103 : decode cX6_pathLine 103 = .ok (.iload_n 1, 1) := by decide +kernel
theorem dX6_pathLine_104 : decode cX6_pathLine 104 = .ok (.iload_n 2, 1) := by decide +kernel
theorem dX6_pathLine_105 : decode cX6_pathLine 105 = .ok (.iload_n 3, 1) := by decide +kernel
theorem dX6_pathLine_106 : decode cX6_pathLine 106 = .ok (.invokevirtual 150, 3) := by decide +kernel
theorem dX6_pathLine_109 : decode cX6_pathLine 109 = .ok (.return_, 1) := by decide +kernel
theorem dX6_singerLine_0 : decode cX6_singerLine 0 = .ok (.aload_n 0, 1) := by decide +kernel
theorem dX6_singerLine_1 : decode cX6_singerLine 1 = .ok (.getfield 29, 3) := by decide +kernel
theorem dX6_singerLine_4 : decode cX6_singerLine 4 = .ok (.getfield 124, 3) := by decide +kernel
theorem dX6_singerLine_7 : decode cX6_singerLine 7 = .ok (.istore_n 1, 1) := by decide +kernel
theorem dX6_singerLine_8 : decode cX6_singerLine 8 = .ok (.iload_n 1, 1) := by decide +kernel
theorem dX6_singerLine_9 : decode cX6_singerLine 9 = .ok (.bipush 6, 2) := by decide +kernel
theorem dX6_singerLine_11 : decode cX6_singerLine 11 = .ok (.if_icmp .lt 10, 3) := by decide +kernel
theorem dX6_singerLine_14 : decode cX6_singerLine 14 = .ok (.aload_n 0, 1) := by decide +kernel
theorem dX6_singerLine_15 : decode cX6_singerLine 15 = .ok (.iconst 2, 1) := by decide +kernel
theorem dX6_singerLine_16 : decode cX6_singerLine 16 = .ok (.invokevirtual 94, 3) := by decide +kernel
theorem dX6_singerLine_19 : decode cX6_singerLine 19 = .ok (.pop, 1) := by decide +kernel
theorem dX6_singerLine_20 : decode cX6_singerLine 20 = .ok (.return_, 1) := by decide +kernel
theorem dX6_singerLine_21 : decode cX6_singerLine 21 = .ok (.aload_n 0, 1) := by decide +kernel
theorem dX6_singerLine_22 : decode cX6_singerLine 22 = .ok (.invokevirtual 107, 3) := by decide +kernel
theorem dX6_singerLine_25 : decode cX6_singerLine 25 = .ok (.iconst 0, 1) := by decide +kernel
theorem dX6_singerLine_26 : decode cX6_singerLine 26 = .ok (.istore_n 2, 1) := by decide +kernel
theorem dX6_singerLine_27 : decode cX6_singerLine 27 = .ok (.iconst 0, 1) := by decide +kernel
theorem dX6_singerLine_28 : decode cX6_singerLine 28 = .ok (.istore_n 3, 1) := by decide +kernel
theorem dX6_singerLine_29 : decode cX6_singerLine 29 = .ok (.iload_n 3, 1) := by decide +kernel
theorem dX6_singerLine_30 : decode cX6_singerLine 30 = .ok (.bipush 6, 2) := by decide +kernel
theorem dX6_singerLine_32 : decode cX6_singerLine 32 = .ok (.if_icmp .gt 70, 3) := by decide +kernel
theorem dX6_singerLine_35 : decode cX6_singerLine 35 = .ok (.aload_n 0, 1) := by decide +kernel
theorem dX6_singerLine_36 : decode cX6_singerLine 36 = .ok (.getfield 38, 3) := by decide +kernel
theorem dX6_singerLine_39 : decode cX6_singerLine 39 = .ok (.ifCond .ne 63, 3) := by decide +kernel
theorem dX6_singerLine_42 : decode cX6_singerLine 42 = .ok (.iload_n 3, 1) := by decide +kernel
theorem dX6_singerLine_43 : decode cX6_singerLine 43 = .ok (.iconst 1, 1) := by decide +kernel
theorem dX6_singerLine_44 : decode cX6_singerLine 44 = .ok (.if_icmp .lt 14, 3) := by decide +kernel
theorem dX6_singerLine_47 : decode cX6_singerLine 47 = .ok (.aload_n 0, 1) := by decide +kernel
theorem dX6_singerLine_48 : decode cX6_singerLine 48 = .ok (.getfield 14, 3) := by decide +kernel
theorem dX6_singerLine_51 : decode cX6_singerLine 51 = .ok (.getfield 49, 3) := by decide +kernel
theorem dX6_singerLine_54 : decode cX6_singerLine 54 = .ok (.iconst 2, 1) := by decide +kernel
theorem dX6_singerLine_55 : decode cX6_singerLine 55 = .ok (.if_icmp .ne 47, 3) := by decide +kernel
theorem dX6_singerLine_58 : decode cX6_singerLine 58 = .ok (.iload_n 3, 1) := by decide +kernel
theorem dX6_singerLine_59 : decode cX6_singerLine 59 = .ok (.bipush 6, 2) := by decide +kernel
theorem dX6_singerLine_61 : decode cX6_singerLine 61 = .ok (.if_icmp .ne 10, 3) := by decide +kernel
theorem dX6_singerLine_64 : decode cX6_singerLine 64 = .ok (.aload_n 0, 1) := by decide +kernel
theorem dX6_singerLine_65 : decode cX6_singerLine 65 = .ok (.iconst 2, 1) := by decide +kernel
theorem dX6_singerLine_66 : decode cX6_singerLine 66 = .ok (.invokevirtual 94, 3) := by decide +kernel
theorem dX6_singerLine_69 : decode cX6_singerLine 69 = .ok (.pop, 1) := by decide +kernel
theorem dX6_singerLine_70 : decode cX6_singerLine 70 = .ok (.return_, 1) := by decide +kernel
theorem dX6_singerLine_71 : decode cX6_singerLine 71 = .ok (.aload_n 0, 1) := by decide +kernel
theorem dX6_singerLine_72 : decode cX6_singerLine 72 = .ok (.getfield 29, 3) := by decide +kernel
theorem dX6_singerLine_75 : decode cX6_singerLine 75 = .ok (.getfield 154, 3) := by decide +kernel
theorem dX6_singerLine_78 : decode cX6_singerLine 78 = .ok (.iload_n 1, 1) := by decide +kernel
theorem dX6_singerLine_79 : decode cX6_singerLine 79 = .ok (.bipush 6, 2) := by decide +kernel
theorem dX6_singerLine_81 : decode cX6_singerLine 81 = .ok (.imul, 1) := by decide +kernel
theorem dX6_singerLine_82 : decode cX6_singerLine 82 = .ok (.iload_n 3, 1) := by decide +kernel
theorem dX6_singerLine_83 : decode cX6_singerLine 83 = .ok (.iadd, 1) := by decide +kernel
theorem dX6_singerLine_84 : decode cX6_singerLine 84 = .ok (.aload_n 0, 1) := by decide +kernel
theorem dX6_singerLine_85 : decode cX6_singerLine 85 = .ok (.invokevirtual 143, 3) := by decide +kernel
theorem dX6_singerLine_88 : decode cX6_singerLine 88 = .ok (.iastore, 1) := by decide +kernel
theorem dX6_singerLine_89 : decode cX6_singerLine 89 = .ok (.aload_n 0, 1) := by decide +kernel
theorem dX6_singerLine_90 : decode cX6_singerLine 90 = .ok (.invokevirtual 107, 3) := by decide +kernel
theorem dX6_singerLine_93 : decode cX6_singerLine 93 = .ok (.iinc 2 1, 3) := by decide +kernel
theorem dX6_singerLine_96 : decode cX6_singerLine 96 = .ok (.iinc 3 1, 3) := by decide +kernel
theorem dX6_singerLine_99 : decode cX6_singerLine 99 = .ok (.goto (-70), 3) := by decide +kernel
theorem dX6_singerLine_102 : decode cX6_singerLine 102 = .ok (.aload_n 0, 1) := by decide +kernel
theorem dX6_singerLine_103 : decode cX6_singerLine 103 = .ok (.invokevirtual 134, 3) := by decide +kernel
theorem dX6_singerLine_106 : decode cX6_singerLine 106 = .ok (.aload_n 0, 1) := by decide +kernel
theorem dX6_singerLine_107 : decode cX6_singerLine 107 = .ok (.getfield 38, 3) := by decide +kernel
theorem dX6_singerLine_110 : decode cX6_singerLine 110 = .ok (.ifCond .ne 49, 3) := by decide +kernel
theorem dX6_singerLine_113 : decode cX6_singerLine 113 = .ok (.aload_n 0, 1) := by decide +kernel
theorem dX6_singerLine_114 : decode cX6_singerLine 114 = .ok (.getfield 29, 3) := by decide +kernel
theorem dX6_singerLine_117 : decode cX6_singerLine 117 = .ok (.getfield 157, 3) := by decide +kernel
theorem dX6_singerLine_120 : decode cX6_singerLine 120 = .ok (.iload_n 1, 1) := by decide +kernel
theorem dX6_singerLine_121 : decode cX6_singerLine 121 = .ok (.iload_n 2, 1) := by decide +kernel
theorem dX6_singerLine_122 : decode cX6_singerLine 122 = .ok (.iastore, 1) := by decide +kernel
theorem dX6_singerLine_123 : decode cX6_singerLine 123 = .ok (.aload_n 0, 1) := by decide +kernel
theorem dX6_singerLine_124 : decode cX6_singerLine 124 = .ok (.getfield 29, 3) := by decide +kernel
theorem dX6_singerLine_127 : decode cX6_singerLine 127 = .ok (.getfield 160, 3) := by decide +kernel
theorem dX6_singerLine_130 : decode cX6_singerLine 130 = .ok (.iload_n 1, 1) := by decide +kernel
theorem dX6_singerLine_131 : decode cX6_singerLine 131 = .ok (.iconst 1, 1) := by decide +kernel
theorem dX6_singerLine_132 : decode cX6_singerLine 132 = .ok (.aload_n 0, 1) := by decide +kernel
theorem dX6_singerLine_133 : decode cX6_singerLine 133 = .ok (.getfield 29, 3) := by decide +kernel
theorem dX6_singerLine_136 : decode cX6_singerLine 136 = .ok (.getfield 154, 3) := by decide +kernel
theorem dX6_singerLine_139 : decode cX6_singerLine 139 = .ok (.iload_n 1, 1) := by decide +kernel
theorem dX6_singerLine_140 : decode cX6_singerLine 140 = .ok (.bipush 6, 2) := by decide +kernel
theorem dX6_singerLine_142 : decode cX6_singerLine 142 = .ok (.imul, 1) := by decide +kernel
theorem dX6_singerLine_143 : decode cX6_singerLine 143 = .ok (.iaload, 1) := by decide +kernel
theorem dX6_singerLine_144 : decode cX6_singerLine 144 = .ok (.ishl, 1) := by decide +kernel
theorem dX6_singerLine_145 : decode cX6_singerLine 145 = .ok (.iastore, 1) := by decide +kernel
theorem dX6_singerLine_146 : decode cX6_singerLine 146 = .ok (.aload_n 0, 1) := by decide +kernel
theorem dX6_singerLine_147 : decode cX6_singerLine 147 = .ok (.getfield 29, 3) := by decide +kernel
theorem dX6_singerLine_150 : decode cX6_singerLine 150 = .ok (.dup, 1) := by decide +kernel
theorem dX6_singerLine_151 : decode cX6_singerLine 151 = .ok (.getfield 124, 3) := by decide +kernel
theorem dX6_singerLine_154 : decode cX6_singerLine 154 = .ok (.iconst 1, 1) := by decide +kernel
theorem dX6_singerLine_155 : decode cX6_singerLine 155 = .ok (.iadd, 1) := by decide +kernel
theorem dX6_singerLine_156 : decode cX6_singerLine 156 = .ok (.putfield 124, 3) := by decide +kernel
theorem dX6_singerLine_159 : decode cX6_singerLine 159 = .ok (.return_, 1) := by decide +kernel
theorem dX6_knowsLine_0 : decode cX6_knowsLine 0 = .ok (.aload_n 0, 1) := by decide +kernel
theorem dX6_knowsLine_1 : decode cX6_knowsLine 1 = .ok (.invokevirtual 107, 3) := by decide +kernel
theorem dX6_knowsLine_4 : decode cX6_knowsLine 4 = .ok (.aload_n 0, 1) := by decide +kernel
theorem dX6_knowsLine_5 : decode cX6_knowsLine 5 = .ok (.invokevirtual 163, 3) := by decide +kernel
theorem dX6_knowsLine_8 : decode cX6_knowsLine 8 = .ok (.istore_n 1, 1) := by decide +kernel
theorem dX6_knowsLine_9 : decode cX6_knowsLine 9 = .ok (.aload_n 0, 1) := by decide +kernel
theorem dX6_knowsLine_10 : decode cX6_knowsLine 10 = .ok (.invokevirtual 107, 3) := by decide +kernel
theorem dX6_knowsLine_13 : decode cX6_knowsLine 13 = .ok (.aload_n 0, 1) := by decide +kernel
theorem dX6_knowsLine_14 : decode cX6_knowsLine 14 = .ok (.invokevirtual 143, 3) := by decide +kernel
theorem dX6_knowsLine_17 : decode cX6_knowsLine 17 = .ok (.istore_n 2, 1) := by decide +kernel
theorem dX6_knowsLine_18 : decode cX6_knowsLine 18 = .ok (.aload_n 0, 1) := by decide +kernel
theorem dX6_knowsLine_19 : decode cX6_knowsLine 19 = .ok (.getfield 38, 3) := by decide +kernel
theorem dX6_knowsLine_22 : decode cX6_knowsLine 22 = .ok (.ifCond .ne 25, 3) := by decide +kernel
theorem dX6_knowsLine_25 : decode cX6_knowsLine 25 = .ok (.aload_n 0, 1) := by decide +kernel
theorem dX6_knowsLine_26 : decode cX6_knowsLine 26 = .ok (.getfield 29, 3) := by decide +kernel
theorem dX6_knowsLine_29 : decode cX6_knowsLine 29 = .ok (.getfield 160, 3) := by decide +kernel
theorem dX6_knowsLine_32 : decode cX6_knowsLine 32 = .ok (.iload_n 1, 1) := by decide +kernel
theorem dX6_knowsLine_33 : decode cX6_knowsLine 33 = .ok (.iaload, 1) := by decide +kernel
theorem dX6_knowsLine_34 : decode cX6_knowsLine 34 = .ok (.iload_n 2, 1) := by decide +kernel
theorem dX6_knowsLine_35 : decode cX6_knowsLine 35 = .ok (.ishr, 1) := by decide +kernel
theorem dX6_knowsLine_36 : decode cX6_knowsLine 36 = .ok (.iconst 1, 1) := by decide +kernel
theorem dX6_knowsLine_37 : decode cX6_knowsLine 37 = .ok (.iand, 1) := by decide +kernel
theorem dX6_knowsLine_38 : decode cX6_knowsLine 38 = .ok (.ifCond .eq 9, 3) := by decide +kernel
theorem dX6_knowsLine_41 : decode cX6_knowsLine 41 = .ok (.aload_n 0, 1) := by decide +kernel
theorem dX6_knowsLine_42 : decode cX6_knowsLine 42 = .ok (.iconst 4, 1) := by decide +kernel
theorem dX6_knowsLine_43 : decode cX6_knowsLine 43 = .ok (.invokevirtual 94, 3) := by decide +kernel
theorem dX6_knowsLine_46 : decode cX6_knowsLine 46 = .ok (.pop, 1) := by decide +kernel
theorem dX6_knowsLine_47 : decode cX6_knowsLine 47 = .ok (.aload_n 0, 1) := by decide +kernel
theorem dX6_knowsLine_48 : decode cX6_knowsLine 48 = .ok (.invokevirtual 107, 3) := by decide +kernel
theorem dX6_knowsLine_51 : decode cX6_knowsLine 51 = .ok (.aload_n 0, 1) := by decide +kernel
theorem dX6_knowsLine_52 : decode cX6_knowsLine 52 = .ok (.invokevirtual 134, 3) := by decide +kernel
theorem dX6_knowsLine_55 : decode cX6_knowsLine 55 = .ok (.aload_n 0, 1) := by decide +kernel
theorem dX6_knowsLine_56 : decode cX6_knowsLine 56 = .ok (.getfield 38, 3) := by decide +kernel
theorem dX6_knowsLine_59 : decode cX6_knowsLine 59 = .ok (.ifCond .ne 18, 3) := by decide +kernel
theorem dX6_knowsLine_62 : decode cX6_knowsLine 62 = .ok (.aload_n 0, 1) := by decide +kernel
theorem dX6_knowsLine_63 : decode cX6_knowsLine 63 = .ok (.getfield 29, 3) := by decide +kernel
theorem dX6_knowsLine_66 : decode cX6_knowsLine 66 = .ok (.getfield 160, 3) := by decide +kernel
theorem dX6_knowsLine_69 : decode cX6_knowsLine 69 = .ok (.iload_n 1, 1) := by decide +kernel
theorem dX6_knowsLine_70 : decode cX6_knowsLine 70 = .ok (.dup2, 1) := by decide +kernel
theorem dX6_knowsLine_71 : decode cX6_knowsLine 71 = .ok (.iaload, 1) := by decide +kernel
theorem dX6_knowsLine_72 : decode cX6_knowsLine 72 = .ok (.iconst 1, 1) := by decide +kernel
theorem dX6_knowsLine_73 : decode cX6_knowsLine 73 = .ok (.iload_n 2, 1) := by decide +kernel
theorem dX6_knowsLine_74 : decode cX6_knowsLine 74 = .ok (.ishl, 1) := by decide +kernel
theorem dX6_knowsLine_75 : decode cX6_knowsLine 75 = .ok (.ior, 1) := by decide +kernel
theorem dX6_knowsLine_76 : decode cX6_knowsLine 76 = .ok (.iastore, 1) := by decide +kernel
theorem dX6_knowsLine_77 : decode cX6_knowsLine 77 = .ok (.return_, 1) := by decide +kernel
theorem dX6_ownsLine_0 : decode cX6_ownsLine 0 = .ok (.aload_n 0, 1) := by decide +kernel
theorem dX6_ownsLine_1 : decode cX6_ownsLine 1 = .ok (.invokevirtual 107, 3) := by decide +kernel
theorem dX6_ownsLine_4 : decode cX6_ownsLine 4 = .ok (.aload_n 0, 1) := by decide +kernel
theorem dX6_ownsLine_5 : decode cX6_ownsLine 5 = .ok (.invokevirtual 163, 3) := by decide +kernel
theorem dX6_ownsLine_8 : decode cX6_ownsLine 8 = .ok (.istore_n 1, 1) := by decide +kernel
theorem dX6_ownsLine_9 : decode cX6_ownsLine 9 = .ok (.aload_n 0, 1) := by decide +kernel
theorem dX6_ownsLine_10 : decode cX6_ownsLine 10 = .ok (.invokevirtual 107, 3) := by decide +kernel
theorem dX6_ownsLine_13 : decode cX6_ownsLine 13 = .ok (.aload_n 0, 1) := by decide +kernel
theorem dX6_ownsLine_14 : decode cX6_ownsLine 14 = .ok (.invokevirtual 143, 3) := by decide +kernel
theorem dX6_ownsLine_17 : decode cX6_ownsLine 17 = .ok (.istore_n 2, 1) := by decide +kernel
theorem dX6_ownsLine_18 : decode cX6_ownsLine 18 = .ok (.aload_n 0, 1) := by decide +kernel
theorem dX6_ownsLine_19 : decode cX6_ownsLine 19 = .ok (.getfield 38, 3) := by decide +kernel
theorem dX6_ownsLine_22 : decode cX6_ownsLine 22 = .ok (.ifCond .ne 22, 3) := by decide +kernel
theorem dX6_ownsLine_25 : decode cX6_ownsLine 25 = .ok (.aload_n 0, 1) := by decide +kernel
theorem dX6_ownsLine_26 : decode cX6_ownsLine 26 = .ok (.getfield 29, 3) := by decide +kernel
theorem dX6_ownsLine_29 : decode cX6_ownsLine 29 = .ok (.getfield 166, 3) := by decide +kernel
theorem dX6_ownsLine_32 : decode cX6_ownsLine 32 = .ok (.iload_n 2, 1) := by decide +kernel
theorem dX6_ownsLine_33 : decode cX6_ownsLine 33 = .ok (.iaload, 1) := by decide +kernel
theorem dX6_ownsLine_34 : decode cX6_ownsLine 34 = .ok (.iconst (-1), 1) := by decide +kernel
theorem dX6_ownsLine_35 : decode cX6_ownsLine 35 = .ok (.if_icmp .eq 9, 3) := by decide +kernel
theorem dX6_ownsLine_38 : decode cX6_ownsLine 38 = .ok (.aload_n 0, 1) := by decide +kernel
theorem dX6_ownsLine_39 : decode cX6_ownsLine 39 = .ok (.iconst 4, 1) := by decide +kernel
theorem dX6_ownsLine_40 : decode cX6_ownsLine 40 = .ok (.invokevirtual 94, 3) := by decide +kernel
theorem dX6_ownsLine_43 : decode cX6_ownsLine 43 = .ok (.pop, 1) := by decide +kernel
theorem dX6_ownsLine_44 : decode cX6_ownsLine 44 = .ok (.aload_n 0, 1) := by decide +kernel
theorem dX6_ownsLine_45 : decode cX6_ownsLine 45 = .ok (.invokevirtual 107, 3) := by decide +kernel
theorem dX6_ownsLine_48 : decode cX6_ownsLine 48 = .ok (.aload_n 0, 1) := by decide +kernel
theorem dX6_ownsLine_49 : decode cX6_ownsLine 49 = .ok (.invokevirtual 134, 3) := by decide +kernel
theorem dX6_ownsLine_52 : decode cX6_ownsLine 52 = .ok (.aload_n 0, 1) := by decide +kernel
theorem dX6_ownsLine_53 : decode cX6_ownsLine 53 = .ok (.getfield 38, 3) := by decide +kernel
theorem dX6_ownsLine_56 : decode cX6_ownsLine 56 = .ok (.ifCond .ne 13, 3) := by decide +kernel
theorem dX6_ownsLine_59 : decode cX6_ownsLine 59 = .ok (.aload_n 0, 1) := by decide +kernel
theorem dX6_ownsLine_60 : decode cX6_ownsLine 60 = .ok (.getfield 29, 3) := by decide +kernel
theorem dX6_ownsLine_63 : decode cX6_ownsLine 63 = .ok (.getfield 166, 3) := by decide +kernel
theorem dX6_ownsLine_66 : decode cX6_ownsLine 66 = .ok (.iload_n 2, 1) := by decide +kernel
theorem dX6_ownsLine_67 : decode cX6_ownsLine 67 = .ok (.iload_n 1, 1) := by decide +kernel
theorem dX6_ownsLine_68 : decode cX6_ownsLine 68 = .ok (.iastore, 1) := by decide +kernel
theorem dX6_ownsLine_69 : decode cX6_ownsLine 69 = .ok (.return_, 1) := by decide +kernel
theorem dX6_ruleLine_0 : decode cX6_ruleLine 0 = .ok (.aload_n 1, 1) := by decide +kernel
theorem dX6_ruleLine_1 : decode cX6_ruleLine 1 = .ok (.getfield 169, 3) := by decide +kernel
theorem dX6_ruleLine_4 : decode cX6_ruleLine 4 = .ok (.ifCond .eq 10, 3) := by decide +kernel
theorem dX6_ruleLine_7 : decode cX6_ruleLine 7 = .ok (.aload_n 0, 1) := by decide +kernel
theorem dX6_ruleLine_8 : decode cX6_ruleLine 8 = .ok (.iconst 5, 1) := by decide +kernel
theorem dX6_ruleLine_9 : decode cX6_ruleLine 9 = .ok (.invokevirtual 94, 3) := by decide +kernel
theorem dX6_ruleLine_12 : decode cX6_ruleLine 12 = .ok (.pop, 1) := by decide +kernel
theorem dX6_ruleLine_13 : decode cX6_ruleLine 13 = .ok (.return_, 1) := by decide +kernel
theorem dX6_ruleLine_14 : decode cX6_ruleLine 14 = .ok (.aload_n 0, 1) := by decide +kernel
theorem dX6_ruleLine_15 : decode cX6_ruleLine 15 = .ok (.invokevirtual 107, 3) := by decide +kernel
theorem dX6_ruleLine_18 : decode cX6_ruleLine 18 = .ok (.aload_n 0, 1) := by decide +kernel
theorem dX6_ruleLine_19 : decode cX6_ruleLine 19 = .ok (.getfield 25, 3) := by decide +kernel
theorem dX6_ruleLine_22 : decode cX6_ruleLine 22 = .ok (.aload_n 1, 1) := by decide +kernel
theorem dX6_ruleLine_23 : decode cX6_ruleLine 23 = .ok (.iload_n 2, 1) := by decide +kernel
theorem dX6_ruleLine_24 : decode cX6_ruleLine 24 = .ok (.aload_n 0, 1) := by decide +kernel
theorem dX6_ruleLine_25 : decode cX6_ruleLine 25 = .ok (.getfield 29, 3) := by decide +kernel
theorem dX6_ruleLine_28 : decode cX6_ruleLine 28 = .ok (.invokevirtual 175, 3) := by decide +kernel
theorem dX6_ruleLine_31 : decode cX6_ruleLine 31 = .ok (.invokevirtual 178, 3) := by decide +kernel
theorem dX6_ruleLine_34 : decode cX6_ruleLine 34 = .ok (.istore_n 3, 1) := by decide +kernel
theorem dX6_ruleLine_35 : decode cX6_ruleLine 35 = .ok (.iload_n 3, 1) := by decide +kernel
theorem dX6_ruleLine_36 : decode cX6_ruleLine 36 = .ok (.ifCond .eq 9, 3) := by decide +kernel
theorem dX6_ruleLine_39 : decode cX6_ruleLine 39 = .ok (.aload_n 0, 1) := by decide +kernel
theorem dX6_ruleLine_40 : decode cX6_ruleLine 40 = .ok (.iload_n 3, 1) := by decide +kernel
theorem dX6_ruleLine_41 : decode cX6_ruleLine 41 = .ok (.invokevirtual 94, 3) := by decide +kernel
theorem dX6_ruleLine_44 : decode cX6_ruleLine 44 = .ok (.pop, 1) := by decide +kernel
theorem dX6_ruleLine_45 : decode cX6_ruleLine 45 = .ok (.aload_n 0, 1) := by decide +kernel
theorem dX6_ruleLine_46 : decode cX6_ruleLine 46 = .ok (.invokevirtual 134, 3) := by decide +kernel
theorem dX6_ruleLine_49 : decode cX6_ruleLine 49 = .ok (.return_, 1) := by decide +kernel
theorem dX7_init_0 : decode cX7_init 0 = .ok (.aload_n 0, 1) := by decide +kernel
theorem dX7_init_1 : decode cX7_init 1 = .ok (.invokespecial 1, 3) := by decide +kernel
theorem dX7_init_4 : decode cX7_init 4 = .ok (.aload_n 0, 1) := by decide +kernel
theorem dX7_init_5 : decode cX7_init 5 = .ok (.aload_n 1, 1) := by decide +kernel
theorem dX7_init_6 : decode cX7_init 6 = .ok (.putfield 7, 3) := by decide +kernel
theorem dX7_init_9 : decode cX7_init 9 = .ok (.return_, 1) := by decide +kernel
theorem dX7_begin_0 : decode cX7_begin 0 = .ok (.aload_n 0, 1) := by decide +kernel
theorem dX7_begin_1 : decode cX7_begin 1 = .ok (.iload_n 1, 1) := by decide +kernel
theorem dX7_begin_2 : decode cX7_begin 2 = .ok (.aload_n 0, 1) := by decide +kernel
theorem dX7_begin_3 : decode cX7_begin 3 = .ok (.getfield 7, 3) := by decide +kernel
theorem dX7_begin_6 : decode cX7_begin 6 = .ok (.arraylength, 1) := by decide +kernel
theorem dX7_begin_7 : decode cX7_begin 7 = .ok (.invokestatic 13, 3) := by decide +kernel
theorem dX7_begin_10 : decode cX7_begin 10 = .ok (.putfield 19, 3) := by decide +kernel
theorem dX7_begin_13 : decode cX7_begin 13 = .ok (.aload_n 0, 1) := by decide +kernel
theorem dX7_begin_14 : decode cX7_begin 14 = .ok (.iconst 0, 1) := by decide +kernel
theorem dX7_begin_15 : decode cX7_begin 15 = .ok (.putfield 23, 3) := by decide +kernel
theorem dX7_begin_18 : decode cX7_begin 18 = .ok (.aload_n 0, 1) := by decide +kernel
theorem dX7_begin_19 : decode cX7_begin 19 = .ok (.invokevirtual 26, 3) := by decide +kernel
theorem dX7_begin_22 : decode cX7_begin 22 = .ok (.return_, 1) := by decide +kernel
theorem dX7_advance_0 : decode cX7_advance 0 = .ok (.aload_n 0, 1) := by decide +kernel
theorem dX7_advance_1 : decode cX7_advance 1 = .ok (.getfield 23, 3) := by decide +kernel
theorem dX7_advance_4 : decode cX7_advance 4 = .ok (.aload_n 0, 1) := by decide +kernel
theorem dX7_advance_5 : decode cX7_advance 5 = .ok (.getfield 19, 3) := by decide +kernel
theorem dX7_advance_8 : decode cX7_advance 8 = .ok (.if_icmp .ge 44, 3) := by decide +kernel
theorem dX7_advance_11 : decode cX7_advance 11 = .ok (.aload_n 0, 1) := by decide +kernel
theorem dX7_advance_12 : decode cX7_advance 12 = .ok (.getfield 7, 3) := by decide +kernel
theorem dX7_advance_15 : decode cX7_advance 15 = .ok (.aload_n 0, 1) := by decide +kernel
theorem dX7_advance_16 : decode cX7_advance 16 = .ok (.getfield 23, 3) := by decide +kernel
theorem dX7_advance_19 : decode cX7_advance 19 = .ok (.baload, 1) := by decide +kernel
theorem dX7_advance_20 : decode cX7_advance 20 = .ok (.bipush 32, 2) := by decide +kernel
theorem dX7_advance_22 : decode cX7_advance 22 = .ok (.if_icmp .eq 17, 3) := by decide +kernel
theorem dX7_advance_25 : decode cX7_advance 25 = .ok (.aload_n 0, 1) := by decide +kernel
theorem dX7_advance_26 : decode cX7_advance 26 = .ok (.getfield 7, 3) := by decide +kernel
theorem dX7_advance_29 : decode cX7_advance 29 = .ok (.aload_n 0, 1) := by decide +kernel
theorem dX7_advance_30 : decode cX7_advance 30 = .ok (.getfield 23, 3) := by decide +kernel
theorem dX7_advance_33 : decode cX7_advance 33 = .ok (.baload, 1) := by decide +kernel
theorem dX7_advance_34 : decode cX7_advance 34 = .ok (.bipush 10, 2) := by decide +kernel
theorem dX7_advance_36 : decode cX7_advance 36 = .ok (.if_icmp .ne 16, 3) := by decide +kernel
theorem dX7_advance_39 : decode cX7_advance 39 = .ok (.aload_n 0, 1) := by decide +kernel
theorem dX7_advance_40 : decode cX7_advance 40 = .ok (.dup, 1) := by decide +kernel
theorem dX7_advance_41 : decode cX7_advance 41 = .ok (.getfield 23, 3) := by decide +kernel
theorem dX7_advance_44 : decode cX7_advance 44 = .ok (.iconst 1, 1) := by decide +kernel
theorem dX7_advance_45 : decode cX7_advance 45 = .ok (.iadd, 1) := by decide +kernel
theorem dX7_advance_46 : decode cX7_advance 46 = .ok (.putfield 23, 3) := by decide +kernel
theorem dX7_advance_49 : decode cX7_advance 49 = .ok (.goto (-49), 3) := by decide +kernel
theorem dX7_advance_52 : decode cX7_advance 52 = .ok (.aload_n 0, 1) := by decide +kernel
theorem dX7_advance_53 : decode cX7_advance 53 = .ok (.aload_n 0, 1) := by decide +kernel
theorem dX7_advance_54 : decode cX7_advance 54 = .ok (.getfield 23, 3) := by decide +kernel
theorem dX7_advance_57 : decode cX7_advance 57 = .ok (.putfield 29, 3) := by decide +kernel
theorem dX7_advance_60 : decode cX7_advance 60 = .ok (.aload_n 0, 1) := by decide +kernel
theorem dX7_advance_61 : decode cX7_advance 61 = .ok (.getfield 23, 3) := by decide +kernel
theorem dX7_advance_64 : decode cX7_advance 64 = .ok (.aload_n 0, 1) := by decide +kernel
theorem dX7_advance_65 : decode cX7_advance 65 = .ok (.getfield 19, 3) := by decide +kernel
theorem dX7_advance_68 : decode cX7_advance 68 = .ok (.if_icmp .lt 9, 3) := by decide +kernel
theorem dX7_advance_71 : decode cX7_advance 71 = .ok (.aload_n 0, 1) := by decide +kernel
theorem dX7_advance_72 : decode cX7_advance 72 = .ok (.iconst 0, 1) := by decide +kernel
theorem dX7_advance_73 : decode cX7_advance 73 = .ok (.putfield 32, 3) := by decide +kernel
theorem dX7_advance_76 : decode cX7_advance 76 = .ok (.return_, 1) := by decide +kernel
theorem dX7_advance_77 : decode cX7_advance 77 = .ok (.aload_n 0, 1) := by decide +kernel
theorem dX7_advance_78 : decode cX7_advance 78 = .ok (.aload_n 0, 1) := by decide +kernel
theorem dX7_advance_79 : decode cX7_advance 79 = .ok (.getfield 7, 3) := by decide +kernel
theorem dX7_advance_82 : decode cX7_advance 82 = .ok (.aload_n 0, 1) := by decide +kernel
theorem dX7_advance_83 : decode cX7_advance 83 = .ok (.getfield 23, 3) := by decide +kernel
theorem dX7_advance_86 : decode cX7_advance 86 = .ok (.baload, 1) := by decide +kernel
theorem dX7_advance_87 : decode cX7_advance 87 = .ok (.invokestatic 35, 3) := by decide +kernel
theorem dX7_advance_90 : decode cX7_advance 90 = .ok (.putfield 32, 3) := by decide +kernel
theorem dX7_advance_93 : decode cX7_advance 93 = .ok (.aload_n 0, 1) := by decide +kernel
theorem dX7_advance_94 : decode cX7_advance 94 = .ok (.iconst 0, 1) := by decide +kernel
theorem dX7_advance_95 : decode cX7_advance 95 = .ok (.putfield 39, 3) := by decide +kernel
theorem dX7_advance_98 : decode cX7_advance 98 = .ok (.aload_n 0, 1) := by decide +kernel
theorem dX7_advance_99 : decode cX7_advance 99 = .ok (.getfield 32, 3) := by decide +kernel
theorem dX7_advance_102 : decode cX7_advance 102 = .ok (.iconst 2, 1) := by decide +kernel
theorem dX7_advance_103 : decode cX7_advance 103 = .ok (.if_icmp .ne 40, 3) := by decide +kernel
theorem dX7_advance_106 : decode cX7_advance 106 = .ok (.aload_n 0, 1) := by decide +kernel
theorem dX7_advance_107 : decode cX7_advance 107 = .ok (.getfield 23, 3) := by decide +kernel
theorem dX7_advance_110 : decode cX7_advance 110 = .ok (.aload_n 0, 1) := by decide +kernel
theorem dX7_advance_111 : decode cX7_advance 111 = .ok (.getfield 29, 3) := by decide +kernel
theorem dX7_advance_114 : decode cX7_advance 114 = .ok (.isub, 1) := by decide +kernel
theorem dX7_advance_115 : decode cX7_advance 115 = .ok (.iconst 4, 1) := by decide +kernel
theorem dX7_advance_116 : decode cX7_advance 116 = .ok (.if_icmp .ge 27, 3) := by decide +kernel
theorem dX7_advance_119 : decode cX7_advance 119 = .ok (.aload_n 0, 1) := by decide +kernel
theorem dX7_advance_120 : decode cX7_advance 120 = .ok (.aload_n 0, 1) := by decide +kernel
theorem dX7_advance_121 : decode cX7_advance 121 = .ok (.getfield 39, 3) := by decide +kernel
theorem dX7_advance_124 : decode cX7_advance 124 = .ok (.bipush 10, 2) := by decide +kernel
theorem dX7_advance_126 : decode cX7_advance 126 = .ok (.imul, 1) := by decide +kernel
theorem dX7_advance_127 : decode cX7_advance 127 = .ok (.aload_n 0, 1) := by decide +kernel
theorem dX7_advance_128 : decode cX7_advance 128 = .ok (.getfield 7, 3) := by decide +kernel
theorem dX7_advance_131 : decode cX7_advance 131 = .ok (.aload_n 0, 1) := by decide +kernel
theorem dX7_advance_132 : decode cX7_advance 132 = .ok (.getfield 23, 3) := by decide +kernel
theorem dX7_advance_135 : decode cX7_advance 135 = .ok (.baload, 1) := by decide +kernel
theorem dX7_advance_136 : decode cX7_advance 136 = .ok (.iadd, 1) := by decide +kernel
theorem dX7_advance_137 : decode cX7_advance 137 = .ok (.bipush 48, 2) := by decide +kernel
theorem dX7_advance_139 : decode cX7_advance 139 = .ok (.isub, 1) := by decide +kernel
theorem dX7_advance_140 : decode cX7_advance 140 = .ok (.putfield 39, 3) := by decide +kernel
theorem dX7_advance_143 : decode cX7_advance 143 = .ok (.aload_n 0, 1) := by decide +kernel
theorem dX7_advance_144 : decode cX7_advance 144 = .ok (.dup, 1) := by decide +kernel
theorem dX7_advance_145 : decode cX7_advance 145 = .ok (.getfield 23, 3) := by decide +kernel
theorem dX7_advance_148 : decode cX7_advance 148 = .ok (.iconst 1, 1) := by decide +kernel
theorem dX7_advance_149 : decode cX7_advance 149 = .ok (.iadd, 1) := by decide +kernel
theorem dX7_advance_150 : decode cX7_advance 150 = .ok (.putfield 23, 3) := by decide +kernel
theorem dX7_advance_153 : decode cX7_advance 153 = .ok (.aload_n 0, 1) := by decide +kernel
theorem dX7_advance_154 : decode cX7_advance 154 = .ok (.getfield 32, 3) := by decide +kernel
theorem dX7_advance_157 : decode cX7_advance 157 = .ok (.iconst 1, 1) := by decide +kernel
theorem dX7_advance_158 : decode cX7_advance 158 = .ok (.if_icmp .eq 11, 3) := by decide +kernel
theorem dX7_advance_161 : decode cX7_advance 161 = .ok (.aload_n 0, 1) := by decide +kernel
theorem dX7_advance_162 : decode cX7_advance 162 = .ok (.getfield 32, 3) := by decide +kernel
theorem dX7_advance_165 : decode cX7_advance 165 = .ok (.iconst 2, 1) := by decide +kernel
theorem dX7_advance_166 : decode cX7_advance 166 = .ok (.if_icmp .ne 33, 3) := by decide +kernel
theorem dX7_advance_169 : decode cX7_advance 169 = .ok (.aload_n 0, 1) := by decide +kernel
theorem dX7_advance_170 : decode cX7_advance 170 = .ok (.getfield 23, 3) := by decide +kernel
theorem dX7_advance_173 : decode cX7_advance 173 = .ok (.aload_n 0, 1) := by decide +kernel
theorem dX7_advance_174 : decode cX7_advance 174 = .ok (.getfield 19, 3) := by decide +kernel
theorem dX7_advance_177 : decode cX7_advance 177 = .ok (.if_icmp .ge 22, 3) := by decide +kernel
theorem dX7_advance_180 : decode cX7_advance 180 = .ok (.aload_n 0, 1) := by decide +kernel
theorem dX7_advance_181 : decode cX7_advance 181 = .ok (.getfield 7, 3) := by decide +kernel
theorem dX7_advance_184 : decode cX7_advance 184 = .ok (.aload_n 0, 1) := by decide +kernel
theorem dX7_advance_185 : decode cX7_advance 185 = .ok (.getfield 23, 3) := by decide +kernel
theorem dX7_advance_188 : decode cX7_advance 188 = .ok (.baload, 1) := by decide +kernel
theorem dX7_advance_189 : decode cX7_advance 189 = .ok (.invokestatic 35, 3) := by decide +kernel
theorem dX7_advance_192 : decode cX7_advance 192 = .ok (.aload_n 0, 1) := by decide +kernel
theorem dX7_advance_193 : decode cX7_advance 193 = .ok (.getfield 32, 3) := by decide +kernel
theorem dX7_advance_196 : decode cX7_advance 196 = .ok (.if_icmp .eq (-98), 3) := by decide +kernel
theorem dX7_advance_199 : decode cX7_advance 199 = .ok (.return_, 1) := by decide +kernel
theorem dX7_kindOf_0 : decode cX7_kindOf 0 = .ok (.iload_n 0, 1) := by decide +kernel
theorem dX7_kindOf_1 : decode cX7_kindOf 1 = .ok (.bipush 97, 2) := by decide +kernel
theorem dX7_kindOf_3 : decode cX7_kindOf 3 = .ok (.if_icmp .lt 11, 3) := by decide +kernel
theorem dX7_kindOf_6 : decode cX7_kindOf 6 = .ok (.iload_n 0, 1) := by decide +kernel
theorem dX7_kindOf_7 : decode cX7_kindOf 7 = .ok (.bipush 122, 2) := by decide +kernel
theorem dX7_kindOf_9 : decode cX7_kindOf 9 = .ok (.if_icmp .gt 5, 3) := by decide +kernel
theorem dX7_kindOf_12 : decode cX7_kindOf 12 = .ok (.iconst 1, 1) := by decide +kernel
theorem dX7_kindOf_13 : decode cX7_kindOf 13 = .ok (.ireturn, 1) := by decide +kernel
theorem dX7_kindOf_14 : decode cX7_kindOf 14 = .ok (.iload_n 0, 1) := by decide +kernel
theorem dX7_kindOf_15 : decode cX7_kindOf 15 = .ok (.bipush 48, 2) := by decide +kernel
theorem dX7_kindOf_17 : decode cX7_kindOf 17 = .ok (.if_icmp .lt 11, 3) := by decide +kernel
theorem dX7_kindOf_20 : decode cX7_kindOf 20 = .ok (.iload_n 0, 1) := by decide +kernel
theorem dX7_kindOf_21 : decode cX7_kindOf 21 = .ok (.bipush 57, 2) := by decide +kernel
theorem dX7_kindOf_23 : decode cX7_kindOf 23 = .ok (.if_icmp .gt 5, 3) := by decide +kernel
theorem dX7_kindOf_26 : decode cX7_kindOf 26 = .ok (.iconst 2, 1) := by decide +kernel
theorem dX7_kindOf_27 : decode cX7_kindOf 27 = .ok (.ireturn, 1) := by decide +kernel
theorem dX7_kindOf_28 : decode cX7_kindOf 28 = .ok (.iload_n 0, 1) := by decide +kernel
theorem dX7_kindOf_29 : decode cX7_kindOf 29 = .ok (.tableswitch 105 40 61 #[103, 103, 103, 103, 105, 103, 105, 103, 105, 105, 105, 105, 105, 105, 105, 105, 105, 105, 105, 103, 103, 103], 103) := by decide +kernel
theorem dX7_kindOf_132 : decode cX7_kindOf 132 = .ok (.iload_n 0, 1) := by decide +kernel
theorem dX7_kindOf_133 : decode cX7_kindOf 133 = .ok (.ireturn, 1) := by decide +kernel
theorem dX7_kindOf_134 : decode cX7_kindOf 134 = .ok (.iconst 3, 1) := by decide +kernel
theorem dX7_kindOf_135 : decode cX7_kindOf 135 = .ok (.ireturn, 1) := by decide +kernel
theorem dX7_isTooLong_0 : decode cX7_isTooLong 0 = .ok (.aload_n 0, 1) := by decide +kernel
theorem dX7_isTooLong_1 : decode cX7_isTooLong 1 = .ok (.getfield 32, 3) := by decide +kernel
theorem dX7_isTooLong_4 : decode cX7_isTooLong 4 = .ok (.iconst 2, 1) := by decide +kernel
theorem dX7_isTooLong_5 : decode cX7_isTooLong 5 = .ok (.if_icmp .ne 20, 3) := by decide +kernel
theorem dX7_isTooLong_8 : decode cX7_isTooLong 8 = .ok (.aload_n 0, 1) := by decide +kernel
theorem dX7_isTooLong_9 : decode cX7_isTooLong 9 = .ok (.getfield 23, 3) := by decide +kernel
theorem dX7_isTooLong_12 : decode cX7_isTooLong 12 = .ok (.aload_n 0, 1) := by decide +kernel
theorem dX7_isTooLong_13 : decode cX7_isTooLong 13 = .ok (.getfield 29, 3) := by decide +kernel
theorem dX7_isTooLong_16 : decode cX7_isTooLong 16 = .ok (.isub, 1) := by decide +kernel
theorem dX7_isTooLong_17 : decode cX7_isTooLong 17 = .ok (.iconst 4, 1) := by decide +kernel
theorem dX7_isTooLong_18 : decode cX7_isTooLong 18 = .ok (.if_icmp .le 7, 3) := by decide +kernel
theorem dX7_isTooLong_21 : decode cX7_isTooLong 21 = .ok (.iconst 1, 1) := by decide +kernel
theorem dX7_isTooLong_22 : decode cX7_isTooLong 22 = .ok (.goto 4, 3) := by decide +kernel
theorem dX7_isTooLong_25 : decode cX7_isTooLong 25 = .ok (.iconst 0, 1) := by decide +kernel
theorem dX7_isTooLong_26 : decode cX7_isTooLong 26 = .ok (.ireturn, 1) := by decide +kernel
theorem dX7_is_0 : decode cX7_is 0 = .ok (.aload_n 0, 1) := by decide +kernel
theorem dX7_is_1 : decode cX7_is 1 = .ok (.getfield 32, 3) := by decide +kernel
theorem dX7_is_4 : decode cX7_is 4 = .ok (.iconst 1, 1) := by decide +kernel
theorem dX7_is_5 : decode cX7_is 5 = .ok (.if_icmp .ne 19, 3) := by decide +kernel
theorem dX7_is_8 : decode cX7_is 8 = .ok (.aload_n 0, 1) := by decide +kernel
theorem dX7_is_9 : decode cX7_is 9 = .ok (.getfield 23, 3) := by decide +kernel
theorem dX7_is_12 : decode cX7_is 12 = .ok (.aload_n 0, 1) := by decide +kernel
theorem dX7_is_13 : decode cX7_is 13 = .ok (.getfield 29, 3) := by decide +kernel
theorem dX7_is_16 : decode cX7_is 16 = .ok (.isub, 1) := by decide +kernel
theorem dX7_is_17 : decode cX7_is 17 = .ok (.aload_n 1, 1) := by decide +kernel
theorem dX7_is_18 : decode cX7_is 18 = .ok (.invokevirtual 42, 3) := by decide +kernel
theorem dX7_is_21 : decode cX7_is 21 = .ok (.if_icmp .eq 5, 3) := by decide +kernel
theorem dX7_is_24 : decode cX7_is 24 = .ok (.iconst 0, 1) := by decide +kernel
theorem dX7_is_25 : decode cX7_is 25 = .ok (.ireturn, 1) := by decide +kernel
theorem dX7_is_26 : decode cX7_is 26 = .ok (.iconst 0, 1) := by decide +kernel
theorem dX7_is_27 : decode cX7_is 27 = .ok (.istore_n 2, 1) := by decide +kernel
theorem dX7_is_28 : decode cX7_is 28 = .ok (.iload_n 2, 1) := by decide +kernel
theorem dX7_is_29 : decode cX7_is 29 = .ok (.aload_n 1, 1) := by decide +kernel
theorem dX7_is_30 : decode cX7_is 30 = .ok (.invokevirtual 42, 3) := by decide +kernel
theorem dX7_is_33 : decode cX7_is 33 = .ok (.if_icmp .ge 43, 3) := by decide +kernel
theorem dX7_is_36 : decode cX7_is 36 = .ok (.aload_n 0, 1) := by decide +kernel
theorem dX7_is_37 : decode cX7_is 37 = .ok (.getfield 29, 3) := by decide +kernel
theorem dX7_is_40 : decode cX7_is 40 = .ok (.iload_n 2, 1) := by decide +kernel
theorem dX7_is_41 : decode cX7_is 41 = .ok (.iadd, 1) := by decide +kernel
theorem dX7_is_42 : decode cX7_is 42 = .ok (.aload_n 0, 1) := by decide +kernel
theorem dX7_is_43 : decode cX7_is 43 = .ok (.getfield 19, 3) := by decide +kernel
theorem dX7_is_46 : decode cX7_is 46 = .ok (.if_icmp .ge 30, 3) := by decide +kernel
theorem dX7_is_49 : decode cX7_is 49 = .ok (.aload_n 0, 1) := by decide +kernel
theorem dX7_is_50 : decode cX7_is 50 = .ok (.getfield 7, 3) := by decide +kernel
theorem dX7_is_53 : decode cX7_is 53 = .ok (.aload_n 0, 1) := by decide +kernel
theorem dX7_is_54 : decode cX7_is 54 = .ok (.getfield 29, 3) := by decide +kernel
theorem dX7_is_57 : decode cX7_is 57 = .ok (.iload_n 2, 1) := by decide +kernel
theorem dX7_is_58 : decode cX7_is 58 = .ok (.iadd, 1) := by decide +kernel
theorem dX7_is_59 : decode cX7_is 59 = .ok (.baload, 1) := by decide +kernel
theorem dX7_is_60 : decode cX7_is 60 = .ok (.aload_n 1, 1) := by decide +kernel
theorem dX7_is_61 : decode cX7_is 61 = .ok (.iload_n 2, 1) := by decide +kernel
theorem dX7_is_62 : decode cX7_is 62 = .ok (.invokevirtual 47, 3) := by decide +kernel
theorem dX7_is_65 : decode cX7_is 65 = .ok (.if_icmp .eq 5, 3) := by decide +kernel
theorem dX7_is_68 : decode cX7_is 68 = .ok (.iconst 0, 1) := by decide +kernel
theorem dX7_is_69 : decode cX7_is 69 = .ok (.ireturn, 1) := by decide +kernel
theorem dX7_is_70 : decode cX7_is 70 = .ok (.iinc 2 1, 3) := by decide +kernel
theorem dX7_is_73 : decode cX7_is 73 = .ok (.goto (-45), 3) := by decide +kernel
theorem dX7_is_76 : decode cX7_is 76 = .ok (.iconst 1, 1) := by decide +kernel
theorem dX7_is_77 : decode cX7_is 77 = .ok (.ireturn, 1) := by decide +kernel
theorem dX8_init_0 : decode cX8_init 0 = .ok (.aload_n 0, 1) := by decide +kernel
theorem dX8_init_1 : decode cX8_init 1 = .ok (.invokespecial 3, 3) := by decide +kernel
theorem dX8_init_4 : decode cX8_init 4 = .ok (.aload_n 0, 1) := by decide +kernel
theorem dX8_init_5 : decode cX8_init 5 = .ok (.bipush 8, 2) := by decide +kernel
theorem dX8_init_7 : decode cX8_init 7 = .ok (.newarray .int, 2) := by decide +kernel
theorem dX8_init_9 : decode cX8_init 9 = .ok (.putfield 9, 3) := by decide +kernel
theorem dX8_init_12 : decode cX8_init 12 = .ok (.aload_n 0, 1) := by decide +kernel
theorem dX8_init_13 : decode cX8_init 13 = .ok (.bipush 8, 2) := by decide +kernel
theorem dX8_init_15 : decode cX8_init 15 = .ok (.newarray .int, 2) := by decide +kernel
theorem dX8_init_17 : decode cX8_init 17 = .ok (.putfield 15, 3) := by decide +kernel
theorem dX8_init_20 : decode cX8_init 20 = .ok (.aload_n 0, 1) := by decide +kernel
theorem dX8_init_21 : decode cX8_init 21 = .ok (.bipush 48, 2) := by decide +kernel
theorem dX8_init_23 : decode cX8_init 23 = .ok (.newarray .int, 2) := by decide +kernel
theorem dX8_init_25 : decode cX8_init 25 = .ok (.putfield 18, 3) := by decide +kernel
theorem dX8_init_28 : decode cX8_init 28 = .ok (.aload_n 0, 1) := by decide +kernel
theorem dX8_init_29 : decode cX8_init 29 = .ok (.bipush 8, 2) := by decide +kernel
theorem dX8_init_31 : decode cX8_init 31 = .ok (.newarray .int, 2) := by decide +kernel
theorem dX8_init_33 : decode cX8_init 33 = .ok (.putfield 21, 3) := by decide +kernel
theorem dX8_init_36 : decode cX8_init 36 = .ok (.aload_n 0, 1) := by decide +kernel
theorem dX8_init_37 : decode cX8_init 37 = .ok (.bipush 64, 2) := by decide +kernel
theorem dX8_init_39 : decode cX8_init 39 = .ok (.newarray .int, 2) := by decide +kernel
theorem dX8_init_41 : decode cX8_init 41 = .ok (.putfield 24, 3) := by decide +kernel
theorem dX8_init_44 : decode cX8_init 44 = .ok (.aload_n 0, 1) := by decide +kernel
theorem dX8_init_45 : decode cX8_init 45 = .ok (.bipush 6, 2) := by decide +kernel
theorem dX8_init_47 : decode cX8_init 47 = .ok (.newarray .int, 2) := by decide +kernel
theorem dX8_init_49 : decode cX8_init 49 = .ok (.putfield 27, 3) := by decide +kernel
theorem dX8_init_52 : decode cX8_init 52 = .ok (.aload_n 0, 1) := by decide +kernel
theorem dX8_init_53 : decode cX8_init 53 = .ok (.bipush 36, 2) := by decide +kernel
theorem dX8_init_55 : decode cX8_init 55 = .ok (.newarray .int, 2) := by decide +kernel
theorem dX8_init_57 : decode cX8_init 57 = .ok (.putfield 30, 3) := by decide +kernel
theorem dX8_init_60 : decode cX8_init 60 = .ok (.aload_n 0, 1) := by decide +kernel
theorem dX8_init_61 : decode cX8_init 61 = .ok (.bipush 6, 2) := by decide +kernel
theorem dX8_init_63 : decode cX8_init 63 = .ok (.newarray .int, 2) := by decide +kernel
theorem dX8_init_65 : decode cX8_init 65 = .ok (.putfield 33, 3) := by decide +kernel
theorem dX8_init_68 : decode cX8_init 68 = .ok (.aload_n 0, 1) := by decide +kernel
theorem dX8_init_69 : decode cX8_init 69 = .ok (.bipush 8, 2) := by decide +kernel
theorem dX8_init_71 : decode cX8_init 71 = .ok (.newarray .int, 2) := by decide +kernel
theorem dX8_init_73 : decode cX8_init 73 = .ok (.putfield 36, 3) := by decide +kernel
theorem dX8_init_76 : decode cX8_init 76 = .ok (.sipush 701, 3) := by decide +kernel
theorem dX8_init_79 : decode cX8_init 79 = .ok (.newarray .int, 2) := by decide +kernel
theorem dX8_init_81 : decode cX8_init 81 = .ok (.astore_n 1, 1) := by decide +kernel
theorem dX8_init_82 : decode cX8_init 82 = .ok (.aload_n 0, 1) := by decide +kernel
theorem dX8_init_83 : decode cX8_init 83 = .ok (.new 39, 3) := by decide +kernel
theorem dX8_init_86 : decode cX8_init 86 = .ok (.dup, 1) := by decide +kernel
theorem dX8_init_87 : decode cX8_init 87 = .ok (.aload_n 1, 1) := by decide +kernel
theorem dX8_init_88 : decode cX8_init 88 = .ok (.invokespecial 41, 3) := by decide +kernel
theorem dX8_init_91 : decode cX8_init 91 = .ok (.putfield 44, 3) := by decide +kernel
theorem dX8_init_94 : decode cX8_init 94 = .ok (.aload_n 0, 1) := by decide +kernel
theorem dX8_init_95 : decode cX8_init 95 = .ok (.new 39, 3) := by decide +kernel
theorem dX8_init_98 : decode cX8_init 98 = .ok (.dup, 1) := by decide +kernel
theorem dX8_init_99 : decode cX8_init 99 = .ok (.aload_n 1, 1) := by decide +kernel
theorem dX8_init_100 : decode cX8_init 100 = .ok (.invokespecial 41, 3) := by decide +kernel
theorem dX8_init_103 : decode cX8_init 103 = .ok (.putfield 48, 3) := by decide +kernel
theorem dX8_init_106 : decode cX8_init 106 = .ok (.return_, 1) := by decide +kernel
theorem dX8_clear_0 : decode cX8_clear 0 = .ok (.aload_n 0, 1) := by decide +kernel
theorem dX8_clear_1 : decode cX8_clear 1 = .ok (.iconst 0, 1) := by decide +kernel
theorem dX8_clear_2 : decode cX8_clear 2 = .ok (.putfield 51, 3) := by decide +kernel
theorem dX8_clear_5 : decode cX8_clear 5 = .ok (.aload_n 0, 1) := by decide +kernel
theorem dX8_clear_6 : decode cX8_clear 6 = .ok (.iconst 0, 1) := by decide +kernel
theorem dX8_clear_7 : decode cX8_clear 7 = .ok (.putfield 55, 3) := by decide +kernel
theorem dX8_clear_10 : decode cX8_clear 10 = .ok (.aload_n 0, 1) := by decide +kernel
theorem dX8_clear_11 : decode cX8_clear 11 = .ok (.iconst 0, 1) := by decide +kernel
theorem dX8_clear_12 : decode cX8_clear 12 = .ok (.putfield 58, 3) := by decide +kernel
theorem dX8_clear_15 : decode cX8_clear 15 = .ok (.aload_n 0, 1) := by decide +kernel
theorem dX8_clear_16 : decode cX8_clear 16 = .ok (.getfield 21, 3) := by decide +kernel
theorem dX8_clear_19 : decode cX8_clear 19 = .ok (.iconst 0, 1) := by decide +kernel
theorem dX8_clear_20 : decode cX8_clear 20 = .ok (.invokestatic 61, 3) := by decide +kernel
theorem dX8_clear_23 : decode cX8_clear 23 = .ok (.aload_n 0, 1) := by decide +kernel
theorem dX8_clear_24 : decode cX8_clear 24 = .ok (.getfield 24, 3) := by decide +kernel
theorem dX8_clear_27 : decode cX8_clear 27 = .ok (.ldc 67, 2) := by decide +kernel
theorem dX8_clear_29 : decode cX8_clear 29 = .ok (.invokestatic 61, 3) := by decide +kernel
theorem dX8_clear_32 : decode cX8_clear 32 = .ok (.aload_n 0, 1) := by decide +kernel
theorem dX8_clear_33 : decode cX8_clear 33 = .ok (.getfield 36, 3) := by decide +kernel
theorem dX8_clear_36 : decode cX8_clear 36 = .ok (.iconst (-1), 1) := by decide +kernel
theorem dX8_clear_37 : decode cX8_clear 37 = .ok (.invokestatic 61, 3) := by decide +kernel
theorem dX8_clear_40 : decode cX8_clear 40 = .ok (.aload_n 0, 1) := by decide +kernel
theorem dX8_clear_41 : decode cX8_clear 41 = .ok (.getfield 44, 3) := by decide +kernel
theorem dX8_clear_44 : decode cX8_clear 44 = .ok (.iconst 0, 1) := by decide +kernel
theorem dX8_clear_45 : decode cX8_clear 45 = .ok (.invokevirtual 68, 3) := by decide +kernel
theorem dX8_clear_48 : decode cX8_clear 48 = .ok (.aload_n 0, 1) := by decide +kernel
theorem dX8_clear_49 : decode cX8_clear 49 = .ok (.getfield 48, 3) := by decide +kernel
theorem dX8_clear_52 : decode cX8_clear 52 = .ok (.iconst 0, 1) := by decide +kernel
theorem dX8_clear_53 : decode cX8_clear 53 = .ok (.invokevirtual 68, 3) := by decide +kernel
theorem dX8_clear_56 : decode cX8_clear 56 = .ok (.return_, 1) := by decide +kernel
theorem dX8_codeEnd_0 : decode cX8_codeEnd 0 = .ok (.aload_n 0, 1) := by decide +kernel
theorem dX8_codeEnd_1 : decode cX8_codeEnd 1 = .ok (.getfield 44, 3) := by decide +kernel
theorem dX8_codeEnd_4 : decode cX8_codeEnd 4 = .ok (.invokevirtual 72, 3) := by decide +kernel
theorem dX8_codeEnd_7 : decode cX8_codeEnd 7 = .ok (.aload_n 0, 1) := by decide +kernel
theorem dX8_codeEnd_8 : decode cX8_codeEnd 8 = .ok (.getfield 48, 3) := by decide +kernel
theorem dX8_codeEnd_11 : decode cX8_codeEnd 11 = .ok (.invokevirtual 72, 3) := by decide +kernel
theorem dX8_codeEnd_14 : decode cX8_codeEnd 14 = .ok (.invokestatic 76, 3) := by decide +kernel
theorem dX8_codeEnd_17 : decode cX8_codeEnd 17 = .ok (.ireturn, 1) := by decide +kernel
theorem dX8_addPath_0 : decode cX8_addPath 0 = .ok (.aload_n 0, 1) := by decide +kernel
theorem dX8_addPath_1 : decode cX8_addPath 1 = .ok (.getfield 21, 3) := by decide +kernel
theorem dX8_addPath_4 : decode cX8_addPath 4 = .ok (.iload_n 1, 1) := by decide +kernel
theorem dX8_addPath_5 : decode cX8_addPath 5 = .ok (.dup2, 1) := by decide +kernel
theorem dX8_addPath_6 : decode cX8_addPath 6 = .ok (.iaload, 1) := by decide +kernel
theorem dX8_addPath_7 : decode cX8_addPath 7 = .ok (.iconst 1, 1) := by decide +kernel
theorem dX8_addPath_8 : decode cX8_addPath 8 = .ok (.iload_n 2, 1) := by decide +kernel
theorem dX8_addPath_9 : decode cX8_addPath 9 = .ok (.ishl, 1) := by decide +kernel
theorem dX8_addPath_10 : decode cX8_addPath 10 = .ok (.ior, 1) := by decide +kernel
theorem dX8_addPath_11 : decode cX8_addPath 11 = .ok (.iastore, 1) := by decide +kernel
theorem dX8_addPath_12 : decode cX8_addPath 12 = .ok (.aload_n 0, 1) := by decide +kernel
theorem dX8_addPath_13 : decode cX8_addPath 13 = .ok (.getfield 21, 3) := by decide +kernel
theorem dX8_addPath_16 : decode cX8_addPath 16 = .ok (.iload_n 2, 1) := by decide +kernel
theorem dX8_addPath_17 : decode cX8_addPath 17 = .ok (.dup2, 1) := by decide +kernel
theorem dX8_addPath_18 : decode cX8_addPath 18 = .ok (.iaload, 1) := by decide +kernel
theorem dX8_addPath_19 : decode cX8_addPath 19 = .ok (.iconst 1, 1) := by decide +kernel
theorem dX8_addPath_20 : decode cX8_addPath 20 = .ok (.iload_n 1, 1) := by decide +kernel
theorem dX8_addPath_21 : decode cX8_addPath 21 = .ok (.ishl, 1) := by decide +kernel
theorem dX8_addPath_22 : decode cX8_addPath 22 = .ok (.ior, 1) := by decide +kernel
theorem dX8_addPath_23 : decode cX8_addPath 23 = .ok (.iastore, 1) := by decide +kernel
theorem dX8_addPath_24 : decode cX8_addPath 24 = .ok (.aload_n 0, 1) := by decide +kernel
theorem dX8_addPath_25 : decode cX8_addPath 25 = .ok (.getfield 24, 3) := by decide +kernel
theorem dX8_addPath_28 : decode cX8_addPath 28 = .ok (.iload_n 1, 1) := by decide +kernel
theorem dX8_addPath_29 : decode cX8_addPath 29 = .ok (.bipush 8, 2) := by decide +kernel
theorem dX8_addPath_31 : decode cX8_addPath 31 = .ok (.imul, 1) := by decide +kernel
theorem dX8_addPath_32 : decode cX8_addPath 32 = .ok (.iload_n 2, 1) := by decide +kernel
theorem dX8_addPath_33 : decode cX8_addPath 33 = .ok (.iadd, 1) := by decide +kernel
theorem dX8_addPath_34 : decode cX8_addPath 34 = .ok (.iload_n 3, 1) := by decide +kernel
theorem dX8_addPath_35 : decode cX8_addPath 35 = .ok (.iastore, 1) := by decide +kernel
theorem dX8_addPath_36 : decode cX8_addPath 36 = .ok (.aload_n 0, 1) := by decide +kernel
theorem dX8_addPath_37 : decode cX8_addPath 37 = .ok (.getfield 24, 3) := by decide +kernel
theorem dX8_addPath_40 : decode cX8_addPath 40 = .ok (.iload_n 2, 1) := by decide +kernel
theorem dX8_addPath_41 : decode cX8_addPath 41 = .ok (.bipush 8, 2) := by decide +kernel
theorem dX8_addPath_43 : decode cX8_addPath 43 = .ok (.imul, 1) := by decide +kernel
theorem dX8_addPath_44 : decode cX8_addPath 44 = .ok (.iload_n 1, 1) := by decide +kernel
theorem dX8_addPath_45 : decode cX8_addPath 45 = .ok (.iadd, 1) := by decide +kernel
theorem dX8_addPath_46 : decode cX8_addPath 46 = .ok (.iload_n 3, 1) := by decide +kernel
theorem dX8_addPath_47 : decode cX8_addPath 47 = .ok (.iastore, 1) := by decide +kernel
theorem dX8_addPath_48 : decode cX8_addPath 48 = .ok (.aload_n 0, 1) := by decide +kernel
theorem dX8_addPath_49 : decode cX8_addPath 49 = .ok (.dup, 1) := by decide +kernel
theorem dX8_addPath_50 : decode cX8_addPath 50 = .ok (.getfield 55, 3) := by decide +kernel
theorem dX8_addPath_53 : decode cX8_addPath 53 = .ok (.iconst 1, 1) := by decide +kernel
theorem dX8_addPath_54 : decode cX8_addPath 54 = .ok (.iadd, 1) := by decide +kernel
theorem dX8_addPath_55 : decode cX8_addPath 55 = .ok (.putfield 55, 3) := by decide +kernel
theorem dX8_addPath_58 : decode cX8_addPath 58 = .ok (.return_, 1) := by decide +kernel
theorem dX8_measure_0 : decode cX8_measure 0 = .ok (.iconst 0, 1) := by decide +kernel
theorem dX8_measure_1 : decode cX8_measure 1 = .ok (.istore_n 1, 1) := by decide +kernel
theorem dX8_measure_2 : decode cX8_measure 2 = .ok (.iload_n 1, 1) := by decide +kernel
theorem dX8_measure_3 : decode cX8_measure 3 = .ok (.aload_n 0, 1) := by decide +kernel
theorem dX8_measure_4 : decode cX8_measure 4 = .ok (.getfield 51, 3) := by decide +kernel
theorem dX8_measure_7 : decode cX8_measure 7 = .ok (.if_icmp .ge 21, 3) := by decide +kernel
theorem dX8_measure_10 : decode cX8_measure 10 = .ok (.aload_n 0, 1) := by decide +kernel
theorem dX8_measure_11 : decode cX8_measure 11 = .ok (.getfield 24, 3) := by decide +kernel
theorem dX8_measure_14 : decode cX8_measure 14 = .ok (.iload_n 1, 1) := by decide +kernel
theorem dX8_measure_15 : decode cX8_measure 15 = .ok (.bipush 8, 2) := by decide +kernel
theorem dX8_measure_17 : decode cX8_measure 17 = .ok (.imul, 1) := by decide +kernel
theorem dX8_measure_18 : decode cX8_measure 18 = .ok (.iload_n 1, 1) := by decide +kernel
theorem dX8_measure_19 : decode cX8_measure 19 = .ok (.iadd, 1) := by decide +kernel
theorem dX8_measure_20 : decode cX8_measure 20 = .ok (.iconst 0, 1) := by decide +kernel
theorem dX8_measure_21 : decode cX8_measure 21 = .ok (.iastore, 1) := by decide +kernel
theorem dX8_measure_22 : decode cX8_measure 22 = .ok (.iinc 1 1, 3) := by decide +kernel
theorem dX8_measure_25 : decode cX8_measure 25 = .ok (.goto (-23), 3) := by decide +kernel
theorem dX8_measure_28 : decode cX8_measure 28 = .ok (.iconst 0, 1) := by decide +kernel
theorem dX8_measure_29 : decode cX8_measure 29 = .ok (.istore_n 1, 1) := by decide +kernel
theorem dX8_measure_30 : decode cX8_measure 30 = .ok (.iload_n 1, 1) := by decide +kernel
theorem dX8_measure_31 : decode cX8_measure 31 = .ok (.aload_n 0, 1) := by decide +kernel
theorem dX8_measure_32 : decode cX8_measure 32 = .ok (.getfield 51, 3) := by decide +kernel
theorem dX8_measure_35 : decode cX8_measure 35 = .ok (.if_icmp .ge 95, 3) := by decide +kernel
theorem dX8_measure_38 : decode cX8_measure 38 = .ok (.iconst 0, 1) := by decide +kernel
theorem dX8_measure_39 : decode cX8_measure 39 = .ok (.istore_n 2, 1) := by decide +kernel
theorem dX8_measure_40 : decode cX8_measure 40 = .ok (.iload_n 2, 1) := by decide +kernel
theorem dX8_measure_41 : decode cX8_measure 41 = .ok (.aload_n 0, 1) := by decide +kernel
theorem dX8_measure_42 : decode cX8_measure 42 = .ok (.getfield 51, 3) := by decide +kernel
theorem dX8_measure_45 : decode cX8_measure 45 = .ok (.if_icmp .ge 79, 3) := by decide +kernel
theorem dX8_measure_48 : decode cX8_measure 48 = .ok (.iconst 0, 1) := by decide +kernel
theorem dX8_measure_49 : decode cX8_measure 49 = .ok (.istore_n 3, 1) := by decide +kernel
theorem dX8_measure_50 : decode cX8_measure 50 = .ok (.iload_n 3, 1) := by decide +kernel
theorem dX8_measure_51 : decode cX8_measure 51 = .ok (.aload_n 0, 1) := by decide +kernel
theorem dX8_measure_52 : decode cX8_measure 52 = .ok (.getfield 51, 3) := by decide +kernel
theorem dX8_measure_55 : decode cX8_measure 55 = .ok (.if_icmp .ge 63, 3) := by decide +kernel
theorem dX8_measure_58 : decode cX8_measure 58 = .ok (.aload_n 0, 1) := by decide +kernel
theorem dX8_measure_59 : decode cX8_measure 59 = .ok (.getfield 24, 3) := by decide +kernel
theorem dX8_measure_62 : decode cX8_measure 62 = .ok (.iload_n 2, 1) := by decide +kernel
theorem dX8_measure_63 : decode cX8_measure 63 = .ok (.bipush 8, 2) := by decide +kernel
theorem dX8_measure_65 : decode cX8_measure 65 = .ok (.imul, 1) := by decide +kernel
theorem dX8_measure_66 : decode cX8_measure 66 = .ok (.iload_n 1, 1) := by decide +kernel
theorem dX8_measure_67 : decode cX8_measure 67 = .ok (.iadd, 1) := by decide +kernel
theorem dX8_measure_68 : decode cX8_measure 68 = .ok (.iaload, 1) := by decide +kernel
theorem dX8_measure_69 : decode cX8_measure 69 = .ok (.aload_n 0, 1) := by decide +kernel
theorem dX8_measure_70 : decode cX8_measure 70 = .ok (.getfield 24, 3) := by decide +kernel
theorem dX8_measure_73 : decode cX8_measure 73 = .ok (.iload_n 1, 1) := by decide +kernel
theorem dX8_measure_74 : decode cX8_measure 74 = .ok (.bipush 8, 2) := by decide +kernel
theorem dX8_measure_76 : decode cX8_measure 76 = .ok (.imul, 1) := by decide +kernel
theorem dX8_measure_77 : decode cX8_measure 77 = .ok (.iload_n 3, 1) := by decide +kernel
theorem dX8_measure_78 : decode cX8_measure 78 = .ok (.iadd, 1) := by decide +kernel
theorem dX8_measure_79 : decode cX8_measure 79 = .ok (.iaload, 1) := by decide +kernel
theorem dX8_measure_80 : decode cX8_measure 80 = .ok (.iadd, 1) := by decide +kernel
theorem dX8_measure_81 : decode cX8_measure 81 = .ok (.istore 4, 2) := by decide +kernel
theorem dX8_measure_83 : decode cX8_measure 83 = .ok (.iload 4, 2) := by decide +kernel
theorem dX8_measure_85 : decode cX8_measure 85 = .ok (.aload_n 0, 1) := by decide +kernel
theorem dX8_measure_86 : decode cX8_measure 86 = .ok (.getfield 24, 3) := by decide +kernel
theorem dX8_measure_89 : decode cX8_measure 89 = .ok (.iload_n 2, 1) := by decide +kernel
theorem dX8_measure_90 : decode cX8_measure 90 = .ok (.bipush 8, 2) := by decide +kernel
theorem dX8_measure_92 : decode cX8_measure 92 = .ok (.imul, 1) := by decide +kernel
theorem dX8_measure_93 : decode cX8_measure 93 = .ok (.iload_n 3, 1) := by decide +kernel
theorem dX8_measure_94 : decode cX8_measure 94 = .ok (.iadd, 1) := by decide +kernel
theorem dX8_measure_95 : decode cX8_measure 95 = .ok (.iaload, 1) := by decide +kernel
theorem dX8_measure_96 : decode cX8_measure 96 = .ok (.if_icmp .ge 16, 3) := by decide +kernel
theorem dX8_measure_99 : decode cX8_measure 99 = .ok (.aload_n 0, 1) := by decide +kernel
theorem dX8_measure_100 : decode cX8_measure 100 = .ok (.getfield 24, 3) := by decide +kernel
theorem dX8_measure_103 : decode cX8_measure 103 = .ok (.iload_n 2, 1) := by decide +kernel
theorem dX8_measure_104 : decode cX8_measure 104 = .ok (.bipush 8, 2) := by decide +kernel
theorem dX8_measure_106 : decode cX8_measure 106 = .ok (.imul, 1) := by decide +kernel
theorem dX8_measure_107 : decode cX8_measure 107 = .ok (.iload_n 3, 1) := by decide +kernel
theorem dX8_measure_108 : decode cX8_measure 108 = .ok (.iadd, 1) := by decide +kernel
theorem dX8_measure_109 : decode cX8_measure 109 = .ok (.iload 4, 2) := by decide +kernel
theorem dX8_measure_111 : decode cX8_measure 111 = .ok (.iastore, 1) := by decide +kernel
theorem dX8_measure_112 : decode cX8_measure 112 = .ok (.iinc 3 1, 3) := by decide +kernel
theorem dX8_measure_115 : decode cX8_measure 115 = .ok (.goto (-65), 3) := by decide +kernel
theorem dX8_measure_118 : decode cX8_measure 118 = .ok (.iinc 2 1, 3) := by decide +kernel
theorem dX8_measure_121 : decode cX8_measure 121 = .ok (.goto (-81), 3) := by decide +kernel
theorem dX8_measure_124 : decode cX8_measure 124 = .ok (.iinc 1 1, 3) := by decide +kernel
theorem dX8_measure_127 : decode cX8_measure 127 = .ok (.goto (-97), 3) := by decide +kernel
theorem dX8_measure_130 : decode cX8_measure 130 = .ok (.return_, 1) := by decide +kernel
theorem dX8_placeOf_0 : decode cX8_placeOf 0 = .ok (.aload_n 0, 1) := by decide +kernel
theorem dX8_placeOf_1 : decode cX8_placeOf 1 = .ok (.getfield 27, 3) := by decide +kernel
theorem dX8_placeOf_4 : decode cX8_placeOf 4 = .ok (.iload_n 2, 1) := by decide +kernel
theorem dX8_placeOf_5 : decode cX8_placeOf 5 = .ok (.iaload, 1) := by decide +kernel
theorem dX8_placeOf_6 : decode cX8_placeOf 6 = .ok (.istore_n 3, 1) := by decide +kernel
theorem dX8_placeOf_7 : decode cX8_placeOf 7 = .ok (.iload_n 3, 1) := by decide +kernel
theorem dX8_placeOf_8 : decode cX8_placeOf 8 = .ok (.iconst 1, 1) := by decide +kernel
theorem dX8_placeOf_9 : decode cX8_placeOf 9 = .ok (.if_icmp .ge 7, 3) := by decide +kernel
theorem dX8_placeOf_12 : decode cX8_placeOf 12 = .ok (.iconst 0, 1) := by decide +kernel
theorem dX8_placeOf_13 : decode cX8_placeOf 13 = .ok (.goto 18, 3) := by decide +kernel
theorem dX8_placeOf_16 : decode cX8_placeOf 16 = .ok (.aload_n 1, 1) := by decide +kernel
theorem dX8_placeOf_17 : decode cX8_placeOf 17 = .ok (.bipush 62, 2) := by decide +kernel
theorem dX8_placeOf_19 : decode cX8_placeOf 19 = .ok (.iload_n 2, 1) := by decide +kernel
theorem dX8_placeOf_20 : decode cX8_placeOf 20 = .ok (.bipush 6, 2) := by decide +kernel
theorem dX8_placeOf_22 : decode cX8_placeOf 22 = .ok (.imul, 1) := by decide +kernel
theorem dX8_placeOf_23 : decode cX8_placeOf 23 = .ok (.iadd, 1) := by decide +kernel
theorem dX8_placeOf_24 : decode cX8_placeOf 24 = .ok (.aload_n 1, 1) := by decide +kernel
theorem dX8_placeOf_25 : decode cX8_placeOf 25 = .ok (.iconst 0, 1) := by decide +kernel
theorem dX8_placeOf_26 : decode cX8_placeOf 26 = .ok (.iaload, 1) := by decide +kernel
theorem dX8_placeOf_27 : decode cX8_placeOf 27 = .ok (.iload_n 3, 1) := by decide +kernel
theorem dX8_placeOf_28 : decode cX8_placeOf 28 = .ok (.irem, 1) := by decide +kernel
theorem dX8_placeOf_29 : decode cX8_placeOf 29 = .ok (.iadd, 1) := by decide +kernel
theorem dX8_placeOf_30 : decode cX8_placeOf 30 = .ok (.iaload, 1) := by decide +kernel
theorem dX8_placeOf_31 : decode cX8_placeOf 31 = .ok (.ireturn, 1) := by decide +kernel
theorem dJ6_bitCount_0f7a4_0 : decode cJ6_bitCount_0f7a4 0 = .ok (.iload_n 0, 1) := by decide +kernel
theorem dJ6_bitCount_0f7a4_1 : decode cJ6_bitCount_0f7a4 1 = .ok (.iload_n 0, 1) := by decide +kernel
theorem dJ6_bitCount_0f7a4_2 : decode cJ6_bitCount_0f7a4 2 = .ok (.iconst 1, 1) := by decide +kernel
theorem dJ6_bitCount_0f7a4_3 : decode cJ6_bitCount_0f7a4 3 = .ok (.iushr, 1) := by decide +kernel
theorem dJ6_bitCount_0f7a4_4 : decode cJ6_bitCount_0f7a4 4 = .ok (.ldc_w 265, 3) := by decide +kernel
theorem dJ6_bitCount_0f7a4_7 : decode cJ6_bitCount_0f7a4 7 = .ok (.iand, 1) := by decide +kernel
theorem dJ6_bitCount_0f7a4_8 : decode cJ6_bitCount_0f7a4 8 = .ok (.isub, 1) := by decide +kernel
theorem dJ6_bitCount_0f7a4_9 : decode cJ6_bitCount_0f7a4 9 = .ok (.istore_n 0, 1) := by decide +kernel
theorem dJ6_bitCount_0f7a4_10 : decode cJ6_bitCount_0f7a4 10 = .ok (.iload_n 0, 1) := by decide +kernel
theorem dJ6_bitCount_0f7a4_11 : decode cJ6_bitCount_0f7a4 11 = .ok (.ldc_w 266, 3) := by decide +kernel
theorem dJ6_bitCount_0f7a4_14 : decode cJ6_bitCount_0f7a4 14 = .ok (.iand, 1) := by decide +kernel
theorem dJ6_bitCount_0f7a4_15 : decode cJ6_bitCount_0f7a4 15 = .ok (.iload_n 0, 1) := by decide +kernel
theorem dJ6_bitCount_0f7a4_16 : decode cJ6_bitCount_0f7a4 16 = .ok (.iconst 2, 1) := by decide +kernel
theorem dJ6_bitCount_0f7a4_17 : decode cJ6_bitCount_0f7a4 17 = .ok (.iushr, 1) := by decide +kernel
theorem dJ6_bitCount_0f7a4_18 : decode cJ6_bitCount_0f7a4 18 = .ok (.ldc_w 266, 3) := by decide +kernel
theorem dJ6_bitCount_0f7a4_21 : decode cJ6_bitCount_0f7a4 21 = .ok (.iand, 1) := by decide +kernel
theorem dJ6_bitCount_0f7a4_22 : decode cJ6_bitCount_0f7a4 22 = .ok (.iadd, 1) := by decide +kernel
theorem dJ6_bitCount_0f7a4_23 : decode cJ6_bitCount_0f7a4 23 = .ok (.istore_n 0, 1) := by decide +kernel
theorem dJ6_bitCount_0f7a4_24 : decode cJ6_bitCount_0f7a4 24 = .ok (.iload_n 0, 1) := by decide +kernel
theorem dJ6_bitCount_0f7a4_25 : decode cJ6_bitCount_0f7a4 25 = .ok (.iload_n 0, 1) := by decide +kernel
theorem dJ6_bitCount_0f7a4_26 : decode cJ6_bitCount_0f7a4 26 = .ok (.iconst 4, 1) := by decide +kernel
theorem dJ6_bitCount_0f7a4_27 : decode cJ6_bitCount_0f7a4 27 = .ok (.iushr, 1) := by decide +kernel
theorem dJ6_bitCount_0f7a4_28 : decode cJ6_bitCount_0f7a4 28 = .ok (.iadd, 1) := by decide +kernel
theorem dJ6_bitCount_0f7a4_29 : decode cJ6_bitCount_0f7a4 29 = .ok (.ldc_w 267, 3) := by decide +kernel
theorem dJ6_bitCount_0f7a4_32 : decode cJ6_bitCount_0f7a4 32 = .ok (.iand, 1) := by decide +kernel
theorem dJ6_bitCount_0f7a4_33 : decode cJ6_bitCount_0f7a4 33 = .ok (.istore_n 0, 1) := by decide +kernel
theorem dJ6_bitCount_0f7a4_34 : decode cJ6_bitCount_0f7a4 34 = .ok (.iload_n 0, 1) := by decide +kernel
theorem dJ6_bitCount_0f7a4_35 : decode cJ6_bitCount_0f7a4 35 = .ok (.iload_n 0, 1) := by decide +kernel
theorem dJ6_bitCount_0f7a4_36 : decode cJ6_bitCount_0f7a4 36 = .ok (.bipush 8, 2) := by decide +kernel
theorem dJ6_bitCount_0f7a4_38 : decode cJ6_bitCount_0f7a4 38 = .ok (.iushr, 1) := by decide +kernel
theorem dJ6_bitCount_0f7a4_39 : decode cJ6_bitCount_0f7a4 39 = .ok (.iadd, 1) := by decide +kernel
theorem dJ6_bitCount_0f7a4_40 : decode cJ6_bitCount_0f7a4 40 = .ok (.istore_n 0, 1) := by decide +kernel
theorem dJ6_bitCount_0f7a4_41 : decode cJ6_bitCount_0f7a4 41 = .ok (.iload_n 0, 1) := by decide +kernel
theorem dJ6_bitCount_0f7a4_42 : decode cJ6_bitCount_0f7a4 42 = .ok (.iload_n 0, 1) := by decide +kernel
theorem dJ6_bitCount_0f7a4_43 : decode cJ6_bitCount_0f7a4 43 = .ok (.bipush 16, 2) := by decide +kernel
theorem dJ6_bitCount_0f7a4_45 : decode cJ6_bitCount_0f7a4 45 = .ok (.iushr, 1) := by decide +kernel
theorem dJ6_bitCount_0f7a4_46 : decode cJ6_bitCount_0f7a4 46 = .ok (.iadd, 1) := by decide +kernel
theorem dJ6_bitCount_0f7a4_47 : decode cJ6_bitCount_0f7a4 47 = .ok (.istore_n 0, 1) := by decide +kernel
theorem dJ6_bitCount_0f7a4_48 : decode cJ6_bitCount_0f7a4 48 = .ok (.iload_n 0, 1) := by decide +kernel
theorem dJ6_bitCount_0f7a4_49 : decode cJ6_bitCount_0f7a4 49 = .ok (.bipush 63, 2) := by decide +kernel
theorem dJ6_bitCount_0f7a4_51 : decode cJ6_bitCount_0f7a4 51 = .ok (.iand, 1) := by decide +kernel
theorem dJ6_bitCount_0f7a4_52 : decode cJ6_bitCount_0f7a4 52 = .ok (.ireturn, 1) := by decide +kernel
theorem dJ9_floorMod_7cf53_0 : decode cJ9_floorMod_7cf53 0 = .ok (.iload_n 0, 1) := by decide +kernel
theorem dJ9_floorMod_7cf53_1 : decode cJ9_floorMod_7cf53 1 = .ok (.iload_n 1, 1) := by decide +kernel
theorem dJ9_floorMod_7cf53_2 : decode cJ9_floorMod_7cf53 2 = .ok (.irem, 1) := by decide +kernel
theorem dJ9_floorMod_7cf53_3 : decode cJ9_floorMod_7cf53 3 = .ok (.istore_n 2, 1) := by decide +kernel
theorem dJ9_floorMod_7cf53_4 : decode cJ9_floorMod_7cf53 4 = .ok (.iload_n 0, 1) := by decide +kernel
theorem dJ9_floorMod_7cf53_5 : decode cJ9_floorMod_7cf53 5 = .ok (.iload_n 1, 1) := by decide +kernel
theorem dJ9_floorMod_7cf53_6 : decode cJ9_floorMod_7cf53 6 = .ok (.ixor, 1) := by decide +kernel
theorem dJ9_floorMod_7cf53_7 : decode cJ9_floorMod_7cf53 7 = .ok (.ifCond .ge 11, 3) := by decide +kernel
theorem dJ9_floorMod_7cf53_10 : decode cJ9_floorMod_7cf53 10 = .ok (.iload_n 2, 1) := by decide +kernel
theorem dJ9_floorMod_7cf53_11 : decode cJ9_floorMod_7cf53 11 = .ok (.ifCond .eq 7, 3) := by decide +kernel
theorem dJ9_floorMod_7cf53_14 : decode cJ9_floorMod_7cf53 14 = .ok (.iload_n 2, 1) := by decide +kernel
theorem dJ9_floorMod_7cf53_15 : decode cJ9_floorMod_7cf53 15 = .ok (.iload_n 1, 1) := by decide +kernel
theorem dJ9_floorMod_7cf53_16 : decode cJ9_floorMod_7cf53 16 = .ok (.iadd, 1) := by decide +kernel
theorem dJ9_floorMod_7cf53_17 : decode cJ9_floorMod_7cf53 17 = .ok (.ireturn, 1) := by decide +kernel
theorem dJ9_floorMod_7cf53_18 : decode cJ9_floorMod_7cf53 18 = .ok (.iload_n 2, 1) := by decide +kernel
theorem dJ9_floorMod_7cf53_19 : decode cJ9_floorMod_7cf53 19 = .ok (.ireturn, 1) := by decide +kernel
theorem dJ9_max_7cf53_0 : decode cJ9_max_7cf53 0 = .ok (.iload_n 0, 1) := by decide +kernel
theorem dJ9_max_7cf53_1 : decode cJ9_max_7cf53 1 = .ok (.iload_n 1, 1) := by decide +kernel
theorem dJ9_max_7cf53_2 : decode cJ9_max_7cf53 2 = .ok (.if_icmp .lt 7, 3) := by decide +kernel
theorem dJ9_max_7cf53_5 : decode cJ9_max_7cf53 5 = .ok (.iload_n 0, 1) := by decide +kernel
theorem dJ9_max_7cf53_6 : decode cJ9_max_7cf53 6 = .ok (.goto 4, 3) := by decide +kernel
theorem dJ9_max_7cf53_9 : decode cJ9_max_7cf53 9 = .ok (.iload_n 1, 1) := by decide +kernel
theorem dJ9_max_7cf53_10 : decode cJ9_max_7cf53 10 = .ok (.ireturn, 1) := by decide +kernel
theorem dJ9_min_7cf53_0 : decode cJ9_min_7cf53 0 = .ok (.iload_n 0, 1) := by decide +kernel
theorem dJ9_min_7cf53_1 : decode cJ9_min_7cf53 1 = .ok (.iload_n 1, 1) := by decide +kernel
theorem dJ9_min_7cf53_2 : decode cJ9_min_7cf53 2 = .ok (.if_icmp .gt 7, 3) := by decide +kernel
theorem dJ9_min_7cf53_5 : decode cJ9_min_7cf53 5 = .ok (.iload_n 0, 1) := by decide +kernel
theorem dJ9_min_7cf53_6 : decode cJ9_min_7cf53 6 = .ok (.goto 4, 3) := by decide +kernel
theorem dJ9_min_7cf53_9 : decode cJ9_min_7cf53 9 = .ok (.iload_n 1, 1) := by decide +kernel
theorem dJ9_min_7cf53_10 : decode cJ9_min_7cf53 10 = .ok (.ireturn, 1) := by decide +kernel
theorem dJ0_length_8abf5_0 : decode cJ0_length_8abf5 0 = .ok (.aload_n 0, 1) := by decide +kernel
theorem dJ0_length_8abf5_1 : decode cJ0_length_8abf5 1 = .ok (.getfield 9, 3) := by decide +kernel
theorem dJ0_length_8abf5_4 : decode cJ0_length_8abf5 4 = .ok (.arraylength, 1) := by decide +kernel
theorem dJ0_length_8abf5_5 : decode cJ0_length_8abf5 5 = .ok (.aload_n 0, 1) := by decide +kernel
theorem dJ0_length_8abf5_6 : decode cJ0_length_8abf5 6 = .ok (.invokevirtual 335, 3) := by decide +kernel
theorem dJ0_length_8abf5_9 : decode cJ0_length_8abf5 9 = .ok (.ishr, 1) := by decide +kernel
theorem dJ0_length_8abf5_10 : decode cJ0_length_8abf5 10 = .ok (.ireturn, 1) := by decide +kernel
theorem dJ0_charAt_5068e_0 : decode cJ0_charAt_5068e 0 = .ok (.aload_n 0, 1) := by decide +kernel
theorem dJ0_charAt_5068e_1 : decode cJ0_charAt_5068e 1 = .ok (.invokevirtual 492, 3) := by decide +kernel
theorem dJ0_charAt_5068e_4 : decode cJ0_charAt_5068e 4 = .ok (.ifCond .eq 12, 3) := by decide +kernel
theorem dJ0_charAt_5068e_7 : decode cJ0_charAt_5068e 7 = .ok (.aload_n 0, 1) := by decide +kernel
theorem dJ0_charAt_5068e_8 : decode cJ0_charAt_5068e 8 = .ok (.getfield 9, 3) := by decide +kernel
theorem dJ0_charAt_5068e_11 : decode cJ0_charAt_5068e 11 = .ok (.iload_n 1, 1) := by decide +kernel
theorem dJ0_charAt_5068e_12 : decode cJ0_charAt_5068e 12 = .ok (.invokestatic 495, 3) := by decide +kernel
theorem dJ0_charAt_5068e_15 : decode cJ0_charAt_5068e 15 = .ok (.ireturn, 1) := by decide +kernel
theorem dJ0_charAt_5068e_16 : decode cJ0_charAt_5068e 16 = .ok (.aload_n 0, 1) := by decide +kernel
theorem dJ0_charAt_5068e_17 : decode cJ0_charAt_5068e 17 = .ok (.getfield 9, 3) := by decide +kernel
theorem dJ0_charAt_5068e_20 : decode cJ0_charAt_5068e 20 = .ok (.iload_n 1, 1) := by decide +kernel
theorem dJ0_charAt_5068e_21 : decode cJ0_charAt_5068e 21 = .ok (.invokestatic 498, 3) := by decide +kernel
theorem dJ0_charAt_5068e_24 : decode cJ0_charAt_5068e 24 = .ok (.ireturn, 1) := by decide +kernel
theorem dJ0_coder_7d493_0 : decode cJ0_coder_7d493 0 = .ok (.getstatic 38, 3) := by decide +kernel
theorem dJ0_coder_7d493_3 : decode cJ0_coder_7d493 3 = .ok (.ifCond .eq 10, 3) := by decide +kernel
theorem dJ0_coder_7d493_6 : decode cJ0_coder_7d493 6 = .ok (.aload_n 0, 1) := by decide +kernel
theorem dJ0_coder_7d493_7 : decode cJ0_coder_7d493 7 = .ok (.getfield 15, 3) := by decide +kernel
theorem dJ0_coder_7d493_10 : decode cJ0_coder_7d493 10 = .ok (.goto 4, 3) := by decide +kernel
theorem dJ0_coder_7d493_13 : decode cJ0_coder_7d493 13 = .ok (.iconst 1, 1) := by decide +kernel
theorem dJ0_coder_7d493_14 : decode cJ0_coder_7d493 14 = .ok (.ireturn, 1) := by decide +kernel
theorem dJ0_isLatin1_aae02_0 : decode cJ0_isLatin1_aae02 0 = .ok (.getstatic 38, 3) := by decide +kernel
theorem dJ0_isLatin1_aae02_3 : decode cJ0_isLatin1_aae02 3 = .ok (.ifCond .eq 14, 3) := by decide +kernel
theorem dJ0_isLatin1_aae02_6 : decode cJ0_isLatin1_aae02 6 = .ok (.aload_n 0, 1) := by decide +kernel
theorem dJ0_isLatin1_aae02_7 : decode cJ0_isLatin1_aae02 7 = .ok (.getfield 15, 3) := by decide +kernel
theorem dJ0_isLatin1_aae02_10 : decode cJ0_isLatin1_aae02 10 = .ok (.ifCond .ne 7, 3) := by decide +kernel
theorem dJ0_isLatin1_aae02_13 : decode cJ0_isLatin1_aae02 13 = .ok (.iconst 1, 1) := by decide +kernel
theorem dJ0_isLatin1_aae02_14 : decode cJ0_isLatin1_aae02 14 = .ok (.goto 4, 3) := by decide +kernel
theorem dJ0_isLatin1_aae02_17 : decode cJ0_isLatin1_aae02 17 = .ok (.iconst 0, 1) := by decide +kernel
theorem dJ0_isLatin1_aae02_18 : decode cJ0_isLatin1_aae02 18 = .ok (.ireturn, 1) := by decide +kernel
theorem dJ0_checkIndex_df160_0 : decode cJ0_checkIndex_df160 0 = .ok (.iload_n 0, 1) := by decide +kernel
theorem dJ0_checkIndex_df160_1 : decode cJ0_checkIndex_df160 1 = .ok (.iload_n 1, 1) := by decide +kernel
theorem dJ0_checkIndex_df160_2 : decode cJ0_checkIndex_df160 2 = .ok (.getstatic 1053, 3) := by decide +kernel
theorem dJ0_checkIndex_df160_5 : decode cJ0_checkIndex_df160 5 = .ok (.invokestatic 1059, 3) := by decide +kernel
theorem dJ0_checkIndex_df160_8 : decode cJ0_checkIndex_df160 8 = .ok (.pop, 1) := by decide +kernel
theorem dJ0_checkIndex_df160_9 : decode cJ0_checkIndex_df160 9 = .ok (.return_, 1) := by decide +kernel
theorem dJ1_charAt_3b067_0 : decode cJ1_charAt_3b067 0 = .ok (.iload_n 1, 1) := by decide +kernel
theorem dJ1_charAt_3b067_1 : decode cJ1_charAt_3b067 1 = .ok (.aload_n 0, 1) := by decide +kernel
theorem dJ1_charAt_3b067_2 : decode cJ1_charAt_3b067 2 = .ok (.arraylength, 1) := by decide +kernel
theorem dJ1_charAt_3b067_3 : decode cJ1_charAt_3b067 3 = .ok (.invokestatic 9, 3) := by decide +kernel
theorem dJ1_charAt_3b067_6 : decode cJ1_charAt_3b067 6 = .ok (.aload_n 0, 1) := by decide +kernel
theorem dJ1_charAt_3b067_7 : decode cJ1_charAt_3b067 7 = .ok (.iload_n 1, 1) := by decide +kernel
theorem dJ1_charAt_3b067_8 : decode cJ1_charAt_3b067 8 = .ok (.baload, 1) := by decide +kernel
theorem dJ1_charAt_3b067_9 : decode cJ1_charAt_3b067 9 = .ok (.sipush 255, 3) := by decide +kernel
theorem dJ1_charAt_3b067_12 : decode cJ1_charAt_3b067 12 = .ok (.iand, 1) := by decide +kernel
theorem dJ1_charAt_3b067_13 : decode cJ1_charAt_3b067 13 = .ok (.i2c, 1) := by decide +kernel
theorem dJ1_charAt_3b067_14 : decode cJ1_charAt_3b067 14 = .ok (.ireturn, 1) := by decide +kernel
theorem dJ2_getChar_3b067_0 : decode cJ2_getChar_3b067 0 = .ok (.getstatic 44, 3) := by decide +kernel
theorem dJ2_getChar_3b067_3 : decode cJ2_getChar_3b067 3 = .ok (.ifCond .ne 25, 3) := by decide +kernel
theorem dJ2_getChar_3b067_6 : decode cJ2_getChar_3b067 6 = .ok (.iload_n 1, 1) := by decide +kernel
theorem dJ2_getChar_3b067_7 : decode cJ2_getChar_3b067 7 = .ok (.ifCond .lt 11, 3) := by decide +kernel
theorem dJ2_getChar_3b067_10 : decode cJ2_getChar_3b067 10 = .ok (.iload_n 1, 1) := by decide +kernel
theorem dJ2_getChar_3b067_11 : decode cJ2_getChar_3b067 11 = .ok (.aload_n 0, 1) := by decide +kernel
theorem dJ2_getChar_3b067_12 : decode cJ2_getChar_3b067 12 = .ok (.invokestatic 48, 3) := by decide +kernel
theorem dJ2_getChar_3b067_15 : decode cJ2_getChar_3b067 15 = .ok (.if_icmp .lt 13, 3) := by decide +kernel
theorem dJ2_getChar_3b067_18 : decode cJ2_getChar_3b067 18 = .ok (.new 52, 3) := by decide +kernel
theorem dJ2_getChar_3b067_21 : decode cJ2_getChar_3b067 21 = .ok (.dup, 1) := by decide +kernel
theorem dJ2_getChar_3b067_22 : decode cJ2_getChar_3b067 22 = .ok (.ldc 54, 2) := by decide +kernel
theorem dJ2_getChar_3b067_24 : decode cJ2_getChar_3b067 24 = .ok (.invokespecial 56, 3) := by decide +kernel
theorem dJ2_getChar_3b067_27 : decode cJ2_getChar_3b067 27 = .ok (.athrow, 1) := by decide +kernel
theorem dJ2_getChar_3b067_28 : decode cJ2_getChar_3b067 28 = .ok (.iload_n 1, 1) := by decide +kernel
theorem dJ2_getChar_3b067_29 : decode cJ2_getChar_3b067 29 = .ok (.iconst 1, 1) := by decide +kernel
theorem dJ2_getChar_3b067_30 : decode cJ2_getChar_3b067 30 = .ok (.ishl, 1) := by decide +kernel
theorem dJ2_getChar_3b067_31 : decode cJ2_getChar_3b067 31 = .ok (.istore_n 1, 1) := by decide +kernel
theorem dJ2_getChar_3b067_32 : decode cJ2_getChar_3b067 32 = .ok (.aload_n 0, 1) := by decide +kernel
theorem dJ2_getChar_3b067_33 : decode cJ2_getChar_3b067 33 = .ok (.iload_n 1, 1) := by decide +kernel
theorem dJ2_getChar_3b067_34 : decode cJ2_getChar_3b067 34 = .ok (.iinc 1 1, 3) := by decide +kernel
theorem dJ2_getChar_3b067_37 : decode cJ2_getChar_3b067 37 = .ok (.baload, 1) := by decide +kernel
theorem dJ2_getChar_3b067_38 : decode cJ2_getChar_3b067 38 = .ok (.sipush 255, 3) := by decide +kernel
theorem dJ2_getChar_3b067_41 : decode cJ2_getChar_3b067 41 = .ok (.iand, 1) := by decide +kernel
theorem dJ2_getChar_3b067_42 : decode cJ2_getChar_3b067 42 = .ok (.getstatic 59, 3) := by decide +kernel
theorem dJ2_getChar_3b067_45 : decode cJ2_getChar_3b067 45 = .ok (.ishl, 1) := by decide +kernel
theorem dJ2_getChar_3b067_46 : decode cJ2_getChar_3b067 46 = .ok (.aload_n 0, 1) := by decide +kernel
theorem dJ2_getChar_3b067_47 : decode cJ2_getChar_3b067 47 = .ok (.iload_n 1, 1) := by decide +kernel
theorem dJ2_getChar_3b067_48 : decode cJ2_getChar_3b067 48 = .ok (.baload, 1) := by decide +kernel
theorem dJ2_getChar_3b067_49 : decode cJ2_getChar_3b067 49 = .ok (.sipush 255, 3) := by decide +kernel
theorem dJ2_getChar_3b067_52 : decode cJ2_getChar_3b067 52 = .ok (.iand, 1) := by decide +kernel
theorem dJ2_getChar_3b067_53 : decode cJ2_getChar_3b067 53 = .ok (.getstatic 63, 3) := by decide +kernel
theorem dJ2_getChar_3b067_56 : decode cJ2_getChar_3b067 56 = .ok (.ishl, 1) := by decide +kernel
theorem dJ2_getChar_3b067_57 : decode cJ2_getChar_3b067 57 = .ok (.ior, 1) := by decide +kernel
theorem dJ2_getChar_3b067_58 : decode cJ2_getChar_3b067 58 = .ok (.i2c, 1) := by decide +kernel
theorem dJ2_getChar_3b067_59 : decode cJ2_getChar_3b067 59 = .ok (.ireturn, 1) := by decide +kernel
theorem dJ2_length_9d52b_0 : decode cJ2_length_9d52b 0 = .ok (.aload_n 0, 1) := by decide +kernel
theorem dJ2_length_9d52b_1 : decode cJ2_length_9d52b 1 = .ok (.arraylength, 1) := by decide +kernel
theorem dJ2_length_9d52b_2 : decode cJ2_length_9d52b 2 = .ok (.iconst 1, 1) := by decide +kernel
theorem dJ2_length_9d52b_3 : decode cJ2_length_9d52b 3 = .ok (.ishr, 1) := by decide +kernel
theorem dJ2_length_9d52b_4 : decode cJ2_length_9d52b 4 = .ok (.ireturn, 1) := by decide +kernel
theorem dJ2_charAt_3b067_0 : decode cJ2_charAt_3b067 0 = .ok (.iload_n 1, 1) := by decide +kernel
theorem dJ2_charAt_3b067_1 : decode cJ2_charAt_3b067 1 = .ok (.aload_n 0, 1) := by decide +kernel
theorem dJ2_charAt_3b067_2 : decode cJ2_charAt_3b067 2 = .ok (.invokestatic 67, 3) := by decide +kernel
theorem dJ2_charAt_3b067_5 : decode cJ2_charAt_3b067 5 = .ok (.aload_n 0, 1) := by decide +kernel
theorem dJ2_charAt_3b067_6 : decode cJ2_charAt_3b067 6 = .ok (.iload_n 1, 1) := by decide +kernel
theorem dJ2_charAt_3b067_7 : decode cJ2_charAt_3b067 7 = .ok (.invokestatic 71, 3) := by decide +kernel
theorem dJ2_charAt_3b067_10 : decode cJ2_charAt_3b067 10 = .ok (.ireturn, 1) := by decide +kernel
theorem dJ2_checkIndex_2214a_0 : decode cJ2_checkIndex_2214a 0 = .ok (.iload_n 0, 1) := by decide +kernel
theorem dJ2_checkIndex_2214a_1 : decode cJ2_checkIndex_2214a 1 = .ok (.aload_n 1, 1) := by decide +kernel
theorem dJ2_checkIndex_2214a_2 : decode cJ2_checkIndex_2214a 2 = .ok (.invokestatic 48, 3) := by decide +kernel
theorem dJ2_checkIndex_2214a_5 : decode cJ2_checkIndex_2214a 5 = .ok (.invokestatic 414, 3) := by decide +kernel
theorem dJ2_checkIndex_2214a_8 : decode cJ2_checkIndex_2214a 8 = .ok (.return_, 1) := by decide +kernel
theorem dJ7_fill_53178_0 : decode cJ7_fill_53178 0 = .ok (.iconst 0, 1) := by decide +kernel
theorem dJ7_fill_53178_1 : decode cJ7_fill_53178 1 = .ok (.istore_n 2, 1) := by decide +kernel
theorem dJ7_fill_53178_2 : decode cJ7_fill_53178 2 = .ok (.aload_n 0, 1) := by decide +kernel
theorem dJ7_fill_53178_3 : decode cJ7_fill_53178 3 = .ok (.arraylength, 1) := by decide +kernel
theorem dJ7_fill_53178_4 : decode cJ7_fill_53178 4 = .ok (.istore_n 3, 1) := by decide +kernel
theorem dJ7_fill_53178_5 : decode cJ7_fill_53178 5 = .ok (.iload_n 2, 1) := by decide +kernel
theorem dJ7_fill_53178_6 : decode cJ7_fill_53178 6 = .ok (.iload_n 3, 1) := by decide +kernel
theorem dJ7_fill_53178_7 : decode cJ7_fill_53178 7 = .ok (.if_icmp .ge 13, 3) := by decide +kernel
theorem dJ7_fill_53178_10 : decode cJ7_fill_53178 10 = .ok (.aload_n 0, 1) := by decide +kernel
theorem dJ7_fill_53178_11 : decode cJ7_fill_53178 11 = .ok (.iload_n 2, 1) := by decide +kernel
theorem dJ7_fill_53178_12 : decode cJ7_fill_53178 12 = .ok (.iload_n 1, 1) := by decide +kernel
theorem dJ7_fill_53178_13 : decode cJ7_fill_53178 13 = .ok (.iastore, 1) := by decide +kernel
theorem dJ7_fill_53178_14 : decode cJ7_fill_53178 14 = .ok (.iinc 2 1, 3) := by decide +kernel
theorem dJ7_fill_53178_17 : decode cJ7_fill_53178 17 = .ok (.goto (-12), 3) := by decide +kernel
theorem dJ7_fill_53178_20 : decode cJ7_fill_53178 20 = .ok (.return_, 1) := by decide +kernel
theorem dJ3_checkIndex_8e157_0 : decode cJ3_checkIndex_8e157 0 = .ok (.iload_n 0, 1) := by decide +kernel
theorem dJ3_checkIndex_8e157_1 : decode cJ3_checkIndex_8e157 1 = .ok (.ifCond .lt 8, 3) := by decide +kernel
theorem dJ3_checkIndex_8e157_4 : decode cJ3_checkIndex_8e157 4 = .ok (.iload_n 0, 1) := by decide +kernel
theorem dJ3_checkIndex_8e157_5 : decode cJ3_checkIndex_8e157 5 = .ok (.iload_n 1, 1) := by decide +kernel
theorem dJ3_checkIndex_8e157_6 : decode cJ3_checkIndex_8e157 6 = .ok (.if_icmp .lt 10, 3) := by decide +kernel
theorem dJ3_checkIndex_8e157_9 : decode cJ3_checkIndex_8e157 9 = .ok (.aload_n 2, 1) := by decide +kernel
theorem dJ3_checkIndex_8e157_10 : decode cJ3_checkIndex_8e157 10 = .ok (.iload_n 0, 1) := by decide +kernel
theorem dJ3_checkIndex_8e157_11 : decode cJ3_checkIndex_8e157 11 = .ok (.iload_n 1, 1) := by decide +kernel
theorem dJ3_checkIndex_8e157_12 : decode cJ3_checkIndex_8e157 12 = .ok (.invokestatic 95, 3) := by decide +kernel
theorem dJ3_checkIndex_8e157_15 : decode cJ3_checkIndex_8e157 15 = .ok (.athrow, 1) := by decide +kernel
theorem dJ3_checkIndex_8e157_16 : decode cJ3_checkIndex_8e157 16 = .ok (.iload_n 0, 1) := by decide +kernel
theorem dJ3_checkIndex_8e157_17 : decode cJ3_checkIndex_8e157 17 = .ok (.ireturn, 1) := by decide +kernel
