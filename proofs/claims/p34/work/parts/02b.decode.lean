theorem dX10_told_4 : decode cX10_told 4 = .ok (.iload_n 1, 1) := by decide +kernel
theorem dX10_told_5 : decode cX10_told 5 = .ok (.invokevirtual 103, 3) := by decide +kernel
theorem dX10_told_8 : decode cX10_told 8 = .ok (.ifCond .ne 5, 3) := by decide +kernel
theorem dX10_told_11 : decode cX10_told 11 = .ok (.iconst (-1), 1) := by decide +kernel
theorem dX10_told_12 : decode cX10_told 12 = .ok (.ireturn, 1) := by decide +kernel
theorem dX10_told_13 : decode cX10_told 13 = .ok (.iload_n 2, 1) := by decide +kernel
theorem dX10_told_14 : decode cX10_told 14 = .ok (.tableswitch 122 0 4 #[34, 44, 54, 80, 105], 34) := by decide +kernel
theorem dX10_told_48 : decode cX10_told 48 = .ok (.aload_n 0, 1) := by decide +kernel
theorem dX10_told_49 : decode cX10_told 49 = .ok (.getfield 13, 3) := by decide +kernel
theorem dX10_told_52 : decode cX10_told 52 = .ok (.getfield 106, 3) := by decide +kernel
theorem dX10_told_55 : decode cX10_told 55 = .ok (.iload_n 1, 1) := by decide +kernel
theorem dX10_told_56 : decode cX10_told 56 = .ok (.iaload, 1) := by decide +kernel
theorem dX10_told_57 : decode cX10_told 57 = .ok (.ireturn, 1) := by decide +kernel
theorem dX10_told_58 : decode cX10_told 58 = .ok (.aload_n 0, 1) := by decide +kernel
theorem dX10_told_59 : decode cX10_told 59 = .ok (.getfield 13, 3) := by decide +kernel
theorem dX10_told_62 : decode cX10_told 62 = .ok (.getfield 109, 3) := by decide +kernel
theorem dX10_told_65 : decode cX10_told 65 = .ok (.iload_n 1, 1) := by decide +kernel
theorem dX10_told_66 : decode cX10_told 66 = .ok (.iaload, 1) := by decide +kernel
theorem dX10_told_67 : decode cX10_told 67 = .ok (.ireturn, 1) := by decide +kernel
theorem dX10_told_68 : decode cX10_told 68 = .ok (.aload_n 0, 1) := by decide +kernel
theorem dX10_told_69 : decode cX10_told 69 = .ok (.getfield 13, 3) := by decide +kernel
theorem dX10_told_72 : decode cX10_told 72 = .ok (.iload_n 1, 1) := by decide +kernel
theorem dX10_told_73 : decode cX10_told 73 = .ok (.invokevirtual 115, 3) := by decide +kernel
theorem dX10_told_76 : decode cX10_told 76 = .ok (.ifCond .eq 15, 3) := by decide +kernel
theorem dX10_told_79 : decode cX10_told 79 = .ok (.aload_n 0, 1) := by decide +kernel
theorem dX10_told_80 : decode cX10_told 80 = .ok (.getfield 13, 3) := by decide +kernel
theorem dX10_told_83 : decode cX10_told 83 = .ok (.getfield 118, 3) := by decide +kernel
theorem dX10_told_86 : decode cX10_told 86 = .ok (.iload_n 1, 1) := by decide +kernel
theorem dX10_told_87 : decode cX10_told 87 = .ok (.iaload, 1) := by decide +kernel
theorem dX10_told_88 : decode cX10_told 88 = .ok (.goto 5, 3) := by decide +kernel
theorem dX10_told_91 : decode cX10_told 91 = .ok (.bipush (-4), 2) := by decide +kernel
theorem dX10_told_93 : decode cX10_told 93 = .ok (.ireturn, 1) := by decide +kernel
theorem dX10_told_94 : decode cX10_told 94 = .ok (.aload_n 0, 1) := by decide +kernel
theorem dX10_told_95 : decode cX10_told 95 = .ok (.getfield 13, 3) := by decide +kernel
theorem dX10_told_98 : decode cX10_told 98 = .ok (.iload_n 1, 1) := by decide +kernel
theorem dX10_told_99 : decode cX10_told 99 = .ok (.invokevirtual 115, 3) := by decide +kernel
theorem dX10_told_102 : decode cX10_told 102 = .ok (.ifCond .eq 14, 3) := by decide +kernel
theorem dX10_told_105 : decode cX10_told 105 = .ok (.aload_n 0, 1) := by decide +kernel
theorem dX10_told_106 : decode cX10_told 106 = .ok (.getfield 13, 3) := by decide +kernel
theorem dX10_told_109 : decode cX10_told 109 = .ok (.iload_n 1, 1) := by decide +kernel
theorem dX10_told_110 : decode cX10_told 110 = .ok (.invokevirtual 121, 3) := by decide +kernel
theorem dX10_told_113 : decode cX10_told 113 = .ok (.goto 5, 3) := by decide +kernel
theorem dX10_told_116 : decode cX10_told 116 = .ok (.bipush (-4), 2) := by decide +kernel
theorem dX10_told_118 : decode cX10_told 118 = .ok (.ireturn, 1) := by decide +kernel
theorem dX10_told_119 : decode cX10_told 119 = .ok (.aload_n 0, 1) := by decide +kernel
theorem dX10_told_120 : decode cX10_told 120 = .ok (.getfield 13, 3) := by decide +kernel
theorem dX10_told_123 : decode cX10_told 123 = .ok (.iload_n 1, 1) := by decide +kernel
theorem dX10_told_124 : decode cX10_told 124 = .ok (.invokevirtual 125, 3) := by decide +kernel
theorem dX10_told_127 : decode cX10_told 127 = .ok (.ifCond .eq 7, 3) := by decide +kernel
theorem dX10_told_130 : decode cX10_told 130 = .ok (.iconst 1, 1) := by decide +kernel
theorem dX10_told_131 : decode cX10_told 131 = .ok (.goto 4, 3) := by decide +kernel
theorem dX10_told_134 : decode cX10_told 134 = .ok (.iconst 0, 1) := by decide +kernel
theorem dX10_told_135 : decode cX10_told 135 = .ok (.ireturn, 1) := by decide +kernel
theorem dX10_told_136 : decode cX10_told 136 = .ok (.iconst (-1), 1) := by decide +kernel
theorem dX10_told_137 : decode cX10_told 137 = .ok (.ireturn, 1) := by decide +kernel
theorem dX10_on_0 : decode cX10_on 0 = .ok (.aload_n 0, 1) := by decide +kernel
theorem dX10_on_1 : decode cX10_on 1 = .ok (.getfield 13, 3) := by decide +kernel
theorem dX10_on_4 : decode cX10_on 4 = .ok (.iload_n 1, 1) := by decide +kernel
theorem dX10_on_5 : decode cX10_on 5 = .ok (.invokevirtual 85, 3) := by decide +kernel
theorem dX10_on_8 : decode cX10_on 8 = .ok (.ifCond .eq 14, 3) := by decide +kernel
theorem dX10_on_11 : decode cX10_on 11 = .ok (.aload_n 0, 1) := by decide +kernel
theorem dX10_on_12 : decode cX10_on 12 = .ok (.getfield 13, 3) := by decide +kernel
theorem dX10_on_15 : decode cX10_on 15 = .ok (.iload_n 1, 1) := by decide +kernel
theorem dX10_on_16 : decode cX10_on 16 = .ok (.invokevirtual 128, 3) := by decide +kernel
theorem dX10_on_19 : decode cX10_on 19 = .ok (.goto 4, 3) := by decide +kernel
theorem dX10_on_22 : decode cX10_on 22 = .ok (.iconst (-1), 1) := by decide +kernel
theorem dX10_on_23 : decode cX10_on 23 = .ok (.ireturn, 1) := by decide +kernel
theorem dX10_count_0 : decode cX10_count 0 = .ok (.iload_n 1, 1) := by decide +kernel
theorem dX10_count_1 : decode cX10_count 1 = .ok (.tableswitch 130 0 7 #[47, 55, 63, 71, 87, 95, 103, 111], 47) := by decide +kernel
theorem dX10_count_48 : decode cX10_count 48 = .ok (.aload_n 0, 1) := by decide +kernel
theorem dX10_count_49 : decode cX10_count 49 = .ok (.getfield 13, 3) := by decide +kernel
theorem dX10_count_52 : decode cX10_count 52 = .ok (.getfield 93, 3) := by decide +kernel
theorem dX10_count_55 : decode cX10_count 55 = .ok (.ireturn, 1) := by decide +kernel
theorem dX10_count_56 : decode cX10_count 56 = .ok (.aload_n 0, 1) := by decide +kernel
theorem dX10_count_57 : decode cX10_count 57 = .ok (.getfield 13, 3) := by decide +kernel
theorem dX10_count_60 : decode cX10_count 60 = .ok (.getfield 89, 3) := by decide +kernel
theorem dX10_count_63 : decode cX10_count 63 = .ok (.ireturn, 1) := by decide +kernel
theorem dX10_count_64 : decode cX10_count 64 = .ok (.aload_n 0, 1) := by decide +kernel
theorem dX10_count_65 : decode cX10_count 65 = .ok (.getfield 13, 3) := by decide +kernel
theorem dX10_count_68 : decode cX10_count 68 = .ok (.invokevirtual 131, 3) := by decide +kernel
theorem dX10_count_71 : decode cX10_count 71 = .ok (.ireturn, 1) := by decide +kernel
theorem dX10_count_72 : decode cX10_count 72 = .ok (.aload_n 0, 1) := by decide +kernel
theorem dX10_count_73 : decode cX10_count 73 = .ok (.getfield 13, 3) := by decide +kernel
theorem dX10_count_76 : decode cX10_count 76 = .ok (.getfield 89, 3) := by decide +kernel
theorem dX10_count_79 : decode cX10_count 79 = .ok (.aload_n 0, 1) := by decide +kernel
theorem dX10_count_80 : decode cX10_count 80 = .ok (.getfield 13, 3) := by decide +kernel
theorem dX10_count_83 : decode cX10_count 83 = .ok (.invokevirtual 131, 3) := by decide +kernel
theorem dX10_count_86 : decode cX10_count 86 = .ok (.isub, 1) := by decide +kernel
theorem dX10_count_87 : decode cX10_count 87 = .ok (.ireturn, 1) := by decide +kernel
theorem dX10_count_88 : decode cX10_count 88 = .ok (.aload_n 0, 1) := by decide +kernel
theorem dX10_count_89 : decode cX10_count 89 = .ok (.getfield 13, 3) := by decide +kernel
theorem dX10_count_92 : decode cX10_count 92 = .ok (.invokevirtual 135, 3) := by decide +kernel
theorem dX10_count_95 : decode cX10_count 95 = .ok (.ireturn, 1) := by decide +kernel
theorem dX10_count_96 : decode cX10_count 96 = .ok (.aload_n 0, 1) := by decide +kernel
theorem dX10_count_97 : decode cX10_count 97 = .ok (.getfield 13, 3) := by decide +kernel
theorem dX10_count_100 : decode cX10_count 100 = .ok (.invokevirtual 138, 3) := by decide +kernel
theorem dX10_count_103 : decode cX10_count 103 = .ok (.ireturn, 1) := by decide +kernel
theorem dX10_count_104 : decode cX10_count 104 = .ok (.aload_n 0, 1) := by decide +kernel
theorem dX10_count_105 : decode cX10_count 105 = .ok (.getfield 13, 3) := by decide +kernel
theorem dX10_count_108 : decode cX10_count 108 = .ok (.invokevirtual 141, 3) := by decide +kernel
theorem dX10_count_111 : decode cX10_count 111 = .ok (.ireturn, 1) := by decide +kernel
theorem dX10_count_112 : decode cX10_count 112 = .ok (.aload_n 0, 1) := by decide +kernel
theorem dX10_count_113 : decode cX10_count 113 = .ok (.getfield 13, 3) := by decide +kernel
theorem dX10_count_116 : decode cX10_count 116 = .ok (.getfield 93, 3) := by decide +kernel
theorem dX10_count_119 : decode cX10_count 119 = .ok (.aload_n 0, 1) := by decide +kernel
theorem dX10_count_120 : decode cX10_count 120 = .ok (.getfield 13, 3) := by decide +kernel
theorem dX10_count_123 : decode cX10_count 123 = .ok (.getfield 144, 3) := by decide +kernel
theorem dX10_count_126 : decode cX10_count 126 = .ok (.invokestatic 147, 3) := by decide +kernel
theorem dX10_count_129 : decode cX10_count 129 = .ok (.isub, 1) := by decide +kernel
theorem dX10_count_130 : decode cX10_count 130 = .ok (.ireturn, 1) := by decide +kernel
theorem dX10_count_131 : decode cX10_count 131 = .ok (.iconst (-1), 1) := by decide +kernel
theorem dX10_count_132 : decode cX10_count 132 = .ok (.ireturn, 1) := by decide +kernel
theorem dX10_good_0 : decode cX10_good 0 = .ok (.aload_n 0, 1) := by decide +kernel
theorem dX10_good_1 : decode cX10_good 1 = .ok (.getfield 13, 3) := by decide +kernel
theorem dX10_good_4 : decode cX10_good 4 = .ok (.invokevirtual 152, 3) := by decide +kernel
theorem dX10_good_7 : decode cX10_good 7 = .ok (.ifCond .eq 7, 3) := by decide +kernel
theorem dX10_good_10 : decode cX10_good 10 = .ok (.iconst 1, 1) := by decide +kernel
theorem dX10_good_11 : decode cX10_good 11 = .ok (.goto 4, 3) := by decide +kernel
theorem dX10_good_14 : decode cX10_good 14 = .ok (.iconst 0, 1) := by decide +kernel
theorem dX10_good_15 : decode cX10_good 15 = .ok (.ireturn, 1) := by decide +kernel
theorem dX10_ways_0 : decode cX10_ways 0 = .ok (.aload_n 0, 1) := by decide +kernel
theorem dX10_ways_1 : decode cX10_ways 1 = .ok (.getfield 13, 3) := by decide +kernel
theorem dX10_ways_4 : decode cX10_ways 4 = .ok (.invokevirtual 156, 3) := by decide +kernel
theorem dX10_ways_7 : decode cX10_ways 7 = .ok (.ifCond .eq 17, 3) := by decide +kernel
theorem dX10_ways_10 : decode cX10_ways 10 = .ok (.aload_n 0, 1) := by decide +kernel
theorem dX10_ways_11 : decode cX10_ways 11 = .ok (.getfield 22, 3) := by decide +kernel
theorem dX10_ways_14 : decode cX10_ways 14 = .ok (.aload_n 0, 1) := by decide +kernel
theorem dX10_ways_15 : decode cX10_ways 15 = .ok (.getfield 13, 3) := by decide +kernel
theorem dX10_ways_18 : decode cX10_ways 18 = .ok (.invokevirtual 159, 3) := by decide +kernel
theorem dX10_ways_21 : decode cX10_ways 21 = .ok (.goto 5, 3) := by decide +kernel
theorem dX10_ways_24 : decode cX10_ways 24 = .ok (.bipush (-2), 2) := by decide +kernel
theorem dX10_ways_26 : decode cX10_ways 26 = .ok (.ireturn, 1) := by decide +kernel
theorem dX10_rows_0 : decode cX10_rows 0 = .ok (.aload_n 0, 1) := by decide +kernel
theorem dX10_rows_1 : decode cX10_rows 1 = .ok (.iload_n 1, 1) := by decide +kernel
theorem dX10_rows_2 : decode cX10_rows 2 = .ok (.invokevirtual 163, 3) := by decide +kernel
theorem dX10_rows_5 : decode cX10_rows 5 = .ok (.ifCond .eq 21, 3) := by decide +kernel
theorem dX10_rows_8 : decode cX10_rows 8 = .ok (.aload_n 0, 1) := by decide +kernel
theorem dX10_rows_9 : decode cX10_rows 9 = .ok (.getfield 31, 3) := by decide +kernel
theorem dX10_rows_12 : decode cX10_rows 12 = .ok (.aload_n 0, 1) := by decide +kernel
theorem dX10_rows_13 : decode cX10_rows 13 = .ok (.getfield 13, 3) := by decide +kernel
theorem dX10_rows_16 : decode cX10_rows 16 = .ok (.getfield 93, 3) := by decide +kernel
theorem dX10_rows_19 : decode cX10_rows 19 = .ok (.iload_n 1, 1) := by decide +kernel
theorem dX10_rows_20 : decode cX10_rows 20 = .ok (.invokevirtual 166, 3) := by decide +kernel
theorem dX10_rows_23 : decode cX10_rows 23 = .ok (.goto 6, 3) := by decide +kernel
theorem dX10_rows_26 : decode cX10_rows 26 = .ok (.ldc2_w 170, 3) := by decide +kernel
theorem dX10_rows_29 : decode cX10_rows 29 = .ok (.lreturn, 1) := by decide +kernel
theorem dX10_rank_0 : decode cX10_rank 0 = .ok (.aload_n 0, 1) := by decide +kernel
theorem dX10_rank_1 : decode cX10_rank 1 = .ok (.invokevirtual 172, 3) := by decide +kernel
theorem dX10_rank_4 : decode cX10_rank 4 = .ok (.ifCond .eq 34, 3) := by decide +kernel
theorem dX10_rank_7 : decode cX10_rank 7 = .ok (.aload_n 0, 1) := by decide +kernel
theorem dX10_rank_8 : decode cX10_rank 8 = .ok (.getfield 31, 3) := by decide +kernel
theorem dX10_rank_11 : decode cX10_rank 11 = .ok (.aload_n 0, 1) := by decide +kernel
theorem dX10_rank_12 : decode cX10_rank 12 = .ok (.getfield 13, 3) := by decide +kernel
theorem dX10_rank_15 : decode cX10_rank 15 = .ok (.getfield 106, 3) := by decide +kernel
theorem dX10_rank_18 : decode cX10_rank 18 = .ok (.aload_n 0, 1) := by decide +kernel
theorem dX10_rank_19 : decode cX10_rank 19 = .ok (.getfield 13, 3) := by decide +kernel
theorem dX10_rank_22 : decode cX10_rank 22 = .ok (.getfield 93, 3) := by decide +kernel
theorem dX10_rank_25 : decode cX10_rank 25 = .ok (.aload_n 0, 1) := by decide +kernel
theorem dX10_rank_26 : decode cX10_rank 26 = .ok (.getfield 13, 3) := by decide +kernel
theorem dX10_rank_29 : decode cX10_rank 29 = .ok (.getfield 89, 3) := by decide +kernel
theorem dX10_rank_32 : decode cX10_rank 32 = .ok (.invokevirtual 175, 3) := by decide +kernel
theorem dX10_rank_35 : decode cX10_rank 35 = .ok (.goto 6, 3) := by decide +kernel
theorem dX10_rank_38 : decode cX10_rank 38 = .ok (.ldc2_w 179, 3) := by decide +kernel
theorem dX10_rank_41 : decode cX10_rank 41 = .ok (.lreturn, 1) := by decide +kernel
theorem dX10_unrank_0 : decode cX10_unrank 0 = .ok (.aload_n 0, 1) := by decide +kernel
theorem dX10_unrank_1 : decode cX10_unrank 1 = .ok (.iload_n 1, 1) := by decide +kernel
theorem dX10_unrank_2 : decode cX10_unrank 2 = .ok (.invokevirtual 163, 3) := by decide +kernel
theorem dX10_unrank_5 : decode cX10_unrank 5 = .ok (.ifCond .eq 29, 3) := by decide +kernel
theorem dX10_unrank_8 : decode cX10_unrank 8 = .ok (.lload_n 2, 1) := by decide +kernel
theorem dX10_unrank_9 : decode cX10_unrank 9 = .ok (.lconst 0, 1) := by decide +kernel
theorem dX10_unrank_10 : decode cX10_unrank 10 = .ok (.lcmp, 1) := by decide +kernel
theorem dX10_unrank_11 : decode cX10_unrank 11 = .ok (.ifCond .lt 23, 3) := by decide +kernel
theorem dX10_unrank_14 : decode cX10_unrank 14 = .ok (.lload_n 2, 1) := by decide +kernel
theorem dX10_unrank_15 : decode cX10_unrank 15 = .ok (.aload_n 0, 1) := by decide +kernel
theorem dX10_unrank_16 : decode cX10_unrank 16 = .ok (.getfield 31, 3) := by decide +kernel
theorem dX10_unrank_19 : decode cX10_unrank 19 = .ok (.aload_n 0, 1) := by decide +kernel
theorem dX10_unrank_20 : decode cX10_unrank 20 = .ok (.getfield 13, 3) := by decide +kernel
theorem dX10_unrank_23 : decode cX10_unrank 23 = .ok (.getfield 93, 3) := by decide +kernel
theorem dX10_unrank_26 : decode cX10_unrank 26 = .ok (.iload_n 1, 1) := by decide +kernel
theorem dX10_unrank_27 : decode cX10_unrank 27 = .ok (.invokevirtual 166, 3) := by decide +kernel
theorem dX10_unrank_30 : decode cX10_unrank 30 = .ok (.lcmp, 1) := by decide +kernel
theorem dX10_unrank_31 : decode cX10_unrank 31 = .ok (.ifCond .lt 5, 3) := by decide +kernel
theorem dX10_unrank_34 : decode cX10_unrank 34 = .ok (.iconst (-1), 1) := by decide +kernel
theorem dX10_unrank_35 : decode cX10_unrank 35 = .ok (.ireturn, 1) := by decide +kernel
theorem dX10_unrank_36 : decode cX10_unrank 36 = .ok (.aload_n 0, 1) := by decide +kernel
theorem dX10_unrank_37 : decode cX10_unrank 37 = .ok (.getfield 13, 3) := by decide +kernel
theorem dX10_unrank_40 : decode cX10_unrank 40 = .ok (.getfield 181, 3) := by decide +kernel
theorem dX10_unrank_43 : decode cX10_unrank 43 = .ok (.ifCond .eq 6, 3) := by decide +kernel
theorem dX10_unrank_46 : decode cX10_unrank 46 = .ok (.bipush (-2), 2) := by decide +kernel
theorem dX10_unrank_48 : decode cX10_unrank 48 = .ok (.ireturn, 1) := by decide +kernel
theorem dX10_unrank_49 : decode cX10_unrank 49 = .ok (.aload_n 0, 1) := by decide +kernel
theorem dX10_unrank_50 : decode cX10_unrank 50 = .ok (.getfield 31, 3) := by decide +kernel
theorem dX10_unrank_53 : decode cX10_unrank 53 = .ok (.aload_n 0, 1) := by decide +kernel
theorem dX10_unrank_54 : decode cX10_unrank 54 = .ok (.getfield 77, 3) := by decide +kernel
theorem dX10_unrank_57 : decode cX10_unrank 57 = .ok (.aload_n 0, 1) := by decide +kernel
theorem dX10_unrank_58 : decode cX10_unrank 58 = .ok (.getfield 13, 3) := by decide +kernel
theorem dX10_unrank_61 : decode cX10_unrank 61 = .ok (.getfield 93, 3) := by decide +kernel
theorem dX10_unrank_64 : decode cX10_unrank 64 = .ok (.iload_n 1, 1) := by decide +kernel
theorem dX10_unrank_65 : decode cX10_unrank 65 = .ok (.lload_n 2, 1) := by decide +kernel
theorem dX10_unrank_66 : decode cX10_unrank 66 = .ok (.invokevirtual 184, 3) := by decide +kernel
theorem dX10_unrank_69 : decode cX10_unrank 69 = .ok (.aload_n 0, 1) := by decide +kernel
theorem dX10_unrank_70 : decode cX10_unrank 70 = .ok (.getfield 13, 3) := by decide +kernel
theorem dX10_unrank_73 : decode cX10_unrank 73 = .ok (.aload_n 0, 1) := by decide +kernel
theorem dX10_unrank_74 : decode cX10_unrank 74 = .ok (.getfield 77, 3) := by decide +kernel
theorem dX10_unrank_77 : decode cX10_unrank 77 = .ok (.iload_n 1, 1) := by decide +kernel
theorem dX10_unrank_78 : decode cX10_unrank 78 = .ok (.invokevirtual 188, 3) := by decide +kernel
theorem dX10_unrank_81 : decode cX10_unrank 81 = .ok (.iload_n 1, 1) := by decide +kernel
theorem dX10_unrank_82 : decode cX10_unrank 82 = .ok (.ireturn, 1) := by decide +kernel
theorem dX10_next_0 : decode cX10_next 0 = .ok (.aload_n 0, 1) := by decide +kernel
theorem dX10_next_1 : decode cX10_next 1 = .ok (.invokevirtual 172, 3) := by decide +kernel
theorem dX10_next_4 : decode cX10_next 4 = .ok (.ifCond .ne 6, 3) := by decide +kernel
theorem dX10_next_7 : decode cX10_next 7 = .ok (.bipush (-2), 2) := by decide +kernel
theorem dX10_next_9 : decode cX10_next 9 = .ok (.ireturn, 1) := by decide +kernel
theorem dX10_next_10 : decode cX10_next 10 = .ok (.aload_n 0, 1) := by decide +kernel
theorem dX10_next_11 : decode cX10_next 11 = .ok (.getfield 31, 3) := by decide +kernel
theorem dX10_next_14 : decode cX10_next 14 = .ok (.aload_n 0, 1) := by decide +kernel
theorem dX10_next_15 : decode cX10_next 15 = .ok (.getfield 13, 3) := by decide +kernel
theorem dX10_next_18 : decode cX10_next 18 = .ok (.getfield 106, 3) := by decide +kernel
theorem dX10_next_21 : decode cX10_next 21 = .ok (.aload_n 0, 1) := by decide +kernel
theorem dX10_next_22 : decode cX10_next 22 = .ok (.getfield 13, 3) := by decide +kernel
theorem dX10_next_25 : decode cX10_next 25 = .ok (.getfield 93, 3) := by decide +kernel
theorem dX10_next_28 : decode cX10_next 28 = .ok (.aload_n 0, 1) := by decide +kernel
theorem dX10_next_29 : decode cX10_next 29 = .ok (.getfield 13, 3) := by decide +kernel
theorem dX10_next_32 : decode cX10_next 32 = .ok (.getfield 89, 3) := by decide +kernel
theorem dX10_next_35 : decode cX10_next 35 = .ok (.invokevirtual 192, 3) := by decide +kernel
theorem dX10_next_38 : decode cX10_next 38 = .ok (.ifCond .ne 6, 3) := by decide +kernel
theorem dX10_next_41 : decode cX10_next 41 = .ok (.bipush (-4), 2) := by decide +kernel
theorem dX10_next_43 : decode cX10_next 43 = .ok (.ireturn, 1) := by decide +kernel
theorem dX10_next_44 : decode cX10_next 44 = .ok (.aload_n 0, 1) := by decide +kernel
theorem dX10_next_45 : decode cX10_next 45 = .ok (.getfield 13, 3) := by decide +kernel
theorem dX10_next_48 : decode cX10_next 48 = .ok (.invokevirtual 100, 3) := by decide +kernel
theorem dX10_next_51 : decode cX10_next 51 = .ok (.iconst 1, 1) := by decide +kernel
theorem dX10_next_52 : decode cX10_next 52 = .ok (.ireturn, 1) := by decide +kernel
theorem dX10_like_0 : decode cX10_like 0 = .ok (.aload_n 0, 1) := by decide +kernel
theorem dX10_like_1 : decode cX10_like 1 = .ok (.invokevirtual 172, 3) := by decide +kernel
theorem dX10_like_4 : decode cX10_like 4 = .ok (.ifCond .eq 13, 3) := by decide +kernel
theorem dX10_like_7 : decode cX10_like 7 = .ok (.aload_n 0, 1) := by decide +kernel
theorem dX10_like_8 : decode cX10_like 8 = .ok (.getfield 13, 3) := by decide +kernel
theorem dX10_like_11 : decode cX10_like 11 = .ok (.invokevirtual 196, 3) := by decide +kernel
theorem dX10_like_14 : decode cX10_like 14 = .ok (.goto 6, 3) := by decide +kernel
theorem dX10_like_17 : decode cX10_like 17 = .ok (.ldc2_w 179, 3) := by decide +kernel
theorem dX10_like_20 : decode cX10_like 20 = .ok (.lreturn, 1) := by decide +kernel
theorem dX10_orders_0 : decode cX10_orders 0 = .ok (.aload_n 0, 1) := by decide +kernel
theorem dX10_orders_1 : decode cX10_orders 1 = .ok (.getfield 13, 3) := by decide +kernel
theorem dX10_orders_4 : decode cX10_orders 4 = .ok (.getfield 181, 3) := by decide +kernel
theorem dX10_orders_7 : decode cX10_orders 7 = .ok (.ifCond .ne 13, 3) := by decide +kernel
theorem dX10_orders_10 : decode cX10_orders 10 = .ok (.aload_n 0, 1) := by decide +kernel
theorem dX10_orders_11 : decode cX10_orders 11 = .ok (.getfield 13, 3) := by decide +kernel
theorem dX10_orders_14 : decode cX10_orders 14 = .ok (.invokevirtual 200, 3) := by decide +kernel
theorem dX10_orders_17 : decode cX10_orders 17 = .ok (.goto 6, 3) := by decide +kernel
theorem dX10_orders_20 : decode cX10_orders 20 = .ok (.ldc2_w 179, 3) := by decide +kernel
theorem dX10_orders_23 : decode cX10_orders 23 = .ok (.lreturn, 1) := by decide +kernel
theorem dX10_rise_0 : decode cX10_rise 0 = .ok (.aload_n 0, 1) := by decide +kernel
theorem dX10_rise_1 : decode cX10_rise 1 = .ok (.getfield 13, 3) := by decide +kernel
theorem dX10_rise_4 : decode cX10_rise 4 = .ok (.invokevirtual 203, 3) := by decide +kernel
theorem dX10_rise_7 : decode cX10_rise 7 = .ok (.istore_n 1, 1) := by decide +kernel
theorem dX10_rise_8 : decode cX10_rise 8 = .ok (.aload_n 0, 1) := by decide +kernel
theorem dX10_rise_9 : decode cX10_rise 9 = .ok (.getfield 13, 3) := by decide +kernel
theorem dX10_rise_12 : decode cX10_rise 12 = .ok (.invokevirtual 100, 3) := by decide +kernel
theorem dX10_rise_15 : decode cX10_rise 15 = .ok (.iload_n 1, 1) := by decide +kernel
theorem dX10_rise_16 : decode cX10_rise 16 = .ok (.ireturn, 1) := by decide +kernel
theorem dX10_risings_0 : decode cX10_risings 0 = .ok (.aload_n 0, 1) := by decide +kernel
theorem dX10_risings_1 : decode cX10_risings 1 = .ok (.iload_n 1, 1) := by decide +kernel
theorem dX10_risings_2 : decode cX10_risings 2 = .ok (.invokevirtual 163, 3) := by decide +kernel
theorem dX10_risings_5 : decode cX10_risings 5 = .ok (.ifCond .eq 21, 3) := by decide +kernel
theorem dX10_risings_8 : decode cX10_risings 8 = .ok (.aload_n 0, 1) := by decide +kernel
theorem dX10_risings_9 : decode cX10_risings 9 = .ok (.getfield 38, 3) := by decide +kernel
theorem dX10_risings_12 : decode cX10_risings 12 = .ok (.aload_n 0, 1) := by decide +kernel
theorem dX10_risings_13 : decode cX10_risings 13 = .ok (.getfield 13, 3) := by decide +kernel
theorem dX10_risings_16 : decode cX10_risings 16 = .ok (.getfield 93, 3) := by decide +kernel
theorem dX10_risings_19 : decode cX10_risings 19 = .ok (.iload_n 1, 1) := by decide +kernel
theorem dX10_risings_20 : decode cX10_risings 20 = .ok (.invokevirtual 206, 3) := by decide +kernel
theorem dX10_risings_23 : decode cX10_risings 23 = .ok (.goto 6, 3) := by decide +kernel
theorem dX10_risings_26 : decode cX10_risings 26 = .ok (.ldc2_w 170, 3) := by decide +kernel
theorem dX10_risings_29 : decode cX10_risings 29 = .ok (.lreturn, 1) := by decide +kernel
theorem dX10_riseRank_0 : decode cX10_riseRank 0 = .ok (.aload_n 0, 1) := by decide +kernel
theorem dX10_riseRank_1 : decode cX10_riseRank 1 = .ok (.invokevirtual 172, 3) := by decide +kernel
theorem dX10_riseRank_4 : decode cX10_riseRank 4 = .ok (.ifCond .eq 13, 3) := by decide +kernel
theorem dX10_riseRank_7 : decode cX10_riseRank 7 = .ok (.aload_n 0, 1) := by decide +kernel
theorem dX10_riseRank_8 : decode cX10_riseRank 8 = .ok (.getfield 13, 3) := by decide +kernel
theorem dX10_riseRank_11 : decode cX10_riseRank 11 = .ok (.invokevirtual 207, 3) := by decide +kernel
theorem dX10_riseRank_14 : decode cX10_riseRank 14 = .ok (.ifCond .ne 7, 3) := by decide +kernel
theorem dX10_riseRank_17 : decode cX10_riseRank 17 = .ok (.ldc2_w 179, 3) := by decide +kernel
theorem dX10_riseRank_20 : decode cX10_riseRank 20 = .ok (.lreturn, 1) := by decide +kernel
theorem dX10_riseRank_21 : decode cX10_riseRank 21 = .ok (.aload_n 0, 1) := by decide +kernel
theorem dX10_riseRank_22 : decode cX10_riseRank 22 = .ok (.getfield 38, 3) := by decide +kernel
theorem dX10_riseRank_25 : decode cX10_riseRank 25 = .ok (.aload_n 0, 1) := by decide +kernel
theorem dX10_riseRank_26 : decode cX10_riseRank 26 = .ok (.getfield 13, 3) := by decide +kernel
theorem dX10_riseRank_29 : decode cX10_riseRank 29 = .ok (.getfield 106, 3) := by decide +kernel
theorem dX10_riseRank_32 : decode cX10_riseRank 32 = .ok (.aload_n 0, 1) := by decide +kernel
theorem dX10_riseRank_33 : decode cX10_riseRank 33 = .ok (.getfield 13, 3) := by decide +kernel
theorem dX10_riseRank_36 : decode cX10_riseRank 36 = .ok (.getfield 93, 3) := by decide +kernel
theorem dX10_riseRank_39 : decode cX10_riseRank 39 = .ok (.aload_n 0, 1) := by decide +kernel
theorem dX10_riseRank_40 : decode cX10_riseRank 40 = .ok (.getfield 13, 3) := by decide +kernel
theorem dX10_riseRank_43 : decode cX10_riseRank 43 = .ok (.getfield 89, 3) := by decide +kernel
theorem dX10_riseRank_46 : decode cX10_riseRank 46 = .ok (.invokevirtual 210, 3) := by decide +kernel
theorem dX10_riseRank_49 : decode cX10_riseRank 49 = .ok (.lreturn, 1) := by decide +kernel
theorem dX10_riseUnrank_0 : decode cX10_riseUnrank 0 = .ok (.aload_n 0, 1) := by decide +kernel
theorem dX10_riseUnrank_1 : decode cX10_riseUnrank 1 = .ok (.iload_n 1, 1) := by decide +kernel
theorem dX10_riseUnrank_2 : decode cX10_riseUnrank 2 = .ok (.invokevirtual 163, 3) := by decide +kernel
theorem dX10_riseUnrank_5 : decode cX10_riseUnrank 5 = .ok (.ifCond .eq 29, 3) := by decide +kernel
theorem dX10_riseUnrank_8 : decode cX10_riseUnrank 8 = .ok (.lload_n 2, 1) := by decide +kernel
theorem dX10_riseUnrank_9 : decode cX10_riseUnrank 9 = .ok (.lconst 0, 1) := by decide +kernel
theorem dX10_riseUnrank_10 : decode cX10_riseUnrank 10 = .ok (.lcmp, 1) := by decide +kernel
theorem dX10_riseUnrank_11 : decode cX10_riseUnrank 11 = .ok (.ifCond .lt 23, 3) := by decide +kernel
theorem dX10_riseUnrank_14 : decode cX10_riseUnrank 14 = .ok (.lload_n 2, 1) := by decide +kernel
theorem dX10_riseUnrank_15 : decode cX10_riseUnrank 15 = .ok (.aload_n 0, 1) := by decide +kernel
theorem dX10_riseUnrank_16 : decode cX10_riseUnrank 16 = .ok (.getfield 38, 3) := by decide +kernel
theorem dX10_riseUnrank_19 : decode cX10_riseUnrank 19 = .ok (.aload_n 0, 1) := by decide +kernel
theorem dX10_riseUnrank_20 : decode cX10_riseUnrank 20 = .ok (.getfield 13, 3) := by decide +kernel
theorem dX10_riseUnrank_23 : decode cX10_riseUnrank 23 = .ok (.getfield 93, 3) := by decide +kernel
theorem dX10_riseUnrank_26 : decode cX10_riseUnrank 26 = .ok (.iload_n 1, 1) := by decide +kernel
theorem dX10_riseUnrank_27 : decode cX10_riseUnrank 27 = .ok (.invokevirtual 206, 3) := by decide +kernel
theorem dX10_riseUnrank_30 : decode cX10_riseUnrank 30 = .ok (.lcmp, 1) := by decide +kernel
theorem dX10_riseUnrank_31 : decode cX10_riseUnrank 31 = .ok (.ifCond .lt 5, 3) := by decide +kernel
theorem dX10_riseUnrank_34 : decode cX10_riseUnrank 34 = .ok (.iconst (-1), 1) := by decide +kernel
theorem dX10_riseUnrank_35 : decode cX10_riseUnrank 35 = .ok (.ireturn, 1) := by decide +kernel
theorem dX10_riseUnrank_36 : decode cX10_riseUnrank 36 = .ok (.aload_n 0, 1) := by decide +kernel
theorem dX10_riseUnrank_37 : decode cX10_riseUnrank 37 = .ok (.getfield 13, 3) := by decide +kernel
theorem dX10_riseUnrank_40 : decode cX10_riseUnrank 40 = .ok (.getfield 181, 3) := by decide +kernel
theorem dX10_riseUnrank_43 : decode cX10_riseUnrank 43 = .ok (.ifCond .eq 6, 3) := by decide +kernel
theorem dX10_riseUnrank_46 : decode cX10_riseUnrank 46 = .ok (.bipush (-2), 2) := by decide +kernel
theorem dX10_riseUnrank_48 : decode cX10_riseUnrank 48 = .ok (.ireturn, 1) := by decide +kernel
theorem dX10_riseUnrank_49 : decode cX10_riseUnrank 49 = .ok (.aload_n 0, 1) := by decide +kernel
theorem dX10_riseUnrank_50 : decode cX10_riseUnrank 50 = .ok (.getfield 38, 3) := by decide +kernel
theorem dX10_riseUnrank_53 : decode cX10_riseUnrank 53 = .ok (.aload_n 0, 1) := by decide +kernel
theorem dX10_riseUnrank_54 : decode cX10_riseUnrank 54 = .ok (.getfield 77, 3) := by decide +kernel
theorem dX10_riseUnrank_57 : decode cX10_riseUnrank 57 = .ok (.aload_n 0, 1) := by decide +kernel
theorem dX10_riseUnrank_58 : decode cX10_riseUnrank 58 = .ok (.getfield 13, 3) := by decide +kernel
theorem dX10_riseUnrank_61 : decode cX10_riseUnrank 61 = .ok (.getfield 93, 3) := by decide +kernel
theorem dX10_riseUnrank_64 : decode cX10_riseUnrank 64 = .ok (.iload_n 1, 1) := by decide +kernel
theorem dX10_riseUnrank_65 : decode cX10_riseUnrank 65 = .ok (.lload_n 2, 1) := by decide +kernel
theorem dX10_riseUnrank_66 : decode cX10_riseUnrank 66 = .ok (.invokevirtual 211, 3) := by decide +kernel
theorem dX10_riseUnrank_69 : decode cX10_riseUnrank 69 = .ok (.aload_n 0, 1) := by decide +kernel
theorem dX10_riseUnrank_70 : decode cX10_riseUnrank 70 = .ok (.getfield 13, 3) := by decide +kernel
theorem dX10_riseUnrank_73 : decode cX10_riseUnrank 73 = .ok (.aload_n 0, 1) := by decide +kernel
theorem dX10_riseUnrank_74 : decode cX10_riseUnrank 74 = .ok (.getfield 77, 3) := by decide +kernel
theorem dX10_riseUnrank_77 : decode cX10_riseUnrank 77 = .ok (.iload_n 1, 1) := by decide +kernel
theorem dX10_riseUnrank_78 : decode cX10_riseUnrank 78 = .ok (.invokevirtual 188, 3) := by decide +kernel
theorem dX10_riseUnrank_81 : decode cX10_riseUnrank 81 = .ok (.iload_n 1, 1) := by decide +kernel
theorem dX10_riseUnrank_82 : decode cX10_riseUnrank 82 = .ok (.ireturn, 1) := by decide +kernel
theorem dX10_cuts_0 : decode cX10_cuts 0 = .ok (.aload_n 0, 1) := by decide +kernel
theorem dX10_cuts_1 : decode cX10_cuts 1 = .ok (.invokevirtual 212, 3) := by decide +kernel
theorem dX10_cuts_4 : decode cX10_cuts 4 = .ok (.ifCond .eq 13, 3) := by decide +kernel
theorem dX10_cuts_7 : decode cX10_cuts 7 = .ok (.aload_n 0, 1) := by decide +kernel
theorem dX10_cuts_8 : decode cX10_cuts 8 = .ok (.getfield 13, 3) := by decide +kernel
theorem dX10_cuts_11 : decode cX10_cuts 11 = .ok (.invokevirtual 215, 3) := by decide +kernel
theorem dX10_cuts_14 : decode cX10_cuts 14 = .ok (.goto 5, 3) := by decide +kernel
theorem dX10_cuts_17 : decode cX10_cuts 17 = .ok (.bipush (-2), 2) := by decide +kernel
theorem dX10_cuts_19 : decode cX10_cuts 19 = .ok (.ireturn, 1) := by decide +kernel
theorem dX10_primes_0 : decode cX10_primes 0 = .ok (.aload_n 0, 1) := by decide +kernel
theorem dX10_primes_1 : decode cX10_primes 1 = .ok (.getfield 31, 3) := by decide +kernel
theorem dX10_primes_4 : decode cX10_primes 4 = .ok (.aload_n 0, 1) := by decide +kernel
theorem dX10_primes_5 : decode cX10_primes 5 = .ok (.getfield 13, 3) := by decide +kernel
theorem dX10_primes_8 : decode cX10_primes 8 = .ok (.getfield 93, 3) := by decide +kernel
theorem dX10_primes_11 : decode cX10_primes 11 = .ok (.invokevirtual 218, 3) := by decide +kernel
theorem dX10_primes_14 : decode cX10_primes 14 = .ok (.lreturn, 1) := by decide +kernel
theorem dX10_mend_0 : decode cX10_mend 0 = .ok (.aload_n 0, 1) := by decide +kernel
theorem dX10_mend_1 : decode cX10_mend 1 = .ok (.getfield 13, 3) := by decide +kernel
theorem dX10_mend_4 : decode cX10_mend 4 = .ok (.invokevirtual 222, 3) := by decide +kernel
theorem dX10_mend_7 : decode cX10_mend 7 = .ok (.ifCond .eq 20, 3) := by decide +kernel
theorem dX10_mend_10 : decode cX10_mend 10 = .ok (.aload_n 0, 1) := by decide +kernel
theorem dX10_mend_11 : decode cX10_mend 11 = .ok (.getfield 13, 3) := by decide +kernel
theorem dX10_mend_14 : decode cX10_mend 14 = .ok (.getfield 89, 3) := by decide +kernel
theorem dX10_mend_17 : decode cX10_mend 17 = .ok (.aload_n 0, 1) := by decide +kernel
theorem dX10_mend_18 : decode cX10_mend 18 = .ok (.getfield 13, 3) := by decide +kernel
theorem dX10_mend_21 : decode cX10_mend 21 = .ok (.getfield 93, 3) := by decide +kernel
theorem dX10_mend_24 : decode cX10_mend 24 = .ok (.if_icmp .eq 6, 3) := by decide +kernel
theorem dX10_mend_27 : decode cX10_mend 27 = .ok (.bipush (-2), 2) := by decide +kernel
theorem dX10_mend_29 : decode cX10_mend 29 = .ok (.ireturn, 1) := by decide +kernel
theorem dX10_mend_30 : decode cX10_mend 30 = .ok (.aload_n 0, 1) := by decide +kernel
theorem dX10_mend_31 : decode cX10_mend 31 = .ok (.getfield 13, 3) := by decide +kernel
theorem dX10_mend_34 : decode cX10_mend 34 = .ok (.invokevirtual 225, 3) := by decide +kernel
theorem dX10_mend_37 : decode cX10_mend 37 = .ok (.istore_n 1, 1) := by decide +kernel
theorem dX10_mend_38 : decode cX10_mend 38 = .ok (.aload_n 0, 1) := by decide +kernel
theorem dX10_mend_39 : decode cX10_mend 39 = .ok (.getfield 13, 3) := by decide +kernel
theorem dX10_mend_42 : decode cX10_mend 42 = .ok (.invokevirtual 100, 3) := by decide +kernel
theorem dX10_mend_45 : decode cX10_mend 45 = .ok (.iload_n 1, 1) := by decide +kernel
theorem dX10_mend_46 : decode cX10_mend 46 = .ok (.ireturn, 1) := by decide +kernel
theorem dX10_node_0 : decode cX10_node 0 = .ok (.aload_n 0, 1) := by decide +kernel
theorem dX10_node_1 : decode cX10_node 1 = .ok (.getfield 13, 3) := by decide +kernel
theorem dX10_node_4 : decode cX10_node 4 = .ok (.iload_n 1, 1) := by decide +kernel
theorem dX10_node_5 : decode cX10_node 5 = .ok (.invokevirtual 103, 3) := by decide +kernel
theorem dX10_node_8 : decode cX10_node 8 = .ok (.ifCond .eq 12, 3) := by decide +kernel
theorem dX10_node_11 : decode cX10_node 11 = .ok (.iload_n 2, 1) := by decide +kernel
theorem dX10_node_12 : decode cX10_node 12 = .ok (.ifCond .lt 8, 3) := by decide +kernel
theorem dX10_node_15 : decode cX10_node 15 = .ok (.iload_n 2, 1) := by decide +kernel
theorem dX10_node_16 : decode cX10_node 16 = .ok (.iconst 4, 1) := by decide +kernel
theorem dX10_node_17 : decode cX10_node 17 = .ok (.if_icmp .le 5, 3) := by decide +kernel
theorem dX10_node_20 : decode cX10_node 20 = .ok (.iconst (-1), 1) := by decide +kernel
theorem dX10_node_21 : decode cX10_node 21 = .ok (.ireturn, 1) := by decide +kernel
theorem dX10_node_22 : decode cX10_node 22 = .ok (.aload_n 0, 1) := by decide +kernel
theorem dX10_node_23 : decode cX10_node 23 = .ok (.invokevirtual 212, 3) := by decide +kernel
theorem dX10_node_26 : decode cX10_node 26 = .ok (.ifCond .ne 6, 3) := by decide +kernel
theorem dX10_node_29 : decode cX10_node 29 = .ok (.bipush (-2), 2) := by decide +kernel
theorem dX10_node_31 : decode cX10_node 31 = .ok (.ireturn, 1) := by decide +kernel
theorem dX10_node_32 : decode cX10_node 32 = .ok (.aload_n 0, 1) := by decide +kernel
theorem dX10_node_33 : decode cX10_node 33 = .ok (.getfield 45, 3) := by decide +kernel
theorem dX10_node_36 : decode cX10_node 36 = .ok (.aload_n 0, 1) := by decide +kernel
theorem dX10_node_37 : decode cX10_node 37 = .ok (.getfield 13, 3) := by decide +kernel
theorem dX10_node_40 : decode cX10_node 40 = .ok (.getfield 106, 3) := by decide +kernel
theorem dX10_node_43 : decode cX10_node 43 = .ok (.aload_n 0, 1) := by decide +kernel
theorem dX10_node_44 : decode cX10_node 44 = .ok (.getfield 13, 3) := by decide +kernel
theorem dX10_node_47 : decode cX10_node 47 = .ok (.getfield 93, 3) := by decide +kernel
theorem dX10_node_50 : decode cX10_node 50 = .ok (.invokevirtual 228, 3) := by decide +kernel
theorem dX10_node_53 : decode cX10_node 53 = .ok (.iload_n 2, 1) := by decide +kernel
theorem dX10_node_54 : decode cX10_node 54 = .ok (.tableswitch 70 0 3 #[30, 40, 50, 60], 30) := by decide +kernel
theorem dX10_node_84 : decode cX10_node 84 = .ok (.aload_n 0, 1) := by decide +kernel
theorem dX10_node_85 : decode cX10_node 85 = .ok (.getfield 45, 3) := by decide +kernel
theorem dX10_node_88 : decode cX10_node 88 = .ok (.getfield 231, 3) := by decide +kernel
theorem dX10_node_91 : decode cX10_node 91 = .ok (.iload_n 1, 1) := by decide +kernel
theorem dX10_node_92 : decode cX10_node 92 = .ok (.iaload, 1) := by decide +kernel
theorem dX10_node_93 : decode cX10_node 93 = .ok (.ireturn, 1) := by decide +kernel
theorem dX10_node_94 : decode cX10_node 94 = .ok (.aload_n 0, 1) := by decide +kernel
theorem dX10_node_95 : decode cX10_node 95 = .ok (.getfield 45, 3) := by decide +kernel
theorem dX10_node_98 : decode cX10_node 98 = .ok (.getfield 234, 3) := by decide +kernel
theorem dX10_node_101 : decode cX10_node 101 = .ok (.iload_n 1, 1) := by decide +kernel
theorem dX10_node_102 : decode cX10_node 102 = .ok (.iaload, 1) := by decide +kernel
theorem dX10_node_103 : decode cX10_node 103 = .ok (.ireturn, 1) := by decide +kernel
theorem dX10_node_104 : decode cX10_node 104 = .ok (.aload_n 0, 1) := by decide +kernel
theorem dX10_node_105 : decode cX10_node 105 = .ok (.getfield 45, 3) := by decide +kernel
theorem dX10_node_108 : decode cX10_node 108 = .ok (.getfield 237, 3) := by decide +kernel
theorem dX10_node_111 : decode cX10_node 111 = .ok (.iload_n 1, 1) := by decide +kernel
theorem dX10_node_112 : decode cX10_node 112 = .ok (.iaload, 1) := by decide +kernel
theorem dX10_node_113 : decode cX10_node 113 = .ok (.ireturn, 1) := by decide +kernel
theorem dX10_node_114 : decode cX10_node 114 = .ok (.aload_n 0, 1) := by decide +kernel
theorem dX10_node_115 : decode cX10_node 115 = .ok (.getfield 45, 3) := by decide +kernel
theorem dX10_node_118 : decode cX10_node 118 = .ok (.getfield 240, 3) := by decide +kernel
theorem dX10_node_121 : decode cX10_node 121 = .ok (.iload_n 1, 1) := by decide +kernel
theorem dX10_node_122 : decode cX10_node 122 = .ok (.iaload, 1) := by decide +kernel
theorem dX10_node_123 : decode cX10_node 123 = .ok (.ireturn, 1) := by decide +kernel
theorem dX10_node_124 : decode cX10_node 124 = .ok (.aload_n 0, 1) := by decide +kernel
theorem dX10_node_125 : decode cX10_node 125 = .ok (.getfield 45, 3) := by decide +kernel
theorem dX10_node_128 : decode cX10_node 128 = .ok (.getfield 243, 3) := by decide +kernel
theorem dX10_node_131 : decode cX10_node 131 = .ok (.iload_n 1, 1) := by decide +kernel
theorem dX10_node_132 : decode cX10_node 132 = .ok (.iaload, 1) := by decide +kernel
theorem dX10_node_133 : decode cX10_node 133 = .ok (.ireturn, 1) := by decide +kernel
theorem dX10_inv_0 : decode cX10_inv 0 = .ok (.aload_n 0, 1) := by decide +kernel
theorem dX10_inv_1 : decode cX10_inv 1 = .ok (.invokevirtual 212, 3) := by decide +kernel
theorem dX10_inv_4 : decode cX10_inv 4 = .ok (.ifCond .ne 6, 3) := by decide +kernel
theorem dX10_inv_7 : decode cX10_inv 7 = .ok (.bipush (-2), 2) := by decide +kernel
theorem dX10_inv_9 : decode cX10_inv 9 = .ok (.ireturn, 1) := by decide +kernel
theorem dX10_inv_10 : decode cX10_inv 10 = .ok (.aload_n 0, 1) := by decide +kernel
theorem dX10_inv_11 : decode cX10_inv 11 = .ok (.getfield 45, 3) := by decide +kernel
theorem dX10_inv_14 : decode cX10_inv 14 = .ok (.aload_n 0, 1) := by decide +kernel
theorem dX10_inv_15 : decode cX10_inv 15 = .ok (.getfield 13, 3) := by decide +kernel
theorem dX10_inv_18 : decode cX10_inv 18 = .ok (.getfield 106, 3) := by decide +kernel
theorem dX10_inv_21 : decode cX10_inv 21 = .ok (.aload_n 0, 1) := by decide +kernel
theorem dX10_inv_22 : decode cX10_inv 22 = .ok (.getfield 13, 3) := by decide +kernel
theorem dX10_inv_25 : decode cX10_inv 25 = .ok (.getfield 93, 3) := by decide +kernel
theorem dX10_inv_28 : decode cX10_inv 28 = .ok (.invokevirtual 228, 3) := by decide +kernel
theorem dX10_inv_31 : decode cX10_inv 31 = .ok (.aload_n 0, 1) := by decide +kernel
theorem dX10_inv_32 : decode cX10_inv 32 = .ok (.getfield 45, 3) := by decide +kernel
theorem dX10_inv_35 : decode cX10_inv 35 = .ok (.invokevirtual 246, 3) := by decide +kernel
theorem dX10_inv_38 : decode cX10_inv 38 = .ok (.ireturn, 1) := by decide +kernel
theorem dX10_code_0 : decode cX10_code 0 = .ok (.iload_n 1, 1) := by decide +kernel
theorem dX10_code_1 : decode cX10_code 1 = .ok (.ifCond .lt 16, 3) := by decide +kernel
theorem dX10_code_4 : decode cX10_code 4 = .ok (.iload_n 1, 1) := by decide +kernel
theorem dX10_code_5 : decode cX10_code 5 = .ok (.aload_n 0, 1) := by decide +kernel
theorem dX10_code_6 : decode cX10_code 6 = .ok (.getfield 13, 3) := by decide +kernel
theorem dX10_code_9 : decode cX10_code 9 = .ok (.getfield 93, 3) := by decide +kernel
theorem dX10_code_12 : decode cX10_code 12 = .ok (.iconst 2, 1) := by decide +kernel
theorem dX10_code_13 : decode cX10_code 13 = .ok (.isub, 1) := by decide +kernel
theorem dX10_code_14 : decode cX10_code 14 = .ok (.if_icmp .le 5, 3) := by decide +kernel
theorem dX10_code_17 : decode cX10_code 17 = .ok (.iconst (-1), 1) := by decide +kernel
theorem dX10_code_18 : decode cX10_code 18 = .ok (.ireturn, 1) := by decide +kernel
theorem dX10_code_19 : decode cX10_code 19 = .ok (.aload_n 0, 1) := by decide +kernel
theorem dX10_code_20 : decode cX10_code 20 = .ok (.invokevirtual 212, 3) := by decide +kernel
theorem dX10_code_23 : decode cX10_code 23 = .ok (.ifCond .ne 6, 3) := by decide +kernel
theorem dX10_code_26 : decode cX10_code 26 = .ok (.bipush (-2), 2) := by decide +kernel
theorem dX10_code_28 : decode cX10_code 28 = .ok (.ireturn, 1) := by decide +kernel
theorem dX10_code_29 : decode cX10_code 29 = .ok (.aload_n 0, 1) := by decide +kernel
theorem dX10_code_30 : decode cX10_code 30 = .ok (.getfield 45, 3) := by decide +kernel
theorem dX10_code_33 : decode cX10_code 33 = .ok (.aload_n 0, 1) := by decide +kernel
theorem dX10_code_34 : decode cX10_code 34 = .ok (.getfield 13, 3) := by decide +kernel
theorem dX10_code_37 : decode cX10_code 37 = .ok (.getfield 106, 3) := by decide +kernel
theorem dX10_code_40 : decode cX10_code 40 = .ok (.aload_n 0, 1) := by decide +kernel
theorem dX10_code_41 : decode cX10_code 41 = .ok (.getfield 13, 3) := by decide +kernel
theorem dX10_code_44 : decode cX10_code 44 = .ok (.getfield 93, 3) := by decide +kernel
theorem dX10_code_47 : decode cX10_code 47 = .ok (.invokevirtual 228, 3) := by decide +kernel
theorem dX10_code_50 : decode cX10_code 50 = .ok (.aload_n 0, 1) := by decide +kernel
theorem dX10_code_51 : decode cX10_code 51 = .ok (.getfield 45, 3) := by decide +kernel
theorem dX10_code_54 : decode cX10_code 54 = .ok (.iload_n 1, 1) := by decide +kernel
theorem dX10_code_55 : decode cX10_code 55 = .ok (.invokevirtual 249, 3) := by decide +kernel
theorem dX10_code_58 : decode cX10_code 58 = .ok (.ireturn, 1) := by decide +kernel
theorem dX10_decode_0 : decode cX10_decode 0 = .ok (.aload_n 0, 1) := by decide +kernel
theorem dX10_decode_1 : decode cX10_decode 1 = .ok (.getfield 13, 3) := by decide +kernel
theorem dX10_decode_4 : decode cX10_decode 4 = .ok (.getfield 93, 3) := by decide +kernel
theorem dX10_decode_7 : decode cX10_decode 7 = .ok (.iconst 1, 1) := by decide +kernel
theorem dX10_decode_8 : decode cX10_decode 8 = .ok (.isub, 1) := by decide +kernel
theorem dX10_decode_9 : decode cX10_decode 9 = .ok (.istore 4, 2) := by decide +kernel
theorem dX10_decode_11 : decode cX10_decode 11 = .ok (.aload_n 0, 1) := by decide +kernel
theorem dX10_decode_12 : decode cX10_decode 12 = .ok (.getfield 73, 3) := by decide +kernel
theorem dX10_decode_15 : decode cX10_decode 15 = .ok (.iload_n 1, 1) := by decide +kernel
theorem dX10_decode_16 : decode cX10_decode 16 = .ok (.iload_n 2, 1) := by decide +kernel
theorem dX10_decode_17 : decode cX10_decode 17 = .ok (.iload_n 3, 1) := by decide +kernel
theorem dX10_decode_18 : decode cX10_decode 18 = .ok (.iload 4, 2) := by decide +kernel
theorem dX10_decode_20 : decode cX10_decode 20 = .ok (.invokevirtual 252, 3) := by decide +kernel
theorem dX10_decode_23 : decode cX10_decode 23 = .ok (.istore 5, 2) := by decide +kernel
theorem dX10_decode_25 : decode cX10_decode 25 = .ok (.iload 5, 2) := by decide +kernel
theorem dX10_decode_27 : decode cX10_decode 27 = .ok (.ifCond .eq 6, 3) := by decide +kernel
theorem dX10_decode_30 : decode cX10_decode 30 = .ok (.iload 5, 2) := by decide +kernel
theorem dX10_decode_32 : decode cX10_decode 32 = .ok (.ireturn, 1) := by decide +kernel
theorem dX10_decode_33 : decode cX10_decode 33 = .ok (.aload_n 0, 1) := by decide +kernel
theorem dX10_decode_34 : decode cX10_decode 34 = .ok (.getfield 13, 3) := by decide +kernel
theorem dX10_decode_37 : decode cX10_decode 37 = .ok (.getfield 181, 3) := by decide +kernel
theorem dX10_decode_40 : decode cX10_decode 40 = .ok (.ifCond .ne 30, 3) := by decide +kernel
theorem dX10_decode_43 : decode cX10_decode 43 = .ok (.iload 4, 2) := by decide +kernel
theorem dX10_decode_45 : decode cX10_decode 45 = .ok (.ifCond .eq 25, 3) := by decide +kernel
theorem dX10_decode_48 : decode cX10_decode 48 = .ok (.aload_n 0, 1) := by decide +kernel
theorem dX10_decode_49 : decode cX10_decode 49 = .ok (.getfield 73, 3) := by decide +kernel
theorem dX10_decode_52 : decode cX10_decode 52 = .ok (.iload_n 1, 1) := by decide +kernel
theorem dX10_decode_53 : decode cX10_decode 53 = .ok (.iload_n 3, 1) := by decide +kernel
theorem dX10_decode_54 : decode cX10_decode 54 = .ok (.iload 4, 2) := by decide +kernel
theorem dX10_decode_56 : decode cX10_decode 56 = .ok (.iconst 0, 1) := by decide +kernel
theorem dX10_decode_57 : decode cX10_decode 57 = .ok (.aload_n 0, 1) := by decide +kernel
theorem dX10_decode_58 : decode cX10_decode 58 = .ok (.getfield 13, 3) := by decide +kernel
theorem dX10_decode_61 : decode cX10_decode 61 = .ok (.getfield 93, 3) := by decide +kernel
theorem dX10_decode_64 : decode cX10_decode 64 = .ok (.invokevirtual 256, 3) := by decide +kernel
theorem dX10_decode_67 : decode cX10_decode 67 = .ok (.ifCond .ne 6, 3) := by decide +kernel
theorem dX10_decode_70 : decode cX10_decode 70 = .ok (.bipush (-2), 2) := by decide +kernel
theorem dX10_decode_72 : decode cX10_decode 72 = .ok (.ireturn, 1) := by decide +kernel
theorem dX10_decode_73 : decode cX10_decode 73 = .ok (.aload_n 0, 1) := by decide +kernel
theorem dX10_decode_74 : decode cX10_decode 74 = .ok (.getfield 73, 3) := by decide +kernel
theorem dX10_decode_77 : decode cX10_decode 77 = .ok (.aload_n 0, 1) := by decide +kernel
theorem dX10_decode_78 : decode cX10_decode 78 = .ok (.getfield 77, 3) := by decide +kernel
theorem dX10_decode_81 : decode cX10_decode 81 = .ok (.iload_n 1, 1) := by decide +kernel
theorem dX10_decode_82 : decode cX10_decode 82 = .ok (.iload_n 3, 1) := by decide +kernel
theorem dX10_decode_83 : decode cX10_decode 83 = .ok (.iload 4, 2) := by decide +kernel
theorem dX10_decode_85 : decode cX10_decode 85 = .ok (.invokevirtual 260, 3) := by decide +kernel
theorem dX10_decode_88 : decode cX10_decode 88 = .ok (.aload_n 0, 1) := by decide +kernel
theorem dX10_decode_89 : decode cX10_decode 89 = .ok (.getfield 45, 3) := by decide +kernel
theorem dX10_decode_92 : decode cX10_decode 92 = .ok (.aload_n 0, 1) := by decide +kernel
theorem dX10_decode_93 : decode cX10_decode 93 = .ok (.getfield 77, 3) := by decide +kernel
theorem dX10_decode_96 : decode cX10_decode 96 = .ok (.aload_n 0, 1) := by decide +kernel
theorem dX10_decode_97 : decode cX10_decode 97 = .ok (.getfield 13, 3) := by decide +kernel
theorem dX10_decode_100 : decode cX10_decode 100 = .ok (.getfield 93, 3) := by decide +kernel
theorem dX10_decode_103 : decode cX10_decode 103 = .ok (.invokevirtual 264, 3) := by decide +kernel
theorem dX10_decode_106 : decode cX10_decode 106 = .ok (.aload_n 0, 1) := by decide +kernel
theorem dX10_decode_107 : decode cX10_decode 107 = .ok (.getfield 45, 3) := by decide +kernel
theorem dX10_decode_110 : decode cX10_decode 110 = .ok (.aload_n 0, 1) := by decide +kernel
theorem dX10_decode_111 : decode cX10_decode 111 = .ok (.getfield 77, 3) := by decide +kernel
theorem dX10_decode_114 : decode cX10_decode 114 = .ok (.invokevirtual 267, 3) := by decide +kernel
theorem dX10_decode_117 : decode cX10_decode 117 = .ok (.pop, 1) := by decide +kernel
theorem dX10_decode_118 : decode cX10_decode 118 = .ok (.aload_n 0, 1) := by decide +kernel
theorem dX10_decode_119 : decode cX10_decode 119 = .ok (.getfield 13, 3) := by decide +kernel
theorem dX10_decode_122 : decode cX10_decode 122 = .ok (.aload_n 0, 1) := by decide +kernel
theorem dX10_decode_123 : decode cX10_decode 123 = .ok (.getfield 77, 3) := by decide +kernel
theorem dX10_decode_126 : decode cX10_decode 126 = .ok (.aload_n 0, 1) := by decide +kernel
theorem dX10_decode_127 : decode cX10_decode 127 = .ok (.getfield 13, 3) := by decide +kernel
theorem dX10_decode_130 : decode cX10_decode 130 = .ok (.getfield 93, 3) := by decide +kernel
theorem dX10_decode_133 : decode cX10_decode 133 = .ok (.invokevirtual 188, 3) := by decide +kernel
theorem dX10_decode_136 : decode cX10_decode 136 = .ok (.aload_n 0, 1) := by decide +kernel
theorem dX10_decode_137 : decode cX10_decode 137 = .ok (.getfield 13, 3) := by decide +kernel
theorem dX10_decode_140 : decode cX10_decode 140 = .ok (.getfield 93, 3) := by decide +kernel
theorem dX10_decode_143 : decode cX10_decode 143 = .ok (.ireturn, 1) := by decide +kernel
theorem dX10_grow_0 : decode cX10_grow 0 = .ok (.aload_n 0, 1) := by decide +kernel
theorem dX10_grow_1 : decode cX10_grow 1 = .ok (.getfield 13, 3) := by decide +kernel
theorem dX10_grow_4 : decode cX10_grow 4 = .ok (.getfield 93, 3) := by decide +kernel
theorem dX10_grow_7 : decode cX10_grow 7 = .ok (.istore 4, 2) := by decide +kernel
theorem dX10_grow_9 : decode cX10_grow 9 = .ok (.aload_n 0, 1) := by decide +kernel
theorem dX10_grow_10 : decode cX10_grow 10 = .ok (.getfield 73, 3) := by decide +kernel
theorem dX10_grow_13 : decode cX10_grow 13 = .ok (.iload_n 1, 1) := by decide +kernel
theorem dX10_grow_14 : decode cX10_grow 14 = .ok (.iload_n 2, 1) := by decide +kernel
theorem dX10_grow_15 : decode cX10_grow 15 = .ok (.iload_n 3, 1) := by decide +kernel
theorem dX10_grow_16 : decode cX10_grow 16 = .ok (.iload 4, 2) := by decide +kernel
theorem dX10_grow_18 : decode cX10_grow 18 = .ok (.invokevirtual 252, 3) := by decide +kernel
theorem dX10_grow_21 : decode cX10_grow 21 = .ok (.istore 5, 2) := by decide +kernel
theorem dX10_grow_23 : decode cX10_grow 23 = .ok (.iload 5, 2) := by decide +kernel
theorem dX10_grow_25 : decode cX10_grow 25 = .ok (.ifCond .eq 6, 3) := by decide +kernel
theorem dX10_grow_28 : decode cX10_grow 28 = .ok (.iload 5, 2) := by decide +kernel
theorem dX10_grow_30 : decode cX10_grow 30 = .ok (.ireturn, 1) := by decide +kernel
theorem dX10_grow_31 : decode cX10_grow 31 = .ok (.aload_n 0, 1) := by decide +kernel
theorem dX10_grow_32 : decode cX10_grow 32 = .ok (.getfield 13, 3) := by decide +kernel
theorem dX10_grow_35 : decode cX10_grow 35 = .ok (.getfield 181, 3) := by decide +kernel
theorem dX10_grow_38 : decode cX10_grow 38 = .ok (.ifCond .ne 20, 3) := by decide +kernel
theorem dX10_grow_41 : decode cX10_grow 41 = .ok (.aload_n 0, 1) := by decide +kernel
theorem dX10_grow_42 : decode cX10_grow 42 = .ok (.getfield 73, 3) := by decide +kernel
theorem dX10_grow_45 : decode cX10_grow 45 = .ok (.iload_n 1, 1) := by decide +kernel
theorem dX10_grow_46 : decode cX10_grow 46 = .ok (.iload_n 3, 1) := by decide +kernel
theorem dX10_grow_47 : decode cX10_grow 47 = .ok (.iload 4, 2) := by decide +kernel
theorem dX10_grow_49 : decode cX10_grow 49 = .ok (.iconst 0, 1) := by decide +kernel
theorem dX10_grow_50 : decode cX10_grow 50 = .ok (.iload 4, 2) := by decide +kernel
theorem dX10_grow_52 : decode cX10_grow 52 = .ok (.invokevirtual 256, 3) := by decide +kernel
theorem dX10_grow_55 : decode cX10_grow 55 = .ok (.ifCond .ne 6, 3) := by decide +kernel
theorem dX10_grow_58 : decode cX10_grow 58 = .ok (.bipush (-2), 2) := by decide +kernel
theorem dX10_grow_60 : decode cX10_grow 60 = .ok (.ireturn, 1) := by decide +kernel
theorem dX10_grow_61 : decode cX10_grow 61 = .ok (.aload_n 0, 1) := by decide +kernel
theorem dX10_grow_62 : decode cX10_grow 62 = .ok (.getfield 73, 3) := by decide +kernel
theorem dX10_grow_65 : decode cX10_grow 65 = .ok (.aload_n 0, 1) := by decide +kernel
theorem dX10_grow_66 : decode cX10_grow 66 = .ok (.getfield 77, 3) := by decide +kernel
theorem dX10_grow_69 : decode cX10_grow 69 = .ok (.iload_n 1, 1) := by decide +kernel
theorem dX10_grow_70 : decode cX10_grow 70 = .ok (.iload_n 3, 1) := by decide +kernel
theorem dX10_grow_71 : decode cX10_grow 71 = .ok (.iload 4, 2) := by decide +kernel
theorem dX10_grow_73 : decode cX10_grow 73 = .ok (.invokevirtual 260, 3) := by decide +kernel
theorem dX10_grow_76 : decode cX10_grow 76 = .ok (.aload_n 0, 1) := by decide +kernel
theorem dX10_grow_77 : decode cX10_grow 77 = .ok (.getfield 45, 3) := by decide +kernel
theorem dX10_grow_80 : decode cX10_grow 80 = .ok (.aload_n 0, 1) := by decide +kernel
theorem dX10_grow_81 : decode cX10_grow 81 = .ok (.getfield 77, 3) := by decide +kernel
theorem dX10_grow_84 : decode cX10_grow 84 = .ok (.iload 4, 2) := by decide +kernel
theorem dX10_grow_86 : decode cX10_grow 86 = .ok (.invokevirtual 271, 3) := by decide +kernel
theorem dX10_grow_89 : decode cX10_grow 89 = .ok (.aload_n 0, 1) := by decide +kernel
theorem dX10_grow_90 : decode cX10_grow 90 = .ok (.getfield 45, 3) := by decide +kernel
theorem dX10_grow_93 : decode cX10_grow 93 = .ok (.aload_n 0, 1) := by decide +kernel
theorem dX10_grow_94 : decode cX10_grow 94 = .ok (.getfield 77, 3) := by decide +kernel
theorem dX10_grow_97 : decode cX10_grow 97 = .ok (.invokevirtual 267, 3) := by decide +kernel
theorem dX10_grow_100 : decode cX10_grow 100 = .ok (.ifCond .ne 6, 3) := by decide +kernel
theorem dX10_grow_103 : decode cX10_grow 103 = .ok (.bipush (-2), 2) := by decide +kernel
theorem dX10_grow_105 : decode cX10_grow 105 = .ok (.ireturn, 1) := by decide +kernel
theorem dX10_grow_106 : decode cX10_grow 106 = .ok (.aload_n 0, 1) := by decide +kernel
theorem dX10_grow_107 : decode cX10_grow 107 = .ok (.getfield 13, 3) := by decide +kernel
theorem dX10_grow_110 : decode cX10_grow 110 = .ok (.aload_n 0, 1) := by decide +kernel
theorem dX10_grow_111 : decode cX10_grow 111 = .ok (.getfield 77, 3) := by decide +kernel
theorem dX10_grow_114 : decode cX10_grow 114 = .ok (.iload 4, 2) := by decide +kernel
theorem dX10_grow_116 : decode cX10_grow 116 = .ok (.invokevirtual 188, 3) := by decide +kernel
theorem dX10_grow_119 : decode cX10_grow 119 = .ok (.iload 4, 2) := by decide +kernel
theorem dX10_grow_121 : decode cX10_grow 121 = .ok (.ireturn, 1) := by decide +kernel
theorem dX10_walk_0 : decode cX10_walk 0 = .ok (.aload_n 0, 1) := by decide +kernel
theorem dX10_walk_1 : decode cX10_walk 1 = .ok (.getfield 13, 3) := by decide +kernel
theorem dX10_walk_4 : decode cX10_walk 4 = .ok (.iload_n 1, 1) := by decide +kernel
theorem dX10_walk_5 : decode cX10_walk 5 = .ok (.invokevirtual 85, 3) := by decide +kernel
theorem dX10_walk_8 : decode cX10_walk 8 = .ok (.ifCond .eq 12, 3) := by decide +kernel
theorem dX10_walk_11 : decode cX10_walk 11 = .ok (.iload_n 2, 1) := by decide +kernel
theorem dX10_walk_12 : decode cX10_walk 12 = .ok (.ifCond .lt 8, 3) := by decide +kernel
theorem dX10_walk_15 : decode cX10_walk 15 = .ok (.iload_n 2, 1) := by decide +kernel
theorem dX10_walk_16 : decode cX10_walk 16 = .ok (.iconst 1, 1) := by decide +kernel
theorem dX10_walk_17 : decode cX10_walk 17 = .ok (.if_icmp .le 5, 3) := by decide +kernel
theorem dX10_walk_20 : decode cX10_walk 20 = .ok (.iconst (-1), 1) := by decide +kernel
theorem dX10_walk_21 : decode cX10_walk 21 = .ok (.ireturn, 1) := by decide +kernel
theorem dX10_walk_22 : decode cX10_walk 22 = .ok (.aload_n 0, 1) := by decide +kernel
theorem dX10_walk_23 : decode cX10_walk 23 = .ok (.invokevirtual 212, 3) := by decide +kernel
theorem dX10_walk_26 : decode cX10_walk 26 = .ok (.ifCond .ne 6, 3) := by decide +kernel
theorem dX10_walk_29 : decode cX10_walk 29 = .ok (.bipush (-2), 2) := by decide +kernel
theorem dX10_walk_31 : decode cX10_walk 31 = .ok (.ireturn, 1) := by decide +kernel
theorem dX10_walk_32 : decode cX10_walk 32 = .ok (.aload_n 0, 1) := by decide +kernel
theorem dX10_walk_33 : decode cX10_walk 33 = .ok (.getfield 52, 3) := by decide +kernel
theorem dX10_walk_36 : decode cX10_walk 36 = .ok (.aload_n 0, 1) := by decide +kernel
theorem dX10_walk_37 : decode cX10_walk 37 = .ok (.getfield 13, 3) := by decide +kernel
theorem dX10_walk_40 : decode cX10_walk 40 = .ok (.getfield 106, 3) := by decide +kernel
theorem dX10_walk_43 : decode cX10_walk 43 = .ok (.aload_n 0, 1) := by decide +kernel
theorem dX10_walk_44 : decode cX10_walk 44 = .ok (.getfield 13, 3) := by decide +kernel
theorem dX10_walk_47 : decode cX10_walk 47 = .ok (.getfield 93, 3) := by decide +kernel
theorem dX10_walk_50 : decode cX10_walk 50 = .ok (.invokevirtual 274, 3) := by decide +kernel
theorem dX10_walk_53 : decode cX10_walk 53 = .ok (.iload_n 2, 1) := by decide +kernel
theorem dX10_walk_54 : decode cX10_walk 54 = .ok (.ifCond .ne 15, 3) := by decide +kernel
theorem dX10_walk_57 : decode cX10_walk 57 = .ok (.aload_n 0, 1) := by decide +kernel
theorem dX10_walk_58 : decode cX10_walk 58 = .ok (.getfield 52, 3) := by decide +kernel
theorem dX10_walk_61 : decode cX10_walk 61 = .ok (.getfield 275, 3) := by decide +kernel
theorem dX10_walk_64 : decode cX10_walk 64 = .ok (.iload_n 1, 1) := by decide +kernel
theorem dX10_walk_65 : decode cX10_walk 65 = .ok (.iaload, 1) := by decide +kernel
theorem dX10_walk_66 : decode cX10_walk 66 = .ok (.goto 12, 3) := by decide +kernel
theorem dX10_walk_69 : decode cX10_walk 69 = .ok (.aload_n 0, 1) := by decide +kernel
theorem dX10_walk_70 : decode cX10_walk 70 = .ok (.getfield 52, 3) := by decide +kernel
theorem dX10_walk_73 : decode cX10_walk 73 = .ok (.getfield 278, 3) := by decide +kernel
theorem dX10_walk_76 : decode cX10_walk 76 = .ok (.iload_n 1, 1) := by decide +kernel
theorem dX10_walk_77 : decode cX10_walk 77 = .ok (.iaload, 1) := by decide +kernel
theorem dX10_walk_78 : decode cX10_walk 78 = .ok (.ireturn, 1) := by decide +kernel
theorem dX10_counts_0 : decode cX10_counts 0 = .ok (.iload_n 1, 1) := by decide +kernel
theorem dX10_counts_1 : decode cX10_counts 1 = .ok (.ifCond .lt 8, 3) := by decide +kernel
theorem dX10_counts_4 : decode cX10_counts 4 = .ok (.iload_n 1, 1) := by decide +kernel
theorem dX10_counts_5 : decode cX10_counts 5 = .ok (.iconst 1, 1) := by decide +kernel
theorem dX10_counts_6 : decode cX10_counts 6 = .ok (.if_icmp .le 5, 3) := by decide +kernel
theorem dX10_counts_9 : decode cX10_counts 9 = .ok (.iconst (-1), 1) := by decide +kernel
theorem dX10_counts_10 : decode cX10_counts 10 = .ok (.ireturn, 1) := by decide +kernel
theorem dX10_counts_11 : decode cX10_counts 11 = .ok (.aload_n 0, 1) := by decide +kernel
theorem dX10_counts_12 : decode cX10_counts 12 = .ok (.invokevirtual 212, 3) := by decide +kernel
theorem dX10_counts_15 : decode cX10_counts 15 = .ok (.ifCond .ne 6, 3) := by decide +kernel
theorem dX10_counts_18 : decode cX10_counts 18 = .ok (.bipush (-2), 2) := by decide +kernel
theorem dX10_counts_20 : decode cX10_counts 20 = .ok (.ireturn, 1) := by decide +kernel
theorem dX10_counts_21 : decode cX10_counts 21 = .ok (.aload_n 0, 1) := by decide +kernel
theorem dX10_counts_22 : decode cX10_counts 22 = .ok (.getfield 52, 3) := by decide +kernel
theorem dX10_counts_25 : decode cX10_counts 25 = .ok (.aload_n 0, 1) := by decide +kernel
theorem dX10_counts_26 : decode cX10_counts 26 = .ok (.getfield 13, 3) := by decide +kernel
theorem dX10_counts_29 : decode cX10_counts 29 = .ok (.getfield 106, 3) := by decide +kernel
theorem dX10_counts_32 : decode cX10_counts 32 = .ok (.aload_n 0, 1) := by decide +kernel
theorem dX10_counts_33 : decode cX10_counts 33 = .ok (.getfield 13, 3) := by decide +kernel
theorem dX10_counts_36 : decode cX10_counts 36 = .ok (.getfield 93, 3) := by decide +kernel
theorem dX10_counts_39 : decode cX10_counts 39 = .ok (.invokevirtual 274, 3) := by decide +kernel
theorem dX10_counts_42 : decode cX10_counts 42 = .ok (.iload_n 1, 1) := by decide +kernel
theorem dX10_counts_43 : decode cX10_counts 43 = .ok (.ifCond .ne 13, 3) := by decide +kernel
theorem dX10_counts_46 : decode cX10_counts 46 = .ok (.aload_n 0, 1) := by decide +kernel
theorem dX10_counts_47 : decode cX10_counts 47 = .ok (.getfield 52, 3) := by decide +kernel
theorem dX10_counts_50 : decode cX10_counts 50 = .ok (.invokevirtual 281, 3) := by decide +kernel
theorem dX10_counts_53 : decode cX10_counts 53 = .ok (.goto 10, 3) := by decide +kernel
theorem dX10_counts_56 : decode cX10_counts 56 = .ok (.aload_n 0, 1) := by decide +kernel
theorem dX10_counts_57 : decode cX10_counts 57 = .ok (.getfield 52, 3) := by decide +kernel
theorem dX10_counts_60 : decode cX10_counts 60 = .ok (.invokevirtual 284, 3) := by decide +kernel
theorem dX10_counts_63 : decode cX10_counts 63 = .ok (.ireturn, 1) := by decide +kernel
theorem dX10_both_0 : decode cX10_both 0 = .ok (.iload_n 1, 1) := by decide +kernel
theorem dX10_both_1 : decode cX10_both 1 = .ok (.iconst 1, 1) := by decide +kernel
theorem dX10_both_2 : decode cX10_both 2 = .ok (.if_icmp .lt 8, 3) := by decide +kernel
theorem dX10_both_5 : decode cX10_both 5 = .ok (.iload_n 1, 1) := by decide +kernel
theorem dX10_both_6 : decode cX10_both 6 = .ok (.iconst 5, 1) := by decide +kernel
theorem dX10_both_7 : decode cX10_both 7 = .ok (.if_icmp .le 5, 3) := by decide +kernel
theorem dX10_both_10 : decode cX10_both 10 = .ok (.iconst (-1), 1) := by decide +kernel
theorem dX10_both_11 : decode cX10_both 11 = .ok (.ireturn, 1) := by decide +kernel
theorem dX10_both_12 : decode cX10_both 12 = .ok (.iload_n 2, 1) := by decide +kernel
theorem dX10_both_13 : decode cX10_both 13 = .ok (.ifCond .lt 19, 3) := by decide +kernel
theorem dX10_both_16 : decode cX10_both 16 = .ok (.iload_n 2, 1) := by decide +kernel
theorem dX10_both_17 : decode cX10_both 17 = .ok (.bipush 10, 2) := by decide +kernel
theorem dX10_both_19 : decode cX10_both 19 = .ok (.if_icmp .gt 13, 3) := by decide +kernel
theorem dX10_both_22 : decode cX10_both 22 = .ok (.iload_n 3, 1) := by decide +kernel
theorem dX10_both_23 : decode cX10_both 23 = .ok (.ifCond .lt 9, 3) := by decide +kernel
theorem dX10_both_26 : decode cX10_both 26 = .ok (.iload_n 3, 1) := by decide +kernel
theorem dX10_both_27 : decode cX10_both 27 = .ok (.bipush 10, 2) := by decide +kernel
theorem dX10_both_29 : decode cX10_both 29 = .ok (.if_icmp .le 5, 3) := by decide +kernel
theorem dX10_both_32 : decode cX10_both 32 = .ok (.iconst 0, 1) := by decide +kernel
theorem dX10_both_33 : decode cX10_both 33 = .ok (.ireturn, 1) := by decide +kernel
theorem dX10_both_34 : decode cX10_both 34 = .ok (.aload_n 0, 1) := by decide +kernel
theorem dX10_both_35 : decode cX10_both 35 = .ok (.getfield 59, 3) := by decide +kernel
theorem dX10_both_38 : decode cX10_both 38 = .ok (.iload_n 1, 1) := by decide +kernel
theorem dX10_both_39 : decode cX10_both 39 = .ok (.aload_n 0, 1) := by decide +kernel
theorem dX10_both_40 : decode cX10_both 40 = .ok (.getfield 31, 3) := by decide +kernel
theorem dX10_both_43 : decode cX10_both 43 = .ok (.aload_n 0, 1) := by decide +kernel
theorem dX10_both_44 : decode cX10_both 44 = .ok (.getfield 52, 3) := by decide +kernel
theorem dX10_both_47 : decode cX10_both 47 = .ok (.invokevirtual 287, 3) := by decide +kernel
theorem dX10_both_50 : decode cX10_both 50 = .ok (.aload_n 0, 1) := by decide +kernel
theorem dX10_both_51 : decode cX10_both 51 = .ok (.getfield 59, 3) := by decide +kernel
theorem dX10_both_54 : decode cX10_both 54 = .ok (.iload_n 1, 1) := by decide +kernel
theorem dX10_both_55 : decode cX10_both 55 = .ok (.iload_n 2, 1) := by decide +kernel
theorem dX10_both_56 : decode cX10_both 56 = .ok (.iload_n 3, 1) := by decide +kernel
theorem dX10_both_57 : decode cX10_both 57 = .ok (.invokevirtual 291, 3) := by decide +kernel
theorem dX10_both_60 : decode cX10_both 60 = .ok (.ireturn, 1) := by decide +kernel
theorem dX10_spread_0 : decode cX10_spread 0 = .ok (.iload_n 2, 1) := by decide +kernel
theorem dX10_spread_1 : decode cX10_spread 1 = .ok (.iconst 1, 1) := by decide +kernel
theorem dX10_spread_2 : decode cX10_spread 2 = .ok (.if_icmp .lt 9, 3) := by decide +kernel
theorem dX10_spread_5 : decode cX10_spread 5 = .ok (.iload_n 2, 1) := by decide +kernel
theorem dX10_spread_6 : decode cX10_spread 6 = .ok (.bipush 10, 2) := by decide +kernel
theorem dX10_spread_8 : decode cX10_spread 8 = .ok (.if_icmp .le 7, 3) := by decide +kernel
theorem dX10_spread_11 : decode cX10_spread 11 = .ok (.ldc2_w 170, 3) := by decide +kernel
theorem dX10_spread_14 : decode cX10_spread 14 = .ok (.lreturn, 1) := by decide +kernel
theorem dX10_spread_15 : decode cX10_spread 15 = .ok (.iload_n 1, 1) := by decide +kernel
theorem dX10_spread_16 : decode cX10_spread 16 = .ok (.tableswitch 100 0 5 #[40, 50, 60, 70, 80, 90], 40) := by decide +kernel
theorem dX10_spread_56 : decode cX10_spread 56 = .ok (.aload_n 0, 1) := by decide +kernel
theorem dX10_spread_57 : decode cX10_spread 57 = .ok (.getfield 66, 3) := by decide +kernel
theorem dX10_spread_60 : decode cX10_spread 60 = .ok (.iload_n 2, 1) := by decide +kernel
theorem dX10_spread_61 : decode cX10_spread 61 = .ok (.iload_n 3, 1) := by decide +kernel
theorem dX10_spread_62 : decode cX10_spread 62 = .ok (.invokevirtual 295, 3) := by decide +kernel
theorem dX10_spread_65 : decode cX10_spread 65 = .ok (.lreturn, 1) := by decide +kernel
theorem dX10_spread_66 : decode cX10_spread 66 = .ok (.aload_n 0, 1) := by decide +kernel
theorem dX10_spread_67 : decode cX10_spread 67 = .ok (.getfield 66, 3) := by decide +kernel
theorem dX10_spread_70 : decode cX10_spread 70 = .ok (.iload_n 2, 1) := by decide +kernel
theorem dX10_spread_71 : decode cX10_spread 71 = .ok (.iload_n 3, 1) := by decide +kernel
theorem dX10_spread_72 : decode cX10_spread 72 = .ok (.invokevirtual 298, 3) := by decide +kernel
theorem dX10_spread_75 : decode cX10_spread 75 = .ok (.lreturn, 1) := by decide +kernel
theorem dX10_spread_76 : decode cX10_spread 76 = .ok (.aload_n 0, 1) := by decide +kernel
theorem dX10_spread_77 : decode cX10_spread 77 = .ok (.getfield 66, 3) := by decide +kernel
theorem dX10_spread_80 : decode cX10_spread 80 = .ok (.iload_n 2, 1) := by decide +kernel
theorem dX10_spread_81 : decode cX10_spread 81 = .ok (.iload_n 3, 1) := by decide +kernel
theorem dX10_spread_82 : decode cX10_spread 82 = .ok (.invokevirtual 301, 3) := by decide +kernel
theorem dX10_spread_85 : decode cX10_spread 85 = .ok (.lreturn, 1) := by decide +kernel
theorem dX10_spread_86 : decode cX10_spread 86 = .ok (.aload_n 0, 1) := by decide +kernel
theorem dX10_spread_87 : decode cX10_spread 87 = .ok (.getfield 66, 3) := by decide +kernel
theorem dX10_spread_90 : decode cX10_spread 90 = .ok (.iload_n 2, 1) := by decide +kernel
theorem dX10_spread_91 : decode cX10_spread 91 = .ok (.iload_n 3, 1) := by decide +kernel
theorem dX10_spread_92 : decode cX10_spread 92 = .ok (.invokevirtual 304, 3) := by decide +kernel
theorem dX10_spread_95 : decode cX10_spread 95 = .ok (.lreturn, 1) := by decide +kernel
theorem dX10_spread_96 : decode cX10_spread 96 = .ok (.aload_n 0, 1) := by decide +kernel
theorem dX10_spread_97 : decode cX10_spread 97 = .ok (.getfield 66, 3) := by decide +kernel
theorem dX10_spread_100 : decode cX10_spread 100 = .ok (.iload_n 2, 1) := by decide +kernel
theorem dX10_spread_101 : decode cX10_spread 101 = .ok (.iload_n 3, 1) := by decide +kernel
theorem dX10_spread_102 : decode cX10_spread 102 = .ok (.invokevirtual 307, 3) := by decide +kernel
theorem dX10_spread_105 : decode cX10_spread 105 = .ok (.lreturn, 1) := by decide +kernel
theorem dX10_spread_106 : decode cX10_spread 106 = .ok (.aload_n 0, 1) := by decide +kernel
theorem dX10_spread_107 : decode cX10_spread 107 = .ok (.getfield 66, 3) := by decide +kernel
theorem dX10_spread_110 : decode cX10_spread 110 = .ok (.iload_n 2, 1) := by decide +kernel
theorem dX10_spread_111 : decode cX10_spread 111 = .ok (.iload_n 3, 1) := by decide +kernel
theorem dX10_spread_112 : decode cX10_spread 112 = .ok (.invokevirtual 310, 3) := by decide +kernel
theorem dX10_spread_115 : decode cX10_spread 115 = .ok (.lreturn, 1) := by decide +kernel
theorem dX10_spread_116 : decode cX10_spread 116 = .ok (.ldc2_w 170, 3) := by decide +kernel
theorem dX10_spread_119 : decode cX10_spread 119 = .ok (.lreturn, 1) := by decide +kernel
theorem dX10_sheet_0 : decode cX10_sheet 0 = .ok (.aload_n 0, 1) := by decide +kernel
theorem dX10_sheet_1 : decode cX10_sheet 1 = .ok (.getfield 73, 3) := by decide +kernel
theorem dX10_sheet_4 : decode cX10_sheet 4 = .ok (.iload_n 1, 1) := by decide +kernel
theorem dX10_sheet_5 : decode cX10_sheet 5 = .ok (.invokevirtual 313, 3) := by decide +kernel
theorem dX10_sheet_8 : decode cX10_sheet 8 = .ok (.ifCond .eq 20, 3) := by decide +kernel
theorem dX10_sheet_11 : decode cX10_sheet 11 = .ok (.aload_n 0, 1) := by decide +kernel
theorem dX10_sheet_12 : decode cX10_sheet 12 = .ok (.getfield 73, 3) := by decide +kernel
theorem dX10_sheet_15 : decode cX10_sheet 15 = .ok (.iload_n 2, 1) := by decide +kernel
theorem dX10_sheet_16 : decode cX10_sheet 16 = .ok (.invokevirtual 316, 3) := by decide +kernel
theorem dX10_sheet_19 : decode cX10_sheet 19 = .ok (.ifCond .eq 9, 3) := by decide +kernel
theorem dX10_sheet_22 : decode cX10_sheet 22 = .ok (.iload_n 3, 1) := by decide +kernel
theorem dX10_sheet_23 : decode cX10_sheet 23 = .ok (.bipush 20, 2) := by decide +kernel
theorem dX10_sheet_25 : decode cX10_sheet 25 = .ok (.if_icmp .le 5, 3) := by decide +kernel
theorem dX10_sheet_28 : decode cX10_sheet 28 = .ok (.iconst (-1), 1) := by decide +kernel
theorem dX10_sheet_29 : decode cX10_sheet 29 = .ok (.ireturn, 1) := by decide +kernel
theorem dX10_sheet_30 : decode cX10_sheet 30 = .ok (.iload_n 3, 1) := by decide +kernel
theorem dX10_sheet_31 : decode cX10_sheet 31 = .ok (.ifCond .ge 6, 3) := by decide +kernel
theorem dX10_sheet_34 : decode cX10_sheet 34 = .ok (.bipush (-14), 2) := by decide +kernel
theorem dX10_sheet_36 : decode cX10_sheet 36 = .ok (.ireturn, 1) := by decide +kernel
theorem dX10_sheet_37 : decode cX10_sheet 37 = .ok (.aload_n 0, 1) := by decide +kernel
theorem dX10_sheet_38 : decode cX10_sheet 38 = .ok (.getfield 73, 3) := by decide +kernel
theorem dX10_sheet_41 : decode cX10_sheet 41 = .ok (.iload_n 1, 1) := by decide +kernel
theorem dX10_sheet_42 : decode cX10_sheet 42 = .ok (.iload_n 2, 1) := by decide +kernel
theorem dX10_sheet_43 : decode cX10_sheet 43 = .ok (.iload_n 3, 1) := by decide +kernel
theorem dX10_sheet_44 : decode cX10_sheet 44 = .ok (.invokevirtual 319, 3) := by decide +kernel
theorem dX10_sheet_47 : decode cX10_sheet 47 = .ok (.iload_n 3, 1) := by decide +kernel
theorem dX10_sheet_48 : decode cX10_sheet 48 = .ok (.ireturn, 1) := by decide +kernel
theorem dX10_drop_0 : decode cX10_drop 0 = .ok (.aload_n 0, 1) := by decide +kernel
theorem dX10_drop_1 : decode cX10_drop 1 = .ok (.getfield 73, 3) := by decide +kernel
theorem dX10_drop_4 : decode cX10_drop 4 = .ok (.iload_n 1, 1) := by decide +kernel
theorem dX10_drop_5 : decode cX10_drop 5 = .ok (.invokevirtual 313, 3) := by decide +kernel
theorem dX10_drop_8 : decode cX10_drop 8 = .ok (.ifCond .ne 5, 3) := by decide +kernel
theorem dX10_drop_11 : decode cX10_drop 11 = .ok (.iconst (-1), 1) := by decide +kernel
theorem dX10_drop_12 : decode cX10_drop 12 = .ok (.ireturn, 1) := by decide +kernel
theorem dX10_drop_13 : decode cX10_drop 13 = .ok (.aload_n 0, 1) := by decide +kernel
theorem dX10_drop_14 : decode cX10_drop 14 = .ok (.getfield 73, 3) := by decide +kernel
theorem dX10_drop_17 : decode cX10_drop 17 = .ok (.iload_n 1, 1) := by decide +kernel
theorem dX10_drop_18 : decode cX10_drop 18 = .ok (.invokevirtual 322, 3) := by decide +kernel
theorem dX10_drop_21 : decode cX10_drop 21 = .ok (.ifCond .eq 8, 3) := by decide +kernel
theorem dX10_drop_24 : decode cX10_drop 24 = .ok (.bipush (-11), 2) := by decide +kernel
theorem dX10_drop_26 : decode cX10_drop 26 = .ok (.goto 11, 3) := by decide +kernel
theorem dX10_drop_29 : decode cX10_drop 29 = .ok (.aload_n 0, 1) := by decide +kernel
theorem dX10_drop_30 : decode cX10_drop 30 = .ok (.getfield 73, 3) := by decide +kernel
theorem dX10_drop_33 : decode cX10_drop 33 = .ok (.iload_n 1, 1) := by decide +kernel
theorem dX10_drop_34 : decode cX10_drop 34 = .ok (.invokevirtual 325, 3) := by decide +kernel
theorem dX10_drop_37 : decode cX10_drop 37 = .ok (.ireturn, 1) := by decide +kernel
theorem dX10_item_0 : decode cX10_item 0 = .ok (.aload_n 0, 1) := by decide +kernel
theorem dX10_item_1 : decode cX10_item 1 = .ok (.getfield 73, 3) := by decide +kernel
theorem dX10_item_4 : decode cX10_item 4 = .ok (.iload_n 1, 1) := by decide +kernel
theorem dX10_item_5 : decode cX10_item 5 = .ok (.iload_n 2, 1) := by decide +kernel
theorem dX10_item_6 : decode cX10_item 6 = .ok (.iload_n 3, 1) := by decide +kernel
theorem dX10_item_7 : decode cX10_item 7 = .ok (.iconst 1, 1) := by decide +kernel
theorem dX10_item_8 : decode cX10_item 8 = .ok (.invokevirtual 252, 3) := by decide +kernel
theorem dX10_item_11 : decode cX10_item 11 = .ok (.istore 5, 2) := by decide +kernel
theorem dX10_item_13 : decode cX10_item 13 = .ok (.iload 5, 2) := by decide +kernel
theorem dX10_item_15 : decode cX10_item 15 = .ok (.ifCond .eq 6, 3) := by decide +kernel
theorem dX10_item_18 : decode cX10_item 18 = .ok (.iload 5, 2) := by decide +kernel
theorem dX10_item_20 : decode cX10_item 20 = .ok (.ireturn, 1) := by decide +kernel
theorem dX10_item_21 : decode cX10_item 21 = .ok (.aload_n 0, 1) := by decide +kernel
theorem dX10_item_22 : decode cX10_item 22 = .ok (.getfield 73, 3) := by decide +kernel
theorem dX10_item_25 : decode cX10_item 25 = .ok (.iload_n 1, 1) := by decide +kernel
theorem dX10_item_26 : decode cX10_item 26 = .ok (.iload_n 3, 1) := by decide +kernel
theorem dX10_item_27 : decode cX10_item 27 = .ok (.iload 4, 2) := by decide +kernel
theorem dX10_item_29 : decode cX10_item 29 = .ok (.invokevirtual 328, 3) := by decide +kernel
theorem dX10_item_32 : decode cX10_item 32 = .ok (.iconst 1, 1) := by decide +kernel
theorem dX10_item_33 : decode cX10_item 33 = .ok (.ireturn, 1) := by decide +kernel
theorem dX10_cars_0 : decode cX10_cars 0 = .ok (.iload 4, 2) := by decide +kernel
theorem dX10_cars_2 : decode cX10_cars 2 = .ok (.ifCond .lt 10, 3) := by decide +kernel
theorem dX10_cars_5 : decode cX10_cars 5 = .ok (.iload 4, 2) := by decide +kernel
theorem dX10_cars_7 : decode cX10_cars 7 = .ok (.bipush 10, 2) := by decide +kernel
theorem dX10_cars_9 : decode cX10_cars 9 = .ok (.if_icmp .le 5, 3) := by decide +kernel
theorem dX10_cars_12 : decode cX10_cars 12 = .ok (.iconst (-1), 1) := by decide +kernel
theorem dX10_cars_13 : decode cX10_cars 13 = .ok (.ireturn, 1) := by decide +kernel
theorem dX10_cars_14 : decode cX10_cars 14 = .ok (.aload_n 0, 1) := by decide +kernel
theorem dX10_cars_15 : decode cX10_cars 15 = .ok (.getfield 73, 3) := by decide +kernel
theorem dX10_cars_18 : decode cX10_cars 18 = .ok (.iload_n 1, 1) := by decide +kernel
theorem dX10_cars_19 : decode cX10_cars 19 = .ok (.iload_n 2, 1) := by decide +kernel
theorem dX10_cars_20 : decode cX10_cars 20 = .ok (.iload_n 3, 1) := by decide +kernel
theorem dX10_cars_21 : decode cX10_cars 21 = .ok (.iload 4, 2) := by decide +kernel
theorem dX10_cars_23 : decode cX10_cars 23 = .ok (.invokevirtual 252, 3) := by decide +kernel
theorem dX10_cars_26 : decode cX10_cars 26 = .ok (.istore 5, 2) := by decide +kernel
theorem dX10_cars_28 : decode cX10_cars 28 = .ok (.iload 5, 2) := by decide +kernel
theorem dX10_cars_30 : decode cX10_cars 30 = .ok (.ifCond .eq 6, 3) := by decide +kernel
theorem dX10_cars_33 : decode cX10_cars 33 = .ok (.iload 5, 2) := by decide +kernel
theorem dX10_cars_35 : decode cX10_cars 35 = .ok (.ireturn, 1) := by decide +kernel
theorem dX10_cars_36 : decode cX10_cars 36 = .ok (.aload_n 0, 1) := by decide +kernel
theorem dX10_cars_37 : decode cX10_cars 37 = .ok (.getfield 73, 3) := by decide +kernel
theorem dX10_cars_40 : decode cX10_cars 40 = .ok (.iload_n 1, 1) := by decide +kernel
theorem dX10_cars_41 : decode cX10_cars 41 = .ok (.iload_n 3, 1) := by decide +kernel
theorem dX10_cars_42 : decode cX10_cars 42 = .ok (.iload 4, 2) := by decide +kernel
theorem dX10_cars_44 : decode cX10_cars 44 = .ok (.iconst 1, 1) := by decide +kernel
theorem dX10_cars_45 : decode cX10_cars 45 = .ok (.aload_n 0, 1) := by decide +kernel
theorem dX10_cars_46 : decode cX10_cars 46 = .ok (.getfield 13, 3) := by decide +kernel
theorem dX10_cars_49 : decode cX10_cars 49 = .ok (.getfield 93, 3) := by decide +kernel
theorem dX10_cars_52 : decode cX10_cars 52 = .ok (.invokevirtual 256, 3) := by decide +kernel
theorem dX10_cars_55 : decode cX10_cars 55 = .ok (.ifCond .ne 6, 3) := by decide +kernel
theorem dX10_cars_58 : decode cX10_cars 58 = .ok (.bipush (-2), 2) := by decide +kernel
theorem dX10_cars_60 : decode cX10_cars 60 = .ok (.ireturn, 1) := by decide +kernel
theorem dX10_cars_61 : decode cX10_cars 61 = .ok (.aload_n 0, 1) := by decide +kernel
theorem dX10_cars_62 : decode cX10_cars 62 = .ok (.getfield 13, 3) := by decide +kernel
theorem dX10_cars_65 : decode cX10_cars 65 = .ok (.getfield 89, 3) := by decide +kernel
theorem dX10_cars_68 : decode cX10_cars 68 = .ok (.iload 4, 2) := by decide +kernel
theorem dX10_cars_70 : decode cX10_cars 70 = .ok (.iadd, 1) := by decide +kernel
theorem dX10_cars_71 : decode cX10_cars 71 = .ok (.aload_n 0, 1) := by decide +kernel
theorem dX10_cars_72 : decode cX10_cars 72 = .ok (.getfield 13, 3) := by decide +kernel
theorem dX10_cars_75 : decode cX10_cars 75 = .ok (.getfield 93, 3) := by decide +kernel
theorem dX10_cars_78 : decode cX10_cars 78 = .ok (.if_icmp .le 6, 3) := by decide +kernel
theorem dX10_cars_81 : decode cX10_cars 81 = .ok (.bipush (-3), 2) := by decide +kernel
theorem dX10_cars_83 : decode cX10_cars 83 = .ok (.ireturn, 1) := by decide +kernel
theorem dX10_cars_84 : decode cX10_cars 84 = .ok (.aload_n 0, 1) := by decide +kernel
theorem dX10_cars_85 : decode cX10_cars 85 = .ok (.getfield 73, 3) := by decide +kernel
theorem dX10_cars_88 : decode cX10_cars 88 = .ok (.aload_n 0, 1) := by decide +kernel
theorem dX10_cars_89 : decode cX10_cars 89 = .ok (.getfield 77, 3) := by decide +kernel
theorem dX10_cars_92 : decode cX10_cars 92 = .ok (.iload_n 1, 1) := by decide +kernel
theorem dX10_cars_93 : decode cX10_cars 93 = .ok (.iload_n 3, 1) := by decide +kernel
theorem dX10_cars_94 : decode cX10_cars 94 = .ok (.iload 4, 2) := by decide +kernel
theorem dX10_cars_96 : decode cX10_cars 96 = .ok (.invokevirtual 260, 3) := by decide +kernel
theorem dX10_cars_99 : decode cX10_cars 99 = .ok (.iconst 1, 1) := by decide +kernel
theorem dX10_cars_100 : decode cX10_cars 100 = .ok (.istore 6, 2) := by decide +kernel
theorem dX10_cars_102 : decode cX10_cars 102 = .ok (.iload 6, 2) := by decide +kernel
theorem dX10_cars_104 : decode cX10_cars 104 = .ok (.iload 4, 2) := by decide +kernel
theorem dX10_cars_106 : decode cX10_cars 106 = .ok (.if_icmp .gt 23, 3) := by decide +kernel
theorem dX10_cars_109 : decode cX10_cars 109 = .ok (.aload_n 0, 1) := by decide +kernel
theorem dX10_cars_110 : decode cX10_cars 110 = .ok (.getfield 13, 3) := by decide +kernel
theorem dX10_cars_113 : decode cX10_cars 113 = .ok (.aload_n 0, 1) := by decide +kernel
theorem dX10_cars_114 : decode cX10_cars 114 = .ok (.getfield 77, 3) := by decide +kernel
theorem dX10_cars_117 : decode cX10_cars 117 = .ok (.iload 6, 2) := by decide +kernel
theorem dX10_cars_119 : decode cX10_cars 119 = .ok (.iaload, 1) := by decide +kernel
theorem dX10_cars_120 : decode cX10_cars 120 = .ok (.invokevirtual 96, 3) := by decide +kernel
theorem dX10_cars_123 : decode cX10_cars 123 = .ok (.iinc 6 1, 3) := by decide +kernel
theorem dX10_cars_126 : decode cX10_cars 126 = .ok (.goto (-24), 3) := by decide +kernel
theorem dX10_cars_129 : decode cX10_cars 129 = .ok (.aload_n 0, 1) := by decide +kernel
theorem dX10_cars_130 : decode cX10_cars 130 = .ok (.getfield 13, 3) := by decide +kernel
theorem dX10_cars_133 : decode cX10_cars 133 = .ok (.invokevirtual 100, 3) := by decide +kernel
theorem dX10_cars_136 : decode cX10_cars 136 = .ok (.aload_n 0, 1) := by decide +kernel
theorem dX10_cars_137 : decode cX10_cars 137 = .ok (.getfield 13, 3) := by decide +kernel
theorem dX10_cars_140 : decode cX10_cars 140 = .ok (.getfield 89, 3) := by decide +kernel
theorem dX10_cars_143 : decode cX10_cars 143 = .ok (.ireturn, 1) := by decide +kernel
theorem dX10_keep_0 : decode cX10_keep 0 = .ok (.aload_n 0, 1) := by decide +kernel
theorem dX10_keep_1 : decode cX10_keep 1 = .ok (.getfield 73, 3) := by decide +kernel
theorem dX10_keep_4 : decode cX10_keep 4 = .ok (.iload_n 1, 1) := by decide +kernel
theorem dX10_keep_5 : decode cX10_keep 5 = .ok (.iload_n 2, 1) := by decide +kernel
theorem dX10_keep_6 : decode cX10_keep 6 = .ok (.iload_n 3, 1) := by decide +kernel
theorem dX10_keep_7 : decode cX10_keep 7 = .ok (.aload_n 0, 1) := by decide +kernel
theorem dX10_keep_8 : decode cX10_keep 8 = .ok (.getfield 13, 3) := by decide +kernel
theorem dX10_keep_11 : decode cX10_keep 11 = .ok (.getfield 89, 3) := by decide +kernel
theorem dX10_keep_14 : decode cX10_keep 14 = .ok (.invokevirtual 252, 3) := by decide +kernel
theorem dX10_keep_17 : decode cX10_keep 17 = .ok (.istore 4, 2) := by decide +kernel
theorem dX10_keep_19 : decode cX10_keep 19 = .ok (.iload 4, 2) := by decide +kernel
theorem dX10_keep_21 : decode cX10_keep 21 = .ok (.ifCond .eq 6, 3) := by decide +kernel
theorem dX10_keep_24 : decode cX10_keep 24 = .ok (.iload 4, 2) := by decide +kernel
theorem dX10_keep_26 : decode cX10_keep 26 = .ok (.ireturn, 1) := by decide +kernel
theorem dX10_keep_27 : decode cX10_keep 27 = .ok (.iconst 1, 1) := by decide +kernel
theorem dX10_keep_28 : decode cX10_keep 28 = .ok (.istore 5, 2) := by decide +kernel
theorem dX10_keep_30 : decode cX10_keep 30 = .ok (.iload 5, 2) := by decide +kernel
theorem dX10_keep_32 : decode cX10_keep 32 = .ok (.aload_n 0, 1) := by decide +kernel
theorem dX10_keep_33 : decode cX10_keep 33 = .ok (.getfield 13, 3) := by decide +kernel
theorem dX10_keep_36 : decode cX10_keep 36 = .ok (.getfield 89, 3) := by decide +kernel
theorem dX10_keep_39 : decode cX10_keep 39 = .ok (.if_icmp .gt 33, 3) := by decide +kernel
theorem dX10_keep_42 : decode cX10_keep 42 = .ok (.aload_n 0, 1) := by decide +kernel
theorem dX10_keep_43 : decode cX10_keep 43 = .ok (.getfield 73, 3) := by decide +kernel
theorem dX10_keep_46 : decode cX10_keep 46 = .ok (.iload_n 1, 1) := by decide +kernel
theorem dX10_keep_47 : decode cX10_keep 47 = .ok (.iload_n 3, 1) := by decide +kernel
theorem dX10_keep_48 : decode cX10_keep 48 = .ok (.iload 5, 2) := by decide +kernel
theorem dX10_keep_50 : decode cX10_keep 50 = .ok (.iadd, 1) := by decide +kernel
theorem dX10_keep_51 : decode cX10_keep 51 = .ok (.iconst 1, 1) := by decide +kernel
theorem dX10_keep_52 : decode cX10_keep 52 = .ok (.isub, 1) := by decide +kernel
theorem dX10_keep_53 : decode cX10_keep 53 = .ok (.aload_n 0, 1) := by decide +kernel
theorem dX10_keep_54 : decode cX10_keep 54 = .ok (.getfield 13, 3) := by decide +kernel
theorem dX10_keep_57 : decode cX10_keep 57 = .ok (.getfield 106, 3) := by decide +kernel
theorem dX10_keep_60 : decode cX10_keep 60 = .ok (.iload 5, 2) := by decide +kernel
theorem dX10_keep_62 : decode cX10_keep 62 = .ok (.iaload, 1) := by decide +kernel
theorem dX10_keep_63 : decode cX10_keep 63 = .ok (.invokevirtual 328, 3) := by decide +kernel
theorem dX10_keep_66 : decode cX10_keep 66 = .ok (.iinc 5 1, 3) := by decide +kernel
theorem dX10_keep_69 : decode cX10_keep 69 = .ok (.goto (-39), 3) := by decide +kernel
theorem dX10_keep_72 : decode cX10_keep 72 = .ok (.aload_n 0, 1) := by decide +kernel
theorem dX10_keep_73 : decode cX10_keep 73 = .ok (.getfield 13, 3) := by decide +kernel
theorem dX10_keep_76 : decode cX10_keep 76 = .ok (.getfield 89, 3) := by decide +kernel
theorem dX10_keep_79 : decode cX10_keep 79 = .ok (.ireturn, 1) := by decide +kernel
theorem dX10_isRowSize_0 : decode cX10_isRowSize 0 = .ok (.iload_n 1, 1) := by decide +kernel
theorem dX10_isRowSize_1 : decode cX10_isRowSize 1 = .ok (.ifCond .lt 18, 3) := by decide +kernel
theorem dX10_isRowSize_4 : decode cX10_isRowSize 4 = .ok (.iload_n 1, 1) := by decide +kernel
theorem dX10_isRowSize_5 : decode cX10_isRowSize 5 = .ok (.aload_n 0, 1) := by decide +kernel
theorem dX10_isRowSize_6 : decode cX10_isRowSize 6 = .ok (.getfield 13, 3) := by decide +kernel
theorem dX10_isRowSize_9 : decode cX10_isRowSize 9 = .ok (.getfield 93, 3) := by decide +kernel
theorem dX10_isRowSize_12 : decode cX10_isRowSize 12 = .ok (.if_icmp .gt 7, 3) := by decide +kernel
theorem dX10_isRowSize_15 : decode cX10_isRowSize 15 = .ok (.iconst 1, 1) := by decide +kernel
theorem dX10_isRowSize_16 : decode cX10_isRowSize 16 = .ok (.goto 4, 3) := by decide +kernel
theorem dX10_isRowSize_19 : decode cX10_isRowSize 19 = .ok (.iconst 0, 1) := by decide +kernel
theorem dX10_isRowSize_20 : decode cX10_isRowSize 20 = .ok (.ireturn, 1) := by decide +kernel
theorem dX10_isPlainGood_0 : decode cX10_isPlainGood 0 = .ok (.aload_n 0, 1) := by decide +kernel
theorem dX10_isPlainGood_1 : decode cX10_isPlainGood 1 = .ok (.getfield 13, 3) := by decide +kernel
theorem dX10_isPlainGood_4 : decode cX10_isPlainGood 4 = .ok (.invokevirtual 222, 3) := by decide +kernel
theorem dX10_isPlainGood_7 : decode cX10_isPlainGood 7 = .ok (.ifCond .eq 17, 3) := by decide +kernel
theorem dX10_isPlainGood_10 : decode cX10_isPlainGood 10 = .ok (.aload_n 0, 1) := by decide +kernel
theorem dX10_isPlainGood_11 : decode cX10_isPlainGood 11 = .ok (.getfield 13, 3) := by decide +kernel
theorem dX10_isPlainGood_14 : decode cX10_isPlainGood 14 = .ok (.invokevirtual 152, 3) := by decide +kernel
theorem dX10_isPlainGood_17 : decode cX10_isPlainGood 17 = .ok (.ifCond .eq 7, 3) := by decide +kernel
theorem dX10_isPlainGood_20 : decode cX10_isPlainGood 20 = .ok (.iconst 1, 1) := by decide +kernel
theorem dX10_isPlainGood_21 : decode cX10_isPlainGood 21 = .ok (.goto 4, 3) := by decide +kernel
theorem dX10_isPlainGood_24 : decode cX10_isPlainGood 24 = .ok (.iconst 0, 1) := by decide +kernel
theorem dX10_isPlainGood_25 : decode cX10_isPlainGood 25 = .ok (.ireturn, 1) := by decide +kernel
theorem dX10_hasTree_0 : decode cX10_hasTree 0 = .ok (.aload_n 0, 1) := by decide +kernel
theorem dX10_hasTree_1 : decode cX10_hasTree 1 = .ok (.getfield 13, 3) := by decide +kernel
theorem dX10_hasTree_4 : decode cX10_hasTree 4 = .ok (.getfield 89, 3) := by decide +kernel
theorem dX10_hasTree_7 : decode cX10_hasTree 7 = .ok (.aload_n 0, 1) := by decide +kernel
theorem dX10_hasTree_8 : decode cX10_hasTree 8 = .ok (.getfield 13, 3) := by decide +kernel
theorem dX10_hasTree_11 : decode cX10_hasTree 11 = .ok (.getfield 93, 3) := by decide +kernel
theorem dX10_hasTree_14 : decode cX10_hasTree 14 = .ok (.if_icmp .ne 14, 3) := by decide +kernel
theorem dX10_hasTree_17 : decode cX10_hasTree 17 = .ok (.aload_n 0, 1) := by decide +kernel
theorem dX10_hasTree_18 : decode cX10_hasTree 18 = .ok (.invokevirtual 172, 3) := by decide +kernel
theorem dX10_hasTree_21 : decode cX10_hasTree 21 = .ok (.ifCond .eq 7, 3) := by decide +kernel
theorem dX10_hasTree_24 : decode cX10_hasTree 24 = .ok (.iconst 1, 1) := by decide +kernel
theorem dX10_hasTree_25 : decode cX10_hasTree 25 = .ok (.goto 4, 3) := by decide +kernel
theorem dX10_hasTree_28 : decode cX10_hasTree 28 = .ok (.iconst 0, 1) := by decide +kernel
theorem dX10_hasTree_29 : decode cX10_hasTree 29 = .ok (.ireturn, 1) := by decide +kernel
theorem dX10_power_0 : decode cX10_power 0 = .ok (.lconst 1, 1) := by decide +kernel
theorem dX10_power_1 : decode cX10_power 1 = .ok (.lstore_n 3, 1) := by decide +kernel
theorem dX10_power_2 : decode cX10_power 2 = .ok (.iconst 0, 1) := by decide +kernel
theorem dX10_power_3 : decode cX10_power 3 = .ok (.istore 5, 2) := by decide +kernel
theorem dX10_power_5 : decode cX10_power 5 = .ok (.iload 5, 2) := by decide +kernel
theorem dX10_power_7 : decode cX10_power 7 = .ok (.iload_n 2, 1) := by decide +kernel
theorem dX10_power_8 : decode cX10_power 8 = .ok (.if_icmp .ge 13, 3) := by decide +kernel
theorem dX10_power_11 : decode cX10_power 11 = .ok (.lload_n 3, 1) := by decide +kernel
theorem dX10_power_12 : decode cX10_power 12 = .ok (.lload_n 0, 1) := by decide +kernel
theorem dX10_power_13 : decode cX10_power 13 = .ok (.lmul, 1) := by decide +kernel
theorem dX10_power_14 : decode cX10_power 14 = .ok (.lstore_n 3, 1) := by decide +kernel
theorem dX10_power_15 : decode cX10_power 15 = .ok (.iinc 5 1, 3) := by decide +kernel
theorem dX10_power_18 : decode cX10_power 18 = .ok (.goto (-13), 3) := by decide +kernel
theorem dX10_power_21 : decode cX10_power 21 = .ok (.lload_n 3, 1) := by decide +kernel
theorem dX10_power_22 : decode cX10_power 22 = .ok (.lreturn, 1) := by decide +kernel
theorem dX11_in_0 : decode cX11_in 0 = .ok (.lload_n 0, 1) := by decide +kernel
theorem dX11_in_1 : decode cX11_in 1 = .ok (.lload_n 2, 1) := by decide +kernel
theorem dX11_in_2 : decode cX11_in 2 = .ok (.lcmp, 1) := by decide +kernel
theorem dX11_in_3 : decode cX11_in 3 = .ok (.ifCond .lt 14, 3) := by decide +kernel
theorem dX11_in_6 : decode cX11_in 6 = .ok (.lload_n 0, 1) := by decide +kernel
theorem dX11_in_7 : decode cX11_in 7 = .ok (.lload 4, 2) := by decide +kernel
theorem dX11_in_9 : decode cX11_in 9 = .ok (.lcmp, 1) := by decide +kernel
theorem dX11_in_10 : decode cX11_in 10 = .ok (.ifCond .gt 7, 3) := by decide +kernel
theorem dX11_in_13 : decode cX11_in 13 = .ok (.iconst 1, 1) := by decide +kernel
theorem dX11_in_14 : decode cX11_in 14 = .ok (.goto 4, 3) := by decide +kernel
theorem dX11_in_17 : decode cX11_in 17 = .ok (.iconst 0, 1) := by decide +kernel
theorem dX11_in_18 : decode cX11_in 18 = .ok (.ireturn, 1) := by decide +kernel
theorem dX11_init_0 : decode cX11_init 0 = .ok (.aload_n 0, 1) := by decide +kernel
theorem dX11_init_1 : decode cX11_init 1 = .ok (.invokespecial 1, 3) := by decide +kernel
theorem dX11_init_4 : decode cX11_init 4 = .ok (.aload_n 0, 1) := by decide +kernel
theorem dX11_init_5 : decode cX11_init 5 = .ok (.iconst 5, 1) := by decide +kernel
theorem dX11_init_6 : decode cX11_init 6 = .ok (.putfield 7, 3) := by decide +kernel
theorem dX11_init_9 : decode cX11_init 9 = .ok (.aload_n 0, 1) := by decide +kernel
theorem dX11_init_10 : decode cX11_init 10 = .ok (.bipush 11, 2) := by decide +kernel
theorem dX11_init_12 : decode cX11_init 12 = .ok (.newarray .int, 2) := by decide +kernel
theorem dX11_init_14 : decode cX11_init 14 = .ok (.putfield 13, 3) := by decide +kernel
theorem dX11_init_17 : decode cX11_init 17 = .ok (.aload_n 0, 1) := by decide +kernel
theorem dX11_init_18 : decode cX11_init 18 = .ok (.bipush 11, 2) := by decide +kernel
theorem dX11_init_20 : decode cX11_init 20 = .ok (.newarray .int, 2) := by decide +kernel
theorem dX11_init_22 : decode cX11_init 22 = .ok (.putfield 17, 3) := by decide +kernel
theorem dX11_init_25 : decode cX11_init 25 = .ok (.aload_n 0, 1) := by decide +kernel
theorem dX11_init_26 : decode cX11_init 26 = .ok (.bipush 11, 2) := by decide +kernel
theorem dX11_init_28 : decode cX11_init 28 = .ok (.newarray .int, 2) := by decide +kernel
theorem dX11_init_30 : decode cX11_init 30 = .ok (.putfield 20, 3) := by decide +kernel
theorem dX11_init_33 : decode cX11_init 33 = .ok (.aload_n 0, 1) := by decide +kernel
theorem dX11_init_34 : decode cX11_init 34 = .ok (.bipush 11, 2) := by decide +kernel
theorem dX11_init_36 : decode cX11_init 36 = .ok (.newarray .int, 2) := by decide +kernel
theorem dX11_init_38 : decode cX11_init 38 = .ok (.putfield 23, 3) := by decide +kernel
theorem dX11_init_41 : decode cX11_init 41 = .ok (.aload_n 0, 1) := by decide +kernel
theorem dX11_init_42 : decode cX11_init 42 = .ok (.bipush 11, 2) := by decide +kernel
theorem dX11_init_44 : decode cX11_init 44 = .ok (.newarray .int, 2) := by decide +kernel
theorem dX11_init_46 : decode cX11_init 46 = .ok (.putfield 26, 3) := by decide +kernel
theorem dX11_init_49 : decode cX11_init 49 = .ok (.aload_n 0, 1) := by decide +kernel
theorem dX11_init_50 : decode cX11_init 50 = .ok (.sipush 132, 3) := by decide +kernel
theorem dX11_init_53 : decode cX11_init 53 = .ok (.newarray .long, 2) := by decide +kernel
theorem dX11_init_55 : decode cX11_init 55 = .ok (.putfield 29, 3) := by decide +kernel
theorem dX11_init_58 : decode cX11_init 58 = .ok (.aload_n 0, 1) := by decide +kernel
theorem dX11_init_59 : decode cX11_init 59 = .ok (.bipush 12, 2) := by decide +kernel
theorem dX11_init_61 : decode cX11_init 61 = .ok (.newarray .int, 2) := by decide +kernel
theorem dX11_init_63 : decode cX11_init 63 = .ok (.putfield 33, 3) := by decide +kernel
theorem dX11_init_66 : decode cX11_init 66 = .ok (.aload_n 0, 1) := by decide +kernel
theorem dX11_init_67 : decode cX11_init 67 = .ok (.sipush 144, 3) := by decide +kernel
theorem dX11_init_70 : decode cX11_init 70 = .ok (.newarray .long, 2) := by decide +kernel
theorem dX11_init_72 : decode cX11_init 72 = .ok (.putfield 36, 3) := by decide +kernel
theorem dX11_init_75 : decode cX11_init 75 = .ok (.aload_n 0, 1) := by decide +kernel
theorem dX11_init_76 : decode cX11_init 76 = .ok (.sipush 156, 3) := by decide +kernel
theorem dX11_init_79 : decode cX11_init 79 = .ok (.newarray .long, 2) := by decide +kernel
theorem dX11_init_81 : decode cX11_init 81 = .ok (.putfield 39, 3) := by decide +kernel
theorem dX11_init_84 : decode cX11_init 84 = .ok (.aload_n 0, 1) := by decide +kernel
theorem dX11_init_85 : decode cX11_init 85 = .ok (.bipush 11, 2) := by decide +kernel
theorem dX11_init_87 : decode cX11_init 87 = .ok (.newarray .int, 2) := by decide +kernel
theorem dX11_init_89 : decode cX11_init 89 = .ok (.putfield 42, 3) := by decide +kernel
theorem dX11_init_92 : decode cX11_init 92 = .ok (.aload_n 0, 1) := by decide +kernel
theorem dX11_init_93 : decode cX11_init 93 = .ok (.bipush 11, 2) := by decide +kernel
theorem dX11_init_95 : decode cX11_init 95 = .ok (.newarray .int, 2) := by decide +kernel
theorem dX11_init_97 : decode cX11_init 97 = .ok (.putfield 45, 3) := by decide +kernel
theorem dX11_init_100 : decode cX11_init 100 = .ok (.aload_n 0, 1) := by decide +kernel
theorem dX11_init_101 : decode cX11_init 101 = .ok (.bipush 11, 2) := by decide +kernel
theorem dX11_init_103 : decode cX11_init 103 = .ok (.newarray .int, 2) := by decide +kernel
theorem dX11_init_105 : decode cX11_init 105 = .ok (.putfield 48, 3) := by decide +kernel
theorem dX11_init_108 : decode cX11_init 108 = .ok (.aload_n 0, 1) := by decide +kernel
theorem dX11_init_109 : decode cX11_init 109 = .ok (.bipush 11, 2) := by decide +kernel
theorem dX11_init_111 : decode cX11_init 111 = .ok (.newarray .boolean, 2) := by decide +kernel
theorem dX11_init_113 : decode cX11_init 113 = .ok (.putfield 51, 3) := by decide +kernel
theorem dX11_init_116 : decode cX11_init 116 = .ok (.aload_n 0, 1) := by decide +kernel
theorem dX11_init_117 : decode cX11_init 117 = .ok (.bipush 11, 2) := by decide +kernel
theorem dX11_init_119 : decode cX11_init 119 = .ok (.newarray .int, 2) := by decide +kernel
theorem dX11_init_121 : decode cX11_init 121 = .ok (.putfield 55, 3) := by decide +kernel
theorem dX11_init_124 : decode cX11_init 124 = .ok (.aload_n 0, 1) := by decide +kernel
theorem dX11_init_125 : decode cX11_init 125 = .ok (.bipush 11, 2) := by decide +kernel
theorem dX11_init_127 : decode cX11_init 127 = .ok (.newarray .int, 2) := by decide +kernel
theorem dX11_init_129 : decode cX11_init 129 = .ok (.putfield 58, 3) := by decide +kernel
theorem dX11_init_132 : decode cX11_init 132 = .ok (.aload_n 0, 1) := by decide +kernel
theorem dX11_init_133 : decode cX11_init 133 = .ok (.bipush 11, 2) := by decide +kernel
theorem dX11_init_135 : decode cX11_init 135 = .ok (.newarray .int, 2) := by decide +kernel
theorem dX11_init_137 : decode cX11_init 137 = .ok (.putfield 61, 3) := by decide +kernel
theorem dX11_init_140 : decode cX11_init 140 = .ok (.aload_n 0, 1) := by decide +kernel
theorem dX11_init_141 : decode cX11_init 141 = .ok (.bipush 11, 2) := by decide +kernel
theorem dX11_init_143 : decode cX11_init 143 = .ok (.newarray .int, 2) := by decide +kernel
theorem dX11_init_145 : decode cX11_init 145 = .ok (.putfield 64, 3) := by decide +kernel
theorem dX11_init_148 : decode cX11_init 148 = .ok (.aload_n 0, 1) := by decide +kernel
theorem dX11_init_149 : decode cX11_init 149 = .ok (.bipush 11, 2) := by decide +kernel
theorem dX11_init_151 : decode cX11_init 151 = .ok (.newarray .int, 2) := by decide +kernel
theorem dX11_init_153 : decode cX11_init 153 = .ok (.putfield 67, 3) := by decide +kernel
theorem dX11_init_156 : decode cX11_init 156 = .ok (.aload_n 0, 1) := by decide +kernel
theorem dX11_init_157 : decode cX11_init 157 = .ok (.bipush 11, 2) := by decide +kernel
theorem dX11_init_159 : decode cX11_init 159 = .ok (.newarray .int, 2) := by decide +kernel
theorem dX11_init_161 : decode cX11_init 161 = .ok (.putfield 70, 3) := by decide +kernel
theorem dX11_init_164 : decode cX11_init 164 = .ok (.aload_n 0, 1) := by decide +kernel
theorem dX11_init_165 : decode cX11_init 165 = .ok (.bipush 11, 2) := by decide +kernel
theorem dX11_init_167 : decode cX11_init 167 = .ok (.newarray .int, 2) := by decide +kernel
theorem dX11_init_169 : decode cX11_init 169 = .ok (.putfield 73, 3) := by decide +kernel
theorem dX11_init_172 : decode cX11_init 172 = .ok (.aload_n 0, 1) := by decide +kernel
theorem dX11_init_173 : decode cX11_init 173 = .ok (.sipush 8064, 3) := by decide +kernel
theorem dX11_init_176 : decode cX11_init 176 = .ok (.newarray .long, 2) := by decide +kernel
theorem dX11_init_178 : decode cX11_init 178 = .ok (.putfield 76, 3) := by decide +kernel
theorem dX11_init_181 : decode cX11_init 181 = .ok (.aload_n 0, 1) := by decide +kernel
theorem dX11_init_182 : decode cX11_init 182 = .ok (.bipush 12, 2) := by decide +kernel
theorem dX11_init_184 : decode cX11_init 184 = .ok (.newarray .long, 2) := by decide +kernel
theorem dX11_init_186 : decode cX11_init 186 = .ok (.putfield 79, 3) := by decide +kernel
theorem dX11_init_189 : decode cX11_init 189 = .ok (.aload_n 0, 1) := by decide +kernel
theorem dX11_init_190 : decode cX11_init 190 = .ok (.sipush 144, 3) := by decide +kernel
theorem dX11_init_193 : decode cX11_init 193 = .ok (.newarray .long, 2) := by decide +kernel
theorem dX11_init_195 : decode cX11_init 195 = .ok (.putfield 82, 3) := by decide +kernel
theorem dX11_init_198 : decode cX11_init 198 = .ok (.aload_n 0, 1) := by decide +kernel
theorem dX11_init_199 : decode cX11_init 199 = .ok (.iconst 4, 1) := by decide +kernel
theorem dX11_init_200 : decode cX11_init 200 = .ok (.newarray .int, 2) := by decide +kernel
theorem dX11_init_202 : decode cX11_init 202 = .ok (.putfield 85, 3) := by decide +kernel
theorem dX11_init_205 : decode cX11_init 205 = .ok (.aload_n 0, 1) := by decide +kernel
theorem dX11_init_206 : decode cX11_init 206 = .ok (.iconst 4, 1) := by decide +kernel
theorem dX11_init_207 : decode cX11_init 207 = .ok (.newarray .int, 2) := by decide +kernel
theorem dX11_init_209 : decode cX11_init 209 = .ok (.putfield 88, 3) := by decide +kernel
theorem dX11_init_212 : decode cX11_init 212 = .ok (.aload_n 0, 1) := by decide +kernel
theorem dX11_init_213 : decode cX11_init 213 = .ok (.bipush 80, 2) := by decide +kernel
theorem dX11_init_215 : decode cX11_init 215 = .ok (.newarray .int, 2) := by decide +kernel
theorem dX11_init_217 : decode cX11_init 217 = .ok (.putfield 91, 3) := by decide +kernel
theorem dX11_init_220 : decode cX11_init 220 = .ok (.iconst 0, 1) := by decide +kernel
theorem dX11_init_221 : decode cX11_init 221 = .ok (.istore_n 1, 1) := by decide +kernel
theorem dX11_init_222 : decode cX11_init 222 = .ok (.iload_n 1, 1) := by decide +kernel
theorem dX11_init_223 : decode cX11_init 223 = .ok (.bipush 10, 2) := by decide +kernel
theorem dX11_init_225 : decode cX11_init 225 = .ok (.if_icmp .gt 72, 3) := by decide +kernel
theorem dX11_init_228 : decode cX11_init 228 = .ok (.aload_n 0, 1) := by decide +kernel
theorem dX11_init_229 : decode cX11_init 229 = .ok (.getfield 29, 3) := by decide +kernel
theorem dX11_init_232 : decode cX11_init 232 = .ok (.bipush 12, 2) := by decide +kernel
theorem dX11_init_234 : decode cX11_init 234 = .ok (.iload_n 1, 1) := by decide +kernel
theorem dX11_init_235 : decode cX11_init 235 = .ok (.imul, 1) := by decide +kernel
theorem dX11_init_236 : decode cX11_init 236 = .ok (.lconst 1, 1) := by decide +kernel
theorem dX11_init_237 : decode cX11_init 237 = .ok (.lastore, 1) := by decide +kernel
theorem dX11_init_238 : decode cX11_init 238 = .ok (.iconst 1, 1) := by decide +kernel
theorem dX11_init_239 : decode cX11_init 239 = .ok (.istore_n 2, 1) := by decide +kernel
theorem dX11_init_240 : decode cX11_init 240 = .ok (.iload_n 2, 1) := by decide +kernel
theorem dX11_init_241 : decode cX11_init 241 = .ok (.iload_n 1, 1) := by decide +kernel
theorem dX11_init_242 : decode cX11_init 242 = .ok (.if_icmp .gt 49, 3) := by decide +kernel
theorem dX11_init_245 : decode cX11_init 245 = .ok (.aload_n 0, 1) := by decide +kernel
theorem dX11_init_246 : decode cX11_init 246 = .ok (.getfield 29, 3) := by decide +kernel
theorem dX11_init_249 : decode cX11_init 249 = .ok (.bipush 12, 2) := by decide +kernel
theorem dX11_init_251 : decode cX11_init 251 = .ok (.iload_n 1, 1) := by decide +kernel
theorem dX11_init_252 : decode cX11_init 252 = .ok (.imul, 1) := by decide +kernel
theorem dX11_init_253 : decode cX11_init 253 = .ok (.iload_n 2, 1) := by decide +kernel
theorem dX11_init_254 : decode cX11_init 254 = .ok (.iadd, 1) := by decide +kernel
theorem dX11_init_255 : decode cX11_init 255 = .ok (.aload_n 0, 1) := by decide +kernel
theorem dX11_init_256 : decode cX11_init 256 = .ok (.getfield 29, 3) := by decide +kernel
theorem dX11_init_259 : decode cX11_init 259 = .ok (.bipush 12, 2) := by decide +kernel
theorem dX11_init_261 : decode cX11_init 261 = .ok (.iload_n 1, 1) := by decide +kernel
theorem dX11_init_262 : decode cX11_init 262 = .ok (.iconst 1, 1) := by decide +kernel
theorem dX11_init_263 : decode cX11_init 263 = .ok (.isub, 1) := by decide +kernel
theorem dX11_init_264 : decode cX11_init 264 = .ok (.imul, 1) := by decide +kernel
theorem dX11_init_265 : decode cX11_init 265 = .ok (.iload_n 2, 1) := by decide +kernel
theorem dX11_init_266 : decode cX11_init 266 = .ok (.iadd, 1) := by decide +kernel
theorem dX11_init_267 : decode cX11_init 267 = .ok (.iconst 1, 1) := by decide +kernel
theorem dX11_init_268 : decode cX11_init 268 = .ok (.isub, 1) := by decide +kernel
theorem dX11_init_269 : decode cX11_init 269 = .ok (.laload, 1) := by decide +kernel
theorem dX11_init_270 : decode cX11_init 270 = .ok (.aload_n 0, 1) := by decide +kernel
theorem dX11_init_271 : decode cX11_init 271 = .ok (.getfield 29, 3) := by decide +kernel
theorem dX11_init_274 : decode cX11_init 274 = .ok (.bipush 12, 2) := by decide +kernel
theorem dX11_init_276 : decode cX11_init 276 = .ok (.iload_n 1, 1) := by decide +kernel
theorem dX11_init_277 : decode cX11_init 277 = .ok (.iconst 1, 1) := by decide +kernel
theorem dX11_init_278 : decode cX11_init 278 = .ok (.isub, 1) := by decide +kernel
theorem dX11_init_279 : decode cX11_init 279 = .ok (.imul, 1) := by decide +kernel
theorem dX11_init_280 : decode cX11_init 280 = .ok (.iload_n 2, 1) := by decide +kernel
theorem dX11_init_281 : decode cX11_init 281 = .ok (.iadd, 1) := by decide +kernel
theorem dX11_init_282 : decode cX11_init 282 = .ok (.laload, 1) := by decide +kernel
theorem dX11_init_283 : decode cX11_init 283 = .ok (.ladd, 1) := by decide +kernel
theorem dX11_init_284 : decode cX11_init 284 = .ok (.lastore, 1) := by decide +kernel
theorem dX11_init_285 : decode cX11_init 285 = .ok (.iinc 2 1, 3) := by decide +kernel
theorem dX11_init_288 : decode cX11_init 288 = .ok (.goto (-48), 3) := by decide +kernel
theorem dX11_init_291 : decode cX11_init 291 = .ok (.iinc 1 1, 3) := by decide +kernel
theorem dX11_init_294 : decode cX11_init 294 = .ok (.goto (-72), 3) := by decide +kernel
theorem dX11_init_297 : decode cX11_init 297 = .ok (.iconst 0, 1) := by decide +kernel
theorem dX11_init_298 : decode cX11_init 298 = .ok (.istore_n 1, 1) := by decide +kernel
theorem dX11_init_299 : decode cX11_init 299 = .ok (.iload_n 1, 1) := by decide +kernel
theorem dX11_init_300 : decode cX11_init 300 = .ok (.iconst 4, 1) := by decide +kernel
theorem dX11_init_301 : decode cX11_init 301 = .ok (.if_icmp .ge 16, 3) := by decide +kernel
theorem dX11_init_304 : decode cX11_init 304 = .ok (.aload_n 0, 1) := by decide +kernel
theorem dX11_init_305 : decode cX11_init 305 = .ok (.getfield 85, 3) := by decide +kernel
theorem dX11_init_308 : decode cX11_init 308 = .ok (.iload_n 1, 1) := by decide +kernel
theorem dX11_init_309 : decode cX11_init 309 = .ok (.iconst (-1), 1) := by decide +kernel
theorem dX11_init_310 : decode cX11_init 310 = .ok (.iastore, 1) := by decide +kernel
theorem dX11_init_311 : decode cX11_init 311 = .ok (.iinc 1 1, 3) := by decide +kernel
theorem dX11_init_314 : decode cX11_init 314 = .ok (.goto (-15), 3) := by decide +kernel
theorem dX11_init_317 : decode cX11_init 317 = .ok (.return_, 1) := by decide +kernel
theorem dX11_road_0 : decode cX11_road 0 = .ok (.iload_n 1, 1) := by decide +kernel
theorem dX11_road_1 : decode cX11_road 1 = .ok (.i2l, 1) := by decide +kernel
theorem dX11_road_2 : decode cX11_road 2 = .ok (.lconst 0, 1) := by decide +kernel
theorem dX11_road_3 : decode cX11_road 3 = .ok (.ldc2_w 94, 3) := by decide +kernel
theorem dX11_road_6 : decode cX11_road 6 = .ok (.invokestatic 96, 3) := by decide +kernel
theorem dX11_road_9 : decode cX11_road 9 = .ok (.ifCond .eq 27, 3) := by decide +kernel
theorem dX11_road_12 : decode cX11_road 12 = .ok (.iload_n 2, 1) := by decide +kernel
theorem dX11_road_13 : decode cX11_road 13 = .ok (.i2l, 1) := by decide +kernel
theorem dX11_road_14 : decode cX11_road 14 = .ok (.lconst 1, 1) := by decide +kernel
theorem dX11_road_15 : decode cX11_road 15 = .ok (.ldc2_w 100, 3) := by decide +kernel
theorem dX11_road_18 : decode cX11_road 18 = .ok (.invokestatic 96, 3) := by decide +kernel
theorem dX11_road_21 : decode cX11_road 21 = .ok (.ifCond .eq 15, 3) := by decide +kernel
theorem dX11_road_24 : decode cX11_road 24 = .ok (.iload_n 3, 1) := by decide +kernel
theorem dX11_road_25 : decode cX11_road 25 = .ok (.i2l, 1) := by decide +kernel
theorem dX11_road_26 : decode cX11_road 26 = .ok (.lconst 0, 1) := by decide +kernel
theorem dX11_road_27 : decode cX11_road 27 = .ok (.ldc2_w 102, 3) := by decide +kernel
theorem dX11_road_30 : decode cX11_road 30 = .ok (.invokestatic 96, 3) := by decide +kernel
theorem dX11_road_33 : decode cX11_road 33 = .ok (.ifCond .ne 5, 3) := by decide +kernel
theorem dX11_road_36 : decode cX11_road 36 = .ok (.iconst (-1), 1) := by decide +kernel
theorem dX11_road_37 : decode cX11_road 37 = .ok (.ireturn, 1) := by decide +kernel
theorem dX11_road_38 : decode cX11_road 38 = .ok (.aload_n 0, 1) := by decide +kernel
theorem dX11_road_39 : decode cX11_road 39 = .ok (.iload_n 1, 1) := by decide +kernel
theorem dX11_road_40 : decode cX11_road 40 = .ok (.putfield 104, 3) := by decide +kernel
theorem dX11_road_43 : decode cX11_road 43 = .ok (.aload_n 0, 1) := by decide +kernel
theorem dX11_road_44 : decode cX11_road 44 = .ok (.iload_n 2, 1) := by decide +kernel
theorem dX11_road_45 : decode cX11_road 45 = .ok (.putfield 7, 3) := by decide +kernel
theorem dX11_road_48 : decode cX11_road 48 = .ok (.aload_n 0, 1) := by decide +kernel
theorem dX11_road_49 : decode cX11_road 49 = .ok (.iload_n 3, 1) := by decide +kernel
theorem dX11_road_50 : decode cX11_road 50 = .ok (.putfield 107, 3) := by decide +kernel
theorem dX11_road_53 : decode cX11_road 53 = .ok (.aload_n 0, 1) := by decide +kernel
theorem dX11_road_54 : decode cX11_road 54 = .ok (.iconst 0, 1) := by decide +kernel
theorem dX11_road_55 : decode cX11_road 55 = .ok (.putfield 110, 3) := by decide +kernel
theorem dX11_road_58 : decode cX11_road 58 = .ok (.iconst 1, 1) := by decide +kernel
theorem dX11_road_59 : decode cX11_road 59 = .ok (.ireturn, 1) := by decide +kernel
theorem dX11_add_0 : decode cX11_add 0 = .ok (.aload_n 0, 1) := by decide +kernel
theorem dX11_add_1 : decode cX11_add 1 = .ok (.dup, 1) := by decide +kernel
theorem dX11_add_2 : decode cX11_add 2 = .ok (.getfield 110, 3) := by decide +kernel
theorem dX11_add_5 : decode cX11_add 5 = .ok (.iconst 1, 1) := by decide +kernel
theorem dX11_add_6 : decode cX11_add 6 = .ok (.iadd, 1) := by decide +kernel
theorem dX11_add_7 : decode cX11_add 7 = .ok (.putfield 110, 3) := by decide +kernel
theorem dX11_add_10 : decode cX11_add 10 = .ok (.aload_n 0, 1) := by decide +kernel
theorem dX11_add_11 : decode cX11_add 11 = .ok (.getfield 13, 3) := by decide +kernel
theorem dX11_add_14 : decode cX11_add 14 = .ok (.aload_n 0, 1) := by decide +kernel
theorem dX11_add_15 : decode cX11_add 15 = .ok (.getfield 110, 3) := by decide +kernel
theorem dX11_add_18 : decode cX11_add 18 = .ok (.iload_n 1, 1) := by decide +kernel
theorem dX11_add_19 : decode cX11_add 19 = .ok (.iastore, 1) := by decide +kernel
theorem dX11_add_20 : decode cX11_add 20 = .ok (.aload_n 0, 1) := by decide +kernel
theorem dX11_add_21 : decode cX11_add 21 = .ok (.getfield 17, 3) := by decide +kernel
theorem dX11_add_24 : decode cX11_add 24 = .ok (.aload_n 0, 1) := by decide +kernel
theorem dX11_add_25 : decode cX11_add 25 = .ok (.getfield 110, 3) := by decide +kernel
theorem dX11_add_28 : decode cX11_add 28 = .ok (.iconst 1, 1) := by decide +kernel
theorem dX11_add_29 : decode cX11_add 29 = .ok (.iastore, 1) := by decide +kernel
theorem dX11_add_30 : decode cX11_add 30 = .ok (.return_, 1) := by decide +kernel
theorem dX11_car_0 : decode cX11_car 0 = .ok (.iload_n 1, 1) := by decide +kernel
theorem dX11_car_1 : decode cX11_car 1 = .ok (.i2l, 1) := by decide +kernel
theorem dX11_car_2 : decode cX11_car 2 = .ok (.lconst 1, 1) := by decide +kernel
theorem dX11_car_3 : decode cX11_car 3 = .ok (.aload_n 0, 1) := by decide +kernel
theorem dX11_car_4 : decode cX11_car 4 = .ok (.getfield 7, 3) := by decide +kernel
theorem dX11_car_7 : decode cX11_car 7 = .ok (.i2l, 1) := by decide +kernel
theorem dX11_car_8 : decode cX11_car 8 = .ok (.invokestatic 96, 3) := by decide +kernel
theorem dX11_car_11 : decode cX11_car 11 = .ok (.ifCond .ne 5, 3) := by decide +kernel
theorem dX11_car_14 : decode cX11_car 14 = .ok (.iconst (-1), 1) := by decide +kernel
theorem dX11_car_15 : decode cX11_car 15 = .ok (.ireturn, 1) := by decide +kernel
theorem dX11_car_16 : decode cX11_car 16 = .ok (.aload_n 0, 1) := by decide +kernel
theorem dX11_car_17 : decode cX11_car 17 = .ok (.getfield 110, 3) := by decide +kernel
theorem dX11_car_20 : decode cX11_car 20 = .ok (.aload_n 0, 1) := by decide +kernel
theorem dX11_car_21 : decode cX11_car 21 = .ok (.getfield 7, 3) := by decide +kernel
theorem dX11_car_24 : decode cX11_car 24 = .ok (.if_icmp .ne 6, 3) := by decide +kernel
theorem dX11_car_27 : decode cX11_car 27 = .ok (.bipush (-3), 2) := by decide +kernel
theorem dX11_car_29 : decode cX11_car 29 = .ok (.ireturn, 1) := by decide +kernel
theorem dX11_car_30 : decode cX11_car 30 = .ok (.aload_n 0, 1) := by decide +kernel
theorem dX11_car_31 : decode cX11_car 31 = .ok (.iload_n 1, 1) := by decide +kernel
theorem dX11_car_32 : decode cX11_car 32 = .ok (.invokevirtual 113, 3) := by decide +kernel
theorem dX11_car_35 : decode cX11_car 35 = .ok (.aload_n 0, 1) := by decide +kernel
theorem dX11_car_36 : decode cX11_car 36 = .ok (.getfield 110, 3) := by decide +kernel
theorem dX11_car_39 : decode cX11_car 39 = .ok (.ireturn, 1) := by decide +kernel
theorem dX11_isCar_0 : decode cX11_isCar 0 = .ok (.iload_n 1, 1) := by decide +kernel
theorem dX11_isCar_1 : decode cX11_isCar 1 = .ok (.i2l, 1) := by decide +kernel
theorem dX11_isCar_2 : decode cX11_isCar 2 = .ok (.lconst 1, 1) := by decide +kernel
theorem dX11_isCar_3 : decode cX11_isCar 3 = .ok (.aload_n 0, 1) := by decide +kernel
theorem dX11_isCar_4 : decode cX11_isCar 4 = .ok (.getfield 110, 3) := by decide +kernel
theorem dX11_isCar_7 : decode cX11_isCar 7 = .ok (.i2l, 1) := by decide +kernel
theorem dX11_isCar_8 : decode cX11_isCar 8 = .ok (.invokestatic 96, 3) := by decide +kernel
theorem dX11_isCar_11 : decode cX11_isCar 11 = .ok (.ireturn, 1) := by decide +kernel
theorem dX11_wish_0 : decode cX11_wish 0 = .ok (.aload_n 0, 1) := by decide +kernel
theorem dX11_wish_1 : decode cX11_wish 1 = .ok (.iload_n 1, 1) := by decide +kernel
theorem dX11_wish_2 : decode cX11_wish 2 = .ok (.invokevirtual 117, 3) := by decide +kernel
theorem dX11_wish_5 : decode cX11_wish 5 = .ok (.ifCond .eq 17, 3) := by decide +kernel
theorem dX11_wish_8 : decode cX11_wish 8 = .ok (.iload_n 2, 1) := by decide +kernel
theorem dX11_wish_9 : decode cX11_wish 9 = .ok (.i2l, 1) := by decide +kernel
theorem dX11_wish_10 : decode cX11_wish 10 = .ok (.lconst 1, 1) := by decide +kernel
theorem dX11_wish_11 : decode cX11_wish 11 = .ok (.aload_n 0, 1) := by decide +kernel
theorem dX11_wish_12 : decode cX11_wish 12 = .ok (.getfield 7, 3) := by decide +kernel
theorem dX11_wish_15 : decode cX11_wish 15 = .ok (.i2l, 1) := by decide +kernel
theorem dX11_wish_16 : decode cX11_wish 16 = .ok (.invokestatic 96, 3) := by decide +kernel
theorem dX11_wish_19 : decode cX11_wish 19 = .ok (.ifCond .ne 5, 3) := by decide +kernel
theorem dX11_wish_22 : decode cX11_wish 22 = .ok (.iconst (-1), 1) := by decide +kernel
theorem dX11_wish_23 : decode cX11_wish 23 = .ok (.ireturn, 1) := by decide +kernel
theorem dX11_wish_24 : decode cX11_wish 24 = .ok (.aload_n 0, 1) := by decide +kernel
theorem dX11_wish_25 : decode cX11_wish 25 = .ok (.getfield 13, 3) := by decide +kernel
theorem dX11_wish_28 : decode cX11_wish 28 = .ok (.iload_n 1, 1) := by decide +kernel
theorem dX11_wish_29 : decode cX11_wish 29 = .ok (.iaload, 1) := by decide +kernel
theorem dX11_wish_30 : decode cX11_wish 30 = .ok (.istore_n 3, 1) := by decide +kernel
theorem dX11_wish_31 : decode cX11_wish 31 = .ok (.aload_n 0, 1) := by decide +kernel
theorem dX11_wish_32 : decode cX11_wish 32 = .ok (.getfield 13, 3) := by decide +kernel
theorem dX11_wish_35 : decode cX11_wish 35 = .ok (.iload_n 1, 1) := by decide +kernel
theorem dX11_wish_36 : decode cX11_wish 36 = .ok (.iload_n 2, 1) := by decide +kernel
theorem dX11_wish_37 : decode cX11_wish 37 = .ok (.iastore, 1) := by decide +kernel
theorem dX11_wish_38 : decode cX11_wish 38 = .ok (.iload_n 3, 1) := by decide +kernel
theorem dX11_wish_39 : decode cX11_wish 39 = .ok (.ireturn, 1) := by decide +kernel
theorem dX11_length_0 : decode cX11_length 0 = .ok (.aload_n 0, 1) := by decide +kernel
theorem dX11_length_1 : decode cX11_length 1 = .ok (.iload_n 1, 1) := by decide +kernel
theorem dX11_length_2 : decode cX11_length 2 = .ok (.invokevirtual 117, 3) := by decide +kernel
theorem dX11_length_5 : decode cX11_length 5 = .ok (.ifCond .eq 15, 3) := by decide +kernel
theorem dX11_length_8 : decode cX11_length 8 = .ok (.iload_n 2, 1) := by decide +kernel
theorem dX11_length_9 : decode cX11_length 9 = .ok (.i2l, 1) := by decide +kernel
theorem dX11_length_10 : decode cX11_length 10 = .ok (.lconst 1, 1) := by decide +kernel
theorem dX11_length_11 : decode cX11_length 11 = .ok (.ldc2_w 121, 3) := by decide +kernel
theorem dX11_length_14 : decode cX11_length 14 = .ok (.invokestatic 96, 3) := by decide +kernel
theorem dX11_length_17 : decode cX11_length 17 = .ok (.ifCond .ne 5, 3) := by decide +kernel
theorem dX11_length_20 : decode cX11_length 20 = .ok (.iconst (-1), 1) := by decide +kernel
theorem dX11_length_21 : decode cX11_length 21 = .ok (.ireturn, 1) := by decide +kernel
theorem dX11_length_22 : decode cX11_length 22 = .ok (.aload_n 0, 1) := by decide +kernel
theorem dX11_length_23 : decode cX11_length 23 = .ok (.getfield 17, 3) := by decide +kernel
theorem dX11_length_26 : decode cX11_length 26 = .ok (.iload_n 1, 1) := by decide +kernel
theorem dX11_length_27 : decode cX11_length 27 = .ok (.iaload, 1) := by decide +kernel
theorem dX11_length_28 : decode cX11_length 28 = .ok (.istore_n 3, 1) := by decide +kernel
theorem dX11_length_29 : decode cX11_length 29 = .ok (.aload_n 0, 1) := by decide +kernel
theorem dX11_length_30 : decode cX11_length 30 = .ok (.getfield 17, 3) := by decide +kernel
theorem dX11_length_33 : decode cX11_length 33 = .ok (.iload_n 1, 1) := by decide +kernel
theorem dX11_length_34 : decode cX11_length 34 = .ok (.iload_n 2, 1) := by decide +kernel
theorem dX11_length_35 : decode cX11_length 35 = .ok (.iastore, 1) := by decide +kernel
theorem dX11_length_36 : decode cX11_length 36 = .ok (.iload_n 3, 1) := by decide +kernel
theorem dX11_length_37 : decode cX11_length 37 = .ok (.ireturn, 1) := by decide +kernel
theorem dX11_undo_0 : decode cX11_undo 0 = .ok (.aload_n 0, 1) := by decide +kernel
theorem dX11_undo_1 : decode cX11_undo 1 = .ok (.getfield 110, 3) := by decide +kernel
theorem dX11_undo_4 : decode cX11_undo 4 = .ok (.ifCond .ne 6, 3) := by decide +kernel
theorem dX11_undo_7 : decode cX11_undo 7 = .ok (.bipush (-2), 2) := by decide +kernel
theorem dX11_undo_9 : decode cX11_undo 9 = .ok (.ireturn, 1) := by decide +kernel
theorem dX11_undo_10 : decode cX11_undo 10 = .ok (.aload_n 0, 1) := by decide +kernel
theorem dX11_undo_11 : decode cX11_undo 11 = .ok (.dup, 1) := by decide +kernel
theorem dX11_undo_12 : decode cX11_undo 12 = .ok (.getfield 110, 3) := by decide +kernel
theorem dX11_undo_15 : decode cX11_undo 15 = .ok (.iconst 1, 1) := by decide +kernel
theorem dX11_undo_16 : decode cX11_undo 16 = .ok (.isub, 1) := by decide +kernel
theorem dX11_undo_17 : decode cX11_undo 17 = .ok (.putfield 110, 3) := by decide +kernel
theorem dX11_undo_20 : decode cX11_undo 20 = .ok (.aload_n 0, 1) := by decide +kernel
theorem dX11_undo_21 : decode cX11_undo 21 = .ok (.getfield 110, 3) := by decide +kernel
theorem dX11_undo_24 : decode cX11_undo 24 = .ok (.ireturn, 1) := by decide +kernel
theorem dX11_clear_0 : decode cX11_clear 0 = .ok (.aload_n 0, 1) := by decide +kernel
theorem dX11_clear_1 : decode cX11_clear 1 = .ok (.getfield 110, 3) := by decide +kernel
theorem dX11_clear_4 : decode cX11_clear 4 = .ok (.istore_n 1, 1) := by decide +kernel
theorem dX11_clear_5 : decode cX11_clear 5 = .ok (.aload_n 0, 1) := by decide +kernel
theorem dX11_clear_6 : decode cX11_clear 6 = .ok (.iconst 0, 1) := by decide +kernel
theorem dX11_clear_7 : decode cX11_clear 7 = .ok (.putfield 110, 3) := by decide +kernel
theorem dX11_clear_10 : decode cX11_clear 10 = .ok (.iload_n 1, 1) := by decide +kernel
theorem dX11_clear_11 : decode cX11_clear 11 = .ok (.ireturn, 1) := by decide +kernel
theorem dX11_placeFor_0 : decode cX11_placeFor 0 = .ok (.aload_n 0, 1) := by decide +kernel
theorem dX11_placeFor_1 : decode cX11_placeFor 1 = .ok (.getfield 23, 3) := by decide +kernel
theorem dX11_placeFor_4 : decode cX11_placeFor 4 = .ok (.iload_n 1, 1) := by decide +kernel
theorem dX11_placeFor_5 : decode cX11_placeFor 5 = .ok (.iaload, 1) := by decide +kernel
theorem dX11_placeFor_6 : decode cX11_placeFor 6 = .ok (.ifCond .eq 47, 3) := by decide +kernel
theorem dX11_placeFor_9 : decode cX11_placeFor 9 = .ok (.aload_n 0, 1) := by decide +kernel
theorem dX11_placeFor_10 : decode cX11_placeFor 10 = .ok (.getfield 104, 3) := by decide +kernel
theorem dX11_placeFor_13 : decode cX11_placeFor 13 = .ok (.iconst 2, 1) := by decide +kernel
theorem dX11_placeFor_14 : decode cX11_placeFor 14 = .ok (.if_icmp .ne 39, 3) := by decide +kernel
theorem dX11_placeFor_17 : decode cX11_placeFor 17 = .ok (.iload_n 1, 1) := by decide +kernel
theorem dX11_placeFor_18 : decode cX11_placeFor 18 = .ok (.iconst 1, 1) := by decide +kernel
theorem dX11_placeFor_19 : decode cX11_placeFor 19 = .ok (.isub, 1) := by decide +kernel
theorem dX11_placeFor_20 : decode cX11_placeFor 20 = .ok (.istore_n 2, 1) := by decide +kernel
theorem dX11_placeFor_21 : decode cX11_placeFor 21 = .ok (.iload_n 2, 1) := by decide +kernel
theorem dX11_placeFor_22 : decode cX11_placeFor 22 = .ok (.iconst 1, 1) := by decide +kernel
theorem dX11_placeFor_23 : decode cX11_placeFor 23 = .ok (.if_icmp .lt 30, 3) := by decide +kernel
theorem dX11_placeFor_26 : decode cX11_placeFor 26 = .ok (.iload_n 2, 1) := by decide +kernel
theorem dX11_placeFor_27 : decode cX11_placeFor 27 = .ok (.iload_n 1, 1) := by decide +kernel
theorem dX11_placeFor_28 : decode cX11_placeFor 28 = .ok (.aload_n 0, 1) := by decide +kernel
theorem dX11_placeFor_29 : decode cX11_placeFor 29 = .ok (.getfield 107, 3) := by decide +kernel
theorem dX11_placeFor_32 : decode cX11_placeFor 32 = .ok (.isub, 1) := by decide +kernel
theorem dX11_placeFor_33 : decode cX11_placeFor 33 = .ok (.if_icmp .lt 20, 3) := by decide +kernel
theorem dX11_placeFor_36 : decode cX11_placeFor 36 = .ok (.aload_n 0, 1) := by decide +kernel
theorem dX11_placeFor_37 : decode cX11_placeFor 37 = .ok (.getfield 23, 3) := by decide +kernel
theorem dX11_placeFor_40 : decode cX11_placeFor 40 = .ok (.iload_n 2, 1) := by decide +kernel
theorem dX11_placeFor_41 : decode cX11_placeFor 41 = .ok (.iaload, 1) := by decide +kernel
theorem dX11_placeFor_42 : decode cX11_placeFor 42 = .ok (.ifCond .ne 5, 3) := by decide +kernel
theorem dX11_placeFor_45 : decode cX11_placeFor 45 = .ok (.iload_n 2, 1) := by decide +kernel
theorem dX11_placeFor_46 : decode cX11_placeFor 46 = .ok (.ireturn, 1) := by decide +kernel
theorem dX11_placeFor_47 : decode cX11_placeFor 47 = .ok (.iinc 2 (-1), 3) := by decide +kernel
theorem dX11_placeFor_50 : decode cX11_placeFor 50 = .ok (.goto (-29), 3) := by decide +kernel
theorem dX11_placeFor_53 : decode cX11_placeFor 53 = .ok (.iconst 0, 1) := by decide +kernel
theorem dX11_placeFor_54 : decode cX11_placeFor 54 = .ok (.istore_n 2, 1) := by decide +kernel
theorem dX11_placeFor_55 : decode cX11_placeFor 55 = .ok (.iload_n 2, 1) := by decide +kernel
theorem dX11_placeFor_56 : decode cX11_placeFor 56 = .ok (.aload_n 0, 1) := by decide +kernel
theorem dX11_placeFor_57 : decode cX11_placeFor 57 = .ok (.getfield 7, 3) := by decide +kernel
theorem dX11_placeFor_60 : decode cX11_placeFor 60 = .ok (.if_icmp .ge 61, 3) := by decide +kernel
theorem dX11_placeFor_63 : decode cX11_placeFor 63 = .ok (.iload_n 1, 1) := by decide +kernel
theorem dX11_placeFor_64 : decode cX11_placeFor 64 = .ok (.iload_n 2, 1) := by decide +kernel
theorem dX11_placeFor_65 : decode cX11_placeFor 65 = .ok (.iadd, 1) := by decide +kernel
theorem dX11_placeFor_66 : decode cX11_placeFor 66 = .ok (.istore_n 3, 1) := by decide +kernel
theorem dX11_placeFor_67 : decode cX11_placeFor 67 = .ok (.iload_n 3, 1) := by decide +kernel
theorem dX11_placeFor_68 : decode cX11_placeFor 68 = .ok (.aload_n 0, 1) := by decide +kernel
theorem dX11_placeFor_69 : decode cX11_placeFor 69 = .ok (.getfield 7, 3) := by decide +kernel
theorem dX11_placeFor_72 : decode cX11_placeFor 72 = .ok (.if_icmp .le 13, 3) := by decide +kernel
theorem dX11_placeFor_75 : decode cX11_placeFor 75 = .ok (.aload_n 0, 1) := by decide +kernel
theorem dX11_placeFor_76 : decode cX11_placeFor 76 = .ok (.getfield 104, 3) := by decide +kernel
theorem dX11_placeFor_79 : decode cX11_placeFor 79 = .ok (.iconst 1, 1) := by decide +kernel
theorem dX11_placeFor_80 : decode cX11_placeFor 80 = .ok (.if_icmp .eq 5, 3) := by decide +kernel
theorem dX11_placeFor_83 : decode cX11_placeFor 83 = .ok (.iconst 0, 1) := by decide +kernel
theorem dX11_placeFor_84 : decode cX11_placeFor 84 = .ok (.ireturn, 1) := by decide +kernel
theorem dX11_placeFor_85 : decode cX11_placeFor 85 = .ok (.iload_n 3, 1) := by decide +kernel
theorem dX11_placeFor_86 : decode cX11_placeFor 86 = .ok (.aload_n 0, 1) := by decide +kernel
theorem dX11_placeFor_87 : decode cX11_placeFor 87 = .ok (.getfield 7, 3) := by decide +kernel
theorem dX11_placeFor_90 : decode cX11_placeFor 90 = .ok (.if_icmp .le 12, 3) := by decide +kernel
theorem dX11_placeFor_93 : decode cX11_placeFor 93 = .ok (.iload_n 3, 1) := by decide +kernel
theorem dX11_placeFor_94 : decode cX11_placeFor 94 = .ok (.aload_n 0, 1) := by decide +kernel
theorem dX11_placeFor_95 : decode cX11_placeFor 95 = .ok (.getfield 7, 3) := by decide +kernel
theorem dX11_placeFor_98 : decode cX11_placeFor 98 = .ok (.isub, 1) := by decide +kernel
theorem dX11_placeFor_99 : decode cX11_placeFor 99 = .ok (.goto 4, 3) := by decide +kernel
theorem dX11_placeFor_102 : decode cX11_placeFor 102 = .ok (.iload_n 3, 1) := by decide +kernel
theorem dX11_placeFor_103 : decode cX11_placeFor 103 = .ok (.istore_n 3, 1) := by decide +kernel
theorem dX11_placeFor_104 : decode cX11_placeFor 104 = .ok (.aload_n 0, 1) := by decide +kernel
theorem dX11_placeFor_105 : decode cX11_placeFor 105 = .ok (.getfield 23, 3) := by decide +kernel
theorem dX11_placeFor_108 : decode cX11_placeFor 108 = .ok (.iload_n 3, 1) := by decide +kernel
theorem dX11_placeFor_109 : decode cX11_placeFor 109 = .ok (.iaload, 1) := by decide +kernel
theorem dX11_placeFor_110 : decode cX11_placeFor 110 = .ok (.ifCond .ne 5, 3) := by decide +kernel
theorem dX11_placeFor_113 : decode cX11_placeFor 113 = .ok (.iload_n 3, 1) := by decide +kernel
theorem dX11_placeFor_114 : decode cX11_placeFor 114 = .ok (.ireturn, 1) := by decide +kernel
theorem dX11_placeFor_115 : decode cX11_placeFor 115 = .ok (.iinc 2 1, 3) := by decide +kernel
theorem dX11_placeFor_118 : decode cX11_placeFor 118 = .ok (.goto (-63), 3) := by decide +kernel
theorem dX11_placeFor_121 : decode cX11_placeFor 121 = .ok (.iconst 0, 1) := by decide +kernel
theorem dX11_placeFor_122 : decode cX11_placeFor 122 = .ok (.ireturn, 1) := by decide +kernel
theorem dX11_fits_0 : decode cX11_fits 0 = .ok (.iload_n 1, 1) := by decide +kernel
theorem dX11_fits_1 : decode cX11_fits 1 = .ok (.ifCond .eq 31, 3) := by decide +kernel
theorem dX11_fits_4 : decode cX11_fits 4 = .ok (.iload_n 2, 1) := by decide +kernel
theorem dX11_fits_5 : decode cX11_fits 5 = .ok (.aload_n 0, 1) := by decide +kernel
theorem dX11_fits_6 : decode cX11_fits 6 = .ok (.getfield 7, 3) := by decide +kernel
theorem dX11_fits_9 : decode cX11_fits 9 = .ok (.if_icmp .gt 23, 3) := by decide +kernel
theorem dX11_fits_12 : decode cX11_fits 12 = .ok (.aload_n 0, 1) := by decide +kernel
theorem dX11_fits_13 : decode cX11_fits 13 = .ok (.getfield 104, 3) := by decide +kernel
theorem dX11_fits_16 : decode cX11_fits 16 = .ok (.iconst 1, 1) := by decide +kernel
theorem dX11_fits_17 : decode cX11_fits 17 = .ok (.if_icmp .eq 17, 3) := by decide +kernel
theorem dX11_fits_20 : decode cX11_fits 20 = .ok (.iload_n 1, 1) := by decide +kernel
theorem dX11_fits_21 : decode cX11_fits 21 = .ok (.iload_n 2, 1) := by decide +kernel
theorem dX11_fits_22 : decode cX11_fits 22 = .ok (.iadd, 1) := by decide +kernel
theorem dX11_fits_23 : decode cX11_fits 23 = .ok (.iconst 1, 1) := by decide +kernel
theorem dX11_fits_24 : decode cX11_fits 24 = .ok (.isub, 1) := by decide +kernel
theorem dX11_fits_25 : decode cX11_fits 25 = .ok (.aload_n 0, 1) := by decide +kernel
theorem dX11_fits_26 : decode cX11_fits 26 = .ok (.getfield 7, 3) := by decide +kernel
theorem dX11_fits_29 : decode cX11_fits 29 = .ok (.if_icmp .le 5, 3) := by decide +kernel
theorem dX11_fits_32 : decode cX11_fits 32 = .ok (.iconst 0, 1) := by decide +kernel
theorem dX11_fits_33 : decode cX11_fits 33 = .ok (.ireturn, 1) := by decide +kernel
theorem dX11_fits_34 : decode cX11_fits 34 = .ok (.iconst 1, 1) := by decide +kernel
theorem dX11_fits_35 : decode cX11_fits 35 = .ok (.istore_n 3, 1) := by decide +kernel
theorem dX11_fits_36 : decode cX11_fits 36 = .ok (.iconst 0, 1) := by decide +kernel
theorem dX11_fits_37 : decode cX11_fits 37 = .ok (.istore 4, 2) := by decide +kernel
theorem dX11_fits_39 : decode cX11_fits 39 = .ok (.iload 4, 2) := by decide +kernel
theorem dX11_fits_41 : decode cX11_fits 41 = .ok (.iload_n 2, 1) := by decide +kernel
theorem dX11_fits_42 : decode cX11_fits 42 = .ok (.if_icmp .ge 40, 3) := by decide +kernel
theorem dX11_fits_45 : decode cX11_fits 45 = .ok (.iload_n 3, 1) := by decide +kernel
theorem dX11_fits_46 : decode cX11_fits 46 = .ok (.ifCond .eq 28, 3) := by decide +kernel
theorem dX11_fits_49 : decode cX11_fits 49 = .ok (.aload_n 0, 1) := by decide +kernel
theorem dX11_fits_50 : decode cX11_fits 50 = .ok (.getfield 23, 3) := by decide +kernel
theorem dX11_fits_53 : decode cX11_fits 53 = .ok (.iload_n 1, 1) := by decide +kernel
theorem dX11_fits_54 : decode cX11_fits 54 = .ok (.iload 4, 2) := by decide +kernel
theorem dX11_fits_56 : decode cX11_fits 56 = .ok (.iadd, 1) := by decide +kernel
theorem dX11_fits_57 : decode cX11_fits 57 = .ok (.iconst 1, 1) := by decide +kernel
theorem dX11_fits_58 : decode cX11_fits 58 = .ok (.isub, 1) := by decide +kernel
theorem dX11_fits_59 : decode cX11_fits 59 = .ok (.aload_n 0, 1) := by decide +kernel
theorem dX11_fits_60 : decode cX11_fits 60 = .ok (.getfield 7, 3) := by decide +kernel
theorem dX11_fits_63 : decode cX11_fits 63 = .ok (.irem, 1) := by decide +kernel
theorem dX11_fits_64 : decode cX11_fits 64 = .ok (.iconst 1, 1) := by decide +kernel
theorem dX11_fits_65 : decode cX11_fits 65 = .ok (.iadd, 1) := by decide +kernel
theorem dX11_fits_66 : decode cX11_fits 66 = .ok (.iaload, 1) := by decide +kernel
theorem dX11_fits_67 : decode cX11_fits 67 = .ok (.ifCond .ne 7, 3) := by decide +kernel
theorem dX11_fits_70 : decode cX11_fits 70 = .ok (.iconst 1, 1) := by decide +kernel
theorem dX11_fits_71 : decode cX11_fits 71 = .ok (.goto 4, 3) := by decide +kernel
theorem dX11_fits_74 : decode cX11_fits 74 = .ok (.iconst 0, 1) := by decide +kernel
theorem dX11_fits_75 : decode cX11_fits 75 = .ok (.istore_n 3, 1) := by decide +kernel
theorem dX11_fits_76 : decode cX11_fits 76 = .ok (.iinc 4 1, 3) := by decide +kernel
theorem dX11_fits_79 : decode cX11_fits 79 = .ok (.goto (-40), 3) := by decide +kernel
theorem dX11_fits_82 : decode cX11_fits 82 = .ok (.iload_n 3, 1) := by decide +kernel
theorem dX11_fits_83 : decode cX11_fits 83 = .ok (.ireturn, 1) := by decide +kernel
theorem dX11_drive_0 : decode cX11_drive 0 = .ok (.iconst 0, 1) := by decide +kernel
theorem dX11_drive_1 : decode cX11_drive 1 = .ok (.istore_n 1, 1) := by decide +kernel
theorem dX11_drive_2 : decode cX11_drive 2 = .ok (.iload_n 1, 1) := by decide +kernel
theorem dX11_drive_3 : decode cX11_drive 3 = .ok (.bipush 10, 2) := by decide +kernel
theorem dX11_drive_5 : decode cX11_drive 5 = .ok (.if_icmp .gt 16, 3) := by decide +kernel
theorem dX11_drive_8 : decode cX11_drive 8 = .ok (.aload_n 0, 1) := by decide +kernel
theorem dX11_drive_9 : decode cX11_drive 9 = .ok (.getfield 23, 3) := by decide +kernel
theorem dX11_drive_12 : decode cX11_drive 12 = .ok (.iload_n 1, 1) := by decide +kernel
theorem dX11_drive_13 : decode cX11_drive 13 = .ok (.iconst 0, 1) := by decide +kernel
theorem dX11_drive_14 : decode cX11_drive 14 = .ok (.iastore, 1) := by decide +kernel
theorem dX11_drive_15 : decode cX11_drive 15 = .ok (.iinc 1 1, 3) := by decide +kernel
theorem dX11_drive_18 : decode cX11_drive 18 = .ok (.goto (-16), 3) := by decide +kernel
theorem dX11_drive_21 : decode cX11_drive 21 = .ok (.iconst 1, 1) := by decide +kernel
theorem dX11_drive_22 : decode cX11_drive 22 = .ok (.istore_n 1, 1) := by decide +kernel
theorem dX11_drive_23 : decode cX11_drive 23 = .ok (.iload_n 1, 1) := by decide +kernel
theorem dX11_drive_24 : decode cX11_drive 24 = .ok (.aload_n 0, 1) := by decide +kernel
theorem dX11_drive_25 : decode cX11_drive 25 = .ok (.getfield 110, 3) := by decide +kernel
theorem dX11_drive_28 : decode cX11_drive 28 = .ok (.if_icmp .gt 90, 3) := by decide +kernel
theorem dX11_drive_31 : decode cX11_drive 31 = .ok (.aload_n 0, 1) := by decide +kernel
theorem dX11_drive_32 : decode cX11_drive 32 = .ok (.aload_n 0, 1) := by decide +kernel
theorem dX11_drive_33 : decode cX11_drive 33 = .ok (.getfield 13, 3) := by decide +kernel
theorem dX11_drive_36 : decode cX11_drive 36 = .ok (.iload_n 1, 1) := by decide +kernel
theorem dX11_drive_37 : decode cX11_drive 37 = .ok (.iaload, 1) := by decide +kernel
theorem dX11_drive_38 : decode cX11_drive 38 = .ok (.invokevirtual 123, 3) := by decide +kernel
theorem dX11_drive_41 : decode cX11_drive 41 = .ok (.istore_n 2, 1) := by decide +kernel
theorem dX11_drive_42 : decode cX11_drive 42 = .ok (.aload_n 0, 1) := by decide +kernel
theorem dX11_drive_43 : decode cX11_drive 43 = .ok (.getfield 20, 3) := by decide +kernel
theorem dX11_drive_46 : decode cX11_drive 46 = .ok (.iload_n 1, 1) := by decide +kernel
theorem dX11_drive_47 : decode cX11_drive 47 = .ok (.aload_n 0, 1) := by decide +kernel
theorem dX11_drive_48 : decode cX11_drive 48 = .ok (.iload_n 2, 1) := by decide +kernel
theorem dX11_drive_49 : decode cX11_drive 49 = .ok (.aload_n 0, 1) := by decide +kernel
theorem dX11_drive_50 : decode cX11_drive 50 = .ok (.getfield 17, 3) := by decide +kernel
theorem dX11_drive_53 : decode cX11_drive 53 = .ok (.iload_n 1, 1) := by decide +kernel
theorem dX11_drive_54 : decode cX11_drive 54 = .ok (.iaload, 1) := by decide +kernel
theorem dX11_drive_55 : decode cX11_drive 55 = .ok (.invokevirtual 127, 3) := by decide +kernel
theorem dX11_drive_58 : decode cX11_drive 58 = .ok (.ifCond .eq 7, 3) := by decide +kernel
theorem dX11_drive_61 : decode cX11_drive 61 = .ok (.iload_n 2, 1) := by decide +kernel
theorem dX11_drive_62 : decode cX11_drive 62 = .ok (.goto 4, 3) := by decide +kernel
theorem dX11_drive_65 : decode cX11_drive 65 = .ok (.iconst 0, 1) := by decide +kernel
theorem dX11_drive_66 : decode cX11_drive 66 = .ok (.iastore, 1) := by decide +kernel
theorem dX11_drive_67 : decode cX11_drive 67 = .ok (.iconst 0, 1) := by decide +kernel
theorem dX11_drive_68 : decode cX11_drive 68 = .ok (.istore_n 3, 1) := by decide +kernel
theorem dX11_drive_69 : decode cX11_drive 69 = .ok (.iload_n 3, 1) := by decide +kernel
theorem dX11_drive_70 : decode cX11_drive 70 = .ok (.aload_n 0, 1) := by decide +kernel
theorem dX11_drive_71 : decode cX11_drive 71 = .ok (.getfield 17, 3) := by decide +kernel
theorem dX11_drive_74 : decode cX11_drive 74 = .ok (.iload_n 1, 1) := by decide +kernel
theorem dX11_drive_75 : decode cX11_drive 75 = .ok (.iaload, 1) := by decide +kernel
theorem dX11_drive_76 : decode cX11_drive 76 = .ok (.if_icmp .ge 36, 3) := by decide +kernel
theorem dX11_drive_79 : decode cX11_drive 79 = .ok (.aload_n 0, 1) := by decide +kernel
theorem dX11_drive_80 : decode cX11_drive 80 = .ok (.getfield 20, 3) := by decide +kernel
theorem dX11_drive_83 : decode cX11_drive 83 = .ok (.iload_n 1, 1) := by decide +kernel
theorem dX11_drive_84 : decode cX11_drive 84 = .ok (.iaload, 1) := by decide +kernel
theorem dX11_drive_85 : decode cX11_drive 85 = .ok (.ifCond .le 27, 3) := by decide +kernel
theorem dX11_drive_88 : decode cX11_drive 88 = .ok (.aload_n 0, 1) := by decide +kernel
theorem dX11_drive_89 : decode cX11_drive 89 = .ok (.getfield 23, 3) := by decide +kernel
theorem dX11_drive_92 : decode cX11_drive 92 = .ok (.iload_n 2, 1) := by decide +kernel
theorem dX11_drive_93 : decode cX11_drive 93 = .ok (.iload_n 3, 1) := by decide +kernel
theorem dX11_drive_94 : decode cX11_drive 94 = .ok (.iadd, 1) := by decide +kernel
theorem dX11_drive_95 : decode cX11_drive 95 = .ok (.iconst 1, 1) := by decide +kernel
theorem dX11_drive_96 : decode cX11_drive 96 = .ok (.isub, 1) := by decide +kernel
theorem dX11_drive_97 : decode cX11_drive 97 = .ok (.aload_n 0, 1) := by decide +kernel
theorem dX11_drive_98 : decode cX11_drive 98 = .ok (.getfield 7, 3) := by decide +kernel
theorem dX11_drive_101 : decode cX11_drive 101 = .ok (.irem, 1) := by decide +kernel
theorem dX11_drive_102 : decode cX11_drive 102 = .ok (.iconst 1, 1) := by decide +kernel
theorem dX11_drive_103 : decode cX11_drive 103 = .ok (.iadd, 1) := by decide +kernel
theorem dX11_drive_104 : decode cX11_drive 104 = .ok (.iload_n 1, 1) := by decide +kernel
theorem dX11_drive_105 : decode cX11_drive 105 = .ok (.iastore, 1) := by decide +kernel
theorem dX11_drive_106 : decode cX11_drive 106 = .ok (.iinc 3 1, 3) := by decide +kernel
theorem dX11_drive_109 : decode cX11_drive 109 = .ok (.goto (-40), 3) := by decide +kernel
theorem dX11_drive_112 : decode cX11_drive 112 = .ok (.iinc 1 1, 3) := by decide +kernel
theorem dX11_drive_115 : decode cX11_drive 115 = .ok (.goto (-92), 3) := by decide +kernel
theorem dX11_drive_118 : decode cX11_drive 118 = .ok (.return_, 1) := by decide +kernel
theorem dX11_goes_0 : decode cX11_goes 0 = .ok (.aload_n 0, 1) := by decide +kernel
theorem dX11_goes_1 : decode cX11_goes 1 = .ok (.getfield 20, 3) := by decide +kernel
theorem dX11_goes_4 : decode cX11_goes 4 = .ok (.iload_n 1, 1) := by decide +kernel
theorem dX11_goes_5 : decode cX11_goes 5 = .ok (.iaload, 1) := by decide +kernel
theorem dX11_goes_6 : decode cX11_goes 6 = .ok (.aload_n 0, 1) := by decide +kernel
theorem dX11_goes_7 : decode cX11_goes 7 = .ok (.getfield 13, 3) := by decide +kernel
theorem dX11_goes_10 : decode cX11_goes 10 = .ok (.iload_n 1, 1) := by decide +kernel
theorem dX11_goes_11 : decode cX11_goes 11 = .ok (.iaload, 1) := by decide +kernel
theorem dX11_goes_12 : decode cX11_goes 12 = .ok (.isub, 1) := by decide +kernel
theorem dX11_goes_13 : decode cX11_goes 13 = .ok (.istore_n 2, 1) := by decide +kernel
theorem dX11_goes_14 : decode cX11_goes 14 = .ok (.aload_n 0, 1) := by decide +kernel
theorem dX11_goes_15 : decode cX11_goes 15 = .ok (.getfield 104, 3) := by decide +kernel
theorem dX11_goes_18 : decode cX11_goes 18 = .ok (.iconst 1, 1) := by decide +kernel
theorem dX11_goes_19 : decode cX11_goes 19 = .ok (.if_icmp .ne 17, 3) := by decide +kernel
theorem dX11_goes_22 : decode cX11_goes 22 = .ok (.iload_n 2, 1) := by decide +kernel
theorem dX11_goes_23 : decode cX11_goes 23 = .ok (.aload_n 0, 1) := by decide +kernel
theorem dX11_goes_24 : decode cX11_goes 24 = .ok (.getfield 7, 3) := by decide +kernel
theorem dX11_goes_27 : decode cX11_goes 27 = .ok (.iadd, 1) := by decide +kernel
theorem dX11_goes_28 : decode cX11_goes 28 = .ok (.aload_n 0, 1) := by decide +kernel
theorem dX11_goes_29 : decode cX11_goes 29 = .ok (.getfield 7, 3) := by decide +kernel
theorem dX11_goes_32 : decode cX11_goes 32 = .ok (.irem, 1) := by decide +kernel
theorem dX11_goes_33 : decode cX11_goes 33 = .ok (.goto 13, 3) := by decide +kernel
theorem dX11_goes_36 : decode cX11_goes 36 = .ok (.iload_n 2, 1) := by decide +kernel
theorem dX11_goes_37 : decode cX11_goes 37 = .ok (.ifCond .ge 8, 3) := by decide +kernel
theorem dX11_goes_40 : decode cX11_goes 40 = .ok (.iload_n 2, 1) := by decide +kernel
theorem dX11_goes_41 : decode cX11_goes 41 = .ok (.ineg, 1) := by decide +kernel
theorem dX11_goes_42 : decode cX11_goes 42 = .ok (.goto 4, 3) := by decide +kernel
theorem dX11_goes_45 : decode cX11_goes 45 = .ok (.iload_n 2, 1) := by decide +kernel
theorem dX11_goes_46 : decode cX11_goes 46 = .ok (.ireturn, 1) := by decide +kernel
theorem dX11_isGood_0 : decode cX11_isGood 0 = .ok (.aload_n 0, 1) := by decide +kernel
theorem dX11_isGood_1 : decode cX11_isGood 1 = .ok (.invokevirtual 131, 3) := by decide +kernel
theorem dX11_isGood_4 : decode cX11_isGood 4 = .ok (.iconst 1, 1) := by decide +kernel
theorem dX11_isGood_5 : decode cX11_isGood 5 = .ok (.istore_n 1, 1) := by decide +kernel
theorem dX11_isGood_6 : decode cX11_isGood 6 = .ok (.iconst 1, 1) := by decide +kernel
theorem dX11_isGood_7 : decode cX11_isGood 7 = .ok (.istore_n 2, 1) := by decide +kernel
theorem dX11_isGood_8 : decode cX11_isGood 8 = .ok (.iload_n 2, 1) := by decide +kernel
theorem dX11_isGood_9 : decode cX11_isGood 9 = .ok (.aload_n 0, 1) := by decide +kernel
theorem dX11_isGood_10 : decode cX11_isGood 10 = .ok (.getfield 110, 3) := by decide +kernel
theorem dX11_isGood_13 : decode cX11_isGood 13 = .ok (.if_icmp .gt 28, 3) := by decide +kernel
theorem dX11_isGood_16 : decode cX11_isGood 16 = .ok (.iload_n 1, 1) := by decide +kernel
theorem dX11_isGood_17 : decode cX11_isGood 17 = .ok (.ifCond .eq 16, 3) := by decide +kernel
theorem dX11_isGood_20 : decode cX11_isGood 20 = .ok (.aload_n 0, 1) := by decide +kernel
theorem dX11_isGood_21 : decode cX11_isGood 21 = .ok (.getfield 20, 3) := by decide +kernel
theorem dX11_isGood_24 : decode cX11_isGood 24 = .ok (.iload_n 2, 1) := by decide +kernel
theorem dX11_isGood_25 : decode cX11_isGood 25 = .ok (.iaload, 1) := by decide +kernel
theorem dX11_isGood_26 : decode cX11_isGood 26 = .ok (.ifCond .le 7, 3) := by decide +kernel
theorem dX11_isGood_29 : decode cX11_isGood 29 = .ok (.iconst 1, 1) := by decide +kernel
theorem dX11_isGood_30 : decode cX11_isGood 30 = .ok (.goto 4, 3) := by decide +kernel
theorem dX11_isGood_33 : decode cX11_isGood 33 = .ok (.iconst 0, 1) := by decide +kernel
theorem dX11_isGood_34 : decode cX11_isGood 34 = .ok (.istore_n 1, 1) := by decide +kernel
theorem dX11_isGood_35 : decode cX11_isGood 35 = .ok (.iinc 2 1, 3) := by decide +kernel
theorem dX11_isGood_38 : decode cX11_isGood 38 = .ok (.goto (-30), 3) := by decide +kernel
theorem dX11_isGood_41 : decode cX11_isGood 41 = .ok (.iload_n 1, 1) := by decide +kernel
theorem dX11_isGood_42 : decode cX11_isGood 42 = .ok (.ireturn, 1) := by decide +kernel
theorem dX11_isPlain_0 : decode cX11_isPlain 0 = .ok (.aload_n 0, 1) := by decide +kernel
theorem dX11_isPlain_1 : decode cX11_isPlain 1 = .ok (.getfield 104, 3) := by decide +kernel
theorem dX11_isPlain_4 : decode cX11_isPlain 4 = .ok (.ifCond .ne 7, 3) := by decide +kernel
theorem dX11_isPlain_7 : decode cX11_isPlain 7 = .ok (.iconst 1, 1) := by decide +kernel
theorem dX11_isPlain_8 : decode cX11_isPlain 8 = .ok (.goto 4, 3) := by decide +kernel
theorem dX11_isPlain_11 : decode cX11_isPlain 11 = .ok (.iconst 0, 1) := by decide +kernel
theorem dX11_isPlain_12 : decode cX11_isPlain 12 = .ok (.istore_n 1, 1) := by decide +kernel
theorem dX11_isPlain_13 : decode cX11_isPlain 13 = .ok (.iconst 1, 1) := by decide +kernel
theorem dX11_isPlain_14 : decode cX11_isPlain 14 = .ok (.istore_n 2, 1) := by decide +kernel
theorem dX11_isPlain_15 : decode cX11_isPlain 15 = .ok (.iload_n 2, 1) := by decide +kernel
theorem dX11_isPlain_16 : decode cX11_isPlain 16 = .ok (.aload_n 0, 1) := by decide +kernel
theorem dX11_isPlain_17 : decode cX11_isPlain 17 = .ok (.getfield 110, 3) := by decide +kernel
theorem dX11_isPlain_20 : decode cX11_isPlain 20 = .ok (.if_icmp .gt 29, 3) := by decide +kernel
theorem dX11_isPlain_23 : decode cX11_isPlain 23 = .ok (.iload_n 1, 1) := by decide +kernel
theorem dX11_isPlain_24 : decode cX11_isPlain 24 = .ok (.ifCond .eq 17, 3) := by decide +kernel
theorem dX11_isPlain_27 : decode cX11_isPlain 27 = .ok (.aload_n 0, 1) := by decide +kernel
theorem dX11_isPlain_28 : decode cX11_isPlain 28 = .ok (.getfield 17, 3) := by decide +kernel
theorem dX11_isPlain_31 : decode cX11_isPlain 31 = .ok (.iload_n 2, 1) := by decide +kernel
theorem dX11_isPlain_32 : decode cX11_isPlain 32 = .ok (.iaload, 1) := by decide +kernel
theorem dX11_isPlain_33 : decode cX11_isPlain 33 = .ok (.iconst 1, 1) := by decide +kernel
theorem dX11_isPlain_34 : decode cX11_isPlain 34 = .ok (.if_icmp .ne 7, 3) := by decide +kernel
theorem dX11_isPlain_37 : decode cX11_isPlain 37 = .ok (.iconst 1, 1) := by decide +kernel
theorem dX11_isPlain_38 : decode cX11_isPlain 38 = .ok (.goto 4, 3) := by decide +kernel
theorem dX11_isPlain_41 : decode cX11_isPlain 41 = .ok (.iconst 0, 1) := by decide +kernel
theorem dX11_isPlain_42 : decode cX11_isPlain 42 = .ok (.istore_n 1, 1) := by decide +kernel
theorem dX11_isPlain_43 : decode cX11_isPlain 43 = .ok (.iinc 2 1, 3) := by decide +kernel
theorem dX11_isPlain_46 : decode cX11_isPlain 46 = .ok (.goto (-31), 3) := by decide +kernel
theorem dX11_isPlain_49 : decode cX11_isPlain 49 = .ok (.iload_n 1, 1) := by decide +kernel
theorem dX11_isPlain_50 : decode cX11_isPlain 50 = .ok (.ireturn, 1) := by decide +kernel
theorem dX11_told_0 : decode cX11_told 0 = .ok (.aload_n 0, 1) := by decide +kernel
theorem dX11_told_1 : decode cX11_told 1 = .ok (.iload_n 1, 1) := by decide +kernel
theorem dX11_told_2 : decode cX11_told 2 = .ok (.invokevirtual 117, 3) := by decide +kernel
theorem dX11_told_5 : decode cX11_told 5 = .ok (.ifCond .ne 5, 3) := by decide +kernel
theorem dX11_told_8 : decode cX11_told 8 = .ok (.iconst (-1), 1) := by decide +kernel
theorem dX11_told_9 : decode cX11_told 9 = .ok (.ireturn, 1) := by decide +kernel
theorem dX11_told_10 : decode cX11_told 10 = .ok (.aload_n 0, 1) := by decide +kernel
theorem dX11_told_11 : decode cX11_told 11 = .ok (.invokevirtual 131, 3) := by decide +kernel
theorem dX11_told_14 : decode cX11_told 14 = .ok (.iload_n 2, 1) := by decide +kernel
theorem dX11_told_15 : decode cX11_told 15 = .ok (.tableswitch 109 0 4 #[33, 40, 47, 68, 88], 33) := by decide +kernel
theorem dX11_told_48 : decode cX11_told 48 = .ok (.aload_n 0, 1) := by decide +kernel
theorem dX11_told_49 : decode cX11_told 49 = .ok (.getfield 13, 3) := by decide +kernel
theorem dX11_told_52 : decode cX11_told 52 = .ok (.iload_n 1, 1) := by decide +kernel
theorem dX11_told_53 : decode cX11_told 53 = .ok (.iaload, 1) := by decide +kernel
theorem dX11_told_54 : decode cX11_told 54 = .ok (.ireturn, 1) := by decide +kernel
theorem dX11_told_55 : decode cX11_told 55 = .ok (.aload_n 0, 1) := by decide +kernel
theorem dX11_told_56 : decode cX11_told 56 = .ok (.getfield 17, 3) := by decide +kernel
theorem dX11_told_59 : decode cX11_told 59 = .ok (.iload_n 1, 1) := by decide +kernel
theorem dX11_told_60 : decode cX11_told 60 = .ok (.iaload, 1) := by decide +kernel
theorem dX11_told_61 : decode cX11_told 61 = .ok (.ireturn, 1) := by decide +kernel
theorem dX11_told_62 : decode cX11_told 62 = .ok (.aload_n 0, 1) := by decide +kernel
theorem dX11_told_63 : decode cX11_told 63 = .ok (.getfield 20, 3) := by decide +kernel
theorem dX11_told_66 : decode cX11_told 66 = .ok (.iload_n 1, 1) := by decide +kernel
theorem dX11_told_67 : decode cX11_told 67 = .ok (.iaload, 1) := by decide +kernel
theorem dX11_told_68 : decode cX11_told 68 = .ok (.ifCond .ne 8, 3) := by decide +kernel
theorem dX11_told_71 : decode cX11_told 71 = .ok (.bipush (-4), 2) := by decide +kernel
theorem dX11_told_73 : decode cX11_told 73 = .ok (.goto 9, 3) := by decide +kernel
theorem dX11_told_76 : decode cX11_told 76 = .ok (.aload_n 0, 1) := by decide +kernel
theorem dX11_told_77 : decode cX11_told 77 = .ok (.getfield 20, 3) := by decide +kernel
theorem dX11_told_80 : decode cX11_told 80 = .ok (.iload_n 1, 1) := by decide +kernel
theorem dX11_told_81 : decode cX11_told 81 = .ok (.iaload, 1) := by decide +kernel
theorem dX11_told_82 : decode cX11_told 82 = .ok (.ireturn, 1) := by decide +kernel
theorem dX11_told_83 : decode cX11_told 83 = .ok (.aload_n 0, 1) := by decide +kernel
theorem dX11_told_84 : decode cX11_told 84 = .ok (.getfield 20, 3) := by decide +kernel
theorem dX11_told_87 : decode cX11_told 87 = .ok (.iload_n 1, 1) := by decide +kernel
theorem dX11_told_88 : decode cX11_told 88 = .ok (.iaload, 1) := by decide +kernel
theorem dX11_told_89 : decode cX11_told 89 = .ok (.ifCond .ne 8, 3) := by decide +kernel
theorem dX11_told_92 : decode cX11_told 92 = .ok (.bipush (-4), 2) := by decide +kernel
theorem dX11_told_94 : decode cX11_told 94 = .ok (.goto 8, 3) := by decide +kernel
theorem dX11_told_97 : decode cX11_told 97 = .ok (.aload_n 0, 1) := by decide +kernel
theorem dX11_told_98 : decode cX11_told 98 = .ok (.iload_n 1, 1) := by decide +kernel
theorem dX11_told_99 : decode cX11_told 99 = .ok (.invokevirtual 134, 3) := by decide +kernel
theorem dX11_told_102 : decode cX11_told 102 = .ok (.ireturn, 1) := by decide +kernel
theorem dX11_told_103 : decode cX11_told 103 = .ok (.aload_n 0, 1) := by decide +kernel
theorem dX11_told_104 : decode cX11_told 104 = .ok (.getfield 20, 3) := by decide +kernel
theorem dX11_told_107 : decode cX11_told 107 = .ok (.iload_n 1, 1) := by decide +kernel
theorem dX11_told_108 : decode cX11_told 108 = .ok (.iaload, 1) := by decide +kernel
theorem dX11_told_109 : decode cX11_told 109 = .ok (.aload_n 0, 1) := by decide +kernel
theorem dX11_told_110 : decode cX11_told 110 = .ok (.getfield 13, 3) := by decide +kernel
theorem dX11_told_113 : decode cX11_told 113 = .ok (.iload_n 1, 1) := by decide +kernel
theorem dX11_told_114 : decode cX11_told 114 = .ok (.iaload, 1) := by decide +kernel
theorem dX11_told_115 : decode cX11_told 115 = .ok (.if_icmp .ne 7, 3) := by decide +kernel
theorem dX11_told_118 : decode cX11_told 118 = .ok (.iconst 1, 1) := by decide +kernel
theorem dX11_told_119 : decode cX11_told 119 = .ok (.goto 4, 3) := by decide +kernel
theorem dX11_told_122 : decode cX11_told 122 = .ok (.iconst 0, 1) := by decide +kernel
theorem dX11_told_123 : decode cX11_told 123 = .ok (.ireturn, 1) := by decide +kernel
theorem dX11_told_124 : decode cX11_told 124 = .ok (.iconst (-1), 1) := by decide +kernel
theorem dX11_told_125 : decode cX11_told 125 = .ok (.ireturn, 1) := by decide +kernel
theorem dX11_on_0 : decode cX11_on 0 = .ok (.iload_n 1, 1) := by decide +kernel
theorem dX11_on_1 : decode cX11_on 1 = .ok (.i2l, 1) := by decide +kernel
theorem dX11_on_2 : decode cX11_on 2 = .ok (.lconst 1, 1) := by decide +kernel
theorem dX11_on_3 : decode cX11_on 3 = .ok (.aload_n 0, 1) := by decide +kernel
theorem dX11_on_4 : decode cX11_on 4 = .ok (.getfield 7, 3) := by decide +kernel
theorem dX11_on_7 : decode cX11_on 7 = .ok (.i2l, 1) := by decide +kernel
theorem dX11_on_8 : decode cX11_on 8 = .ok (.invokestatic 96, 3) := by decide +kernel
theorem dX11_on_11 : decode cX11_on 11 = .ok (.ifCond .ne 5, 3) := by decide +kernel
theorem dX11_on_14 : decode cX11_on 14 = .ok (.iconst (-1), 1) := by decide +kernel
theorem dX11_on_15 : decode cX11_on 15 = .ok (.ireturn, 1) := by decide +kernel
theorem dX11_on_16 : decode cX11_on 16 = .ok (.aload_n 0, 1) := by decide +kernel
theorem dX11_on_17 : decode cX11_on 17 = .ok (.invokevirtual 131, 3) := by decide +kernel
theorem dX11_on_20 : decode cX11_on 20 = .ok (.aload_n 0, 1) := by decide +kernel
theorem dX11_on_21 : decode cX11_on 21 = .ok (.getfield 23, 3) := by decide +kernel
theorem dX11_on_24 : decode cX11_on 24 = .ok (.iload_n 1, 1) := by decide +kernel
theorem dX11_on_25 : decode cX11_on 25 = .ok (.iaload, 1) := by decide +kernel
theorem dX11_on_26 : decode cX11_on 26 = .ok (.ifCond .ne 8, 3) := by decide +kernel
theorem dX11_on_29 : decode cX11_on 29 = .ok (.bipush (-4), 2) := by decide +kernel
theorem dX11_on_31 : decode cX11_on 31 = .ok (.goto 9, 3) := by decide +kernel
theorem dX11_on_34 : decode cX11_on 34 = .ok (.aload_n 0, 1) := by decide +kernel
theorem dX11_on_35 : decode cX11_on 35 = .ok (.getfield 23, 3) := by decide +kernel
theorem dX11_on_38 : decode cX11_on 38 = .ok (.iload_n 1, 1) := by decide +kernel
theorem dX11_on_39 : decode cX11_on 39 = .ok (.iaload, 1) := by decide +kernel
theorem dX11_on_40 : decode cX11_on 40 = .ok (.ireturn, 1) := by decide +kernel
theorem dX11_count_0 : decode cX11_count 0 = .ok (.iload_n 1, 1) := by decide +kernel
theorem dX11_count_1 : decode cX11_count 1 = .ok (.i2l, 1) := by decide +kernel
theorem dX11_count_2 : decode cX11_count 2 = .ok (.lconst 0, 1) := by decide +kernel
theorem dX11_count_3 : decode cX11_count 3 = .ok (.ldc2_w 137, 3) := by decide +kernel
theorem dX11_count_6 : decode cX11_count 6 = .ok (.invokestatic 96, 3) := by decide +kernel
theorem dX11_count_9 : decode cX11_count 9 = .ok (.ifCond .ne 5, 3) := by decide +kernel
theorem dX11_count_12 : decode cX11_count 12 = .ok (.iconst (-1), 1) := by decide +kernel
theorem dX11_count_13 : decode cX11_count 13 = .ok (.ireturn, 1) := by decide +kernel
theorem dX11_count_14 : decode cX11_count 14 = .ok (.aload_n 0, 1) := by decide +kernel
theorem dX11_count_15 : decode cX11_count 15 = .ok (.invokevirtual 131, 3) := by decide +kernel
theorem dX11_count_18 : decode cX11_count 18 = .ok (.iconst 0, 1) := by decide +kernel
theorem dX11_count_19 : decode cX11_count 19 = .ok (.istore_n 2, 1) := by decide +kernel
theorem dX11_count_20 : decode cX11_count 20 = .ok (.iconst 0, 1) := by decide +kernel
theorem dX11_count_21 : decode cX11_count 21 = .ok (.istore_n 3, 1) := by decide +kernel
theorem dX11_count_22 : decode cX11_count 22 = .ok (.iconst 0, 1) := by decide +kernel
theorem dX11_count_23 : decode cX11_count 23 = .ok (.istore 4, 2) := by decide +kernel
theorem dX11_count_25 : decode cX11_count 25 = .ok (.iconst 0, 1) := by decide +kernel
theorem dX11_count_26 : decode cX11_count 26 = .ok (.istore 5, 2) := by decide +kernel
theorem dX11_count_28 : decode cX11_count 28 = .ok (.iconst 0, 1) := by decide +kernel
theorem dX11_count_29 : decode cX11_count 29 = .ok (.istore 6, 2) := by decide +kernel
theorem dX11_count_31 : decode cX11_count 31 = .ok (.iconst 1, 1) := by decide +kernel
theorem dX11_count_32 : decode cX11_count 32 = .ok (.istore 7, 2) := by decide +kernel
theorem dX11_count_34 : decode cX11_count 34 = .ok (.iload 7, 2) := by decide +kernel
theorem dX11_count_36 : decode cX11_count 36 = .ok (.aload_n 0, 1) := by decide +kernel
theorem dX11_count_37 : decode cX11_count 37 = .ok (.getfield 110, 3) := by decide +kernel
theorem dX11_count_40 : decode cX11_count 40 = .ok (.if_icmp .gt 97, 3) := by decide +kernel
theorem dX11_count_43 : decode cX11_count 43 = .ok (.aload_n 0, 1) := by decide +kernel
theorem dX11_count_44 : decode cX11_count 44 = .ok (.getfield 20, 3) := by decide +kernel
theorem dX11_count_47 : decode cX11_count 47 = .ok (.iload 7, 2) := by decide +kernel
theorem dX11_count_49 : decode cX11_count 49 = .ok (.iaload, 1) := by decide +kernel
theorem dX11_count_50 : decode cX11_count 50 = .ok (.ifCond .le 12, 3) := by decide +kernel
theorem dX11_count_53 : decode cX11_count 53 = .ok (.aload_n 0, 1) := by decide +kernel
theorem dX11_count_54 : decode cX11_count 54 = .ok (.iload 7, 2) := by decide +kernel
theorem dX11_count_56 : decode cX11_count 56 = .ok (.invokevirtual 134, 3) := by decide +kernel
theorem dX11_count_59 : decode cX11_count 59 = .ok (.goto 4, 3) := by decide +kernel
theorem dX11_count_62 : decode cX11_count 62 = .ok (.iconst 0, 1) := by decide +kernel
theorem dX11_count_63 : decode cX11_count 63 = .ok (.istore 8, 2) := by decide +kernel
theorem dX11_count_65 : decode cX11_count 65 = .ok (.iload_n 2, 1) := by decide +kernel
theorem dX11_count_66 : decode cX11_count 66 = .ok (.aload_n 0, 1) := by decide +kernel
theorem dX11_count_67 : decode cX11_count 67 = .ok (.getfield 20, 3) := by decide +kernel
theorem dX11_count_70 : decode cX11_count 70 = .ok (.iload 7, 2) := by decide +kernel
theorem dX11_count_72 : decode cX11_count 72 = .ok (.iaload, 1) := by decide +kernel
theorem dX11_count_73 : decode cX11_count 73 = .ok (.ifCond .le 7, 3) := by decide +kernel
theorem dX11_count_76 : decode cX11_count 76 = .ok (.iconst 1, 1) := by decide +kernel
theorem dX11_count_77 : decode cX11_count 77 = .ok (.goto 4, 3) := by decide +kernel
theorem dX11_count_80 : decode cX11_count 80 = .ok (.iconst 0, 1) := by decide +kernel
theorem dX11_count_81 : decode cX11_count 81 = .ok (.iadd, 1) := by decide +kernel
theorem dX11_count_82 : decode cX11_count 82 = .ok (.istore_n 2, 1) := by decide +kernel
theorem dX11_count_83 : decode cX11_count 83 = .ok (.iload_n 3, 1) := by decide +kernel
theorem dX11_count_84 : decode cX11_count 84 = .ok (.aload_n 0, 1) := by decide +kernel
theorem dX11_count_85 : decode cX11_count 85 = .ok (.getfield 20, 3) := by decide +kernel
theorem dX11_count_88 : decode cX11_count 88 = .ok (.iload 7, 2) := by decide +kernel
theorem dX11_count_90 : decode cX11_count 90 = .ok (.iaload, 1) := by decide +kernel
theorem dX11_count_91 : decode cX11_count 91 = .ok (.aload_n 0, 1) := by decide +kernel
theorem dX11_count_92 : decode cX11_count 92 = .ok (.getfield 13, 3) := by decide +kernel
theorem dX11_count_95 : decode cX11_count 95 = .ok (.iload 7, 2) := by decide +kernel
theorem dX11_count_97 : decode cX11_count 97 = .ok (.iaload, 1) := by decide +kernel
theorem dX11_count_98 : decode cX11_count 98 = .ok (.if_icmp .ne 7, 3) := by decide +kernel
theorem dX11_count_101 : decode cX11_count 101 = .ok (.iconst 1, 1) := by decide +kernel
theorem dX11_count_102 : decode cX11_count 102 = .ok (.goto 4, 3) := by decide +kernel
theorem dX11_count_105 : decode cX11_count 105 = .ok (.iconst 0, 1) := by decide +kernel
theorem dX11_count_106 : decode cX11_count 106 = .ok (.iadd, 1) := by decide +kernel
theorem dX11_count_107 : decode cX11_count 107 = .ok (.istore_n 3, 1) := by decide +kernel
theorem dX11_count_108 : decode cX11_count 108 = .ok (.iload 4, 2) := by decide +kernel
theorem dX11_count_110 : decode cX11_count 110 = .ok (.iload 8, 2) := by decide +kernel
theorem dX11_count_112 : decode cX11_count 112 = .ok (.iadd, 1) := by decide +kernel
theorem dX11_count_113 : decode cX11_count 113 = .ok (.istore 4, 2) := by decide +kernel
theorem dX11_count_115 : decode cX11_count 115 = .ok (.iload 8, 2) := by decide +kernel
theorem dX11_count_117 : decode cX11_count 117 = .ok (.iload 5, 2) := by decide +kernel
theorem dX11_count_119 : decode cX11_count 119 = .ok (.if_icmp .le 8, 3) := by decide +kernel
theorem dX11_count_122 : decode cX11_count 122 = .ok (.iload 8, 2) := by decide +kernel
theorem dX11_count_124 : decode cX11_count 124 = .ok (.goto 5, 3) := by decide +kernel
theorem dX11_count_127 : decode cX11_count 127 = .ok (.iload 5, 2) := by decide +kernel
theorem dX11_count_129 : decode cX11_count 129 = .ok (.istore 5, 2) := by decide +kernel
theorem dX11_count_131 : decode cX11_count 131 = .ok (.iinc 7 1, 3) := by decide +kernel
theorem dX11_count_134 : decode cX11_count 134 = .ok (.goto (-100), 3) := by decide +kernel
theorem dX11_count_137 : decode cX11_count 137 = .ok (.iconst 1, 1) := by decide +kernel
theorem dX11_count_138 : decode cX11_count 138 = .ok (.istore 7, 2) := by decide +kernel
theorem dX11_count_140 : decode cX11_count 140 = .ok (.iload 7, 2) := by decide +kernel
theorem dX11_count_142 : decode cX11_count 142 = .ok (.aload_n 0, 1) := by decide +kernel
theorem dX11_count_143 : decode cX11_count 143 = .ok (.getfield 7, 3) := by decide +kernel
theorem dX11_count_146 : decode cX11_count 146 = .ok (.if_icmp .gt 29, 3) := by decide +kernel
theorem dX11_count_149 : decode cX11_count 149 = .ok (.iload 6, 2) := by decide +kernel
theorem dX11_count_151 : decode cX11_count 151 = .ok (.aload_n 0, 1) := by decide +kernel
theorem dX11_count_152 : decode cX11_count 152 = .ok (.getfield 23, 3) := by decide +kernel
theorem dX11_count_155 : decode cX11_count 155 = .ok (.iload 7, 2) := by decide +kernel
theorem dX11_count_157 : decode cX11_count 157 = .ok (.iaload, 1) := by decide +kernel
theorem dX11_count_158 : decode cX11_count 158 = .ok (.ifCond .ne 7, 3) := by decide +kernel
theorem dX11_count_161 : decode cX11_count 161 = .ok (.iconst 1, 1) := by decide +kernel
theorem dX11_count_162 : decode cX11_count 162 = .ok (.goto 4, 3) := by decide +kernel
theorem dX11_count_165 : decode cX11_count 165 = .ok (.iconst 0, 1) := by decide +kernel
theorem dX11_count_166 : decode cX11_count 166 = .ok (.iadd, 1) := by decide +kernel
theorem dX11_count_167 : decode cX11_count 167 = .ok (.istore 6, 2) := by decide +kernel
theorem dX11_count_169 : decode cX11_count 169 = .ok (.iinc 7 1, 3) := by decide +kernel
theorem dX11_count_172 : decode cX11_count 172 = .ok (.goto (-32), 3) := by decide +kernel
theorem dX11_count_175 : decode cX11_count 175 = .ok (.iload_n 1, 1) := by decide +kernel
theorem dX11_count_176 : decode cX11_count 176 = .ok (.tableswitch 71 0 6 #[44, 49, 54, 56, 63, 65, 68], 44) := by decide +kernel
theorem dX11_count_220 : decode cX11_count 220 = .ok (.aload_n 0, 1) := by decide +kernel
theorem dX11_count_221 : decode cX11_count 221 = .ok (.getfield 7, 3) := by decide +kernel
theorem dX11_count_224 : decode cX11_count 224 = .ok (.ireturn, 1) := by decide +kernel
theorem dX11_count_225 : decode cX11_count 225 = .ok (.aload_n 0, 1) := by decide +kernel
theorem dX11_count_226 : decode cX11_count 226 = .ok (.getfield 110, 3) := by decide +kernel
theorem dX11_count_229 : decode cX11_count 229 = .ok (.ireturn, 1) := by decide +kernel
theorem dX11_count_230 : decode cX11_count 230 = .ok (.iload_n 2, 1) := by decide +kernel
theorem dX11_count_231 : decode cX11_count 231 = .ok (.ireturn, 1) := by decide +kernel
theorem dX11_count_232 : decode cX11_count 232 = .ok (.aload_n 0, 1) := by decide +kernel
theorem dX11_count_233 : decode cX11_count 233 = .ok (.getfield 110, 3) := by decide +kernel
theorem dX11_count_236 : decode cX11_count 236 = .ok (.iload_n 2, 1) := by decide +kernel
theorem dX11_count_237 : decode cX11_count 237 = .ok (.isub, 1) := by decide +kernel
theorem dX11_count_238 : decode cX11_count 238 = .ok (.ireturn, 1) := by decide +kernel
theorem dX11_count_239 : decode cX11_count 239 = .ok (.iload_n 3, 1) := by decide +kernel
theorem dX11_count_240 : decode cX11_count 240 = .ok (.ireturn, 1) := by decide +kernel
theorem dX11_count_241 : decode cX11_count 241 = .ok (.iload 4, 2) := by decide +kernel
theorem dX11_count_243 : decode cX11_count 243 = .ok (.ireturn, 1) := by decide +kernel
theorem dX11_count_244 : decode cX11_count 244 = .ok (.iload 5, 2) := by decide +kernel
theorem dX11_count_246 : decode cX11_count 246 = .ok (.ireturn, 1) := by decide +kernel
theorem dX11_count_247 : decode cX11_count 247 = .ok (.iload 6, 2) := by decide +kernel
theorem dX11_count_249 : decode cX11_count 249 = .ok (.ireturn, 1) := by decide +kernel
theorem dX11_good_0 : decode cX11_good 0 = .ok (.aload_n 0, 1) := by decide +kernel
theorem dX11_good_1 : decode cX11_good 1 = .ok (.invokevirtual 139, 3) := by decide +kernel
theorem dX11_good_4 : decode cX11_good 4 = .ok (.ifCond .eq 7, 3) := by decide +kernel
theorem dX11_good_7 : decode cX11_good 7 = .ok (.iconst 1, 1) := by decide +kernel
theorem dX11_good_8 : decode cX11_good 8 = .ok (.goto 4, 3) := by decide +kernel
theorem dX11_good_11 : decode cX11_good 11 = .ok (.iconst 0, 1) := by decide +kernel
theorem dX11_good_12 : decode cX11_good 12 = .ok (.ireturn, 1) := by decide +kernel
theorem dX11_step_0 : decode cX11_step 0 = .ok (.aload_n 0, 1) := by decide +kernel
theorem dX11_step_1 : decode cX11_step 1 = .ok (.getfield 110, 3) := by decide +kernel
theorem dX11_step_4 : decode cX11_step 4 = .ok (.istore_n 1, 1) := by decide +kernel
theorem dX11_step_5 : decode cX11_step 5 = .ok (.iload_n 1, 1) := by decide +kernel
theorem dX11_step_6 : decode cX11_step 6 = .ok (.iconst 1, 1) := by decide +kernel
theorem dX11_step_7 : decode cX11_step 7 = .ok (.if_icmp .lt 29, 3) := by decide +kernel
theorem dX11_step_10 : decode cX11_step 10 = .ok (.aload_n 0, 1) := by decide +kernel
theorem dX11_step_11 : decode cX11_step 11 = .ok (.getfield 13, 3) := by decide +kernel
theorem dX11_step_14 : decode cX11_step 14 = .ok (.iload_n 1, 1) := by decide +kernel
theorem dX11_step_15 : decode cX11_step 15 = .ok (.iaload, 1) := by decide +kernel
theorem dX11_step_16 : decode cX11_step 16 = .ok (.aload_n 0, 1) := by decide +kernel
theorem dX11_step_17 : decode cX11_step 17 = .ok (.getfield 7, 3) := by decide +kernel
theorem dX11_step_20 : decode cX11_step 20 = .ok (.if_icmp .ne 16, 3) := by decide +kernel
theorem dX11_step_23 : decode cX11_step 23 = .ok (.aload_n 0, 1) := by decide +kernel
theorem dX11_step_24 : decode cX11_step 24 = .ok (.getfield 13, 3) := by decide +kernel
theorem dX11_step_27 : decode cX11_step 27 = .ok (.iload_n 1, 1) := by decide +kernel
theorem dX11_step_28 : decode cX11_step 28 = .ok (.iconst 1, 1) := by decide +kernel
theorem dX11_step_29 : decode cX11_step 29 = .ok (.iastore, 1) := by decide +kernel
theorem dX11_step_30 : decode cX11_step 30 = .ok (.iinc 1 (-1), 3) := by decide +kernel
theorem dX11_step_33 : decode cX11_step 33 = .ok (.goto (-28), 3) := by decide +kernel
theorem dX11_step_36 : decode cX11_step 36 = .ok (.iload_n 1, 1) := by decide +kernel
theorem dX11_step_37 : decode cX11_step 37 = .ok (.iconst 1, 1) := by decide +kernel
theorem dX11_step_38 : decode cX11_step 38 = .ok (.if_icmp .lt 13, 3) := by decide +kernel
theorem dX11_step_41 : decode cX11_step 41 = .ok (.aload_n 0, 1) := by decide +kernel
theorem dX11_step_42 : decode cX11_step 42 = .ok (.getfield 13, 3) := by decide +kernel
theorem dX11_step_45 : decode cX11_step 45 = .ok (.iload_n 1, 1) := by decide +kernel
theorem dX11_step_46 : decode cX11_step 46 = .ok (.dup2, 1) := by decide +kernel
theorem dX11_step_47 : decode cX11_step 47 = .ok (.iaload, 1) := by decide +kernel
theorem dX11_step_48 : decode cX11_step 48 = .ok (.iconst 1, 1) := by decide +kernel
theorem dX11_step_49 : decode cX11_step 49 = .ok (.iadd, 1) := by decide +kernel
theorem dX11_step_50 : decode cX11_step 50 = .ok (.iastore, 1) := by decide +kernel
theorem dX11_step_51 : decode cX11_step 51 = .ok (.iload_n 1, 1) := by decide +kernel
theorem dX11_step_52 : decode cX11_step 52 = .ok (.iconst 1, 1) := by decide +kernel
theorem dX11_step_53 : decode cX11_step 53 = .ok (.if_icmp .lt 7, 3) := by decide +kernel
theorem dX11_step_56 : decode cX11_step 56 = .ok (.iconst 1, 1) := by decide +kernel
theorem dX11_step_57 : decode cX11_step 57 = .ok (.goto 4, 3) := by decide +kernel
theorem dX11_step_60 : decode cX11_step 60 = .ok (.iconst 0, 1) := by decide +kernel
theorem dX11_step_61 : decode cX11_step 61 = .ok (.ireturn, 1) := by decide +kernel
theorem dX11_ways_0 : decode cX11_ways 0 = .ok (.lconst 1, 1) := by decide +kernel
theorem dX11_ways_1 : decode cX11_ways 1 = .ok (.lstore_n 1, 1) := by decide +kernel
theorem dX11_ways_2 : decode cX11_ways 2 = .ok (.iconst 1, 1) := by decide +kernel
theorem dX11_ways_3 : decode cX11_ways 3 = .ok (.istore_n 3, 1) := by decide +kernel
theorem dX11_ways_4 : decode cX11_ways 4 = .ok (.iload_n 3, 1) := by decide +kernel
theorem dX11_ways_5 : decode cX11_ways 5 = .ok (.aload_n 0, 1) := by decide +kernel
theorem dX11_ways_6 : decode cX11_ways 6 = .ok (.getfield 110, 3) := by decide +kernel
theorem dX11_ways_9 : decode cX11_ways 9 = .ok (.if_icmp .gt 17, 3) := by decide +kernel
theorem dX11_ways_12 : decode cX11_ways 12 = .ok (.lload_n 1, 1) := by decide +kernel
theorem dX11_ways_13 : decode cX11_ways 13 = .ok (.aload_n 0, 1) := by decide +kernel
theorem dX11_ways_14 : decode cX11_ways 14 = .ok (.getfield 7, 3) := by decide +kernel
theorem dX11_ways_17 : decode cX11_ways 17 = .ok (.i2l, 1) := by decide +kernel
theorem dX11_ways_18 : decode cX11_ways 18 = .ok (.lmul, 1) := by decide +kernel
theorem dX11_ways_19 : decode cX11_ways 19 = .ok (.lstore_n 1, 1) := by decide +kernel
theorem dX11_ways_20 : decode cX11_ways 20 = .ok (.iinc 3 1, 3) := by decide +kernel
theorem dX11_ways_23 : decode cX11_ways 23 = .ok (.goto (-19), 3) := by decide +kernel
theorem dX11_ways_26 : decode cX11_ways 26 = .ok (.lload_n 1, 1) := by decide +kernel
theorem dX11_ways_27 : decode cX11_ways 27 = .ok (.ldc2_w 143, 3) := by decide +kernel
theorem dX11_ways_30 : decode cX11_ways 30 = .ok (.lcmp, 1) := by decide +kernel
theorem dX11_ways_31 : decode cX11_ways 31 = .ok (.ifCond .le 6, 3) := by decide +kernel
theorem dX11_ways_34 : decode cX11_ways 34 = .ok (.bipush (-2), 2) := by decide +kernel
theorem dX11_ways_36 : decode cX11_ways 36 = .ok (.ireturn, 1) := by decide +kernel
theorem dX11_ways_37 : decode cX11_ways 37 = .ok (.iconst 1, 1) := by decide +kernel
theorem dX11_ways_38 : decode cX11_ways 38 = .ok (.istore_n 3, 1) := by decide +kernel
theorem dX11_ways_39 : decode cX11_ways 39 = .ok (.iload_n 3, 1) := by decide +kernel
theorem dX11_ways_40 : decode cX11_ways 40 = .ok (.aload_n 0, 1) := by decide +kernel
theorem dX11_ways_41 : decode cX11_ways 41 = .ok (.getfield 110, 3) := by decide +kernel
theorem dX11_ways_44 : decode cX11_ways 44 = .ok (.if_icmp .gt 28, 3) := by decide +kernel
theorem dX11_ways_47 : decode cX11_ways 47 = .ok (.aload_n 0, 1) := by decide +kernel
theorem dX11_ways_48 : decode cX11_ways 48 = .ok (.getfield 26, 3) := by decide +kernel
theorem dX11_ways_51 : decode cX11_ways 51 = .ok (.iload_n 3, 1) := by decide +kernel
theorem dX11_ways_52 : decode cX11_ways 52 = .ok (.aload_n 0, 1) := by decide +kernel
theorem dX11_ways_53 : decode cX11_ways 53 = .ok (.getfield 13, 3) := by decide +kernel
theorem dX11_ways_56 : decode cX11_ways 56 = .ok (.iload_n 3, 1) := by decide +kernel
theorem dX11_ways_57 : decode cX11_ways 57 = .ok (.iaload, 1) := by decide +kernel
theorem dX11_ways_58 : decode cX11_ways 58 = .ok (.iastore, 1) := by decide +kernel
theorem dX11_ways_59 : decode cX11_ways 59 = .ok (.aload_n 0, 1) := by decide +kernel
theorem dX11_ways_60 : decode cX11_ways 60 = .ok (.getfield 13, 3) := by decide +kernel
theorem dX11_ways_63 : decode cX11_ways 63 = .ok (.iload_n 3, 1) := by decide +kernel
theorem dX11_ways_64 : decode cX11_ways 64 = .ok (.iconst 1, 1) := by decide +kernel
theorem dX11_ways_65 : decode cX11_ways 65 = .ok (.iastore, 1) := by decide +kernel
theorem dX11_ways_66 : decode cX11_ways 66 = .ok (.iinc 3 1, 3) := by decide +kernel
theorem dX11_ways_69 : decode cX11_ways 69 = .ok (.goto (-30), 3) := by decide +kernel
theorem dX11_ways_72 : decode cX11_ways 72 = .ok (.iconst 0, 1) := by decide +kernel
theorem dX11_ways_73 : decode cX11_ways 73 = .ok (.istore_n 3, 1) := by decide +kernel
theorem dX11_ways_74 : decode cX11_ways 74 = .ok (.iconst 1, 1) := by decide +kernel
theorem dX11_ways_75 : decode cX11_ways 75 = .ok (.istore 4, 2) := by decide +kernel
theorem dX11_ways_77 : decode cX11_ways 77 = .ok (.iload 4, 2) := by decide +kernel
theorem dX11_ways_79 : decode cX11_ways 79 = .ok (.ifCond .eq 27, 3) := by decide +kernel
theorem dX11_ways_82 : decode cX11_ways 82 = .ok (.iload_n 3, 1) := by decide +kernel
theorem dX11_ways_83 : decode cX11_ways 83 = .ok (.aload_n 0, 1) := by decide +kernel
theorem dX11_ways_84 : decode cX11_ways 84 = .ok (.invokevirtual 139, 3) := by decide +kernel
theorem dX11_ways_87 : decode cX11_ways 87 = .ok (.ifCond .eq 7, 3) := by decide +kernel
theorem dX11_ways_90 : decode cX11_ways 90 = .ok (.iconst 1, 1) := by decide +kernel
theorem dX11_ways_91 : decode cX11_ways 91 = .ok (.goto 4, 3) := by decide +kernel
theorem dX11_ways_94 : decode cX11_ways 94 = .ok (.iconst 0, 1) := by decide +kernel
theorem dX11_ways_95 : decode cX11_ways 95 = .ok (.iadd, 1) := by decide +kernel
theorem dX11_ways_96 : decode cX11_ways 96 = .ok (.istore_n 3, 1) := by decide +kernel
theorem dX11_ways_97 : decode cX11_ways 97 = .ok (.aload_n 0, 1) := by decide +kernel
theorem dX11_ways_98 : decode cX11_ways 98 = .ok (.invokevirtual 145, 3) := by decide +kernel
theorem dX11_ways_101 : decode cX11_ways 101 = .ok (.istore 4, 2) := by decide +kernel
theorem dX11_ways_103 : decode cX11_ways 103 = .ok (.goto (-26), 3) := by decide +kernel
theorem dX11_ways_106 : decode cX11_ways 106 = .ok (.iconst 1, 1) := by decide +kernel
theorem dX11_ways_107 : decode cX11_ways 107 = .ok (.istore 5, 2) := by decide +kernel
theorem dX11_ways_109 : decode cX11_ways 109 = .ok (.iload 5, 2) := by decide +kernel
theorem dX11_ways_111 : decode cX11_ways 111 = .ok (.aload_n 0, 1) := by decide +kernel
theorem dX11_ways_112 : decode cX11_ways 112 = .ok (.getfield 110, 3) := by decide +kernel
theorem dX11_ways_115 : decode cX11_ways 115 = .ok (.if_icmp .gt 23, 3) := by decide +kernel
theorem dX11_ways_118 : decode cX11_ways 118 = .ok (.aload_n 0, 1) := by decide +kernel
theorem dX11_ways_119 : decode cX11_ways 119 = .ok (.getfield 13, 3) := by decide +kernel
theorem dX11_ways_122 : decode cX11_ways 122 = .ok (.iload 5, 2) := by decide +kernel
theorem dX11_ways_124 : decode cX11_ways 124 = .ok (.aload_n 0, 1) := by decide +kernel
theorem dX11_ways_125 : decode cX11_ways 125 = .ok (.getfield 26, 3) := by decide +kernel
theorem dX11_ways_128 : decode cX11_ways 128 = .ok (.iload 5, 2) := by decide +kernel
theorem dX11_ways_130 : decode cX11_ways 130 = .ok (.iaload, 1) := by decide +kernel
theorem dX11_ways_131 : decode cX11_ways 131 = .ok (.iastore, 1) := by decide +kernel
theorem dX11_ways_132 : decode cX11_ways 132 = .ok (.iinc 5 1, 3) := by decide +kernel
theorem dX11_ways_135 : decode cX11_ways 135 = .ok (.goto (-26), 3) := by decide +kernel
theorem dX11_ways_138 : decode cX11_ways 138 = .ok (.iload_n 3, 1) := by decide +kernel
theorem dX11_ways_139 : decode cX11_ways 139 = .ok (.ireturn, 1) := by decide +kernel
theorem dX11_choose_0 : decode cX11_choose 0 = .ok (.iload_n 2, 1) := by decide +kernel
theorem dX11_choose_1 : decode cX11_choose 1 = .ok (.i2l, 1) := by decide +kernel
theorem dX11_choose_2 : decode cX11_choose 2 = .ok (.lconst 0, 1) := by decide +kernel
theorem dX11_choose_3 : decode cX11_choose 3 = .ok (.iload_n 1, 1) := by decide +kernel
theorem dX11_choose_4 : decode cX11_choose 4 = .ok (.i2l, 1) := by decide +kernel
theorem dX11_choose_5 : decode cX11_choose 5 = .ok (.invokestatic 96, 3) := by decide +kernel
theorem dX11_choose_8 : decode cX11_choose 8 = .ok (.ifCond .eq 17, 3) := by decide +kernel
theorem dX11_choose_11 : decode cX11_choose 11 = .ok (.aload_n 0, 1) := by decide +kernel
theorem dX11_choose_12 : decode cX11_choose 12 = .ok (.getfield 29, 3) := by decide +kernel
theorem dX11_choose_15 : decode cX11_choose 15 = .ok (.bipush 12, 2) := by decide +kernel
theorem dX11_choose_17 : decode cX11_choose 17 = .ok (.iload_n 1, 1) := by decide +kernel
theorem dX11_choose_18 : decode cX11_choose 18 = .ok (.imul, 1) := by decide +kernel
theorem dX11_choose_19 : decode cX11_choose 19 = .ok (.iload_n 2, 1) := by decide +kernel
theorem dX11_choose_20 : decode cX11_choose 20 = .ok (.iadd, 1) := by decide +kernel
theorem dX11_choose_21 : decode cX11_choose 21 = .ok (.laload, 1) := by decide +kernel
theorem dX11_choose_22 : decode cX11_choose 22 = .ok (.goto 4, 3) := by decide +kernel
theorem dX11_choose_25 : decode cX11_choose 25 = .ok (.lconst 0, 1) := by decide +kernel
theorem dX11_choose_26 : decode cX11_choose 26 = .ok (.lreturn, 1) := by decide +kernel
theorem dX11_power_0 : decode cX11_power 0 = .ok (.lconst 1, 1) := by decide +kernel
theorem dX11_power_1 : decode cX11_power 1 = .ok (.lstore_n 3, 1) := by decide +kernel
theorem dX11_power_2 : decode cX11_power 2 = .ok (.iconst 0, 1) := by decide +kernel
theorem dX11_power_3 : decode cX11_power 3 = .ok (.istore 5, 2) := by decide +kernel
theorem dX11_power_5 : decode cX11_power 5 = .ok (.iload 5, 2) := by decide +kernel
theorem dX11_power_7 : decode cX11_power 7 = .ok (.iload_n 2, 1) := by decide +kernel
theorem dX11_power_8 : decode cX11_power 8 = .ok (.if_icmp .ge 13, 3) := by decide +kernel
theorem dX11_power_11 : decode cX11_power 11 = .ok (.lload_n 3, 1) := by decide +kernel
theorem dX11_power_12 : decode cX11_power 12 = .ok (.lload_n 0, 1) := by decide +kernel
theorem dX11_power_13 : decode cX11_power 13 = .ok (.lmul, 1) := by decide +kernel
theorem dX11_power_14 : decode cX11_power 14 = .ok (.lstore_n 3, 1) := by decide +kernel
theorem dX11_power_15 : decode cX11_power 15 = .ok (.iinc 5 1, 3) := by decide +kernel
theorem dX11_power_18 : decode cX11_power 18 = .ok (.goto (-13), 3) := by decide +kernel
theorem dX11_power_21 : decode cX11_power 21 = .ok (.lload_n 3, 1) := by decide +kernel
theorem dX11_power_22 : decode cX11_power 22 = .ok (.lreturn, 1) := by decide +kernel
theorem dX11_finishes_0 : decode cX11_finishes 0 = .ok (.iconst 0, 1) := by decide +kernel
theorem dX11_finishes_1 : decode cX11_finishes 1 = .ok (.istore_n 3, 1) := by decide +kernel
theorem dX11_finishes_2 : decode cX11_finishes 2 = .ok (.iconst 0, 1) := by decide +kernel
theorem dX11_finishes_3 : decode cX11_finishes 3 = .ok (.istore 4, 2) := by decide +kernel
theorem dX11_finishes_5 : decode cX11_finishes 5 = .ok (.iload 4, 2) := by decide +kernel
theorem dX11_finishes_7 : decode cX11_finishes 7 = .ok (.iload_n 2, 1) := by decide +kernel
theorem dX11_finishes_8 : decode cX11_finishes 8 = .ok (.if_icmp .gt 33, 3) := by decide +kernel
theorem dX11_finishes_11 : decode cX11_finishes 11 = .ok (.aload_n 0, 1) := by decide +kernel
theorem dX11_finishes_12 : decode cX11_finishes 12 = .ok (.getfield 36, 3) := by decide +kernel
theorem dX11_finishes_15 : decode cX11_finishes 15 = .ok (.bipush 12, 2) := by decide +kernel
theorem dX11_finishes_17 : decode cX11_finishes 17 = .ok (.iload_n 1, 1) := by decide +kernel
theorem dX11_finishes_18 : decode cX11_finishes 18 = .ok (.iconst 1, 1) := by decide +kernel
theorem dX11_finishes_19 : decode cX11_finishes 19 = .ok (.iadd, 1) := by decide +kernel
theorem dX11_finishes_20 : decode cX11_finishes 20 = .ok (.imul, 1) := by decide +kernel
theorem dX11_finishes_21 : decode cX11_finishes 21 = .ok (.iload 4, 2) := by decide +kernel
theorem dX11_finishes_23 : decode cX11_finishes 23 = .ok (.iadd, 1) := by decide +kernel
theorem dX11_finishes_24 : decode cX11_finishes 24 = .ok (.iload 4, 2) := by decide +kernel
theorem dX11_finishes_26 : decode cX11_finishes 26 = .ok (.ifCond .ne 7, 3) := by decide +kernel
theorem dX11_finishes_29 : decode cX11_finishes 29 = .ok (.lconst 1, 1) := by decide +kernel
theorem dX11_finishes_30 : decode cX11_finishes 30 = .ok (.goto 4, 3) := by decide +kernel
theorem dX11_finishes_33 : decode cX11_finishes 33 = .ok (.lconst 0, 1) := by decide +kernel
theorem dX11_finishes_34 : decode cX11_finishes 34 = .ok (.lastore, 1) := by decide +kernel
theorem dX11_finishes_35 : decode cX11_finishes 35 = .ok (.iinc 4 1, 3) := by decide +kernel
theorem dX11_finishes_38 : decode cX11_finishes 38 = .ok (.goto (-33), 3) := by decide +kernel
theorem dX11_finishes_41 : decode cX11_finishes 41 = .ok (.iload_n 1, 1) := by decide +kernel
theorem dX11_finishes_42 : decode cX11_finishes 42 = .ok (.istore 4, 2) := by decide +kernel
theorem dX11_finishes_44 : decode cX11_finishes 44 = .ok (.iload 4, 2) := by decide +kernel
theorem dX11_finishes_46 : decode cX11_finishes 46 = .ok (.iconst 1, 1) := by decide +kernel
theorem dX11_finishes_47 : decode cX11_finishes 47 = .ok (.if_icmp .lt 122, 3) := by decide +kernel
theorem dX11_finishes_50 : decode cX11_finishes 50 = .ok (.iload_n 3, 1) := by decide +kernel
theorem dX11_finishes_51 : decode cX11_finishes 51 = .ok (.aload_n 0, 1) := by decide +kernel
theorem dX11_finishes_52 : decode cX11_finishes 52 = .ok (.getfield 33, 3) := by decide +kernel
theorem dX11_finishes_55 : decode cX11_finishes 55 = .ok (.iload 4, 2) := by decide +kernel
theorem dX11_finishes_57 : decode cX11_finishes 57 = .ok (.iaload, 1) := by decide +kernel
theorem dX11_finishes_58 : decode cX11_finishes 58 = .ok (.iadd, 1) := by decide +kernel
theorem dX11_finishes_59 : decode cX11_finishes 59 = .ok (.istore_n 3, 1) := by decide +kernel
theorem dX11_finishes_60 : decode cX11_finishes 60 = .ok (.iconst 0, 1) := by decide +kernel
theorem dX11_finishes_61 : decode cX11_finishes 61 = .ok (.istore 5, 2) := by decide +kernel
theorem dX11_finishes_63 : decode cX11_finishes 63 = .ok (.iload 5, 2) := by decide +kernel
theorem dX11_finishes_65 : decode cX11_finishes 65 = .ok (.iload_n 2, 1) := by decide +kernel
theorem dX11_finishes_66 : decode cX11_finishes 66 = .ok (.if_icmp .gt 97, 3) := by decide +kernel
theorem dX11_finishes_69 : decode cX11_finishes 69 = .ok (.lconst 0, 1) := by decide +kernel
theorem dX11_finishes_70 : decode cX11_finishes 70 = .ok (.lstore 6, 2) := by decide +kernel
theorem dX11_finishes_72 : decode cX11_finishes 72 = .ok (.iconst 0, 1) := by decide +kernel
theorem dX11_finishes_73 : decode cX11_finishes 73 = .ok (.istore 8, 2) := by decide +kernel
theorem dX11_finishes_75 : decode cX11_finishes 75 = .ok (.iload 8, 2) := by decide +kernel
theorem dX11_finishes_77 : decode cX11_finishes 77 = .ok (.iload 5, 2) := by decide +kernel
theorem dX11_finishes_79 : decode cX11_finishes 79 = .ok (.if_icmp .gt 46, 3) := by decide +kernel
theorem dX11_finishes_82 : decode cX11_finishes 82 = .ok (.lload 6, 2) := by decide +kernel
theorem dX11_finishes_84 : decode cX11_finishes 84 = .ok (.aload_n 0, 1) := by decide +kernel
theorem dX11_finishes_85 : decode cX11_finishes 85 = .ok (.getfield 36, 3) := by decide +kernel
theorem dX11_finishes_88 : decode cX11_finishes 88 = .ok (.bipush 12, 2) := by decide +kernel
theorem dX11_finishes_90 : decode cX11_finishes 90 = .ok (.iload 4, 2) := by decide +kernel
theorem dX11_finishes_92 : decode cX11_finishes 92 = .ok (.iconst 1, 1) := by decide +kernel
theorem dX11_finishes_93 : decode cX11_finishes 93 = .ok (.iadd, 1) := by decide +kernel
theorem dX11_finishes_94 : decode cX11_finishes 94 = .ok (.imul, 1) := by decide +kernel
theorem dX11_finishes_95 : decode cX11_finishes 95 = .ok (.iload 5, 2) := by decide +kernel
theorem dX11_finishes_97 : decode cX11_finishes 97 = .ok (.iadd, 1) := by decide +kernel
theorem dX11_finishes_98 : decode cX11_finishes 98 = .ok (.iload 8, 2) := by decide +kernel
theorem dX11_finishes_100 : decode cX11_finishes 100 = .ok (.isub, 1) := by decide +kernel
theorem dX11_finishes_101 : decode cX11_finishes 101 = .ok (.laload, 1) := by decide +kernel
theorem dX11_finishes_102 : decode cX11_finishes 102 = .ok (.aload_n 0, 1) := by decide +kernel
theorem dX11_finishes_103 : decode cX11_finishes 103 = .ok (.iload_n 2, 1) := by decide +kernel
theorem dX11_finishes_104 : decode cX11_finishes 104 = .ok (.iload 5, 2) := by decide +kernel
theorem dX11_finishes_106 : decode cX11_finishes 106 = .ok (.iload 8, 2) := by decide +kernel
theorem dX11_finishes_108 : decode cX11_finishes 108 = .ok (.isub, 1) := by decide +kernel
theorem dX11_finishes_109 : decode cX11_finishes 109 = .ok (.isub, 1) := by decide +kernel
theorem dX11_finishes_110 : decode cX11_finishes 110 = .ok (.iload 8, 2) := by decide +kernel
theorem dX11_finishes_112 : decode cX11_finishes 112 = .ok (.invokevirtual 148, 3) := by decide +kernel
theorem dX11_finishes_115 : decode cX11_finishes 115 = .ok (.lmul, 1) := by decide +kernel
theorem dX11_finishes_116 : decode cX11_finishes 116 = .ok (.ladd, 1) := by decide +kernel
theorem dX11_finishes_117 : decode cX11_finishes 117 = .ok (.lstore 6, 2) := by decide +kernel
theorem dX11_finishes_119 : decode cX11_finishes 119 = .ok (.iinc 8 1, 3) := by decide +kernel
theorem dX11_finishes_122 : decode cX11_finishes 122 = .ok (.goto (-47), 3) := by decide +kernel
theorem dX11_finishes_125 : decode cX11_finishes 125 = .ok (.aload_n 0, 1) := by decide +kernel
theorem dX11_finishes_126 : decode cX11_finishes 126 = .ok (.getfield 36, 3) := by decide +kernel
theorem dX11_finishes_129 : decode cX11_finishes 129 = .ok (.bipush 12, 2) := by decide +kernel
theorem dX11_finishes_131 : decode cX11_finishes 131 = .ok (.iload 4, 2) := by decide +kernel
theorem dX11_finishes_133 : decode cX11_finishes 133 = .ok (.imul, 1) := by decide +kernel
theorem dX11_finishes_134 : decode cX11_finishes 134 = .ok (.iload 5, 2) := by decide +kernel
theorem dX11_finishes_136 : decode cX11_finishes 136 = .ok (.iadd, 1) := by decide +kernel
theorem dX11_finishes_137 : decode cX11_finishes 137 = .ok (.iload 5, 2) := by decide +kernel
theorem dX11_finishes_139 : decode cX11_finishes 139 = .ok (.iload_n 3, 1) := by decide +kernel
theorem dX11_finishes_140 : decode cX11_finishes 140 = .ok (.iadd, 1) := by decide +kernel
theorem dX11_finishes_141 : decode cX11_finishes 141 = .ok (.iload_n 1, 1) := by decide +kernel
theorem dX11_finishes_142 : decode cX11_finishes 142 = .ok (.iload 4, 2) := by decide +kernel
theorem dX11_finishes_144 : decode cX11_finishes 144 = .ok (.isub, 1) := by decide +kernel
theorem dX11_finishes_145 : decode cX11_finishes 145 = .ok (.iconst 1, 1) := by decide +kernel
theorem dX11_finishes_146 : decode cX11_finishes 146 = .ok (.iadd, 1) := by decide +kernel
theorem dX11_finishes_147 : decode cX11_finishes 147 = .ok (.if_icmp .gt 8, 3) := by decide +kernel
theorem dX11_finishes_150 : decode cX11_finishes 150 = .ok (.lload 6, 2) := by decide +kernel
theorem dX11_finishes_152 : decode cX11_finishes 152 = .ok (.goto 4, 3) := by decide +kernel
theorem dX11_finishes_155 : decode cX11_finishes 155 = .ok (.lconst 0, 1) := by decide +kernel
theorem dX11_finishes_156 : decode cX11_finishes 156 = .ok (.lastore, 1) := by decide +kernel
theorem dX11_finishes_157 : decode cX11_finishes 157 = .ok (.iinc 5 1, 3) := by decide +kernel
theorem dX11_finishes_160 : decode cX11_finishes 160 = .ok (.goto (-97), 3) := by decide +kernel
theorem dX11_finishes_163 : decode cX11_finishes 163 = .ok (.iinc 4 (-1), 3) := by decide +kernel
theorem dX11_finishes_166 : decode cX11_finishes 166 = .ok (.goto (-122), 3) := by decide +kernel
theorem dX11_finishes_169 : decode cX11_finishes 169 = .ok (.aload_n 0, 1) := by decide +kernel
theorem dX11_finishes_170 : decode cX11_finishes 170 = .ok (.getfield 36, 3) := by decide +kernel
theorem dX11_finishes_173 : decode cX11_finishes 173 = .ok (.bipush 12, 2) := by decide +kernel
theorem dX11_finishes_175 : decode cX11_finishes 175 = .ok (.iload_n 2, 1) := by decide +kernel
theorem dX11_finishes_176 : decode cX11_finishes 176 = .ok (.iadd, 1) := by decide +kernel
theorem dX11_finishes_177 : decode cX11_finishes 177 = .ok (.laload, 1) := by decide +kernel
theorem dX11_finishes_178 : decode cX11_finishes 178 = .ok (.lreturn, 1) := by decide +kernel
theorem dX11_clearTold_0 : decode cX11_clearTold 0 = .ok (.iconst 0, 1) := by decide +kernel
theorem dX11_clearTold_1 : decode cX11_clearTold 1 = .ok (.istore_n 1, 1) := by decide +kernel
theorem dX11_clearTold_2 : decode cX11_clearTold 2 = .ok (.iload_n 1, 1) := by decide +kernel
theorem dX11_clearTold_3 : decode cX11_clearTold 3 = .ok (.bipush 12, 2) := by decide +kernel
theorem dX11_clearTold_5 : decode cX11_clearTold 5 = .ok (.if_icmp .ge 16, 3) := by decide +kernel
theorem dX11_clearTold_8 : decode cX11_clearTold 8 = .ok (.aload_n 0, 1) := by decide +kernel
theorem dX11_clearTold_9 : decode cX11_clearTold 9 = .ok (.getfield 33, 3) := by decide +kernel
theorem dX11_clearTold_12 : decode cX11_clearTold 12 = .ok (.iload_n 1, 1) := by decide +kernel
theorem dX11_clearTold_13 : decode cX11_clearTold 13 = .ok (.iconst 0, 1) := by decide +kernel
theorem dX11_clearTold_14 : decode cX11_clearTold 14 = .ok (.iastore, 1) := by decide +kernel
theorem dX11_clearTold_15 : decode cX11_clearTold 15 = .ok (.iinc 1 1, 3) := by decide +kernel
theorem dX11_clearTold_18 : decode cX11_clearTold 18 = .ok (.goto (-16), 3) := by decide +kernel
theorem dX11_clearTold_21 : decode cX11_clearTold 21 = .ok (.return_, 1) := by decide +kernel
theorem dX11_rowsOf_0 : decode cX11_rowsOf 0 = .ok (.aload_n 0, 1) := by decide +kernel
theorem dX11_rowsOf_1 : decode cX11_rowsOf 1 = .ok (.invokevirtual 152, 3) := by decide +kernel
theorem dX11_rowsOf_4 : decode cX11_rowsOf 4 = .ok (.aload_n 0, 1) := by decide +kernel
theorem dX11_rowsOf_5 : decode cX11_rowsOf 5 = .ok (.aload_n 0, 1) := by decide +kernel
theorem dX11_rowsOf_6 : decode cX11_rowsOf 6 = .ok (.getfield 7, 3) := by decide +kernel
theorem dX11_rowsOf_9 : decode cX11_rowsOf 9 = .ok (.iload_n 1, 1) := by decide +kernel
theorem dX11_rowsOf_10 : decode cX11_rowsOf 10 = .ok (.invokevirtual 155, 3) := by decide +kernel
theorem dX11_rowsOf_13 : decode cX11_rowsOf 13 = .ok (.lreturn, 1) := by decide +kernel
theorem dX11_rows_0 : decode cX11_rows 0 = .ok (.iload_n 1, 1) := by decide +kernel
theorem dX11_rows_1 : decode cX11_rows 1 = .ok (.i2l, 1) := by decide +kernel
theorem dX11_rows_2 : decode cX11_rows 2 = .ok (.lconst 0, 1) := by decide +kernel
theorem dX11_rows_3 : decode cX11_rows 3 = .ok (.aload_n 0, 1) := by decide +kernel
theorem dX11_rows_4 : decode cX11_rows 4 = .ok (.getfield 7, 3) := by decide +kernel
theorem dX11_rows_7 : decode cX11_rows 7 = .ok (.i2l, 1) := by decide +kernel
theorem dX11_rows_8 : decode cX11_rows 8 = .ok (.invokestatic 96, 3) := by decide +kernel
theorem dX11_rows_11 : decode cX11_rows 11 = .ok (.ifCond .eq 11, 3) := by decide +kernel
theorem dX11_rows_14 : decode cX11_rows 14 = .ok (.aload_n 0, 1) := by decide +kernel
theorem dX11_rows_15 : decode cX11_rows 15 = .ok (.iload_n 1, 1) := by decide +kernel
theorem dX11_rows_16 : decode cX11_rows 16 = .ok (.invokevirtual 158, 3) := by decide +kernel
theorem dX11_rows_19 : decode cX11_rows 19 = .ok (.goto 6, 3) := by decide +kernel
theorem dX11_rows_22 : decode cX11_rows 22 = .ok (.ldc2_w 162, 3) := by decide +kernel
theorem dX11_rows_25 : decode cX11_rows 25 = .ok (.lreturn, 1) := by decide +kernel
theorem dX11_isWell_0 : decode cX11_isWell 0 = .ok (.aload_n 0, 1) := by decide +kernel
theorem dX11_isWell_1 : decode cX11_isWell 1 = .ok (.invokevirtual 164, 3) := by decide +kernel
theorem dX11_isWell_4 : decode cX11_isWell 4 = .ok (.ifCond .eq 14, 3) := by decide +kernel
theorem dX11_isWell_7 : decode cX11_isWell 7 = .ok (.aload_n 0, 1) := by decide +kernel
theorem dX11_isWell_8 : decode cX11_isWell 8 = .ok (.invokevirtual 139, 3) := by decide +kernel
theorem dX11_isWell_11 : decode cX11_isWell 11 = .ok (.ifCond .eq 7, 3) := by decide +kernel
theorem dX11_isWell_14 : decode cX11_isWell 14 = .ok (.iconst 1, 1) := by decide +kernel
theorem dX11_isWell_15 : decode cX11_isWell 15 = .ok (.goto 4, 3) := by decide +kernel
theorem dX11_isWell_18 : decode cX11_isWell 18 = .ok (.iconst 0, 1) := by decide +kernel
theorem dX11_isWell_19 : decode cX11_isWell 19 = .ok (.ireturn, 1) := by decide +kernel
theorem dX11_rankOf_0 : decode cX11_rankOf 0 = .ok (.aload_n 0, 1) := by decide +kernel
theorem dX11_rankOf_1 : decode cX11_rankOf 1 = .ok (.invokevirtual 152, 3) := by decide +kernel
theorem dX11_rankOf_4 : decode cX11_rankOf 4 = .ok (.lconst 0, 1) := by decide +kernel
theorem dX11_rankOf_5 : decode cX11_rankOf 5 = .ok (.lstore_n 1, 1) := by decide +kernel
theorem dX11_rankOf_6 : decode cX11_rankOf 6 = .ok (.iconst 1, 1) := by decide +kernel
theorem dX11_rankOf_7 : decode cX11_rankOf 7 = .ok (.istore_n 3, 1) := by decide +kernel
theorem dX11_rankOf_8 : decode cX11_rankOf 8 = .ok (.iload_n 3, 1) := by decide +kernel
theorem dX11_rankOf_9 : decode cX11_rankOf 9 = .ok (.aload_n 0, 1) := by decide +kernel
theorem dX11_rankOf_10 : decode cX11_rankOf 10 = .ok (.getfield 110, 3) := by decide +kernel
theorem dX11_rankOf_13 : decode cX11_rankOf 13 = .ok (.if_icmp .gt 83, 3) := by decide +kernel
theorem dX11_rankOf_16 : decode cX11_rankOf 16 = .ok (.iconst 1, 1) := by decide +kernel
theorem dX11_rankOf_17 : decode cX11_rankOf 17 = .ok (.istore 4, 2) := by decide +kernel
theorem dX11_rankOf_19 : decode cX11_rankOf 19 = .ok (.iload 4, 2) := by decide +kernel
theorem dX11_rankOf_21 : decode cX11_rankOf 21 = .ok (.aload_n 0, 1) := by decide +kernel
theorem dX11_rankOf_22 : decode cX11_rankOf 22 = .ok (.getfield 13, 3) := by decide +kernel
theorem dX11_rankOf_25 : decode cX11_rankOf 25 = .ok (.iload_n 3, 1) := by decide +kernel
theorem dX11_rankOf_26 : decode cX11_rankOf 26 = .ok (.iaload, 1) := by decide +kernel
theorem dX11_rankOf_27 : decode cX11_rankOf 27 = .ok (.if_icmp .ge 48, 3) := by decide +kernel
theorem dX11_rankOf_30 : decode cX11_rankOf 30 = .ok (.aload_n 0, 1) := by decide +kernel
theorem dX11_rankOf_31 : decode cX11_rankOf 31 = .ok (.getfield 33, 3) := by decide +kernel
theorem dX11_rankOf_34 : decode cX11_rankOf 34 = .ok (.iload 4, 2) := by decide +kernel
theorem dX11_rankOf_36 : decode cX11_rankOf 36 = .ok (.dup2, 1) := by decide +kernel
theorem dX11_rankOf_37 : decode cX11_rankOf 37 = .ok (.iaload, 1) := by decide +kernel
theorem dX11_rankOf_38 : decode cX11_rankOf 38 = .ok (.iconst 1, 1) := by decide +kernel
theorem dX11_rankOf_39 : decode cX11_rankOf 39 = .ok (.iadd, 1) := by decide +kernel
theorem dX11_rankOf_40 : decode cX11_rankOf 40 = .ok (.iastore, 1) := by decide +kernel
theorem dX11_rankOf_41 : decode cX11_rankOf 41 = .ok (.lload_n 1, 1) := by decide +kernel
theorem dX11_rankOf_42 : decode cX11_rankOf 42 = .ok (.aload_n 0, 1) := by decide +kernel
theorem dX11_rankOf_43 : decode cX11_rankOf 43 = .ok (.aload_n 0, 1) := by decide +kernel
theorem dX11_rankOf_44 : decode cX11_rankOf 44 = .ok (.getfield 7, 3) := by decide +kernel
theorem dX11_rankOf_47 : decode cX11_rankOf 47 = .ok (.aload_n 0, 1) := by decide +kernel
theorem dX11_rankOf_48 : decode cX11_rankOf 48 = .ok (.getfield 110, 3) := by decide +kernel
theorem dX11_rankOf_51 : decode cX11_rankOf 51 = .ok (.iload_n 3, 1) := by decide +kernel
theorem dX11_rankOf_52 : decode cX11_rankOf 52 = .ok (.isub, 1) := by decide +kernel
theorem dX11_rankOf_53 : decode cX11_rankOf 53 = .ok (.invokevirtual 155, 3) := by decide +kernel
theorem dX11_rankOf_56 : decode cX11_rankOf 56 = .ok (.ladd, 1) := by decide +kernel
theorem dX11_rankOf_57 : decode cX11_rankOf 57 = .ok (.lstore_n 1, 1) := by decide +kernel
theorem dX11_rankOf_58 : decode cX11_rankOf 58 = .ok (.aload_n 0, 1) := by decide +kernel
theorem dX11_rankOf_59 : decode cX11_rankOf 59 = .ok (.getfield 33, 3) := by decide +kernel
theorem dX11_rankOf_62 : decode cX11_rankOf 62 = .ok (.iload 4, 2) := by decide +kernel
theorem dX11_rankOf_64 : decode cX11_rankOf 64 = .ok (.dup2, 1) := by decide +kernel
theorem dX11_rankOf_65 : decode cX11_rankOf 65 = .ok (.iaload, 1) := by decide +kernel
theorem dX11_rankOf_66 : decode cX11_rankOf 66 = .ok (.iconst 1, 1) := by decide +kernel
theorem dX11_rankOf_67 : decode cX11_rankOf 67 = .ok (.isub, 1) := by decide +kernel
theorem dX11_rankOf_68 : decode cX11_rankOf 68 = .ok (.iastore, 1) := by decide +kernel
theorem dX11_rankOf_69 : decode cX11_rankOf 69 = .ok (.iinc 4 1, 3) := by decide +kernel
theorem dX11_rankOf_72 : decode cX11_rankOf 72 = .ok (.goto (-53), 3) := by decide +kernel
theorem dX11_rankOf_75 : decode cX11_rankOf 75 = .ok (.aload_n 0, 1) := by decide +kernel
theorem dX11_rankOf_76 : decode cX11_rankOf 76 = .ok (.getfield 33, 3) := by decide +kernel
theorem dX11_rankOf_79 : decode cX11_rankOf 79 = .ok (.aload_n 0, 1) := by decide +kernel
theorem dX11_rankOf_80 : decode cX11_rankOf 80 = .ok (.getfield 13, 3) := by decide +kernel
theorem dX11_rankOf_83 : decode cX11_rankOf 83 = .ok (.iload_n 3, 1) := by decide +kernel
theorem dX11_rankOf_84 : decode cX11_rankOf 84 = .ok (.iaload, 1) := by decide +kernel
theorem dX11_rankOf_85 : decode cX11_rankOf 85 = .ok (.dup2, 1) := by decide +kernel
theorem dX11_rankOf_86 : decode cX11_rankOf 86 = .ok (.iaload, 1) := by decide +kernel
theorem dX11_rankOf_87 : decode cX11_rankOf 87 = .ok (.iconst 1, 1) := by decide +kernel
theorem dX11_rankOf_88 : decode cX11_rankOf 88 = .ok (.iadd, 1) := by decide +kernel
theorem dX11_rankOf_89 : decode cX11_rankOf 89 = .ok (.iastore, 1) := by decide +kernel
theorem dX11_rankOf_90 : decode cX11_rankOf 90 = .ok (.iinc 3 1, 3) := by decide +kernel
theorem dX11_rankOf_93 : decode cX11_rankOf 93 = .ok (.goto (-85), 3) := by decide +kernel
theorem dX11_rankOf_96 : decode cX11_rankOf 96 = .ok (.lload_n 1, 1) := by decide +kernel
theorem dX11_rankOf_97 : decode cX11_rankOf 97 = .ok (.lreturn, 1) := by decide +kernel
theorem dX11_rank_0 : decode cX11_rank 0 = .ok (.aload_n 0, 1) := by decide +kernel
theorem dX11_rank_1 : decode cX11_rank 1 = .ok (.invokevirtual 167, 3) := by decide +kernel
theorem dX11_rank_4 : decode cX11_rank 4 = .ok (.ifCond .eq 10, 3) := by decide +kernel
theorem dX11_rank_7 : decode cX11_rank 7 = .ok (.aload_n 0, 1) := by decide +kernel
theorem dX11_rank_8 : decode cX11_rank 8 = .ok (.invokevirtual 170, 3) := by decide +kernel
theorem dX11_rank_11 : decode cX11_rank 11 = .ok (.goto 6, 3) := by decide +kernel
theorem dX11_rank_14 : decode cX11_rank 14 = .ok (.ldc2_w 174, 3) := by decide +kernel
theorem dX11_rank_17 : decode cX11_rank 17 = .ok (.lreturn, 1) := by decide +kernel
theorem dX11_fromRank_0 : decode cX11_fromRank 0 = .ok (.aload_n 0, 1) := by decide +kernel
theorem dX11_fromRank_1 : decode cX11_fromRank 1 = .ok (.invokevirtual 152, 3) := by decide +kernel
theorem dX11_fromRank_4 : decode cX11_fromRank 4 = .ok (.aload_n 0, 1) := by decide +kernel
theorem dX11_fromRank_5 : decode cX11_fromRank 5 = .ok (.iconst 0, 1) := by decide +kernel
theorem dX11_fromRank_6 : decode cX11_fromRank 6 = .ok (.putfield 110, 3) := by decide +kernel
theorem dX11_fromRank_9 : decode cX11_fromRank 9 = .ok (.lload_n 2, 1) := by decide +kernel
theorem dX11_fromRank_10 : decode cX11_fromRank 10 = .ok (.lstore 4, 2) := by decide +kernel
theorem dX11_fromRank_12 : decode cX11_fromRank 12 = .ok (.iconst 1, 1) := by decide +kernel
theorem dX11_fromRank_13 : decode cX11_fromRank 13 = .ok (.istore 6, 2) := by decide +kernel
theorem dX11_fromRank_15 : decode cX11_fromRank 15 = .ok (.iload 6, 2) := by decide +kernel
theorem dX11_fromRank_17 : decode cX11_fromRank 17 = .ok (.iload_n 1, 1) := by decide +kernel
theorem dX11_fromRank_18 : decode cX11_fromRank 18 = .ok (.if_icmp .gt 99, 3) := by decide +kernel
theorem dX11_fromRank_21 : decode cX11_fromRank 21 = .ok (.iconst 1, 1) := by decide +kernel
theorem dX11_fromRank_22 : decode cX11_fromRank 22 = .ok (.istore 7, 2) := by decide +kernel
theorem dX11_fromRank_24 : decode cX11_fromRank 24 = .ok (.aload_n 0, 1) := by decide +kernel
theorem dX11_fromRank_25 : decode cX11_fromRank 25 = .ok (.getfield 33, 3) := by decide +kernel
theorem dX11_fromRank_28 : decode cX11_fromRank 28 = .ok (.iconst 1, 1) := by decide +kernel
theorem dX11_fromRank_29 : decode cX11_fromRank 29 = .ok (.dup2, 1) := by decide +kernel
theorem dX11_fromRank_30 : decode cX11_fromRank 30 = .ok (.iaload, 1) := by decide +kernel
theorem dX11_fromRank_31 : decode cX11_fromRank 31 = .ok (.iconst 1, 1) := by decide +kernel
theorem dX11_fromRank_32 : decode cX11_fromRank 32 = .ok (.iadd, 1) := by decide +kernel
theorem dX11_fromRank_33 : decode cX11_fromRank 33 = .ok (.iastore, 1) := by decide +kernel
theorem dX11_fromRank_34 : decode cX11_fromRank 34 = .ok (.aload_n 0, 1) := by decide +kernel
theorem dX11_fromRank_35 : decode cX11_fromRank 35 = .ok (.aload_n 0, 1) := by decide +kernel
theorem dX11_fromRank_36 : decode cX11_fromRank 36 = .ok (.getfield 7, 3) := by decide +kernel
theorem dX11_fromRank_39 : decode cX11_fromRank 39 = .ok (.iload_n 1, 1) := by decide +kernel
theorem dX11_fromRank_40 : decode cX11_fromRank 40 = .ok (.iload 6, 2) := by decide +kernel
theorem dX11_fromRank_42 : decode cX11_fromRank 42 = .ok (.isub, 1) := by decide +kernel
theorem dX11_fromRank_43 : decode cX11_fromRank 43 = .ok (.invokevirtual 155, 3) := by decide +kernel
theorem dX11_fromRank_46 : decode cX11_fromRank 46 = .ok (.lstore 8, 2) := by decide +kernel
theorem dX11_fromRank_48 : decode cX11_fromRank 48 = .ok (.lload 4, 2) := by decide +kernel
theorem dX11_fromRank_50 : decode cX11_fromRank 50 = .ok (.lload 8, 2) := by decide +kernel
theorem dX11_fromRank_52 : decode cX11_fromRank 52 = .ok (.lcmp, 1) := by decide +kernel
theorem dX11_fromRank_53 : decode cX11_fromRank 53 = .ok (.ifCond .lt 52, 3) := by decide +kernel
theorem dX11_fromRank_56 : decode cX11_fromRank 56 = .ok (.lload 4, 2) := by decide +kernel
theorem dX11_fromRank_58 : decode cX11_fromRank 58 = .ok (.lload 8, 2) := by decide +kernel
theorem dX11_fromRank_60 : decode cX11_fromRank 60 = .ok (.lsub, 1) := by decide +kernel
theorem dX11_fromRank_61 : decode cX11_fromRank 61 = .ok (.lstore 4, 2) := by decide +kernel
theorem dX11_fromRank_63 : decode cX11_fromRank 63 = .ok (.aload_n 0, 1) := by decide +kernel
theorem dX11_fromRank_64 : decode cX11_fromRank 64 = .ok (.getfield 33, 3) := by decide +kernel
theorem dX11_fromRank_67 : decode cX11_fromRank 67 = .ok (.iload 7, 2) := by decide +kernel
theorem dX11_fromRank_69 : decode cX11_fromRank 69 = .ok (.dup2, 1) := by decide +kernel
theorem dX11_fromRank_70 : decode cX11_fromRank 70 = .ok (.iaload, 1) := by decide +kernel
theorem dX11_fromRank_71 : decode cX11_fromRank 71 = .ok (.iconst 1, 1) := by decide +kernel
theorem dX11_fromRank_72 : decode cX11_fromRank 72 = .ok (.isub, 1) := by decide +kernel
theorem dX11_fromRank_73 : decode cX11_fromRank 73 = .ok (.iastore, 1) := by decide +kernel
theorem dX11_fromRank_74 : decode cX11_fromRank 74 = .ok (.iinc 7 1, 3) := by decide +kernel
theorem dX11_fromRank_77 : decode cX11_fromRank 77 = .ok (.aload_n 0, 1) := by decide +kernel
theorem dX11_fromRank_78 : decode cX11_fromRank 78 = .ok (.getfield 33, 3) := by decide +kernel
theorem dX11_fromRank_81 : decode cX11_fromRank 81 = .ok (.iload 7, 2) := by decide +kernel
theorem dX11_fromRank_83 : decode cX11_fromRank 83 = .ok (.dup2, 1) := by decide +kernel
theorem dX11_fromRank_84 : decode cX11_fromRank 84 = .ok (.iaload, 1) := by decide +kernel
theorem dX11_fromRank_85 : decode cX11_fromRank 85 = .ok (.iconst 1, 1) := by decide +kernel
theorem dX11_fromRank_86 : decode cX11_fromRank 86 = .ok (.iadd, 1) := by decide +kernel
theorem dX11_fromRank_87 : decode cX11_fromRank 87 = .ok (.iastore, 1) := by decide +kernel
theorem dX11_fromRank_88 : decode cX11_fromRank 88 = .ok (.aload_n 0, 1) := by decide +kernel
theorem dX11_fromRank_89 : decode cX11_fromRank 89 = .ok (.aload_n 0, 1) := by decide +kernel
theorem dX11_fromRank_90 : decode cX11_fromRank 90 = .ok (.getfield 7, 3) := by decide +kernel
theorem dX11_fromRank_93 : decode cX11_fromRank 93 = .ok (.iload_n 1, 1) := by decide +kernel
theorem dX11_fromRank_94 : decode cX11_fromRank 94 = .ok (.iload 6, 2) := by decide +kernel
theorem dX11_fromRank_96 : decode cX11_fromRank 96 = .ok (.isub, 1) := by decide +kernel
theorem dX11_fromRank_97 : decode cX11_fromRank 97 = .ok (.invokevirtual 155, 3) := by decide +kernel
theorem dX11_fromRank_100 : decode cX11_fromRank 100 = .ok (.lstore 8, 2) := by decide +kernel
theorem dX11_fromRank_102 : decode cX11_fromRank 102 = .ok (.goto (-54), 3) := by decide +kernel
theorem dX11_fromRank_105 : decode cX11_fromRank 105 = .ok (.aload_n 0, 1) := by decide +kernel
theorem dX11_fromRank_106 : decode cX11_fromRank 106 = .ok (.iload 7, 2) := by decide +kernel
theorem dX11_fromRank_108 : decode cX11_fromRank 108 = .ok (.invokevirtual 113, 3) := by decide +kernel
theorem dX11_fromRank_111 : decode cX11_fromRank 111 = .ok (.iinc 6 1, 3) := by decide +kernel
theorem dX11_fromRank_114 : decode cX11_fromRank 114 = .ok (.goto (-99), 3) := by decide +kernel
theorem dX11_fromRank_117 : decode cX11_fromRank 117 = .ok (.return_, 1) := by decide +kernel
theorem dX11_unrank_0 : decode cX11_unrank 0 = .ok (.iload_n 1, 1) := by decide +kernel
theorem dX11_unrank_1 : decode cX11_unrank 1 = .ok (.i2l, 1) := by decide +kernel
theorem dX11_unrank_2 : decode cX11_unrank 2 = .ok (.lconst 0, 1) := by decide +kernel
theorem dX11_unrank_3 : decode cX11_unrank 3 = .ok (.aload_n 0, 1) := by decide +kernel
theorem dX11_unrank_4 : decode cX11_unrank 4 = .ok (.getfield 7, 3) := by decide +kernel
theorem dX11_unrank_7 : decode cX11_unrank 7 = .ok (.i2l, 1) := by decide +kernel
theorem dX11_unrank_8 : decode cX11_unrank 8 = .ok (.invokestatic 96, 3) := by decide +kernel
theorem dX11_unrank_11 : decode cX11_unrank 11 = .ok (.ifCond .eq 19, 3) := by decide +kernel
theorem dX11_unrank_14 : decode cX11_unrank 14 = .ok (.lload_n 2, 1) := by decide +kernel
theorem dX11_unrank_15 : decode cX11_unrank 15 = .ok (.lconst 0, 1) := by decide +kernel
theorem dX11_unrank_16 : decode cX11_unrank 16 = .ok (.lcmp, 1) := by decide +kernel
theorem dX11_unrank_17 : decode cX11_unrank 17 = .ok (.ifCond .lt 13, 3) := by decide +kernel
theorem dX11_unrank_20 : decode cX11_unrank 20 = .ok (.lload_n 2, 1) := by decide +kernel
theorem dX11_unrank_21 : decode cX11_unrank 21 = .ok (.aload_n 0, 1) := by decide +kernel
theorem dX11_unrank_22 : decode cX11_unrank 22 = .ok (.iload_n 1, 1) := by decide +kernel
theorem dX11_unrank_23 : decode cX11_unrank 23 = .ok (.invokevirtual 158, 3) := by decide +kernel
theorem dX11_unrank_26 : decode cX11_unrank 26 = .ok (.lcmp, 1) := by decide +kernel
theorem dX11_unrank_27 : decode cX11_unrank 27 = .ok (.ifCond .lt 5, 3) := by decide +kernel
theorem dX11_unrank_30 : decode cX11_unrank 30 = .ok (.iconst (-1), 1) := by decide +kernel
theorem dX11_unrank_31 : decode cX11_unrank 31 = .ok (.ireturn, 1) := by decide +kernel
theorem dX11_unrank_32 : decode cX11_unrank 32 = .ok (.aload_n 0, 1) := by decide +kernel
theorem dX11_unrank_33 : decode cX11_unrank 33 = .ok (.getfield 104, 3) := by decide +kernel
theorem dX11_unrank_36 : decode cX11_unrank 36 = .ok (.ifCond .eq 6, 3) := by decide +kernel
theorem dX11_unrank_39 : decode cX11_unrank 39 = .ok (.bipush (-2), 2) := by decide +kernel
theorem dX11_unrank_41 : decode cX11_unrank 41 = .ok (.ireturn, 1) := by decide +kernel
theorem dX11_unrank_42 : decode cX11_unrank 42 = .ok (.aload_n 0, 1) := by decide +kernel
theorem dX11_unrank_43 : decode cX11_unrank 43 = .ok (.iload_n 1, 1) := by decide +kernel
theorem dX11_unrank_44 : decode cX11_unrank 44 = .ok (.lload_n 2, 1) := by decide +kernel
theorem dX11_unrank_45 : decode cX11_unrank 45 = .ok (.invokevirtual 176, 3) := by decide +kernel
theorem dX11_unrank_48 : decode cX11_unrank 48 = .ok (.iload_n 1, 1) := by decide +kernel
theorem dX11_unrank_49 : decode cX11_unrank 49 = .ok (.ireturn, 1) := by decide +kernel
theorem dX11_next_0 : decode cX11_next 0 = .ok (.aload_n 0, 1) := by decide +kernel
theorem dX11_next_1 : decode cX11_next 1 = .ok (.invokevirtual 167, 3) := by decide +kernel
theorem dX11_next_4 : decode cX11_next 4 = .ok (.ifCond .ne 6, 3) := by decide +kernel
theorem dX11_next_7 : decode cX11_next 7 = .ok (.bipush (-2), 2) := by decide +kernel
theorem dX11_next_9 : decode cX11_next 9 = .ok (.ireturn, 1) := by decide +kernel
theorem dX11_next_10 : decode cX11_next 10 = .ok (.aload_n 0, 1) := by decide +kernel
theorem dX11_next_11 : decode cX11_next 11 = .ok (.invokevirtual 170, 3) := by decide +kernel
theorem dX11_next_14 : decode cX11_next 14 = .ok (.lconst 1, 1) := by decide +kernel
theorem dX11_next_15 : decode cX11_next 15 = .ok (.ladd, 1) := by decide +kernel
theorem dX11_next_16 : decode cX11_next 16 = .ok (.lstore_n 1, 1) := by decide +kernel
theorem dX11_next_17 : decode cX11_next 17 = .ok (.lload_n 1, 1) := by decide +kernel
theorem dX11_next_18 : decode cX11_next 18 = .ok (.aload_n 0, 1) := by decide +kernel
theorem dX11_next_19 : decode cX11_next 19 = .ok (.aload_n 0, 1) := by decide +kernel
theorem dX11_next_20 : decode cX11_next 20 = .ok (.getfield 110, 3) := by decide +kernel
theorem dX11_next_23 : decode cX11_next 23 = .ok (.invokevirtual 158, 3) := by decide +kernel
theorem dX11_next_26 : decode cX11_next 26 = .ok (.lcmp, 1) := by decide +kernel
theorem dX11_next_27 : decode cX11_next 27 = .ok (.ifCond .ne 6, 3) := by decide +kernel
theorem dX11_next_30 : decode cX11_next 30 = .ok (.bipush (-4), 2) := by decide +kernel
theorem dX11_next_32 : decode cX11_next 32 = .ok (.ireturn, 1) := by decide +kernel
theorem dX11_next_33 : decode cX11_next 33 = .ok (.aload_n 0, 1) := by decide +kernel
theorem dX11_next_34 : decode cX11_next 34 = .ok (.aload_n 0, 1) := by decide +kernel
theorem dX11_next_35 : decode cX11_next 35 = .ok (.getfield 110, 3) := by decide +kernel
theorem dX11_next_38 : decode cX11_next 38 = .ok (.lload_n 1, 1) := by decide +kernel
theorem dX11_next_39 : decode cX11_next 39 = .ok (.invokevirtual 176, 3) := by decide +kernel
theorem dX11_next_42 : decode cX11_next 42 = .ok (.iconst 1, 1) := by decide +kernel
theorem dX11_next_43 : decode cX11_next 43 = .ok (.ireturn, 1) := by decide +kernel
theorem dX11_like_0 : decode cX11_like 0 = .ok (.aload_n 0, 1) := by decide +kernel
theorem dX11_like_1 : decode cX11_like 1 = .ok (.invokevirtual 167, 3) := by decide +kernel
theorem dX11_like_4 : decode cX11_like 4 = .ok (.ifCond .ne 7, 3) := by decide +kernel
theorem dX11_like_7 : decode cX11_like 7 = .ok (.ldc2_w 174, 3) := by decide +kernel
theorem dX11_like_10 : decode cX11_like 10 = .ok (.lreturn, 1) := by decide +kernel
theorem dX11_like_11 : decode cX11_like 11 = .ok (.lconst 1, 1) := by decide +kernel
theorem dX11_like_12 : decode cX11_like 12 = .ok (.lstore_n 1, 1) := by decide +kernel
theorem dX11_like_13 : decode cX11_like 13 = .ok (.iconst 1, 1) := by decide +kernel
theorem dX11_like_14 : decode cX11_like 14 = .ok (.istore_n 3, 1) := by decide +kernel
theorem dX11_like_15 : decode cX11_like 15 = .ok (.iload_n 3, 1) := by decide +kernel
theorem dX11_like_16 : decode cX11_like 16 = .ok (.aload_n 0, 1) := by decide +kernel
theorem dX11_like_17 : decode cX11_like 17 = .ok (.getfield 110, 3) := by decide +kernel
theorem dX11_like_20 : decode cX11_like 20 = .ok (.if_icmp .gt 62, 3) := by decide +kernel
theorem dX11_like_23 : decode cX11_like 23 = .ok (.iconst 0, 1) := by decide +kernel
theorem dX11_like_24 : decode cX11_like 24 = .ok (.istore 4, 2) := by decide +kernel
theorem dX11_like_26 : decode cX11_like 26 = .ok (.aload_n 0, 1) := by decide +kernel
theorem dX11_like_27 : decode cX11_like 27 = .ok (.getfield 20, 3) := by decide +kernel
theorem dX11_like_30 : decode cX11_like 30 = .ok (.iload_n 3, 1) := by decide +kernel
theorem dX11_like_31 : decode cX11_like 31 = .ok (.iaload, 1) := by decide +kernel
theorem dX11_like_32 : decode cX11_like 32 = .ok (.istore 5, 2) := by decide +kernel
theorem dX11_like_34 : decode cX11_like 34 = .ok (.iload 5, 2) := by decide +kernel
theorem dX11_like_36 : decode cX11_like 36 = .ok (.iconst 1, 1) := by decide +kernel
theorem dX11_like_37 : decode cX11_like 37 = .ok (.if_icmp .lt 33, 3) := by decide +kernel
theorem dX11_like_40 : decode cX11_like 40 = .ok (.aload_n 0, 1) := by decide +kernel
theorem dX11_like_41 : decode cX11_like 41 = .ok (.getfield 23, 3) := by decide +kernel
theorem dX11_like_44 : decode cX11_like 44 = .ok (.iload 5, 2) := by decide +kernel
theorem dX11_like_46 : decode cX11_like 46 = .ok (.iaload, 1) := by decide +kernel
theorem dX11_like_47 : decode cX11_like 47 = .ok (.ifCond .eq 23, 3) := by decide +kernel
theorem dX11_like_50 : decode cX11_like 50 = .ok (.aload_n 0, 1) := by decide +kernel
theorem dX11_like_51 : decode cX11_like 51 = .ok (.getfield 23, 3) := by decide +kernel
theorem dX11_like_54 : decode cX11_like 54 = .ok (.iload 5, 2) := by decide +kernel
theorem dX11_like_56 : decode cX11_like 56 = .ok (.iaload, 1) := by decide +kernel
theorem dX11_like_57 : decode cX11_like 57 = .ok (.iload_n 3, 1) := by decide +kernel
theorem dX11_like_58 : decode cX11_like 58 = .ok (.if_icmp .gt 12, 3) := by decide +kernel
theorem dX11_like_61 : decode cX11_like 61 = .ok (.iinc 4 1, 3) := by decide +kernel
theorem dX11_like_64 : decode cX11_like 64 = .ok (.iinc 5 (-1), 3) := by decide +kernel
theorem dX11_like_67 : decode cX11_like 67 = .ok (.goto (-33), 3) := by decide +kernel
theorem dX11_like_70 : decode cX11_like 70 = .ok (.lload_n 1, 1) := by decide +kernel
theorem dX11_like_71 : decode cX11_like 71 = .ok (.iload 4, 2) := by decide +kernel
theorem dX11_like_73 : decode cX11_like 73 = .ok (.i2l, 1) := by decide +kernel
theorem dX11_like_74 : decode cX11_like 74 = .ok (.lmul, 1) := by decide +kernel
theorem dX11_like_75 : decode cX11_like 75 = .ok (.lstore_n 1, 1) := by decide +kernel
theorem dX11_like_76 : decode cX11_like 76 = .ok (.iinc 3 1, 3) := by decide +kernel
theorem dX11_like_79 : decode cX11_like 79 = .ok (.goto (-64), 3) := by decide +kernel
theorem dX11_like_82 : decode cX11_like 82 = .ok (.lload_n 1, 1) := by decide +kernel
theorem dX11_like_83 : decode cX11_like 83 = .ok (.lreturn, 1) := by decide +kernel
theorem dX11_orders_0 : decode cX11_orders 0 = .ok (.aload_n 0, 1) := by decide +kernel
theorem dX11_orders_1 : decode cX11_orders 1 = .ok (.getfield 104, 3) := by decide +kernel
theorem dX11_orders_4 : decode cX11_orders 4 = .ok (.ifCond .eq 7, 3) := by decide +kernel
theorem dX11_orders_7 : decode cX11_orders 7 = .ok (.ldc2_w 174, 3) := by decide +kernel
theorem dX11_orders_10 : decode cX11_orders 10 = .ok (.lreturn, 1) := by decide +kernel
theorem dX11_orders_11 : decode cX11_orders 11 = .ok (.lconst 1, 1) := by decide +kernel
theorem dX11_orders_12 : decode cX11_orders 12 = .ok (.lstore_n 1, 1) := by decide +kernel
theorem dX11_orders_13 : decode cX11_orders 13 = .ok (.aload_n 0, 1) := by decide +kernel
theorem dX11_orders_14 : decode cX11_orders 14 = .ok (.getfield 110, 3) := by decide +kernel
theorem dX11_orders_17 : decode cX11_orders 17 = .ok (.istore_n 3, 1) := by decide +kernel
theorem dX11_orders_18 : decode cX11_orders 18 = .ok (.iconst 1, 1) := by decide +kernel
theorem dX11_orders_19 : decode cX11_orders 19 = .ok (.istore 4, 2) := by decide +kernel
theorem dX11_orders_21 : decode cX11_orders 21 = .ok (.iload 4, 2) := by decide +kernel
theorem dX11_orders_23 : decode cX11_orders 23 = .ok (.aload_n 0, 1) := by decide +kernel
theorem dX11_orders_24 : decode cX11_orders 24 = .ok (.getfield 7, 3) := by decide +kernel
theorem dX11_orders_27 : decode cX11_orders 27 = .ok (.if_icmp .gt 67, 3) := by decide +kernel
theorem dX11_orders_30 : decode cX11_orders 30 = .ok (.iconst 0, 1) := by decide +kernel
theorem dX11_orders_31 : decode cX11_orders 31 = .ok (.istore 5, 2) := by decide +kernel
theorem dX11_orders_33 : decode cX11_orders 33 = .ok (.iconst 1, 1) := by decide +kernel
theorem dX11_orders_34 : decode cX11_orders 34 = .ok (.istore 6, 2) := by decide +kernel
theorem dX11_orders_36 : decode cX11_orders 36 = .ok (.iload 6, 2) := by decide +kernel
theorem dX11_orders_38 : decode cX11_orders 38 = .ok (.aload_n 0, 1) := by decide +kernel
theorem dX11_orders_39 : decode cX11_orders 39 = .ok (.getfield 110, 3) := by decide +kernel
theorem dX11_orders_42 : decode cX11_orders 42 = .ok (.if_icmp .gt 31, 3) := by decide +kernel
theorem dX11_orders_45 : decode cX11_orders 45 = .ok (.iload 5, 2) := by decide +kernel
theorem dX11_orders_47 : decode cX11_orders 47 = .ok (.aload_n 0, 1) := by decide +kernel
theorem dX11_orders_48 : decode cX11_orders 48 = .ok (.getfield 13, 3) := by decide +kernel
theorem dX11_orders_51 : decode cX11_orders 51 = .ok (.iload 6, 2) := by decide +kernel
theorem dX11_orders_53 : decode cX11_orders 53 = .ok (.iaload, 1) := by decide +kernel
theorem dX11_orders_54 : decode cX11_orders 54 = .ok (.iload 4, 2) := by decide +kernel
theorem dX11_orders_56 : decode cX11_orders 56 = .ok (.if_icmp .ne 7, 3) := by decide +kernel
theorem dX11_orders_59 : decode cX11_orders 59 = .ok (.iconst 1, 1) := by decide +kernel
theorem dX11_orders_60 : decode cX11_orders 60 = .ok (.goto 4, 3) := by decide +kernel
theorem dX11_orders_63 : decode cX11_orders 63 = .ok (.iconst 0, 1) := by decide +kernel
theorem dX11_orders_64 : decode cX11_orders 64 = .ok (.iadd, 1) := by decide +kernel
theorem dX11_orders_65 : decode cX11_orders 65 = .ok (.istore 5, 2) := by decide +kernel
theorem dX11_orders_67 : decode cX11_orders 67 = .ok (.iinc 6 1, 3) := by decide +kernel
theorem dX11_orders_70 : decode cX11_orders 70 = .ok (.goto (-34), 3) := by decide +kernel
theorem dX11_orders_73 : decode cX11_orders 73 = .ok (.lload_n 1, 1) := by decide +kernel
theorem dX11_orders_74 : decode cX11_orders 74 = .ok (.aload_n 0, 1) := by decide +kernel
theorem dX11_orders_75 : decode cX11_orders 75 = .ok (.iload_n 3, 1) := by decide +kernel
theorem dX11_orders_76 : decode cX11_orders 76 = .ok (.iload 5, 2) := by decide +kernel
theorem dX11_orders_78 : decode cX11_orders 78 = .ok (.invokevirtual 148, 3) := by decide +kernel
theorem dX11_orders_81 : decode cX11_orders 81 = .ok (.lmul, 1) := by decide +kernel
theorem dX11_orders_82 : decode cX11_orders 82 = .ok (.lstore_n 1, 1) := by decide +kernel
theorem dX11_orders_83 : decode cX11_orders 83 = .ok (.iload_n 3, 1) := by decide +kernel
theorem dX11_orders_84 : decode cX11_orders 84 = .ok (.iload 5, 2) := by decide +kernel
theorem dX11_orders_86 : decode cX11_orders 86 = .ok (.isub, 1) := by decide +kernel
theorem dX11_orders_87 : decode cX11_orders 87 = .ok (.istore_n 3, 1) := by decide +kernel
theorem dX11_orders_88 : decode cX11_orders 88 = .ok (.iinc 4 1, 3) := by decide +kernel
theorem dX11_orders_91 : decode cX11_orders 91 = .ok (.goto (-70), 3) := by decide +kernel
theorem dX11_orders_94 : decode cX11_orders 94 = .ok (.lload_n 1, 1) := by decide +kernel
theorem dX11_orders_95 : decode cX11_orders 95 = .ok (.lreturn, 1) := by decide +kernel
theorem dX11_sort_0 : decode cX11_sort 0 = .ok (.iconst 2, 1) := by decide +kernel
theorem dX11_sort_1 : decode cX11_sort 1 = .ok (.istore_n 1, 1) := by decide +kernel
theorem dX11_sort_2 : decode cX11_sort 2 = .ok (.iload_n 1, 1) := by decide +kernel
theorem dX11_sort_3 : decode cX11_sort 3 = .ok (.aload_n 0, 1) := by decide +kernel
theorem dX11_sort_4 : decode cX11_sort 4 = .ok (.getfield 110, 3) := by decide +kernel
theorem dX11_sort_7 : decode cX11_sort 7 = .ok (.if_icmp .gt 62, 3) := by decide +kernel
theorem dX11_sort_10 : decode cX11_sort 10 = .ok (.aload_n 0, 1) := by decide +kernel
theorem dX11_sort_11 : decode cX11_sort 11 = .ok (.getfield 13, 3) := by decide +kernel
theorem dX11_sort_14 : decode cX11_sort 14 = .ok (.iload_n 1, 1) := by decide +kernel
theorem dX11_sort_15 : decode cX11_sort 15 = .ok (.iaload, 1) := by decide +kernel
theorem dX11_sort_16 : decode cX11_sort 16 = .ok (.istore_n 2, 1) := by decide +kernel
theorem dX11_sort_17 : decode cX11_sort 17 = .ok (.iload_n 1, 1) := by decide +kernel
theorem dX11_sort_18 : decode cX11_sort 18 = .ok (.istore_n 3, 1) := by decide +kernel
theorem dX11_sort_19 : decode cX11_sort 19 = .ok (.iload_n 3, 1) := by decide +kernel
theorem dX11_sort_20 : decode cX11_sort 20 = .ok (.iconst 1, 1) := by decide +kernel
theorem dX11_sort_21 : decode cX11_sort 21 = .ok (.if_icmp .le 35, 3) := by decide +kernel
theorem dX11_sort_24 : decode cX11_sort 24 = .ok (.aload_n 0, 1) := by decide +kernel
theorem dX11_sort_25 : decode cX11_sort 25 = .ok (.getfield 13, 3) := by decide +kernel
theorem dX11_sort_28 : decode cX11_sort 28 = .ok (.iload_n 3, 1) := by decide +kernel
theorem dX11_sort_29 : decode cX11_sort 29 = .ok (.iconst 1, 1) := by decide +kernel
theorem dX11_sort_30 : decode cX11_sort 30 = .ok (.isub, 1) := by decide +kernel
theorem dX11_sort_31 : decode cX11_sort 31 = .ok (.iaload, 1) := by decide +kernel
theorem dX11_sort_32 : decode cX11_sort 32 = .ok (.iload_n 2, 1) := by decide +kernel
theorem dX11_sort_33 : decode cX11_sort 33 = .ok (.if_icmp .le 23, 3) := by decide +kernel
theorem dX11_sort_36 : decode cX11_sort 36 = .ok (.aload_n 0, 1) := by decide +kernel
theorem dX11_sort_37 : decode cX11_sort 37 = .ok (.getfield 13, 3) := by decide +kernel
theorem dX11_sort_40 : decode cX11_sort 40 = .ok (.iload_n 3, 1) := by decide +kernel
theorem dX11_sort_41 : decode cX11_sort 41 = .ok (.aload_n 0, 1) := by decide +kernel
theorem dX11_sort_42 : decode cX11_sort 42 = .ok (.getfield 13, 3) := by decide +kernel
theorem dX11_sort_45 : decode cX11_sort 45 = .ok (.iload_n 3, 1) := by decide +kernel
theorem dX11_sort_46 : decode cX11_sort 46 = .ok (.iconst 1, 1) := by decide +kernel
theorem dX11_sort_47 : decode cX11_sort 47 = .ok (.isub, 1) := by decide +kernel
theorem dX11_sort_48 : decode cX11_sort 48 = .ok (.iaload, 1) := by decide +kernel
theorem dX11_sort_49 : decode cX11_sort 49 = .ok (.iastore, 1) := by decide +kernel
theorem dX11_sort_50 : decode cX11_sort 50 = .ok (.iinc 3 (-1), 3) := by decide +kernel
theorem dX11_sort_53 : decode cX11_sort 53 = .ok (.goto (-34), 3) := by decide +kernel
theorem dX11_sort_56 : decode cX11_sort 56 = .ok (.aload_n 0, 1) := by decide +kernel
theorem dX11_sort_57 : decode cX11_sort 57 = .ok (.getfield 13, 3) := by decide +kernel
theorem dX11_sort_60 : decode cX11_sort 60 = .ok (.iload_n 3, 1) := by decide +kernel
theorem dX11_sort_61 : decode cX11_sort 61 = .ok (.iload_n 2, 1) := by decide +kernel
theorem dX11_sort_62 : decode cX11_sort 62 = .ok (.iastore, 1) := by decide +kernel
theorem dX11_sort_63 : decode cX11_sort 63 = .ok (.iinc 1 1, 3) := by decide +kernel
theorem dX11_sort_66 : decode cX11_sort 66 = .ok (.goto (-64), 3) := by decide +kernel
theorem dX11_sort_69 : decode cX11_sort 69 = .ok (.return_, 1) := by decide +kernel
theorem dX11_rise_0 : decode cX11_rise 0 = .ok (.iconst 1, 1) := by decide +kernel
theorem dX11_rise_1 : decode cX11_rise 1 = .ok (.istore_n 1, 1) := by decide +kernel
theorem dX11_rise_2 : decode cX11_rise 2 = .ok (.iload_n 1, 1) := by decide +kernel
theorem dX11_rise_3 : decode cX11_rise 3 = .ok (.aload_n 0, 1) := by decide +kernel
theorem dX11_rise_4 : decode cX11_rise 4 = .ok (.getfield 110, 3) := by decide +kernel
theorem dX11_rise_7 : decode cX11_rise 7 = .ok (.if_icmp .gt 21, 3) := by decide +kernel
theorem dX11_rise_10 : decode cX11_rise 10 = .ok (.aload_n 0, 1) := by decide +kernel
theorem dX11_rise_11 : decode cX11_rise 11 = .ok (.getfield 26, 3) := by decide +kernel
theorem dX11_rise_14 : decode cX11_rise 14 = .ok (.iload_n 1, 1) := by decide +kernel
theorem dX11_rise_15 : decode cX11_rise 15 = .ok (.aload_n 0, 1) := by decide +kernel
theorem dX11_rise_16 : decode cX11_rise 16 = .ok (.getfield 13, 3) := by decide +kernel
theorem dX11_rise_19 : decode cX11_rise 19 = .ok (.iload_n 1, 1) := by decide +kernel
theorem dX11_rise_20 : decode cX11_rise 20 = .ok (.iaload, 1) := by decide +kernel
theorem dX11_rise_21 : decode cX11_rise 21 = .ok (.iastore, 1) := by decide +kernel
theorem dX11_rise_22 : decode cX11_rise 22 = .ok (.iinc 1 1, 3) := by decide +kernel
theorem dX11_rise_25 : decode cX11_rise 25 = .ok (.goto (-23), 3) := by decide +kernel
theorem dX11_rise_28 : decode cX11_rise 28 = .ok (.aload_n 0, 1) := by decide +kernel
theorem dX11_rise_29 : decode cX11_rise 29 = .ok (.invokevirtual 180, 3) := by decide +kernel
theorem dX11_rise_32 : decode cX11_rise 32 = .ok (.iconst 0, 1) := by decide +kernel
theorem dX11_rise_33 : decode cX11_rise 33 = .ok (.istore_n 1, 1) := by decide +kernel
theorem dX11_rise_34 : decode cX11_rise 34 = .ok (.iconst 1, 1) := by decide +kernel
theorem dX11_rise_35 : decode cX11_rise 35 = .ok (.istore_n 2, 1) := by decide +kernel
theorem dX11_rise_36 : decode cX11_rise 36 = .ok (.iload_n 2, 1) := by decide +kernel
theorem dX11_rise_37 : decode cX11_rise 37 = .ok (.aload_n 0, 1) := by decide +kernel
theorem dX11_rise_38 : decode cX11_rise 38 = .ok (.getfield 110, 3) := by decide +kernel
theorem dX11_rise_41 : decode cX11_rise 41 = .ok (.if_icmp .gt 32, 3) := by decide +kernel
theorem dX11_rise_44 : decode cX11_rise 44 = .ok (.iload_n 1, 1) := by decide +kernel
theorem dX11_rise_45 : decode cX11_rise 45 = .ok (.aload_n 0, 1) := by decide +kernel
theorem dX11_rise_46 : decode cX11_rise 46 = .ok (.getfield 13, 3) := by decide +kernel
theorem dX11_rise_49 : decode cX11_rise 49 = .ok (.iload_n 2, 1) := by decide +kernel
theorem dX11_rise_50 : decode cX11_rise 50 = .ok (.iaload, 1) := by decide +kernel
theorem dX11_rise_51 : decode cX11_rise 51 = .ok (.aload_n 0, 1) := by decide +kernel
theorem dX11_rise_52 : decode cX11_rise 52 = .ok (.getfield 26, 3) := by decide +kernel
theorem dX11_rise_55 : decode cX11_rise 55 = .ok (.iload_n 2, 1) := by decide +kernel
theorem dX11_rise_56 : decode cX11_rise 56 = .ok (.iaload, 1) := by decide +kernel
theorem dX11_rise_57 : decode cX11_rise 57 = .ok (.if_icmp .ne 7, 3) := by decide +kernel
theorem dX11_rise_60 : decode cX11_rise 60 = .ok (.iconst 0, 1) := by decide +kernel
theorem dX11_rise_61 : decode cX11_rise 61 = .ok (.goto 4, 3) := by decide +kernel
theorem dX11_rise_64 : decode cX11_rise 64 = .ok (.iconst 1, 1) := by decide +kernel
theorem dX11_rise_65 : decode cX11_rise 65 = .ok (.iadd, 1) := by decide +kernel
theorem dX11_rise_66 : decode cX11_rise 66 = .ok (.istore_n 1, 1) := by decide +kernel
theorem dX11_rise_67 : decode cX11_rise 67 = .ok (.iinc 2 1, 3) := by decide +kernel
theorem dX11_rise_70 : decode cX11_rise 70 = .ok (.goto (-34), 3) := by decide +kernel
theorem dX11_rise_73 : decode cX11_rise 73 = .ok (.iload_n 1, 1) := by decide +kernel
theorem dX11_rise_74 : decode cX11_rise 74 = .ok (.ireturn, 1) := by decide +kernel
theorem dX11_findRising_0 : decode cX11_findRising 0 = .ok (.iconst 0, 1) := by decide +kernel
theorem dX11_findRising_1 : decode cX11_findRising 1 = .ok (.istore_n 2, 1) := by decide +kernel
theorem dX11_findRising_2 : decode cX11_findRising 2 = .ok (.iload_n 2, 1) := by decide +kernel
theorem dX11_findRising_3 : decode cX11_findRising 3 = .ok (.bipush 12, 2) := by decide +kernel
theorem dX11_findRising_5 : decode cX11_findRising 5 = .ok (.if_icmp .ge 23, 3) := by decide +kernel
theorem dX11_findRising_8 : decode cX11_findRising 8 = .ok (.aload_n 0, 1) := by decide +kernel
theorem dX11_findRising_9 : decode cX11_findRising 9 = .ok (.getfield 39, 3) := by decide +kernel
theorem dX11_findRising_12 : decode cX11_findRising 12 = .ok (.bipush 12, 2) := by decide +kernel
theorem dX11_findRising_14 : decode cX11_findRising 14 = .ok (.iload_n 1, 1) := by decide +kernel
theorem dX11_findRising_15 : decode cX11_findRising 15 = .ok (.iconst 1, 1) := by decide +kernel
theorem dX11_findRising_16 : decode cX11_findRising 16 = .ok (.iadd, 1) := by decide +kernel
theorem dX11_findRising_17 : decode cX11_findRising 17 = .ok (.imul, 1) := by decide +kernel
theorem dX11_findRising_18 : decode cX11_findRising 18 = .ok (.iload_n 2, 1) := by decide +kernel
theorem dX11_findRising_19 : decode cX11_findRising 19 = .ok (.iadd, 1) := by decide +kernel
theorem dX11_findRising_20 : decode cX11_findRising 20 = .ok (.lconst 1, 1) := by decide +kernel
theorem dX11_findRising_21 : decode cX11_findRising 21 = .ok (.lastore, 1) := by decide +kernel
theorem dX11_findRising_22 : decode cX11_findRising 22 = .ok (.iinc 2 1, 3) := by decide +kernel
theorem dX11_findRising_25 : decode cX11_findRising 25 = .ok (.goto (-23), 3) := by decide +kernel
theorem dX11_findRising_28 : decode cX11_findRising 28 = .ok (.iload_n 1, 1) := by decide +kernel
theorem dX11_findRising_29 : decode cX11_findRising 29 = .ok (.istore_n 2, 1) := by decide +kernel
theorem dX11_findRising_30 : decode cX11_findRising 30 = .ok (.iload_n 2, 1) := by decide +kernel
theorem dX11_findRising_31 : decode cX11_findRising 31 = .ok (.iconst 1, 1) := by decide +kernel
theorem dX11_findRising_32 : decode cX11_findRising 32 = .ok (.if_icmp .lt 91, 3) := by decide +kernel
theorem dX11_findRising_35 : decode cX11_findRising 35 = .ok (.bipush 11, 2) := by decide +kernel
theorem dX11_findRising_37 : decode cX11_findRising 37 = .ok (.istore_n 3, 1) := by decide +kernel
theorem dX11_findRising_38 : decode cX11_findRising 38 = .ok (.iload_n 3, 1) := by decide +kernel
theorem dX11_findRising_39 : decode cX11_findRising 39 = .ok (.iconst 1, 1) := by decide +kernel
theorem dX11_findRising_40 : decode cX11_findRising 40 = .ok (.if_icmp .lt 77, 3) := by decide +kernel
theorem dX11_findRising_43 : decode cX11_findRising 43 = .ok (.iload_n 3, 1) := by decide +kernel
theorem dX11_findRising_44 : decode cX11_findRising 44 = .ok (.aload_n 0, 1) := by decide +kernel
theorem dX11_findRising_45 : decode cX11_findRising 45 = .ok (.getfield 7, 3) := by decide +kernel
theorem dX11_findRising_48 : decode cX11_findRising 48 = .ok (.iload_n 1, 1) := by decide +kernel
theorem dX11_findRising_49 : decode cX11_findRising 49 = .ok (.isub, 1) := by decide +kernel
theorem dX11_findRising_50 : decode cX11_findRising 50 = .ok (.iload_n 2, 1) := by decide +kernel
theorem dX11_findRising_51 : decode cX11_findRising 51 = .ok (.iadd, 1) := by decide +kernel
theorem dX11_findRising_52 : decode cX11_findRising 52 = .ok (.if_icmp .gt 19, 3) := by decide +kernel
theorem dX11_findRising_55 : decode cX11_findRising 55 = .ok (.aload_n 0, 1) := by decide +kernel
theorem dX11_findRising_56 : decode cX11_findRising 56 = .ok (.getfield 39, 3) := by decide +kernel
theorem dX11_findRising_59 : decode cX11_findRising 59 = .ok (.bipush 12, 2) := by decide +kernel
theorem dX11_findRising_61 : decode cX11_findRising 61 = .ok (.iload_n 2, 1) := by decide +kernel
theorem dX11_findRising_62 : decode cX11_findRising 62 = .ok (.iconst 1, 1) := by decide +kernel
theorem dX11_findRising_63 : decode cX11_findRising 63 = .ok (.iadd, 1) := by decide +kernel
theorem dX11_findRising_64 : decode cX11_findRising 64 = .ok (.imul, 1) := by decide +kernel
theorem dX11_findRising_65 : decode cX11_findRising 65 = .ok (.iload_n 3, 1) := by decide +kernel
theorem dX11_findRising_66 : decode cX11_findRising 66 = .ok (.iadd, 1) := by decide +kernel
theorem dX11_findRising_67 : decode cX11_findRising 67 = .ok (.laload, 1) := by decide +kernel
theorem dX11_findRising_68 : decode cX11_findRising 68 = .ok (.goto 4, 3) := by decide +kernel
theorem dX11_findRising_71 : decode cX11_findRising 71 = .ok (.lconst 0, 1) := by decide +kernel
theorem dX11_findRising_72 : decode cX11_findRising 72 = .ok (.lstore 4, 2) := by decide +kernel
theorem dX11_findRising_74 : decode cX11_findRising 74 = .ok (.aload_n 0, 1) := by decide +kernel
theorem dX11_findRising_75 : decode cX11_findRising 75 = .ok (.getfield 39, 3) := by decide +kernel
theorem dX11_findRising_78 : decode cX11_findRising 78 = .ok (.bipush 12, 2) := by decide +kernel
theorem dX11_findRising_80 : decode cX11_findRising 80 = .ok (.iload_n 2, 1) := by decide +kernel
theorem dX11_findRising_81 : decode cX11_findRising 81 = .ok (.imul, 1) := by decide +kernel
theorem dX11_findRising_82 : decode cX11_findRising 82 = .ok (.iload_n 3, 1) := by decide +kernel
theorem dX11_findRising_83 : decode cX11_findRising 83 = .ok (.iadd, 1) := by decide +kernel
theorem dX11_findRising_84 : decode cX11_findRising 84 = .ok (.lload 4, 2) := by decide +kernel
theorem dX11_findRising_86 : decode cX11_findRising 86 = .ok (.iload_n 3, 1) := by decide +kernel
theorem dX11_findRising_87 : decode cX11_findRising 87 = .ok (.bipush 11, 2) := by decide +kernel
theorem dX11_findRising_89 : decode cX11_findRising 89 = .ok (.if_icmp .ge 19, 3) := by decide +kernel
theorem dX11_findRising_92 : decode cX11_findRising 92 = .ok (.aload_n 0, 1) := by decide +kernel
theorem dX11_findRising_93 : decode cX11_findRising 93 = .ok (.getfield 39, 3) := by decide +kernel
theorem dX11_findRising_96 : decode cX11_findRising 96 = .ok (.bipush 12, 2) := by decide +kernel
theorem dX11_findRising_98 : decode cX11_findRising 98 = .ok (.iload_n 2, 1) := by decide +kernel
theorem dX11_findRising_99 : decode cX11_findRising 99 = .ok (.imul, 1) := by decide +kernel
theorem dX11_findRising_100 : decode cX11_findRising 100 = .ok (.iload_n 3, 1) := by decide +kernel
theorem dX11_findRising_101 : decode cX11_findRising 101 = .ok (.iadd, 1) := by decide +kernel
theorem dX11_findRising_102 : decode cX11_findRising 102 = .ok (.iconst 1, 1) := by decide +kernel
theorem dX11_findRising_103 : decode cX11_findRising 103 = .ok (.iadd, 1) := by decide +kernel
theorem dX11_findRising_104 : decode cX11_findRising 104 = .ok (.laload, 1) := by decide +kernel
theorem dX11_findRising_105 : decode cX11_findRising 105 = .ok (.goto 4, 3) := by decide +kernel
theorem dX11_findRising_108 : decode cX11_findRising 108 = .ok (.lconst 0, 1) := by decide +kernel
theorem dX11_findRising_109 : decode cX11_findRising 109 = .ok (.ladd, 1) := by decide +kernel
theorem dX11_findRising_110 : decode cX11_findRising 110 = .ok (.lastore, 1) := by decide +kernel
theorem dX11_findRising_111 : decode cX11_findRising 111 = .ok (.iinc 3 (-1), 3) := by decide +kernel
theorem dX11_findRising_114 : decode cX11_findRising 114 = .ok (.goto (-76), 3) := by decide +kernel
theorem dX11_findRising_117 : decode cX11_findRising 117 = .ok (.iinc 2 (-1), 3) := by decide +kernel
theorem dX11_findRising_120 : decode cX11_findRising 120 = .ok (.goto (-90), 3) := by decide +kernel
theorem dX11_findRising_123 : decode cX11_findRising 123 = .ok (.return_, 1) := by decide +kernel
theorem dX11_risingsOf_0 : decode cX11_risingsOf 0 = .ok (.aload_n 0, 1) := by decide +kernel
theorem dX11_risingsOf_1 : decode cX11_risingsOf 1 = .ok (.iload_n 1, 1) := by decide +kernel
theorem dX11_risingsOf_2 : decode cX11_risingsOf 2 = .ok (.invokevirtual 183, 3) := by decide +kernel
theorem dX11_risingsOf_5 : decode cX11_risingsOf 5 = .ok (.aload_n 0, 1) := by decide +kernel
theorem dX11_risingsOf_6 : decode cX11_risingsOf 6 = .ok (.getfield 39, 3) := by decide +kernel
theorem dX11_risingsOf_9 : decode cX11_risingsOf 9 = .ok (.bipush 13, 2) := by decide +kernel
theorem dX11_risingsOf_11 : decode cX11_risingsOf 11 = .ok (.laload, 1) := by decide +kernel
theorem dX11_risingsOf_12 : decode cX11_risingsOf 12 = .ok (.lreturn, 1) := by decide +kernel
theorem dX11_risings_0 : decode cX11_risings 0 = .ok (.iload_n 1, 1) := by decide +kernel
theorem dX11_risings_1 : decode cX11_risings 1 = .ok (.i2l, 1) := by decide +kernel
theorem dX11_risings_2 : decode cX11_risings 2 = .ok (.lconst 0, 1) := by decide +kernel
theorem dX11_risings_3 : decode cX11_risings 3 = .ok (.aload_n 0, 1) := by decide +kernel
theorem dX11_risings_4 : decode cX11_risings 4 = .ok (.getfield 7, 3) := by decide +kernel
theorem dX11_risings_7 : decode cX11_risings 7 = .ok (.i2l, 1) := by decide +kernel
theorem dX11_risings_8 : decode cX11_risings 8 = .ok (.invokestatic 96, 3) := by decide +kernel
theorem dX11_risings_11 : decode cX11_risings 11 = .ok (.ifCond .eq 11, 3) := by decide +kernel
theorem dX11_risings_14 : decode cX11_risings 14 = .ok (.aload_n 0, 1) := by decide +kernel
theorem dX11_risings_15 : decode cX11_risings 15 = .ok (.iload_n 1, 1) := by decide +kernel
theorem dX11_risings_16 : decode cX11_risings 16 = .ok (.invokevirtual 186, 3) := by decide +kernel
theorem dX11_risings_19 : decode cX11_risings 19 = .ok (.goto 6, 3) := by decide +kernel
theorem dX11_risings_22 : decode cX11_risings 22 = .ok (.ldc2_w 162, 3) := by decide +kernel
theorem dX11_risings_25 : decode cX11_risings 25 = .ok (.lreturn, 1) := by decide +kernel
theorem dX11_riseRank_0 : decode cX11_riseRank 0 = .ok (.aload_n 0, 1) := by decide +kernel
theorem dX11_riseRank_1 : decode cX11_riseRank 1 = .ok (.invokevirtual 167, 3) := by decide +kernel
theorem dX11_riseRank_4 : decode cX11_riseRank 4 = .ok (.istore_n 1, 1) := by decide +kernel
theorem dX11_riseRank_5 : decode cX11_riseRank 5 = .ok (.iconst 2, 1) := by decide +kernel
theorem dX11_riseRank_6 : decode cX11_riseRank 6 = .ok (.istore_n 2, 1) := by decide +kernel
theorem dX11_riseRank_7 : decode cX11_riseRank 7 = .ok (.iload_n 2, 1) := by decide +kernel
theorem dX11_riseRank_8 : decode cX11_riseRank 8 = .ok (.aload_n 0, 1) := by decide +kernel
theorem dX11_riseRank_9 : decode cX11_riseRank 9 = .ok (.getfield 110, 3) := by decide +kernel
theorem dX11_riseRank_12 : decode cX11_riseRank 12 = .ok (.if_icmp .gt 36, 3) := by decide +kernel
theorem dX11_riseRank_15 : decode cX11_riseRank 15 = .ok (.iload_n 1, 1) := by decide +kernel
theorem dX11_riseRank_16 : decode cX11_riseRank 16 = .ok (.ifCond .eq 24, 3) := by decide +kernel
theorem dX11_riseRank_19 : decode cX11_riseRank 19 = .ok (.aload_n 0, 1) := by decide +kernel
theorem dX11_riseRank_20 : decode cX11_riseRank 20 = .ok (.getfield 13, 3) := by decide +kernel
theorem dX11_riseRank_23 : decode cX11_riseRank 23 = .ok (.iload_n 2, 1) := by decide +kernel
theorem dX11_riseRank_24 : decode cX11_riseRank 24 = .ok (.iaload, 1) := by decide +kernel
theorem dX11_riseRank_25 : decode cX11_riseRank 25 = .ok (.aload_n 0, 1) := by decide +kernel
theorem dX11_riseRank_26 : decode cX11_riseRank 26 = .ok (.getfield 13, 3) := by decide +kernel
theorem dX11_riseRank_29 : decode cX11_riseRank 29 = .ok (.iload_n 2, 1) := by decide +kernel
theorem dX11_riseRank_30 : decode cX11_riseRank 30 = .ok (.iconst 1, 1) := by decide +kernel
theorem dX11_riseRank_31 : decode cX11_riseRank 31 = .ok (.isub, 1) := by decide +kernel
theorem dX11_riseRank_32 : decode cX11_riseRank 32 = .ok (.iaload, 1) := by decide +kernel
theorem dX11_riseRank_33 : decode cX11_riseRank 33 = .ok (.if_icmp .lt 7, 3) := by decide +kernel
theorem dX11_riseRank_36 : decode cX11_riseRank 36 = .ok (.iconst 1, 1) := by decide +kernel
theorem dX11_riseRank_37 : decode cX11_riseRank 37 = .ok (.goto 4, 3) := by decide +kernel
theorem dX11_riseRank_40 : decode cX11_riseRank 40 = .ok (.iconst 0, 1) := by decide +kernel
theorem dX11_riseRank_41 : decode cX11_riseRank 41 = .ok (.istore_n 1, 1) := by decide +kernel
theorem dX11_riseRank_42 : decode cX11_riseRank 42 = .ok (.iinc 2 1, 3) := by decide +kernel
theorem dX11_riseRank_45 : decode cX11_riseRank 45 = .ok (.goto (-38), 3) := by decide +kernel
theorem dX11_riseRank_48 : decode cX11_riseRank 48 = .ok (.iload_n 1, 1) := by decide +kernel
theorem dX11_riseRank_49 : decode cX11_riseRank 49 = .ok (.ifCond .ne 7, 3) := by decide +kernel
theorem dX11_riseRank_52 : decode cX11_riseRank 52 = .ok (.ldc2_w 174, 3) := by decide +kernel
theorem dX11_riseRank_55 : decode cX11_riseRank 55 = .ok (.lreturn, 1) := by decide +kernel
theorem dX11_riseRank_56 : decode cX11_riseRank 56 = .ok (.aload_n 0, 1) := by decide +kernel
theorem dX11_riseRank_57 : decode cX11_riseRank 57 = .ok (.aload_n 0, 1) := by decide +kernel
theorem dX11_riseRank_58 : decode cX11_riseRank 58 = .ok (.getfield 110, 3) := by decide +kernel
theorem dX11_riseRank_61 : decode cX11_riseRank 61 = .ok (.invokevirtual 183, 3) := by decide +kernel
theorem dX11_riseRank_64 : decode cX11_riseRank 64 = .ok (.lconst 0, 1) := by decide +kernel
theorem dX11_riseRank_65 : decode cX11_riseRank 65 = .ok (.lstore_n 2, 1) := by decide +kernel
theorem dX11_riseRank_66 : decode cX11_riseRank 66 = .ok (.iconst 1, 1) := by decide +kernel
theorem dX11_riseRank_67 : decode cX11_riseRank 67 = .ok (.istore 4, 2) := by decide +kernel
theorem dX11_riseRank_69 : decode cX11_riseRank 69 = .ok (.iload 4, 2) := by decide +kernel
theorem dX11_riseRank_71 : decode cX11_riseRank 71 = .ok (.aload_n 0, 1) := by decide +kernel
theorem dX11_riseRank_72 : decode cX11_riseRank 72 = .ok (.getfield 110, 3) := by decide +kernel
theorem dX11_riseRank_75 : decode cX11_riseRank 75 = .ok (.if_icmp .gt 66, 3) := by decide +kernel
theorem dX11_riseRank_78 : decode cX11_riseRank 78 = .ok (.iload 4, 2) := by decide +kernel
theorem dX11_riseRank_80 : decode cX11_riseRank 80 = .ok (.iconst 1, 1) := by decide +kernel
theorem dX11_riseRank_81 : decode cX11_riseRank 81 = .ok (.if_icmp .ne 7, 3) := by decide +kernel
theorem dX11_riseRank_84 : decode cX11_riseRank 84 = .ok (.iconst 1, 1) := by decide +kernel
theorem dX11_riseRank_85 : decode cX11_riseRank 85 = .ok (.goto 12, 3) := by decide +kernel
theorem dX11_riseRank_88 : decode cX11_riseRank 88 = .ok (.aload_n 0, 1) := by decide +kernel
theorem dX11_riseRank_89 : decode cX11_riseRank 89 = .ok (.getfield 13, 3) := by decide +kernel
theorem dX11_riseRank_92 : decode cX11_riseRank 92 = .ok (.iload 4, 2) := by decide +kernel
theorem dX11_riseRank_94 : decode cX11_riseRank 94 = .ok (.iconst 1, 1) := by decide +kernel
theorem dX11_riseRank_95 : decode cX11_riseRank 95 = .ok (.isub, 1) := by decide +kernel
theorem dX11_riseRank_96 : decode cX11_riseRank 96 = .ok (.iaload, 1) := by decide +kernel
theorem dX11_riseRank_97 : decode cX11_riseRank 97 = .ok (.istore 5, 2) := by decide +kernel
theorem dX11_riseRank_99 : decode cX11_riseRank 99 = .ok (.iload 5, 2) := by decide +kernel
theorem dX11_riseRank_101 : decode cX11_riseRank 101 = .ok (.aload_n 0, 1) := by decide +kernel
theorem dX11_riseRank_102 : decode cX11_riseRank 102 = .ok (.getfield 13, 3) := by decide +kernel
theorem dX11_riseRank_105 : decode cX11_riseRank 105 = .ok (.iload 4, 2) := by decide +kernel
theorem dX11_riseRank_107 : decode cX11_riseRank 107 = .ok (.iaload, 1) := by decide +kernel
theorem dX11_riseRank_108 : decode cX11_riseRank 108 = .ok (.if_icmp .ge 27, 3) := by decide +kernel
theorem dX11_riseRank_111 : decode cX11_riseRank 111 = .ok (.lload_n 2, 1) := by decide +kernel
theorem dX11_riseRank_112 : decode cX11_riseRank 112 = .ok (.aload_n 0, 1) := by decide +kernel
theorem dX11_riseRank_113 : decode cX11_riseRank 113 = .ok (.getfield 39, 3) := by decide +kernel
theorem dX11_riseRank_116 : decode cX11_riseRank 116 = .ok (.bipush 12, 2) := by decide +kernel
theorem dX11_riseRank_118 : decode cX11_riseRank 118 = .ok (.iload 4, 2) := by decide +kernel
theorem dX11_riseRank_120 : decode cX11_riseRank 120 = .ok (.iconst 1, 1) := by decide +kernel
theorem dX11_riseRank_121 : decode cX11_riseRank 121 = .ok (.iadd, 1) := by decide +kernel
theorem dX11_riseRank_122 : decode cX11_riseRank 122 = .ok (.imul, 1) := by decide +kernel
theorem dX11_riseRank_123 : decode cX11_riseRank 123 = .ok (.iload 5, 2) := by decide +kernel
theorem dX11_riseRank_125 : decode cX11_riseRank 125 = .ok (.iadd, 1) := by decide +kernel
theorem dX11_riseRank_126 : decode cX11_riseRank 126 = .ok (.laload, 1) := by decide +kernel
theorem dX11_riseRank_127 : decode cX11_riseRank 127 = .ok (.ladd, 1) := by decide +kernel
theorem dX11_riseRank_128 : decode cX11_riseRank 128 = .ok (.lstore_n 2, 1) := by decide +kernel
theorem dX11_riseRank_129 : decode cX11_riseRank 129 = .ok (.iinc 5 1, 3) := by decide +kernel
theorem dX11_riseRank_132 : decode cX11_riseRank 132 = .ok (.goto (-33), 3) := by decide +kernel
theorem dX11_riseRank_135 : decode cX11_riseRank 135 = .ok (.iinc 4 1, 3) := by decide +kernel
theorem dX11_riseRank_138 : decode cX11_riseRank 138 = .ok (.goto (-69), 3) := by decide +kernel
theorem dX11_riseRank_141 : decode cX11_riseRank 141 = .ok (.lload_n 2, 1) := by decide +kernel
theorem dX11_riseRank_142 : decode cX11_riseRank 142 = .ok (.lreturn, 1) := by decide +kernel
theorem dX11_riseUnrank_0 : decode cX11_riseUnrank 0 = .ok (.iload_n 1, 1) := by decide +kernel
theorem dX11_riseUnrank_1 : decode cX11_riseUnrank 1 = .ok (.i2l, 1) := by decide +kernel
theorem dX11_riseUnrank_2 : decode cX11_riseUnrank 2 = .ok (.lconst 0, 1) := by decide +kernel
theorem dX11_riseUnrank_3 : decode cX11_riseUnrank 3 = .ok (.aload_n 0, 1) := by decide +kernel
theorem dX11_riseUnrank_4 : decode cX11_riseUnrank 4 = .ok (.getfield 7, 3) := by decide +kernel
theorem dX11_riseUnrank_7 : decode cX11_riseUnrank 7 = .ok (.i2l, 1) := by decide +kernel
theorem dX11_riseUnrank_8 : decode cX11_riseUnrank 8 = .ok (.invokestatic 96, 3) := by decide +kernel
theorem dX11_riseUnrank_11 : decode cX11_riseUnrank 11 = .ok (.ifCond .eq 19, 3) := by decide +kernel
theorem dX11_riseUnrank_14 : decode cX11_riseUnrank 14 = .ok (.lload_n 2, 1) := by decide +kernel
theorem dX11_riseUnrank_15 : decode cX11_riseUnrank 15 = .ok (.lconst 0, 1) := by decide +kernel
theorem dX11_riseUnrank_16 : decode cX11_riseUnrank 16 = .ok (.lcmp, 1) := by decide +kernel
theorem dX11_riseUnrank_17 : decode cX11_riseUnrank 17 = .ok (.ifCond .lt 13, 3) := by decide +kernel
theorem dX11_riseUnrank_20 : decode cX11_riseUnrank 20 = .ok (.lload_n 2, 1) := by decide +kernel
theorem dX11_riseUnrank_21 : decode cX11_riseUnrank 21 = .ok (.aload_n 0, 1) := by decide +kernel
theorem dX11_riseUnrank_22 : decode cX11_riseUnrank 22 = .ok (.iload_n 1, 1) := by decide +kernel
theorem dX11_riseUnrank_23 : decode cX11_riseUnrank 23 = .ok (.invokevirtual 186, 3) := by decide +kernel
theorem dX11_riseUnrank_26 : decode cX11_riseUnrank 26 = .ok (.lcmp, 1) := by decide +kernel
theorem dX11_riseUnrank_27 : decode cX11_riseUnrank 27 = .ok (.ifCond .lt 5, 3) := by decide +kernel
theorem dX11_riseUnrank_30 : decode cX11_riseUnrank 30 = .ok (.iconst (-1), 1) := by decide +kernel
theorem dX11_riseUnrank_31 : decode cX11_riseUnrank 31 = .ok (.ireturn, 1) := by decide +kernel
theorem dX11_riseUnrank_32 : decode cX11_riseUnrank 32 = .ok (.aload_n 0, 1) := by decide +kernel
theorem dX11_riseUnrank_33 : decode cX11_riseUnrank 33 = .ok (.getfield 104, 3) := by decide +kernel
theorem dX11_riseUnrank_36 : decode cX11_riseUnrank 36 = .ok (.ifCond .eq 6, 3) := by decide +kernel
theorem dX11_riseUnrank_39 : decode cX11_riseUnrank 39 = .ok (.bipush (-2), 2) := by decide +kernel
theorem dX11_riseUnrank_41 : decode cX11_riseUnrank 41 = .ok (.ireturn, 1) := by decide +kernel
theorem dX11_riseUnrank_42 : decode cX11_riseUnrank 42 = .ok (.aload_n 0, 1) := by decide +kernel
theorem dX11_riseUnrank_43 : decode cX11_riseUnrank 43 = .ok (.iload_n 1, 1) := by decide +kernel
theorem dX11_riseUnrank_44 : decode cX11_riseUnrank 44 = .ok (.invokevirtual 183, 3) := by decide +kernel
theorem dX11_riseUnrank_47 : decode cX11_riseUnrank 47 = .ok (.aload_n 0, 1) := by decide +kernel
theorem dX11_riseUnrank_48 : decode cX11_riseUnrank 48 = .ok (.iconst 0, 1) := by decide +kernel
theorem dX11_riseUnrank_49 : decode cX11_riseUnrank 49 = .ok (.putfield 110, 3) := by decide +kernel
theorem dX11_riseUnrank_52 : decode cX11_riseUnrank 52 = .ok (.lload_n 2, 1) := by decide +kernel
theorem dX11_riseUnrank_53 : decode cX11_riseUnrank 53 = .ok (.lstore 4, 2) := by decide +kernel
theorem dX11_riseUnrank_55 : decode cX11_riseUnrank 55 = .ok (.iconst 1, 1) := by decide +kernel
theorem dX11_riseUnrank_56 : decode cX11_riseUnrank 56 = .ok (.istore 6, 2) := by decide +kernel
theorem dX11_riseUnrank_58 : decode cX11_riseUnrank 58 = .ok (.iconst 1, 1) := by decide +kernel
theorem dX11_riseUnrank_59 : decode cX11_riseUnrank 59 = .ok (.istore 7, 2) := by decide +kernel
theorem dX11_riseUnrank_61 : decode cX11_riseUnrank 61 = .ok (.iload 7, 2) := by decide +kernel
theorem dX11_riseUnrank_63 : decode cX11_riseUnrank 63 = .ok (.iload_n 1, 1) := by decide +kernel
theorem dX11_riseUnrank_64 : decode cX11_riseUnrank 64 = .ok (.if_icmp .gt 62, 3) := by decide +kernel
theorem dX11_riseUnrank_67 : decode cX11_riseUnrank 67 = .ok (.lload 4, 2) := by decide +kernel
theorem dX11_riseUnrank_69 : decode cX11_riseUnrank 69 = .ok (.aload_n 0, 1) := by decide +kernel
theorem dX11_riseUnrank_70 : decode cX11_riseUnrank 70 = .ok (.getfield 39, 3) := by decide +kernel
theorem dX11_riseUnrank_73 : decode cX11_riseUnrank 73 = .ok (.bipush 12, 2) := by decide +kernel
theorem dX11_riseUnrank_75 : decode cX11_riseUnrank 75 = .ok (.iload 7, 2) := by decide +kernel
theorem dX11_riseUnrank_77 : decode cX11_riseUnrank 77 = .ok (.iconst 1, 1) := by decide +kernel
theorem dX11_riseUnrank_78 : decode cX11_riseUnrank 78 = .ok (.iadd, 1) := by decide +kernel
theorem dX11_riseUnrank_79 : decode cX11_riseUnrank 79 = .ok (.imul, 1) := by decide +kernel
theorem dX11_riseUnrank_80 : decode cX11_riseUnrank 80 = .ok (.iload 6, 2) := by decide +kernel
theorem dX11_riseUnrank_82 : decode cX11_riseUnrank 82 = .ok (.iadd, 1) := by decide +kernel
theorem dX11_riseUnrank_83 : decode cX11_riseUnrank 83 = .ok (.laload, 1) := by decide +kernel
theorem dX11_riseUnrank_84 : decode cX11_riseUnrank 84 = .ok (.lcmp, 1) := by decide +kernel
theorem dX11_riseUnrank_85 : decode cX11_riseUnrank 85 = .ok (.ifCond .lt 29, 3) := by decide +kernel
theorem dX11_riseUnrank_88 : decode cX11_riseUnrank 88 = .ok (.lload 4, 2) := by decide +kernel
theorem dX11_riseUnrank_90 : decode cX11_riseUnrank 90 = .ok (.aload_n 0, 1) := by decide +kernel
theorem dX11_riseUnrank_91 : decode cX11_riseUnrank 91 = .ok (.getfield 39, 3) := by decide +kernel
theorem dX11_riseUnrank_94 : decode cX11_riseUnrank 94 = .ok (.bipush 12, 2) := by decide +kernel
theorem dX11_riseUnrank_96 : decode cX11_riseUnrank 96 = .ok (.iload 7, 2) := by decide +kernel
theorem dX11_riseUnrank_98 : decode cX11_riseUnrank 98 = .ok (.iconst 1, 1) := by decide +kernel
theorem dX11_riseUnrank_99 : decode cX11_riseUnrank 99 = .ok (.iadd, 1) := by decide +kernel
theorem dX11_riseUnrank_100 : decode cX11_riseUnrank 100 = .ok (.imul, 1) := by decide +kernel
theorem dX11_riseUnrank_101 : decode cX11_riseUnrank 101 = .ok (.iload 6, 2) := by decide +kernel
theorem dX11_riseUnrank_103 : decode cX11_riseUnrank 103 = .ok (.iadd, 1) := by decide +kernel
theorem dX11_riseUnrank_104 : decode cX11_riseUnrank 104 = .ok (.laload, 1) := by decide +kernel
theorem dX11_riseUnrank_105 : decode cX11_riseUnrank 105 = .ok (.lsub, 1) := by decide +kernel
theorem dX11_riseUnrank_106 : decode cX11_riseUnrank 106 = .ok (.lstore 4, 2) := by decide +kernel
theorem dX11_riseUnrank_108 : decode cX11_riseUnrank 108 = .ok (.iinc 6 1, 3) := by decide +kernel
theorem dX11_riseUnrank_111 : decode cX11_riseUnrank 111 = .ok (.goto (-44), 3) := by decide +kernel
theorem dX11_riseUnrank_114 : decode cX11_riseUnrank 114 = .ok (.aload_n 0, 1) := by decide +kernel
theorem dX11_riseUnrank_115 : decode cX11_riseUnrank 115 = .ok (.iload 6, 2) := by decide +kernel
theorem dX11_riseUnrank_117 : decode cX11_riseUnrank 117 = .ok (.invokevirtual 113, 3) := by decide +kernel
theorem dX11_riseUnrank_120 : decode cX11_riseUnrank 120 = .ok (.iinc 7 1, 3) := by decide +kernel
theorem dX11_riseUnrank_123 : decode cX11_riseUnrank 123 = .ok (.goto (-62), 3) := by decide +kernel
theorem dX11_riseUnrank_126 : decode cX11_riseUnrank 126 = .ok (.iload_n 1, 1) := by decide +kernel
theorem dX11_riseUnrank_127 : decode cX11_riseUnrank 127 = .ok (.ireturn, 1) := by decide +kernel
theorem dX11_isFull_0 : decode cX11_isFull 0 = .ok (.aload_n 0, 1) := by decide +kernel
theorem dX11_isFull_1 : decode cX11_isFull 1 = .ok (.getfield 110, 3) := by decide +kernel
theorem dX11_isFull_4 : decode cX11_isFull 4 = .ok (.aload_n 0, 1) := by decide +kernel
theorem dX11_isFull_5 : decode cX11_isFull 5 = .ok (.getfield 7, 3) := by decide +kernel
theorem dX11_isFull_8 : decode cX11_isFull 8 = .ok (.if_icmp .ne 14, 3) := by decide +kernel
theorem dX11_isFull_11 : decode cX11_isFull 11 = .ok (.aload_n 0, 1) := by decide +kernel
theorem dX11_isFull_12 : decode cX11_isFull 12 = .ok (.invokevirtual 167, 3) := by decide +kernel
theorem dX11_isFull_15 : decode cX11_isFull 15 = .ok (.ifCond .eq 7, 3) := by decide +kernel
theorem dX11_isFull_18 : decode cX11_isFull 18 = .ok (.iconst 1, 1) := by decide +kernel
theorem dX11_isFull_19 : decode cX11_isFull 19 = .ok (.goto 4, 3) := by decide +kernel
theorem dX11_isFull_22 : decode cX11_isFull 22 = .ok (.iconst 0, 1) := by decide +kernel
theorem dX11_isFull_23 : decode cX11_isFull 23 = .ok (.ireturn, 1) := by decide +kernel
theorem dX11_wishUpTo_0 : decode cX11_wishUpTo 0 = .ok (.iconst 0, 1) := by decide +kernel
theorem dX11_wishUpTo_1 : decode cX11_wishUpTo 1 = .ok (.istore_n 2, 1) := by decide +kernel
theorem dX11_wishUpTo_2 : decode cX11_wishUpTo 2 = .ok (.iconst 1, 1) := by decide +kernel
theorem dX11_wishUpTo_3 : decode cX11_wishUpTo 3 = .ok (.istore_n 3, 1) := by decide +kernel
theorem dX11_wishUpTo_4 : decode cX11_wishUpTo 4 = .ok (.iload_n 3, 1) := by decide +kernel
theorem dX11_wishUpTo_5 : decode cX11_wishUpTo 5 = .ok (.aload_n 0, 1) := by decide +kernel
theorem dX11_wishUpTo_6 : decode cX11_wishUpTo 6 = .ok (.getfield 110, 3) := by decide +kernel
theorem dX11_wishUpTo_9 : decode cX11_wishUpTo 9 = .ok (.if_icmp .gt 27, 3) := by decide +kernel
theorem dX11_wishUpTo_12 : decode cX11_wishUpTo 12 = .ok (.iload_n 2, 1) := by decide +kernel
theorem dX11_wishUpTo_13 : decode cX11_wishUpTo 13 = .ok (.aload_n 0, 1) := by decide +kernel
theorem dX11_wishUpTo_14 : decode cX11_wishUpTo 14 = .ok (.getfield 13, 3) := by decide +kernel
theorem dX11_wishUpTo_17 : decode cX11_wishUpTo 17 = .ok (.iload_n 3, 1) := by decide +kernel
theorem dX11_wishUpTo_18 : decode cX11_wishUpTo 18 = .ok (.iaload, 1) := by decide +kernel
theorem dX11_wishUpTo_19 : decode cX11_wishUpTo 19 = .ok (.iload_n 1, 1) := by decide +kernel
theorem dX11_wishUpTo_20 : decode cX11_wishUpTo 20 = .ok (.if_icmp .gt 7, 3) := by decide +kernel
theorem dX11_wishUpTo_23 : decode cX11_wishUpTo 23 = .ok (.iconst 1, 1) := by decide +kernel
theorem dX11_wishUpTo_24 : decode cX11_wishUpTo 24 = .ok (.goto 4, 3) := by decide +kernel
theorem dX11_wishUpTo_27 : decode cX11_wishUpTo 27 = .ok (.iconst 0, 1) := by decide +kernel
theorem dX11_wishUpTo_28 : decode cX11_wishUpTo 28 = .ok (.iadd, 1) := by decide +kernel
theorem dX11_wishUpTo_29 : decode cX11_wishUpTo 29 = .ok (.istore_n 2, 1) := by decide +kernel
theorem dX11_wishUpTo_30 : decode cX11_wishUpTo 30 = .ok (.iinc 3 1, 3) := by decide +kernel
theorem dX11_wishUpTo_33 : decode cX11_wishUpTo 33 = .ok (.goto (-29), 3) := by decide +kernel
theorem dX11_wishUpTo_36 : decode cX11_wishUpTo 36 = .ok (.iload_n 2, 1) := by decide +kernel
theorem dX11_wishUpTo_37 : decode cX11_wishUpTo 37 = .ok (.ireturn, 1) := by decide +kernel
theorem dX11_cuts_0 : decode cX11_cuts 0 = .ok (.aload_n 0, 1) := by decide +kernel
theorem dX11_cuts_1 : decode cX11_cuts 1 = .ok (.invokevirtual 189, 3) := by decide +kernel
theorem dX11_cuts_4 : decode cX11_cuts 4 = .ok (.ifCond .ne 6, 3) := by decide +kernel
theorem dX11_cuts_7 : decode cX11_cuts 7 = .ok (.bipush (-2), 2) := by decide +kernel
theorem dX11_cuts_9 : decode cX11_cuts 9 = .ok (.ireturn, 1) := by decide +kernel
theorem dX11_cuts_10 : decode cX11_cuts 10 = .ok (.iconst 0, 1) := by decide +kernel
theorem dX11_cuts_11 : decode cX11_cuts 11 = .ok (.istore_n 1, 1) := by decide +kernel
theorem dX11_cuts_12 : decode cX11_cuts 12 = .ok (.iconst 1, 1) := by decide +kernel
theorem dX11_cuts_13 : decode cX11_cuts 13 = .ok (.istore_n 2, 1) := by decide +kernel
theorem dX11_cuts_14 : decode cX11_cuts 14 = .ok (.iload_n 2, 1) := by decide +kernel
theorem dX11_cuts_15 : decode cX11_cuts 15 = .ok (.aload_n 0, 1) := by decide +kernel
theorem dX11_cuts_16 : decode cX11_cuts 16 = .ok (.getfield 7, 3) := by decide +kernel
theorem dX11_cuts_19 : decode cX11_cuts 19 = .ok (.if_icmp .ge 28, 3) := by decide +kernel
theorem dX11_cuts_22 : decode cX11_cuts 22 = .ok (.iload_n 1, 1) := by decide +kernel
theorem dX11_cuts_23 : decode cX11_cuts 23 = .ok (.aload_n 0, 1) := by decide +kernel
theorem dX11_cuts_24 : decode cX11_cuts 24 = .ok (.iload_n 2, 1) := by decide +kernel
theorem dX11_cuts_25 : decode cX11_cuts 25 = .ok (.invokevirtual 192, 3) := by decide +kernel
theorem dX11_cuts_28 : decode cX11_cuts 28 = .ok (.iload_n 2, 1) := by decide +kernel
theorem dX11_cuts_29 : decode cX11_cuts 29 = .ok (.if_icmp .ne 9, 3) := by decide +kernel
theorem dX11_cuts_32 : decode cX11_cuts 32 = .ok (.iconst 1, 1) := by decide +kernel
theorem dX11_cuts_33 : decode cX11_cuts 33 = .ok (.iload_n 2, 1) := by decide +kernel
theorem dX11_cuts_34 : decode cX11_cuts 34 = .ok (.ishl, 1) := by decide +kernel
theorem dX11_cuts_35 : decode cX11_cuts 35 = .ok (.goto 4, 3) := by decide +kernel
theorem dX11_cuts_38 : decode cX11_cuts 38 = .ok (.iconst 0, 1) := by decide +kernel
theorem dX11_cuts_39 : decode cX11_cuts 39 = .ok (.ior, 1) := by decide +kernel
theorem dX11_cuts_40 : decode cX11_cuts 40 = .ok (.istore_n 1, 1) := by decide +kernel
theorem dX11_cuts_41 : decode cX11_cuts 41 = .ok (.iinc 2 1, 3) := by decide +kernel
theorem dX11_cuts_44 : decode cX11_cuts 44 = .ok (.goto (-30), 3) := by decide +kernel
theorem dX11_cuts_47 : decode cX11_cuts 47 = .ok (.iload_n 1, 1) := by decide +kernel
theorem dX11_cuts_48 : decode cX11_cuts 48 = .ok (.ireturn, 1) := by decide +kernel
theorem dX11_primesOf_0 : decode cX11_primesOf 0 = .ok (.iload_n 0, 1) := by decide +kernel
theorem dX11_primesOf_1 : decode cX11_primesOf 1 = .ok (.iconst 1, 1) := by decide +kernel
theorem dX11_primesOf_2 : decode cX11_primesOf 2 = .ok (.isub, 1) := by decide +kernel
theorem dX11_primesOf_3 : decode cX11_primesOf 3 = .ok (.i2l, 1) := by decide +kernel
theorem dX11_primesOf_4 : decode cX11_primesOf 4 = .ok (.iload_n 0, 1) := by decide +kernel
theorem dX11_primesOf_5 : decode cX11_primesOf 5 = .ok (.iconst 1, 1) := by decide +kernel
theorem dX11_primesOf_6 : decode cX11_primesOf 6 = .ok (.isub, 1) := by decide +kernel
theorem dX11_primesOf_7 : decode cX11_primesOf 7 = .ok (.invokestatic 195, 3) := by decide +kernel
theorem dX11_primesOf_10 : decode cX11_primesOf 10 = .ok (.lreturn, 1) := by decide +kernel
theorem dX11_primes_0 : decode cX11_primes 0 = .ok (.aload_n 0, 1) := by decide +kernel
theorem dX11_primes_1 : decode cX11_primes 1 = .ok (.getfield 7, 3) := by decide +kernel
theorem dX11_primes_4 : decode cX11_primes 4 = .ok (.invokestatic 199, 3) := by decide +kernel
theorem dX11_primes_7 : decode cX11_primes 7 = .ok (.lreturn, 1) := by decide +kernel
theorem dX11_mend_0 : decode cX11_mend 0 = .ok (.aload_n 0, 1) := by decide +kernel
theorem dX11_mend_1 : decode cX11_mend 1 = .ok (.getfield 110, 3) := by decide +kernel
theorem dX11_mend_4 : decode cX11_mend 4 = .ok (.aload_n 0, 1) := by decide +kernel
theorem dX11_mend_5 : decode cX11_mend 5 = .ok (.getfield 7, 3) := by decide +kernel
theorem dX11_mend_8 : decode cX11_mend 8 = .ok (.if_icmp .ne 10, 3) := by decide +kernel
theorem dX11_mend_11 : decode cX11_mend 11 = .ok (.aload_n 0, 1) := by decide +kernel
theorem dX11_mend_12 : decode cX11_mend 12 = .ok (.invokevirtual 164, 3) := by decide +kernel
theorem dX11_mend_15 : decode cX11_mend 15 = .ok (.ifCond .ne 6, 3) := by decide +kernel
theorem dX11_mend_18 : decode cX11_mend 18 = .ok (.bipush (-2), 2) := by decide +kernel
theorem dX11_mend_20 : decode cX11_mend 20 = .ok (.ireturn, 1) := by decide +kernel
theorem dX11_mend_21 : decode cX11_mend 21 = .ok (.iconst 0, 1) := by decide +kernel
theorem dX11_mend_22 : decode cX11_mend 22 = .ok (.istore_n 1, 1) := by decide +kernel
theorem dX11_mend_23 : decode cX11_mend 23 = .ok (.aload_n 0, 1) := by decide +kernel
theorem dX11_mend_24 : decode cX11_mend 24 = .ok (.invokevirtual 139, 3) := by decide +kernel
theorem dX11_mend_27 : decode cX11_mend 27 = .ok (.ifCond .ne 55, 3) := by decide +kernel
theorem dX11_mend_30 : decode cX11_mend 30 = .ok (.iconst 1, 1) := by decide +kernel
theorem dX11_mend_31 : decode cX11_mend 31 = .ok (.istore_n 2, 1) := by decide +kernel
theorem dX11_mend_32 : decode cX11_mend 32 = .ok (.iconst 2, 1) := by decide +kernel
theorem dX11_mend_33 : decode cX11_mend 33 = .ok (.istore_n 3, 1) := by decide +kernel
theorem dX11_mend_34 : decode cX11_mend 34 = .ok (.iload_n 3, 1) := by decide +kernel
theorem dX11_mend_35 : decode cX11_mend 35 = .ok (.aload_n 0, 1) := by decide +kernel
theorem dX11_mend_36 : decode cX11_mend 36 = .ok (.getfield 110, 3) := by decide +kernel
theorem dX11_mend_39 : decode cX11_mend 39 = .ok (.if_icmp .gt 30, 3) := by decide +kernel
theorem dX11_mend_42 : decode cX11_mend 42 = .ok (.aload_n 0, 1) := by decide +kernel
theorem dX11_mend_43 : decode cX11_mend 43 = .ok (.getfield 13, 3) := by decide +kernel
theorem dX11_mend_46 : decode cX11_mend 46 = .ok (.iload_n 3, 1) := by decide +kernel
theorem dX11_mend_47 : decode cX11_mend 47 = .ok (.iaload, 1) := by decide +kernel
theorem dX11_mend_48 : decode cX11_mend 48 = .ok (.aload_n 0, 1) := by decide +kernel
theorem dX11_mend_49 : decode cX11_mend 49 = .ok (.getfield 13, 3) := by decide +kernel
theorem dX11_mend_52 : decode cX11_mend 52 = .ok (.iload_n 2, 1) := by decide +kernel
theorem dX11_mend_53 : decode cX11_mend 53 = .ok (.iaload, 1) := by decide +kernel
theorem dX11_mend_54 : decode cX11_mend 54 = .ok (.if_icmp .lt 7, 3) := by decide +kernel
theorem dX11_mend_57 : decode cX11_mend 57 = .ok (.iload_n 3, 1) := by decide +kernel
theorem dX11_mend_58 : decode cX11_mend 58 = .ok (.goto 4, 3) := by decide +kernel
theorem dX11_mend_61 : decode cX11_mend 61 = .ok (.iload_n 2, 1) := by decide +kernel
theorem dX11_mend_62 : decode cX11_mend 62 = .ok (.istore_n 2, 1) := by decide +kernel
theorem dX11_mend_63 : decode cX11_mend 63 = .ok (.iinc 3 1, 3) := by decide +kernel
theorem dX11_mend_66 : decode cX11_mend 66 = .ok (.goto (-32), 3) := by decide +kernel
theorem dX11_mend_69 : decode cX11_mend 69 = .ok (.aload_n 0, 1) := by decide +kernel
theorem dX11_mend_70 : decode cX11_mend 70 = .ok (.getfield 13, 3) := by decide +kernel
theorem dX11_mend_73 : decode cX11_mend 73 = .ok (.iload_n 2, 1) := by decide +kernel
theorem dX11_mend_74 : decode cX11_mend 74 = .ok (.iconst 1, 1) := by decide +kernel
theorem dX11_mend_75 : decode cX11_mend 75 = .ok (.iastore, 1) := by decide +kernel
theorem dX11_mend_76 : decode cX11_mend 76 = .ok (.iinc 1 1, 3) := by decide +kernel
theorem dX11_mend_79 : decode cX11_mend 79 = .ok (.goto (-56), 3) := by decide +kernel
theorem dX11_mend_82 : decode cX11_mend 82 = .ok (.iload_n 1, 1) := by decide +kernel
theorem dX11_mend_83 : decode cX11_mend 83 = .ok (.ireturn, 1) := by decide +kernel
theorem dX11_findTree_0 : decode cX11_findTree 0 = .ok (.iconst 1, 1) := by decide +kernel
theorem dX11_findTree_1 : decode cX11_findTree 1 = .ok (.istore_n 1, 1) := by decide +kernel
theorem dX11_findTree_2 : decode cX11_findTree 2 = .ok (.aload_n 0, 1) := by decide +kernel
theorem dX11_findTree_3 : decode cX11_findTree 3 = .ok (.getfield 45, 3) := by decide +kernel
theorem dX11_findTree_6 : decode cX11_findTree 6 = .ok (.iconst 0, 1) := by decide +kernel
theorem dX11_findTree_7 : decode cX11_findTree 7 = .ok (.iconst 0, 1) := by decide +kernel
theorem dX11_findTree_8 : decode cX11_findTree 8 = .ok (.iastore, 1) := by decide +kernel
theorem dX11_findTree_9 : decode cX11_findTree 9 = .ok (.aload_n 0, 1) := by decide +kernel
theorem dX11_findTree_10 : decode cX11_findTree 10 = .ok (.getfield 48, 3) := by decide +kernel
theorem dX11_findTree_13 : decode cX11_findTree 13 = .ok (.iconst 0, 1) := by decide +kernel
theorem dX11_findTree_14 : decode cX11_findTree 14 = .ok (.iconst 1, 1) := by decide +kernel
theorem dX11_findTree_15 : decode cX11_findTree 15 = .ok (.iastore, 1) := by decide +kernel
theorem dX11_findTree_16 : decode cX11_findTree 16 = .ok (.iconst 1, 1) := by decide +kernel
theorem dX11_findTree_17 : decode cX11_findTree 17 = .ok (.istore_n 2, 1) := by decide +kernel
theorem dX11_findTree_18 : decode cX11_findTree 18 = .ok (.iload_n 2, 1) := by decide +kernel
theorem dX11_findTree_19 : decode cX11_findTree 19 = .ok (.aload_n 0, 1) := by decide +kernel
theorem dX11_findTree_20 : decode cX11_findTree 20 = .ok (.getfield 7, 3) := by decide +kernel
theorem dX11_findTree_23 : decode cX11_findTree 23 = .ok (.if_icmp .gt 66, 3) := by decide +kernel
theorem dX11_findTree_26 : decode cX11_findTree 26 = .ok (.iconst 1, 1) := by decide +kernel
theorem dX11_findTree_27 : decode cX11_findTree 27 = .ok (.istore_n 3, 1) := by decide +kernel
theorem dX11_findTree_28 : decode cX11_findTree 28 = .ok (.iload_n 3, 1) := by decide +kernel
theorem dX11_findTree_29 : decode cX11_findTree 29 = .ok (.aload_n 0, 1) := by decide +kernel
theorem dX11_findTree_30 : decode cX11_findTree 30 = .ok (.getfield 110, 3) := by decide +kernel
theorem dX11_findTree_33 : decode cX11_findTree 33 = .ok (.if_icmp .gt 50, 3) := by decide +kernel
theorem dX11_findTree_36 : decode cX11_findTree 36 = .ok (.aload_n 0, 1) := by decide +kernel
theorem dX11_findTree_37 : decode cX11_findTree 37 = .ok (.getfield 13, 3) := by decide +kernel
theorem dX11_findTree_40 : decode cX11_findTree 40 = .ok (.iload_n 3, 1) := by decide +kernel
theorem dX11_findTree_41 : decode cX11_findTree 41 = .ok (.iaload, 1) := by decide +kernel
theorem dX11_findTree_42 : decode cX11_findTree 42 = .ok (.iload_n 2, 1) := by decide +kernel
theorem dX11_findTree_43 : decode cX11_findTree 43 = .ok (.if_icmp .ne 34, 3) := by decide +kernel
theorem dX11_findTree_46 : decode cX11_findTree 46 = .ok (.aload_n 0, 1) := by decide +kernel
theorem dX11_findTree_47 : decode cX11_findTree 47 = .ok (.getfield 42, 3) := by decide +kernel
theorem dX11_findTree_50 : decode cX11_findTree 50 = .ok (.iload_n 3, 1) := by decide +kernel
theorem dX11_findTree_51 : decode cX11_findTree 51 = .ok (.aload_n 0, 1) := by decide +kernel
theorem dX11_findTree_52 : decode cX11_findTree 52 = .ok (.getfield 45, 3) := by decide +kernel
theorem dX11_findTree_55 : decode cX11_findTree 55 = .ok (.iload_n 2, 1) := by decide +kernel
theorem dX11_findTree_56 : decode cX11_findTree 56 = .ok (.iconst 1, 1) := by decide +kernel
theorem dX11_findTree_57 : decode cX11_findTree 57 = .ok (.isub, 1) := by decide +kernel
theorem dX11_findTree_58 : decode cX11_findTree 58 = .ok (.iaload, 1) := by decide +kernel
theorem dX11_findTree_59 : decode cX11_findTree 59 = .ok (.iastore, 1) := by decide +kernel
theorem dX11_findTree_60 : decode cX11_findTree 60 = .ok (.aload_n 0, 1) := by decide +kernel
theorem dX11_findTree_61 : decode cX11_findTree 61 = .ok (.getfield 45, 3) := by decide +kernel
theorem dX11_findTree_64 : decode cX11_findTree 64 = .ok (.iload_n 1, 1) := by decide +kernel
theorem dX11_findTree_65 : decode cX11_findTree 65 = .ok (.iload_n 3, 1) := by decide +kernel
theorem dX11_findTree_66 : decode cX11_findTree 66 = .ok (.iastore, 1) := by decide +kernel
theorem dX11_findTree_67 : decode cX11_findTree 67 = .ok (.iinc 1 1, 3) := by decide +kernel
theorem dX11_findTree_70 : decode cX11_findTree 70 = .ok (.aload_n 0, 1) := by decide +kernel
theorem dX11_findTree_71 : decode cX11_findTree 71 = .ok (.getfield 48, 3) := by decide +kernel
theorem dX11_findTree_74 : decode cX11_findTree 74 = .ok (.iload_n 3, 1) := by decide +kernel
theorem dX11_findTree_75 : decode cX11_findTree 75 = .ok (.iload_n 1, 1) := by decide +kernel
theorem dX11_findTree_76 : decode cX11_findTree 76 = .ok (.iastore, 1) := by decide +kernel
theorem dX11_findTree_77 : decode cX11_findTree 77 = .ok (.iinc 3 1, 3) := by decide +kernel
theorem dX11_findTree_80 : decode cX11_findTree 80 = .ok (.goto (-52), 3) := by decide +kernel
theorem dX11_findTree_83 : decode cX11_findTree 83 = .ok (.iinc 2 1, 3) := by decide +kernel
theorem dX11_findTree_86 : decode cX11_findTree 86 = .ok (.goto (-68), 3) := by decide +kernel
theorem dX11_findTree_89 : decode cX11_findTree 89 = .ok (.return_, 1) := by decide +kernel
theorem dX11_isBelow_0 : decode cX11_isBelow 0 = .ok (.iload_n 1, 1) := by decide +kernel
theorem dX11_isBelow_1 : decode cX11_isBelow 1 = .ok (.istore_n 3, 1) := by decide +kernel
theorem dX11_isBelow_2 : decode cX11_isBelow 2 = .ok (.iload_n 3, 1) := by decide +kernel
theorem dX11_isBelow_3 : decode cX11_isBelow 3 = .ok (.ifCond .eq 17, 3) := by decide +kernel
theorem dX11_isBelow_6 : decode cX11_isBelow 6 = .ok (.aload_n 0, 1) := by decide +kernel
theorem dX11_isBelow_7 : decode cX11_isBelow 7 = .ok (.getfield 42, 3) := by decide +kernel
theorem dX11_isBelow_10 : decode cX11_isBelow 10 = .ok (.iload_n 3, 1) := by decide +kernel
theorem dX11_isBelow_11 : decode cX11_isBelow 11 = .ok (.iaload, 1) := by decide +kernel
theorem dX11_isBelow_12 : decode cX11_isBelow 12 = .ok (.istore_n 3, 1) := by decide +kernel
theorem dX11_isBelow_13 : decode cX11_isBelow 13 = .ok (.iload_n 3, 1) := by decide +kernel
theorem dX11_isBelow_14 : decode cX11_isBelow 14 = .ok (.iload_n 2, 1) := by decide +kernel
theorem dX11_isBelow_15 : decode cX11_isBelow 15 = .ok (.if_icmp .ne (-13), 3) := by decide +kernel
theorem dX11_isBelow_18 : decode cX11_isBelow 18 = .ok (.iconst 1, 1) := by decide +kernel
theorem dX11_isBelow_19 : decode cX11_isBelow 19 = .ok (.ireturn, 1) := by decide +kernel
theorem dX11_isBelow_20 : decode cX11_isBelow 20 = .ok (.iconst 0, 1) := by decide +kernel
theorem dX11_isBelow_21 : decode cX11_isBelow 21 = .ok (.ireturn, 1) := by decide +kernel
theorem dX11_node_0 : decode cX11_node 0 = .ok (.aload_n 0, 1) := by decide +kernel
theorem dX11_node_1 : decode cX11_node 1 = .ok (.iload_n 1, 1) := by decide +kernel
theorem dX11_node_2 : decode cX11_node 2 = .ok (.invokevirtual 117, 3) := by decide +kernel
theorem dX11_node_5 : decode cX11_node 5 = .ok (.ifCond .eq 15, 3) := by decide +kernel
theorem dX11_node_8 : decode cX11_node 8 = .ok (.iload_n 2, 1) := by decide +kernel
theorem dX11_node_9 : decode cX11_node 9 = .ok (.i2l, 1) := by decide +kernel
theorem dX11_node_10 : decode cX11_node 10 = .ok (.lconst 0, 1) := by decide +kernel
theorem dX11_node_11 : decode cX11_node 11 = .ok (.ldc2_w 121, 3) := by decide +kernel
theorem dX11_node_14 : decode cX11_node 14 = .ok (.invokestatic 96, 3) := by decide +kernel
theorem dX11_node_17 : decode cX11_node 17 = .ok (.ifCond .ne 5, 3) := by decide +kernel
theorem dX11_node_20 : decode cX11_node 20 = .ok (.iconst (-1), 1) := by decide +kernel
theorem dX11_node_21 : decode cX11_node 21 = .ok (.ireturn, 1) := by decide +kernel
theorem dX11_node_22 : decode cX11_node 22 = .ok (.aload_n 0, 1) := by decide +kernel
theorem dX11_node_23 : decode cX11_node 23 = .ok (.invokevirtual 189, 3) := by decide +kernel
theorem dX11_node_26 : decode cX11_node 26 = .ok (.ifCond .ne 6, 3) := by decide +kernel
theorem dX11_node_29 : decode cX11_node 29 = .ok (.bipush (-2), 2) := by decide +kernel
theorem dX11_node_31 : decode cX11_node 31 = .ok (.ireturn, 1) := by decide +kernel
theorem dX11_node_32 : decode cX11_node 32 = .ok (.aload_n 0, 1) := by decide +kernel
theorem dX11_node_33 : decode cX11_node 33 = .ok (.invokevirtual 202, 3) := by decide +kernel
theorem dX11_node_36 : decode cX11_node 36 = .ok (.iconst 0, 1) := by decide +kernel
theorem dX11_node_37 : decode cX11_node 37 = .ok (.istore_n 3, 1) := by decide +kernel
theorem dX11_node_38 : decode cX11_node 38 = .ok (.iload_n 2, 1) := by decide +kernel
theorem dX11_node_39 : decode cX11_node 39 = .ok (.tableswitch 118 0 3 #[29, 36, 61, 61], 29) := by decide +kernel
theorem dX11_node_68 : decode cX11_node 68 = .ok (.aload_n 0, 1) := by decide +kernel
theorem dX11_node_69 : decode cX11_node 69 = .ok (.getfield 42, 3) := by decide +kernel
theorem dX11_node_72 : decode cX11_node 72 = .ok (.iload_n 1, 1) := by decide +kernel
theorem dX11_node_73 : decode cX11_node 73 = .ok (.iaload, 1) := by decide +kernel
theorem dX11_node_74 : decode cX11_node 74 = .ok (.ireturn, 1) := by decide +kernel
theorem dX11_node_75 : decode cX11_node 75 = .ok (.iload_n 1, 1) := by decide +kernel
