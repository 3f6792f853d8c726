theorem dX11_node_76 : decode cX11_node 76 = .ok (.istore 4, 2) := by decide +kernel
theorem dX11_node_78 : decode cX11_node 78 = .ok (.iload 4, 2) := by decide +kernel
theorem dX11_node_80 : decode cX11_node 80 = .ok (.ifCond .eq 18, 3) := by decide +kernel
theorem dX11_node_83 : decode cX11_node 83 = .ok (.iinc 3 1, 3) := by decide +kernel
theorem dX11_node_86 : decode cX11_node 86 = .ok (.aload_n 0, 1) := by decide +kernel
theorem dX11_node_87 : decode cX11_node 87 = .ok (.getfield 42, 3) := by decide +kernel
theorem dX11_node_90 : decode cX11_node 90 = .ok (.iload 4, 2) := by decide +kernel
theorem dX11_node_92 : decode cX11_node 92 = .ok (.iaload, 1) := by decide +kernel
theorem dX11_node_93 : decode cX11_node 93 = .ok (.istore 4, 2) := by decide +kernel
theorem dX11_node_95 : decode cX11_node 95 = .ok (.goto (-17), 3) := by decide +kernel
theorem dX11_node_98 : decode cX11_node 98 = .ok (.iload_n 3, 1) := by decide +kernel
theorem dX11_node_99 : decode cX11_node 99 = .ok (.ireturn, 1) := by decide +kernel
theorem dX11_node_100 : decode cX11_node 100 = .ok (.iconst 1, 1) := by decide +kernel
theorem dX11_node_101 : decode cX11_node 101 = .ok (.istore 4, 2) := by decide +kernel
theorem dX11_node_103 : decode cX11_node 103 = .ok (.iload 4, 2) := by decide +kernel
theorem dX11_node_105 : decode cX11_node 105 = .ok (.aload_n 0, 1) := by decide +kernel
theorem dX11_node_106 : decode cX11_node 106 = .ok (.getfield 7, 3) := by decide +kernel
theorem dX11_node_109 : decode cX11_node 109 = .ok (.if_icmp .gt 46, 3) := by decide +kernel
theorem dX11_node_112 : decode cX11_node 112 = .ok (.iload_n 3, 1) := by decide +kernel
theorem dX11_node_113 : decode cX11_node 113 = .ok (.iload_n 2, 1) := by decide +kernel
theorem dX11_node_114 : decode cX11_node 114 = .ok (.iconst 2, 1) := by decide +kernel
theorem dX11_node_115 : decode cX11_node 115 = .ok (.if_icmp .ne 17, 3) := by decide +kernel
theorem dX11_node_118 : decode cX11_node 118 = .ok (.aload_n 0, 1) := by decide +kernel
theorem dX11_node_119 : decode cX11_node 119 = .ok (.getfield 42, 3) := by decide +kernel
theorem dX11_node_122 : decode cX11_node 122 = .ok (.iload 4, 2) := by decide +kernel
theorem dX11_node_124 : decode cX11_node 124 = .ok (.iaload, 1) := by decide +kernel
theorem dX11_node_125 : decode cX11_node 125 = .ok (.iload_n 1, 1) := by decide +kernel
theorem dX11_node_126 : decode cX11_node 126 = .ok (.if_icmp .ne 20, 3) := by decide +kernel
theorem dX11_node_129 : decode cX11_node 129 = .ok (.goto 13, 3) := by decide +kernel
theorem dX11_node_132 : decode cX11_node 132 = .ok (.aload_n 0, 1) := by decide +kernel
theorem dX11_node_133 : decode cX11_node 133 = .ok (.iload 4, 2) := by decide +kernel
theorem dX11_node_135 : decode cX11_node 135 = .ok (.iload_n 1, 1) := by decide +kernel
theorem dX11_node_136 : decode cX11_node 136 = .ok (.invokevirtual 205, 3) := by decide +kernel
theorem dX11_node_139 : decode cX11_node 139 = .ok (.ifCond .eq 7, 3) := by decide +kernel
theorem dX11_node_142 : decode cX11_node 142 = .ok (.iconst 1, 1) := by decide +kernel
theorem dX11_node_143 : decode cX11_node 143 = .ok (.goto 4, 3) := by decide +kernel
theorem dX11_node_146 : decode cX11_node 146 = .ok (.iconst 0, 1) := by decide +kernel
theorem dX11_node_147 : decode cX11_node 147 = .ok (.iadd, 1) := by decide +kernel
theorem dX11_node_148 : decode cX11_node 148 = .ok (.istore_n 3, 1) := by decide +kernel
theorem dX11_node_149 : decode cX11_node 149 = .ok (.iinc 4 1, 3) := by decide +kernel
theorem dX11_node_152 : decode cX11_node 152 = .ok (.goto (-49), 3) := by decide +kernel
theorem dX11_node_155 : decode cX11_node 155 = .ok (.iload_n 3, 1) := by decide +kernel
theorem dX11_node_156 : decode cX11_node 156 = .ok (.ireturn, 1) := by decide +kernel
theorem dX11_node_157 : decode cX11_node 157 = .ok (.aload_n 0, 1) := by decide +kernel
theorem dX11_node_158 : decode cX11_node 158 = .ok (.getfield 48, 3) := by decide +kernel
theorem dX11_node_161 : decode cX11_node 161 = .ok (.iload_n 1, 1) := by decide +kernel
theorem dX11_node_162 : decode cX11_node 162 = .ok (.iaload, 1) := by decide +kernel
theorem dX11_node_163 : decode cX11_node 163 = .ok (.ireturn, 1) := by decide +kernel
theorem dX11_inv_0 : decode cX11_inv 0 = .ok (.aload_n 0, 1) := by decide +kernel
theorem dX11_inv_1 : decode cX11_inv 1 = .ok (.invokevirtual 189, 3) := by decide +kernel
theorem dX11_inv_4 : decode cX11_inv 4 = .ok (.ifCond .ne 6, 3) := by decide +kernel
theorem dX11_inv_7 : decode cX11_inv 7 = .ok (.bipush (-2), 2) := by decide +kernel
theorem dX11_inv_9 : decode cX11_inv 9 = .ok (.ireturn, 1) := by decide +kernel
theorem dX11_inv_10 : decode cX11_inv 10 = .ok (.aload_n 0, 1) := by decide +kernel
theorem dX11_inv_11 : decode cX11_inv 11 = .ok (.invokevirtual 202, 3) := by decide +kernel
theorem dX11_inv_14 : decode cX11_inv 14 = .ok (.iconst 0, 1) := by decide +kernel
theorem dX11_inv_15 : decode cX11_inv 15 = .ok (.istore_n 1, 1) := by decide +kernel
theorem dX11_inv_16 : decode cX11_inv 16 = .ok (.iconst 1, 1) := by decide +kernel
theorem dX11_inv_17 : decode cX11_inv 17 = .ok (.istore_n 2, 1) := by decide +kernel
theorem dX11_inv_18 : decode cX11_inv 18 = .ok (.iload_n 2, 1) := by decide +kernel
theorem dX11_inv_19 : decode cX11_inv 19 = .ok (.aload_n 0, 1) := by decide +kernel
theorem dX11_inv_20 : decode cX11_inv 20 = .ok (.getfield 7, 3) := by decide +kernel
theorem dX11_inv_23 : decode cX11_inv 23 = .ok (.if_icmp .gt 44, 3) := by decide +kernel
theorem dX11_inv_26 : decode cX11_inv 26 = .ok (.iload_n 2, 1) := by decide +kernel
theorem dX11_inv_27 : decode cX11_inv 27 = .ok (.iconst 1, 1) := by decide +kernel
theorem dX11_inv_28 : decode cX11_inv 28 = .ok (.iadd, 1) := by decide +kernel
theorem dX11_inv_29 : decode cX11_inv 29 = .ok (.istore_n 3, 1) := by decide +kernel
theorem dX11_inv_30 : decode cX11_inv 30 = .ok (.iload_n 3, 1) := by decide +kernel
theorem dX11_inv_31 : decode cX11_inv 31 = .ok (.aload_n 0, 1) := by decide +kernel
theorem dX11_inv_32 : decode cX11_inv 32 = .ok (.getfield 7, 3) := by decide +kernel
theorem dX11_inv_35 : decode cX11_inv 35 = .ok (.if_icmp .gt 26, 3) := by decide +kernel
theorem dX11_inv_38 : decode cX11_inv 38 = .ok (.iload_n 1, 1) := by decide +kernel
theorem dX11_inv_39 : decode cX11_inv 39 = .ok (.aload_n 0, 1) := by decide +kernel
theorem dX11_inv_40 : decode cX11_inv 40 = .ok (.iload_n 2, 1) := by decide +kernel
theorem dX11_inv_41 : decode cX11_inv 41 = .ok (.iload_n 3, 1) := by decide +kernel
theorem dX11_inv_42 : decode cX11_inv 42 = .ok (.invokevirtual 205, 3) := by decide +kernel
theorem dX11_inv_45 : decode cX11_inv 45 = .ok (.ifCond .eq 7, 3) := by decide +kernel
theorem dX11_inv_48 : decode cX11_inv 48 = .ok (.iconst 1, 1) := by decide +kernel
theorem dX11_inv_49 : decode cX11_inv 49 = .ok (.goto 4, 3) := by decide +kernel
theorem dX11_inv_52 : decode cX11_inv 52 = .ok (.iconst 0, 1) := by decide +kernel
theorem dX11_inv_53 : decode cX11_inv 53 = .ok (.iadd, 1) := by decide +kernel
theorem dX11_inv_54 : decode cX11_inv 54 = .ok (.istore_n 1, 1) := by decide +kernel
theorem dX11_inv_55 : decode cX11_inv 55 = .ok (.iinc 3 1, 3) := by decide +kernel
theorem dX11_inv_58 : decode cX11_inv 58 = .ok (.goto (-28), 3) := by decide +kernel
theorem dX11_inv_61 : decode cX11_inv 61 = .ok (.iinc 2 1, 3) := by decide +kernel
theorem dX11_inv_64 : decode cX11_inv 64 = .ok (.goto (-46), 3) := by decide +kernel
theorem dX11_inv_67 : decode cX11_inv 67 = .ok (.iload_n 1, 1) := by decide +kernel
theorem dX11_inv_68 : decode cX11_inv 68 = .ok (.ireturn, 1) := by decide +kernel
theorem dX11_neighbourOf_0 : decode cX11_neighbourOf 0 = .ok (.iconst (-1), 1) := by decide +kernel
theorem dX11_neighbourOf_1 : decode cX11_neighbourOf 1 = .ok (.istore_n 2, 1) := by decide +kernel
theorem dX11_neighbourOf_2 : decode cX11_neighbourOf 2 = .ok (.iconst 0, 1) := by decide +kernel
theorem dX11_neighbourOf_3 : decode cX11_neighbourOf 3 = .ok (.istore_n 3, 1) := by decide +kernel
theorem dX11_neighbourOf_4 : decode cX11_neighbourOf 4 = .ok (.iconst 1, 1) := by decide +kernel
theorem dX11_neighbourOf_5 : decode cX11_neighbourOf 5 = .ok (.istore 4, 2) := by decide +kernel
theorem dX11_neighbourOf_7 : decode cX11_neighbourOf 7 = .ok (.iload 4, 2) := by decide +kernel
theorem dX11_neighbourOf_9 : decode cX11_neighbourOf 9 = .ok (.aload_n 0, 1) := by decide +kernel
theorem dX11_neighbourOf_10 : decode cX11_neighbourOf 10 = .ok (.getfield 7, 3) := by decide +kernel
theorem dX11_neighbourOf_13 : decode cX11_neighbourOf 13 = .ok (.if_icmp .gt 75, 3) := by decide +kernel
theorem dX11_neighbourOf_16 : decode cX11_neighbourOf 16 = .ok (.iload 4, 2) := by decide +kernel
theorem dX11_neighbourOf_18 : decode cX11_neighbourOf 18 = .ok (.iload_n 1, 1) := by decide +kernel
theorem dX11_neighbourOf_19 : decode cX11_neighbourOf 19 = .ok (.if_icmp .ne 13, 3) := by decide +kernel
theorem dX11_neighbourOf_22 : decode cX11_neighbourOf 22 = .ok (.aload_n 0, 1) := by decide +kernel
theorem dX11_neighbourOf_23 : decode cX11_neighbourOf 23 = .ok (.getfield 42, 3) := by decide +kernel
theorem dX11_neighbourOf_26 : decode cX11_neighbourOf 26 = .ok (.iload 4, 2) := by decide +kernel
theorem dX11_neighbourOf_28 : decode cX11_neighbourOf 28 = .ok (.iaload, 1) := by decide +kernel
theorem dX11_neighbourOf_29 : decode cX11_neighbourOf 29 = .ok (.goto 20, 3) := by decide +kernel
theorem dX11_neighbourOf_32 : decode cX11_neighbourOf 32 = .ok (.aload_n 0, 1) := by decide +kernel
theorem dX11_neighbourOf_33 : decode cX11_neighbourOf 33 = .ok (.getfield 42, 3) := by decide +kernel
theorem dX11_neighbourOf_36 : decode cX11_neighbourOf 36 = .ok (.iload 4, 2) := by decide +kernel
theorem dX11_neighbourOf_38 : decode cX11_neighbourOf 38 = .ok (.iaload, 1) := by decide +kernel
theorem dX11_neighbourOf_39 : decode cX11_neighbourOf 39 = .ok (.iload_n 1, 1) := by decide +kernel
theorem dX11_neighbourOf_40 : decode cX11_neighbourOf 40 = .ok (.if_icmp .ne 8, 3) := by decide +kernel
theorem dX11_neighbourOf_43 : decode cX11_neighbourOf 43 = .ok (.iload 4, 2) := by decide +kernel
theorem dX11_neighbourOf_45 : decode cX11_neighbourOf 45 = .ok (.goto 4, 3) := by decide +kernel
theorem dX11_neighbourOf_48 : decode cX11_neighbourOf 48 = .ok (.iconst (-1), 1) := by decide +kernel
theorem dX11_neighbourOf_49 : decode cX11_neighbourOf 49 = .ok (.istore 5, 2) := by decide +kernel
theorem dX11_neighbourOf_51 : decode cX11_neighbourOf 51 = .ok (.iload 5, 2) := by decide +kernel
theorem dX11_neighbourOf_53 : decode cX11_neighbourOf 53 = .ok (.ifCond .lt 29, 3) := by decide +kernel
theorem dX11_neighbourOf_56 : decode cX11_neighbourOf 56 = .ok (.aload_n 0, 1) := by decide +kernel
theorem dX11_neighbourOf_57 : decode cX11_neighbourOf 57 = .ok (.getfield 51, 3) := by decide +kernel
theorem dX11_neighbourOf_60 : decode cX11_neighbourOf 60 = .ok (.iload 4, 2) := by decide +kernel
theorem dX11_neighbourOf_62 : decode cX11_neighbourOf 62 = .ok (.baload, 1) := by decide +kernel
theorem dX11_neighbourOf_63 : decode cX11_neighbourOf 63 = .ok (.ifCond .ne 19, 3) := by decide +kernel
theorem dX11_neighbourOf_66 : decode cX11_neighbourOf 66 = .ok (.aload_n 0, 1) := by decide +kernel
theorem dX11_neighbourOf_67 : decode cX11_neighbourOf 67 = .ok (.getfield 51, 3) := by decide +kernel
theorem dX11_neighbourOf_70 : decode cX11_neighbourOf 70 = .ok (.iload 5, 2) := by decide +kernel
theorem dX11_neighbourOf_72 : decode cX11_neighbourOf 72 = .ok (.baload, 1) := by decide +kernel
theorem dX11_neighbourOf_73 : decode cX11_neighbourOf 73 = .ok (.ifCond .ne 9, 3) := by decide +kernel
theorem dX11_neighbourOf_76 : decode cX11_neighbourOf 76 = .ok (.iload 5, 2) := by decide +kernel
theorem dX11_neighbourOf_78 : decode cX11_neighbourOf 78 = .ok (.istore_n 2, 1) := by decide +kernel
theorem dX11_neighbourOf_79 : decode cX11_neighbourOf 79 = .ok (.iinc 3 1, 3) := by decide +kernel
theorem dX11_neighbourOf_82 : decode cX11_neighbourOf 82 = .ok (.iinc 4 1, 3) := by decide +kernel
theorem dX11_neighbourOf_85 : decode cX11_neighbourOf 85 = .ok (.goto (-78), 3) := by decide +kernel
theorem dX11_neighbourOf_88 : decode cX11_neighbourOf 88 = .ok (.iload_n 3, 1) := by decide +kernel
theorem dX11_neighbourOf_89 : decode cX11_neighbourOf 89 = .ok (.iconst 1, 1) := by decide +kernel
theorem dX11_neighbourOf_90 : decode cX11_neighbourOf 90 = .ok (.if_icmp .ne 7, 3) := by decide +kernel
theorem dX11_neighbourOf_93 : decode cX11_neighbourOf 93 = .ok (.iload_n 2, 1) := by decide +kernel
theorem dX11_neighbourOf_94 : decode cX11_neighbourOf 94 = .ok (.goto 4, 3) := by decide +kernel
theorem dX11_neighbourOf_97 : decode cX11_neighbourOf 97 = .ok (.iconst (-1), 1) := by decide +kernel
theorem dX11_neighbourOf_98 : decode cX11_neighbourOf 98 = .ok (.ireturn, 1) := by decide +kernel
theorem dX11_code_0 : decode cX11_code 0 = .ok (.iload_n 1, 1) := by decide +kernel
theorem dX11_code_1 : decode cX11_code 1 = .ok (.i2l, 1) := by decide +kernel
theorem dX11_code_2 : decode cX11_code 2 = .ok (.lconst 0, 1) := by decide +kernel
theorem dX11_code_3 : decode cX11_code 3 = .ok (.aload_n 0, 1) := by decide +kernel
theorem dX11_code_4 : decode cX11_code 4 = .ok (.getfield 7, 3) := by decide +kernel
theorem dX11_code_7 : decode cX11_code 7 = .ok (.iconst 2, 1) := by decide +kernel
theorem dX11_code_8 : decode cX11_code 8 = .ok (.isub, 1) := by decide +kernel
theorem dX11_code_9 : decode cX11_code 9 = .ok (.i2l, 1) := by decide +kernel
theorem dX11_code_10 : decode cX11_code 10 = .ok (.invokestatic 96, 3) := by decide +kernel
theorem dX11_code_13 : decode cX11_code 13 = .ok (.ifCond .ne 5, 3) := by decide +kernel
theorem dX11_code_16 : decode cX11_code 16 = .ok (.iconst (-1), 1) := by decide +kernel
theorem dX11_code_17 : decode cX11_code 17 = .ok (.ireturn, 1) := by decide +kernel
theorem dX11_code_18 : decode cX11_code 18 = .ok (.aload_n 0, 1) := by decide +kernel
theorem dX11_code_19 : decode cX11_code 19 = .ok (.invokevirtual 189, 3) := by decide +kernel
theorem dX11_code_22 : decode cX11_code 22 = .ok (.ifCond .ne 6, 3) := by decide +kernel
theorem dX11_code_25 : decode cX11_code 25 = .ok (.bipush (-2), 2) := by decide +kernel
theorem dX11_code_27 : decode cX11_code 27 = .ok (.ireturn, 1) := by decide +kernel
theorem dX11_code_28 : decode cX11_code 28 = .ok (.aload_n 0, 1) := by decide +kernel
theorem dX11_code_29 : decode cX11_code 29 = .ok (.invokevirtual 202, 3) := by decide +kernel
theorem dX11_code_32 : decode cX11_code 32 = .ok (.iconst 0, 1) := by decide +kernel
theorem dX11_code_33 : decode cX11_code 33 = .ok (.istore_n 2, 1) := by decide +kernel
theorem dX11_code_34 : decode cX11_code 34 = .ok (.iload_n 2, 1) := by decide +kernel
theorem dX11_code_35 : decode cX11_code 35 = .ok (.aload_n 0, 1) := by decide +kernel
theorem dX11_code_36 : decode cX11_code 36 = .ok (.getfield 7, 3) := by decide +kernel
theorem dX11_code_39 : decode cX11_code 39 = .ok (.if_icmp .gt 16, 3) := by decide +kernel
theorem dX11_code_42 : decode cX11_code 42 = .ok (.aload_n 0, 1) := by decide +kernel
theorem dX11_code_43 : decode cX11_code 43 = .ok (.getfield 51, 3) := by decide +kernel
theorem dX11_code_46 : decode cX11_code 46 = .ok (.iload_n 2, 1) := by decide +kernel
theorem dX11_code_47 : decode cX11_code 47 = .ok (.iconst 0, 1) := by decide +kernel
theorem dX11_code_48 : decode cX11_code 48 = .ok (.bastore, 1) := by decide +kernel
theorem dX11_code_49 : decode cX11_code 49 = .ok (.iinc 2 1, 3) := by decide +kernel
theorem dX11_code_52 : decode cX11_code 52 = .ok (.goto (-18), 3) := by decide +kernel
theorem dX11_code_55 : decode cX11_code 55 = .ok (.iconst (-1), 1) := by decide +kernel
theorem dX11_code_56 : decode cX11_code 56 = .ok (.istore_n 2, 1) := by decide +kernel
theorem dX11_code_57 : decode cX11_code 57 = .ok (.iconst 0, 1) := by decide +kernel
theorem dX11_code_58 : decode cX11_code 58 = .ok (.istore_n 3, 1) := by decide +kernel
theorem dX11_code_59 : decode cX11_code 59 = .ok (.iload_n 3, 1) := by decide +kernel
theorem dX11_code_60 : decode cX11_code 60 = .ok (.iload_n 1, 1) := by decide +kernel
theorem dX11_code_61 : decode cX11_code 61 = .ok (.if_icmp .gt 55, 3) := by decide +kernel
theorem dX11_code_64 : decode cX11_code 64 = .ok (.aload_n 0, 1) := by decide +kernel
theorem dX11_code_65 : decode cX11_code 65 = .ok (.getfield 7, 3) := by decide +kernel
theorem dX11_code_68 : decode cX11_code 68 = .ok (.istore 4, 2) := by decide +kernel
theorem dX11_code_70 : decode cX11_code 70 = .ok (.aload_n 0, 1) := by decide +kernel
theorem dX11_code_71 : decode cX11_code 71 = .ok (.getfield 51, 3) := by decide +kernel
theorem dX11_code_74 : decode cX11_code 74 = .ok (.iload 4, 2) := by decide +kernel
theorem dX11_code_76 : decode cX11_code 76 = .ok (.baload, 1) := by decide +kernel
theorem dX11_code_77 : decode cX11_code 77 = .ok (.ifCond .ne 12, 3) := by decide +kernel
theorem dX11_code_80 : decode cX11_code 80 = .ok (.aload_n 0, 1) := by decide +kernel
theorem dX11_code_81 : decode cX11_code 81 = .ok (.iload 4, 2) := by decide +kernel
theorem dX11_code_83 : decode cX11_code 83 = .ok (.invokevirtual 208, 3) := by decide +kernel
theorem dX11_code_86 : decode cX11_code 86 = .ok (.ifCond .ge 9, 3) := by decide +kernel
theorem dX11_code_89 : decode cX11_code 89 = .ok (.iinc 4 (-1), 3) := by decide +kernel
theorem dX11_code_92 : decode cX11_code 92 = .ok (.goto (-22), 3) := by decide +kernel
theorem dX11_code_95 : decode cX11_code 95 = .ok (.aload_n 0, 1) := by decide +kernel
theorem dX11_code_96 : decode cX11_code 96 = .ok (.iload 4, 2) := by decide +kernel
theorem dX11_code_98 : decode cX11_code 98 = .ok (.invokevirtual 208, 3) := by decide +kernel
theorem dX11_code_101 : decode cX11_code 101 = .ok (.istore_n 2, 1) := by decide +kernel
theorem dX11_code_102 : decode cX11_code 102 = .ok (.aload_n 0, 1) := by decide +kernel
theorem dX11_code_103 : decode cX11_code 103 = .ok (.getfield 51, 3) := by decide +kernel
theorem dX11_code_106 : decode cX11_code 106 = .ok (.iload 4, 2) := by decide +kernel
theorem dX11_code_108 : decode cX11_code 108 = .ok (.iconst 1, 1) := by decide +kernel
theorem dX11_code_109 : decode cX11_code 109 = .ok (.bastore, 1) := by decide +kernel
theorem dX11_code_110 : decode cX11_code 110 = .ok (.iinc 3 1, 3) := by decide +kernel
theorem dX11_code_113 : decode cX11_code 113 = .ok (.goto (-54), 3) := by decide +kernel
theorem dX11_code_116 : decode cX11_code 116 = .ok (.iload_n 2, 1) := by decide +kernel
theorem dX11_code_117 : decode cX11_code 117 = .ok (.ireturn, 1) := by decide +kernel
theorem dX11_read_0 : decode cX11_read 0 = .ok (.aload_n 0, 1) := by decide +kernel
theorem dX11_read_1 : decode cX11_read 1 = .ok (.getfield 91, 3) := by decide +kernel
theorem dX11_read_4 : decode cX11_read 4 = .ok (.bipush 20, 2) := by decide +kernel
theorem dX11_read_6 : decode cX11_read 6 = .ok (.iload_n 1, 1) := by decide +kernel
theorem dX11_read_7 : decode cX11_read 7 = .ok (.imul, 1) := by decide +kernel
theorem dX11_read_8 : decode cX11_read 8 = .ok (.iload_n 2, 1) := by decide +kernel
theorem dX11_read_9 : decode cX11_read 9 = .ok (.iadd, 1) := by decide +kernel
theorem dX11_read_10 : decode cX11_read 10 = .ok (.iaload, 1) := by decide +kernel
theorem dX11_read_11 : decode cX11_read 11 = .ok (.ireturn, 1) := by decide +kernel
theorem dX11_plant_0 : decode cX11_plant 0 = .ok (.iconst 1, 1) := by decide +kernel
theorem dX11_plant_1 : decode cX11_plant 1 = .ok (.istore_n 1, 1) := by decide +kernel
theorem dX11_plant_2 : decode cX11_plant 2 = .ok (.aload_n 0, 1) := by decide +kernel
theorem dX11_plant_3 : decode cX11_plant 3 = .ok (.getfield 45, 3) := by decide +kernel
theorem dX11_plant_6 : decode cX11_plant 6 = .ok (.iconst 0, 1) := by decide +kernel
theorem dX11_plant_7 : decode cX11_plant 7 = .ok (.iconst 0, 1) := by decide +kernel
theorem dX11_plant_8 : decode cX11_plant 8 = .ok (.iastore, 1) := by decide +kernel
theorem dX11_plant_9 : decode cX11_plant 9 = .ok (.iconst 0, 1) := by decide +kernel
theorem dX11_plant_10 : decode cX11_plant 10 = .ok (.istore_n 2, 1) := by decide +kernel
theorem dX11_plant_11 : decode cX11_plant 11 = .ok (.iload_n 2, 1) := by decide +kernel
theorem dX11_plant_12 : decode cX11_plant 12 = .ok (.iload_n 1, 1) := by decide +kernel
theorem dX11_plant_13 : decode cX11_plant 13 = .ok (.if_icmp .ge 66, 3) := by decide +kernel
theorem dX11_plant_16 : decode cX11_plant 16 = .ok (.iconst 1, 1) := by decide +kernel
theorem dX11_plant_17 : decode cX11_plant 17 = .ok (.istore_n 3, 1) := by decide +kernel
theorem dX11_plant_18 : decode cX11_plant 18 = .ok (.iload_n 3, 1) := by decide +kernel
theorem dX11_plant_19 : decode cX11_plant 19 = .ok (.aload_n 0, 1) := by decide +kernel
theorem dX11_plant_20 : decode cX11_plant 20 = .ok (.getfield 7, 3) := by decide +kernel
theorem dX11_plant_23 : decode cX11_plant 23 = .ok (.if_icmp .gt 50, 3) := by decide +kernel
theorem dX11_plant_26 : decode cX11_plant 26 = .ok (.aload_n 0, 1) := by decide +kernel
theorem dX11_plant_27 : decode cX11_plant 27 = .ok (.getfield 42, 3) := by decide +kernel
theorem dX11_plant_30 : decode cX11_plant 30 = .ok (.iload_n 3, 1) := by decide +kernel
theorem dX11_plant_31 : decode cX11_plant 31 = .ok (.iaload, 1) := by decide +kernel
theorem dX11_plant_32 : decode cX11_plant 32 = .ok (.aload_n 0, 1) := by decide +kernel
theorem dX11_plant_33 : decode cX11_plant 33 = .ok (.getfield 45, 3) := by decide +kernel
theorem dX11_plant_36 : decode cX11_plant 36 = .ok (.iload_n 2, 1) := by decide +kernel
theorem dX11_plant_37 : decode cX11_plant 37 = .ok (.iaload, 1) := by decide +kernel
theorem dX11_plant_38 : decode cX11_plant 38 = .ok (.if_icmp .ne 29, 3) := by decide +kernel
theorem dX11_plant_41 : decode cX11_plant 41 = .ok (.aload_n 0, 1) := by decide +kernel
theorem dX11_plant_42 : decode cX11_plant 42 = .ok (.getfield 45, 3) := by decide +kernel
theorem dX11_plant_45 : decode cX11_plant 45 = .ok (.iload_n 1, 1) := by decide +kernel
theorem dX11_plant_46 : decode cX11_plant 46 = .ok (.iload_n 3, 1) := by decide +kernel
theorem dX11_plant_47 : decode cX11_plant 47 = .ok (.iastore, 1) := by decide +kernel
theorem dX11_plant_48 : decode cX11_plant 48 = .ok (.iinc 1 1, 3) := by decide +kernel
theorem dX11_plant_51 : decode cX11_plant 51 = .ok (.aload_n 0, 1) := by decide +kernel
theorem dX11_plant_52 : decode cX11_plant 52 = .ok (.getfield 13, 3) := by decide +kernel
theorem dX11_plant_55 : decode cX11_plant 55 = .ok (.iload_n 3, 1) := by decide +kernel
theorem dX11_plant_56 : decode cX11_plant 56 = .ok (.iload_n 2, 1) := by decide +kernel
theorem dX11_plant_57 : decode cX11_plant 57 = .ok (.iconst 1, 1) := by decide +kernel
theorem dX11_plant_58 : decode cX11_plant 58 = .ok (.iadd, 1) := by decide +kernel
theorem dX11_plant_59 : decode cX11_plant 59 = .ok (.iastore, 1) := by decide +kernel
theorem dX11_plant_60 : decode cX11_plant 60 = .ok (.aload_n 0, 1) := by decide +kernel
theorem dX11_plant_61 : decode cX11_plant 61 = .ok (.getfield 17, 3) := by decide +kernel
theorem dX11_plant_64 : decode cX11_plant 64 = .ok (.iload_n 3, 1) := by decide +kernel
theorem dX11_plant_65 : decode cX11_plant 65 = .ok (.iconst 1, 1) := by decide +kernel
theorem dX11_plant_66 : decode cX11_plant 66 = .ok (.iastore, 1) := by decide +kernel
theorem dX11_plant_67 : decode cX11_plant 67 = .ok (.iinc 3 1, 3) := by decide +kernel
theorem dX11_plant_70 : decode cX11_plant 70 = .ok (.goto (-52), 3) := by decide +kernel
theorem dX11_plant_73 : decode cX11_plant 73 = .ok (.iinc 2 1, 3) := by decide +kernel
theorem dX11_plant_76 : decode cX11_plant 76 = .ok (.goto (-65), 3) := by decide +kernel
theorem dX11_plant_79 : decode cX11_plant 79 = .ok (.aload_n 0, 1) := by decide +kernel
theorem dX11_plant_80 : decode cX11_plant 80 = .ok (.aload_n 0, 1) := by decide +kernel
theorem dX11_plant_81 : decode cX11_plant 81 = .ok (.getfield 7, 3) := by decide +kernel
theorem dX11_plant_84 : decode cX11_plant 84 = .ok (.putfield 110, 3) := by decide +kernel
theorem dX11_plant_87 : decode cX11_plant 87 = .ok (.return_, 1) := by decide +kernel
theorem dX11_decode_0 : decode cX11_decode 0 = .ok (.iload_n 1, 1) := by decide +kernel
theorem dX11_decode_1 : decode cX11_decode 1 = .ok (.iload_n 2, 1) := by decide +kernel
theorem dX11_decode_2 : decode cX11_decode 2 = .ok (.invokestatic 211, 3) := by decide +kernel
theorem dX11_decode_5 : decode cX11_decode 5 = .ok (.ifCond .ne 5, 3) := by decide +kernel
theorem dX11_decode_8 : decode cX11_decode 8 = .ok (.iconst (-1), 1) := by decide +kernel
theorem dX11_decode_9 : decode cX11_decode 9 = .ok (.ireturn, 1) := by decide +kernel
theorem dX11_decode_10 : decode cX11_decode 10 = .ok (.aload_n 0, 1) := by decide +kernel
theorem dX11_decode_11 : decode cX11_decode 11 = .ok (.iload_n 1, 1) := by decide +kernel
theorem dX11_decode_12 : decode cX11_decode 12 = .ok (.iload_n 2, 1) := by decide +kernel
theorem dX11_decode_13 : decode cX11_decode 13 = .ok (.iload_n 3, 1) := by decide +kernel
theorem dX11_decode_14 : decode cX11_decode 14 = .ok (.aload_n 0, 1) := by decide +kernel
theorem dX11_decode_15 : decode cX11_decode 15 = .ok (.getfield 7, 3) := by decide +kernel
theorem dX11_decode_18 : decode cX11_decode 18 = .ok (.iconst 1, 1) := by decide +kernel
theorem dX11_decode_19 : decode cX11_decode 19 = .ok (.isub, 1) := by decide +kernel
theorem dX11_decode_20 : decode cX11_decode 20 = .ok (.invokevirtual 214, 3) := by decide +kernel
theorem dX11_decode_23 : decode cX11_decode 23 = .ok (.istore 4, 2) := by decide +kernel
theorem dX11_decode_25 : decode cX11_decode 25 = .ok (.iload 4, 2) := by decide +kernel
theorem dX11_decode_27 : decode cX11_decode 27 = .ok (.ifCond .ge 6, 3) := by decide +kernel
theorem dX11_decode_30 : decode cX11_decode 30 = .ok (.iload 4, 2) := by decide +kernel
theorem dX11_decode_32 : decode cX11_decode 32 = .ok (.ireturn, 1) := by decide +kernel
theorem dX11_decode_33 : decode cX11_decode 33 = .ok (.aload_n 0, 1) := by decide +kernel
theorem dX11_decode_34 : decode cX11_decode 34 = .ok (.getfield 104, 3) := by decide +kernel
theorem dX11_decode_37 : decode cX11_decode 37 = .ok (.ifCond .ne 15, 3) := by decide +kernel
theorem dX11_decode_40 : decode cX11_decode 40 = .ok (.aload_n 0, 1) := by decide +kernel
theorem dX11_decode_41 : decode cX11_decode 41 = .ok (.getfield 7, 3) := by decide +kernel
theorem dX11_decode_44 : decode cX11_decode 44 = .ok (.iconst 1, 1) := by decide +kernel
theorem dX11_decode_45 : decode cX11_decode 45 = .ok (.if_icmp .le 7, 3) := by decide +kernel
theorem dX11_decode_48 : decode cX11_decode 48 = .ok (.iconst 1, 1) := by decide +kernel
theorem dX11_decode_49 : decode cX11_decode 49 = .ok (.goto 4, 3) := by decide +kernel
theorem dX11_decode_52 : decode cX11_decode 52 = .ok (.iconst 0, 1) := by decide +kernel
theorem dX11_decode_53 : decode cX11_decode 53 = .ok (.istore 5, 2) := by decide +kernel
theorem dX11_decode_55 : decode cX11_decode 55 = .ok (.iconst 0, 1) := by decide +kernel
theorem dX11_decode_56 : decode cX11_decode 56 = .ok (.istore 6, 2) := by decide +kernel
theorem dX11_decode_58 : decode cX11_decode 58 = .ok (.iload 6, 2) := by decide +kernel
theorem dX11_decode_60 : decode cX11_decode 60 = .ok (.aload_n 0, 1) := by decide +kernel
theorem dX11_decode_61 : decode cX11_decode 61 = .ok (.getfield 7, 3) := by decide +kernel
theorem dX11_decode_64 : decode cX11_decode 64 = .ok (.iconst 1, 1) := by decide +kernel
theorem dX11_decode_65 : decode cX11_decode 65 = .ok (.isub, 1) := by decide +kernel
theorem dX11_decode_66 : decode cX11_decode 66 = .ok (.if_icmp .ge 43, 3) := by decide +kernel
theorem dX11_decode_69 : decode cX11_decode 69 = .ok (.iload 5, 2) := by decide +kernel
theorem dX11_decode_71 : decode cX11_decode 71 = .ok (.ifCond .eq 29, 3) := by decide +kernel
theorem dX11_decode_74 : decode cX11_decode 74 = .ok (.aload_n 0, 1) := by decide +kernel
theorem dX11_decode_75 : decode cX11_decode 75 = .ok (.iload_n 1, 1) := by decide +kernel
theorem dX11_decode_76 : decode cX11_decode 76 = .ok (.iload_n 3, 1) := by decide +kernel
theorem dX11_decode_77 : decode cX11_decode 77 = .ok (.iload 6, 2) := by decide +kernel
theorem dX11_decode_79 : decode cX11_decode 79 = .ok (.iadd, 1) := by decide +kernel
theorem dX11_decode_80 : decode cX11_decode 80 = .ok (.invokevirtual 218, 3) := by decide +kernel
theorem dX11_decode_83 : decode cX11_decode 83 = .ok (.i2l, 1) := by decide +kernel
theorem dX11_decode_84 : decode cX11_decode 84 = .ok (.lconst 0, 1) := by decide +kernel
theorem dX11_decode_85 : decode cX11_decode 85 = .ok (.aload_n 0, 1) := by decide +kernel
theorem dX11_decode_86 : decode cX11_decode 86 = .ok (.getfield 7, 3) := by decide +kernel
theorem dX11_decode_89 : decode cX11_decode 89 = .ok (.i2l, 1) := by decide +kernel
theorem dX11_decode_90 : decode cX11_decode 90 = .ok (.invokestatic 96, 3) := by decide +kernel
theorem dX11_decode_93 : decode cX11_decode 93 = .ok (.ifCond .eq 7, 3) := by decide +kernel
theorem dX11_decode_96 : decode cX11_decode 96 = .ok (.iconst 1, 1) := by decide +kernel
theorem dX11_decode_97 : decode cX11_decode 97 = .ok (.goto 4, 3) := by decide +kernel
theorem dX11_decode_100 : decode cX11_decode 100 = .ok (.iconst 0, 1) := by decide +kernel
theorem dX11_decode_101 : decode cX11_decode 101 = .ok (.istore 5, 2) := by decide +kernel
theorem dX11_decode_103 : decode cX11_decode 103 = .ok (.iinc 6 1, 3) := by decide +kernel
theorem dX11_decode_106 : decode cX11_decode 106 = .ok (.goto (-48), 3) := by decide +kernel
theorem dX11_decode_109 : decode cX11_decode 109 = .ok (.iload 5, 2) := by decide +kernel
theorem dX11_decode_111 : decode cX11_decode 111 = .ok (.ifCond .ne 6, 3) := by decide +kernel
theorem dX11_decode_114 : decode cX11_decode 114 = .ok (.bipush (-2), 2) := by decide +kernel
theorem dX11_decode_116 : decode cX11_decode 116 = .ok (.ireturn, 1) := by decide +kernel
theorem dX11_decode_117 : decode cX11_decode 117 = .ok (.iconst 0, 1) := by decide +kernel
theorem dX11_decode_118 : decode cX11_decode 118 = .ok (.istore 6, 2) := by decide +kernel
theorem dX11_decode_120 : decode cX11_decode 120 = .ok (.iload 6, 2) := by decide +kernel
theorem dX11_decode_122 : decode cX11_decode 122 = .ok (.aload_n 0, 1) := by decide +kernel
theorem dX11_decode_123 : decode cX11_decode 123 = .ok (.getfield 7, 3) := by decide +kernel
theorem dX11_decode_126 : decode cX11_decode 126 = .ok (.if_icmp .gt 17, 3) := by decide +kernel
theorem dX11_decode_129 : decode cX11_decode 129 = .ok (.aload_n 0, 1) := by decide +kernel
theorem dX11_decode_130 : decode cX11_decode 130 = .ok (.getfield 55, 3) := by decide +kernel
theorem dX11_decode_133 : decode cX11_decode 133 = .ok (.iload 6, 2) := by decide +kernel
theorem dX11_decode_135 : decode cX11_decode 135 = .ok (.iconst 1, 1) := by decide +kernel
theorem dX11_decode_136 : decode cX11_decode 136 = .ok (.iastore, 1) := by decide +kernel
theorem dX11_decode_137 : decode cX11_decode 137 = .ok (.iinc 6 1, 3) := by decide +kernel
theorem dX11_decode_140 : decode cX11_decode 140 = .ok (.goto (-20), 3) := by decide +kernel
theorem dX11_decode_143 : decode cX11_decode 143 = .ok (.iconst 0, 1) := by decide +kernel
theorem dX11_decode_144 : decode cX11_decode 144 = .ok (.istore 6, 2) := by decide +kernel
theorem dX11_decode_146 : decode cX11_decode 146 = .ok (.iload 6, 2) := by decide +kernel
theorem dX11_decode_148 : decode cX11_decode 148 = .ok (.aload_n 0, 1) := by decide +kernel
theorem dX11_decode_149 : decode cX11_decode 149 = .ok (.getfield 7, 3) := by decide +kernel
theorem dX11_decode_152 : decode cX11_decode 152 = .ok (.iconst 1, 1) := by decide +kernel
theorem dX11_decode_153 : decode cX11_decode 153 = .ok (.isub, 1) := by decide +kernel
theorem dX11_decode_154 : decode cX11_decode 154 = .ok (.if_icmp .ge 27, 3) := by decide +kernel
theorem dX11_decode_157 : decode cX11_decode 157 = .ok (.aload_n 0, 1) := by decide +kernel
theorem dX11_decode_158 : decode cX11_decode 158 = .ok (.getfield 55, 3) := by decide +kernel
theorem dX11_decode_161 : decode cX11_decode 161 = .ok (.aload_n 0, 1) := by decide +kernel
theorem dX11_decode_162 : decode cX11_decode 162 = .ok (.iload_n 1, 1) := by decide +kernel
theorem dX11_decode_163 : decode cX11_decode 163 = .ok (.iload_n 3, 1) := by decide +kernel
theorem dX11_decode_164 : decode cX11_decode 164 = .ok (.iload 6, 2) := by decide +kernel
theorem dX11_decode_166 : decode cX11_decode 166 = .ok (.iadd, 1) := by decide +kernel
theorem dX11_decode_167 : decode cX11_decode 167 = .ok (.invokevirtual 218, 3) := by decide +kernel
theorem dX11_decode_170 : decode cX11_decode 170 = .ok (.dup2, 1) := by decide +kernel
theorem dX11_decode_171 : decode cX11_decode 171 = .ok (.iaload, 1) := by decide +kernel
theorem dX11_decode_172 : decode cX11_decode 172 = .ok (.iconst 1, 1) := by decide +kernel
theorem dX11_decode_173 : decode cX11_decode 173 = .ok (.iadd, 1) := by decide +kernel
theorem dX11_decode_174 : decode cX11_decode 174 = .ok (.iastore, 1) := by decide +kernel
theorem dX11_decode_175 : decode cX11_decode 175 = .ok (.iinc 6 1, 3) := by decide +kernel
theorem dX11_decode_178 : decode cX11_decode 178 = .ok (.goto (-32), 3) := by decide +kernel
theorem dX11_decode_181 : decode cX11_decode 181 = .ok (.iconst 0, 1) := by decide +kernel
theorem dX11_decode_182 : decode cX11_decode 182 = .ok (.istore 6, 2) := by decide +kernel
theorem dX11_decode_184 : decode cX11_decode 184 = .ok (.iload 6, 2) := by decide +kernel
theorem dX11_decode_186 : decode cX11_decode 186 = .ok (.aload_n 0, 1) := by decide +kernel
theorem dX11_decode_187 : decode cX11_decode 187 = .ok (.getfield 7, 3) := by decide +kernel
theorem dX11_decode_190 : decode cX11_decode 190 = .ok (.iconst 1, 1) := by decide +kernel
theorem dX11_decode_191 : decode cX11_decode 191 = .ok (.isub, 1) := by decide +kernel
theorem dX11_decode_192 : decode cX11_decode 192 = .ok (.if_icmp .ge 81, 3) := by decide +kernel
theorem dX11_decode_195 : decode cX11_decode 195 = .ok (.aload_n 0, 1) := by decide +kernel
theorem dX11_decode_196 : decode cX11_decode 196 = .ok (.getfield 7, 3) := by decide +kernel
theorem dX11_decode_199 : decode cX11_decode 199 = .ok (.istore 7, 2) := by decide +kernel
theorem dX11_decode_201 : decode cX11_decode 201 = .ok (.aload_n 0, 1) := by decide +kernel
theorem dX11_decode_202 : decode cX11_decode 202 = .ok (.getfield 55, 3) := by decide +kernel
theorem dX11_decode_205 : decode cX11_decode 205 = .ok (.iload 7, 2) := by decide +kernel
theorem dX11_decode_207 : decode cX11_decode 207 = .ok (.iaload, 1) := by decide +kernel
theorem dX11_decode_208 : decode cX11_decode 208 = .ok (.iconst 1, 1) := by decide +kernel
theorem dX11_decode_209 : decode cX11_decode 209 = .ok (.if_icmp .eq 9, 3) := by decide +kernel
theorem dX11_decode_212 : decode cX11_decode 212 = .ok (.iinc 7 (-1), 3) := by decide +kernel
theorem dX11_decode_215 : decode cX11_decode 215 = .ok (.goto (-14), 3) := by decide +kernel
theorem dX11_decode_218 : decode cX11_decode 218 = .ok (.aload_n 0, 1) := by decide +kernel
theorem dX11_decode_219 : decode cX11_decode 219 = .ok (.getfield 58, 3) := by decide +kernel
theorem dX11_decode_222 : decode cX11_decode 222 = .ok (.iload 6, 2) := by decide +kernel
theorem dX11_decode_224 : decode cX11_decode 224 = .ok (.iload 7, 2) := by decide +kernel
theorem dX11_decode_226 : decode cX11_decode 226 = .ok (.iastore, 1) := by decide +kernel
theorem dX11_decode_227 : decode cX11_decode 227 = .ok (.aload_n 0, 1) := by decide +kernel
theorem dX11_decode_228 : decode cX11_decode 228 = .ok (.getfield 61, 3) := by decide +kernel
theorem dX11_decode_231 : decode cX11_decode 231 = .ok (.iload 6, 2) := by decide +kernel
theorem dX11_decode_233 : decode cX11_decode 233 = .ok (.aload_n 0, 1) := by decide +kernel
theorem dX11_decode_234 : decode cX11_decode 234 = .ok (.iload_n 1, 1) := by decide +kernel
theorem dX11_decode_235 : decode cX11_decode 235 = .ok (.iload_n 3, 1) := by decide +kernel
theorem dX11_decode_236 : decode cX11_decode 236 = .ok (.iload 6, 2) := by decide +kernel
theorem dX11_decode_238 : decode cX11_decode 238 = .ok (.iadd, 1) := by decide +kernel
theorem dX11_decode_239 : decode cX11_decode 239 = .ok (.invokevirtual 218, 3) := by decide +kernel
theorem dX11_decode_242 : decode cX11_decode 242 = .ok (.iastore, 1) := by decide +kernel
theorem dX11_decode_243 : decode cX11_decode 243 = .ok (.aload_n 0, 1) := by decide +kernel
theorem dX11_decode_244 : decode cX11_decode 244 = .ok (.getfield 55, 3) := by decide +kernel
theorem dX11_decode_247 : decode cX11_decode 247 = .ok (.iload 7, 2) := by decide +kernel
theorem dX11_decode_249 : decode cX11_decode 249 = .ok (.iconst 0, 1) := by decide +kernel
theorem dX11_decode_250 : decode cX11_decode 250 = .ok (.iastore, 1) := by decide +kernel
theorem dX11_decode_251 : decode cX11_decode 251 = .ok (.aload_n 0, 1) := by decide +kernel
theorem dX11_decode_252 : decode cX11_decode 252 = .ok (.getfield 55, 3) := by decide +kernel
theorem dX11_decode_255 : decode cX11_decode 255 = .ok (.aload_n 0, 1) := by decide +kernel
theorem dX11_decode_256 : decode cX11_decode 256 = .ok (.getfield 61, 3) := by decide +kernel
theorem dX11_decode_259 : decode cX11_decode 259 = .ok (.iload 6, 2) := by decide +kernel
theorem dX11_decode_261 : decode cX11_decode 261 = .ok (.iaload, 1) := by decide +kernel
theorem dX11_decode_262 : decode cX11_decode 262 = .ok (.dup2, 1) := by decide +kernel
theorem dX11_decode_263 : decode cX11_decode 263 = .ok (.iaload, 1) := by decide +kernel
theorem dX11_decode_264 : decode cX11_decode 264 = .ok (.iconst 1, 1) := by decide +kernel
theorem dX11_decode_265 : decode cX11_decode 265 = .ok (.isub, 1) := by decide +kernel
theorem dX11_decode_266 : decode cX11_decode 266 = .ok (.iastore, 1) := by decide +kernel
theorem dX11_decode_267 : decode cX11_decode 267 = .ok (.iinc 6 1, 3) := by decide +kernel
theorem dX11_decode_270 : decode cX11_decode 270 = .ok (.goto (-86), 3) := by decide +kernel
theorem dX11_decode_273 : decode cX11_decode 273 = .ok (.aload_n 0, 1) := by decide +kernel
theorem dX11_decode_274 : decode cX11_decode 274 = .ok (.getfield 7, 3) := by decide +kernel
theorem dX11_decode_277 : decode cX11_decode 277 = .ok (.istore 6, 2) := by decide +kernel
theorem dX11_decode_279 : decode cX11_decode 279 = .ok (.aload_n 0, 1) := by decide +kernel
theorem dX11_decode_280 : decode cX11_decode 280 = .ok (.getfield 55, 3) := by decide +kernel
theorem dX11_decode_283 : decode cX11_decode 283 = .ok (.iload 6, 2) := by decide +kernel
theorem dX11_decode_285 : decode cX11_decode 285 = .ok (.iaload, 1) := by decide +kernel
theorem dX11_decode_286 : decode cX11_decode 286 = .ok (.iconst 1, 1) := by decide +kernel
theorem dX11_decode_287 : decode cX11_decode 287 = .ok (.if_icmp .eq 9, 3) := by decide +kernel
theorem dX11_decode_290 : decode cX11_decode 290 = .ok (.iinc 6 (-1), 3) := by decide +kernel
theorem dX11_decode_293 : decode cX11_decode 293 = .ok (.goto (-14), 3) := by decide +kernel
theorem dX11_decode_296 : decode cX11_decode 296 = .ok (.iload 6, 2) := by decide +kernel
theorem dX11_decode_298 : decode cX11_decode 298 = .ok (.iconst 1, 1) := by decide +kernel
theorem dX11_decode_299 : decode cX11_decode 299 = .ok (.isub, 1) := by decide +kernel
theorem dX11_decode_300 : decode cX11_decode 300 = .ok (.istore 7, 2) := by decide +kernel
theorem dX11_decode_302 : decode cX11_decode 302 = .ok (.aload_n 0, 1) := by decide +kernel
theorem dX11_decode_303 : decode cX11_decode 303 = .ok (.getfield 55, 3) := by decide +kernel
theorem dX11_decode_306 : decode cX11_decode 306 = .ok (.iload 7, 2) := by decide +kernel
theorem dX11_decode_308 : decode cX11_decode 308 = .ok (.iaload, 1) := by decide +kernel
theorem dX11_decode_309 : decode cX11_decode 309 = .ok (.iconst 1, 1) := by decide +kernel
theorem dX11_decode_310 : decode cX11_decode 310 = .ok (.if_icmp .eq 9, 3) := by decide +kernel
theorem dX11_decode_313 : decode cX11_decode 313 = .ok (.iinc 7 (-1), 3) := by decide +kernel
theorem dX11_decode_316 : decode cX11_decode 316 = .ok (.goto (-14), 3) := by decide +kernel
theorem dX11_decode_319 : decode cX11_decode 319 = .ok (.aload_n 0, 1) := by decide +kernel
theorem dX11_decode_320 : decode cX11_decode 320 = .ok (.getfield 58, 3) := by decide +kernel
theorem dX11_decode_323 : decode cX11_decode 323 = .ok (.aload_n 0, 1) := by decide +kernel
theorem dX11_decode_324 : decode cX11_decode 324 = .ok (.getfield 7, 3) := by decide +kernel
theorem dX11_decode_327 : decode cX11_decode 327 = .ok (.iconst 1, 1) := by decide +kernel
theorem dX11_decode_328 : decode cX11_decode 328 = .ok (.isub, 1) := by decide +kernel
theorem dX11_decode_329 : decode cX11_decode 329 = .ok (.iload 6, 2) := by decide +kernel
theorem dX11_decode_331 : decode cX11_decode 331 = .ok (.iastore, 1) := by decide +kernel
theorem dX11_decode_332 : decode cX11_decode 332 = .ok (.aload_n 0, 1) := by decide +kernel
theorem dX11_decode_333 : decode cX11_decode 333 = .ok (.getfield 61, 3) := by decide +kernel
theorem dX11_decode_336 : decode cX11_decode 336 = .ok (.aload_n 0, 1) := by decide +kernel
theorem dX11_decode_337 : decode cX11_decode 337 = .ok (.getfield 7, 3) := by decide +kernel
theorem dX11_decode_340 : decode cX11_decode 340 = .ok (.iconst 1, 1) := by decide +kernel
theorem dX11_decode_341 : decode cX11_decode 341 = .ok (.isub, 1) := by decide +kernel
theorem dX11_decode_342 : decode cX11_decode 342 = .ok (.iload 7, 2) := by decide +kernel
theorem dX11_decode_344 : decode cX11_decode 344 = .ok (.iastore, 1) := by decide +kernel
theorem dX11_decode_345 : decode cX11_decode 345 = .ok (.aload_n 0, 1) := by decide +kernel
theorem dX11_decode_346 : decode cX11_decode 346 = .ok (.invokevirtual 222, 3) := by decide +kernel
theorem dX11_decode_349 : decode cX11_decode 349 = .ok (.aload_n 0, 1) := by decide +kernel
theorem dX11_decode_350 : decode cX11_decode 350 = .ok (.invokevirtual 225, 3) := by decide +kernel
theorem dX11_decode_353 : decode cX11_decode 353 = .ok (.aload_n 0, 1) := by decide +kernel
theorem dX11_decode_354 : decode cX11_decode 354 = .ok (.getfield 7, 3) := by decide +kernel
theorem dX11_decode_357 : decode cX11_decode 357 = .ok (.ireturn, 1) := by decide +kernel
theorem dX11_hang_0 : decode cX11_hang 0 = .ok (.iconst 0, 1) := by decide +kernel
theorem dX11_hang_1 : decode cX11_hang 1 = .ok (.istore_n 1, 1) := by decide +kernel
theorem dX11_hang_2 : decode cX11_hang 2 = .ok (.iload_n 1, 1) := by decide +kernel
theorem dX11_hang_3 : decode cX11_hang 3 = .ok (.aload_n 0, 1) := by decide +kernel
theorem dX11_hang_4 : decode cX11_hang 4 = .ok (.getfield 7, 3) := by decide +kernel
theorem dX11_hang_7 : decode cX11_hang 7 = .ok (.if_icmp .gt 24, 3) := by decide +kernel
theorem dX11_hang_10 : decode cX11_hang 10 = .ok (.aload_n 0, 1) := by decide +kernel
theorem dX11_hang_11 : decode cX11_hang 11 = .ok (.getfield 42, 3) := by decide +kernel
theorem dX11_hang_14 : decode cX11_hang 14 = .ok (.iload_n 1, 1) := by decide +kernel
theorem dX11_hang_15 : decode cX11_hang 15 = .ok (.iload_n 1, 1) := by decide +kernel
theorem dX11_hang_16 : decode cX11_hang 16 = .ok (.ifCond .ne 7, 3) := by decide +kernel
theorem dX11_hang_19 : decode cX11_hang 19 = .ok (.iconst 0, 1) := by decide +kernel
theorem dX11_hang_20 : decode cX11_hang 20 = .ok (.goto 4, 3) := by decide +kernel
theorem dX11_hang_23 : decode cX11_hang 23 = .ok (.iconst (-1), 1) := by decide +kernel
theorem dX11_hang_24 : decode cX11_hang 24 = .ok (.iastore, 1) := by decide +kernel
theorem dX11_hang_25 : decode cX11_hang 25 = .ok (.iinc 1 1, 3) := by decide +kernel
theorem dX11_hang_28 : decode cX11_hang 28 = .ok (.goto (-26), 3) := by decide +kernel
theorem dX11_hang_31 : decode cX11_hang 31 = .ok (.iconst 1, 1) := by decide +kernel
theorem dX11_hang_32 : decode cX11_hang 32 = .ok (.istore_n 1, 1) := by decide +kernel
theorem dX11_hang_33 : decode cX11_hang 33 = .ok (.iload_n 1, 1) := by decide +kernel
theorem dX11_hang_34 : decode cX11_hang 34 = .ok (.ifCond .eq 108, 3) := by decide +kernel
theorem dX11_hang_37 : decode cX11_hang 37 = .ok (.iconst 0, 1) := by decide +kernel
theorem dX11_hang_38 : decode cX11_hang 38 = .ok (.istore_n 1, 1) := by decide +kernel
theorem dX11_hang_39 : decode cX11_hang 39 = .ok (.iconst 0, 1) := by decide +kernel
theorem dX11_hang_40 : decode cX11_hang 40 = .ok (.istore_n 2, 1) := by decide +kernel
theorem dX11_hang_41 : decode cX11_hang 41 = .ok (.iload_n 2, 1) := by decide +kernel
theorem dX11_hang_42 : decode cX11_hang 42 = .ok (.aload_n 0, 1) := by decide +kernel
theorem dX11_hang_43 : decode cX11_hang 43 = .ok (.getfield 7, 3) := by decide +kernel
theorem dX11_hang_46 : decode cX11_hang 46 = .ok (.if_icmp .ge 93, 3) := by decide +kernel
theorem dX11_hang_49 : decode cX11_hang 49 = .ok (.aload_n 0, 1) := by decide +kernel
theorem dX11_hang_50 : decode cX11_hang 50 = .ok (.getfield 58, 3) := by decide +kernel
theorem dX11_hang_53 : decode cX11_hang 53 = .ok (.iload_n 2, 1) := by decide +kernel
theorem dX11_hang_54 : decode cX11_hang 54 = .ok (.iaload, 1) := by decide +kernel
theorem dX11_hang_55 : decode cX11_hang 55 = .ok (.istore_n 3, 1) := by decide +kernel
theorem dX11_hang_56 : decode cX11_hang 56 = .ok (.aload_n 0, 1) := by decide +kernel
theorem dX11_hang_57 : decode cX11_hang 57 = .ok (.getfield 61, 3) := by decide +kernel
theorem dX11_hang_60 : decode cX11_hang 60 = .ok (.iload_n 2, 1) := by decide +kernel
theorem dX11_hang_61 : decode cX11_hang 61 = .ok (.iaload, 1) := by decide +kernel
theorem dX11_hang_62 : decode cX11_hang 62 = .ok (.istore 4, 2) := by decide +kernel
theorem dX11_hang_64 : decode cX11_hang 64 = .ok (.aload_n 0, 1) := by decide +kernel
theorem dX11_hang_65 : decode cX11_hang 65 = .ok (.getfield 42, 3) := by decide +kernel
theorem dX11_hang_68 : decode cX11_hang 68 = .ok (.iload_n 3, 1) := by decide +kernel
theorem dX11_hang_69 : decode cX11_hang 69 = .ok (.iaload, 1) := by decide +kernel
theorem dX11_hang_70 : decode cX11_hang 70 = .ok (.ifCond .ge 7, 3) := by decide +kernel
theorem dX11_hang_73 : decode cX11_hang 73 = .ok (.iconst 1, 1) := by decide +kernel
theorem dX11_hang_74 : decode cX11_hang 74 = .ok (.goto 4, 3) := by decide +kernel
theorem dX11_hang_77 : decode cX11_hang 77 = .ok (.iconst 0, 1) := by decide +kernel
theorem dX11_hang_78 : decode cX11_hang 78 = .ok (.aload_n 0, 1) := by decide +kernel
theorem dX11_hang_79 : decode cX11_hang 79 = .ok (.getfield 42, 3) := by decide +kernel
theorem dX11_hang_82 : decode cX11_hang 82 = .ok (.iload 4, 2) := by decide +kernel
theorem dX11_hang_84 : decode cX11_hang 84 = .ok (.iaload, 1) := by decide +kernel
theorem dX11_hang_85 : decode cX11_hang 85 = .ok (.ifCond .ge 7, 3) := by decide +kernel
theorem dX11_hang_88 : decode cX11_hang 88 = .ok (.iconst 1, 1) := by decide +kernel
theorem dX11_hang_89 : decode cX11_hang 89 = .ok (.goto 4, 3) := by decide +kernel
theorem dX11_hang_92 : decode cX11_hang 92 = .ok (.iconst 0, 1) := by decide +kernel
theorem dX11_hang_93 : decode cX11_hang 93 = .ok (.if_icmp .eq 40, 3) := by decide +kernel
theorem dX11_hang_96 : decode cX11_hang 96 = .ok (.aload_n 0, 1) := by decide +kernel
theorem dX11_hang_97 : decode cX11_hang 97 = .ok (.getfield 42, 3) := by decide +kernel
theorem dX11_hang_100 : decode cX11_hang 100 = .ok (.aload_n 0, 1) := by decide +kernel
theorem dX11_hang_101 : decode cX11_hang 101 = .ok (.getfield 42, 3) := by decide +kernel
theorem dX11_hang_104 : decode cX11_hang 104 = .ok (.iload_n 3, 1) := by decide +kernel
theorem dX11_hang_105 : decode cX11_hang 105 = .ok (.iaload, 1) := by decide +kernel
theorem dX11_hang_106 : decode cX11_hang 106 = .ok (.ifCond .ge 7, 3) := by decide +kernel
theorem dX11_hang_109 : decode cX11_hang 109 = .ok (.iload_n 3, 1) := by decide +kernel
theorem dX11_hang_110 : decode cX11_hang 110 = .ok (.goto 5, 3) := by decide +kernel
theorem dX11_hang_113 : decode cX11_hang 113 = .ok (.iload 4, 2) := by decide +kernel
theorem dX11_hang_115 : decode cX11_hang 115 = .ok (.aload_n 0, 1) := by decide +kernel
theorem dX11_hang_116 : decode cX11_hang 116 = .ok (.getfield 42, 3) := by decide +kernel
theorem dX11_hang_119 : decode cX11_hang 119 = .ok (.iload_n 3, 1) := by decide +kernel
theorem dX11_hang_120 : decode cX11_hang 120 = .ok (.iaload, 1) := by decide +kernel
theorem dX11_hang_121 : decode cX11_hang 121 = .ok (.ifCond .ge 8, 3) := by decide +kernel
theorem dX11_hang_124 : decode cX11_hang 124 = .ok (.iload 4, 2) := by decide +kernel
theorem dX11_hang_126 : decode cX11_hang 126 = .ok (.goto 4, 3) := by decide +kernel
theorem dX11_hang_129 : decode cX11_hang 129 = .ok (.iload_n 3, 1) := by decide +kernel
theorem dX11_hang_130 : decode cX11_hang 130 = .ok (.iastore, 1) := by decide +kernel
theorem dX11_hang_131 : decode cX11_hang 131 = .ok (.iconst 1, 1) := by decide +kernel
theorem dX11_hang_132 : decode cX11_hang 132 = .ok (.istore_n 1, 1) := by decide +kernel
theorem dX11_hang_133 : decode cX11_hang 133 = .ok (.iinc 2 1, 3) := by decide +kernel
theorem dX11_hang_136 : decode cX11_hang 136 = .ok (.goto (-95), 3) := by decide +kernel
theorem dX11_hang_139 : decode cX11_hang 139 = .ok (.goto (-106), 3) := by decide +kernel
theorem dX11_hang_142 : decode cX11_hang 142 = .ok (.return_, 1) := by decide +kernel
theorem dX11_grow_0 : decode cX11_grow 0 = .ok (.iload_n 1, 1) := by decide +kernel
theorem dX11_grow_1 : decode cX11_grow 1 = .ok (.iload_n 2, 1) := by decide +kernel
theorem dX11_grow_2 : decode cX11_grow 2 = .ok (.invokestatic 211, 3) := by decide +kernel
theorem dX11_grow_5 : decode cX11_grow 5 = .ok (.ifCond .ne 5, 3) := by decide +kernel
theorem dX11_grow_8 : decode cX11_grow 8 = .ok (.iconst (-1), 1) := by decide +kernel
theorem dX11_grow_9 : decode cX11_grow 9 = .ok (.ireturn, 1) := by decide +kernel
theorem dX11_grow_10 : decode cX11_grow 10 = .ok (.aload_n 0, 1) := by decide +kernel
theorem dX11_grow_11 : decode cX11_grow 11 = .ok (.iload_n 1, 1) := by decide +kernel
theorem dX11_grow_12 : decode cX11_grow 12 = .ok (.iload_n 2, 1) := by decide +kernel
theorem dX11_grow_13 : decode cX11_grow 13 = .ok (.iload_n 3, 1) := by decide +kernel
theorem dX11_grow_14 : decode cX11_grow 14 = .ok (.aload_n 0, 1) := by decide +kernel
theorem dX11_grow_15 : decode cX11_grow 15 = .ok (.getfield 7, 3) := by decide +kernel
theorem dX11_grow_18 : decode cX11_grow 18 = .ok (.invokevirtual 214, 3) := by decide +kernel
theorem dX11_grow_21 : decode cX11_grow 21 = .ok (.istore 4, 2) := by decide +kernel
theorem dX11_grow_23 : decode cX11_grow 23 = .ok (.iload 4, 2) := by decide +kernel
theorem dX11_grow_25 : decode cX11_grow 25 = .ok (.ifCond .ge 6, 3) := by decide +kernel
theorem dX11_grow_28 : decode cX11_grow 28 = .ok (.iload 4, 2) := by decide +kernel
theorem dX11_grow_30 : decode cX11_grow 30 = .ok (.ireturn, 1) := by decide +kernel
theorem dX11_grow_31 : decode cX11_grow 31 = .ok (.aload_n 0, 1) := by decide +kernel
theorem dX11_grow_32 : decode cX11_grow 32 = .ok (.getfield 104, 3) := by decide +kernel
theorem dX11_grow_35 : decode cX11_grow 35 = .ok (.ifCond .ne 7, 3) := by decide +kernel
theorem dX11_grow_38 : decode cX11_grow 38 = .ok (.iconst 1, 1) := by decide +kernel
theorem dX11_grow_39 : decode cX11_grow 39 = .ok (.goto 4, 3) := by decide +kernel
theorem dX11_grow_42 : decode cX11_grow 42 = .ok (.iconst 0, 1) := by decide +kernel
theorem dX11_grow_43 : decode cX11_grow 43 = .ok (.istore 5, 2) := by decide +kernel
theorem dX11_grow_45 : decode cX11_grow 45 = .ok (.iconst 1, 1) := by decide +kernel
theorem dX11_grow_46 : decode cX11_grow 46 = .ok (.istore 6, 2) := by decide +kernel
theorem dX11_grow_48 : decode cX11_grow 48 = .ok (.iload 6, 2) := by decide +kernel
theorem dX11_grow_50 : decode cX11_grow 50 = .ok (.aload_n 0, 1) := by decide +kernel
theorem dX11_grow_51 : decode cX11_grow 51 = .ok (.getfield 7, 3) := by decide +kernel
theorem dX11_grow_54 : decode cX11_grow 54 = .ok (.if_icmp .gt 45, 3) := by decide +kernel
theorem dX11_grow_57 : decode cX11_grow 57 = .ok (.iload 5, 2) := by decide +kernel
theorem dX11_grow_59 : decode cX11_grow 59 = .ok (.ifCond .eq 31, 3) := by decide +kernel
theorem dX11_grow_62 : decode cX11_grow 62 = .ok (.aload_n 0, 1) := by decide +kernel
theorem dX11_grow_63 : decode cX11_grow 63 = .ok (.iload_n 1, 1) := by decide +kernel
theorem dX11_grow_64 : decode cX11_grow 64 = .ok (.iload_n 3, 1) := by decide +kernel
theorem dX11_grow_65 : decode cX11_grow 65 = .ok (.iload 6, 2) := by decide +kernel
theorem dX11_grow_67 : decode cX11_grow 67 = .ok (.iadd, 1) := by decide +kernel
theorem dX11_grow_68 : decode cX11_grow 68 = .ok (.iconst 1, 1) := by decide +kernel
theorem dX11_grow_69 : decode cX11_grow 69 = .ok (.isub, 1) := by decide +kernel
theorem dX11_grow_70 : decode cX11_grow 70 = .ok (.invokevirtual 218, 3) := by decide +kernel
theorem dX11_grow_73 : decode cX11_grow 73 = .ok (.i2l, 1) := by decide +kernel
theorem dX11_grow_74 : decode cX11_grow 74 = .ok (.lconst 0, 1) := by decide +kernel
theorem dX11_grow_75 : decode cX11_grow 75 = .ok (.aload_n 0, 1) := by decide +kernel
theorem dX11_grow_76 : decode cX11_grow 76 = .ok (.getfield 7, 3) := by decide +kernel
theorem dX11_grow_79 : decode cX11_grow 79 = .ok (.i2l, 1) := by decide +kernel
theorem dX11_grow_80 : decode cX11_grow 80 = .ok (.invokestatic 96, 3) := by decide +kernel
theorem dX11_grow_83 : decode cX11_grow 83 = .ok (.ifCond .eq 7, 3) := by decide +kernel
theorem dX11_grow_86 : decode cX11_grow 86 = .ok (.iconst 1, 1) := by decide +kernel
theorem dX11_grow_87 : decode cX11_grow 87 = .ok (.goto 4, 3) := by decide +kernel
theorem dX11_grow_90 : decode cX11_grow 90 = .ok (.iconst 0, 1) := by decide +kernel
theorem dX11_grow_91 : decode cX11_grow 91 = .ok (.istore 5, 2) := by decide +kernel
theorem dX11_grow_93 : decode cX11_grow 93 = .ok (.iinc 6 1, 3) := by decide +kernel
theorem dX11_grow_96 : decode cX11_grow 96 = .ok (.goto (-48), 3) := by decide +kernel
theorem dX11_grow_99 : decode cX11_grow 99 = .ok (.iconst 1, 1) := by decide +kernel
theorem dX11_grow_100 : decode cX11_grow 100 = .ok (.istore 6, 2) := by decide +kernel
theorem dX11_grow_102 : decode cX11_grow 102 = .ok (.iload 6, 2) := by decide +kernel
theorem dX11_grow_104 : decode cX11_grow 104 = .ok (.aload_n 0, 1) := by decide +kernel
theorem dX11_grow_105 : decode cX11_grow 105 = .ok (.getfield 7, 3) := by decide +kernel
theorem dX11_grow_108 : decode cX11_grow 108 = .ok (.if_icmp .gt 66, 3) := by decide +kernel
theorem dX11_grow_111 : decode cX11_grow 111 = .ok (.iload 5, 2) := by decide +kernel
theorem dX11_grow_113 : decode cX11_grow 113 = .ok (.ifCond .eq 61, 3) := by decide +kernel
theorem dX11_grow_116 : decode cX11_grow 116 = .ok (.iload 6, 2) := by decide +kernel
theorem dX11_grow_118 : decode cX11_grow 118 = .ok (.istore 7, 2) := by decide +kernel
theorem dX11_grow_120 : decode cX11_grow 120 = .ok (.iconst 0, 1) := by decide +kernel
theorem dX11_grow_121 : decode cX11_grow 121 = .ok (.istore 8, 2) := by decide +kernel
theorem dX11_grow_123 : decode cX11_grow 123 = .ok (.iload 8, 2) := by decide +kernel
theorem dX11_grow_125 : decode cX11_grow 125 = .ok (.aload_n 0, 1) := by decide +kernel
theorem dX11_grow_126 : decode cX11_grow 126 = .ok (.getfield 7, 3) := by decide +kernel
theorem dX11_grow_129 : decode cX11_grow 129 = .ok (.if_icmp .gt 27, 3) := by decide +kernel
theorem dX11_grow_132 : decode cX11_grow 132 = .ok (.iload 7, 2) := by decide +kernel
theorem dX11_grow_134 : decode cX11_grow 134 = .ok (.ifCond .eq 22, 3) := by decide +kernel
theorem dX11_grow_137 : decode cX11_grow 137 = .ok (.aload_n 0, 1) := by decide +kernel
theorem dX11_grow_138 : decode cX11_grow 138 = .ok (.iload_n 1, 1) := by decide +kernel
theorem dX11_grow_139 : decode cX11_grow 139 = .ok (.iload_n 3, 1) := by decide +kernel
theorem dX11_grow_140 : decode cX11_grow 140 = .ok (.iload 7, 2) := by decide +kernel
theorem dX11_grow_142 : decode cX11_grow 142 = .ok (.iadd, 1) := by decide +kernel
theorem dX11_grow_143 : decode cX11_grow 143 = .ok (.iconst 1, 1) := by decide +kernel
theorem dX11_grow_144 : decode cX11_grow 144 = .ok (.isub, 1) := by decide +kernel
theorem dX11_grow_145 : decode cX11_grow 145 = .ok (.invokevirtual 218, 3) := by decide +kernel
theorem dX11_grow_148 : decode cX11_grow 148 = .ok (.istore 7, 2) := by decide +kernel
theorem dX11_grow_150 : decode cX11_grow 150 = .ok (.iinc 8 1, 3) := by decide +kernel
theorem dX11_grow_153 : decode cX11_grow 153 = .ok (.goto (-30), 3) := by decide +kernel
theorem dX11_grow_156 : decode cX11_grow 156 = .ok (.iload 7, 2) := by decide +kernel
theorem dX11_grow_158 : decode cX11_grow 158 = .ok (.ifCond .ne 7, 3) := by decide +kernel
theorem dX11_grow_161 : decode cX11_grow 161 = .ok (.iconst 1, 1) := by decide +kernel
theorem dX11_grow_162 : decode cX11_grow 162 = .ok (.goto 4, 3) := by decide +kernel
theorem dX11_grow_165 : decode cX11_grow 165 = .ok (.iconst 0, 1) := by decide +kernel
theorem dX11_grow_166 : decode cX11_grow 166 = .ok (.istore 5, 2) := by decide +kernel
theorem dX11_grow_168 : decode cX11_grow 168 = .ok (.iinc 6 1, 3) := by decide +kernel
theorem dX11_grow_171 : decode cX11_grow 171 = .ok (.goto (-69), 3) := by decide +kernel
theorem dX11_grow_174 : decode cX11_grow 174 = .ok (.iload 5, 2) := by decide +kernel
theorem dX11_grow_176 : decode cX11_grow 176 = .ok (.ifCond .ne 6, 3) := by decide +kernel
theorem dX11_grow_179 : decode cX11_grow 179 = .ok (.bipush (-2), 2) := by decide +kernel
theorem dX11_grow_181 : decode cX11_grow 181 = .ok (.ireturn, 1) := by decide +kernel
theorem dX11_grow_182 : decode cX11_grow 182 = .ok (.aload_n 0, 1) := by decide +kernel
theorem dX11_grow_183 : decode cX11_grow 183 = .ok (.getfield 42, 3) := by decide +kernel
theorem dX11_grow_186 : decode cX11_grow 186 = .ok (.iconst 0, 1) := by decide +kernel
theorem dX11_grow_187 : decode cX11_grow 187 = .ok (.iconst (-1), 1) := by decide +kernel
theorem dX11_grow_188 : decode cX11_grow 188 = .ok (.iastore, 1) := by decide +kernel
theorem dX11_grow_189 : decode cX11_grow 189 = .ok (.iconst 1, 1) := by decide +kernel
theorem dX11_grow_190 : decode cX11_grow 190 = .ok (.istore 6, 2) := by decide +kernel
theorem dX11_grow_192 : decode cX11_grow 192 = .ok (.iload 6, 2) := by decide +kernel
theorem dX11_grow_194 : decode cX11_grow 194 = .ok (.aload_n 0, 1) := by decide +kernel
theorem dX11_grow_195 : decode cX11_grow 195 = .ok (.getfield 7, 3) := by decide +kernel
theorem dX11_grow_198 : decode cX11_grow 198 = .ok (.if_icmp .gt 27, 3) := by decide +kernel
theorem dX11_grow_201 : decode cX11_grow 201 = .ok (.aload_n 0, 1) := by decide +kernel
theorem dX11_grow_202 : decode cX11_grow 202 = .ok (.getfield 42, 3) := by decide +kernel
theorem dX11_grow_205 : decode cX11_grow 205 = .ok (.iload 6, 2) := by decide +kernel
theorem dX11_grow_207 : decode cX11_grow 207 = .ok (.aload_n 0, 1) := by decide +kernel
theorem dX11_grow_208 : decode cX11_grow 208 = .ok (.iload_n 1, 1) := by decide +kernel
theorem dX11_grow_209 : decode cX11_grow 209 = .ok (.iload_n 3, 1) := by decide +kernel
theorem dX11_grow_210 : decode cX11_grow 210 = .ok (.iload 6, 2) := by decide +kernel
theorem dX11_grow_212 : decode cX11_grow 212 = .ok (.iadd, 1) := by decide +kernel
theorem dX11_grow_213 : decode cX11_grow 213 = .ok (.iconst 1, 1) := by decide +kernel
theorem dX11_grow_214 : decode cX11_grow 214 = .ok (.isub, 1) := by decide +kernel
theorem dX11_grow_215 : decode cX11_grow 215 = .ok (.invokevirtual 218, 3) := by decide +kernel
theorem dX11_grow_218 : decode cX11_grow 218 = .ok (.iastore, 1) := by decide +kernel
theorem dX11_grow_219 : decode cX11_grow 219 = .ok (.iinc 6 1, 3) := by decide +kernel
theorem dX11_grow_222 : decode cX11_grow 222 = .ok (.goto (-30), 3) := by decide +kernel
theorem dX11_grow_225 : decode cX11_grow 225 = .ok (.aload_n 0, 1) := by decide +kernel
theorem dX11_grow_226 : decode cX11_grow 226 = .ok (.invokevirtual 225, 3) := by decide +kernel
theorem dX11_grow_229 : decode cX11_grow 229 = .ok (.aload_n 0, 1) := by decide +kernel
theorem dX11_grow_230 : decode cX11_grow 230 = .ok (.getfield 7, 3) := by decide +kernel
theorem dX11_grow_233 : decode cX11_grow 233 = .ok (.ireturn, 1) := by decide +kernel
theorem dX11_findWalk_0 : decode cX11_findWalk 0 = .ok (.iconst 0, 1) := by decide +kernel
theorem dX11_findWalk_1 : decode cX11_findWalk 1 = .ok (.istore_n 1, 1) := by decide +kernel
theorem dX11_findWalk_2 : decode cX11_findWalk 2 = .ok (.iconst 1, 1) := by decide +kernel
theorem dX11_findWalk_3 : decode cX11_findWalk 3 = .ok (.istore_n 2, 1) := by decide +kernel
theorem dX11_findWalk_4 : decode cX11_findWalk 4 = .ok (.iload_n 2, 1) := by decide +kernel
theorem dX11_findWalk_5 : decode cX11_findWalk 5 = .ok (.aload_n 0, 1) := by decide +kernel
theorem dX11_findWalk_6 : decode cX11_findWalk 6 = .ok (.getfield 7, 3) := by decide +kernel
theorem dX11_findWalk_9 : decode cX11_findWalk 9 = .ok (.if_icmp .gt 54, 3) := by decide +kernel
theorem dX11_findWalk_12 : decode cX11_findWalk 12 = .ok (.iconst 1, 1) := by decide +kernel
theorem dX11_findWalk_13 : decode cX11_findWalk 13 = .ok (.istore_n 3, 1) := by decide +kernel
theorem dX11_findWalk_14 : decode cX11_findWalk 14 = .ok (.iload_n 3, 1) := by decide +kernel
theorem dX11_findWalk_15 : decode cX11_findWalk 15 = .ok (.aload_n 0, 1) := by decide +kernel
theorem dX11_findWalk_16 : decode cX11_findWalk 16 = .ok (.getfield 110, 3) := by decide +kernel
theorem dX11_findWalk_19 : decode cX11_findWalk 19 = .ok (.if_icmp .gt 38, 3) := by decide +kernel
theorem dX11_findWalk_22 : decode cX11_findWalk 22 = .ok (.aload_n 0, 1) := by decide +kernel
theorem dX11_findWalk_23 : decode cX11_findWalk 23 = .ok (.getfield 13, 3) := by decide +kernel
theorem dX11_findWalk_26 : decode cX11_findWalk 26 = .ok (.iload_n 3, 1) := by decide +kernel
theorem dX11_findWalk_27 : decode cX11_findWalk 27 = .ok (.iaload, 1) := by decide +kernel
theorem dX11_findWalk_28 : decode cX11_findWalk 28 = .ok (.iload_n 2, 1) := by decide +kernel
theorem dX11_findWalk_29 : decode cX11_findWalk 29 = .ok (.if_icmp .ne 22, 3) := by decide +kernel
theorem dX11_findWalk_32 : decode cX11_findWalk 32 = .ok (.iinc 1 1, 3) := by decide +kernel
theorem dX11_findWalk_35 : decode cX11_findWalk 35 = .ok (.aload_n 0, 1) := by decide +kernel
theorem dX11_findWalk_36 : decode cX11_findWalk 36 = .ok (.getfield 64, 3) := by decide +kernel
theorem dX11_findWalk_39 : decode cX11_findWalk 39 = .ok (.iload_n 1, 1) := by decide +kernel
theorem dX11_findWalk_40 : decode cX11_findWalk 40 = .ok (.iload_n 3, 1) := by decide +kernel
theorem dX11_findWalk_41 : decode cX11_findWalk 41 = .ok (.iastore, 1) := by decide +kernel
theorem dX11_findWalk_42 : decode cX11_findWalk 42 = .ok (.aload_n 0, 1) := by decide +kernel
theorem dX11_findWalk_43 : decode cX11_findWalk 43 = .ok (.getfield 67, 3) := by decide +kernel
theorem dX11_findWalk_46 : decode cX11_findWalk 46 = .ok (.iload_n 1, 1) := by decide +kernel
theorem dX11_findWalk_47 : decode cX11_findWalk 47 = .ok (.iload_n 1, 1) := by decide +kernel
theorem dX11_findWalk_48 : decode cX11_findWalk 48 = .ok (.iload_n 2, 1) := by decide +kernel
theorem dX11_findWalk_49 : decode cX11_findWalk 49 = .ok (.isub, 1) := by decide +kernel
theorem dX11_findWalk_50 : decode cX11_findWalk 50 = .ok (.iastore, 1) := by decide +kernel
theorem dX11_findWalk_51 : decode cX11_findWalk 51 = .ok (.iinc 3 1, 3) := by decide +kernel
theorem dX11_findWalk_54 : decode cX11_findWalk 54 = .ok (.goto (-40), 3) := by decide +kernel
theorem dX11_findWalk_57 : decode cX11_findWalk 57 = .ok (.iinc 2 1, 3) := by decide +kernel
theorem dX11_findWalk_60 : decode cX11_findWalk 60 = .ok (.goto (-56), 3) := by decide +kernel
theorem dX11_findWalk_63 : decode cX11_findWalk 63 = .ok (.return_, 1) := by decide +kernel
theorem dX11_area_0 : decode cX11_area 0 = .ok (.iconst 0, 1) := by decide +kernel
theorem dX11_area_1 : decode cX11_area 1 = .ok (.istore_n 1, 1) := by decide +kernel
theorem dX11_area_2 : decode cX11_area 2 = .ok (.iconst 1, 1) := by decide +kernel
theorem dX11_area_3 : decode cX11_area 3 = .ok (.istore_n 2, 1) := by decide +kernel
theorem dX11_area_4 : decode cX11_area 4 = .ok (.iload_n 2, 1) := by decide +kernel
theorem dX11_area_5 : decode cX11_area 5 = .ok (.aload_n 0, 1) := by decide +kernel
theorem dX11_area_6 : decode cX11_area 6 = .ok (.getfield 7, 3) := by decide +kernel
theorem dX11_area_9 : decode cX11_area 9 = .ok (.if_icmp .gt 18, 3) := by decide +kernel
theorem dX11_area_12 : decode cX11_area 12 = .ok (.iload_n 1, 1) := by decide +kernel
theorem dX11_area_13 : decode cX11_area 13 = .ok (.aload_n 0, 1) := by decide +kernel
theorem dX11_area_14 : decode cX11_area 14 = .ok (.getfield 67, 3) := by decide +kernel
theorem dX11_area_17 : decode cX11_area 17 = .ok (.iload_n 2, 1) := by decide +kernel
theorem dX11_area_18 : decode cX11_area 18 = .ok (.iaload, 1) := by decide +kernel
theorem dX11_area_19 : decode cX11_area 19 = .ok (.iadd, 1) := by decide +kernel
theorem dX11_area_20 : decode cX11_area 20 = .ok (.istore_n 1, 1) := by decide +kernel
theorem dX11_area_21 : decode cX11_area 21 = .ok (.iinc 2 1, 3) := by decide +kernel
theorem dX11_area_24 : decode cX11_area 24 = .ok (.goto (-20), 3) := by decide +kernel
theorem dX11_area_27 : decode cX11_area 27 = .ok (.iload_n 1, 1) := by decide +kernel
theorem dX11_area_28 : decode cX11_area 28 = .ok (.ireturn, 1) := by decide +kernel
theorem dX11_dinv_0 : decode cX11_dinv 0 = .ok (.iconst 0, 1) := by decide +kernel
theorem dX11_dinv_1 : decode cX11_dinv 1 = .ok (.istore_n 1, 1) := by decide +kernel
theorem dX11_dinv_2 : decode cX11_dinv 2 = .ok (.iconst 1, 1) := by decide +kernel
theorem dX11_dinv_3 : decode cX11_dinv 3 = .ok (.istore_n 2, 1) := by decide +kernel
theorem dX11_dinv_4 : decode cX11_dinv 4 = .ok (.iload_n 2, 1) := by decide +kernel
theorem dX11_dinv_5 : decode cX11_dinv 5 = .ok (.aload_n 0, 1) := by decide +kernel
theorem dX11_dinv_6 : decode cX11_dinv 6 = .ok (.getfield 7, 3) := by decide +kernel
theorem dX11_dinv_9 : decode cX11_dinv 9 = .ok (.if_icmp .gt 109, 3) := by decide +kernel
theorem dX11_dinv_12 : decode cX11_dinv 12 = .ok (.iload_n 2, 1) := by decide +kernel
theorem dX11_dinv_13 : decode cX11_dinv 13 = .ok (.iconst 1, 1) := by decide +kernel
theorem dX11_dinv_14 : decode cX11_dinv 14 = .ok (.iadd, 1) := by decide +kernel
theorem dX11_dinv_15 : decode cX11_dinv 15 = .ok (.istore_n 3, 1) := by decide +kernel
theorem dX11_dinv_16 : decode cX11_dinv 16 = .ok (.iload_n 3, 1) := by decide +kernel
theorem dX11_dinv_17 : decode cX11_dinv 17 = .ok (.aload_n 0, 1) := by decide +kernel
theorem dX11_dinv_18 : decode cX11_dinv 18 = .ok (.getfield 7, 3) := by decide +kernel
theorem dX11_dinv_21 : decode cX11_dinv 21 = .ok (.if_icmp .gt 91, 3) := by decide +kernel
theorem dX11_dinv_24 : decode cX11_dinv 24 = .ok (.aload_n 0, 1) := by decide +kernel
theorem dX11_dinv_25 : decode cX11_dinv 25 = .ok (.getfield 67, 3) := by decide +kernel
theorem dX11_dinv_28 : decode cX11_dinv 28 = .ok (.iload_n 2, 1) := by decide +kernel
theorem dX11_dinv_29 : decode cX11_dinv 29 = .ok (.iaload, 1) := by decide +kernel
theorem dX11_dinv_30 : decode cX11_dinv 30 = .ok (.aload_n 0, 1) := by decide +kernel
theorem dX11_dinv_31 : decode cX11_dinv 31 = .ok (.getfield 67, 3) := by decide +kernel
theorem dX11_dinv_34 : decode cX11_dinv 34 = .ok (.iload_n 3, 1) := by decide +kernel
theorem dX11_dinv_35 : decode cX11_dinv 35 = .ok (.iaload, 1) := by decide +kernel
theorem dX11_dinv_36 : decode cX11_dinv 36 = .ok (.if_icmp .ne 22, 3) := by decide +kernel
theorem dX11_dinv_39 : decode cX11_dinv 39 = .ok (.aload_n 0, 1) := by decide +kernel
theorem dX11_dinv_40 : decode cX11_dinv 40 = .ok (.getfield 64, 3) := by decide +kernel
theorem dX11_dinv_43 : decode cX11_dinv 43 = .ok (.iload_n 2, 1) := by decide +kernel
theorem dX11_dinv_44 : decode cX11_dinv 44 = .ok (.iaload, 1) := by decide +kernel
theorem dX11_dinv_45 : decode cX11_dinv 45 = .ok (.aload_n 0, 1) := by decide +kernel
theorem dX11_dinv_46 : decode cX11_dinv 46 = .ok (.getfield 64, 3) := by decide +kernel
theorem dX11_dinv_49 : decode cX11_dinv 49 = .ok (.iload_n 3, 1) := by decide +kernel
theorem dX11_dinv_50 : decode cX11_dinv 50 = .ok (.iaload, 1) := by decide +kernel
theorem dX11_dinv_51 : decode cX11_dinv 51 = .ok (.if_icmp .ge 7, 3) := by decide +kernel
theorem dX11_dinv_54 : decode cX11_dinv 54 = .ok (.iconst 1, 1) := by decide +kernel
theorem dX11_dinv_55 : decode cX11_dinv 55 = .ok (.goto 4, 3) := by decide +kernel
theorem dX11_dinv_58 : decode cX11_dinv 58 = .ok (.iconst 0, 1) := by decide +kernel
theorem dX11_dinv_59 : decode cX11_dinv 59 = .ok (.istore 4, 2) := by decide +kernel
theorem dX11_dinv_61 : decode cX11_dinv 61 = .ok (.iload_n 1, 1) := by decide +kernel
theorem dX11_dinv_62 : decode cX11_dinv 62 = .ok (.iload 4, 2) := by decide +kernel
theorem dX11_dinv_64 : decode cX11_dinv 64 = .ok (.ifCond .ne 35, 3) := by decide +kernel
theorem dX11_dinv_67 : decode cX11_dinv 67 = .ok (.aload_n 0, 1) := by decide +kernel
theorem dX11_dinv_68 : decode cX11_dinv 68 = .ok (.getfield 67, 3) := by decide +kernel
theorem dX11_dinv_71 : decode cX11_dinv 71 = .ok (.iload_n 2, 1) := by decide +kernel
theorem dX11_dinv_72 : decode cX11_dinv 72 = .ok (.iaload, 1) := by decide +kernel
theorem dX11_dinv_73 : decode cX11_dinv 73 = .ok (.aload_n 0, 1) := by decide +kernel
theorem dX11_dinv_74 : decode cX11_dinv 74 = .ok (.getfield 67, 3) := by decide +kernel
theorem dX11_dinv_77 : decode cX11_dinv 77 = .ok (.iload_n 3, 1) := by decide +kernel
theorem dX11_dinv_78 : decode cX11_dinv 78 = .ok (.iaload, 1) := by decide +kernel
theorem dX11_dinv_79 : decode cX11_dinv 79 = .ok (.iconst 1, 1) := by decide +kernel
theorem dX11_dinv_80 : decode cX11_dinv 80 = .ok (.iadd, 1) := by decide +kernel
theorem dX11_dinv_81 : decode cX11_dinv 81 = .ok (.if_icmp .ne 22, 3) := by decide +kernel
theorem dX11_dinv_84 : decode cX11_dinv 84 = .ok (.aload_n 0, 1) := by decide +kernel
theorem dX11_dinv_85 : decode cX11_dinv 85 = .ok (.getfield 64, 3) := by decide +kernel
theorem dX11_dinv_88 : decode cX11_dinv 88 = .ok (.iload_n 2, 1) := by decide +kernel
theorem dX11_dinv_89 : decode cX11_dinv 89 = .ok (.iaload, 1) := by decide +kernel
theorem dX11_dinv_90 : decode cX11_dinv 90 = .ok (.aload_n 0, 1) := by decide +kernel
theorem dX11_dinv_91 : decode cX11_dinv 91 = .ok (.getfield 64, 3) := by decide +kernel
theorem dX11_dinv_94 : decode cX11_dinv 94 = .ok (.iload_n 3, 1) := by decide +kernel
theorem dX11_dinv_95 : decode cX11_dinv 95 = .ok (.iaload, 1) := by decide +kernel
theorem dX11_dinv_96 : decode cX11_dinv 96 = .ok (.if_icmp .le 7, 3) := by decide +kernel
theorem dX11_dinv_99 : decode cX11_dinv 99 = .ok (.iconst 1, 1) := by decide +kernel
theorem dX11_dinv_100 : decode cX11_dinv 100 = .ok (.goto 4, 3) := by decide +kernel
theorem dX11_dinv_103 : decode cX11_dinv 103 = .ok (.iconst 0, 1) := by decide +kernel
theorem dX11_dinv_104 : decode cX11_dinv 104 = .ok (.iadd, 1) := by decide +kernel
theorem dX11_dinv_105 : decode cX11_dinv 105 = .ok (.istore_n 1, 1) := by decide +kernel
theorem dX11_dinv_106 : decode cX11_dinv 106 = .ok (.iinc 3 1, 3) := by decide +kernel
theorem dX11_dinv_109 : decode cX11_dinv 109 = .ok (.goto (-93), 3) := by decide +kernel
theorem dX11_dinv_112 : decode cX11_dinv 112 = .ok (.iinc 2 1, 3) := by decide +kernel
theorem dX11_dinv_115 : decode cX11_dinv 115 = .ok (.goto (-111), 3) := by decide +kernel
theorem dX11_dinv_118 : decode cX11_dinv 118 = .ok (.iload_n 1, 1) := by decide +kernel
theorem dX11_dinv_119 : decode cX11_dinv 119 = .ok (.ireturn, 1) := by decide +kernel
theorem dX11_walk_0 : decode cX11_walk 0 = .ok (.iload_n 1, 1) := by decide +kernel
theorem dX11_walk_1 : decode cX11_walk 1 = .ok (.i2l, 1) := by decide +kernel
theorem dX11_walk_2 : decode cX11_walk 2 = .ok (.lconst 1, 1) := by decide +kernel
theorem dX11_walk_3 : decode cX11_walk 3 = .ok (.aload_n 0, 1) := by decide +kernel
theorem dX11_walk_4 : decode cX11_walk 4 = .ok (.getfield 7, 3) := by decide +kernel
theorem dX11_walk_7 : decode cX11_walk 7 = .ok (.i2l, 1) := by decide +kernel
theorem dX11_walk_8 : decode cX11_walk 8 = .ok (.invokestatic 96, 3) := by decide +kernel
theorem dX11_walk_11 : decode cX11_walk 11 = .ok (.ifCond .eq 13, 3) := by decide +kernel
theorem dX11_walk_14 : decode cX11_walk 14 = .ok (.iload_n 2, 1) := by decide +kernel
theorem dX11_walk_15 : decode cX11_walk 15 = .ok (.i2l, 1) := by decide +kernel
theorem dX11_walk_16 : decode cX11_walk 16 = .ok (.lconst 0, 1) := by decide +kernel
theorem dX11_walk_17 : decode cX11_walk 17 = .ok (.lconst 1, 1) := by decide +kernel
theorem dX11_walk_18 : decode cX11_walk 18 = .ok (.invokestatic 96, 3) := by decide +kernel
theorem dX11_walk_21 : decode cX11_walk 21 = .ok (.ifCond .ne 5, 3) := by decide +kernel
theorem dX11_walk_24 : decode cX11_walk 24 = .ok (.iconst (-1), 1) := by decide +kernel
theorem dX11_walk_25 : decode cX11_walk 25 = .ok (.ireturn, 1) := by decide +kernel
theorem dX11_walk_26 : decode cX11_walk 26 = .ok (.aload_n 0, 1) := by decide +kernel
theorem dX11_walk_27 : decode cX11_walk 27 = .ok (.invokevirtual 189, 3) := by decide +kernel
theorem dX11_walk_30 : decode cX11_walk 30 = .ok (.ifCond .ne 6, 3) := by decide +kernel
theorem dX11_walk_33 : decode cX11_walk 33 = .ok (.bipush (-2), 2) := by decide +kernel
theorem dX11_walk_35 : decode cX11_walk 35 = .ok (.ireturn, 1) := by decide +kernel
theorem dX11_walk_36 : decode cX11_walk 36 = .ok (.aload_n 0, 1) := by decide +kernel
theorem dX11_walk_37 : decode cX11_walk 37 = .ok (.invokevirtual 228, 3) := by decide +kernel
theorem dX11_walk_40 : decode cX11_walk 40 = .ok (.iload_n 2, 1) := by decide +kernel
theorem dX11_walk_41 : decode cX11_walk 41 = .ok (.ifCond .ne 12, 3) := by decide +kernel
theorem dX11_walk_44 : decode cX11_walk 44 = .ok (.aload_n 0, 1) := by decide +kernel
theorem dX11_walk_45 : decode cX11_walk 45 = .ok (.getfield 64, 3) := by decide +kernel
theorem dX11_walk_48 : decode cX11_walk 48 = .ok (.iload_n 1, 1) := by decide +kernel
theorem dX11_walk_49 : decode cX11_walk 49 = .ok (.iaload, 1) := by decide +kernel
theorem dX11_walk_50 : decode cX11_walk 50 = .ok (.goto 9, 3) := by decide +kernel
theorem dX11_walk_53 : decode cX11_walk 53 = .ok (.aload_n 0, 1) := by decide +kernel
theorem dX11_walk_54 : decode cX11_walk 54 = .ok (.getfield 67, 3) := by decide +kernel
theorem dX11_walk_57 : decode cX11_walk 57 = .ok (.iload_n 1, 1) := by decide +kernel
theorem dX11_walk_58 : decode cX11_walk 58 = .ok (.iaload, 1) := by decide +kernel
theorem dX11_walk_59 : decode cX11_walk 59 = .ok (.ireturn, 1) := by decide +kernel
theorem dX11_counts_0 : decode cX11_counts 0 = .ok (.iload_n 1, 1) := by decide +kernel
theorem dX11_counts_1 : decode cX11_counts 1 = .ok (.i2l, 1) := by decide +kernel
theorem dX11_counts_2 : decode cX11_counts 2 = .ok (.lconst 0, 1) := by decide +kernel
theorem dX11_counts_3 : decode cX11_counts 3 = .ok (.lconst 1, 1) := by decide +kernel
theorem dX11_counts_4 : decode cX11_counts 4 = .ok (.invokestatic 96, 3) := by decide +kernel
theorem dX11_counts_7 : decode cX11_counts 7 = .ok (.ifCond .ne 5, 3) := by decide +kernel
theorem dX11_counts_10 : decode cX11_counts 10 = .ok (.iconst (-1), 1) := by decide +kernel
theorem dX11_counts_11 : decode cX11_counts 11 = .ok (.ireturn, 1) := by decide +kernel
theorem dX11_counts_12 : decode cX11_counts 12 = .ok (.aload_n 0, 1) := by decide +kernel
theorem dX11_counts_13 : decode cX11_counts 13 = .ok (.invokevirtual 189, 3) := by decide +kernel
theorem dX11_counts_16 : decode cX11_counts 16 = .ok (.ifCond .ne 6, 3) := by decide +kernel
theorem dX11_counts_19 : decode cX11_counts 19 = .ok (.bipush (-2), 2) := by decide +kernel
theorem dX11_counts_21 : decode cX11_counts 21 = .ok (.ireturn, 1) := by decide +kernel
theorem dX11_counts_22 : decode cX11_counts 22 = .ok (.aload_n 0, 1) := by decide +kernel
theorem dX11_counts_23 : decode cX11_counts 23 = .ok (.invokevirtual 228, 3) := by decide +kernel
theorem dX11_counts_26 : decode cX11_counts 26 = .ok (.iload_n 1, 1) := by decide +kernel
theorem dX11_counts_27 : decode cX11_counts 27 = .ok (.ifCond .ne 10, 3) := by decide +kernel
theorem dX11_counts_30 : decode cX11_counts 30 = .ok (.aload_n 0, 1) := by decide +kernel
theorem dX11_counts_31 : decode cX11_counts 31 = .ok (.invokevirtual 231, 3) := by decide +kernel
theorem dX11_counts_34 : decode cX11_counts 34 = .ok (.goto 7, 3) := by decide +kernel
theorem dX11_counts_37 : decode cX11_counts 37 = .ok (.aload_n 0, 1) := by decide +kernel
theorem dX11_counts_38 : decode cX11_counts 38 = .ok (.invokevirtual 235, 3) := by decide +kernel
theorem dX11_counts_41 : decode cX11_counts 41 = .ok (.ireturn, 1) := by decide +kernel
theorem dX11_both_0 : decode cX11_both 0 = .ok (.iload_n 1, 1) := by decide +kernel
theorem dX11_both_1 : decode cX11_both 1 = .ok (.i2l, 1) := by decide +kernel
theorem dX11_both_2 : decode cX11_both 2 = .ok (.lconst 1, 1) := by decide +kernel
theorem dX11_both_3 : decode cX11_both 3 = .ok (.ldc2_w 238, 3) := by decide +kernel
theorem dX11_both_6 : decode cX11_both 6 = .ok (.invokestatic 96, 3) := by decide +kernel
theorem dX11_both_9 : decode cX11_both 9 = .ok (.ifCond .ne 5, 3) := by decide +kernel
theorem dX11_both_12 : decode cX11_both 12 = .ok (.iconst (-1), 1) := by decide +kernel
theorem dX11_both_13 : decode cX11_both 13 = .ok (.ireturn, 1) := by decide +kernel
theorem dX11_both_14 : decode cX11_both 14 = .ok (.aload_n 0, 1) := by decide +kernel
theorem dX11_both_15 : decode cX11_both 15 = .ok (.getfield 104, 3) := by decide +kernel
theorem dX11_both_18 : decode cX11_both 18 = .ok (.istore 4, 2) := by decide +kernel
theorem dX11_both_20 : decode cX11_both 20 = .ok (.aload_n 0, 1) := by decide +kernel
theorem dX11_both_21 : decode cX11_both 21 = .ok (.getfield 7, 3) := by decide +kernel
theorem dX11_both_24 : decode cX11_both 24 = .ok (.istore 5, 2) := by decide +kernel
theorem dX11_both_26 : decode cX11_both 26 = .ok (.aload_n 0, 1) := by decide +kernel
theorem dX11_both_27 : decode cX11_both 27 = .ok (.getfield 110, 3) := by decide +kernel
theorem dX11_both_30 : decode cX11_both 30 = .ok (.istore 6, 2) := by decide +kernel
theorem dX11_both_32 : decode cX11_both 32 = .ok (.iconst 1, 1) := by decide +kernel
theorem dX11_both_33 : decode cX11_both 33 = .ok (.istore 7, 2) := by decide +kernel
theorem dX11_both_35 : decode cX11_both 35 = .ok (.iload 7, 2) := by decide +kernel
theorem dX11_both_37 : decode cX11_both 37 = .ok (.iload 6, 2) := by decide +kernel
theorem dX11_both_39 : decode cX11_both 39 = .ok (.if_icmp .gt 37, 3) := by decide +kernel
theorem dX11_both_42 : decode cX11_both 42 = .ok (.aload_n 0, 1) := by decide +kernel
theorem dX11_both_43 : decode cX11_both 43 = .ok (.getfield 73, 3) := by decide +kernel
theorem dX11_both_46 : decode cX11_both 46 = .ok (.iload 7, 2) := by decide +kernel
theorem dX11_both_48 : decode cX11_both 48 = .ok (.aload_n 0, 1) := by decide +kernel
theorem dX11_both_49 : decode cX11_both 49 = .ok (.getfield 13, 3) := by decide +kernel
theorem dX11_both_52 : decode cX11_both 52 = .ok (.iload 7, 2) := by decide +kernel
theorem dX11_both_54 : decode cX11_both 54 = .ok (.iaload, 1) := by decide +kernel
theorem dX11_both_55 : decode cX11_both 55 = .ok (.iastore, 1) := by decide +kernel
theorem dX11_both_56 : decode cX11_both 56 = .ok (.aload_n 0, 1) := by decide +kernel
theorem dX11_both_57 : decode cX11_both 57 = .ok (.getfield 70, 3) := by decide +kernel
theorem dX11_both_60 : decode cX11_both 60 = .ok (.iload 7, 2) := by decide +kernel
theorem dX11_both_62 : decode cX11_both 62 = .ok (.aload_n 0, 1) := by decide +kernel
theorem dX11_both_63 : decode cX11_both 63 = .ok (.getfield 17, 3) := by decide +kernel
theorem dX11_both_66 : decode cX11_both 66 = .ok (.iload 7, 2) := by decide +kernel
theorem dX11_both_68 : decode cX11_both 68 = .ok (.iaload, 1) := by decide +kernel
theorem dX11_both_69 : decode cX11_both 69 = .ok (.iastore, 1) := by decide +kernel
theorem dX11_both_70 : decode cX11_both 70 = .ok (.iinc 7 1, 3) := by decide +kernel
theorem dX11_both_73 : decode cX11_both 73 = .ok (.goto (-38), 3) := by decide +kernel
theorem dX11_both_76 : decode cX11_both 76 = .ok (.aload_n 0, 1) := by decide +kernel
theorem dX11_both_77 : decode cX11_both 77 = .ok (.iconst 0, 1) := by decide +kernel
theorem dX11_both_78 : decode cX11_both 78 = .ok (.putfield 104, 3) := by decide +kernel
theorem dX11_both_81 : decode cX11_both 81 = .ok (.aload_n 0, 1) := by decide +kernel
theorem dX11_both_82 : decode cX11_both 82 = .ok (.iload_n 1, 1) := by decide +kernel
theorem dX11_both_83 : decode cX11_both 83 = .ok (.putfield 7, 3) := by decide +kernel
theorem dX11_both_86 : decode cX11_both 86 = .ok (.aload_n 0, 1) := by decide +kernel
theorem dX11_both_87 : decode cX11_both 87 = .ok (.iconst 0, 1) := by decide +kernel
theorem dX11_both_88 : decode cX11_both 88 = .ok (.putfield 110, 3) := by decide +kernel
theorem dX11_both_91 : decode cX11_both 91 = .ok (.iconst 1, 1) := by decide +kernel
theorem dX11_both_92 : decode cX11_both 92 = .ok (.istore 7, 2) := by decide +kernel
theorem dX11_both_94 : decode cX11_both 94 = .ok (.iload 7, 2) := by decide +kernel
theorem dX11_both_96 : decode cX11_both 96 = .ok (.iload_n 1, 1) := by decide +kernel
theorem dX11_both_97 : decode cX11_both 97 = .ok (.if_icmp .gt 14, 3) := by decide +kernel
theorem dX11_both_100 : decode cX11_both 100 = .ok (.aload_n 0, 1) := by decide +kernel
theorem dX11_both_101 : decode cX11_both 101 = .ok (.iconst 1, 1) := by decide +kernel
theorem dX11_both_102 : decode cX11_both 102 = .ok (.invokevirtual 113, 3) := by decide +kernel
theorem dX11_both_105 : decode cX11_both 105 = .ok (.iinc 7 1, 3) := by decide +kernel
theorem dX11_both_108 : decode cX11_both 108 = .ok (.goto (-14), 3) := by decide +kernel
theorem dX11_both_111 : decode cX11_both 111 = .ok (.iconst 0, 1) := by decide +kernel
theorem dX11_both_112 : decode cX11_both 112 = .ok (.istore 7, 2) := by decide +kernel
theorem dX11_both_114 : decode cX11_both 114 = .ok (.iconst 1, 1) := by decide +kernel
theorem dX11_both_115 : decode cX11_both 115 = .ok (.istore 8, 2) := by decide +kernel
theorem dX11_both_117 : decode cX11_both 117 = .ok (.iload 8, 2) := by decide +kernel
theorem dX11_both_119 : decode cX11_both 119 = .ok (.ifCond .eq 49, 3) := by decide +kernel
theorem dX11_both_122 : decode cX11_both 122 = .ok (.aload_n 0, 1) := by decide +kernel
theorem dX11_both_123 : decode cX11_both 123 = .ok (.invokevirtual 139, 3) := by decide +kernel
theorem dX11_both_126 : decode cX11_both 126 = .ok (.ifCond .eq 33, 3) := by decide +kernel
theorem dX11_both_129 : decode cX11_both 129 = .ok (.aload_n 0, 1) := by decide +kernel
theorem dX11_both_130 : decode cX11_both 130 = .ok (.invokevirtual 228, 3) := by decide +kernel
theorem dX11_both_133 : decode cX11_both 133 = .ok (.iload 7, 2) := by decide +kernel
theorem dX11_both_135 : decode cX11_both 135 = .ok (.aload_n 0, 1) := by decide +kernel
theorem dX11_both_136 : decode cX11_both 136 = .ok (.invokevirtual 231, 3) := by decide +kernel
theorem dX11_both_139 : decode cX11_both 139 = .ok (.iload_n 2, 1) := by decide +kernel
theorem dX11_both_140 : decode cX11_both 140 = .ok (.if_icmp .ne 15, 3) := by decide +kernel
theorem dX11_both_143 : decode cX11_both 143 = .ok (.aload_n 0, 1) := by decide +kernel
theorem dX11_both_144 : decode cX11_both 144 = .ok (.invokevirtual 235, 3) := by decide +kernel
theorem dX11_both_147 : decode cX11_both 147 = .ok (.iload_n 3, 1) := by decide +kernel
theorem dX11_both_148 : decode cX11_both 148 = .ok (.if_icmp .ne 7, 3) := by decide +kernel
theorem dX11_both_151 : decode cX11_both 151 = .ok (.iconst 1, 1) := by decide +kernel
theorem dX11_both_152 : decode cX11_both 152 = .ok (.goto 4, 3) := by decide +kernel
theorem dX11_both_155 : decode cX11_both 155 = .ok (.iconst 0, 1) := by decide +kernel
theorem dX11_both_156 : decode cX11_both 156 = .ok (.iadd, 1) := by decide +kernel
theorem dX11_both_157 : decode cX11_both 157 = .ok (.istore 7, 2) := by decide +kernel
theorem dX11_both_159 : decode cX11_both 159 = .ok (.aload_n 0, 1) := by decide +kernel
theorem dX11_both_160 : decode cX11_both 160 = .ok (.invokevirtual 145, 3) := by decide +kernel
theorem dX11_both_163 : decode cX11_both 163 = .ok (.istore 8, 2) := by decide +kernel
theorem dX11_both_165 : decode cX11_both 165 = .ok (.goto (-48), 3) := by decide +kernel
theorem dX11_both_168 : decode cX11_both 168 = .ok (.aload_n 0, 1) := by decide +kernel
theorem dX11_both_169 : decode cX11_both 169 = .ok (.iload 4, 2) := by decide +kernel
theorem dX11_both_171 : decode cX11_both 171 = .ok (.putfield 104, 3) := by decide +kernel
theorem dX11_both_174 : decode cX11_both 174 = .ok (.aload_n 0, 1) := by decide +kernel
theorem dX11_both_175 : decode cX11_both 175 = .ok (.iload 5, 2) := by decide +kernel
theorem dX11_both_177 : decode cX11_both 177 = .ok (.putfield 7, 3) := by decide +kernel
theorem dX11_both_180 : decode cX11_both 180 = .ok (.aload_n 0, 1) := by decide +kernel
theorem dX11_both_181 : decode cX11_both 181 = .ok (.iload 6, 2) := by decide +kernel
theorem dX11_both_183 : decode cX11_both 183 = .ok (.putfield 110, 3) := by decide +kernel
theorem dX11_both_186 : decode cX11_both 186 = .ok (.iconst 1, 1) := by decide +kernel
theorem dX11_both_187 : decode cX11_both 187 = .ok (.istore 9, 2) := by decide +kernel
theorem dX11_both_189 : decode cX11_both 189 = .ok (.iload 9, 2) := by decide +kernel
theorem dX11_both_191 : decode cX11_both 191 = .ok (.iload 6, 2) := by decide +kernel
theorem dX11_both_193 : decode cX11_both 193 = .ok (.if_icmp .gt 37, 3) := by decide +kernel
theorem dX11_both_196 : decode cX11_both 196 = .ok (.aload_n 0, 1) := by decide +kernel
theorem dX11_both_197 : decode cX11_both 197 = .ok (.getfield 13, 3) := by decide +kernel
theorem dX11_both_200 : decode cX11_both 200 = .ok (.iload 9, 2) := by decide +kernel
theorem dX11_both_202 : decode cX11_both 202 = .ok (.aload_n 0, 1) := by decide +kernel
theorem dX11_both_203 : decode cX11_both 203 = .ok (.getfield 73, 3) := by decide +kernel
theorem dX11_both_206 : decode cX11_both 206 = .ok (.iload 9, 2) := by decide +kernel
theorem dX11_both_208 : decode cX11_both 208 = .ok (.iaload, 1) := by decide +kernel
theorem dX11_both_209 : decode cX11_both 209 = .ok (.iastore, 1) := by decide +kernel
theorem dX11_both_210 : decode cX11_both 210 = .ok (.aload_n 0, 1) := by decide +kernel
theorem dX11_both_211 : decode cX11_both 211 = .ok (.getfield 17, 3) := by decide +kernel
theorem dX11_both_214 : decode cX11_both 214 = .ok (.iload 9, 2) := by decide +kernel
theorem dX11_both_216 : decode cX11_both 216 = .ok (.aload_n 0, 1) := by decide +kernel
theorem dX11_both_217 : decode cX11_both 217 = .ok (.getfield 70, 3) := by decide +kernel
theorem dX11_both_220 : decode cX11_both 220 = .ok (.iload 9, 2) := by decide +kernel
theorem dX11_both_222 : decode cX11_both 222 = .ok (.iaload, 1) := by decide +kernel
theorem dX11_both_223 : decode cX11_both 223 = .ok (.iastore, 1) := by decide +kernel
theorem dX11_both_224 : decode cX11_both 224 = .ok (.iinc 9 1, 3) := by decide +kernel
theorem dX11_both_227 : decode cX11_both 227 = .ok (.goto (-38), 3) := by decide +kernel
theorem dX11_both_230 : decode cX11_both 230 = .ok (.iload 7, 2) := by decide +kernel
theorem dX11_both_232 : decode cX11_both 232 = .ok (.ireturn, 1) := by decide +kernel
theorem dX11_withSum_0 : decode cX11_withSum 0 = .ok (.bipush 56, 2) := by decide +kernel
theorem dX11_withSum_2 : decode cX11_withSum 2 = .ok (.istore_n 3, 1) := by decide +kernel
theorem dX11_withSum_3 : decode cX11_withSum 3 = .ok (.iconst 0, 1) := by decide +kernel
theorem dX11_withSum_4 : decode cX11_withSum 4 = .ok (.istore 4, 2) := by decide +kernel
theorem dX11_withSum_6 : decode cX11_withSum 6 = .ok (.iload 4, 2) := by decide +kernel
theorem dX11_withSum_8 : decode cX11_withSum 8 = .ok (.sipush 8064, 3) := by decide +kernel
theorem dX11_withSum_11 : decode cX11_withSum 11 = .ok (.if_icmp .ge 17, 3) := by decide +kernel
theorem dX11_withSum_14 : decode cX11_withSum 14 = .ok (.aload_n 0, 1) := by decide +kernel
theorem dX11_withSum_15 : decode cX11_withSum 15 = .ok (.getfield 76, 3) := by decide +kernel
theorem dX11_withSum_18 : decode cX11_withSum 18 = .ok (.iload 4, 2) := by decide +kernel
theorem dX11_withSum_20 : decode cX11_withSum 20 = .ok (.lconst 0, 1) := by decide +kernel
theorem dX11_withSum_21 : decode cX11_withSum 21 = .ok (.lastore, 1) := by decide +kernel
theorem dX11_withSum_22 : decode cX11_withSum 22 = .ok (.iinc 4 1, 3) := by decide +kernel
theorem dX11_withSum_25 : decode cX11_withSum 25 = .ok (.goto (-19), 3) := by decide +kernel
theorem dX11_withSum_28 : decode cX11_withSum 28 = .ok (.aload_n 0, 1) := by decide +kernel
theorem dX11_withSum_29 : decode cX11_withSum 29 = .ok (.getfield 76, 3) := by decide +kernel
theorem dX11_withSum_32 : decode cX11_withSum 32 = .ok (.iload_n 3, 1) := by decide +kernel
theorem dX11_withSum_33 : decode cX11_withSum 33 = .ok (.bipush 12, 2) := by decide +kernel
theorem dX11_withSum_35 : decode cX11_withSum 35 = .ok (.imul, 1) := by decide +kernel
theorem dX11_withSum_36 : decode cX11_withSum 36 = .ok (.iload_n 1, 1) := by decide +kernel
theorem dX11_withSum_37 : decode cX11_withSum 37 = .ok (.iconst 1, 1) := by decide +kernel
theorem dX11_withSum_38 : decode cX11_withSum 38 = .ok (.iadd, 1) := by decide +kernel
theorem dX11_withSum_39 : decode cX11_withSum 39 = .ok (.imul, 1) := by decide +kernel
theorem dX11_withSum_40 : decode cX11_withSum 40 = .ok (.lconst 1, 1) := by decide +kernel
theorem dX11_withSum_41 : decode cX11_withSum 41 = .ok (.lastore, 1) := by decide +kernel
theorem dX11_withSum_42 : decode cX11_withSum 42 = .ok (.iload_n 1, 1) := by decide +kernel
theorem dX11_withSum_43 : decode cX11_withSum 43 = .ok (.istore 4, 2) := by decide +kernel
theorem dX11_withSum_45 : decode cX11_withSum 45 = .ok (.iload 4, 2) := by decide +kernel
theorem dX11_withSum_47 : decode cX11_withSum 47 = .ok (.iconst 1, 1) := by decide +kernel
theorem dX11_withSum_48 : decode cX11_withSum 48 = .ok (.if_icmp .lt 128, 3) := by decide +kernel
theorem dX11_withSum_51 : decode cX11_withSum 51 = .ok (.iconst 0, 1) := by decide +kernel
theorem dX11_withSum_52 : decode cX11_withSum 52 = .ok (.istore 5, 2) := by decide +kernel
theorem dX11_withSum_54 : decode cX11_withSum 54 = .ok (.iload 5, 2) := by decide +kernel
theorem dX11_withSum_56 : decode cX11_withSum 56 = .ok (.iload_n 1, 1) := by decide +kernel
theorem dX11_withSum_57 : decode cX11_withSum 57 = .ok (.iload 4, 2) := by decide +kernel
theorem dX11_withSum_59 : decode cX11_withSum 59 = .ok (.isub, 1) := by decide +kernel
theorem dX11_withSum_60 : decode cX11_withSum 60 = .ok (.iconst 1, 1) := by decide +kernel
theorem dX11_withSum_61 : decode cX11_withSum 61 = .ok (.iadd, 1) := by decide +kernel
theorem dX11_withSum_62 : decode cX11_withSum 62 = .ok (.if_icmp .gt 108, 3) := by decide +kernel
theorem dX11_withSum_65 : decode cX11_withSum 65 = .ok (.iconst 0, 1) := by decide +kernel
theorem dX11_withSum_66 : decode cX11_withSum 66 = .ok (.istore 6, 2) := by decide +kernel
theorem dX11_withSum_68 : decode cX11_withSum 68 = .ok (.iload 6, 2) := by decide +kernel
theorem dX11_withSum_70 : decode cX11_withSum 70 = .ok (.iload 5, 2) := by decide +kernel
theorem dX11_withSum_72 : decode cX11_withSum 72 = .ok (.if_icmp .gt 92, 3) := by decide +kernel
theorem dX11_withSum_75 : decode cX11_withSum 75 = .ok (.iload 6, 2) := by decide +kernel
theorem dX11_withSum_77 : decode cX11_withSum 77 = .ok (.iload 4, 2) := by decide +kernel
theorem dX11_withSum_79 : decode cX11_withSum 79 = .ok (.imul, 1) := by decide +kernel
theorem dX11_withSum_80 : decode cX11_withSum 80 = .ok (.istore 7, 2) := by decide +kernel
theorem dX11_withSum_82 : decode cX11_withSum 82 = .ok (.iload 7, 2) := by decide +kernel
theorem dX11_withSum_84 : decode cX11_withSum 84 = .ok (.iload_n 3, 1) := by decide +kernel
theorem dX11_withSum_85 : decode cX11_withSum 85 = .ok (.if_icmp .ge 73, 3) := by decide +kernel
theorem dX11_withSum_88 : decode cX11_withSum 88 = .ok (.aload_n 0, 1) := by decide +kernel
theorem dX11_withSum_89 : decode cX11_withSum 89 = .ok (.getfield 76, 3) := by decide +kernel
theorem dX11_withSum_92 : decode cX11_withSum 92 = .ok (.iload_n 3, 1) := by decide +kernel
theorem dX11_withSum_93 : decode cX11_withSum 93 = .ok (.bipush 12, 2) := by decide +kernel
theorem dX11_withSum_95 : decode cX11_withSum 95 = .ok (.iload 4, 2) := by decide +kernel
theorem dX11_withSum_97 : decode cX11_withSum 97 = .ok (.imul, 1) := by decide +kernel
theorem dX11_withSum_98 : decode cX11_withSum 98 = .ok (.iload 5, 2) := by decide +kernel
theorem dX11_withSum_100 : decode cX11_withSum 100 = .ok (.iadd, 1) := by decide +kernel
theorem dX11_withSum_101 : decode cX11_withSum 101 = .ok (.imul, 1) := by decide +kernel
theorem dX11_withSum_102 : decode cX11_withSum 102 = .ok (.iload 7, 2) := by decide +kernel
theorem dX11_withSum_104 : decode cX11_withSum 104 = .ok (.iadd, 1) := by decide +kernel
theorem dX11_withSum_105 : decode cX11_withSum 105 = .ok (.dup2, 1) := by decide +kernel
theorem dX11_withSum_106 : decode cX11_withSum 106 = .ok (.laload, 1) := by decide +kernel
theorem dX11_withSum_107 : decode cX11_withSum 107 = .ok (.aload_n 0, 1) := by decide +kernel
theorem dX11_withSum_108 : decode cX11_withSum 108 = .ok (.getfield 76, 3) := by decide +kernel
theorem dX11_withSum_111 : decode cX11_withSum 111 = .ok (.iload_n 3, 1) := by decide +kernel
theorem dX11_withSum_112 : decode cX11_withSum 112 = .ok (.bipush 12, 2) := by decide +kernel
theorem dX11_withSum_114 : decode cX11_withSum 114 = .ok (.iload 4, 2) := by decide +kernel
theorem dX11_withSum_116 : decode cX11_withSum 116 = .ok (.iconst 1, 1) := by decide +kernel
theorem dX11_withSum_117 : decode cX11_withSum 117 = .ok (.iadd, 1) := by decide +kernel
theorem dX11_withSum_118 : decode cX11_withSum 118 = .ok (.imul, 1) := by decide +kernel
theorem dX11_withSum_119 : decode cX11_withSum 119 = .ok (.iload 5, 2) := by decide +kernel
theorem dX11_withSum_121 : decode cX11_withSum 121 = .ok (.iadd, 1) := by decide +kernel
theorem dX11_withSum_122 : decode cX11_withSum 122 = .ok (.iload 6, 2) := by decide +kernel
theorem dX11_withSum_124 : decode cX11_withSum 124 = .ok (.isub, 1) := by decide +kernel
theorem dX11_withSum_125 : decode cX11_withSum 125 = .ok (.imul, 1) := by decide +kernel
theorem dX11_withSum_126 : decode cX11_withSum 126 = .ok (.iload 7, 2) := by decide +kernel
theorem dX11_withSum_128 : decode cX11_withSum 128 = .ok (.iadd, 1) := by decide +kernel
theorem dX11_withSum_129 : decode cX11_withSum 129 = .ok (.iload 6, 2) := by decide +kernel
theorem dX11_withSum_131 : decode cX11_withSum 131 = .ok (.iload 4, 2) := by decide +kernel
theorem dX11_withSum_133 : decode cX11_withSum 133 = .ok (.imul, 1) := by decide +kernel
theorem dX11_withSum_134 : decode cX11_withSum 134 = .ok (.isub, 1) := by decide +kernel
theorem dX11_withSum_135 : decode cX11_withSum 135 = .ok (.laload, 1) := by decide +kernel
theorem dX11_withSum_136 : decode cX11_withSum 136 = .ok (.aload_n 0, 1) := by decide +kernel
theorem dX11_withSum_137 : decode cX11_withSum 137 = .ok (.iload_n 1, 1) := by decide +kernel
theorem dX11_withSum_138 : decode cX11_withSum 138 = .ok (.iload 5, 2) := by decide +kernel
theorem dX11_withSum_140 : decode cX11_withSum 140 = .ok (.iload 6, 2) := by decide +kernel
theorem dX11_withSum_142 : decode cX11_withSum 142 = .ok (.isub, 1) := by decide +kernel
theorem dX11_withSum_143 : decode cX11_withSum 143 = .ok (.isub, 1) := by decide +kernel
theorem dX11_withSum_144 : decode cX11_withSum 144 = .ok (.iload 6, 2) := by decide +kernel
theorem dX11_withSum_146 : decode cX11_withSum 146 = .ok (.invokevirtual 148, 3) := by decide +kernel
theorem dX11_withSum_149 : decode cX11_withSum 149 = .ok (.lmul, 1) := by decide +kernel
theorem dX11_withSum_150 : decode cX11_withSum 150 = .ok (.ladd, 1) := by decide +kernel
theorem dX11_withSum_151 : decode cX11_withSum 151 = .ok (.lastore, 1) := by decide +kernel
theorem dX11_withSum_152 : decode cX11_withSum 152 = .ok (.iinc 7 1, 3) := by decide +kernel
theorem dX11_withSum_155 : decode cX11_withSum 155 = .ok (.goto (-73), 3) := by decide +kernel
theorem dX11_withSum_158 : decode cX11_withSum 158 = .ok (.iinc 6 1, 3) := by decide +kernel
theorem dX11_withSum_161 : decode cX11_withSum 161 = .ok (.goto (-93), 3) := by decide +kernel
theorem dX11_withSum_164 : decode cX11_withSum 164 = .ok (.iinc 5 1, 3) := by decide +kernel
theorem dX11_withSum_167 : decode cX11_withSum 167 = .ok (.goto (-113), 3) := by decide +kernel
theorem dX11_withSum_170 : decode cX11_withSum 170 = .ok (.iinc 4 (-1), 3) := by decide +kernel
theorem dX11_withSum_173 : decode cX11_withSum 173 = .ok (.goto (-128), 3) := by decide +kernel
theorem dX11_withSum_176 : decode cX11_withSum 176 = .ok (.iload_n 2, 1) := by decide +kernel
theorem dX11_withSum_177 : decode cX11_withSum 177 = .ok (.i2l, 1) := by decide +kernel
theorem dX11_withSum_178 : decode cX11_withSum 178 = .ok (.lconst 0, 1) := by decide +kernel
theorem dX11_withSum_179 : decode cX11_withSum 179 = .ok (.iload_n 3, 1) := by decide +kernel
theorem dX11_withSum_180 : decode cX11_withSum 180 = .ok (.iconst 1, 1) := by decide +kernel
theorem dX11_withSum_181 : decode cX11_withSum 181 = .ok (.isub, 1) := by decide +kernel
theorem dX11_withSum_182 : decode cX11_withSum 182 = .ok (.i2l, 1) := by decide +kernel
theorem dX11_withSum_183 : decode cX11_withSum 183 = .ok (.invokestatic 96, 3) := by decide +kernel
theorem dX11_withSum_186 : decode cX11_withSum 186 = .ok (.ifCond .eq 19, 3) := by decide +kernel
theorem dX11_withSum_189 : decode cX11_withSum 189 = .ok (.aload_n 0, 1) := by decide +kernel
theorem dX11_withSum_190 : decode cX11_withSum 190 = .ok (.getfield 76, 3) := by decide +kernel
theorem dX11_withSum_193 : decode cX11_withSum 193 = .ok (.iload_n 3, 1) := by decide +kernel
theorem dX11_withSum_194 : decode cX11_withSum 194 = .ok (.bipush 12, 2) := by decide +kernel
theorem dX11_withSum_196 : decode cX11_withSum 196 = .ok (.iload_n 1, 1) := by decide +kernel
theorem dX11_withSum_197 : decode cX11_withSum 197 = .ok (.iadd, 1) := by decide +kernel
theorem dX11_withSum_198 : decode cX11_withSum 198 = .ok (.imul, 1) := by decide +kernel
theorem dX11_withSum_199 : decode cX11_withSum 199 = .ok (.iload_n 2, 1) := by decide +kernel
theorem dX11_withSum_200 : decode cX11_withSum 200 = .ok (.iadd, 1) := by decide +kernel
theorem dX11_withSum_201 : decode cX11_withSum 201 = .ok (.laload, 1) := by decide +kernel
theorem dX11_withSum_202 : decode cX11_withSum 202 = .ok (.goto 4, 3) := by decide +kernel
theorem dX11_withSum_205 : decode cX11_withSum 205 = .ok (.lconst 0, 1) := by decide +kernel
theorem dX11_withSum_206 : decode cX11_withSum 206 = .ok (.lreturn, 1) := by decide +kernel
theorem dX11_withLucky_0 : decode cX11_withLucky 0 = .ok (.iconst 0, 1) := by decide +kernel
theorem dX11_withLucky_1 : decode cX11_withLucky 1 = .ok (.istore_n 3, 1) := by decide +kernel
theorem dX11_withLucky_2 : decode cX11_withLucky 2 = .ok (.iload_n 3, 1) := by decide +kernel
theorem dX11_withLucky_3 : decode cX11_withLucky 3 = .ok (.bipush 12, 2) := by decide +kernel
theorem dX11_withLucky_5 : decode cX11_withLucky 5 = .ok (.if_icmp .ge 25, 3) := by decide +kernel
theorem dX11_withLucky_8 : decode cX11_withLucky 8 = .ok (.aload_n 0, 1) := by decide +kernel
theorem dX11_withLucky_9 : decode cX11_withLucky 9 = .ok (.getfield 79, 3) := by decide +kernel
theorem dX11_withLucky_12 : decode cX11_withLucky 12 = .ok (.iload_n 3, 1) := by decide +kernel
theorem dX11_withLucky_13 : decode cX11_withLucky 13 = .ok (.iload_n 3, 1) := by decide +kernel
theorem dX11_withLucky_14 : decode cX11_withLucky 14 = .ok (.iconst 1, 1) := by decide +kernel
theorem dX11_withLucky_15 : decode cX11_withLucky 15 = .ok (.if_icmp .ne 7, 3) := by decide +kernel
theorem dX11_withLucky_18 : decode cX11_withLucky 18 = .ok (.lconst 1, 1) := by decide +kernel
theorem dX11_withLucky_19 : decode cX11_withLucky 19 = .ok (.goto 4, 3) := by decide +kernel
theorem dX11_withLucky_22 : decode cX11_withLucky 22 = .ok (.lconst 0, 1) := by decide +kernel
theorem dX11_withLucky_23 : decode cX11_withLucky 23 = .ok (.lastore, 1) := by decide +kernel
theorem dX11_withLucky_24 : decode cX11_withLucky 24 = .ok (.iinc 3 1, 3) := by decide +kernel
theorem dX11_withLucky_27 : decode cX11_withLucky 27 = .ok (.goto (-25), 3) := by decide +kernel
theorem dX11_withLucky_30 : decode cX11_withLucky 30 = .ok (.iconst 1, 1) := by decide +kernel
theorem dX11_withLucky_31 : decode cX11_withLucky 31 = .ok (.istore_n 3, 1) := by decide +kernel
theorem dX11_withLucky_32 : decode cX11_withLucky 32 = .ok (.iload_n 3, 1) := by decide +kernel
theorem dX11_withLucky_33 : decode cX11_withLucky 33 = .ok (.iload_n 1, 1) := by decide +kernel
theorem dX11_withLucky_34 : decode cX11_withLucky 34 = .ok (.if_icmp .ge 67, 3) := by decide +kernel
theorem dX11_withLucky_37 : decode cX11_withLucky 37 = .ok (.bipush 11, 2) := by decide +kernel
theorem dX11_withLucky_39 : decode cX11_withLucky 39 = .ok (.istore 4, 2) := by decide +kernel
theorem dX11_withLucky_41 : decode cX11_withLucky 41 = .ok (.iload 4, 2) := by decide +kernel
theorem dX11_withLucky_43 : decode cX11_withLucky 43 = .ok (.ifCond .lt 52, 3) := by decide +kernel
theorem dX11_withLucky_46 : decode cX11_withLucky 46 = .ok (.aload_n 0, 1) := by decide +kernel
theorem dX11_withLucky_47 : decode cX11_withLucky 47 = .ok (.getfield 79, 3) := by decide +kernel
theorem dX11_withLucky_50 : decode cX11_withLucky 50 = .ok (.iload 4, 2) := by decide +kernel
theorem dX11_withLucky_52 : decode cX11_withLucky 52 = .ok (.iload_n 3, 1) := by decide +kernel
theorem dX11_withLucky_53 : decode cX11_withLucky 53 = .ok (.i2l, 1) := by decide +kernel
theorem dX11_withLucky_54 : decode cX11_withLucky 54 = .ok (.aload_n 0, 1) := by decide +kernel
theorem dX11_withLucky_55 : decode cX11_withLucky 55 = .ok (.getfield 79, 3) := by decide +kernel
theorem dX11_withLucky_58 : decode cX11_withLucky 58 = .ok (.iload 4, 2) := by decide +kernel
theorem dX11_withLucky_60 : decode cX11_withLucky 60 = .ok (.laload, 1) := by decide +kernel
theorem dX11_withLucky_61 : decode cX11_withLucky 61 = .ok (.lmul, 1) := by decide +kernel
theorem dX11_withLucky_62 : decode cX11_withLucky 62 = .ok (.iload 4, 2) := by decide +kernel
theorem dX11_withLucky_64 : decode cX11_withLucky 64 = .ok (.ifCond .le 22, 3) := by decide +kernel
theorem dX11_withLucky_67 : decode cX11_withLucky 67 = .ok (.iload_n 1, 1) := by decide +kernel
theorem dX11_withLucky_68 : decode cX11_withLucky 68 = .ok (.iload_n 3, 1) := by decide +kernel
theorem dX11_withLucky_69 : decode cX11_withLucky 69 = .ok (.isub, 1) := by decide +kernel
theorem dX11_withLucky_70 : decode cX11_withLucky 70 = .ok (.iconst 1, 1) := by decide +kernel
theorem dX11_withLucky_71 : decode cX11_withLucky 71 = .ok (.iadd, 1) := by decide +kernel
theorem dX11_withLucky_72 : decode cX11_withLucky 72 = .ok (.i2l, 1) := by decide +kernel
theorem dX11_withLucky_73 : decode cX11_withLucky 73 = .ok (.aload_n 0, 1) := by decide +kernel
theorem dX11_withLucky_74 : decode cX11_withLucky 74 = .ok (.getfield 79, 3) := by decide +kernel
theorem dX11_withLucky_77 : decode cX11_withLucky 77 = .ok (.iload 4, 2) := by decide +kernel
theorem dX11_withLucky_79 : decode cX11_withLucky 79 = .ok (.iconst 1, 1) := by decide +kernel
theorem dX11_withLucky_80 : decode cX11_withLucky 80 = .ok (.isub, 1) := by decide +kernel
theorem dX11_withLucky_81 : decode cX11_withLucky 81 = .ok (.laload, 1) := by decide +kernel
theorem dX11_withLucky_82 : decode cX11_withLucky 82 = .ok (.lmul, 1) := by decide +kernel
theorem dX11_withLucky_83 : decode cX11_withLucky 83 = .ok (.goto 4, 3) := by decide +kernel
theorem dX11_withLucky_86 : decode cX11_withLucky 86 = .ok (.lconst 0, 1) := by decide +kernel
theorem dX11_withLucky_87 : decode cX11_withLucky 87 = .ok (.ladd, 1) := by decide +kernel
theorem dX11_withLucky_88 : decode cX11_withLucky 88 = .ok (.lastore, 1) := by decide +kernel
theorem dX11_withLucky_89 : decode cX11_withLucky 89 = .ok (.iinc 4 (-1), 3) := by decide +kernel
theorem dX11_withLucky_92 : decode cX11_withLucky 92 = .ok (.goto (-51), 3) := by decide +kernel
theorem dX11_withLucky_95 : decode cX11_withLucky 95 = .ok (.iinc 3 1, 3) := by decide +kernel
theorem dX11_withLucky_98 : decode cX11_withLucky 98 = .ok (.goto (-66), 3) := by decide +kernel
theorem dX11_withLucky_101 : decode cX11_withLucky 101 = .ok (.iload_n 2, 1) := by decide +kernel
theorem dX11_withLucky_102 : decode cX11_withLucky 102 = .ok (.i2l, 1) := by decide +kernel
theorem dX11_withLucky_103 : decode cX11_withLucky 103 = .ok (.lconst 0, 1) := by decide +kernel
theorem dX11_withLucky_104 : decode cX11_withLucky 104 = .ok (.ldc2_w 240, 3) := by decide +kernel
theorem dX11_withLucky_107 : decode cX11_withLucky 107 = .ok (.invokestatic 96, 3) := by decide +kernel
theorem dX11_withLucky_110 : decode cX11_withLucky 110 = .ok (.ifCond .eq 12, 3) := by decide +kernel
theorem dX11_withLucky_113 : decode cX11_withLucky 113 = .ok (.aload_n 0, 1) := by decide +kernel
theorem dX11_withLucky_114 : decode cX11_withLucky 114 = .ok (.getfield 79, 3) := by decide +kernel
theorem dX11_withLucky_117 : decode cX11_withLucky 117 = .ok (.iload_n 2, 1) := by decide +kernel
theorem dX11_withLucky_118 : decode cX11_withLucky 118 = .ok (.laload, 1) := by decide +kernel
theorem dX11_withLucky_119 : decode cX11_withLucky 119 = .ok (.goto 4, 3) := by decide +kernel
theorem dX11_withLucky_122 : decode cX11_withLucky 122 = .ok (.lconst 0, 1) := by decide +kernel
theorem dX11_withLucky_123 : decode cX11_withLucky 123 = .ok (.lreturn, 1) := by decide +kernel
theorem dX11_allOf_0 : decode cX11_allOf 0 = .ok (.iload_n 0, 1) := by decide +kernel
theorem dX11_allOf_1 : decode cX11_allOf 1 = .ok (.ifCond .ne 7, 3) := by decide +kernel
theorem dX11_allOf_4 : decode cX11_allOf 4 = .ok (.lconst 1, 1) := by decide +kernel
theorem dX11_allOf_5 : decode cX11_allOf 5 = .ok (.goto 13, 3) := by decide +kernel
theorem dX11_allOf_8 : decode cX11_allOf 8 = .ok (.iload_n 0, 1) := by decide +kernel
theorem dX11_allOf_9 : decode cX11_allOf 9 = .ok (.iconst 1, 1) := by decide +kernel
theorem dX11_allOf_10 : decode cX11_allOf 10 = .ok (.iadd, 1) := by decide +kernel
theorem dX11_allOf_11 : decode cX11_allOf 11 = .ok (.i2l, 1) := by decide +kernel
theorem dX11_allOf_12 : decode cX11_allOf 12 = .ok (.iload_n 0, 1) := by decide +kernel
theorem dX11_allOf_13 : decode cX11_allOf 13 = .ok (.iconst 1, 1) := by decide +kernel
theorem dX11_allOf_14 : decode cX11_allOf 14 = .ok (.isub, 1) := by decide +kernel
theorem dX11_allOf_15 : decode cX11_allOf 15 = .ok (.invokestatic 195, 3) := by decide +kernel
theorem dX11_allOf_18 : decode cX11_allOf 18 = .ok (.lreturn, 1) := by decide +kernel
theorem dX11_withParts_0 : decode cX11_withParts 0 = .ok (.iconst 0, 1) := by decide +kernel
theorem dX11_withParts_1 : decode cX11_withParts 1 = .ok (.istore_n 3, 1) := by decide +kernel
theorem dX11_withParts_2 : decode cX11_withParts 2 = .ok (.iload_n 3, 1) := by decide +kernel
theorem dX11_withParts_3 : decode cX11_withParts 3 = .ok (.sipush 144, 3) := by decide +kernel
theorem dX11_withParts_6 : decode cX11_withParts 6 = .ok (.if_icmp .ge 16, 3) := by decide +kernel
theorem dX11_withParts_9 : decode cX11_withParts 9 = .ok (.aload_n 0, 1) := by decide +kernel
theorem dX11_withParts_10 : decode cX11_withParts 10 = .ok (.getfield 82, 3) := by decide +kernel
theorem dX11_withParts_13 : decode cX11_withParts 13 = .ok (.iload_n 3, 1) := by decide +kernel
theorem dX11_withParts_14 : decode cX11_withParts 14 = .ok (.lconst 0, 1) := by decide +kernel
theorem dX11_withParts_15 : decode cX11_withParts 15 = .ok (.lastore, 1) := by decide +kernel
theorem dX11_withParts_16 : decode cX11_withParts 16 = .ok (.iinc 3 1, 3) := by decide +kernel
theorem dX11_withParts_19 : decode cX11_withParts 19 = .ok (.goto (-17), 3) := by decide +kernel
theorem dX11_withParts_22 : decode cX11_withParts 22 = .ok (.aload_n 0, 1) := by decide +kernel
theorem dX11_withParts_23 : decode cX11_withParts 23 = .ok (.getfield 82, 3) := by decide +kernel
theorem dX11_withParts_26 : decode cX11_withParts 26 = .ok (.iconst 0, 1) := by decide +kernel
theorem dX11_withParts_27 : decode cX11_withParts 27 = .ok (.lconst 1, 1) := by decide +kernel
theorem dX11_withParts_28 : decode cX11_withParts 28 = .ok (.lastore, 1) := by decide +kernel
theorem dX11_withParts_29 : decode cX11_withParts 29 = .ok (.iconst 1, 1) := by decide +kernel
theorem dX11_withParts_30 : decode cX11_withParts 30 = .ok (.istore_n 3, 1) := by decide +kernel
theorem dX11_withParts_31 : decode cX11_withParts 31 = .ok (.iload_n 3, 1) := by decide +kernel
theorem dX11_withParts_32 : decode cX11_withParts 32 = .ok (.iload_n 1, 1) := by decide +kernel
theorem dX11_withParts_33 : decode cX11_withParts 33 = .ok (.if_icmp .gt 87, 3) := by decide +kernel
theorem dX11_withParts_36 : decode cX11_withParts 36 = .ok (.iconst 1, 1) := by decide +kernel
theorem dX11_withParts_37 : decode cX11_withParts 37 = .ok (.istore 4, 2) := by decide +kernel
theorem dX11_withParts_39 : decode cX11_withParts 39 = .ok (.iload 4, 2) := by decide +kernel
theorem dX11_withParts_41 : decode cX11_withParts 41 = .ok (.iload_n 1, 1) := by decide +kernel
theorem dX11_withParts_42 : decode cX11_withParts 42 = .ok (.if_icmp .gt 72, 3) := by decide +kernel
theorem dX11_withParts_45 : decode cX11_withParts 45 = .ok (.iconst 1, 1) := by decide +kernel
theorem dX11_withParts_46 : decode cX11_withParts 46 = .ok (.istore 5, 2) := by decide +kernel
theorem dX11_withParts_48 : decode cX11_withParts 48 = .ok (.iload 5, 2) := by decide +kernel
theorem dX11_withParts_50 : decode cX11_withParts 50 = .ok (.iload 4, 2) := by decide +kernel
theorem dX11_withParts_52 : decode cX11_withParts 52 = .ok (.if_icmp .gt 56, 3) := by decide +kernel
theorem dX11_withParts_55 : decode cX11_withParts 55 = .ok (.aload_n 0, 1) := by decide +kernel
theorem dX11_withParts_56 : decode cX11_withParts 56 = .ok (.getfield 82, 3) := by decide +kernel
theorem dX11_withParts_59 : decode cX11_withParts 59 = .ok (.bipush 12, 2) := by decide +kernel
theorem dX11_withParts_61 : decode cX11_withParts 61 = .ok (.iload_n 3, 1) := by decide +kernel
theorem dX11_withParts_62 : decode cX11_withParts 62 = .ok (.imul, 1) := by decide +kernel
theorem dX11_withParts_63 : decode cX11_withParts 63 = .ok (.iload 4, 2) := by decide +kernel
theorem dX11_withParts_65 : decode cX11_withParts 65 = .ok (.iadd, 1) := by decide +kernel
theorem dX11_withParts_66 : decode cX11_withParts 66 = .ok (.dup2, 1) := by decide +kernel
theorem dX11_withParts_67 : decode cX11_withParts 67 = .ok (.laload, 1) := by decide +kernel
theorem dX11_withParts_68 : decode cX11_withParts 68 = .ok (.aload_n 0, 1) := by decide +kernel
theorem dX11_withParts_69 : decode cX11_withParts 69 = .ok (.getfield 82, 3) := by decide +kernel
theorem dX11_withParts_72 : decode cX11_withParts 72 = .ok (.bipush 12, 2) := by decide +kernel
theorem dX11_withParts_74 : decode cX11_withParts 74 = .ok (.iload_n 3, 1) := by decide +kernel
theorem dX11_withParts_75 : decode cX11_withParts 75 = .ok (.iconst 1, 1) := by decide +kernel
theorem dX11_withParts_76 : decode cX11_withParts 76 = .ok (.isub, 1) := by decide +kernel
theorem dX11_withParts_77 : decode cX11_withParts 77 = .ok (.imul, 1) := by decide +kernel
theorem dX11_withParts_78 : decode cX11_withParts 78 = .ok (.iload 4, 2) := by decide +kernel
theorem dX11_withParts_80 : decode cX11_withParts 80 = .ok (.iadd, 1) := by decide +kernel
theorem dX11_withParts_81 : decode cX11_withParts 81 = .ok (.iload 5, 2) := by decide +kernel
theorem dX11_withParts_83 : decode cX11_withParts 83 = .ok (.isub, 1) := by decide +kernel
theorem dX11_withParts_84 : decode cX11_withParts 84 = .ok (.laload, 1) := by decide +kernel
theorem dX11_withParts_85 : decode cX11_withParts 85 = .ok (.aload_n 0, 1) := by decide +kernel
theorem dX11_withParts_86 : decode cX11_withParts 86 = .ok (.iload 4, 2) := by decide +kernel
theorem dX11_withParts_88 : decode cX11_withParts 88 = .ok (.iload 5, 2) := by decide +kernel
theorem dX11_withParts_90 : decode cX11_withParts 90 = .ok (.invokevirtual 148, 3) := by decide +kernel
theorem dX11_withParts_93 : decode cX11_withParts 93 = .ok (.lmul, 1) := by decide +kernel
theorem dX11_withParts_94 : decode cX11_withParts 94 = .ok (.iload 5, 2) := by decide +kernel
theorem dX11_withParts_96 : decode cX11_withParts 96 = .ok (.invokestatic 199, 3) := by decide +kernel
theorem dX11_withParts_99 : decode cX11_withParts 99 = .ok (.lmul, 1) := by decide +kernel
theorem dX11_withParts_100 : decode cX11_withParts 100 = .ok (.ladd, 1) := by decide +kernel
theorem dX11_withParts_101 : decode cX11_withParts 101 = .ok (.lastore, 1) := by decide +kernel
theorem dX11_withParts_102 : decode cX11_withParts 102 = .ok (.iinc 5 1, 3) := by decide +kernel
theorem dX11_withParts_105 : decode cX11_withParts 105 = .ok (.goto (-57), 3) := by decide +kernel
theorem dX11_withParts_108 : decode cX11_withParts 108 = .ok (.iinc 4 1, 3) := by decide +kernel
theorem dX11_withParts_111 : decode cX11_withParts 111 = .ok (.goto (-72), 3) := by decide +kernel
theorem dX11_withParts_114 : decode cX11_withParts 114 = .ok (.iinc 3 1, 3) := by decide +kernel
theorem dX11_withParts_117 : decode cX11_withParts 117 = .ok (.goto (-86), 3) := by decide +kernel
theorem dX11_withParts_120 : decode cX11_withParts 120 = .ok (.iload_n 2, 1) := by decide +kernel
theorem dX11_withParts_121 : decode cX11_withParts 121 = .ok (.i2l, 1) := by decide +kernel
theorem dX11_withParts_122 : decode cX11_withParts 122 = .ok (.lconst 1, 1) := by decide +kernel
theorem dX11_withParts_123 : decode cX11_withParts 123 = .ok (.iload_n 1, 1) := by decide +kernel
theorem dX11_withParts_124 : decode cX11_withParts 124 = .ok (.i2l, 1) := by decide +kernel
theorem dX11_withParts_125 : decode cX11_withParts 125 = .ok (.invokestatic 96, 3) := by decide +kernel
theorem dX11_withParts_128 : decode cX11_withParts 128 = .ok (.ifCond .eq 17, 3) := by decide +kernel
theorem dX11_withParts_131 : decode cX11_withParts 131 = .ok (.aload_n 0, 1) := by decide +kernel
theorem dX11_withParts_132 : decode cX11_withParts 132 = .ok (.getfield 82, 3) := by decide +kernel
theorem dX11_withParts_135 : decode cX11_withParts 135 = .ok (.bipush 12, 2) := by decide +kernel
theorem dX11_withParts_137 : decode cX11_withParts 137 = .ok (.iload_n 2, 1) := by decide +kernel
theorem dX11_withParts_138 : decode cX11_withParts 138 = .ok (.imul, 1) := by decide +kernel
theorem dX11_withParts_139 : decode cX11_withParts 139 = .ok (.iload_n 1, 1) := by decide +kernel
theorem dX11_withParts_140 : decode cX11_withParts 140 = .ok (.iadd, 1) := by decide +kernel
theorem dX11_withParts_141 : decode cX11_withParts 141 = .ok (.laload, 1) := by decide +kernel
theorem dX11_withParts_142 : decode cX11_withParts 142 = .ok (.goto 4, 3) := by decide +kernel
theorem dX11_withParts_145 : decode cX11_withParts 145 = .ok (.lconst 0, 1) := by decide +kernel
theorem dX11_withParts_146 : decode cX11_withParts 146 = .ok (.lreturn, 1) := by decide +kernel
theorem dX11_spread_0 : decode cX11_spread 0 = .ok (.iload_n 1, 1) := by decide +kernel
theorem dX11_spread_1 : decode cX11_spread 1 = .ok (.i2l, 1) := by decide +kernel
theorem dX11_spread_2 : decode cX11_spread 2 = .ok (.lconst 0, 1) := by decide +kernel
theorem dX11_spread_3 : decode cX11_spread 3 = .ok (.ldc2_w 238, 3) := by decide +kernel
theorem dX11_spread_6 : decode cX11_spread 6 = .ok (.invokestatic 96, 3) := by decide +kernel
theorem dX11_spread_9 : decode cX11_spread 9 = .ok (.ifCond .eq 15, 3) := by decide +kernel
theorem dX11_spread_12 : decode cX11_spread 12 = .ok (.iload_n 2, 1) := by decide +kernel
theorem dX11_spread_13 : decode cX11_spread 13 = .ok (.i2l, 1) := by decide +kernel
theorem dX11_spread_14 : decode cX11_spread 14 = .ok (.lconst 1, 1) := by decide +kernel
theorem dX11_spread_15 : decode cX11_spread 15 = .ok (.ldc2_w 100, 3) := by decide +kernel
theorem dX11_spread_18 : decode cX11_spread 18 = .ok (.invokestatic 96, 3) := by decide +kernel
theorem dX11_spread_21 : decode cX11_spread 21 = .ok (.ifCond .ne 7, 3) := by decide +kernel
theorem dX11_spread_24 : decode cX11_spread 24 = .ok (.ldc2_w 162, 3) := by decide +kernel
theorem dX11_spread_27 : decode cX11_spread 27 = .ok (.lreturn, 1) := by decide +kernel
theorem dX11_spread_28 : decode cX11_spread 28 = .ok (.iload_n 1, 1) := by decide +kernel
theorem dX11_spread_29 : decode cX11_spread 29 = .ok (.ifCond .ne 32, 3) := by decide +kernel
theorem dX11_spread_32 : decode cX11_spread 32 = .ok (.iload_n 3, 1) := by decide +kernel
theorem dX11_spread_33 : decode cX11_spread 33 = .ok (.ifCond .lt 9, 3) := by decide +kernel
theorem dX11_spread_36 : decode cX11_spread 36 = .ok (.iload_n 3, 1) := by decide +kernel
theorem dX11_spread_37 : decode cX11_spread 37 = .ok (.bipush 100, 2) := by decide +kernel
theorem dX11_spread_39 : decode cX11_spread 39 = .ok (.if_icmp .le 7, 3) := by decide +kernel
theorem dX11_spread_42 : decode cX11_spread 42 = .ok (.lconst 0, 1) := by decide +kernel
theorem dX11_spread_43 : decode cX11_spread 43 = .ok (.goto 17, 3) := by decide +kernel
theorem dX11_spread_46 : decode cX11_spread 46 = .ok (.aload_n 0, 1) := by decide +kernel
theorem dX11_spread_47 : decode cX11_spread 47 = .ok (.iload_n 2, 1) := by decide +kernel
theorem dX11_spread_48 : decode cX11_spread 48 = .ok (.iload_n 2, 1) := by decide +kernel
theorem dX11_spread_49 : decode cX11_spread 49 = .ok (.iload_n 2, 1) := by decide +kernel
theorem dX11_spread_50 : decode cX11_spread 50 = .ok (.iconst 1, 1) := by decide +kernel
theorem dX11_spread_51 : decode cX11_spread 51 = .ok (.iadd, 1) := by decide +kernel
theorem dX11_spread_52 : decode cX11_spread 52 = .ok (.imul, 1) := by decide +kernel
theorem dX11_spread_53 : decode cX11_spread 53 = .ok (.iconst 2, 1) := by decide +kernel
theorem dX11_spread_54 : decode cX11_spread 54 = .ok (.idiv, 1) := by decide +kernel
theorem dX11_spread_55 : decode cX11_spread 55 = .ok (.iload_n 3, 1) := by decide +kernel
theorem dX11_spread_56 : decode cX11_spread 56 = .ok (.isub, 1) := by decide +kernel
theorem dX11_spread_57 : decode cX11_spread 57 = .ok (.invokevirtual 242, 3) := by decide +kernel
theorem dX11_spread_60 : decode cX11_spread 60 = .ok (.lreturn, 1) := by decide +kernel
theorem dX11_spread_61 : decode cX11_spread 61 = .ok (.iload_n 1, 1) := by decide +kernel
theorem dX11_spread_62 : decode cX11_spread 62 = .ok (.iconst 1, 1) := by decide +kernel
theorem dX11_spread_63 : decode cX11_spread 63 = .ok (.if_icmp .ne 10, 3) := by decide +kernel
theorem dX11_spread_66 : decode cX11_spread 66 = .ok (.aload_n 0, 1) := by decide +kernel
theorem dX11_spread_67 : decode cX11_spread 67 = .ok (.iload_n 2, 1) := by decide +kernel
theorem dX11_spread_68 : decode cX11_spread 68 = .ok (.iload_n 3, 1) := by decide +kernel
theorem dX11_spread_69 : decode cX11_spread 69 = .ok (.invokevirtual 245, 3) := by decide +kernel
theorem dX11_spread_72 : decode cX11_spread 72 = .ok (.lreturn, 1) := by decide +kernel
theorem dX11_spread_73 : decode cX11_spread 73 = .ok (.iload_n 1, 1) := by decide +kernel
theorem dX11_spread_74 : decode cX11_spread 74 = .ok (.iconst 5, 1) := by decide +kernel
theorem dX11_spread_75 : decode cX11_spread 75 = .ok (.if_icmp .ne 26, 3) := by decide +kernel
theorem dX11_spread_78 : decode cX11_spread 78 = .ok (.iload_n 3, 1) := by decide +kernel
theorem dX11_spread_79 : decode cX11_spread 79 = .ok (.ifCond .lt 9, 3) := by decide +kernel
theorem dX11_spread_82 : decode cX11_spread 82 = .ok (.iload_n 3, 1) := by decide +kernel
theorem dX11_spread_83 : decode cX11_spread 83 = .ok (.bipush 100, 2) := by decide +kernel
theorem dX11_spread_85 : decode cX11_spread 85 = .ok (.if_icmp .le 7, 3) := by decide +kernel
theorem dX11_spread_88 : decode cX11_spread 88 = .ok (.lconst 0, 1) := by decide +kernel
theorem dX11_spread_89 : decode cX11_spread 89 = .ok (.goto 11, 3) := by decide +kernel
theorem dX11_spread_92 : decode cX11_spread 92 = .ok (.aload_n 0, 1) := by decide +kernel
theorem dX11_spread_93 : decode cX11_spread 93 = .ok (.iload_n 2, 1) := by decide +kernel
theorem dX11_spread_94 : decode cX11_spread 94 = .ok (.iload_n 3, 1) := by decide +kernel
theorem dX11_spread_95 : decode cX11_spread 95 = .ok (.iconst 1, 1) := by decide +kernel
theorem dX11_spread_96 : decode cX11_spread 96 = .ok (.iadd, 1) := by decide +kernel
theorem dX11_spread_97 : decode cX11_spread 97 = .ok (.invokevirtual 248, 3) := by decide +kernel
theorem dX11_spread_100 : decode cX11_spread 100 = .ok (.lreturn, 1) := by decide +kernel
theorem dX11_spread_101 : decode cX11_spread 101 = .ok (.iload_n 3, 1) := by decide +kernel
theorem dX11_spread_102 : decode cX11_spread 102 = .ok (.i2l, 1) := by decide +kernel
theorem dX11_spread_103 : decode cX11_spread 103 = .ok (.iload_n 1, 1) := by decide +kernel
theorem dX11_spread_104 : decode cX11_spread 104 = .ok (.iconst 4, 1) := by decide +kernel
theorem dX11_spread_105 : decode cX11_spread 105 = .ok (.if_icmp .ne 7, 3) := by decide +kernel
theorem dX11_spread_108 : decode cX11_spread 108 = .ok (.lconst 0, 1) := by decide +kernel
theorem dX11_spread_109 : decode cX11_spread 109 = .ok (.goto 4, 3) := by decide +kernel
theorem dX11_spread_112 : decode cX11_spread 112 = .ok (.lconst 1, 1) := by decide +kernel
theorem dX11_spread_113 : decode cX11_spread 113 = .ok (.iload_n 2, 1) := by decide +kernel
theorem dX11_spread_114 : decode cX11_spread 114 = .ok (.i2l, 1) := by decide +kernel
theorem dX11_spread_115 : decode cX11_spread 115 = .ok (.invokestatic 96, 3) := by decide +kernel
theorem dX11_spread_118 : decode cX11_spread 118 = .ok (.ifCond .ne 5, 3) := by decide +kernel
theorem dX11_spread_121 : decode cX11_spread 121 = .ok (.lconst 0, 1) := by decide +kernel
theorem dX11_spread_122 : decode cX11_spread 122 = .ok (.lreturn, 1) := by decide +kernel
theorem dX11_spread_123 : decode cX11_spread 123 = .ok (.iload_n 1, 1) := by decide +kernel
theorem dX11_spread_124 : decode cX11_spread 124 = .ok (.iconst 2, 1) := by decide +kernel
theorem dX11_spread_125 : decode cX11_spread 125 = .ok (.if_icmp .ne 31, 3) := by decide +kernel
theorem dX11_spread_128 : decode cX11_spread 128 = .ok (.aload_n 0, 1) := by decide +kernel
theorem dX11_spread_129 : decode cX11_spread 129 = .ok (.iload_n 2, 1) := by decide +kernel
theorem dX11_spread_130 : decode cX11_spread 130 = .ok (.iconst 1, 1) := by decide +kernel
theorem dX11_spread_131 : decode cX11_spread 131 = .ok (.isub, 1) := by decide +kernel
theorem dX11_spread_132 : decode cX11_spread 132 = .ok (.iload_n 3, 1) := by decide +kernel
theorem dX11_spread_133 : decode cX11_spread 133 = .ok (.iconst 1, 1) := by decide +kernel
theorem dX11_spread_134 : decode cX11_spread 134 = .ok (.isub, 1) := by decide +kernel
theorem dX11_spread_135 : decode cX11_spread 135 = .ok (.invokevirtual 148, 3) := by decide +kernel
theorem dX11_spread_138 : decode cX11_spread 138 = .ok (.iload_n 3, 1) := by decide +kernel
theorem dX11_spread_139 : decode cX11_spread 139 = .ok (.iconst 1, 1) := by decide +kernel
theorem dX11_spread_140 : decode cX11_spread 140 = .ok (.isub, 1) := by decide +kernel
theorem dX11_spread_141 : decode cX11_spread 141 = .ok (.invokestatic 251, 3) := by decide +kernel
theorem dX11_spread_144 : decode cX11_spread 144 = .ok (.lmul, 1) := by decide +kernel
theorem dX11_spread_145 : decode cX11_spread 145 = .ok (.iload_n 2, 1) := by decide +kernel
theorem dX11_spread_146 : decode cX11_spread 146 = .ok (.iload_n 3, 1) := by decide +kernel
theorem dX11_spread_147 : decode cX11_spread 147 = .ok (.isub, 1) := by decide +kernel
theorem dX11_spread_148 : decode cX11_spread 148 = .ok (.invokestatic 251, 3) := by decide +kernel
theorem dX11_spread_151 : decode cX11_spread 151 = .ok (.lmul, 1) := by decide +kernel
theorem dX11_spread_152 : decode cX11_spread 152 = .ok (.iload_n 3, 1) := by decide +kernel
theorem dX11_spread_153 : decode cX11_spread 153 = .ok (.i2l, 1) := by decide +kernel
theorem dX11_spread_154 : decode cX11_spread 154 = .ok (.lmul, 1) := by decide +kernel
theorem dX11_spread_155 : decode cX11_spread 155 = .ok (.lreturn, 1) := by decide +kernel
theorem dX11_spread_156 : decode cX11_spread 156 = .ok (.aload_n 0, 1) := by decide +kernel
theorem dX11_spread_157 : decode cX11_spread 157 = .ok (.invokevirtual 152, 3) := by decide +kernel
theorem dX11_spread_160 : decode cX11_spread 160 = .ok (.iload_n 1, 1) := by decide +kernel
theorem dX11_spread_161 : decode cX11_spread 161 = .ok (.iconst 3, 1) := by decide +kernel
theorem dX11_spread_162 : decode cX11_spread 162 = .ok (.if_icmp .ne 19, 3) := by decide +kernel
theorem dX11_spread_165 : decode cX11_spread 165 = .ok (.aload_n 0, 1) := by decide +kernel
theorem dX11_spread_166 : decode cX11_spread 166 = .ok (.getfield 33, 3) := by decide +kernel
theorem dX11_spread_169 : decode cX11_spread 169 = .ok (.iload_n 3, 1) := by decide +kernel
theorem dX11_spread_170 : decode cX11_spread 170 = .ok (.iconst 1, 1) := by decide +kernel
theorem dX11_spread_171 : decode cX11_spread 171 = .ok (.iastore, 1) := by decide +kernel
theorem dX11_spread_172 : decode cX11_spread 172 = .ok (.aload_n 0, 1) := by decide +kernel
theorem dX11_spread_173 : decode cX11_spread 173 = .ok (.iload_n 2, 1) := by decide +kernel
theorem dX11_spread_174 : decode cX11_spread 174 = .ok (.iload_n 2, 1) := by decide +kernel
theorem dX11_spread_175 : decode cX11_spread 175 = .ok (.iconst 1, 1) := by decide +kernel
theorem dX11_spread_176 : decode cX11_spread 176 = .ok (.isub, 1) := by decide +kernel
theorem dX11_spread_177 : decode cX11_spread 177 = .ok (.invokevirtual 155, 3) := by decide +kernel
theorem dX11_spread_180 : decode cX11_spread 180 = .ok (.lreturn, 1) := by decide +kernel
theorem dX11_spread_181 : decode cX11_spread 181 = .ok (.aload_n 0, 1) := by decide +kernel
theorem dX11_spread_182 : decode cX11_spread 182 = .ok (.iload_n 2, 1) := by decide +kernel
theorem dX11_spread_183 : decode cX11_spread 183 = .ok (.iload_n 2, 1) := by decide +kernel
theorem dX11_spread_184 : decode cX11_spread 184 = .ok (.invokevirtual 155, 3) := by decide +kernel
theorem dX11_spread_187 : decode cX11_spread 187 = .ok (.lstore 4, 2) := by decide +kernel
theorem dX11_spread_189 : decode cX11_spread 189 = .ok (.lload 4, 2) := by decide +kernel
theorem dX11_spread_191 : decode cX11_spread 191 = .ok (.lconst 0, 1) := by decide +kernel
theorem dX11_spread_192 : decode cX11_spread 192 = .ok (.lcmp, 1) := by decide +kernel
theorem dX11_spread_193 : decode cX11_spread 193 = .ok (.ifCond .ne 7, 3) := by decide +kernel
theorem dX11_spread_196 : decode cX11_spread 196 = .ok (.lconst 0, 1) := by decide +kernel
theorem dX11_spread_197 : decode cX11_spread 197 = .ok (.goto 14, 3) := by decide +kernel
theorem dX11_spread_200 : decode cX11_spread 200 = .ok (.aload_n 0, 1) := by decide +kernel
theorem dX11_spread_201 : decode cX11_spread 201 = .ok (.getfield 36, 3) := by decide +kernel
theorem dX11_spread_204 : decode cX11_spread 204 = .ok (.bipush 24, 2) := by decide +kernel
theorem dX11_spread_206 : decode cX11_spread 206 = .ok (.iload_n 2, 1) := by decide +kernel
theorem dX11_spread_207 : decode cX11_spread 207 = .ok (.iadd, 1) := by decide +kernel
theorem dX11_spread_208 : decode cX11_spread 208 = .ok (.iload_n 3, 1) := by decide +kernel
theorem dX11_spread_209 : decode cX11_spread 209 = .ok (.isub, 1) := by decide +kernel
theorem dX11_spread_210 : decode cX11_spread 210 = .ok (.laload, 1) := by decide +kernel
theorem dX11_spread_211 : decode cX11_spread 211 = .ok (.lreturn, 1) := by decide +kernel
theorem dX11_isSheet_0 : decode cX11_isSheet 0 = .ok (.iload_n 0, 1) := by decide +kernel
theorem dX11_isSheet_1 : decode cX11_isSheet 1 = .ok (.i2l, 1) := by decide +kernel
theorem dX11_isSheet_2 : decode cX11_isSheet 2 = .ok (.lconst 0, 1) := by decide +kernel
theorem dX11_isSheet_3 : decode cX11_isSheet 3 = .ok (.ldc2_w 254, 3) := by decide +kernel
theorem dX11_isSheet_6 : decode cX11_isSheet 6 = .ok (.invokestatic 96, 3) := by decide +kernel
theorem dX11_isSheet_9 : decode cX11_isSheet 9 = .ok (.ifCond .eq 19, 3) := by decide +kernel
theorem dX11_isSheet_12 : decode cX11_isSheet 12 = .ok (.iload_n 1, 1) := by decide +kernel
theorem dX11_isSheet_13 : decode cX11_isSheet 13 = .ok (.i2l, 1) := by decide +kernel
theorem dX11_isSheet_14 : decode cX11_isSheet 14 = .ok (.lconst 0, 1) := by decide +kernel
theorem dX11_isSheet_15 : decode cX11_isSheet 15 = .ok (.ldc2_w 94, 3) := by decide +kernel
theorem dX11_isSheet_18 : decode cX11_isSheet 18 = .ok (.invokestatic 96, 3) := by decide +kernel
theorem dX11_isSheet_21 : decode cX11_isSheet 21 = .ok (.ifCond .eq 7, 3) := by decide +kernel
theorem dX11_isSheet_24 : decode cX11_isSheet 24 = .ok (.iconst 1, 1) := by decide +kernel
theorem dX11_isSheet_25 : decode cX11_isSheet 25 = .ok (.goto 4, 3) := by decide +kernel
theorem dX11_isSheet_28 : decode cX11_isSheet 28 = .ok (.iconst 0, 1) := by decide +kernel
theorem dX11_isSheet_29 : decode cX11_isSheet 29 = .ok (.ireturn, 1) := by decide +kernel
theorem dX11_sheet_0 : decode cX11_sheet 0 = .ok (.iload_n 1, 1) := by decide +kernel
theorem dX11_sheet_1 : decode cX11_sheet 1 = .ok (.iload_n 2, 1) := by decide +kernel
theorem dX11_sheet_2 : decode cX11_sheet 2 = .ok (.invokestatic 211, 3) := by decide +kernel
theorem dX11_sheet_5 : decode cX11_sheet 5 = .ok (.ifCond .eq 9, 3) := by decide +kernel
theorem dX11_sheet_8 : decode cX11_sheet 8 = .ok (.iload_n 3, 1) := by decide +kernel
theorem dX11_sheet_9 : decode cX11_sheet 9 = .ok (.bipush 20, 2) := by decide +kernel
theorem dX11_sheet_11 : decode cX11_sheet 11 = .ok (.if_icmp .le 5, 3) := by decide +kernel
theorem dX11_sheet_14 : decode cX11_sheet 14 = .ok (.iconst (-1), 1) := by decide +kernel
theorem dX11_sheet_15 : decode cX11_sheet 15 = .ok (.ireturn, 1) := by decide +kernel
theorem dX11_sheet_16 : decode cX11_sheet 16 = .ok (.iload_n 3, 1) := by decide +kernel
theorem dX11_sheet_17 : decode cX11_sheet 17 = .ok (.ifCond .ge 6, 3) := by decide +kernel
theorem dX11_sheet_20 : decode cX11_sheet 20 = .ok (.bipush (-14), 2) := by decide +kernel
theorem dX11_sheet_22 : decode cX11_sheet 22 = .ok (.ireturn, 1) := by decide +kernel
theorem dX11_sheet_23 : decode cX11_sheet 23 = .ok (.aload_n 0, 1) := by decide +kernel
theorem dX11_sheet_24 : decode cX11_sheet 24 = .ok (.getfield 85, 3) := by decide +kernel
theorem dX11_sheet_27 : decode cX11_sheet 27 = .ok (.iload_n 1, 1) := by decide +kernel
theorem dX11_sheet_28 : decode cX11_sheet 28 = .ok (.iload_n 2, 1) := by decide +kernel
theorem dX11_sheet_29 : decode cX11_sheet 29 = .ok (.iastore, 1) := by decide +kernel
theorem dX11_sheet_30 : decode cX11_sheet 30 = .ok (.aload_n 0, 1) := by decide +kernel
theorem dX11_sheet_31 : decode cX11_sheet 31 = .ok (.getfield 88, 3) := by decide +kernel
theorem dX11_sheet_34 : decode cX11_sheet 34 = .ok (.iload_n 1, 1) := by decide +kernel
theorem dX11_sheet_35 : decode cX11_sheet 35 = .ok (.iload_n 3, 1) := by decide +kernel
theorem dX11_sheet_36 : decode cX11_sheet 36 = .ok (.iastore, 1) := by decide +kernel
theorem dX11_sheet_37 : decode cX11_sheet 37 = .ok (.iconst 0, 1) := by decide +kernel
theorem dX11_sheet_38 : decode cX11_sheet 38 = .ok (.istore 4, 2) := by decide +kernel
theorem dX11_sheet_40 : decode cX11_sheet 40 = .ok (.iload 4, 2) := by decide +kernel
theorem dX11_sheet_42 : decode cX11_sheet 42 = .ok (.bipush 20, 2) := by decide +kernel
theorem dX11_sheet_44 : decode cX11_sheet 44 = .ok (.if_icmp .ge 22, 3) := by decide +kernel
theorem dX11_sheet_47 : decode cX11_sheet 47 = .ok (.aload_n 0, 1) := by decide +kernel
theorem dX11_sheet_48 : decode cX11_sheet 48 = .ok (.getfield 91, 3) := by decide +kernel
theorem dX11_sheet_51 : decode cX11_sheet 51 = .ok (.bipush 20, 2) := by decide +kernel
theorem dX11_sheet_53 : decode cX11_sheet 53 = .ok (.iload_n 1, 1) := by decide +kernel
theorem dX11_sheet_54 : decode cX11_sheet 54 = .ok (.imul, 1) := by decide +kernel
theorem dX11_sheet_55 : decode cX11_sheet 55 = .ok (.iload 4, 2) := by decide +kernel
theorem dX11_sheet_57 : decode cX11_sheet 57 = .ok (.iadd, 1) := by decide +kernel
theorem dX11_sheet_58 : decode cX11_sheet 58 = .ok (.iconst 0, 1) := by decide +kernel
theorem dX11_sheet_59 : decode cX11_sheet 59 = .ok (.iastore, 1) := by decide +kernel
theorem dX11_sheet_60 : decode cX11_sheet 60 = .ok (.iinc 4 1, 3) := by decide +kernel
theorem dX11_sheet_63 : decode cX11_sheet 63 = .ok (.goto (-23), 3) := by decide +kernel
theorem dX11_sheet_66 : decode cX11_sheet 66 = .ok (.iload_n 3, 1) := by decide +kernel
theorem dX11_sheet_67 : decode cX11_sheet 67 = .ok (.ireturn, 1) := by decide +kernel
theorem dX11_drop_0 : decode cX11_drop 0 = .ok (.iload_n 1, 1) := by decide +kernel
theorem dX11_drop_1 : decode cX11_drop 1 = .ok (.i2l, 1) := by decide +kernel
theorem dX11_drop_2 : decode cX11_drop 2 = .ok (.lconst 0, 1) := by decide +kernel
theorem dX11_drop_3 : decode cX11_drop 3 = .ok (.ldc2_w 254, 3) := by decide +kernel
theorem dX11_drop_6 : decode cX11_drop 6 = .ok (.invokestatic 96, 3) := by decide +kernel
theorem dX11_drop_9 : decode cX11_drop 9 = .ok (.ifCond .ne 5, 3) := by decide +kernel
theorem dX11_drop_12 : decode cX11_drop 12 = .ok (.iconst (-1), 1) := by decide +kernel
theorem dX11_drop_13 : decode cX11_drop 13 = .ok (.ireturn, 1) := by decide +kernel
theorem dX11_drop_14 : decode cX11_drop 14 = .ok (.aload_n 0, 1) := by decide +kernel
theorem dX11_drop_15 : decode cX11_drop 15 = .ok (.getfield 85, 3) := by decide +kernel
theorem dX11_drop_18 : decode cX11_drop 18 = .ok (.iload_n 1, 1) := by decide +kernel
theorem dX11_drop_19 : decode cX11_drop 19 = .ok (.iaload, 1) := by decide +kernel
theorem dX11_drop_20 : decode cX11_drop 20 = .ok (.ifCond .ge 6, 3) := by decide +kernel
theorem dX11_drop_23 : decode cX11_drop 23 = .ok (.bipush (-11), 2) := by decide +kernel
theorem dX11_drop_25 : decode cX11_drop 25 = .ok (.ireturn, 1) := by decide +kernel
theorem dX11_drop_26 : decode cX11_drop 26 = .ok (.aload_n 0, 1) := by decide +kernel
theorem dX11_drop_27 : decode cX11_drop 27 = .ok (.getfield 85, 3) := by decide +kernel
theorem dX11_drop_30 : decode cX11_drop 30 = .ok (.iload_n 1, 1) := by decide +kernel
theorem dX11_drop_31 : decode cX11_drop 31 = .ok (.iconst (-1), 1) := by decide +kernel
theorem dX11_drop_32 : decode cX11_drop 32 = .ok (.iastore, 1) := by decide +kernel
theorem dX11_drop_33 : decode cX11_drop 33 = .ok (.aload_n 0, 1) := by decide +kernel
theorem dX11_drop_34 : decode cX11_drop 34 = .ok (.getfield 88, 3) := by decide +kernel
theorem dX11_drop_37 : decode cX11_drop 37 = .ok (.iload_n 1, 1) := by decide +kernel
theorem dX11_drop_38 : decode cX11_drop 38 = .ok (.iaload, 1) := by decide +kernel
theorem dX11_drop_39 : decode cX11_drop 39 = .ok (.ireturn, 1) := by decide +kernel
theorem dX11_against_0 : decode cX11_against 0 = .ok (.aload_n 0, 1) := by decide +kernel
theorem dX11_against_1 : decode cX11_against 1 = .ok (.getfield 85, 3) := by decide +kernel
theorem dX11_against_4 : decode cX11_against 4 = .ok (.iload_n 1, 1) := by decide +kernel
theorem dX11_against_5 : decode cX11_against 5 = .ok (.iaload, 1) := by decide +kernel
theorem dX11_against_6 : decode cX11_against 6 = .ok (.iload_n 2, 1) := by decide +kernel
theorem dX11_against_7 : decode cX11_against 7 = .ok (.if_icmp .eq 20, 3) := by decide +kernel
theorem dX11_against_10 : decode cX11_against 10 = .ok (.aload_n 0, 1) := by decide +kernel
theorem dX11_against_11 : decode cX11_against 11 = .ok (.getfield 85, 3) := by decide +kernel
theorem dX11_against_14 : decode cX11_against 14 = .ok (.iload_n 1, 1) := by decide +kernel
theorem dX11_against_15 : decode cX11_against 15 = .ok (.iaload, 1) := by decide +kernel
theorem dX11_against_16 : decode cX11_against 16 = .ok (.ifCond .ge 8, 3) := by decide +kernel
theorem dX11_against_19 : decode cX11_against 19 = .ok (.bipush (-11), 2) := by decide +kernel
theorem dX11_against_21 : decode cX11_against 21 = .ok (.goto 5, 3) := by decide +kernel
theorem dX11_against_24 : decode cX11_against 24 = .ok (.bipush (-12), 2) := by decide +kernel
theorem dX11_against_26 : decode cX11_against 26 = .ok (.ireturn, 1) := by decide +kernel
theorem dX11_against_27 : decode cX11_against 27 = .ok (.iload_n 3, 1) := by decide +kernel
theorem dX11_against_28 : decode cX11_against 28 = .ok (.i2l, 1) := by decide +kernel
theorem dX11_against_29 : decode cX11_against 29 = .ok (.lconst 0, 1) := by decide +kernel
theorem dX11_against_30 : decode cX11_against 30 = .ok (.aload_n 0, 1) := by decide +kernel
theorem dX11_against_31 : decode cX11_against 31 = .ok (.getfield 88, 3) := by decide +kernel
theorem dX11_against_34 : decode cX11_against 34 = .ok (.iload_n 1, 1) := by decide +kernel
theorem dX11_against_35 : decode cX11_against 35 = .ok (.iaload, 1) := by decide +kernel
theorem dX11_against_36 : decode cX11_against 36 = .ok (.iload 4, 2) := by decide +kernel
theorem dX11_against_38 : decode cX11_against 38 = .ok (.isub, 1) := by decide +kernel
theorem dX11_against_39 : decode cX11_against 39 = .ok (.i2l, 1) := by decide +kernel
theorem dX11_against_40 : decode cX11_against 40 = .ok (.invokestatic 96, 3) := by decide +kernel
theorem dX11_against_43 : decode cX11_against 43 = .ok (.ifCond .eq 7, 3) := by decide +kernel
theorem dX11_against_46 : decode cX11_against 46 = .ok (.iconst 0, 1) := by decide +kernel
theorem dX11_against_47 : decode cX11_against 47 = .ok (.goto 5, 3) := by decide +kernel
theorem dX11_against_50 : decode cX11_against 50 = .ok (.bipush (-13), 2) := by decide +kernel
theorem dX11_against_52 : decode cX11_against 52 = .ok (.ireturn, 1) := by decide +kernel
theorem dX11_item_0 : decode cX11_item 0 = .ok (.iload_n 1, 1) := by decide +kernel
theorem dX11_item_1 : decode cX11_item 1 = .ok (.iload_n 2, 1) := by decide +kernel
theorem dX11_item_2 : decode cX11_item 2 = .ok (.invokestatic 211, 3) := by decide +kernel
theorem dX11_item_5 : decode cX11_item 5 = .ok (.ifCond .ne 5, 3) := by decide +kernel
theorem dX11_item_8 : decode cX11_item 8 = .ok (.iconst (-1), 1) := by decide +kernel
theorem dX11_item_9 : decode cX11_item 9 = .ok (.ireturn, 1) := by decide +kernel
theorem dX11_item_10 : decode cX11_item 10 = .ok (.aload_n 0, 1) := by decide +kernel
theorem dX11_item_11 : decode cX11_item 11 = .ok (.iload_n 1, 1) := by decide +kernel
theorem dX11_item_12 : decode cX11_item 12 = .ok (.iload_n 2, 1) := by decide +kernel
theorem dX11_item_13 : decode cX11_item 13 = .ok (.iload_n 3, 1) := by decide +kernel
theorem dX11_item_14 : decode cX11_item 14 = .ok (.iconst 1, 1) := by decide +kernel
theorem dX11_item_15 : decode cX11_item 15 = .ok (.invokevirtual 214, 3) := by decide +kernel
theorem dX11_item_18 : decode cX11_item 18 = .ok (.istore 5, 2) := by decide +kernel
theorem dX11_item_20 : decode cX11_item 20 = .ok (.iload 5, 2) := by decide +kernel
theorem dX11_item_22 : decode cX11_item 22 = .ok (.ifCond .ge 6, 3) := by decide +kernel
theorem dX11_item_25 : decode cX11_item 25 = .ok (.iload 5, 2) := by decide +kernel
theorem dX11_item_27 : decode cX11_item 27 = .ok (.ireturn, 1) := by decide +kernel
theorem dX11_item_28 : decode cX11_item 28 = .ok (.aload_n 0, 1) := by decide +kernel
theorem dX11_item_29 : decode cX11_item 29 = .ok (.getfield 91, 3) := by decide +kernel
theorem dX11_item_32 : decode cX11_item 32 = .ok (.bipush 20, 2) := by decide +kernel
theorem dX11_item_34 : decode cX11_item 34 = .ok (.iload_n 1, 1) := by decide +kernel
theorem dX11_item_35 : decode cX11_item 35 = .ok (.imul, 1) := by decide +kernel
theorem dX11_item_36 : decode cX11_item 36 = .ok (.iload_n 3, 1) := by decide +kernel
theorem dX11_item_37 : decode cX11_item 37 = .ok (.iadd, 1) := by decide +kernel
theorem dX11_item_38 : decode cX11_item 38 = .ok (.iload_n 2, 1) := by decide +kernel
theorem dX11_item_39 : decode cX11_item 39 = .ok (.ifCond .ne 14, 3) := by decide +kernel
theorem dX11_item_42 : decode cX11_item 42 = .ok (.iload 4, 2) := by decide +kernel
theorem dX11_item_44 : decode cX11_item 44 = .ok (.bipush 24, 2) := by decide +kernel
theorem dX11_item_46 : decode cX11_item 46 = .ok (.ishl, 1) := by decide +kernel
theorem dX11_item_47 : decode cX11_item 47 = .ok (.bipush 24, 2) := by decide +kernel
theorem dX11_item_49 : decode cX11_item 49 = .ok (.ishr, 1) := by decide +kernel
theorem dX11_item_50 : decode cX11_item 50 = .ok (.goto 21, 3) := by decide +kernel
theorem dX11_item_53 : decode cX11_item 53 = .ok (.iload_n 2, 1) := by decide +kernel
theorem dX11_item_54 : decode cX11_item 54 = .ok (.iconst 1, 1) := by decide +kernel
theorem dX11_item_55 : decode cX11_item 55 = .ok (.if_icmp .ne 14, 3) := by decide +kernel
theorem dX11_item_58 : decode cX11_item 58 = .ok (.iload 4, 2) := by decide +kernel
theorem dX11_item_60 : decode cX11_item 60 = .ok (.bipush 16, 2) := by decide +kernel
theorem dX11_item_62 : decode cX11_item 62 = .ok (.ishl, 1) := by decide +kernel
theorem dX11_item_63 : decode cX11_item 63 = .ok (.bipush 16, 2) := by decide +kernel
theorem dX11_item_65 : decode cX11_item 65 = .ok (.ishr, 1) := by decide +kernel
theorem dX11_item_66 : decode cX11_item 66 = .ok (.goto 5, 3) := by decide +kernel
theorem dX11_item_69 : decode cX11_item 69 = .ok (.iload 4, 2) := by decide +kernel
theorem dX11_item_71 : decode cX11_item 71 = .ok (.iastore, 1) := by decide +kernel
theorem dX11_item_72 : decode cX11_item 72 = .ok (.iconst 1, 1) := by decide +kernel
theorem dX11_item_73 : decode cX11_item 73 = .ok (.ireturn, 1) := by decide +kernel
theorem dX11_cars_0 : decode cX11_cars 0 = .ok (.iload_n 1, 1) := by decide +kernel
theorem dX11_cars_1 : decode cX11_cars 1 = .ok (.iload_n 2, 1) := by decide +kernel
theorem dX11_cars_2 : decode cX11_cars 2 = .ok (.invokestatic 211, 3) := by decide +kernel
theorem dX11_cars_5 : decode cX11_cars 5 = .ok (.ifCond .eq 16, 3) := by decide +kernel
theorem dX11_cars_8 : decode cX11_cars 8 = .ok (.iload 4, 2) := by decide +kernel
theorem dX11_cars_10 : decode cX11_cars 10 = .ok (.i2l, 1) := by decide +kernel
theorem dX11_cars_11 : decode cX11_cars 11 = .ok (.lconst 0, 1) := by decide +kernel
theorem dX11_cars_12 : decode cX11_cars 12 = .ok (.ldc2_w 100, 3) := by decide +kernel
theorem dX11_cars_15 : decode cX11_cars 15 = .ok (.invokestatic 96, 3) := by decide +kernel
theorem dX11_cars_18 : decode cX11_cars 18 = .ok (.ifCond .ne 5, 3) := by decide +kernel
theorem dX11_cars_21 : decode cX11_cars 21 = .ok (.iconst (-1), 1) := by decide +kernel
theorem dX11_cars_22 : decode cX11_cars 22 = .ok (.ireturn, 1) := by decide +kernel
theorem dX11_cars_23 : decode cX11_cars 23 = .ok (.aload_n 0, 1) := by decide +kernel
theorem dX11_cars_24 : decode cX11_cars 24 = .ok (.iload_n 1, 1) := by decide +kernel
theorem dX11_cars_25 : decode cX11_cars 25 = .ok (.iload_n 2, 1) := by decide +kernel
theorem dX11_cars_26 : decode cX11_cars 26 = .ok (.iload_n 3, 1) := by decide +kernel
theorem dX11_cars_27 : decode cX11_cars 27 = .ok (.iload 4, 2) := by decide +kernel
theorem dX11_cars_29 : decode cX11_cars 29 = .ok (.invokevirtual 214, 3) := by decide +kernel
theorem dX11_cars_32 : decode cX11_cars 32 = .ok (.istore 5, 2) := by decide +kernel
theorem dX11_cars_34 : decode cX11_cars 34 = .ok (.iload 5, 2) := by decide +kernel
theorem dX11_cars_36 : decode cX11_cars 36 = .ok (.ifCond .ge 6, 3) := by decide +kernel
theorem dX11_cars_39 : decode cX11_cars 39 = .ok (.iload 5, 2) := by decide +kernel
theorem dX11_cars_41 : decode cX11_cars 41 = .ok (.ireturn, 1) := by decide +kernel
theorem dX11_cars_42 : decode cX11_cars 42 = .ok (.iconst 0, 1) := by decide +kernel
theorem dX11_cars_43 : decode cX11_cars 43 = .ok (.istore 6, 2) := by decide +kernel
theorem dX11_cars_45 : decode cX11_cars 45 = .ok (.iload 6, 2) := by decide +kernel
theorem dX11_cars_47 : decode cX11_cars 47 = .ok (.iload 4, 2) := by decide +kernel
theorem dX11_cars_49 : decode cX11_cars 49 = .ok (.if_icmp .ge 34, 3) := by decide +kernel
theorem dX11_cars_52 : decode cX11_cars 52 = .ok (.aload_n 0, 1) := by decide +kernel
theorem dX11_cars_53 : decode cX11_cars 53 = .ok (.iload_n 1, 1) := by decide +kernel
theorem dX11_cars_54 : decode cX11_cars 54 = .ok (.iload_n 3, 1) := by decide +kernel
theorem dX11_cars_55 : decode cX11_cars 55 = .ok (.iload 6, 2) := by decide +kernel
theorem dX11_cars_57 : decode cX11_cars 57 = .ok (.iadd, 1) := by decide +kernel
theorem dX11_cars_58 : decode cX11_cars 58 = .ok (.invokevirtual 218, 3) := by decide +kernel
theorem dX11_cars_61 : decode cX11_cars 61 = .ok (.i2l, 1) := by decide +kernel
theorem dX11_cars_62 : decode cX11_cars 62 = .ok (.lconst 1, 1) := by decide +kernel
theorem dX11_cars_63 : decode cX11_cars 63 = .ok (.aload_n 0, 1) := by decide +kernel
theorem dX11_cars_64 : decode cX11_cars 64 = .ok (.getfield 7, 3) := by decide +kernel
theorem dX11_cars_67 : decode cX11_cars 67 = .ok (.i2l, 1) := by decide +kernel
theorem dX11_cars_68 : decode cX11_cars 68 = .ok (.invokestatic 96, 3) := by decide +kernel
theorem dX11_cars_71 : decode cX11_cars 71 = .ok (.ifCond .ne 6, 3) := by decide +kernel
theorem dX11_cars_74 : decode cX11_cars 74 = .ok (.bipush (-2), 2) := by decide +kernel
theorem dX11_cars_76 : decode cX11_cars 76 = .ok (.ireturn, 1) := by decide +kernel
theorem dX11_cars_77 : decode cX11_cars 77 = .ok (.iinc 6 1, 3) := by decide +kernel
theorem dX11_cars_80 : decode cX11_cars 80 = .ok (.goto (-35), 3) := by decide +kernel
theorem dX11_cars_83 : decode cX11_cars 83 = .ok (.aload_n 0, 1) := by decide +kernel
theorem dX11_cars_84 : decode cX11_cars 84 = .ok (.getfield 110, 3) := by decide +kernel
theorem dX11_cars_87 : decode cX11_cars 87 = .ok (.iload 4, 2) := by decide +kernel
theorem dX11_cars_89 : decode cX11_cars 89 = .ok (.iadd, 1) := by decide +kernel
theorem dX11_cars_90 : decode cX11_cars 90 = .ok (.aload_n 0, 1) := by decide +kernel
theorem dX11_cars_91 : decode cX11_cars 91 = .ok (.getfield 7, 3) := by decide +kernel
theorem dX11_cars_94 : decode cX11_cars 94 = .ok (.if_icmp .le 6, 3) := by decide +kernel
theorem dX11_cars_97 : decode cX11_cars 97 = .ok (.bipush (-3), 2) := by decide +kernel
theorem dX11_cars_99 : decode cX11_cars 99 = .ok (.ireturn, 1) := by decide +kernel
theorem dX11_cars_100 : decode cX11_cars 100 = .ok (.iconst 0, 1) := by decide +kernel
theorem dX11_cars_101 : decode cX11_cars 101 = .ok (.istore 6, 2) := by decide +kernel
theorem dX11_cars_103 : decode cX11_cars 103 = .ok (.iload 6, 2) := by decide +kernel
theorem dX11_cars_105 : decode cX11_cars 105 = .ok (.iload 4, 2) := by decide +kernel
theorem dX11_cars_107 : decode cX11_cars 107 = .ok (.if_icmp .ge 22, 3) := by decide +kernel
theorem dX11_cars_110 : decode cX11_cars 110 = .ok (.aload_n 0, 1) := by decide +kernel
theorem dX11_cars_111 : decode cX11_cars 111 = .ok (.aload_n 0, 1) := by decide +kernel
theorem dX11_cars_112 : decode cX11_cars 112 = .ok (.iload_n 1, 1) := by decide +kernel
theorem dX11_cars_113 : decode cX11_cars 113 = .ok (.iload_n 3, 1) := by decide +kernel
theorem dX11_cars_114 : decode cX11_cars 114 = .ok (.iload 6, 2) := by decide +kernel
theorem dX11_cars_116 : decode cX11_cars 116 = .ok (.iadd, 1) := by decide +kernel
theorem dX11_cars_117 : decode cX11_cars 117 = .ok (.invokevirtual 218, 3) := by decide +kernel
theorem dX11_cars_120 : decode cX11_cars 120 = .ok (.invokevirtual 113, 3) := by decide +kernel
theorem dX11_cars_123 : decode cX11_cars 123 = .ok (.iinc 6 1, 3) := by decide +kernel
theorem dX11_cars_126 : decode cX11_cars 126 = .ok (.goto (-23), 3) := by decide +kernel
theorem dX11_cars_129 : decode cX11_cars 129 = .ok (.aload_n 0, 1) := by decide +kernel
theorem dX11_cars_130 : decode cX11_cars 130 = .ok (.getfield 110, 3) := by decide +kernel
theorem dX11_cars_133 : decode cX11_cars 133 = .ok (.ireturn, 1) := by decide +kernel
theorem dX11_keep_0 : decode cX11_keep 0 = .ok (.iload_n 1, 1) := by decide +kernel
theorem dX11_keep_1 : decode cX11_keep 1 = .ok (.iload_n 2, 1) := by decide +kernel
theorem dX11_keep_2 : decode cX11_keep 2 = .ok (.invokestatic 211, 3) := by decide +kernel
theorem dX11_keep_5 : decode cX11_keep 5 = .ok (.ifCond .ne 5, 3) := by decide +kernel
theorem dX11_keep_8 : decode cX11_keep 8 = .ok (.iconst (-1), 1) := by decide +kernel
theorem dX11_keep_9 : decode cX11_keep 9 = .ok (.ireturn, 1) := by decide +kernel
theorem dX11_keep_10 : decode cX11_keep 10 = .ok (.aload_n 0, 1) := by decide +kernel
theorem dX11_keep_11 : decode cX11_keep 11 = .ok (.iload_n 1, 1) := by decide +kernel
theorem dX11_keep_12 : decode cX11_keep 12 = .ok (.iload_n 2, 1) := by decide +kernel
theorem dX11_keep_13 : decode cX11_keep 13 = .ok (.iload_n 3, 1) := by decide +kernel
theorem dX11_keep_14 : decode cX11_keep 14 = .ok (.aload_n 0, 1) := by decide +kernel
theorem dX11_keep_15 : decode cX11_keep 15 = .ok (.getfield 110, 3) := by decide +kernel
theorem dX11_keep_18 : decode cX11_keep 18 = .ok (.invokevirtual 214, 3) := by decide +kernel
theorem dX11_keep_21 : decode cX11_keep 21 = .ok (.istore 4, 2) := by decide +kernel
theorem dX11_keep_23 : decode cX11_keep 23 = .ok (.iload 4, 2) := by decide +kernel
theorem dX11_keep_25 : decode cX11_keep 25 = .ok (.ifCond .ge 6, 3) := by decide +kernel
theorem dX11_keep_28 : decode cX11_keep 28 = .ok (.iload 4, 2) := by decide +kernel
theorem dX11_keep_30 : decode cX11_keep 30 = .ok (.ireturn, 1) := by decide +kernel
theorem dX11_keep_31 : decode cX11_keep 31 = .ok (.iconst 1, 1) := by decide +kernel
theorem dX11_keep_32 : decode cX11_keep 32 = .ok (.istore 5, 2) := by decide +kernel
theorem dX11_keep_34 : decode cX11_keep 34 = .ok (.iload 5, 2) := by decide +kernel
theorem dX11_keep_36 : decode cX11_keep 36 = .ok (.aload_n 0, 1) := by decide +kernel
theorem dX11_keep_37 : decode cX11_keep 37 = .ok (.getfield 110, 3) := by decide +kernel
theorem dX11_keep_40 : decode cX11_keep 40 = .ok (.if_icmp .gt 32, 3) := by decide +kernel
theorem dX11_keep_43 : decode cX11_keep 43 = .ok (.aload_n 0, 1) := by decide +kernel
theorem dX11_keep_44 : decode cX11_keep 44 = .ok (.getfield 91, 3) := by decide +kernel
theorem dX11_keep_47 : decode cX11_keep 47 = .ok (.bipush 20, 2) := by decide +kernel
theorem dX11_keep_49 : decode cX11_keep 49 = .ok (.iload_n 1, 1) := by decide +kernel
theorem dX11_keep_50 : decode cX11_keep 50 = .ok (.imul, 1) := by decide +kernel
theorem dX11_keep_51 : decode cX11_keep 51 = .ok (.iload_n 3, 1) := by decide +kernel
theorem dX11_keep_52 : decode cX11_keep 52 = .ok (.iadd, 1) := by decide +kernel
theorem dX11_keep_53 : decode cX11_keep 53 = .ok (.iload 5, 2) := by decide +kernel
theorem dX11_keep_55 : decode cX11_keep 55 = .ok (.iadd, 1) := by decide +kernel
theorem dX11_keep_56 : decode cX11_keep 56 = .ok (.iconst 1, 1) := by decide +kernel
theorem dX11_keep_57 : decode cX11_keep 57 = .ok (.isub, 1) := by decide +kernel
theorem dX11_keep_58 : decode cX11_keep 58 = .ok (.aload_n 0, 1) := by decide +kernel
theorem dX11_keep_59 : decode cX11_keep 59 = .ok (.getfield 13, 3) := by decide +kernel
theorem dX11_keep_62 : decode cX11_keep 62 = .ok (.iload 5, 2) := by decide +kernel
theorem dX11_keep_64 : decode cX11_keep 64 = .ok (.iaload, 1) := by decide +kernel
theorem dX11_keep_65 : decode cX11_keep 65 = .ok (.iastore, 1) := by decide +kernel
theorem dX11_keep_66 : decode cX11_keep 66 = .ok (.iinc 5 1, 3) := by decide +kernel
theorem dX11_keep_69 : decode cX11_keep 69 = .ok (.goto (-35), 3) := by decide +kernel
theorem dX11_keep_72 : decode cX11_keep 72 = .ok (.aload_n 0, 1) := by decide +kernel
theorem dX11_keep_73 : decode cX11_keep 73 = .ok (.getfield 110, 3) := by decide +kernel
theorem dX11_keep_76 : decode cX11_keep 76 = .ok (.ireturn, 1) := by decide +kernel
theorem dJ6_bitCount_0f7a4_0 : decode cJ6_bitCount_0f7a4 0 = .ok (.iload_n 0, 1) := by decide +kernel
theorem dJ6_bitCount_0f7a4_1 : decode cJ6_bitCount_0f7a4 1 = .ok (.iload_n 0, 1) := by decide +kernel
theorem dJ6_bitCount_0f7a4_2 : decode cJ6_bitCount_0f7a4 2 = .ok (.iconst 1, 1) := by decide +kernel
theorem dJ6_bitCount_0f7a4_3 : decode cJ6_bitCount_0f7a4 3 = .ok (.iushr, 1) := by decide +kernel
theorem dJ6_bitCount_0f7a4_4 : decode cJ6_bitCount_0f7a4 4 = .ok (.ldc_w 265, 3) := by decide +kernel
theorem dJ6_bitCount_0f7a4_7 : decode cJ6_bitCount_0f7a4 7 = .ok (.iand, 1) := by decide +kernel
theorem dJ6_bitCount_0f7a4_8 : decode cJ6_bitCount_0f7a4 8 = .ok (.isub, 1) := by decide +kernel
theorem dJ6_bitCount_0f7a4_9 : decode cJ6_bitCount_0f7a4 9 = .ok (.istore_n 0, 1) := by decide +kernel
theorem dJ6_bitCount_0f7a4_10 : decode cJ6_bitCount_0f7a4 10 = .ok (.iload_n 0, 1) := by decide +kernel
theorem dJ6_bitCount_0f7a4_11 : decode cJ6_bitCount_0f7a4 11 = .ok (.ldc_w 266, 3) := by decide +kernel
theorem dJ6_bitCount_0f7a4_14 : decode cJ6_bitCount_0f7a4 14 = .ok (.iand, 1) := by decide +kernel
theorem dJ6_bitCount_0f7a4_15 : decode cJ6_bitCount_0f7a4 15 = .ok (.iload_n 0, 1) := by decide +kernel
theorem dJ6_bitCount_0f7a4_16 : decode cJ6_bitCount_0f7a4 16 = .ok (.iconst 2, 1) := by decide +kernel
theorem dJ6_bitCount_0f7a4_17 : decode cJ6_bitCount_0f7a4 17 = .ok (.iushr, 1) := by decide +kernel
theorem dJ6_bitCount_0f7a4_18 : decode cJ6_bitCount_0f7a4 18 = .ok (.ldc_w 266, 3) := by decide +kernel
theorem dJ6_bitCount_0f7a4_21 : decode cJ6_bitCount_0f7a4 21 = .ok (.iand, 1) := by decide +kernel
theorem dJ6_bitCount_0f7a4_22 : decode cJ6_bitCount_0f7a4 22 = .ok (.iadd, 1) := by decide +kernel
theorem dJ6_bitCount_0f7a4_23 : decode cJ6_bitCount_0f7a4 23 = .ok (.istore_n 0, 1) := by decide +kernel
theorem dJ6_bitCount_0f7a4_24 : decode cJ6_bitCount_0f7a4 24 = .ok (.iload_n 0, 1) := by decide +kernel
theorem dJ6_bitCount_0f7a4_25 : decode cJ6_bitCount_0f7a4 25 = .ok (.iload_n 0, 1) := by decide +kernel
theorem dJ6_bitCount_0f7a4_26 : decode cJ6_bitCount_0f7a4 26 = .ok (.iconst 4, 1) := by decide +kernel
theorem dJ6_bitCount_0f7a4_27 : decode cJ6_bitCount_0f7a4 27 = .ok (.iushr, 1) := by decide +kernel
theorem dJ6_bitCount_0f7a4_28 : decode cJ6_bitCount_0f7a4 28 = .ok (.iadd, 1) := by decide +kernel
theorem dJ6_bitCount_0f7a4_29 : decode cJ6_bitCount_0f7a4 29 = .ok (.ldc_w 267, 3) := by decide +kernel
theorem dJ6_bitCount_0f7a4_32 : decode cJ6_bitCount_0f7a4 32 = .ok (.iand, 1) := by decide +kernel
theorem dJ6_bitCount_0f7a4_33 : decode cJ6_bitCount_0f7a4 33 = .ok (.istore_n 0, 1) := by decide +kernel
theorem dJ6_bitCount_0f7a4_34 : decode cJ6_bitCount_0f7a4 34 = .ok (.iload_n 0, 1) := by decide +kernel
theorem dJ6_bitCount_0f7a4_35 : decode cJ6_bitCount_0f7a4 35 = .ok (.iload_n 0, 1) := by decide +kernel
theorem dJ6_bitCount_0f7a4_36 : decode cJ6_bitCount_0f7a4 36 = .ok (.bipush 8, 2) := by decide +kernel
theorem dJ6_bitCount_0f7a4_38 : decode cJ6_bitCount_0f7a4 38 = .ok (.iushr, 1) := by decide +kernel
theorem dJ6_bitCount_0f7a4_39 : decode cJ6_bitCount_0f7a4 39 = .ok (.iadd, 1) := by decide +kernel
theorem dJ6_bitCount_0f7a4_40 : decode cJ6_bitCount_0f7a4 40 = .ok (.istore_n 0, 1) := by decide +kernel
theorem dJ6_bitCount_0f7a4_41 : decode cJ6_bitCount_0f7a4 41 = .ok (.iload_n 0, 1) := by decide +kernel
theorem dJ6_bitCount_0f7a4_42 : decode cJ6_bitCount_0f7a4 42 = .ok (.iload_n 0, 1) := by decide +kernel
theorem dJ6_bitCount_0f7a4_43 : decode cJ6_bitCount_0f7a4 43 = .ok (.bipush 16, 2) := by decide +kernel
theorem dJ6_bitCount_0f7a4_45 : decode cJ6_bitCount_0f7a4 45 = .ok (.iushr, 1) := by decide +kernel
theorem dJ6_bitCount_0f7a4_46 : decode cJ6_bitCount_0f7a4 46 = .ok (.iadd, 1) := by decide +kernel
theorem dJ6_bitCount_0f7a4_47 : decode cJ6_bitCount_0f7a4 47 = .ok (.istore_n 0, 1) := by decide +kernel
theorem dJ6_bitCount_0f7a4_48 : decode cJ6_bitCount_0f7a4 48 = .ok (.iload_n 0, 1) := by decide +kernel
theorem dJ6_bitCount_0f7a4_49 : decode cJ6_bitCount_0f7a4 49 = .ok (.bipush 63, 2) := by decide +kernel
theorem dJ6_bitCount_0f7a4_51 : decode cJ6_bitCount_0f7a4 51 = .ok (.iand, 1) := by decide +kernel
theorem dJ6_bitCount_0f7a4_52 : decode cJ6_bitCount_0f7a4 52 = .ok (.ireturn, 1) := by decide +kernel
theorem dJ9_max_7cf53_0 : decode cJ9_max_7cf53 0 = .ok (.iload_n 0, 1) := by decide +kernel
theorem dJ9_max_7cf53_1 : decode cJ9_max_7cf53 1 = .ok (.iload_n 1, 1) := by decide +kernel
theorem dJ9_max_7cf53_2 : decode cJ9_max_7cf53 2 = .ok (.if_icmp .lt 7, 3) := by decide +kernel
theorem dJ9_max_7cf53_5 : decode cJ9_max_7cf53 5 = .ok (.iload_n 0, 1) := by decide +kernel
theorem dJ9_max_7cf53_6 : decode cJ9_max_7cf53 6 = .ok (.goto 4, 3) := by decide +kernel
theorem dJ9_max_7cf53_9 : decode cJ9_max_7cf53 9 = .ok (.iload_n 1, 1) := by decide +kernel
theorem dJ9_max_7cf53_10 : decode cJ9_max_7cf53 10 = .ok (.ireturn, 1) := by decide +kernel
theorem dL_law_0 : decode cL_law 0 = .ok (.new 7, 3) := by decide +kernel
theorem dL_law_3 : decode cL_law 3 = .ok (.dup, 1) := by decide +kernel
theorem dL_law_4 : decode cL_law 4 = .ok (.invokespecial 9, 3) := by decide +kernel
theorem dL_law_7 : decode cL_law 7 = .ok (.astore_n 1, 1) := by decide +kernel
theorem dL_law_8 : decode cL_law 8 = .ok (.new 10, 3) := by decide +kernel
theorem dL_law_11 : decode cL_law 11 = .ok (.dup, 1) := by decide +kernel
theorem dL_law_12 : decode cL_law 12 = .ok (.invokespecial 12, 3) := by decide +kernel
theorem dL_law_15 : decode cL_law 15 = .ok (.astore_n 2, 1) := by decide +kernel
theorem dL_law_16 : decode cL_law 16 = .ok (.iconst 0, 1) := by decide +kernel
theorem dL_law_17 : decode cL_law 17 = .ok (.istore_n 3, 1) := by decide +kernel
theorem dL_law_18 : decode cL_law 18 = .ok (.iload_n 3, 1) := by decide +kernel
theorem dL_law_19 : decode cL_law 19 = .ok (.aload_n 0, 1) := by decide +kernel
theorem dL_law_20 : decode cL_law 20 = .ok (.arraylength, 1) := by decide +kernel
theorem dL_law_21 : decode cL_law 21 = .ok (.iconst 5, 1) := by decide +kernel
theorem dL_law_22 : decode cL_law 22 = .ok (.isub, 1) := by decide +kernel
theorem dL_law_23 : decode cL_law 23 = .ok (.if_icmp .gt 1248, 3) := by decide +kernel
theorem dL_law_26 : decode cL_law 26 = .ok (.aload_n 0, 1) := by decide +kernel
theorem dL_law_27 : decode cL_law 27 = .ok (.iload_n 3, 1) := by decide +kernel
theorem dL_law_28 : decode cL_law 28 = .ok (.iaload, 1) := by decide +kernel
theorem dL_law_29 : decode cL_law 29 = .ok (.bipush 63, 2) := by decide +kernel
theorem dL_law_31 : decode cL_law 31 = .ok (.iand, 1) := by decide +kernel
theorem dL_law_32 : decode cL_law 32 = .ok (.tableswitch 1233 0 37 #[168, 211, 234, 267, 300, 313, 326, 359, 382, 405, 418, 431, 454, 467, 530, 543, 556, 569, 582, 605, 618, 681, 694, 707, 720, 753, 766, 789, 832, 875, 908, 931, 974, 1018, 1061, 1084, 1137, 1190], 168) := by decide +kernel
theorem dL_law_200 : decode cL_law 200 = .ok (.aload_n 1, 1) := by decide +kernel
theorem dL_law_201 : decode cL_law 201 = .ok (.aload_n 0, 1) := by decide +kernel
theorem dL_law_202 : decode cL_law 202 = .ok (.iload_n 3, 1) := by decide +kernel
theorem dL_law_203 : decode cL_law 203 = .ok (.iconst 1, 1) := by decide +kernel
theorem dL_law_204 : decode cL_law 204 = .ok (.iadd, 1) := by decide +kernel
theorem dL_law_205 : decode cL_law 205 = .ok (.iaload, 1) := by decide +kernel
theorem dL_law_206 : decode cL_law 206 = .ok (.aload_n 0, 1) := by decide +kernel
theorem dL_law_207 : decode cL_law 207 = .ok (.iload_n 3, 1) := by decide +kernel
theorem dL_law_208 : decode cL_law 208 = .ok (.iconst 2, 1) := by decide +kernel
theorem dL_law_209 : decode cL_law 209 = .ok (.iadd, 1) := by decide +kernel
theorem dL_law_210 : decode cL_law 210 = .ok (.iaload, 1) := by decide +kernel
theorem dL_law_211 : decode cL_law 211 = .ok (.aload_n 0, 1) := by decide +kernel
theorem dL_law_212 : decode cL_law 212 = .ok (.iload_n 3, 1) := by decide +kernel
theorem dL_law_213 : decode cL_law 213 = .ok (.iconst 3, 1) := by decide +kernel
theorem dL_law_214 : decode cL_law 214 = .ok (.iadd, 1) := by decide +kernel
theorem dL_law_215 : decode cL_law 215 = .ok (.iaload, 1) := by decide +kernel
theorem dL_law_216 : decode cL_law 216 = .ok (.invokevirtual 13, 3) := by decide +kernel
theorem dL_law_219 : decode cL_law 219 = .ok (.pop, 1) := by decide +kernel
theorem dL_law_220 : decode cL_law 220 = .ok (.aload_n 2, 1) := by decide +kernel
theorem dL_law_221 : decode cL_law 221 = .ok (.aload_n 0, 1) := by decide +kernel
theorem dL_law_222 : decode cL_law 222 = .ok (.iload_n 3, 1) := by decide +kernel
theorem dL_law_223 : decode cL_law 223 = .ok (.iconst 1, 1) := by decide +kernel
theorem dL_law_224 : decode cL_law 224 = .ok (.iadd, 1) := by decide +kernel
theorem dL_law_225 : decode cL_law 225 = .ok (.iaload, 1) := by decide +kernel
theorem dL_law_226 : decode cL_law 226 = .ok (.aload_n 0, 1) := by decide +kernel
theorem dL_law_227 : decode cL_law 227 = .ok (.iload_n 3, 1) := by decide +kernel
theorem dL_law_228 : decode cL_law 228 = .ok (.iconst 2, 1) := by decide +kernel
theorem dL_law_229 : decode cL_law 229 = .ok (.iadd, 1) := by decide +kernel
theorem dL_law_230 : decode cL_law 230 = .ok (.iaload, 1) := by decide +kernel
theorem dL_law_231 : decode cL_law 231 = .ok (.aload_n 0, 1) := by decide +kernel
theorem dL_law_232 : decode cL_law 232 = .ok (.iload_n 3, 1) := by decide +kernel
theorem dL_law_233 : decode cL_law 233 = .ok (.iconst 3, 1) := by decide +kernel
theorem dL_law_234 : decode cL_law 234 = .ok (.iadd, 1) := by decide +kernel
theorem dL_law_235 : decode cL_law 235 = .ok (.iaload, 1) := by decide +kernel
theorem dL_law_236 : decode cL_law 236 = .ok (.invokevirtual 17, 3) := by decide +kernel
theorem dL_law_239 : decode cL_law 239 = .ok (.pop, 1) := by decide +kernel
theorem dL_law_240 : decode cL_law 240 = .ok (.goto 1025, 3) := by decide +kernel
theorem dL_law_243 : decode cL_law 243 = .ok (.aload_n 1, 1) := by decide +kernel
theorem dL_law_244 : decode cL_law 244 = .ok (.aload_n 0, 1) := by decide +kernel
theorem dL_law_245 : decode cL_law 245 = .ok (.iload_n 3, 1) := by decide +kernel
theorem dL_law_246 : decode cL_law 246 = .ok (.iconst 1, 1) := by decide +kernel
theorem dL_law_247 : decode cL_law 247 = .ok (.iadd, 1) := by decide +kernel
theorem dL_law_248 : decode cL_law 248 = .ok (.iaload, 1) := by decide +kernel
theorem dL_law_249 : decode cL_law 249 = .ok (.invokevirtual 18, 3) := by decide +kernel
theorem dL_law_252 : decode cL_law 252 = .ok (.pop, 1) := by decide +kernel
theorem dL_law_253 : decode cL_law 253 = .ok (.aload_n 2, 1) := by decide +kernel
theorem dL_law_254 : decode cL_law 254 = .ok (.aload_n 0, 1) := by decide +kernel
theorem dL_law_255 : decode cL_law 255 = .ok (.iload_n 3, 1) := by decide +kernel
theorem dL_law_256 : decode cL_law 256 = .ok (.iconst 1, 1) := by decide +kernel
theorem dL_law_257 : decode cL_law 257 = .ok (.iadd, 1) := by decide +kernel
theorem dL_law_258 : decode cL_law 258 = .ok (.iaload, 1) := by decide +kernel
theorem dL_law_259 : decode cL_law 259 = .ok (.invokevirtual 22, 3) := by decide +kernel
theorem dL_law_262 : decode cL_law 262 = .ok (.pop, 1) := by decide +kernel
theorem dL_law_263 : decode cL_law 263 = .ok (.goto 1002, 3) := by decide +kernel
theorem dL_law_266 : decode cL_law 266 = .ok (.aload_n 1, 1) := by decide +kernel
theorem dL_law_267 : decode cL_law 267 = .ok (.aload_n 0, 1) := by decide +kernel
theorem dL_law_268 : decode cL_law 268 = .ok (.iload_n 3, 1) := by decide +kernel
theorem dL_law_269 : decode cL_law 269 = .ok (.iconst 1, 1) := by decide +kernel
theorem dL_law_270 : decode cL_law 270 = .ok (.iadd, 1) := by decide +kernel
theorem dL_law_271 : decode cL_law 271 = .ok (.iaload, 1) := by decide +kernel
theorem dL_law_272 : decode cL_law 272 = .ok (.aload_n 0, 1) := by decide +kernel
theorem dL_law_273 : decode cL_law 273 = .ok (.iload_n 3, 1) := by decide +kernel
theorem dL_law_274 : decode cL_law 274 = .ok (.iconst 2, 1) := by decide +kernel
theorem dL_law_275 : decode cL_law 275 = .ok (.iadd, 1) := by decide +kernel
theorem dL_law_276 : decode cL_law 276 = .ok (.iaload, 1) := by decide +kernel
theorem dL_law_277 : decode cL_law 277 = .ok (.invokevirtual 23, 3) := by decide +kernel
theorem dL_law_280 : decode cL_law 280 = .ok (.pop, 1) := by decide +kernel
theorem dL_law_281 : decode cL_law 281 = .ok (.aload_n 2, 1) := by decide +kernel
theorem dL_law_282 : decode cL_law 282 = .ok (.aload_n 0, 1) := by decide +kernel
theorem dL_law_283 : decode cL_law 283 = .ok (.iload_n 3, 1) := by decide +kernel
theorem dL_law_284 : decode cL_law 284 = .ok (.iconst 1, 1) := by decide +kernel
theorem dL_law_285 : decode cL_law 285 = .ok (.iadd, 1) := by decide +kernel
theorem dL_law_286 : decode cL_law 286 = .ok (.iaload, 1) := by decide +kernel
theorem dL_law_287 : decode cL_law 287 = .ok (.aload_n 0, 1) := by decide +kernel
theorem dL_law_288 : decode cL_law 288 = .ok (.iload_n 3, 1) := by decide +kernel
theorem dL_law_289 : decode cL_law 289 = .ok (.iconst 2, 1) := by decide +kernel
theorem dL_law_290 : decode cL_law 290 = .ok (.iadd, 1) := by decide +kernel
theorem dL_law_291 : decode cL_law 291 = .ok (.iaload, 1) := by decide +kernel
theorem dL_law_292 : decode cL_law 292 = .ok (.invokevirtual 27, 3) := by decide +kernel
theorem dL_law_295 : decode cL_law 295 = .ok (.pop, 1) := by decide +kernel
theorem dL_law_296 : decode cL_law 296 = .ok (.goto 969, 3) := by decide +kernel
theorem dL_law_299 : decode cL_law 299 = .ok (.aload_n 1, 1) := by decide +kernel
theorem dL_law_300 : decode cL_law 300 = .ok (.aload_n 0, 1) := by decide +kernel
theorem dL_law_301 : decode cL_law 301 = .ok (.iload_n 3, 1) := by decide +kernel
theorem dL_law_302 : decode cL_law 302 = .ok (.iconst 1, 1) := by decide +kernel
theorem dL_law_303 : decode cL_law 303 = .ok (.iadd, 1) := by decide +kernel
theorem dL_law_304 : decode cL_law 304 = .ok (.iaload, 1) := by decide +kernel
theorem dL_law_305 : decode cL_law 305 = .ok (.aload_n 0, 1) := by decide +kernel
theorem dL_law_306 : decode cL_law 306 = .ok (.iload_n 3, 1) := by decide +kernel
theorem dL_law_307 : decode cL_law 307 = .ok (.iconst 2, 1) := by decide +kernel
theorem dL_law_308 : decode cL_law 308 = .ok (.iadd, 1) := by decide +kernel
theorem dL_law_309 : decode cL_law 309 = .ok (.iaload, 1) := by decide +kernel
theorem dL_law_310 : decode cL_law 310 = .ok (.invokevirtual 28, 3) := by decide +kernel
theorem dL_law_313 : decode cL_law 313 = .ok (.pop, 1) := by decide +kernel
theorem dL_law_314 : decode cL_law 314 = .ok (.aload_n 2, 1) := by decide +kernel
theorem dL_law_315 : decode cL_law 315 = .ok (.aload_n 0, 1) := by decide +kernel
theorem dL_law_316 : decode cL_law 316 = .ok (.iload_n 3, 1) := by decide +kernel
theorem dL_law_317 : decode cL_law 317 = .ok (.iconst 1, 1) := by decide +kernel
theorem dL_law_318 : decode cL_law 318 = .ok (.iadd, 1) := by decide +kernel
theorem dL_law_319 : decode cL_law 319 = .ok (.iaload, 1) := by decide +kernel
theorem dL_law_320 : decode cL_law 320 = .ok (.aload_n 0, 1) := by decide +kernel
theorem dL_law_321 : decode cL_law 321 = .ok (.iload_n 3, 1) := by decide +kernel
theorem dL_law_322 : decode cL_law 322 = .ok (.iconst 2, 1) := by decide +kernel
theorem dL_law_323 : decode cL_law 323 = .ok (.iadd, 1) := by decide +kernel
theorem dL_law_324 : decode cL_law 324 = .ok (.iaload, 1) := by decide +kernel
theorem dL_law_325 : decode cL_law 325 = .ok (.invokevirtual 31, 3) := by decide +kernel
theorem dL_law_328 : decode cL_law 328 = .ok (.pop, 1) := by decide +kernel
theorem dL_law_329 : decode cL_law 329 = .ok (.goto 936, 3) := by decide +kernel
theorem dL_law_332 : decode cL_law 332 = .ok (.aload_n 1, 1) := by decide +kernel
theorem dL_law_333 : decode cL_law 333 = .ok (.invokevirtual 32, 3) := by decide +kernel
theorem dL_law_336 : decode cL_law 336 = .ok (.pop, 1) := by decide +kernel
theorem dL_law_337 : decode cL_law 337 = .ok (.aload_n 2, 1) := by decide +kernel
theorem dL_law_338 : decode cL_law 338 = .ok (.invokevirtual 36, 3) := by decide +kernel
theorem dL_law_341 : decode cL_law 341 = .ok (.pop, 1) := by decide +kernel
theorem dL_law_342 : decode cL_law 342 = .ok (.goto 923, 3) := by decide +kernel
theorem dL_law_345 : decode cL_law 345 = .ok (.aload_n 1, 1) := by decide +kernel
theorem dL_law_346 : decode cL_law 346 = .ok (.invokevirtual 37, 3) := by decide +kernel
theorem dL_law_349 : decode cL_law 349 = .ok (.pop, 1) := by decide +kernel
theorem dL_law_350 : decode cL_law 350 = .ok (.aload_n 2, 1) := by decide +kernel
theorem dL_law_351 : decode cL_law 351 = .ok (.invokevirtual 40, 3) := by decide +kernel
theorem dL_law_354 : decode cL_law 354 = .ok (.pop, 1) := by decide +kernel
theorem dL_law_355 : decode cL_law 355 = .ok (.goto 910, 3) := by decide +kernel
theorem dL_law_358 : decode cL_law 358 = .ok (.aload_n 1, 1) := by decide +kernel
theorem dL_law_359 : decode cL_law 359 = .ok (.aload_n 0, 1) := by decide +kernel
theorem dL_law_360 : decode cL_law 360 = .ok (.iload_n 3, 1) := by decide +kernel
theorem dL_law_361 : decode cL_law 361 = .ok (.iconst 1, 1) := by decide +kernel
theorem dL_law_362 : decode cL_law 362 = .ok (.iadd, 1) := by decide +kernel
theorem dL_law_363 : decode cL_law 363 = .ok (.iaload, 1) := by decide +kernel
theorem dL_law_364 : decode cL_law 364 = .ok (.aload_n 0, 1) := by decide +kernel
theorem dL_law_365 : decode cL_law 365 = .ok (.iload_n 3, 1) := by decide +kernel
theorem dL_law_366 : decode cL_law 366 = .ok (.iconst 2, 1) := by decide +kernel
theorem dL_law_367 : decode cL_law 367 = .ok (.iadd, 1) := by decide +kernel
theorem dL_law_368 : decode cL_law 368 = .ok (.iaload, 1) := by decide +kernel
theorem dL_law_369 : decode cL_law 369 = .ok (.invokevirtual 41, 3) := by decide +kernel
theorem dL_law_372 : decode cL_law 372 = .ok (.pop, 1) := by decide +kernel
theorem dL_law_373 : decode cL_law 373 = .ok (.aload_n 2, 1) := by decide +kernel
theorem dL_law_374 : decode cL_law 374 = .ok (.aload_n 0, 1) := by decide +kernel
theorem dL_law_375 : decode cL_law 375 = .ok (.iload_n 3, 1) := by decide +kernel
theorem dL_law_376 : decode cL_law 376 = .ok (.iconst 1, 1) := by decide +kernel
theorem dL_law_377 : decode cL_law 377 = .ok (.iadd, 1) := by decide +kernel
theorem dL_law_378 : decode cL_law 378 = .ok (.iaload, 1) := by decide +kernel
theorem dL_law_379 : decode cL_law 379 = .ok (.aload_n 0, 1) := by decide +kernel
theorem dL_law_380 : decode cL_law 380 = .ok (.iload_n 3, 1) := by decide +kernel
theorem dL_law_381 : decode cL_law 381 = .ok (.iconst 2, 1) := by decide +kernel
theorem dL_law_382 : decode cL_law 382 = .ok (.iadd, 1) := by decide +kernel
theorem dL_law_383 : decode cL_law 383 = .ok (.iaload, 1) := by decide +kernel
theorem dL_law_384 : decode cL_law 384 = .ok (.invokevirtual 44, 3) := by decide +kernel
theorem dL_law_387 : decode cL_law 387 = .ok (.pop, 1) := by decide +kernel
theorem dL_law_388 : decode cL_law 388 = .ok (.goto 877, 3) := by decide +kernel
theorem dL_law_391 : decode cL_law 391 = .ok (.aload_n 1, 1) := by decide +kernel
theorem dL_law_392 : decode cL_law 392 = .ok (.aload_n 0, 1) := by decide +kernel
theorem dL_law_393 : decode cL_law 393 = .ok (.iload_n 3, 1) := by decide +kernel
theorem dL_law_394 : decode cL_law 394 = .ok (.iconst 1, 1) := by decide +kernel
theorem dL_law_395 : decode cL_law 395 = .ok (.iadd, 1) := by decide +kernel
theorem dL_law_396 : decode cL_law 396 = .ok (.iaload, 1) := by decide +kernel
theorem dL_law_397 : decode cL_law 397 = .ok (.invokevirtual 45, 3) := by decide +kernel
theorem dL_law_400 : decode cL_law 400 = .ok (.pop, 1) := by decide +kernel
theorem dL_law_401 : decode cL_law 401 = .ok (.aload_n 2, 1) := by decide +kernel
theorem dL_law_402 : decode cL_law 402 = .ok (.aload_n 0, 1) := by decide +kernel
theorem dL_law_403 : decode cL_law 403 = .ok (.iload_n 3, 1) := by decide +kernel
theorem dL_law_404 : decode cL_law 404 = .ok (.iconst 1, 1) := by decide +kernel
theorem dL_law_405 : decode cL_law 405 = .ok (.iadd, 1) := by decide +kernel
theorem dL_law_406 : decode cL_law 406 = .ok (.iaload, 1) := by decide +kernel
theorem dL_law_407 : decode cL_law 407 = .ok (.invokevirtual 48, 3) := by decide +kernel
theorem dL_law_410 : decode cL_law 410 = .ok (.pop, 1) := by decide +kernel
theorem dL_law_411 : decode cL_law 411 = .ok (.goto 854, 3) := by decide +kernel
theorem dL_law_414 : decode cL_law 414 = .ok (.aload_n 1, 1) := by decide +kernel
theorem dL_law_415 : decode cL_law 415 = .ok (.aload_n 0, 1) := by decide +kernel
theorem dL_law_416 : decode cL_law 416 = .ok (.iload_n 3, 1) := by decide +kernel
theorem dL_law_417 : decode cL_law 417 = .ok (.iconst 1, 1) := by decide +kernel
theorem dL_law_418 : decode cL_law 418 = .ok (.iadd, 1) := by decide +kernel
theorem dL_law_419 : decode cL_law 419 = .ok (.iaload, 1) := by decide +kernel
theorem dL_law_420 : decode cL_law 420 = .ok (.invokevirtual 49, 3) := by decide +kernel
theorem dL_law_423 : decode cL_law 423 = .ok (.pop, 1) := by decide +kernel
theorem dL_law_424 : decode cL_law 424 = .ok (.aload_n 2, 1) := by decide +kernel
theorem dL_law_425 : decode cL_law 425 = .ok (.aload_n 0, 1) := by decide +kernel
theorem dL_law_426 : decode cL_law 426 = .ok (.iload_n 3, 1) := by decide +kernel
theorem dL_law_427 : decode cL_law 427 = .ok (.iconst 1, 1) := by decide +kernel
theorem dL_law_428 : decode cL_law 428 = .ok (.iadd, 1) := by decide +kernel
theorem dL_law_429 : decode cL_law 429 = .ok (.iaload, 1) := by decide +kernel
theorem dL_law_430 : decode cL_law 430 = .ok (.invokevirtual 52, 3) := by decide +kernel
theorem dL_law_433 : decode cL_law 433 = .ok (.pop, 1) := by decide +kernel
theorem dL_law_434 : decode cL_law 434 = .ok (.goto 831, 3) := by decide +kernel
theorem dL_law_437 : decode cL_law 437 = .ok (.aload_n 1, 1) := by decide +kernel
theorem dL_law_438 : decode cL_law 438 = .ok (.invokevirtual 53, 3) := by decide +kernel
theorem dL_law_441 : decode cL_law 441 = .ok (.pop, 1) := by decide +kernel
theorem dL_law_442 : decode cL_law 442 = .ok (.aload_n 2, 1) := by decide +kernel
theorem dL_law_443 : decode cL_law 443 = .ok (.invokevirtual 56, 3) := by decide +kernel
theorem dL_law_446 : decode cL_law 446 = .ok (.pop, 1) := by decide +kernel
theorem dL_law_447 : decode cL_law 447 = .ok (.goto 818, 3) := by decide +kernel
theorem dL_law_450 : decode cL_law 450 = .ok (.aload_n 1, 1) := by decide +kernel
theorem dL_law_451 : decode cL_law 451 = .ok (.invokevirtual 57, 3) := by decide +kernel
theorem dL_law_454 : decode cL_law 454 = .ok (.pop, 1) := by decide +kernel
theorem dL_law_455 : decode cL_law 455 = .ok (.aload_n 2, 1) := by decide +kernel
theorem dL_law_456 : decode cL_law 456 = .ok (.invokevirtual 60, 3) := by decide +kernel
theorem dL_law_459 : decode cL_law 459 = .ok (.pop, 1) := by decide +kernel
theorem dL_law_460 : decode cL_law 460 = .ok (.goto 805, 3) := by decide +kernel
theorem dL_law_463 : decode cL_law 463 = .ok (.aload_n 1, 1) := by decide +kernel
theorem dL_law_464 : decode cL_law 464 = .ok (.aload_n 0, 1) := by decide +kernel
theorem dL_law_465 : decode cL_law 465 = .ok (.iload_n 3, 1) := by decide +kernel
theorem dL_law_466 : decode cL_law 466 = .ok (.iconst 1, 1) := by decide +kernel
theorem dL_law_467 : decode cL_law 467 = .ok (.iadd, 1) := by decide +kernel
theorem dL_law_468 : decode cL_law 468 = .ok (.iaload, 1) := by decide +kernel
theorem dL_law_469 : decode cL_law 469 = .ok (.invokevirtual 61, 3) := by decide +kernel
theorem dL_law_472 : decode cL_law 472 = .ok (.pop2, 1) := by decide +kernel
theorem dL_law_473 : decode cL_law 473 = .ok (.aload_n 2, 1) := by decide +kernel
theorem dL_law_474 : decode cL_law 474 = .ok (.aload_n 0, 1) := by decide +kernel
theorem dL_law_475 : decode cL_law 475 = .ok (.iload_n 3, 1) := by decide +kernel
theorem dL_law_476 : decode cL_law 476 = .ok (.iconst 1, 1) := by decide +kernel
theorem dL_law_477 : decode cL_law 477 = .ok (.iadd, 1) := by decide +kernel
theorem dL_law_478 : decode cL_law 478 = .ok (.iaload, 1) := by decide +kernel
theorem dL_law_479 : decode cL_law 479 = .ok (.invokevirtual 65, 3) := by decide +kernel
theorem dL_law_482 : decode cL_law 482 = .ok (.pop2, 1) := by decide +kernel
theorem dL_law_483 : decode cL_law 483 = .ok (.goto 782, 3) := by decide +kernel
theorem dL_law_486 : decode cL_law 486 = .ok (.aload_n 1, 1) := by decide +kernel
theorem dL_law_487 : decode cL_law 487 = .ok (.invokevirtual 66, 3) := by decide +kernel
theorem dL_law_490 : decode cL_law 490 = .ok (.pop2, 1) := by decide +kernel
theorem dL_law_491 : decode cL_law 491 = .ok (.aload_n 2, 1) := by decide +kernel
theorem dL_law_492 : decode cL_law 492 = .ok (.invokevirtual 70, 3) := by decide +kernel
theorem dL_law_495 : decode cL_law 495 = .ok (.pop2, 1) := by decide +kernel
theorem dL_law_496 : decode cL_law 496 = .ok (.goto 769, 3) := by decide +kernel
theorem dL_law_499 : decode cL_law 499 = .ok (.aload_n 1, 1) := by decide +kernel
theorem dL_law_500 : decode cL_law 500 = .ok (.aload_n 0, 1) := by decide +kernel
theorem dL_law_501 : decode cL_law 501 = .ok (.iload_n 3, 1) := by decide +kernel
theorem dL_law_502 : decode cL_law 502 = .ok (.iconst 1, 1) := by decide +kernel
theorem dL_law_503 : decode cL_law 503 = .ok (.iadd, 1) := by decide +kernel
theorem dL_law_504 : decode cL_law 504 = .ok (.iaload, 1) := by decide +kernel
theorem dL_law_505 : decode cL_law 505 = .ok (.aload_n 0, 1) := by decide +kernel
theorem dL_law_506 : decode cL_law 506 = .ok (.iload_n 3, 1) := by decide +kernel
theorem dL_law_507 : decode cL_law 507 = .ok (.iconst 2, 1) := by decide +kernel
theorem dL_law_508 : decode cL_law 508 = .ok (.iadd, 1) := by decide +kernel
theorem dL_law_509 : decode cL_law 509 = .ok (.iaload, 1) := by decide +kernel
theorem dL_law_510 : decode cL_law 510 = .ok (.i2l, 1) := by decide +kernel
theorem dL_law_511 : decode cL_law 511 = .ok (.bipush 32, 2) := by decide +kernel
theorem dL_law_513 : decode cL_law 513 = .ok (.lshl, 1) := by decide +kernel
theorem dL_law_514 : decode cL_law 514 = .ok (.aload_n 0, 1) := by decide +kernel
theorem dL_law_515 : decode cL_law 515 = .ok (.iload_n 3, 1) := by decide +kernel
theorem dL_law_516 : decode cL_law 516 = .ok (.iconst 3, 1) := by decide +kernel
theorem dL_law_517 : decode cL_law 517 = .ok (.iadd, 1) := by decide +kernel
theorem dL_law_518 : decode cL_law 518 = .ok (.iaload, 1) := by decide +kernel
theorem dL_law_519 : decode cL_law 519 = .ok (.i2l, 1) := by decide +kernel
theorem dL_law_520 : decode cL_law 520 = .ok (.ldc2_w 71, 3) := by decide +kernel
theorem dL_law_523 : decode cL_law 523 = .ok (.land, 1) := by decide +kernel
theorem dL_law_524 : decode cL_law 524 = .ok (.lor, 1) := by decide +kernel
theorem dL_law_525 : decode cL_law 525 = .ok (.invokevirtual 73, 3) := by decide +kernel
theorem dL_law_528 : decode cL_law 528 = .ok (.pop, 1) := by decide +kernel
theorem dL_law_529 : decode cL_law 529 = .ok (.aload_n 2, 1) := by decide +kernel
theorem dL_law_530 : decode cL_law 530 = .ok (.aload_n 0, 1) := by decide +kernel
theorem dL_law_531 : decode cL_law 531 = .ok (.iload_n 3, 1) := by decide +kernel
theorem dL_law_532 : decode cL_law 532 = .ok (.iconst 1, 1) := by decide +kernel
theorem dL_law_533 : decode cL_law 533 = .ok (.iadd, 1) := by decide +kernel
theorem dL_law_534 : decode cL_law 534 = .ok (.iaload, 1) := by decide +kernel
theorem dL_law_535 : decode cL_law 535 = .ok (.aload_n 0, 1) := by decide +kernel
theorem dL_law_536 : decode cL_law 536 = .ok (.iload_n 3, 1) := by decide +kernel
theorem dL_law_537 : decode cL_law 537 = .ok (.iconst 2, 1) := by decide +kernel
theorem dL_law_538 : decode cL_law 538 = .ok (.iadd, 1) := by decide +kernel
theorem dL_law_539 : decode cL_law 539 = .ok (.iaload, 1) := by decide +kernel
theorem dL_law_540 : decode cL_law 540 = .ok (.i2l, 1) := by decide +kernel
theorem dL_law_541 : decode cL_law 541 = .ok (.bipush 32, 2) := by decide +kernel
theorem dL_law_543 : decode cL_law 543 = .ok (.lshl, 1) := by decide +kernel
theorem dL_law_544 : decode cL_law 544 = .ok (.aload_n 0, 1) := by decide +kernel
theorem dL_law_545 : decode cL_law 545 = .ok (.iload_n 3, 1) := by decide +kernel
theorem dL_law_546 : decode cL_law 546 = .ok (.iconst 3, 1) := by decide +kernel
theorem dL_law_547 : decode cL_law 547 = .ok (.iadd, 1) := by decide +kernel
theorem dL_law_548 : decode cL_law 548 = .ok (.iaload, 1) := by decide +kernel
theorem dL_law_549 : decode cL_law 549 = .ok (.i2l, 1) := by decide +kernel
theorem dL_law_550 : decode cL_law 550 = .ok (.ldc2_w 71, 3) := by decide +kernel
theorem dL_law_553 : decode cL_law 553 = .ok (.land, 1) := by decide +kernel
theorem dL_law_554 : decode cL_law 554 = .ok (.lor, 1) := by decide +kernel
theorem dL_law_555 : decode cL_law 555 = .ok (.invokevirtual 77, 3) := by decide +kernel
theorem dL_law_558 : decode cL_law 558 = .ok (.pop, 1) := by decide +kernel
theorem dL_law_559 : decode cL_law 559 = .ok (.goto 706, 3) := by decide +kernel
theorem dL_law_562 : decode cL_law 562 = .ok (.aload_n 1, 1) := by decide +kernel
theorem dL_law_563 : decode cL_law 563 = .ok (.invokevirtual 78, 3) := by decide +kernel
theorem dL_law_566 : decode cL_law 566 = .ok (.pop, 1) := by decide +kernel
theorem dL_law_567 : decode cL_law 567 = .ok (.aload_n 2, 1) := by decide +kernel
theorem dL_law_568 : decode cL_law 568 = .ok (.invokevirtual 81, 3) := by decide +kernel
theorem dL_law_571 : decode cL_law 571 = .ok (.pop, 1) := by decide +kernel
theorem dL_law_572 : decode cL_law 572 = .ok (.goto 693, 3) := by decide +kernel
theorem dL_law_575 : decode cL_law 575 = .ok (.aload_n 1, 1) := by decide +kernel
theorem dL_law_576 : decode cL_law 576 = .ok (.invokevirtual 82, 3) := by decide +kernel
theorem dL_law_579 : decode cL_law 579 = .ok (.pop2, 1) := by decide +kernel
theorem dL_law_580 : decode cL_law 580 = .ok (.aload_n 2, 1) := by decide +kernel
theorem dL_law_581 : decode cL_law 581 = .ok (.invokevirtual 85, 3) := by decide +kernel
theorem dL_law_584 : decode cL_law 584 = .ok (.pop2, 1) := by decide +kernel
theorem dL_law_585 : decode cL_law 585 = .ok (.goto 680, 3) := by decide +kernel
theorem dL_law_588 : decode cL_law 588 = .ok (.aload_n 1, 1) := by decide +kernel
theorem dL_law_589 : decode cL_law 589 = .ok (.invokevirtual 86, 3) := by decide +kernel
theorem dL_law_592 : decode cL_law 592 = .ok (.pop2, 1) := by decide +kernel
theorem dL_law_593 : decode cL_law 593 = .ok (.aload_n 2, 1) := by decide +kernel
theorem dL_law_594 : decode cL_law 594 = .ok (.invokevirtual 89, 3) := by decide +kernel
theorem dL_law_597 : decode cL_law 597 = .ok (.pop2, 1) := by decide +kernel
theorem dL_law_598 : decode cL_law 598 = .ok (.goto 667, 3) := by decide +kernel
theorem dL_law_601 : decode cL_law 601 = .ok (.aload_n 1, 1) := by decide +kernel
theorem dL_law_602 : decode cL_law 602 = .ok (.invokevirtual 90, 3) := by decide +kernel
theorem dL_law_605 : decode cL_law 605 = .ok (.pop, 1) := by decide +kernel
theorem dL_law_606 : decode cL_law 606 = .ok (.aload_n 2, 1) := by decide +kernel
theorem dL_law_607 : decode cL_law 607 = .ok (.invokevirtual 93, 3) := by decide +kernel
theorem dL_law_610 : decode cL_law 610 = .ok (.pop, 1) := by decide +kernel
theorem dL_law_611 : decode cL_law 611 = .ok (.goto 654, 3) := by decide +kernel
theorem dL_law_614 : decode cL_law 614 = .ok (.aload_n 1, 1) := by decide +kernel
theorem dL_law_615 : decode cL_law 615 = .ok (.aload_n 0, 1) := by decide +kernel
theorem dL_law_616 : decode cL_law 616 = .ok (.iload_n 3, 1) := by decide +kernel
theorem dL_law_617 : decode cL_law 617 = .ok (.iconst 1, 1) := by decide +kernel
theorem dL_law_618 : decode cL_law 618 = .ok (.iadd, 1) := by decide +kernel
theorem dL_law_619 : decode cL_law 619 = .ok (.iaload, 1) := by decide +kernel
theorem dL_law_620 : decode cL_law 620 = .ok (.invokevirtual 94, 3) := by decide +kernel
theorem dL_law_623 : decode cL_law 623 = .ok (.pop2, 1) := by decide +kernel
theorem dL_law_624 : decode cL_law 624 = .ok (.aload_n 2, 1) := by decide +kernel
theorem dL_law_625 : decode cL_law 625 = .ok (.aload_n 0, 1) := by decide +kernel
theorem dL_law_626 : decode cL_law 626 = .ok (.iload_n 3, 1) := by decide +kernel
theorem dL_law_627 : decode cL_law 627 = .ok (.iconst 1, 1) := by decide +kernel
theorem dL_law_628 : decode cL_law 628 = .ok (.iadd, 1) := by decide +kernel
theorem dL_law_629 : decode cL_law 629 = .ok (.iaload, 1) := by decide +kernel
theorem dL_law_630 : decode cL_law 630 = .ok (.invokevirtual 97, 3) := by decide +kernel
theorem dL_law_633 : decode cL_law 633 = .ok (.pop2, 1) := by decide +kernel
theorem dL_law_634 : decode cL_law 634 = .ok (.goto 631, 3) := by decide +kernel
theorem dL_law_637 : decode cL_law 637 = .ok (.aload_n 1, 1) := by decide +kernel
theorem dL_law_638 : decode cL_law 638 = .ok (.invokevirtual 98, 3) := by decide +kernel
theorem dL_law_641 : decode cL_law 641 = .ok (.pop2, 1) := by decide +kernel
theorem dL_law_642 : decode cL_law 642 = .ok (.aload_n 2, 1) := by decide +kernel
theorem dL_law_643 : decode cL_law 643 = .ok (.invokevirtual 101, 3) := by decide +kernel
theorem dL_law_646 : decode cL_law 646 = .ok (.pop2, 1) := by decide +kernel
theorem dL_law_647 : decode cL_law 647 = .ok (.goto 618, 3) := by decide +kernel
theorem dL_law_650 : decode cL_law 650 = .ok (.aload_n 1, 1) := by decide +kernel
theorem dL_law_651 : decode cL_law 651 = .ok (.aload_n 0, 1) := by decide +kernel
theorem dL_law_652 : decode cL_law 652 = .ok (.iload_n 3, 1) := by decide +kernel
theorem dL_law_653 : decode cL_law 653 = .ok (.iconst 1, 1) := by decide +kernel
theorem dL_law_654 : decode cL_law 654 = .ok (.iadd, 1) := by decide +kernel
theorem dL_law_655 : decode cL_law 655 = .ok (.iaload, 1) := by decide +kernel
theorem dL_law_656 : decode cL_law 656 = .ok (.aload_n 0, 1) := by decide +kernel
theorem dL_law_657 : decode cL_law 657 = .ok (.iload_n 3, 1) := by decide +kernel
theorem dL_law_658 : decode cL_law 658 = .ok (.iconst 2, 1) := by decide +kernel
theorem dL_law_659 : decode cL_law 659 = .ok (.iadd, 1) := by decide +kernel
theorem dL_law_660 : decode cL_law 660 = .ok (.iaload, 1) := by decide +kernel
theorem dL_law_661 : decode cL_law 661 = .ok (.i2l, 1) := by decide +kernel
theorem dL_law_662 : decode cL_law 662 = .ok (.bipush 32, 2) := by decide +kernel
theorem dL_law_664 : decode cL_law 664 = .ok (.lshl, 1) := by decide +kernel
theorem dL_law_665 : decode cL_law 665 = .ok (.aload_n 0, 1) := by decide +kernel
theorem dL_law_666 : decode cL_law 666 = .ok (.iload_n 3, 1) := by decide +kernel
theorem dL_law_667 : decode cL_law 667 = .ok (.iconst 3, 1) := by decide +kernel
theorem dL_law_668 : decode cL_law 668 = .ok (.iadd, 1) := by decide +kernel
theorem dL_law_669 : decode cL_law 669 = .ok (.iaload, 1) := by decide +kernel
theorem dL_law_670 : decode cL_law 670 = .ok (.i2l, 1) := by decide +kernel
theorem dL_law_671 : decode cL_law 671 = .ok (.ldc2_w 71, 3) := by decide +kernel
theorem dL_law_674 : decode cL_law 674 = .ok (.land, 1) := by decide +kernel
theorem dL_law_675 : decode cL_law 675 = .ok (.lor, 1) := by decide +kernel
theorem dL_law_676 : decode cL_law 676 = .ok (.invokevirtual 102, 3) := by decide +kernel
theorem dL_law_679 : decode cL_law 679 = .ok (.pop, 1) := by decide +kernel
theorem dL_law_680 : decode cL_law 680 = .ok (.aload_n 2, 1) := by decide +kernel
theorem dL_law_681 : decode cL_law 681 = .ok (.aload_n 0, 1) := by decide +kernel
theorem dL_law_682 : decode cL_law 682 = .ok (.iload_n 3, 1) := by decide +kernel
theorem dL_law_683 : decode cL_law 683 = .ok (.iconst 1, 1) := by decide +kernel
theorem dL_law_684 : decode cL_law 684 = .ok (.iadd, 1) := by decide +kernel
theorem dL_law_685 : decode cL_law 685 = .ok (.iaload, 1) := by decide +kernel
theorem dL_law_686 : decode cL_law 686 = .ok (.aload_n 0, 1) := by decide +kernel
theorem dL_law_687 : decode cL_law 687 = .ok (.iload_n 3, 1) := by decide +kernel
theorem dL_law_688 : decode cL_law 688 = .ok (.iconst 2, 1) := by decide +kernel
theorem dL_law_689 : decode cL_law 689 = .ok (.iadd, 1) := by decide +kernel
theorem dL_law_690 : decode cL_law 690 = .ok (.iaload, 1) := by decide +kernel
theorem dL_law_691 : decode cL_law 691 = .ok (.i2l, 1) := by decide +kernel
theorem dL_law_692 : decode cL_law 692 = .ok (.bipush 32, 2) := by decide +kernel
theorem dL_law_694 : decode cL_law 694 = .ok (.lshl, 1) := by decide +kernel
theorem dL_law_695 : decode cL_law 695 = .ok (.aload_n 0, 1) := by decide +kernel
theorem dL_law_696 : decode cL_law 696 = .ok (.iload_n 3, 1) := by decide +kernel
theorem dL_law_697 : decode cL_law 697 = .ok (.iconst 3, 1) := by decide +kernel
theorem dL_law_698 : decode cL_law 698 = .ok (.iadd, 1) := by decide +kernel
theorem dL_law_699 : decode cL_law 699 = .ok (.iaload, 1) := by decide +kernel
theorem dL_law_700 : decode cL_law 700 = .ok (.i2l, 1) := by decide +kernel
theorem dL_law_701 : decode cL_law 701 = .ok (.ldc2_w 71, 3) := by decide +kernel
theorem dL_law_704 : decode cL_law 704 = .ok (.land, 1) := by decide +kernel
theorem dL_law_705 : decode cL_law 705 = .ok (.lor, 1) := by decide +kernel
theorem dL_law_706 : decode cL_law 706 = .ok (.invokevirtual 105, 3) := by decide +kernel
theorem dL_law_709 : decode cL_law 709 = .ok (.pop, 1) := by decide +kernel
theorem dL_law_710 : decode cL_law 710 = .ok (.goto 555, 3) := by decide +kernel
theorem dL_law_713 : decode cL_law 713 = .ok (.aload_n 1, 1) := by decide +kernel
theorem dL_law_714 : decode cL_law 714 = .ok (.invokevirtual 106, 3) := by decide +kernel
theorem dL_law_717 : decode cL_law 717 = .ok (.pop, 1) := by decide +kernel
theorem dL_law_718 : decode cL_law 718 = .ok (.aload_n 2, 1) := by decide +kernel
theorem dL_law_719 : decode cL_law 719 = .ok (.invokevirtual 109, 3) := by decide +kernel
theorem dL_law_722 : decode cL_law 722 = .ok (.pop, 1) := by decide +kernel
theorem dL_law_723 : decode cL_law 723 = .ok (.goto 542, 3) := by decide +kernel
theorem dL_law_726 : decode cL_law 726 = .ok (.aload_n 1, 1) := by decide +kernel
theorem dL_law_727 : decode cL_law 727 = .ok (.invokevirtual 110, 3) := by decide +kernel
theorem dL_law_730 : decode cL_law 730 = .ok (.pop2, 1) := by decide +kernel
theorem dL_law_731 : decode cL_law 731 = .ok (.aload_n 2, 1) := by decide +kernel
theorem dL_law_732 : decode cL_law 732 = .ok (.invokevirtual 113, 3) := by decide +kernel
theorem dL_law_735 : decode cL_law 735 = .ok (.pop2, 1) := by decide +kernel
theorem dL_law_736 : decode cL_law 736 = .ok (.goto 529, 3) := by decide +kernel
theorem dL_law_739 : decode cL_law 739 = .ok (.aload_n 1, 1) := by decide +kernel
theorem dL_law_740 : decode cL_law 740 = .ok (.invokevirtual 114, 3) := by decide +kernel
theorem dL_law_743 : decode cL_law 743 = .ok (.pop, 1) := by decide +kernel
theorem dL_law_744 : decode cL_law 744 = .ok (.aload_n 2, 1) := by decide +kernel
theorem dL_law_745 : decode cL_law 745 = .ok (.invokevirtual 117, 3) := by decide +kernel
theorem dL_law_748 : decode cL_law 748 = .ok (.pop, 1) := by decide +kernel
theorem dL_law_749 : decode cL_law 749 = .ok (.goto 516, 3) := by decide +kernel
theorem dL_law_752 : decode cL_law 752 = .ok (.aload_n 1, 1) := by decide +kernel
theorem dL_law_753 : decode cL_law 753 = .ok (.aload_n 0, 1) := by decide +kernel
theorem dL_law_754 : decode cL_law 754 = .ok (.iload_n 3, 1) := by decide +kernel
theorem dL_law_755 : decode cL_law 755 = .ok (.iconst 1, 1) := by decide +kernel
theorem dL_law_756 : decode cL_law 756 = .ok (.iadd, 1) := by decide +kernel
theorem dL_law_757 : decode cL_law 757 = .ok (.iaload, 1) := by decide +kernel
theorem dL_law_758 : decode cL_law 758 = .ok (.aload_n 0, 1) := by decide +kernel
theorem dL_law_759 : decode cL_law 759 = .ok (.iload_n 3, 1) := by decide +kernel
theorem dL_law_760 : decode cL_law 760 = .ok (.iconst 2, 1) := by decide +kernel
theorem dL_law_761 : decode cL_law 761 = .ok (.iadd, 1) := by decide +kernel
theorem dL_law_762 : decode cL_law 762 = .ok (.iaload, 1) := by decide +kernel
theorem dL_law_763 : decode cL_law 763 = .ok (.invokevirtual 118, 3) := by decide +kernel
theorem dL_law_766 : decode cL_law 766 = .ok (.pop, 1) := by decide +kernel
theorem dL_law_767 : decode cL_law 767 = .ok (.aload_n 2, 1) := by decide +kernel
theorem dL_law_768 : decode cL_law 768 = .ok (.aload_n 0, 1) := by decide +kernel
theorem dL_law_769 : decode cL_law 769 = .ok (.iload_n 3, 1) := by decide +kernel
theorem dL_law_770 : decode cL_law 770 = .ok (.iconst 1, 1) := by decide +kernel
theorem dL_law_771 : decode cL_law 771 = .ok (.iadd, 1) := by decide +kernel
theorem dL_law_772 : decode cL_law 772 = .ok (.iaload, 1) := by decide +kernel
theorem dL_law_773 : decode cL_law 773 = .ok (.aload_n 0, 1) := by decide +kernel
theorem dL_law_774 : decode cL_law 774 = .ok (.iload_n 3, 1) := by decide +kernel
theorem dL_law_775 : decode cL_law 775 = .ok (.iconst 2, 1) := by decide +kernel
theorem dL_law_776 : decode cL_law 776 = .ok (.iadd, 1) := by decide +kernel
theorem dL_law_777 : decode cL_law 777 = .ok (.iaload, 1) := by decide +kernel
theorem dL_law_778 : decode cL_law 778 = .ok (.invokevirtual 121, 3) := by decide +kernel
theorem dL_law_781 : decode cL_law 781 = .ok (.pop, 1) := by decide +kernel
theorem dL_law_782 : decode cL_law 782 = .ok (.goto 483, 3) := by decide +kernel
theorem dL_law_785 : decode cL_law 785 = .ok (.aload_n 1, 1) := by decide +kernel
theorem dL_law_786 : decode cL_law 786 = .ok (.invokevirtual 122, 3) := by decide +kernel
theorem dL_law_789 : decode cL_law 789 = .ok (.pop, 1) := by decide +kernel
theorem dL_law_790 : decode cL_law 790 = .ok (.aload_n 2, 1) := by decide +kernel
theorem dL_law_791 : decode cL_law 791 = .ok (.invokevirtual 125, 3) := by decide +kernel
theorem dL_law_794 : decode cL_law 794 = .ok (.pop, 1) := by decide +kernel
theorem dL_law_795 : decode cL_law 795 = .ok (.goto 470, 3) := by decide +kernel
theorem dL_law_798 : decode cL_law 798 = .ok (.aload_n 1, 1) := by decide +kernel
theorem dL_law_799 : decode cL_law 799 = .ok (.aload_n 0, 1) := by decide +kernel
theorem dL_law_800 : decode cL_law 800 = .ok (.iload_n 3, 1) := by decide +kernel
theorem dL_law_801 : decode cL_law 801 = .ok (.iconst 1, 1) := by decide +kernel
theorem dL_law_802 : decode cL_law 802 = .ok (.iadd, 1) := by decide +kernel
theorem dL_law_803 : decode cL_law 803 = .ok (.iaload, 1) := by decide +kernel
theorem dL_law_804 : decode cL_law 804 = .ok (.invokevirtual 126, 3) := by decide +kernel
theorem dL_law_807 : decode cL_law 807 = .ok (.pop, 1) := by decide +kernel
theorem dL_law_808 : decode cL_law 808 = .ok (.aload_n 2, 1) := by decide +kernel
theorem dL_law_809 : decode cL_law 809 = .ok (.aload_n 0, 1) := by decide +kernel
theorem dL_law_810 : decode cL_law 810 = .ok (.iload_n 3, 1) := by decide +kernel
theorem dL_law_811 : decode cL_law 811 = .ok (.iconst 1, 1) := by decide +kernel
theorem dL_law_812 : decode cL_law 812 = .ok (.iadd, 1) := by decide +kernel
theorem dL_law_813 : decode cL_law 813 = .ok (.iaload, 1) := by decide +kernel
theorem dL_law_814 : decode cL_law 814 = .ok (.invokevirtual 129, 3) := by decide +kernel
theorem dL_law_817 : decode cL_law 817 = .ok (.pop, 1) := by decide +kernel
theorem dL_law_818 : decode cL_law 818 = .ok (.goto 447, 3) := by decide +kernel
theorem dL_law_821 : decode cL_law 821 = .ok (.aload_n 1, 1) := by decide +kernel
theorem dL_law_822 : decode cL_law 822 = .ok (.aload_n 0, 1) := by decide +kernel
theorem dL_law_823 : decode cL_law 823 = .ok (.iload_n 3, 1) := by decide +kernel
theorem dL_law_824 : decode cL_law 824 = .ok (.iconst 1, 1) := by decide +kernel
theorem dL_law_825 : decode cL_law 825 = .ok (.iadd, 1) := by decide +kernel
theorem dL_law_826 : decode cL_law 826 = .ok (.iaload, 1) := by decide +kernel
theorem dL_law_827 : decode cL_law 827 = .ok (.aload_n 0, 1) := by decide +kernel
theorem dL_law_828 : decode cL_law 828 = .ok (.iload_n 3, 1) := by decide +kernel
theorem dL_law_829 : decode cL_law 829 = .ok (.iconst 2, 1) := by decide +kernel
theorem dL_law_830 : decode cL_law 830 = .ok (.iadd, 1) := by decide +kernel
theorem dL_law_831 : decode cL_law 831 = .ok (.iaload, 1) := by decide +kernel
theorem dL_law_832 : decode cL_law 832 = .ok (.aload_n 0, 1) := by decide +kernel
theorem dL_law_833 : decode cL_law 833 = .ok (.iload_n 3, 1) := by decide +kernel
theorem dL_law_834 : decode cL_law 834 = .ok (.iconst 3, 1) := by decide +kernel
theorem dL_law_835 : decode cL_law 835 = .ok (.iadd, 1) := by decide +kernel
theorem dL_law_836 : decode cL_law 836 = .ok (.iaload, 1) := by decide +kernel
theorem dL_law_837 : decode cL_law 837 = .ok (.invokevirtual 130, 3) := by decide +kernel
theorem dL_law_840 : decode cL_law 840 = .ok (.pop, 1) := by decide +kernel
theorem dL_law_841 : decode cL_law 841 = .ok (.aload_n 2, 1) := by decide +kernel
theorem dL_law_842 : decode cL_law 842 = .ok (.aload_n 0, 1) := by decide +kernel
theorem dL_law_843 : decode cL_law 843 = .ok (.iload_n 3, 1) := by decide +kernel
theorem dL_law_844 : decode cL_law 844 = .ok (.iconst 1, 1) := by decide +kernel
theorem dL_law_845 : decode cL_law 845 = .ok (.iadd, 1) := by decide +kernel
theorem dL_law_846 : decode cL_law 846 = .ok (.iaload, 1) := by decide +kernel
theorem dL_law_847 : decode cL_law 847 = .ok (.aload_n 0, 1) := by decide +kernel
theorem dL_law_848 : decode cL_law 848 = .ok (.iload_n 3, 1) := by decide +kernel
theorem dL_law_849 : decode cL_law 849 = .ok (.iconst 2, 1) := by decide +kernel
theorem dL_law_850 : decode cL_law 850 = .ok (.iadd, 1) := by decide +kernel
theorem dL_law_851 : decode cL_law 851 = .ok (.iaload, 1) := by decide +kernel
theorem dL_law_852 : decode cL_law 852 = .ok (.aload_n 0, 1) := by decide +kernel
theorem dL_law_853 : decode cL_law 853 = .ok (.iload_n 3, 1) := by decide +kernel
theorem dL_law_854 : decode cL_law 854 = .ok (.iconst 3, 1) := by decide +kernel
theorem dL_law_855 : decode cL_law 855 = .ok (.iadd, 1) := by decide +kernel
theorem dL_law_856 : decode cL_law 856 = .ok (.iaload, 1) := by decide +kernel
theorem dL_law_857 : decode cL_law 857 = .ok (.invokevirtual 133, 3) := by decide +kernel
theorem dL_law_860 : decode cL_law 860 = .ok (.pop, 1) := by decide +kernel
theorem dL_law_861 : decode cL_law 861 = .ok (.goto 404, 3) := by decide +kernel
theorem dL_law_864 : decode cL_law 864 = .ok (.aload_n 1, 1) := by decide +kernel
theorem dL_law_865 : decode cL_law 865 = .ok (.aload_n 0, 1) := by decide +kernel
theorem dL_law_866 : decode cL_law 866 = .ok (.iload_n 3, 1) := by decide +kernel
theorem dL_law_867 : decode cL_law 867 = .ok (.iconst 1, 1) := by decide +kernel
theorem dL_law_868 : decode cL_law 868 = .ok (.iadd, 1) := by decide +kernel
theorem dL_law_869 : decode cL_law 869 = .ok (.iaload, 1) := by decide +kernel
theorem dL_law_870 : decode cL_law 870 = .ok (.aload_n 0, 1) := by decide +kernel
theorem dL_law_871 : decode cL_law 871 = .ok (.iload_n 3, 1) := by decide +kernel
theorem dL_law_872 : decode cL_law 872 = .ok (.iconst 2, 1) := by decide +kernel
theorem dL_law_873 : decode cL_law 873 = .ok (.iadd, 1) := by decide +kernel
theorem dL_law_874 : decode cL_law 874 = .ok (.iaload, 1) := by decide +kernel
theorem dL_law_875 : decode cL_law 875 = .ok (.aload_n 0, 1) := by decide +kernel
theorem dL_law_876 : decode cL_law 876 = .ok (.iload_n 3, 1) := by decide +kernel
theorem dL_law_877 : decode cL_law 877 = .ok (.iconst 3, 1) := by decide +kernel
theorem dL_law_878 : decode cL_law 878 = .ok (.iadd, 1) := by decide +kernel
theorem dL_law_879 : decode cL_law 879 = .ok (.iaload, 1) := by decide +kernel
theorem dL_law_880 : decode cL_law 880 = .ok (.invokevirtual 134, 3) := by decide +kernel
theorem dL_law_883 : decode cL_law 883 = .ok (.pop, 1) := by decide +kernel
theorem dL_law_884 : decode cL_law 884 = .ok (.aload_n 2, 1) := by decide +kernel
theorem dL_law_885 : decode cL_law 885 = .ok (.aload_n 0, 1) := by decide +kernel
theorem dL_law_886 : decode cL_law 886 = .ok (.iload_n 3, 1) := by decide +kernel
theorem dL_law_887 : decode cL_law 887 = .ok (.iconst 1, 1) := by decide +kernel
theorem dL_law_888 : decode cL_law 888 = .ok (.iadd, 1) := by decide +kernel
theorem dL_law_889 : decode cL_law 889 = .ok (.iaload, 1) := by decide +kernel
theorem dL_law_890 : decode cL_law 890 = .ok (.aload_n 0, 1) := by decide +kernel
theorem dL_law_891 : decode cL_law 891 = .ok (.iload_n 3, 1) := by decide +kernel
theorem dL_law_892 : decode cL_law 892 = .ok (.iconst 2, 1) := by decide +kernel
theorem dL_law_893 : decode cL_law 893 = .ok (.iadd, 1) := by decide +kernel
theorem dL_law_894 : decode cL_law 894 = .ok (.iaload, 1) := by decide +kernel
theorem dL_law_895 : decode cL_law 895 = .ok (.aload_n 0, 1) := by decide +kernel
theorem dL_law_896 : decode cL_law 896 = .ok (.iload_n 3, 1) := by decide +kernel
theorem dL_law_897 : decode cL_law 897 = .ok (.iconst 3, 1) := by decide +kernel
theorem dL_law_898 : decode cL_law 898 = .ok (.iadd, 1) := by decide +kernel
theorem dL_law_899 : decode cL_law 899 = .ok (.iaload, 1) := by decide +kernel
theorem dL_law_900 : decode cL_law 900 = .ok (.invokevirtual 137, 3) := by decide +kernel
theorem dL_law_903 : decode cL_law 903 = .ok (.pop, 1) := by decide +kernel
theorem dL_law_904 : decode cL_law 904 = .ok (.goto 361, 3) := by decide +kernel
theorem dL_law_907 : decode cL_law 907 = .ok (.aload_n 1, 1) := by decide +kernel
theorem dL_law_908 : decode cL_law 908 = .ok (.aload_n 0, 1) := by decide +kernel
theorem dL_law_909 : decode cL_law 909 = .ok (.iload_n 3, 1) := by decide +kernel
theorem dL_law_910 : decode cL_law 910 = .ok (.iconst 1, 1) := by decide +kernel
theorem dL_law_911 : decode cL_law 911 = .ok (.iadd, 1) := by decide +kernel
theorem dL_law_912 : decode cL_law 912 = .ok (.iaload, 1) := by decide +kernel
theorem dL_law_913 : decode cL_law 913 = .ok (.aload_n 0, 1) := by decide +kernel
theorem dL_law_914 : decode cL_law 914 = .ok (.iload_n 3, 1) := by decide +kernel
theorem dL_law_915 : decode cL_law 915 = .ok (.iconst 2, 1) := by decide +kernel
theorem dL_law_916 : decode cL_law 916 = .ok (.iadd, 1) := by decide +kernel
theorem dL_law_917 : decode cL_law 917 = .ok (.iaload, 1) := by decide +kernel
theorem dL_law_918 : decode cL_law 918 = .ok (.invokevirtual 138, 3) := by decide +kernel
theorem dL_law_921 : decode cL_law 921 = .ok (.pop, 1) := by decide +kernel
theorem dL_law_922 : decode cL_law 922 = .ok (.aload_n 2, 1) := by decide +kernel
theorem dL_law_923 : decode cL_law 923 = .ok (.aload_n 0, 1) := by decide +kernel
theorem dL_law_924 : decode cL_law 924 = .ok (.iload_n 3, 1) := by decide +kernel
theorem dL_law_925 : decode cL_law 925 = .ok (.iconst 1, 1) := by decide +kernel
theorem dL_law_926 : decode cL_law 926 = .ok (.iadd, 1) := by decide +kernel
theorem dL_law_927 : decode cL_law 927 = .ok (.iaload, 1) := by decide +kernel
theorem dL_law_928 : decode cL_law 928 = .ok (.aload_n 0, 1) := by decide +kernel
theorem dL_law_929 : decode cL_law 929 = .ok (.iload_n 3, 1) := by decide +kernel
theorem dL_law_930 : decode cL_law 930 = .ok (.iconst 2, 1) := by decide +kernel
theorem dL_law_931 : decode cL_law 931 = .ok (.iadd, 1) := by decide +kernel
theorem dL_law_932 : decode cL_law 932 = .ok (.iaload, 1) := by decide +kernel
theorem dL_law_933 : decode cL_law 933 = .ok (.invokevirtual 141, 3) := by decide +kernel
theorem dL_law_936 : decode cL_law 936 = .ok (.pop, 1) := by decide +kernel
theorem dL_law_937 : decode cL_law 937 = .ok (.goto 328, 3) := by decide +kernel
theorem dL_law_940 : decode cL_law 940 = .ok (.aload_n 1, 1) := by decide +kernel
theorem dL_law_941 : decode cL_law 941 = .ok (.aload_n 0, 1) := by decide +kernel
theorem dL_law_942 : decode cL_law 942 = .ok (.iload_n 3, 1) := by decide +kernel
theorem dL_law_943 : decode cL_law 943 = .ok (.iconst 1, 1) := by decide +kernel
theorem dL_law_944 : decode cL_law 944 = .ok (.iadd, 1) := by decide +kernel
theorem dL_law_945 : decode cL_law 945 = .ok (.iaload, 1) := by decide +kernel
theorem dL_law_946 : decode cL_law 946 = .ok (.invokevirtual 142, 3) := by decide +kernel
theorem dL_law_949 : decode cL_law 949 = .ok (.pop, 1) := by decide +kernel
theorem dL_law_950 : decode cL_law 950 = .ok (.aload_n 2, 1) := by decide +kernel
theorem dL_law_951 : decode cL_law 951 = .ok (.aload_n 0, 1) := by decide +kernel
theorem dL_law_952 : decode cL_law 952 = .ok (.iload_n 3, 1) := by decide +kernel
theorem dL_law_953 : decode cL_law 953 = .ok (.iconst 1, 1) := by decide +kernel
theorem dL_law_954 : decode cL_law 954 = .ok (.iadd, 1) := by decide +kernel
theorem dL_law_955 : decode cL_law 955 = .ok (.iaload, 1) := by decide +kernel
theorem dL_law_956 : decode cL_law 956 = .ok (.invokevirtual 145, 3) := by decide +kernel
theorem dL_law_959 : decode cL_law 959 = .ok (.pop, 1) := by decide +kernel
theorem dL_law_960 : decode cL_law 960 = .ok (.goto 305, 3) := by decide +kernel
theorem dL_law_963 : decode cL_law 963 = .ok (.aload_n 1, 1) := by decide +kernel
theorem dL_law_964 : decode cL_law 964 = .ok (.aload_n 0, 1) := by decide +kernel
theorem dL_law_965 : decode cL_law 965 = .ok (.iload_n 3, 1) := by decide +kernel
theorem dL_law_966 : decode cL_law 966 = .ok (.iconst 1, 1) := by decide +kernel
theorem dL_law_967 : decode cL_law 967 = .ok (.iadd, 1) := by decide +kernel
theorem dL_law_968 : decode cL_law 968 = .ok (.iaload, 1) := by decide +kernel
theorem dL_law_969 : decode cL_law 969 = .ok (.aload_n 0, 1) := by decide +kernel
theorem dL_law_970 : decode cL_law 970 = .ok (.iload_n 3, 1) := by decide +kernel
theorem dL_law_971 : decode cL_law 971 = .ok (.iconst 2, 1) := by decide +kernel
theorem dL_law_972 : decode cL_law 972 = .ok (.iadd, 1) := by decide +kernel
theorem dL_law_973 : decode cL_law 973 = .ok (.iaload, 1) := by decide +kernel
theorem dL_law_974 : decode cL_law 974 = .ok (.aload_n 0, 1) := by decide +kernel
theorem dL_law_975 : decode cL_law 975 = .ok (.iload_n 3, 1) := by decide +kernel
theorem dL_law_976 : decode cL_law 976 = .ok (.iconst 3, 1) := by decide +kernel
theorem dL_law_977 : decode cL_law 977 = .ok (.iadd, 1) := by decide +kernel
theorem dL_law_978 : decode cL_law 978 = .ok (.iaload, 1) := by decide +kernel
theorem dL_law_979 : decode cL_law 979 = .ok (.invokevirtual 146, 3) := by decide +kernel
theorem dL_law_982 : decode cL_law 982 = .ok (.pop, 1) := by decide +kernel
theorem dL_law_983 : decode cL_law 983 = .ok (.aload_n 2, 1) := by decide +kernel
theorem dL_law_984 : decode cL_law 984 = .ok (.aload_n 0, 1) := by decide +kernel
theorem dL_law_985 : decode cL_law 985 = .ok (.iload_n 3, 1) := by decide +kernel
theorem dL_law_986 : decode cL_law 986 = .ok (.iconst 1, 1) := by decide +kernel
theorem dL_law_987 : decode cL_law 987 = .ok (.iadd, 1) := by decide +kernel
theorem dL_law_988 : decode cL_law 988 = .ok (.iaload, 1) := by decide +kernel
theorem dL_law_989 : decode cL_law 989 = .ok (.aload_n 0, 1) := by decide +kernel
theorem dL_law_990 : decode cL_law 990 = .ok (.iload_n 3, 1) := by decide +kernel
theorem dL_law_991 : decode cL_law 991 = .ok (.iconst 2, 1) := by decide +kernel
theorem dL_law_992 : decode cL_law 992 = .ok (.iadd, 1) := by decide +kernel
theorem dL_law_993 : decode cL_law 993 = .ok (.iaload, 1) := by decide +kernel
theorem dL_law_994 : decode cL_law 994 = .ok (.aload_n 0, 1) := by decide +kernel
theorem dL_law_995 : decode cL_law 995 = .ok (.iload_n 3, 1) := by decide +kernel
theorem dL_law_996 : decode cL_law 996 = .ok (.iconst 3, 1) := by decide +kernel
theorem dL_law_997 : decode cL_law 997 = .ok (.iadd, 1) := by decide +kernel
theorem dL_law_998 : decode cL_law 998 = .ok (.iaload, 1) := by decide +kernel
theorem dL_law_999 : decode cL_law 999 = .ok (.invokevirtual 149, 3) := by decide +kernel
theorem dL_law_1002 : decode cL_law 1002 = .ok (.pop, 1) := by decide +kernel
theorem dL_law_1003 : decode cL_law 1003 = .ok (.goto 262, 3) := by decide +kernel
theorem dL_law_1006 : decode cL_law 1006 = .ok (.aload_n 1, 1) := by decide +kernel
theorem dL_law_1007 : decode cL_law 1007 = .ok (.aload_n 0, 1) := by decide +kernel
theorem dL_law_1008 : decode cL_law 1008 = .ok (.iload_n 3, 1) := by decide +kernel
theorem dL_law_1009 : decode cL_law 1009 = .ok (.iconst 1, 1) := by decide +kernel
theorem dL_law_1010 : decode cL_law 1010 = .ok (.iadd, 1) := by decide +kernel
theorem dL_law_1011 : decode cL_law 1011 = .ok (.iaload, 1) := by decide +kernel
theorem dL_law_1012 : decode cL_law 1012 = .ok (.aload_n 0, 1) := by decide +kernel
theorem dL_law_1013 : decode cL_law 1013 = .ok (.iload_n 3, 1) := by decide +kernel
theorem dL_law_1014 : decode cL_law 1014 = .ok (.iconst 2, 1) := by decide +kernel
theorem dL_law_1015 : decode cL_law 1015 = .ok (.iadd, 1) := by decide +kernel
theorem dL_law_1016 : decode cL_law 1016 = .ok (.iaload, 1) := by decide +kernel
theorem dL_law_1017 : decode cL_law 1017 = .ok (.aload_n 0, 1) := by decide +kernel
theorem dL_law_1018 : decode cL_law 1018 = .ok (.iload_n 3, 1) := by decide +kernel
theorem dL_law_1019 : decode cL_law 1019 = .ok (.iconst 3, 1) := by decide +kernel
theorem dL_law_1020 : decode cL_law 1020 = .ok (.iadd, 1) := by decide +kernel
theorem dL_law_1021 : decode cL_law 1021 = .ok (.iaload, 1) := by decide +kernel
theorem dL_law_1022 : decode cL_law 1022 = .ok (.invokevirtual 150, 3) := by decide +kernel
theorem dL_law_1025 : decode cL_law 1025 = .ok (.aload_n 2, 1) := by decide +kernel
theorem dL_law_1026 : decode cL_law 1026 = .ok (.aload_n 0, 1) := by decide +kernel
theorem dL_law_1027 : decode cL_law 1027 = .ok (.iload_n 3, 1) := by decide +kernel
theorem dL_law_1028 : decode cL_law 1028 = .ok (.iconst 1, 1) := by decide +kernel
theorem dL_law_1029 : decode cL_law 1029 = .ok (.iadd, 1) := by decide +kernel
theorem dL_law_1030 : decode cL_law 1030 = .ok (.iaload, 1) := by decide +kernel
theorem dL_law_1031 : decode cL_law 1031 = .ok (.aload_n 0, 1) := by decide +kernel
theorem dL_law_1032 : decode cL_law 1032 = .ok (.iload_n 3, 1) := by decide +kernel
theorem dL_law_1033 : decode cL_law 1033 = .ok (.iconst 2, 1) := by decide +kernel
theorem dL_law_1034 : decode cL_law 1034 = .ok (.iadd, 1) := by decide +kernel
theorem dL_law_1035 : decode cL_law 1035 = .ok (.iaload, 1) := by decide +kernel
theorem dL_law_1036 : decode cL_law 1036 = .ok (.aload_n 0, 1) := by decide +kernel
theorem dL_law_1037 : decode cL_law 1037 = .ok (.iload_n 3, 1) := by decide +kernel
theorem dL_law_1038 : decode cL_law 1038 = .ok (.iconst 3, 1) := by decide +kernel
theorem dL_law_1039 : decode cL_law 1039 = .ok (.iadd, 1) := by decide +kernel
theorem dL_law_1040 : decode cL_law 1040 = .ok (.iaload, 1) := by decide +kernel
theorem dL_law_1041 : decode cL_law 1041 = .ok (.invokevirtual 154, 3) := by decide +kernel
theorem dL_law_1044 : decode cL_law 1044 = .ok (.lcmp, 1) := by decide +kernel
theorem dL_law_1045 : decode cL_law 1045 = .ok (.ifCond .eq 220, 3) := by decide +kernel
theorem dL_law_1048 : decode cL_law 1048 = .ok (.iconst 0, 1) := by decide +kernel
theorem dL_law_1049 : decode cL_law 1049 = .ok (.ireturn, 1) := by decide +kernel
theorem dL_law_1050 : decode cL_law 1050 = .ok (.aload_n 1, 1) := by decide +kernel
theorem dL_law_1051 : decode cL_law 1051 = .ok (.aload_n 0, 1) := by decide +kernel
theorem dL_law_1052 : decode cL_law 1052 = .ok (.iload_n 3, 1) := by decide +kernel
theorem dL_law_1053 : decode cL_law 1053 = .ok (.iconst 1, 1) := by decide +kernel
theorem dL_law_1054 : decode cL_law 1054 = .ok (.iadd, 1) := by decide +kernel
theorem dL_law_1055 : decode cL_law 1055 = .ok (.iaload, 1) := by decide +kernel
theorem dL_law_1056 : decode cL_law 1056 = .ok (.aload_n 0, 1) := by decide +kernel
theorem dL_law_1057 : decode cL_law 1057 = .ok (.iload_n 3, 1) := by decide +kernel
theorem dL_law_1058 : decode cL_law 1058 = .ok (.iconst 2, 1) := by decide +kernel
theorem dL_law_1059 : decode cL_law 1059 = .ok (.iadd, 1) := by decide +kernel
theorem dL_law_1060 : decode cL_law 1060 = .ok (.iaload, 1) := by decide +kernel
theorem dL_law_1061 : decode cL_law 1061 = .ok (.aload_n 0, 1) := by decide +kernel
theorem dL_law_1062 : decode cL_law 1062 = .ok (.iload_n 3, 1) := by decide +kernel
theorem dL_law_1063 : decode cL_law 1063 = .ok (.iconst 3, 1) := by decide +kernel
theorem dL_law_1064 : decode cL_law 1064 = .ok (.iadd, 1) := by decide +kernel
theorem dL_law_1065 : decode cL_law 1065 = .ok (.iaload, 1) := by decide +kernel
theorem dL_law_1066 : decode cL_law 1066 = .ok (.invokevirtual 155, 3) := by decide +kernel
theorem dL_law_1069 : decode cL_law 1069 = .ok (.pop, 1) := by decide +kernel
theorem dL_law_1070 : decode cL_law 1070 = .ok (.aload_n 2, 1) := by decide +kernel
theorem dL_law_1071 : decode cL_law 1071 = .ok (.aload_n 0, 1) := by decide +kernel
theorem dL_law_1072 : decode cL_law 1072 = .ok (.iload_n 3, 1) := by decide +kernel
theorem dL_law_1073 : decode cL_law 1073 = .ok (.iconst 1, 1) := by decide +kernel
theorem dL_law_1074 : decode cL_law 1074 = .ok (.iadd, 1) := by decide +kernel
theorem dL_law_1075 : decode cL_law 1075 = .ok (.iaload, 1) := by decide +kernel
theorem dL_law_1076 : decode cL_law 1076 = .ok (.aload_n 0, 1) := by decide +kernel
theorem dL_law_1077 : decode cL_law 1077 = .ok (.iload_n 3, 1) := by decide +kernel
theorem dL_law_1078 : decode cL_law 1078 = .ok (.iconst 2, 1) := by decide +kernel
theorem dL_law_1079 : decode cL_law 1079 = .ok (.iadd, 1) := by decide +kernel
theorem dL_law_1080 : decode cL_law 1080 = .ok (.iaload, 1) := by decide +kernel
theorem dL_law_1081 : decode cL_law 1081 = .ok (.aload_n 0, 1) := by decide +kernel
theorem dL_law_1082 : decode cL_law 1082 = .ok (.iload_n 3, 1) := by decide +kernel
theorem dL_law_1083 : decode cL_law 1083 = .ok (.iconst 3, 1) := by decide +kernel
theorem dL_law_1084 : decode cL_law 1084 = .ok (.iadd, 1) := by decide +kernel
theorem dL_law_1085 : decode cL_law 1085 = .ok (.iaload, 1) := by decide +kernel
theorem dL_law_1086 : decode cL_law 1086 = .ok (.invokevirtual 158, 3) := by decide +kernel
theorem dL_law_1089 : decode cL_law 1089 = .ok (.pop, 1) := by decide +kernel
theorem dL_law_1090 : decode cL_law 1090 = .ok (.goto 175, 3) := by decide +kernel
theorem dL_law_1093 : decode cL_law 1093 = .ok (.aload_n 1, 1) := by decide +kernel
theorem dL_law_1094 : decode cL_law 1094 = .ok (.aload_n 0, 1) := by decide +kernel
theorem dL_law_1095 : decode cL_law 1095 = .ok (.iload_n 3, 1) := by decide +kernel
theorem dL_law_1096 : decode cL_law 1096 = .ok (.iconst 1, 1) := by decide +kernel
theorem dL_law_1097 : decode cL_law 1097 = .ok (.iadd, 1) := by decide +kernel
theorem dL_law_1098 : decode cL_law 1098 = .ok (.iaload, 1) := by decide +kernel
theorem dL_law_1099 : decode cL_law 1099 = .ok (.invokevirtual 159, 3) := by decide +kernel
theorem dL_law_1102 : decode cL_law 1102 = .ok (.pop, 1) := by decide +kernel
theorem dL_law_1103 : decode cL_law 1103 = .ok (.aload_n 2, 1) := by decide +kernel
theorem dL_law_1104 : decode cL_law 1104 = .ok (.aload_n 0, 1) := by decide +kernel
theorem dL_law_1105 : decode cL_law 1105 = .ok (.iload_n 3, 1) := by decide +kernel
theorem dL_law_1106 : decode cL_law 1106 = .ok (.iconst 1, 1) := by decide +kernel
theorem dL_law_1107 : decode cL_law 1107 = .ok (.iadd, 1) := by decide +kernel
theorem dL_law_1108 : decode cL_law 1108 = .ok (.iaload, 1) := by decide +kernel
theorem dL_law_1109 : decode cL_law 1109 = .ok (.invokevirtual 162, 3) := by decide +kernel
theorem dL_law_1112 : decode cL_law 1112 = .ok (.pop, 1) := by decide +kernel
theorem dL_law_1113 : decode cL_law 1113 = .ok (.goto 152, 3) := by decide +kernel
theorem dL_law_1116 : decode cL_law 1116 = .ok (.aload_n 1, 1) := by decide +kernel
theorem dL_law_1117 : decode cL_law 1117 = .ok (.aload_n 0, 1) := by decide +kernel
theorem dL_law_1118 : decode cL_law 1118 = .ok (.iload_n 3, 1) := by decide +kernel
theorem dL_law_1119 : decode cL_law 1119 = .ok (.iconst 1, 1) := by decide +kernel
theorem dL_law_1120 : decode cL_law 1120 = .ok (.iadd, 1) := by decide +kernel
theorem dL_law_1121 : decode cL_law 1121 = .ok (.iaload, 1) := by decide +kernel
theorem dL_law_1122 : decode cL_law 1122 = .ok (.aload_n 0, 1) := by decide +kernel
theorem dL_law_1123 : decode cL_law 1123 = .ok (.iload_n 3, 1) := by decide +kernel
theorem dL_law_1124 : decode cL_law 1124 = .ok (.iconst 2, 1) := by decide +kernel
theorem dL_law_1125 : decode cL_law 1125 = .ok (.iadd, 1) := by decide +kernel
theorem dL_law_1126 : decode cL_law 1126 = .ok (.iaload, 1) := by decide +kernel
theorem dL_law_1127 : decode cL_law 1127 = .ok (.aload_n 0, 1) := by decide +kernel
theorem dL_law_1128 : decode cL_law 1128 = .ok (.iload_n 3, 1) := by decide +kernel
theorem dL_law_1129 : decode cL_law 1129 = .ok (.iconst 3, 1) := by decide +kernel
theorem dL_law_1130 : decode cL_law 1130 = .ok (.iadd, 1) := by decide +kernel
theorem dL_law_1131 : decode cL_law 1131 = .ok (.iaload, 1) := by decide +kernel
theorem dL_law_1132 : decode cL_law 1132 = .ok (.aload_n 0, 1) := by decide +kernel
theorem dL_law_1133 : decode cL_law 1133 = .ok (.iload_n 3, 1) := by decide +kernel
theorem dL_law_1134 : decode cL_law 1134 = .ok (.iconst 4, 1) := by decide +kernel
theorem dL_law_1135 : decode cL_law 1135 = .ok (.iadd, 1) := by decide +kernel
theorem dL_law_1136 : decode cL_law 1136 = .ok (.iaload, 1) := by decide +kernel
theorem dL_law_1137 : decode cL_law 1137 = .ok (.invokevirtual 163, 3) := by decide +kernel
theorem dL_law_1140 : decode cL_law 1140 = .ok (.pop, 1) := by decide +kernel
theorem dL_law_1141 : decode cL_law 1141 = .ok (.aload_n 2, 1) := by decide +kernel
theorem dL_law_1142 : decode cL_law 1142 = .ok (.aload_n 0, 1) := by decide +kernel
theorem dL_law_1143 : decode cL_law 1143 = .ok (.iload_n 3, 1) := by decide +kernel
theorem dL_law_1144 : decode cL_law 1144 = .ok (.iconst 1, 1) := by decide +kernel
theorem dL_law_1145 : decode cL_law 1145 = .ok (.iadd, 1) := by decide +kernel
theorem dL_law_1146 : decode cL_law 1146 = .ok (.iaload, 1) := by decide +kernel
theorem dL_law_1147 : decode cL_law 1147 = .ok (.aload_n 0, 1) := by decide +kernel
theorem dL_law_1148 : decode cL_law 1148 = .ok (.iload_n 3, 1) := by decide +kernel
theorem dL_law_1149 : decode cL_law 1149 = .ok (.iconst 2, 1) := by decide +kernel
theorem dL_law_1150 : decode cL_law 1150 = .ok (.iadd, 1) := by decide +kernel
theorem dL_law_1151 : decode cL_law 1151 = .ok (.iaload, 1) := by decide +kernel
theorem dL_law_1152 : decode cL_law 1152 = .ok (.aload_n 0, 1) := by decide +kernel
theorem dL_law_1153 : decode cL_law 1153 = .ok (.iload_n 3, 1) := by decide +kernel
theorem dL_law_1154 : decode cL_law 1154 = .ok (.iconst 3, 1) := by decide +kernel
theorem dL_law_1155 : decode cL_law 1155 = .ok (.iadd, 1) := by decide +kernel
theorem dL_law_1156 : decode cL_law 1156 = .ok (.iaload, 1) := by decide +kernel
theorem dL_law_1157 : decode cL_law 1157 = .ok (.aload_n 0, 1) := by decide +kernel
theorem dL_law_1158 : decode cL_law 1158 = .ok (.iload_n 3, 1) := by decide +kernel
theorem dL_law_1159 : decode cL_law 1159 = .ok (.iconst 4, 1) := by decide +kernel
theorem dL_law_1160 : decode cL_law 1160 = .ok (.iadd, 1) := by decide +kernel
theorem dL_law_1161 : decode cL_law 1161 = .ok (.iaload, 1) := by decide +kernel
theorem dL_law_1162 : decode cL_law 1162 = .ok (.invokevirtual 167, 3) := by decide +kernel
theorem dL_law_1165 : decode cL_law 1165 = .ok (.pop, 1) := by decide +kernel
theorem dL_law_1166 : decode cL_law 1166 = .ok (.goto 99, 3) := by decide +kernel
theorem dL_law_1169 : decode cL_law 1169 = .ok (.aload_n 1, 1) := by decide +kernel
theorem dL_law_1170 : decode cL_law 1170 = .ok (.aload_n 0, 1) := by decide +kernel
theorem dL_law_1171 : decode cL_law 1171 = .ok (.iload_n 3, 1) := by decide +kernel
theorem dL_law_1172 : decode cL_law 1172 = .ok (.iconst 1, 1) := by decide +kernel
theorem dL_law_1173 : decode cL_law 1173 = .ok (.iadd, 1) := by decide +kernel
theorem dL_law_1174 : decode cL_law 1174 = .ok (.iaload, 1) := by decide +kernel
theorem dL_law_1175 : decode cL_law 1175 = .ok (.aload_n 0, 1) := by decide +kernel
theorem dL_law_1176 : decode cL_law 1176 = .ok (.iload_n 3, 1) := by decide +kernel
theorem dL_law_1177 : decode cL_law 1177 = .ok (.iconst 2, 1) := by decide +kernel
theorem dL_law_1178 : decode cL_law 1178 = .ok (.iadd, 1) := by decide +kernel
theorem dL_law_1179 : decode cL_law 1179 = .ok (.iaload, 1) := by decide +kernel
theorem dL_law_1180 : decode cL_law 1180 = .ok (.aload_n 0, 1) := by decide +kernel
theorem dL_law_1181 : decode cL_law 1181 = .ok (.iload_n 3, 1) := by decide +kernel
theorem dL_law_1182 : decode cL_law 1182 = .ok (.iconst 3, 1) := by decide +kernel
theorem dL_law_1183 : decode cL_law 1183 = .ok (.iadd, 1) := by decide +kernel
theorem dL_law_1184 : decode cL_law 1184 = .ok (.iaload, 1) := by decide +kernel
theorem dL_law_1185 : decode cL_law 1185 = .ok (.aload_n 0, 1) := by decide +kernel
theorem dL_law_1186 : decode cL_law 1186 = .ok (.iload_n 3, 1) := by decide +kernel
theorem dL_law_1187 : decode cL_law 1187 = .ok (.iconst 4, 1) := by decide +kernel
theorem dL_law_1188 : decode cL_law 1188 = .ok (.iadd, 1) := by decide +kernel
theorem dL_law_1189 : decode cL_law 1189 = .ok (.iaload, 1) := by decide +kernel
theorem dL_law_1190 : decode cL_law 1190 = .ok (.invokevirtual 168, 3) := by decide +kernel
theorem dL_law_1193 : decode cL_law 1193 = .ok (.pop, 1) := by decide +kernel
theorem dL_law_1194 : decode cL_law 1194 = .ok (.aload_n 2, 1) := by decide +kernel
theorem dL_law_1195 : decode cL_law 1195 = .ok (.aload_n 0, 1) := by decide +kernel
theorem dL_law_1196 : decode cL_law 1196 = .ok (.iload_n 3, 1) := by decide +kernel
theorem dL_law_1197 : decode cL_law 1197 = .ok (.iconst 1, 1) := by decide +kernel
theorem dL_law_1198 : decode cL_law 1198 = .ok (.iadd, 1) := by decide +kernel
theorem dL_law_1199 : decode cL_law 1199 = .ok (.iaload, 1) := by decide +kernel
theorem dL_law_1200 : decode cL_law 1200 = .ok (.aload_n 0, 1) := by decide +kernel
theorem dL_law_1201 : decode cL_law 1201 = .ok (.iload_n 3, 1) := by decide +kernel
theorem dL_law_1202 : decode cL_law 1202 = .ok (.iconst 2, 1) := by decide +kernel
theorem dL_law_1203 : decode cL_law 1203 = .ok (.iadd, 1) := by decide +kernel
theorem dL_law_1204 : decode cL_law 1204 = .ok (.iaload, 1) := by decide +kernel
theorem dL_law_1205 : decode cL_law 1205 = .ok (.aload_n 0, 1) := by decide +kernel
theorem dL_law_1206 : decode cL_law 1206 = .ok (.iload_n 3, 1) := by decide +kernel
theorem dL_law_1207 : decode cL_law 1207 = .ok (.iconst 3, 1) := by decide +kernel
theorem dL_law_1208 : decode cL_law 1208 = .ok (.iadd, 1) := by decide +kernel
theorem dL_law_1209 : decode cL_law 1209 = .ok (.iaload, 1) := by decide +kernel
theorem dL_law_1210 : decode cL_law 1210 = .ok (.aload_n 0, 1) := by decide +kernel
theorem dL_law_1211 : decode cL_law 1211 = .ok (.iload_n 3, 1) := by decide +kernel
theorem dL_law_1212 : decode cL_law 1212 = .ok (.iconst 4, 1) := by decide +kernel
theorem dL_law_1213 : decode cL_law 1213 = .ok (.iadd, 1) := by decide +kernel
theorem dL_law_1214 : decode cL_law 1214 = .ok (.iaload, 1) := by decide +kernel
theorem dL_law_1215 : decode cL_law 1215 = .ok (.invokevirtual 171, 3) := by decide +kernel
theorem dL_law_1218 : decode cL_law 1218 = .ok (.pop, 1) := by decide +kernel
theorem dL_law_1219 : decode cL_law 1219 = .ok (.goto 46, 3) := by decide +kernel
theorem dL_law_1222 : decode cL_law 1222 = .ok (.aload_n 1, 1) := by decide +kernel
theorem dL_law_1223 : decode cL_law 1223 = .ok (.aload_n 0, 1) := by decide +kernel
theorem dL_law_1224 : decode cL_law 1224 = .ok (.iload_n 3, 1) := by decide +kernel
theorem dL_law_1225 : decode cL_law 1225 = .ok (.iconst 1, 1) := by decide +kernel
theorem dL_law_1226 : decode cL_law 1226 = .ok (.iadd, 1) := by decide +kernel
theorem dL_law_1227 : decode cL_law 1227 = .ok (.iaload, 1) := by decide +kernel
theorem dL_law_1228 : decode cL_law 1228 = .ok (.aload_n 0, 1) := by decide +kernel
theorem dL_law_1229 : decode cL_law 1229 = .ok (.iload_n 3, 1) := by decide +kernel
theorem dL_law_1230 : decode cL_law 1230 = .ok (.iconst 2, 1) := by decide +kernel
theorem dL_law_1231 : decode cL_law 1231 = .ok (.iadd, 1) := by decide +kernel
theorem dL_law_1232 : decode cL_law 1232 = .ok (.iaload, 1) := by decide +kernel
theorem dL_law_1233 : decode cL_law 1233 = .ok (.aload_n 0, 1) := by decide +kernel
theorem dL_law_1234 : decode cL_law 1234 = .ok (.iload_n 3, 1) := by decide +kernel
theorem dL_law_1235 : decode cL_law 1235 = .ok (.iconst 3, 1) := by decide +kernel
theorem dL_law_1236 : decode cL_law 1236 = .ok (.iadd, 1) := by decide +kernel
theorem dL_law_1237 : decode cL_law 1237 = .ok (.iaload, 1) := by decide +kernel
theorem dL_law_1238 : decode cL_law 1238 = .ok (.invokevirtual 172, 3) := by decide +kernel
theorem dL_law_1241 : decode cL_law 1241 = .ok (.pop, 1) := by decide +kernel
theorem dL_law_1242 : decode cL_law 1242 = .ok (.aload_n 2, 1) := by decide +kernel
theorem dL_law_1243 : decode cL_law 1243 = .ok (.aload_n 0, 1) := by decide +kernel
theorem dL_law_1244 : decode cL_law 1244 = .ok (.iload_n 3, 1) := by decide +kernel
theorem dL_law_1245 : decode cL_law 1245 = .ok (.iconst 1, 1) := by decide +kernel
theorem dL_law_1246 : decode cL_law 1246 = .ok (.iadd, 1) := by decide +kernel
theorem dL_law_1247 : decode cL_law 1247 = .ok (.iaload, 1) := by decide +kernel
theorem dL_law_1248 : decode cL_law 1248 = .ok (.aload_n 0, 1) := by decide +kernel
theorem dL_law_1249 : decode cL_law 1249 = .ok (.iload_n 3, 1) := by decide +kernel
theorem dL_law_1250 : decode cL_law 1250 = .ok (.iconst 2, 1) := by decide +kernel
theorem dL_law_1251 : decode cL_law 1251 = .ok (.iadd, 1) := by decide +kernel
theorem dL_law_1252 : decode cL_law 1252 = .ok (.iaload, 1) := by decide +kernel
theorem dL_law_1253 : decode cL_law 1253 = .ok (.aload_n 0, 1) := by decide +kernel
theorem dL_law_1254 : decode cL_law 1254 = .ok (.iload_n 3, 1) := by decide +kernel
theorem dL_law_1255 : decode cL_law 1255 = .ok (.iconst 3, 1) := by decide +kernel
theorem dL_law_1256 : decode cL_law 1256 = .ok (.iadd, 1) := by decide +kernel
theorem dL_law_1257 : decode cL_law 1257 = .ok (.iaload, 1) := by decide +kernel
theorem dL_law_1258 : decode cL_law 1258 = .ok (.invokevirtual 175, 3) := by decide +kernel
theorem dL_law_1261 : decode cL_law 1261 = .ok (.pop, 1) := by decide +kernel
theorem dL_law_1262 : decode cL_law 1262 = .ok (.goto 3, 3) := by decide +kernel
theorem dL_law_1265 : decode cL_law 1265 = .ok (.iinc 3 5, 3) := by decide +kernel
theorem dL_law_1268 : decode cL_law 1268 = .ok (.goto (-1250), 3) := by decide +kernel
theorem dL_law_1271 : decode cL_law 1271 = .ok (.iconst 1, 1) := by decide +kernel
theorem dL_law_1272 : decode cL_law 1272 = .ok (.ireturn, 1) := by decide +kernel
