theorem dX5_init_0 : decode cX5_init 0 = .ok (.aload_n 0, 1) := by decide +kernel
theorem dX5_init_1 : decode cX5_init 1 = .ok (.invokespecial 1, 3) := by decide +kernel
theorem dX5_init_4 : decode cX5_init 4 = .ok (.aload_n 0, 1) := by decide +kernel
theorem dX5_init_5 : decode cX5_init 5 = .ok (.iconst 2, 1) := by decide +kernel
theorem dX5_init_6 : decode cX5_init 6 = .ok (.newarray .int, 2) := by decide +kernel
theorem dX5_init_8 : decode cX5_init 8 = .ok (.putfield 7, 3) := by decide +kernel
theorem dX5_init_11 : decode cX5_init 11 = .ok (.aload_n 0, 1) := by decide +kernel
theorem dX5_init_12 : decode cX5_init 12 = .ok (.sipush 300, 3) := by decide +kernel
theorem dX5_init_15 : decode cX5_init 15 = .ok (.newarray .int, 2) := by decide +kernel
theorem dX5_init_17 : decode cX5_init 17 = .ok (.putfield 13, 3) := by decide +kernel
theorem dX5_init_20 : decode cX5_init 20 = .ok (.aload_n 0, 1) := by decide +kernel
theorem dX5_init_21 : decode cX5_init 21 = .ok (.iconst 2, 1) := by decide +kernel
theorem dX5_init_22 : decode cX5_init 22 = .ok (.newarray .int, 2) := by decide +kernel
theorem dX5_init_24 : decode cX5_init 24 = .ok (.putfield 16, 3) := by decide +kernel
theorem dX5_init_27 : decode cX5_init 27 = .ok (.aload_n 0, 1) := by decide +kernel
theorem dX5_init_28 : decode cX5_init 28 = .ok (.bipush 8, 2) := by decide +kernel
theorem dX5_init_30 : decode cX5_init 30 = .ok (.newarray .int, 2) := by decide +kernel
theorem dX5_init_32 : decode cX5_init 32 = .ok (.putfield 19, 3) := by decide +kernel
theorem dX5_init_35 : decode cX5_init 35 = .ok (.aload_n 0, 1) := by decide +kernel
theorem dX5_init_36 : decode cX5_init 36 = .ok (.bipush 8, 2) := by decide +kernel
theorem dX5_init_38 : decode cX5_init 38 = .ok (.newarray .int, 2) := by decide +kernel
theorem dX5_init_40 : decode cX5_init 40 = .ok (.putfield 22, 3) := by decide +kernel
theorem dX5_init_43 : decode cX5_init 43 = .ok (.aload_n 0, 1) := by decide +kernel
theorem dX5_init_44 : decode cX5_init 44 = .ok (.bipush 8, 2) := by decide +kernel
theorem dX5_init_46 : decode cX5_init 46 = .ok (.newarray .int, 2) := by decide +kernel
theorem dX5_init_48 : decode cX5_init 48 = .ok (.putfield 25, 3) := by decide +kernel
theorem dX5_init_51 : decode cX5_init 51 = .ok (.aload_n 0, 1) := by decide +kernel
theorem dX5_init_52 : decode cX5_init 52 = .ok (.bipush 8, 2) := by decide +kernel
theorem dX5_init_54 : decode cX5_init 54 = .ok (.newarray .int, 2) := by decide +kernel
theorem dX5_init_56 : decode cX5_init 56 = .ok (.putfield 28, 3) := by decide +kernel
theorem dX5_init_59 : decode cX5_init 59 = .ok (.aload_n 0, 1) := by decide +kernel
theorem dX5_init_60 : decode cX5_init 60 = .ok (.iconst 2, 1) := by decide +kernel
theorem dX5_init_61 : decode cX5_init 61 = .ok (.newarray .int, 2) := by decide +kernel
theorem dX5_init_63 : decode cX5_init 63 = .ok (.putfield 31, 3) := by decide +kernel
theorem dX5_init_66 : decode cX5_init 66 = .ok (.aload_n 0, 1) := by decide +kernel
theorem dX5_init_67 : decode cX5_init 67 = .ok (.bipush 100, 2) := by decide +kernel
theorem dX5_init_69 : decode cX5_init 69 = .ok (.putfield 34, 3) := by decide +kernel
theorem dX5_init_72 : decode cX5_init 72 = .ok (.aload_n 0, 1) := by decide +kernel
theorem dX5_init_73 : decode cX5_init 73 = .ok (.iconst (-1), 1) := by decide +kernel
theorem dX5_init_74 : decode cX5_init 74 = .ok (.putfield 38, 3) := by decide +kernel
theorem dX5_init_77 : decode cX5_init 77 = .ok (.aload_n 0, 1) := by decide +kernel
theorem dX5_init_78 : decode cX5_init 78 = .ok (.iconst 2, 1) := by decide +kernel
theorem dX5_init_79 : decode cX5_init 79 = .ok (.newarray .int, 2) := by decide +kernel
theorem dX5_init_81 : decode cX5_init 81 = .ok (.putfield 41, 3) := by decide +kernel
theorem dX5_init_84 : decode cX5_init 84 = .ok (.aload_n 0, 1) := by decide +kernel
theorem dX5_init_85 : decode cX5_init 85 = .ok (.iconst 2, 1) := by decide +kernel
theorem dX5_init_86 : decode cX5_init 86 = .ok (.newarray .int, 2) := by decide +kernel
theorem dX5_init_88 : decode cX5_init 88 = .ok (.putfield 44, 3) := by decide +kernel
theorem dX5_init_91 : decode cX5_init 91 = .ok (.aload_n 0, 1) := by decide +kernel
theorem dX5_init_92 : decode cX5_init 92 = .ok (.bipush 8, 2) := by decide +kernel
theorem dX5_init_94 : decode cX5_init 94 = .ok (.newarray .int, 2) := by decide +kernel
theorem dX5_init_96 : decode cX5_init 96 = .ok (.putfield 47, 3) := by decide +kernel
theorem dX5_init_99 : decode cX5_init 99 = .ok (.aload_n 0, 1) := by decide +kernel
theorem dX5_init_100 : decode cX5_init 100 = .ok (.iconst 2, 1) := by decide +kernel
theorem dX5_init_101 : decode cX5_init 101 = .ok (.newarray .boolean, 2) := by decide +kernel
theorem dX5_init_103 : decode cX5_init 103 = .ok (.putfield 50, 3) := by decide +kernel
theorem dX5_init_106 : decode cX5_init 106 = .ok (.aload_n 0, 1) := by decide +kernel
theorem dX5_init_107 : decode cX5_init 107 = .ok (.bipush 8, 2) := by decide +kernel
theorem dX5_init_109 : decode cX5_init 109 = .ok (.newarray .int, 2) := by decide +kernel
theorem dX5_init_111 : decode cX5_init 111 = .ok (.putfield 54, 3) := by decide +kernel
theorem dX5_init_114 : decode cX5_init 114 = .ok (.aload_n 0, 1) := by decide +kernel
theorem dX5_init_115 : decode cX5_init 115 = .ok (.bipush 8, 2) := by decide +kernel
theorem dX5_init_117 : decode cX5_init 117 = .ok (.newarray .int, 2) := by decide +kernel
theorem dX5_init_119 : decode cX5_init 119 = .ok (.putfield 57, 3) := by decide +kernel
theorem dX5_init_122 : decode cX5_init 122 = .ok (.aload_n 0, 1) := by decide +kernel
theorem dX5_init_123 : decode cX5_init 123 = .ok (.iconst 2, 1) := by decide +kernel
theorem dX5_init_124 : decode cX5_init 124 = .ok (.newarray .int, 2) := by decide +kernel
theorem dX5_init_126 : decode cX5_init 126 = .ok (.putfield 60, 3) := by decide +kernel
theorem dX5_init_129 : decode cX5_init 129 = .ok (.aload_n 0, 1) := by decide +kernel
theorem dX5_init_130 : decode cX5_init 130 = .ok (.iconst 2, 1) := by decide +kernel
theorem dX5_init_131 : decode cX5_init 131 = .ok (.newarray .int, 2) := by decide +kernel
theorem dX5_init_133 : decode cX5_init 133 = .ok (.putfield 63, 3) := by decide +kernel
theorem dX5_init_136 : decode cX5_init 136 = .ok (.aload_n 0, 1) := by decide +kernel
theorem dX5_init_137 : decode cX5_init 137 = .ok (.iconst 2, 1) := by decide +kernel
theorem dX5_init_138 : decode cX5_init 138 = .ok (.newarray .int, 2) := by decide +kernel
theorem dX5_init_140 : decode cX5_init 140 = .ok (.putfield 66, 3) := by decide +kernel
theorem dX5_init_143 : decode cX5_init 143 = .ok (.aload_n 0, 1) := by decide +kernel
theorem dX5_init_144 : decode cX5_init 144 = .ok (.bipush 100, 2) := by decide +kernel
theorem dX5_init_146 : decode cX5_init 146 = .ok (.newarray .int, 2) := by decide +kernel
theorem dX5_init_148 : decode cX5_init 148 = .ok (.putfield 69, 3) := by decide +kernel
theorem dX5_init_151 : decode cX5_init 151 = .ok (.aload_n 0, 1) := by decide +kernel
theorem dX5_init_152 : decode cX5_init 152 = .ok (.bipush 100, 2) := by decide +kernel
theorem dX5_init_154 : decode cX5_init 154 = .ok (.newarray .int, 2) := by decide +kernel
theorem dX5_init_156 : decode cX5_init 156 = .ok (.putfield 72, 3) := by decide +kernel
theorem dX5_init_159 : decode cX5_init 159 = .ok (.aload_n 0, 1) := by decide +kernel
theorem dX5_init_160 : decode cX5_init 160 = .ok (.sipush 2500, 3) := by decide +kernel
theorem dX5_init_163 : decode cX5_init 163 = .ok (.newarray .boolean, 2) := by decide +kernel
theorem dX5_init_165 : decode cX5_init 165 = .ok (.putfield 75, 3) := by decide +kernel
theorem dX5_init_168 : decode cX5_init 168 = .ok (.aload_n 0, 1) := by decide +kernel
theorem dX5_init_169 : decode cX5_init 169 = .ok (.sipush 2500, 3) := by decide +kernel
theorem dX5_init_172 : decode cX5_init 172 = .ok (.newarray .int, 2) := by decide +kernel
theorem dX5_init_174 : decode cX5_init 174 = .ok (.putfield 78, 3) := by decide +kernel
theorem dX5_init_177 : decode cX5_init 177 = .ok (.return_, 1) := by decide +kernel
theorem dX5_in_0 : decode cX5_in 0 = .ok (.iload_n 0, 1) := by decide +kernel
theorem dX5_in_1 : decode cX5_in 1 = .ok (.iload_n 1, 1) := by decide +kernel
theorem dX5_in_2 : decode cX5_in 2 = .ok (.if_icmp .lt 12, 3) := by decide +kernel
theorem dX5_in_5 : decode cX5_in 5 = .ok (.iload_n 0, 1) := by decide +kernel
theorem dX5_in_6 : decode cX5_in 6 = .ok (.iload_n 2, 1) := by decide +kernel
theorem dX5_in_7 : decode cX5_in 7 = .ok (.if_icmp .gt 7, 3) := by decide +kernel
theorem dX5_in_10 : decode cX5_in 10 = .ok (.iconst 1, 1) := by decide +kernel
theorem dX5_in_11 : decode cX5_in 11 = .ok (.goto 4, 3) := by decide +kernel
theorem dX5_in_14 : decode cX5_in 14 = .ok (.iconst 0, 1) := by decide +kernel
theorem dX5_in_15 : decode cX5_in 15 = .ok (.ireturn, 1) := by decide +kernel
theorem dX5_isTable_0 : decode cX5_isTable 0 = .ok (.iload_n 0, 1) := by decide +kernel
theorem dX5_isTable_1 : decode cX5_isTable 1 = .ok (.iconst 0, 1) := by decide +kernel
theorem dX5_isTable_2 : decode cX5_isTable 2 = .ok (.iconst 1, 1) := by decide +kernel
theorem dX5_isTable_3 : decode cX5_isTable 3 = .ok (.invokestatic 81, 3) := by decide +kernel
theorem dX5_isTable_6 : decode cX5_isTable 6 = .ok (.ireturn, 1) := by decide +kernel
theorem dX5_cell_0 : decode cX5_cell 0 = .ok (.aload_n 0, 1) := by decide +kernel
theorem dX5_cell_1 : decode cX5_cell 1 = .ok (.getfield 13, 3) := by decide +kernel
theorem dX5_cell_4 : decode cX5_cell 4 = .ok (.iconst 3, 1) := by decide +kernel
theorem dX5_cell_5 : decode cX5_cell 5 = .ok (.bipush 50, 2) := by decide +kernel
theorem dX5_cell_7 : decode cX5_cell 7 = .ok (.iload_n 1, 1) := by decide +kernel
theorem dX5_cell_8 : decode cX5_cell 8 = .ok (.imul, 1) := by decide +kernel
theorem dX5_cell_9 : decode cX5_cell 9 = .ok (.iload_n 2, 1) := by decide +kernel
theorem dX5_cell_10 : decode cX5_cell 10 = .ok (.iadd, 1) := by decide +kernel
theorem dX5_cell_11 : decode cX5_cell 11 = .ok (.imul, 1) := by decide +kernel
theorem dX5_cell_12 : decode cX5_cell 12 = .ok (.iload_n 3, 1) := by decide +kernel
theorem dX5_cell_13 : decode cX5_cell 13 = .ok (.iadd, 1) := by decide +kernel
theorem dX5_cell_14 : decode cX5_cell 14 = .ok (.iaload, 1) := by decide +kernel
theorem dX5_cell_15 : decode cX5_cell 15 = .ok (.ireturn, 1) := by decide +kernel
theorem dX5_row_0 : decode cX5_row 0 = .ok (.iload_n 1, 1) := by decide +kernel
theorem dX5_row_1 : decode cX5_row 1 = .ok (.invokestatic 85, 3) := by decide +kernel
theorem dX5_row_4 : decode cX5_row 4 = .ok (.ifCond .eq 53, 3) := by decide +kernel
theorem dX5_row_7 : decode cX5_row 7 = .ok (.iload_n 2, 1) := by decide +kernel
theorem dX5_row_8 : decode cX5_row 8 = .ok (.iconst 0, 1) := by decide +kernel
theorem dX5_row_9 : decode cX5_row 9 = .ok (.bipush 99, 2) := by decide +kernel
theorem dX5_row_11 : decode cX5_row 11 = .ok (.invokestatic 81, 3) := by decide +kernel
theorem dX5_row_14 : decode cX5_row 14 = .ok (.ifCond .eq 43, 3) := by decide +kernel
theorem dX5_row_17 : decode cX5_row 17 = .ok (.iload_n 3, 1) := by decide +kernel
theorem dX5_row_18 : decode cX5_row 18 = .ok (.iconst 0, 1) := by decide +kernel
theorem dX5_row_19 : decode cX5_row 19 = .ok (.bipush 99, 2) := by decide +kernel
theorem dX5_row_21 : decode cX5_row 21 = .ok (.invokestatic 81, 3) := by decide +kernel
theorem dX5_row_24 : decode cX5_row 24 = .ok (.ifCond .eq 33, 3) := by decide +kernel
theorem dX5_row_27 : decode cX5_row 27 = .ok (.iload 4, 2) := by decide +kernel
theorem dX5_row_29 : decode cX5_row 29 = .ok (.iconst 0, 1) := by decide +kernel
theorem dX5_row_30 : decode cX5_row 30 = .ok (.bipush 99, 2) := by decide +kernel
theorem dX5_row_32 : decode cX5_row 32 = .ok (.invokestatic 81, 3) := by decide +kernel
theorem dX5_row_35 : decode cX5_row 35 = .ok (.ifCond .eq 22, 3) := by decide +kernel
theorem dX5_row_38 : decode cX5_row 38 = .ok (.aload_n 0, 1) := by decide +kernel
theorem dX5_row_39 : decode cX5_row 39 = .ok (.getfield 7, 3) := by decide +kernel
theorem dX5_row_42 : decode cX5_row 42 = .ok (.iload_n 1, 1) := by decide +kernel
theorem dX5_row_43 : decode cX5_row 43 = .ok (.iaload, 1) := by decide +kernel
theorem dX5_row_44 : decode cX5_row 44 = .ok (.bipush 50, 2) := by decide +kernel
theorem dX5_row_46 : decode cX5_row 46 = .ok (.if_icmp .eq 11, 3) := by decide +kernel
theorem dX5_row_49 : decode cX5_row 49 = .ok (.aload_n 0, 1) := by decide +kernel
theorem dX5_row_50 : decode cX5_row 50 = .ok (.getfield 89, 3) := by decide +kernel
theorem dX5_row_53 : decode cX5_row 53 = .ok (.iconst 1, 1) := by decide +kernel
theorem dX5_row_54 : decode cX5_row 54 = .ok (.if_icmp .ne 5, 3) := by decide +kernel
theorem dX5_row_57 : decode cX5_row 57 = .ok (.iconst (-1), 1) := by decide +kernel
theorem dX5_row_58 : decode cX5_row 58 = .ok (.ireturn, 1) := by decide +kernel
theorem dX5_row_59 : decode cX5_row 59 = .ok (.iconst 3, 1) := by decide +kernel
theorem dX5_row_60 : decode cX5_row 60 = .ok (.bipush 50, 2) := by decide +kernel
theorem dX5_row_62 : decode cX5_row 62 = .ok (.iload_n 1, 1) := by decide +kernel
theorem dX5_row_63 : decode cX5_row 63 = .ok (.imul, 1) := by decide +kernel
theorem dX5_row_64 : decode cX5_row 64 = .ok (.aload_n 0, 1) := by decide +kernel
theorem dX5_row_65 : decode cX5_row 65 = .ok (.getfield 7, 3) := by decide +kernel
theorem dX5_row_68 : decode cX5_row 68 = .ok (.iload_n 1, 1) := by decide +kernel
theorem dX5_row_69 : decode cX5_row 69 = .ok (.iaload, 1) := by decide +kernel
theorem dX5_row_70 : decode cX5_row 70 = .ok (.iadd, 1) := by decide +kernel
theorem dX5_row_71 : decode cX5_row 71 = .ok (.imul, 1) := by decide +kernel
theorem dX5_row_72 : decode cX5_row 72 = .ok (.istore 5, 2) := by decide +kernel
theorem dX5_row_74 : decode cX5_row 74 = .ok (.aload_n 0, 1) := by decide +kernel
theorem dX5_row_75 : decode cX5_row 75 = .ok (.getfield 13, 3) := by decide +kernel
theorem dX5_row_78 : decode cX5_row 78 = .ok (.iload 5, 2) := by decide +kernel
theorem dX5_row_80 : decode cX5_row 80 = .ok (.iload_n 2, 1) := by decide +kernel
theorem dX5_row_81 : decode cX5_row 81 = .ok (.iastore, 1) := by decide +kernel
theorem dX5_row_82 : decode cX5_row 82 = .ok (.aload_n 0, 1) := by decide +kernel
theorem dX5_row_83 : decode cX5_row 83 = .ok (.getfield 13, 3) := by decide +kernel
theorem dX5_row_86 : decode cX5_row 86 = .ok (.iload 5, 2) := by decide +kernel
theorem dX5_row_88 : decode cX5_row 88 = .ok (.iconst 1, 1) := by decide +kernel
theorem dX5_row_89 : decode cX5_row 89 = .ok (.iadd, 1) := by decide +kernel
theorem dX5_row_90 : decode cX5_row 90 = .ok (.iload_n 3, 1) := by decide +kernel
theorem dX5_row_91 : decode cX5_row 91 = .ok (.iastore, 1) := by decide +kernel
theorem dX5_row_92 : decode cX5_row 92 = .ok (.aload_n 0, 1) := by decide +kernel
theorem dX5_row_93 : decode cX5_row 93 = .ok (.getfield 13, 3) := by decide +kernel
theorem dX5_row_96 : decode cX5_row 96 = .ok (.iload 5, 2) := by decide +kernel
theorem dX5_row_98 : decode cX5_row 98 = .ok (.iconst 2, 1) := by decide +kernel
theorem dX5_row_99 : decode cX5_row 99 = .ok (.iadd, 1) := by decide +kernel
theorem dX5_row_100 : decode cX5_row 100 = .ok (.iload 4, 2) := by decide +kernel
theorem dX5_row_102 : decode cX5_row 102 = .ok (.iastore, 1) := by decide +kernel
theorem dX5_row_103 : decode cX5_row 103 = .ok (.aload_n 0, 1) := by decide +kernel
theorem dX5_row_104 : decode cX5_row 104 = .ok (.getfield 7, 3) := by decide +kernel
theorem dX5_row_107 : decode cX5_row 107 = .ok (.iload_n 1, 1) := by decide +kernel
theorem dX5_row_108 : decode cX5_row 108 = .ok (.dup2, 1) := by decide +kernel
theorem dX5_row_109 : decode cX5_row 109 = .ok (.iaload, 1) := by decide +kernel
theorem dX5_row_110 : decode cX5_row 110 = .ok (.iconst 1, 1) := by decide +kernel
theorem dX5_row_111 : decode cX5_row 111 = .ok (.iadd, 1) := by decide +kernel
theorem dX5_row_112 : decode cX5_row 112 = .ok (.iastore, 1) := by decide +kernel
theorem dX5_row_113 : decode cX5_row 113 = .ok (.aload_n 0, 1) := by decide +kernel
theorem dX5_row_114 : decode cX5_row 114 = .ok (.getfield 7, 3) := by decide +kernel
theorem dX5_row_117 : decode cX5_row 117 = .ok (.iload_n 1, 1) := by decide +kernel
theorem dX5_row_118 : decode cX5_row 118 = .ok (.iaload, 1) := by decide +kernel
theorem dX5_row_119 : decode cX5_row 119 = .ok (.iconst 1, 1) := by decide +kernel
theorem dX5_row_120 : decode cX5_row 120 = .ok (.isub, 1) := by decide +kernel
theorem dX5_row_121 : decode cX5_row 121 = .ok (.ireturn, 1) := by decide +kernel
theorem dX5_test_0 : decode cX5_test 0 = .ok (.iload_n 1, 1) := by decide +kernel
theorem dX5_test_1 : decode cX5_test 1 = .ok (.invokestatic 85, 3) := by decide +kernel
theorem dX5_test_4 : decode cX5_test 4 = .ok (.ifCond .eq 55, 3) := by decide +kernel
theorem dX5_test_7 : decode cX5_test 7 = .ok (.iload_n 2, 1) := by decide +kernel
theorem dX5_test_8 : decode cX5_test 8 = .ok (.ifCond .lt 51, 3) := by decide +kernel
theorem dX5_test_11 : decode cX5_test 11 = .ok (.iload_n 2, 1) := by decide +kernel
theorem dX5_test_12 : decode cX5_test 12 = .ok (.sipush 1000, 3) := by decide +kernel
theorem dX5_test_15 : decode cX5_test 15 = .ok (.idiv, 1) := by decide +kernel
theorem dX5_test_16 : decode cX5_test 16 = .ok (.iconst 3, 1) := by decide +kernel
theorem dX5_test_17 : decode cX5_test 17 = .ok (.if_icmp .ge 42, 3) := by decide +kernel
theorem dX5_test_20 : decode cX5_test 20 = .ok (.iload_n 2, 1) := by decide +kernel
theorem dX5_test_21 : decode cX5_test 21 = .ok (.bipush 100, 2) := by decide +kernel
theorem dX5_test_23 : decode cX5_test 23 = .ok (.idiv, 1) := by decide +kernel
theorem dX5_test_24 : decode cX5_test 24 = .ok (.bipush 10, 2) := by decide +kernel
theorem dX5_test_26 : decode cX5_test 26 = .ok (.irem, 1) := by decide +kernel
theorem dX5_test_27 : decode cX5_test 27 = .ok (.iconst 2, 1) := by decide +kernel
theorem dX5_test_28 : decode cX5_test 28 = .ok (.if_icmp .gt 31, 3) := by decide +kernel
theorem dX5_test_31 : decode cX5_test 31 = .ok (.iload_n 3, 1) := by decide +kernel
theorem dX5_test_32 : decode cX5_test 32 = .ok (.iconst 1, 1) := by decide +kernel
theorem dX5_test_33 : decode cX5_test 33 = .ok (.bipush 50, 2) := by decide +kernel
theorem dX5_test_35 : decode cX5_test 35 = .ok (.invokestatic 81, 3) := by decide +kernel
theorem dX5_test_38 : decode cX5_test 38 = .ok (.ifCond .eq 21, 3) := by decide +kernel
theorem dX5_test_41 : decode cX5_test 41 = .ok (.aload_n 0, 1) := by decide +kernel
theorem dX5_test_42 : decode cX5_test 42 = .ok (.getfield 16, 3) := by decide +kernel
theorem dX5_test_45 : decode cX5_test 45 = .ok (.iload_n 1, 1) := by decide +kernel
theorem dX5_test_46 : decode cX5_test 46 = .ok (.iaload, 1) := by decide +kernel
theorem dX5_test_47 : decode cX5_test 47 = .ok (.iconst 4, 1) := by decide +kernel
theorem dX5_test_48 : decode cX5_test 48 = .ok (.if_icmp .eq 11, 3) := by decide +kernel
theorem dX5_test_51 : decode cX5_test 51 = .ok (.aload_n 0, 1) := by decide +kernel
theorem dX5_test_52 : decode cX5_test 52 = .ok (.getfield 89, 3) := by decide +kernel
theorem dX5_test_55 : decode cX5_test 55 = .ok (.iconst 1, 1) := by decide +kernel
theorem dX5_test_56 : decode cX5_test 56 = .ok (.if_icmp .ne 5, 3) := by decide +kernel
theorem dX5_test_59 : decode cX5_test 59 = .ok (.iconst (-1), 1) := by decide +kernel
theorem dX5_test_60 : decode cX5_test 60 = .ok (.ireturn, 1) := by decide +kernel
theorem dX5_test_61 : decode cX5_test 61 = .ok (.iconst 4, 1) := by decide +kernel
theorem dX5_test_62 : decode cX5_test 62 = .ok (.iload_n 1, 1) := by decide +kernel
theorem dX5_test_63 : decode cX5_test 63 = .ok (.imul, 1) := by decide +kernel
theorem dX5_test_64 : decode cX5_test 64 = .ok (.aload_n 0, 1) := by decide +kernel
theorem dX5_test_65 : decode cX5_test 65 = .ok (.getfield 16, 3) := by decide +kernel
theorem dX5_test_68 : decode cX5_test 68 = .ok (.iload_n 1, 1) := by decide +kernel
theorem dX5_test_69 : decode cX5_test 69 = .ok (.iaload, 1) := by decide +kernel
theorem dX5_test_70 : decode cX5_test 70 = .ok (.iadd, 1) := by decide +kernel
theorem dX5_test_71 : decode cX5_test 71 = .ok (.istore 4, 2) := by decide +kernel
theorem dX5_test_73 : decode cX5_test 73 = .ok (.aload_n 0, 1) := by decide +kernel
theorem dX5_test_74 : decode cX5_test 74 = .ok (.getfield 19, 3) := by decide +kernel
theorem dX5_test_77 : decode cX5_test 77 = .ok (.iload 4, 2) := by decide +kernel
theorem dX5_test_79 : decode cX5_test 79 = .ok (.iload_n 2, 1) := by decide +kernel
theorem dX5_test_80 : decode cX5_test 80 = .ok (.sipush 1000, 3) := by decide +kernel
theorem dX5_test_83 : decode cX5_test 83 = .ok (.idiv, 1) := by decide +kernel
theorem dX5_test_84 : decode cX5_test 84 = .ok (.iastore, 1) := by decide +kernel
theorem dX5_test_85 : decode cX5_test 85 = .ok (.aload_n 0, 1) := by decide +kernel
theorem dX5_test_86 : decode cX5_test 86 = .ok (.getfield 22, 3) := by decide +kernel
theorem dX5_test_89 : decode cX5_test 89 = .ok (.iload 4, 2) := by decide +kernel
theorem dX5_test_91 : decode cX5_test 91 = .ok (.iload_n 2, 1) := by decide +kernel
theorem dX5_test_92 : decode cX5_test 92 = .ok (.bipush 100, 2) := by decide +kernel
theorem dX5_test_94 : decode cX5_test 94 = .ok (.idiv, 1) := by decide +kernel
theorem dX5_test_95 : decode cX5_test 95 = .ok (.bipush 10, 2) := by decide +kernel
theorem dX5_test_97 : decode cX5_test 97 = .ok (.irem, 1) := by decide +kernel
theorem dX5_test_98 : decode cX5_test 98 = .ok (.iastore, 1) := by decide +kernel
theorem dX5_test_99 : decode cX5_test 99 = .ok (.aload_n 0, 1) := by decide +kernel
theorem dX5_test_100 : decode cX5_test 100 = .ok (.getfield 25, 3) := by decide +kernel
theorem dX5_test_103 : decode cX5_test 103 = .ok (.iload 4, 2) := by decide +kernel
theorem dX5_test_105 : decode cX5_test 105 = .ok (.iload_n 2, 1) := by decide +kernel
theorem dX5_test_106 : decode cX5_test 106 = .ok (.bipush 100, 2) := by decide +kernel
theorem dX5_test_108 : decode cX5_test 108 = .ok (.irem, 1) := by decide +kernel
theorem dX5_test_109 : decode cX5_test 109 = .ok (.iastore, 1) := by decide +kernel
theorem dX5_test_110 : decode cX5_test 110 = .ok (.aload_n 0, 1) := by decide +kernel
theorem dX5_test_111 : decode cX5_test 111 = .ok (.getfield 28, 3) := by decide +kernel
theorem dX5_test_114 : decode cX5_test 114 = .ok (.iload 4, 2) := by decide +kernel
theorem dX5_test_116 : decode cX5_test 116 = .ok (.iload_n 3, 1) := by decide +kernel
theorem dX5_test_117 : decode cX5_test 117 = .ok (.iastore, 1) := by decide +kernel
theorem dX5_test_118 : decode cX5_test 118 = .ok (.aload_n 0, 1) := by decide +kernel
theorem dX5_test_119 : decode cX5_test 119 = .ok (.getfield 16, 3) := by decide +kernel
theorem dX5_test_122 : decode cX5_test 122 = .ok (.iload_n 1, 1) := by decide +kernel
theorem dX5_test_123 : decode cX5_test 123 = .ok (.dup2, 1) := by decide +kernel
theorem dX5_test_124 : decode cX5_test 124 = .ok (.iaload, 1) := by decide +kernel
theorem dX5_test_125 : decode cX5_test 125 = .ok (.iconst 1, 1) := by decide +kernel
theorem dX5_test_126 : decode cX5_test 126 = .ok (.iadd, 1) := by decide +kernel
theorem dX5_test_127 : decode cX5_test 127 = .ok (.iastore, 1) := by decide +kernel
theorem dX5_test_128 : decode cX5_test 128 = .ok (.aload_n 0, 1) := by decide +kernel
theorem dX5_test_129 : decode cX5_test 129 = .ok (.getfield 16, 3) := by decide +kernel
theorem dX5_test_132 : decode cX5_test 132 = .ok (.iload_n 1, 1) := by decide +kernel
theorem dX5_test_133 : decode cX5_test 133 = .ok (.iaload, 1) := by decide +kernel
theorem dX5_test_134 : decode cX5_test 134 = .ok (.iconst 1, 1) := by decide +kernel
theorem dX5_test_135 : decode cX5_test 135 = .ok (.isub, 1) := by decide +kernel
theorem dX5_test_136 : decode cX5_test 136 = .ok (.ireturn, 1) := by decide +kernel
theorem dX5_join_0 : decode cX5_join 0 = .ok (.iload_n 1, 1) := by decide +kernel
theorem dX5_join_1 : decode cX5_join 1 = .ok (.iconst 0, 1) := by decide +kernel
theorem dX5_join_2 : decode cX5_join 2 = .ok (.iconst 2, 1) := by decide +kernel
theorem dX5_join_3 : decode cX5_join 3 = .ok (.invokestatic 81, 3) := by decide +kernel
theorem dX5_join_6 : decode cX5_join 6 = .ok (.ifCond .eq 20, 3) := by decide +kernel
theorem dX5_join_9 : decode cX5_join 9 = .ok (.iload_n 2, 1) := by decide +kernel
theorem dX5_join_10 : decode cX5_join 10 = .ok (.iconst 0, 1) := by decide +kernel
theorem dX5_join_11 : decode cX5_join 11 = .ok (.iconst 2, 1) := by decide +kernel
theorem dX5_join_12 : decode cX5_join 12 = .ok (.invokestatic 81, 3) := by decide +kernel
theorem dX5_join_15 : decode cX5_join 15 = .ok (.ifCond .eq 11, 3) := by decide +kernel
theorem dX5_join_18 : decode cX5_join 18 = .ok (.aload_n 0, 1) := by decide +kernel
theorem dX5_join_19 : decode cX5_join 19 = .ok (.getfield 89, 3) := by decide +kernel
theorem dX5_join_22 : decode cX5_join 22 = .ok (.iconst 1, 1) := by decide +kernel
theorem dX5_join_23 : decode cX5_join 23 = .ok (.if_icmp .ne 5, 3) := by decide +kernel
theorem dX5_join_26 : decode cX5_join 26 = .ok (.iconst 0, 1) := by decide +kernel
theorem dX5_join_27 : decode cX5_join 27 = .ok (.ireturn, 1) := by decide +kernel
theorem dX5_join_28 : decode cX5_join 28 = .ok (.aload_n 0, 1) := by decide +kernel
theorem dX5_join_29 : decode cX5_join 29 = .ok (.getfield 31, 3) := by decide +kernel
theorem dX5_join_32 : decode cX5_join 32 = .ok (.iconst 0, 1) := by decide +kernel
theorem dX5_join_33 : decode cX5_join 33 = .ok (.iload_n 1, 1) := by decide +kernel
theorem dX5_join_34 : decode cX5_join 34 = .ok (.iastore, 1) := by decide +kernel
theorem dX5_join_35 : decode cX5_join 35 = .ok (.aload_n 0, 1) := by decide +kernel
theorem dX5_join_36 : decode cX5_join 36 = .ok (.getfield 31, 3) := by decide +kernel
theorem dX5_join_39 : decode cX5_join 39 = .ok (.iconst 1, 1) := by decide +kernel
theorem dX5_join_40 : decode cX5_join 40 = .ok (.iload_n 2, 1) := by decide +kernel
theorem dX5_join_41 : decode cX5_join 41 = .ok (.iastore, 1) := by decide +kernel
theorem dX5_join_42 : decode cX5_join 42 = .ok (.iconst 1, 1) := by decide +kernel
theorem dX5_join_43 : decode cX5_join 43 = .ok (.ireturn, 1) := by decide +kernel
theorem dX5_passes_0 : decode cX5_passes 0 = .ok (.iconst 4, 1) := by decide +kernel
theorem dX5_passes_1 : decode cX5_passes 1 = .ok (.iload_n 1, 1) := by decide +kernel
theorem dX5_passes_2 : decode cX5_passes 2 = .ok (.imul, 1) := by decide +kernel
theorem dX5_passes_3 : decode cX5_passes 3 = .ok (.iload_n 3, 1) := by decide +kernel
theorem dX5_passes_4 : decode cX5_passes 4 = .ok (.iadd, 1) := by decide +kernel
theorem dX5_passes_5 : decode cX5_passes 5 = .ok (.istore 4, 2) := by decide +kernel
theorem dX5_passes_7 : decode cX5_passes 7 = .ok (.aload_n 0, 1) := by decide +kernel
theorem dX5_passes_8 : decode cX5_passes 8 = .ok (.iload_n 1, 1) := by decide +kernel
theorem dX5_passes_9 : decode cX5_passes 9 = .ok (.iload_n 2, 1) := by decide +kernel
theorem dX5_passes_10 : decode cX5_passes 10 = .ok (.aload_n 0, 1) := by decide +kernel
theorem dX5_passes_11 : decode cX5_passes 11 = .ok (.getfield 19, 3) := by decide +kernel
theorem dX5_passes_14 : decode cX5_passes 14 = .ok (.iload 4, 2) := by decide +kernel
theorem dX5_passes_16 : decode cX5_passes 16 = .ok (.iaload, 1) := by decide +kernel
theorem dX5_passes_17 : decode cX5_passes 17 = .ok (.invokevirtual 92, 3) := by decide +kernel
theorem dX5_passes_20 : decode cX5_passes 20 = .ok (.istore 5, 2) := by decide +kernel
theorem dX5_passes_22 : decode cX5_passes 22 = .ok (.aload_n 0, 1) := by decide +kernel
theorem dX5_passes_23 : decode cX5_passes 23 = .ok (.getfield 22, 3) := by decide +kernel
theorem dX5_passes_26 : decode cX5_passes 26 = .ok (.iload 4, 2) := by decide +kernel
theorem dX5_passes_28 : decode cX5_passes 28 = .ok (.iaload, 1) := by decide +kernel
theorem dX5_passes_29 : decode cX5_passes 29 = .ok (.ifCond .ne 23, 3) := by decide +kernel
theorem dX5_passes_32 : decode cX5_passes 32 = .ok (.iload 5, 2) := by decide +kernel
theorem dX5_passes_34 : decode cX5_passes 34 = .ok (.aload_n 0, 1) := by decide +kernel
theorem dX5_passes_35 : decode cX5_passes 35 = .ok (.getfield 25, 3) := by decide +kernel
theorem dX5_passes_38 : decode cX5_passes 38 = .ok (.iload 4, 2) := by decide +kernel
theorem dX5_passes_40 : decode cX5_passes 40 = .ok (.iaload, 1) := by decide +kernel
theorem dX5_passes_41 : decode cX5_passes 41 = .ok (.if_icmp .ge 7, 3) := by decide +kernel
theorem dX5_passes_44 : decode cX5_passes 44 = .ok (.iconst 1, 1) := by decide +kernel
theorem dX5_passes_45 : decode cX5_passes 45 = .ok (.goto 55, 3) := by decide +kernel
theorem dX5_passes_48 : decode cX5_passes 48 = .ok (.iconst 0, 1) := by decide +kernel
theorem dX5_passes_49 : decode cX5_passes 49 = .ok (.goto 51, 3) := by decide +kernel
theorem dX5_passes_52 : decode cX5_passes 52 = .ok (.aload_n 0, 1) := by decide +kernel
theorem dX5_passes_53 : decode cX5_passes 53 = .ok (.getfield 22, 3) := by decide +kernel
theorem dX5_passes_56 : decode cX5_passes 56 = .ok (.iload 4, 2) := by decide +kernel
theorem dX5_passes_58 : decode cX5_passes 58 = .ok (.iaload, 1) := by decide +kernel
theorem dX5_passes_59 : decode cX5_passes 59 = .ok (.iconst 1, 1) := by decide +kernel
theorem dX5_passes_60 : decode cX5_passes 60 = .ok (.if_icmp .ne 23, 3) := by decide +kernel
theorem dX5_passes_63 : decode cX5_passes 63 = .ok (.iload 5, 2) := by decide +kernel
theorem dX5_passes_65 : decode cX5_passes 65 = .ok (.aload_n 0, 1) := by decide +kernel
theorem dX5_passes_66 : decode cX5_passes 66 = .ok (.getfield 25, 3) := by decide +kernel
theorem dX5_passes_69 : decode cX5_passes 69 = .ok (.iload 4, 2) := by decide +kernel
theorem dX5_passes_71 : decode cX5_passes 71 = .ok (.iaload, 1) := by decide +kernel
theorem dX5_passes_72 : decode cX5_passes 72 = .ok (.if_icmp .ne 7, 3) := by decide +kernel
theorem dX5_passes_75 : decode cX5_passes 75 = .ok (.iconst 1, 1) := by decide +kernel
theorem dX5_passes_76 : decode cX5_passes 76 = .ok (.goto 24, 3) := by decide +kernel
theorem dX5_passes_79 : decode cX5_passes 79 = .ok (.iconst 0, 1) := by decide +kernel
theorem dX5_passes_80 : decode cX5_passes 80 = .ok (.goto 20, 3) := by decide +kernel
theorem dX5_passes_83 : decode cX5_passes 83 = .ok (.iload 5, 2) := by decide +kernel
theorem dX5_passes_85 : decode cX5_passes 85 = .ok (.aload_n 0, 1) := by decide +kernel
theorem dX5_passes_86 : decode cX5_passes 86 = .ok (.getfield 25, 3) := by decide +kernel
theorem dX5_passes_89 : decode cX5_passes 89 = .ok (.iload 4, 2) := by decide +kernel
theorem dX5_passes_91 : decode cX5_passes 91 = .ok (.iaload, 1) := by decide +kernel
theorem dX5_passes_92 : decode cX5_passes 92 = .ok (.if_icmp .le 7, 3) := by decide +kernel
theorem dX5_passes_95 : decode cX5_passes 95 = .ok (.iconst 1, 1) := by decide +kernel
theorem dX5_passes_96 : decode cX5_passes 96 = .ok (.goto 4, 3) := by decide +kernel
theorem dX5_passes_99 : decode cX5_passes 99 = .ok (.iconst 0, 1) := by decide +kernel
theorem dX5_passes_100 : decode cX5_passes 100 = .ok (.ireturn, 1) := by decide +kernel
theorem dX5_isAlike_0 : decode cX5_isAlike 0 = .ok (.aload_n 0, 1) := by decide +kernel
theorem dX5_isAlike_1 : decode cX5_isAlike 1 = .ok (.iconst 0, 1) := by decide +kernel
theorem dX5_isAlike_2 : decode cX5_isAlike 2 = .ok (.iload_n 1, 1) := by decide +kernel
theorem dX5_isAlike_3 : decode cX5_isAlike 3 = .ok (.aload_n 0, 1) := by decide +kernel
theorem dX5_isAlike_4 : decode cX5_isAlike 4 = .ok (.getfield 31, 3) := by decide +kernel
theorem dX5_isAlike_7 : decode cX5_isAlike 7 = .ok (.iconst 0, 1) := by decide +kernel
theorem dX5_isAlike_8 : decode cX5_isAlike 8 = .ok (.iaload, 1) := by decide +kernel
theorem dX5_isAlike_9 : decode cX5_isAlike 9 = .ok (.invokevirtual 92, 3) := by decide +kernel
theorem dX5_isAlike_12 : decode cX5_isAlike 12 = .ok (.aload_n 0, 1) := by decide +kernel
theorem dX5_isAlike_13 : decode cX5_isAlike 13 = .ok (.iconst 1, 1) := by decide +kernel
theorem dX5_isAlike_14 : decode cX5_isAlike 14 = .ok (.iload_n 2, 1) := by decide +kernel
theorem dX5_isAlike_15 : decode cX5_isAlike 15 = .ok (.aload_n 0, 1) := by decide +kernel
theorem dX5_isAlike_16 : decode cX5_isAlike 16 = .ok (.getfield 31, 3) := by decide +kernel
theorem dX5_isAlike_19 : decode cX5_isAlike 19 = .ok (.iconst 1, 1) := by decide +kernel
theorem dX5_isAlike_20 : decode cX5_isAlike 20 = .ok (.iaload, 1) := by decide +kernel
theorem dX5_isAlike_21 : decode cX5_isAlike 21 = .ok (.invokevirtual 92, 3) := by decide +kernel
theorem dX5_isAlike_24 : decode cX5_isAlike 24 = .ok (.if_icmp .ne 7, 3) := by decide +kernel
theorem dX5_isAlike_27 : decode cX5_isAlike 27 = .ok (.iconst 1, 1) := by decide +kernel
theorem dX5_isAlike_28 : decode cX5_isAlike 28 = .ok (.goto 4, 3) := by decide +kernel
theorem dX5_isAlike_31 : decode cX5_isAlike 31 = .ok (.iconst 0, 1) := by decide +kernel
theorem dX5_isAlike_32 : decode cX5_isAlike 32 = .ok (.ireturn, 1) := by decide +kernel
theorem dX5_ask_0 : decode cX5_ask 0 = .ok (.aload_n 0, 1) := by decide +kernel
theorem dX5_ask_1 : decode cX5_ask 1 = .ok (.getfield 89, 3) := by decide +kernel
theorem dX5_ask_4 : decode cX5_ask 4 = .ok (.iconst 1, 1) := by decide +kernel
theorem dX5_ask_5 : decode cX5_ask 5 = .ok (.if_icmp .ne 5, 3) := by decide +kernel
theorem dX5_ask_8 : decode cX5_ask 8 = .ok (.iconst 0, 1) := by decide +kernel
theorem dX5_ask_9 : decode cX5_ask 9 = .ok (.ireturn, 1) := by decide +kernel
theorem dX5_ask_10 : decode cX5_ask 10 = .ok (.aload_n 0, 1) := by decide +kernel
theorem dX5_ask_11 : decode cX5_ask 11 = .ok (.iconst 1, 1) := by decide +kernel
theorem dX5_ask_12 : decode cX5_ask 12 = .ok (.putfield 96, 3) := by decide +kernel
theorem dX5_ask_15 : decode cX5_ask 15 = .ok (.iconst 0, 1) := by decide +kernel
theorem dX5_ask_16 : decode cX5_ask 16 = .ok (.istore_n 1, 1) := by decide +kernel
theorem dX5_ask_17 : decode cX5_ask 17 = .ok (.iload_n 1, 1) := by decide +kernel
theorem dX5_ask_18 : decode cX5_ask 18 = .ok (.iconst 2, 1) := by decide +kernel
theorem dX5_ask_19 : decode cX5_ask 19 = .ok (.if_icmp .ge 56, 3) := by decide +kernel
theorem dX5_ask_22 : decode cX5_ask 22 = .ok (.aload_n 0, 1) := by decide +kernel
theorem dX5_ask_23 : decode cX5_ask 23 = .ok (.getfield 41, 3) := by decide +kernel
theorem dX5_ask_26 : decode cX5_ask 26 = .ok (.iload_n 1, 1) := by decide +kernel
theorem dX5_ask_27 : decode cX5_ask 27 = .ok (.aload_n 0, 1) := by decide +kernel
theorem dX5_ask_28 : decode cX5_ask 28 = .ok (.getfield 16, 3) := by decide +kernel
theorem dX5_ask_31 : decode cX5_ask 31 = .ok (.iload_n 1, 1) := by decide +kernel
theorem dX5_ask_32 : decode cX5_ask 32 = .ok (.iaload, 1) := by decide +kernel
theorem dX5_ask_33 : decode cX5_ask 33 = .ok (.iastore, 1) := by decide +kernel
theorem dX5_ask_34 : decode cX5_ask 34 = .ok (.aload_n 0, 1) := by decide +kernel
theorem dX5_ask_35 : decode cX5_ask 35 = .ok (.getfield 44, 3) := by decide +kernel
theorem dX5_ask_38 : decode cX5_ask 38 = .ok (.iload_n 1, 1) := by decide +kernel
theorem dX5_ask_39 : decode cX5_ask 39 = .ok (.iconst 0, 1) := by decide +kernel
theorem dX5_ask_40 : decode cX5_ask 40 = .ok (.iastore, 1) := by decide +kernel
theorem dX5_ask_41 : decode cX5_ask 41 = .ok (.aload_n 0, 1) := by decide +kernel
theorem dX5_ask_42 : decode cX5_ask 42 = .ok (.getfield 50, 3) := by decide +kernel
theorem dX5_ask_45 : decode cX5_ask 45 = .ok (.iload_n 1, 1) := by decide +kernel
theorem dX5_ask_46 : decode cX5_ask 46 = .ok (.iconst 0, 1) := by decide +kernel
theorem dX5_ask_47 : decode cX5_ask 47 = .ok (.bastore, 1) := by decide +kernel
theorem dX5_ask_48 : decode cX5_ask 48 = .ok (.aload_n 0, 1) := by decide +kernel
theorem dX5_ask_49 : decode cX5_ask 49 = .ok (.getfield 60, 3) := by decide +kernel
theorem dX5_ask_52 : decode cX5_ask 52 = .ok (.iload_n 1, 1) := by decide +kernel
theorem dX5_ask_53 : decode cX5_ask 53 = .ok (.iconst 0, 1) := by decide +kernel
theorem dX5_ask_54 : decode cX5_ask 54 = .ok (.iastore, 1) := by decide +kernel
theorem dX5_ask_55 : decode cX5_ask 55 = .ok (.aload_n 0, 1) := by decide +kernel
theorem dX5_ask_56 : decode cX5_ask 56 = .ok (.getfield 63, 3) := by decide +kernel
theorem dX5_ask_59 : decode cX5_ask 59 = .ok (.iload_n 1, 1) := by decide +kernel
theorem dX5_ask_60 : decode cX5_ask 60 = .ok (.iconst 0, 1) := by decide +kernel
theorem dX5_ask_61 : decode cX5_ask 61 = .ok (.iastore, 1) := by decide +kernel
theorem dX5_ask_62 : decode cX5_ask 62 = .ok (.aload_n 0, 1) := by decide +kernel
theorem dX5_ask_63 : decode cX5_ask 63 = .ok (.getfield 66, 3) := by decide +kernel
theorem dX5_ask_66 : decode cX5_ask 66 = .ok (.iload_n 1, 1) := by decide +kernel
theorem dX5_ask_67 : decode cX5_ask 67 = .ok (.iconst 0, 1) := by decide +kernel
theorem dX5_ask_68 : decode cX5_ask 68 = .ok (.iastore, 1) := by decide +kernel
theorem dX5_ask_69 : decode cX5_ask 69 = .ok (.iinc 1 1, 3) := by decide +kernel
theorem dX5_ask_72 : decode cX5_ask 72 = .ok (.goto (-55), 3) := by decide +kernel
theorem dX5_ask_75 : decode cX5_ask 75 = .ok (.iconst 0, 1) := by decide +kernel
theorem dX5_ask_76 : decode cX5_ask 76 = .ok (.istore_n 1, 1) := by decide +kernel
theorem dX5_ask_77 : decode cX5_ask 77 = .ok (.iload_n 1, 1) := by decide +kernel
theorem dX5_ask_78 : decode cX5_ask 78 = .ok (.bipush 8, 2) := by decide +kernel
theorem dX5_ask_80 : decode cX5_ask 80 = .ok (.if_icmp .ge 32, 3) := by decide +kernel
theorem dX5_ask_83 : decode cX5_ask 83 = .ok (.aload_n 0, 1) := by decide +kernel
theorem dX5_ask_84 : decode cX5_ask 84 = .ok (.getfield 47, 3) := by decide +kernel
theorem dX5_ask_87 : decode cX5_ask 87 = .ok (.iload_n 1, 1) := by decide +kernel
theorem dX5_ask_88 : decode cX5_ask 88 = .ok (.iload_n 1, 1) := by decide +kernel
theorem dX5_ask_89 : decode cX5_ask 89 = .ok (.iconst 4, 1) := by decide +kernel
theorem dX5_ask_90 : decode cX5_ask 90 = .ok (.irem, 1) := by decide +kernel
theorem dX5_ask_91 : decode cX5_ask 91 = .ok (.iastore, 1) := by decide +kernel
theorem dX5_ask_92 : decode cX5_ask 92 = .ok (.aload_n 0, 1) := by decide +kernel
theorem dX5_ask_93 : decode cX5_ask 93 = .ok (.getfield 54, 3) := by decide +kernel
theorem dX5_ask_96 : decode cX5_ask 96 = .ok (.iload_n 1, 1) := by decide +kernel
theorem dX5_ask_97 : decode cX5_ask 97 = .ok (.iconst 0, 1) := by decide +kernel
theorem dX5_ask_98 : decode cX5_ask 98 = .ok (.iastore, 1) := by decide +kernel
theorem dX5_ask_99 : decode cX5_ask 99 = .ok (.aload_n 0, 1) := by decide +kernel
theorem dX5_ask_100 : decode cX5_ask 100 = .ok (.getfield 57, 3) := by decide +kernel
theorem dX5_ask_103 : decode cX5_ask 103 = .ok (.iload_n 1, 1) := by decide +kernel
theorem dX5_ask_104 : decode cX5_ask 104 = .ok (.iconst 0, 1) := by decide +kernel
theorem dX5_ask_105 : decode cX5_ask 105 = .ok (.iastore, 1) := by decide +kernel
theorem dX5_ask_106 : decode cX5_ask 106 = .ok (.iinc 1 1, 3) := by decide +kernel
theorem dX5_ask_109 : decode cX5_ask 109 = .ok (.goto (-32), 3) := by decide +kernel
theorem dX5_ask_112 : decode cX5_ask 112 = .ok (.iconst 0, 1) := by decide +kernel
theorem dX5_ask_113 : decode cX5_ask 113 = .ok (.istore_n 1, 1) := by decide +kernel
theorem dX5_ask_114 : decode cX5_ask 114 = .ok (.iload_n 1, 1) := by decide +kernel
theorem dX5_ask_115 : decode cX5_ask 115 = .ok (.bipush 100, 2) := by decide +kernel
theorem dX5_ask_117 : decode cX5_ask 117 = .ok (.if_icmp .ge 16, 3) := by decide +kernel
theorem dX5_ask_120 : decode cX5_ask 120 = .ok (.aload_n 0, 1) := by decide +kernel
theorem dX5_ask_121 : decode cX5_ask 121 = .ok (.getfield 69, 3) := by decide +kernel
theorem dX5_ask_124 : decode cX5_ask 124 = .ok (.iload_n 1, 1) := by decide +kernel
theorem dX5_ask_125 : decode cX5_ask 125 = .ok (.iconst 0, 1) := by decide +kernel
theorem dX5_ask_126 : decode cX5_ask 126 = .ok (.iastore, 1) := by decide +kernel
theorem dX5_ask_127 : decode cX5_ask 127 = .ok (.iinc 1 1, 3) := by decide +kernel
theorem dX5_ask_130 : decode cX5_ask 130 = .ok (.goto (-16), 3) := by decide +kernel
theorem dX5_ask_133 : decode cX5_ask 133 = .ok (.iconst 0, 1) := by decide +kernel
theorem dX5_ask_134 : decode cX5_ask 134 = .ok (.istore_n 1, 1) := by decide +kernel
theorem dX5_ask_135 : decode cX5_ask 135 = .ok (.iload_n 1, 1) := by decide +kernel
theorem dX5_ask_136 : decode cX5_ask 136 = .ok (.sipush 2500, 3) := by decide +kernel
theorem dX5_ask_139 : decode cX5_ask 139 = .ok (.if_icmp .ge 16, 3) := by decide +kernel
theorem dX5_ask_142 : decode cX5_ask 142 = .ok (.aload_n 0, 1) := by decide +kernel
theorem dX5_ask_143 : decode cX5_ask 143 = .ok (.getfield 75, 3) := by decide +kernel
theorem dX5_ask_146 : decode cX5_ask 146 = .ok (.iload_n 1, 1) := by decide +kernel
theorem dX5_ask_147 : decode cX5_ask 147 = .ok (.iconst 0, 1) := by decide +kernel
theorem dX5_ask_148 : decode cX5_ask 148 = .ok (.bastore, 1) := by decide +kernel
theorem dX5_ask_149 : decode cX5_ask 149 = .ok (.iinc 1 1, 3) := by decide +kernel
theorem dX5_ask_152 : decode cX5_ask 152 = .ok (.goto (-17), 3) := by decide +kernel
theorem dX5_ask_155 : decode cX5_ask 155 = .ok (.aload_n 0, 1) := by decide +kernel
theorem dX5_ask_156 : decode cX5_ask 156 = .ok (.iconst 0, 1) := by decide +kernel
theorem dX5_ask_157 : decode cX5_ask 157 = .ok (.putfield 100, 3) := by decide +kernel
theorem dX5_ask_160 : decode cX5_ask 160 = .ok (.aload_n 0, 1) := by decide +kernel
theorem dX5_ask_161 : decode cX5_ask 161 = .ok (.iconst 0, 1) := by decide +kernel
theorem dX5_ask_162 : decode cX5_ask 162 = .ok (.putfield 103, 3) := by decide +kernel
theorem dX5_ask_165 : decode cX5_ask 165 = .ok (.aload_n 0, 1) := by decide +kernel
theorem dX5_ask_166 : decode cX5_ask 166 = .ok (.iconst 0, 1) := by decide +kernel
theorem dX5_ask_167 : decode cX5_ask 167 = .ok (.putfield 106, 3) := by decide +kernel
theorem dX5_ask_170 : decode cX5_ask 170 = .ok (.aload_n 0, 1) := by decide +kernel
theorem dX5_ask_171 : decode cX5_ask 171 = .ok (.iconst 0, 1) := by decide +kernel
theorem dX5_ask_172 : decode cX5_ask 172 = .ok (.putfield 109, 3) := by decide +kernel
theorem dX5_ask_175 : decode cX5_ask 175 = .ok (.aload_n 0, 1) := by decide +kernel
theorem dX5_ask_176 : decode cX5_ask 176 = .ok (.iconst (-1), 1) := by decide +kernel
theorem dX5_ask_177 : decode cX5_ask 177 = .ok (.putfield 112, 3) := by decide +kernel
theorem dX5_ask_180 : decode cX5_ask 180 = .ok (.aload_n 0, 1) := by decide +kernel
theorem dX5_ask_181 : decode cX5_ask 181 = .ok (.iconst 0, 1) := by decide +kernel
theorem dX5_ask_182 : decode cX5_ask 182 = .ok (.putfield 115, 3) := by decide +kernel
theorem dX5_ask_185 : decode cX5_ask 185 = .ok (.aload_n 0, 1) := by decide +kernel
theorem dX5_ask_186 : decode cX5_ask 186 = .ok (.iconst 0, 1) := by decide +kernel
theorem dX5_ask_187 : decode cX5_ask 187 = .ok (.putfield 118, 3) := by decide +kernel
theorem dX5_ask_190 : decode cX5_ask 190 = .ok (.aload_n 0, 1) := by decide +kernel
theorem dX5_ask_191 : decode cX5_ask 191 = .ok (.iconst 1, 1) := by decide +kernel
theorem dX5_ask_192 : decode cX5_ask 192 = .ok (.putfield 89, 3) := by decide +kernel
theorem dX5_ask_195 : decode cX5_ask 195 = .ok (.aload_n 0, 1) := by decide +kernel
theorem dX5_ask_196 : decode cX5_ask 196 = .ok (.invokevirtual 121, 3) := by decide +kernel
theorem dX5_ask_199 : decode cX5_ask 199 = .ok (.iconst 1, 1) := by decide +kernel
theorem dX5_ask_200 : decode cX5_ask 200 = .ok (.ireturn, 1) := by decide +kernel
theorem dX5_stop_0 : decode cX5_stop 0 = .ok (.aload_n 0, 1) := by decide +kernel
theorem dX5_stop_1 : decode cX5_stop 1 = .ok (.getfield 89, 3) := by decide +kernel
theorem dX5_stop_4 : decode cX5_stop 4 = .ok (.iconst 1, 1) := by decide +kernel
theorem dX5_stop_5 : decode cX5_stop 5 = .ok (.if_icmp .eq 5, 3) := by decide +kernel
theorem dX5_stop_8 : decode cX5_stop 8 = .ok (.iconst 0, 1) := by decide +kernel
theorem dX5_stop_9 : decode cX5_stop 9 = .ok (.ireturn, 1) := by decide +kernel
theorem dX5_stop_10 : decode cX5_stop 10 = .ok (.aload_n 0, 1) := by decide +kernel
theorem dX5_stop_11 : decode cX5_stop 11 = .ok (.iconst 0, 1) := by decide +kernel
theorem dX5_stop_12 : decode cX5_stop 12 = .ok (.putfield 89, 3) := by decide +kernel
theorem dX5_stop_15 : decode cX5_stop 15 = .ok (.iconst 1, 1) := by decide +kernel
theorem dX5_stop_16 : decode cX5_stop 16 = .ok (.ireturn, 1) := by decide +kernel
theorem dX5_isReadOut_0 : decode cX5_isReadOut 0 = .ok (.aload_n 0, 1) := by decide +kernel
theorem dX5_isReadOut_1 : decode cX5_isReadOut 1 = .ok (.getfield 44, 3) := by decide +kernel
theorem dX5_isReadOut_4 : decode cX5_isReadOut 4 = .ok (.iload_n 1, 1) := by decide +kernel
theorem dX5_isReadOut_5 : decode cX5_isReadOut 5 = .ok (.iaload, 1) := by decide +kernel
theorem dX5_isReadOut_6 : decode cX5_isReadOut 6 = .ok (.aload_n 0, 1) := by decide +kernel
theorem dX5_isReadOut_7 : decode cX5_isReadOut 7 = .ok (.getfield 7, 3) := by decide +kernel
theorem dX5_isReadOut_10 : decode cX5_isReadOut 10 = .ok (.iload_n 1, 1) := by decide +kernel
theorem dX5_isReadOut_11 : decode cX5_isReadOut 11 = .ok (.iaload, 1) := by decide +kernel
theorem dX5_isReadOut_12 : decode cX5_isReadOut 12 = .ok (.if_icmp .ne 7, 3) := by decide +kernel
theorem dX5_isReadOut_15 : decode cX5_isReadOut 15 = .ok (.iconst 1, 1) := by decide +kernel
theorem dX5_isReadOut_16 : decode cX5_isReadOut 16 = .ok (.goto 4, 3) := by decide +kernel
theorem dX5_isReadOut_19 : decode cX5_isReadOut 19 = .ok (.iconst 0, 1) := by decide +kernel
theorem dX5_isReadOut_20 : decode cX5_isReadOut 20 = .ok (.ireturn, 1) := by decide +kernel
theorem dX5_lacking_0 : decode cX5_lacking 0 = .ok (.iconst 0, 1) := by decide +kernel
theorem dX5_lacking_1 : decode cX5_lacking 1 = .ok (.istore_n 1, 1) := by decide +kernel
theorem dX5_lacking_2 : decode cX5_lacking 2 = .ok (.iload_n 1, 1) := by decide +kernel
theorem dX5_lacking_3 : decode cX5_lacking 3 = .ok (.sipush 2500, 3) := by decide +kernel
theorem dX5_lacking_6 : decode cX5_lacking 6 = .ok (.if_icmp .ge 82, 3) := by decide +kernel
theorem dX5_lacking_9 : decode cX5_lacking 9 = .ok (.iload_n 1, 1) := by decide +kernel
theorem dX5_lacking_10 : decode cX5_lacking 10 = .ok (.bipush 50, 2) := by decide +kernel
theorem dX5_lacking_12 : decode cX5_lacking 12 = .ok (.idiv, 1) := by decide +kernel
theorem dX5_lacking_13 : decode cX5_lacking 13 = .ok (.istore_n 2, 1) := by decide +kernel
theorem dX5_lacking_14 : decode cX5_lacking 14 = .ok (.iload_n 1, 1) := by decide +kernel
theorem dX5_lacking_15 : decode cX5_lacking 15 = .ok (.bipush 50, 2) := by decide +kernel
theorem dX5_lacking_17 : decode cX5_lacking 17 = .ok (.irem, 1) := by decide +kernel
theorem dX5_lacking_18 : decode cX5_lacking 18 = .ok (.istore_n 3, 1) := by decide +kernel
theorem dX5_lacking_19 : decode cX5_lacking 19 = .ok (.aload_n 0, 1) := by decide +kernel
theorem dX5_lacking_20 : decode cX5_lacking 20 = .ok (.getfield 75, 3) := by decide +kernel
theorem dX5_lacking_23 : decode cX5_lacking 23 = .ok (.iload_n 1, 1) := by decide +kernel
theorem dX5_lacking_24 : decode cX5_lacking 24 = .ok (.baload, 1) := by decide +kernel
theorem dX5_lacking_25 : decode cX5_lacking 25 = .ok (.ifCond .ne 57, 3) := by decide +kernel
theorem dX5_lacking_28 : decode cX5_lacking 28 = .ok (.iload_n 2, 1) := by decide +kernel
theorem dX5_lacking_29 : decode cX5_lacking 29 = .ok (.aload_n 0, 1) := by decide +kernel
theorem dX5_lacking_30 : decode cX5_lacking 30 = .ok (.getfield 7, 3) := by decide +kernel
theorem dX5_lacking_33 : decode cX5_lacking 33 = .ok (.iconst 0, 1) := by decide +kernel
theorem dX5_lacking_34 : decode cX5_lacking 34 = .ok (.iaload, 1) := by decide +kernel
theorem dX5_lacking_35 : decode cX5_lacking 35 = .ok (.if_icmp .ge 47, 3) := by decide +kernel
theorem dX5_lacking_38 : decode cX5_lacking 38 = .ok (.iload_n 3, 1) := by decide +kernel
theorem dX5_lacking_39 : decode cX5_lacking 39 = .ok (.aload_n 0, 1) := by decide +kernel
theorem dX5_lacking_40 : decode cX5_lacking 40 = .ok (.getfield 7, 3) := by decide +kernel
theorem dX5_lacking_43 : decode cX5_lacking 43 = .ok (.iconst 1, 1) := by decide +kernel
theorem dX5_lacking_44 : decode cX5_lacking 44 = .ok (.iaload, 1) := by decide +kernel
theorem dX5_lacking_45 : decode cX5_lacking 45 = .ok (.if_icmp .ge 37, 3) := by decide +kernel
theorem dX5_lacking_48 : decode cX5_lacking 48 = .ok (.aload_n 0, 1) := by decide +kernel
theorem dX5_lacking_49 : decode cX5_lacking 49 = .ok (.getfield 69, 3) := by decide +kernel
theorem dX5_lacking_52 : decode cX5_lacking 52 = .ok (.iload_n 2, 1) := by decide +kernel
theorem dX5_lacking_53 : decode cX5_lacking 53 = .ok (.iaload, 1) := by decide +kernel
theorem dX5_lacking_54 : decode cX5_lacking 54 = .ok (.iconst 2, 1) := by decide +kernel
theorem dX5_lacking_55 : decode cX5_lacking 55 = .ok (.if_icmp .lt 27, 3) := by decide +kernel
theorem dX5_lacking_58 : decode cX5_lacking 58 = .ok (.aload_n 0, 1) := by decide +kernel
theorem dX5_lacking_59 : decode cX5_lacking 59 = .ok (.getfield 69, 3) := by decide +kernel
theorem dX5_lacking_62 : decode cX5_lacking 62 = .ok (.bipush 50, 2) := by decide +kernel
theorem dX5_lacking_64 : decode cX5_lacking 64 = .ok (.iload_n 3, 1) := by decide +kernel
theorem dX5_lacking_65 : decode cX5_lacking 65 = .ok (.iadd, 1) := by decide +kernel
theorem dX5_lacking_66 : decode cX5_lacking 66 = .ok (.iaload, 1) := by decide +kernel
theorem dX5_lacking_67 : decode cX5_lacking 67 = .ok (.iconst 2, 1) := by decide +kernel
theorem dX5_lacking_68 : decode cX5_lacking 68 = .ok (.if_icmp .lt 14, 3) := by decide +kernel
theorem dX5_lacking_71 : decode cX5_lacking 71 = .ok (.aload_n 0, 1) := by decide +kernel
theorem dX5_lacking_72 : decode cX5_lacking 72 = .ok (.iload_n 2, 1) := by decide +kernel
theorem dX5_lacking_73 : decode cX5_lacking 73 = .ok (.iload_n 3, 1) := by decide +kernel
theorem dX5_lacking_74 : decode cX5_lacking 74 = .ok (.invokevirtual 124, 3) := by decide +kernel
theorem dX5_lacking_77 : decode cX5_lacking 77 = .ok (.ifCond .eq 5, 3) := by decide +kernel
theorem dX5_lacking_80 : decode cX5_lacking 80 = .ok (.iload_n 1, 1) := by decide +kernel
theorem dX5_lacking_81 : decode cX5_lacking 81 = .ok (.ireturn, 1) := by decide +kernel
theorem dX5_lacking_82 : decode cX5_lacking 82 = .ok (.iinc 1 1, 3) := by decide +kernel
theorem dX5_lacking_85 : decode cX5_lacking 85 = .ok (.goto (-83), 3) := by decide +kernel
theorem dX5_lacking_88 : decode cX5_lacking 88 = .ok (.iconst (-1), 1) := by decide +kernel
theorem dX5_lacking_89 : decode cX5_lacking 89 = .ok (.ireturn, 1) := by decide +kernel
theorem dX5_ends_0 : decode cX5_ends 0 = .ok (.aload_n 0, 1) := by decide +kernel
theorem dX5_ends_1 : decode cX5_ends 1 = .ok (.iconst 0, 1) := by decide +kernel
theorem dX5_ends_2 : decode cX5_ends 2 = .ok (.invokevirtual 128, 3) := by decide +kernel
theorem dX5_ends_5 : decode cX5_ends 5 = .ok (.ifCond .eq 24, 3) := by decide +kernel
theorem dX5_ends_8 : decode cX5_ends 8 = .ok (.aload_n 0, 1) := by decide +kernel
theorem dX5_ends_9 : decode cX5_ends 9 = .ok (.iconst 1, 1) := by decide +kernel
theorem dX5_ends_10 : decode cX5_ends 10 = .ok (.invokevirtual 128, 3) := by decide +kernel
theorem dX5_ends_13 : decode cX5_ends 13 = .ok (.ifCond .eq 16, 3) := by decide +kernel
theorem dX5_ends_16 : decode cX5_ends 16 = .ok (.aload_n 0, 1) := by decide +kernel
theorem dX5_ends_17 : decode cX5_ends 17 = .ok (.invokevirtual 131, 3) := by decide +kernel
theorem dX5_ends_20 : decode cX5_ends 20 = .ok (.iconst (-1), 1) := by decide +kernel
theorem dX5_ends_21 : decode cX5_ends 21 = .ok (.if_icmp .ne 8, 3) := by decide +kernel
theorem dX5_ends_24 : decode cX5_ends 24 = .ok (.aload_n 0, 1) := by decide +kernel
theorem dX5_ends_25 : decode cX5_ends 25 = .ok (.iconst 2, 1) := by decide +kernel
theorem dX5_ends_26 : decode cX5_ends 26 = .ok (.putfield 89, 3) := by decide +kernel
theorem dX5_ends_29 : decode cX5_ends 29 = .ok (.return_, 1) := by decide +kernel
theorem dX5_gives_0 : decode cX5_gives 0 = .ok (.aload_n 0, 1) := by decide +kernel
theorem dX5_gives_1 : decode cX5_gives 1 = .ok (.getfield 75, 3) := by decide +kernel
theorem dX5_gives_4 : decode cX5_gives 4 = .ok (.bipush 50, 2) := by decide +kernel
theorem dX5_gives_6 : decode cX5_gives 6 = .ok (.iload_n 1, 1) := by decide +kernel
theorem dX5_gives_7 : decode cX5_gives 7 = .ok (.imul, 1) := by decide +kernel
theorem dX5_gives_8 : decode cX5_gives 8 = .ok (.iload_n 2, 1) := by decide +kernel
theorem dX5_gives_9 : decode cX5_gives 9 = .ok (.iadd, 1) := by decide +kernel
theorem dX5_gives_10 : decode cX5_gives 10 = .ok (.iconst 1, 1) := by decide +kernel
theorem dX5_gives_11 : decode cX5_gives 11 = .ok (.bastore, 1) := by decide +kernel
theorem dX5_gives_12 : decode cX5_gives 12 = .ok (.aload_n 0, 1) := by decide +kernel
theorem dX5_gives_13 : decode cX5_gives 13 = .ok (.getfield 78, 3) := by decide +kernel
theorem dX5_gives_16 : decode cX5_gives 16 = .ok (.aload_n 0, 1) := by decide +kernel
theorem dX5_gives_17 : decode cX5_gives 17 = .ok (.getfield 103, 3) := by decide +kernel
theorem dX5_gives_20 : decode cX5_gives 20 = .ok (.bipush 50, 2) := by decide +kernel
theorem dX5_gives_22 : decode cX5_gives 22 = .ok (.iload_n 1, 1) := by decide +kernel
theorem dX5_gives_23 : decode cX5_gives 23 = .ok (.imul, 1) := by decide +kernel
theorem dX5_gives_24 : decode cX5_gives 24 = .ok (.iload_n 2, 1) := by decide +kernel
theorem dX5_gives_25 : decode cX5_gives 25 = .ok (.iadd, 1) := by decide +kernel
theorem dX5_gives_26 : decode cX5_gives 26 = .ok (.iastore, 1) := by decide +kernel
theorem dX5_gives_27 : decode cX5_gives 27 = .ok (.aload_n 0, 1) := by decide +kernel
theorem dX5_gives_28 : decode cX5_gives 28 = .ok (.dup, 1) := by decide +kernel
theorem dX5_gives_29 : decode cX5_gives 29 = .ok (.getfield 103, 3) := by decide +kernel
theorem dX5_gives_32 : decode cX5_gives 32 = .ok (.iconst 1, 1) := by decide +kernel
theorem dX5_gives_33 : decode cX5_gives 33 = .ok (.iadd, 1) := by decide +kernel
theorem dX5_gives_34 : decode cX5_gives 34 = .ok (.putfield 103, 3) := by decide +kernel
theorem dX5_gives_37 : decode cX5_gives 37 = .ok (.return_, 1) := by decide +kernel
theorem dX5_choose_0 : decode cX5_choose 0 = .ok (.aload_n 0, 1) := by decide +kernel
theorem dX5_choose_1 : decode cX5_choose 1 = .ok (.iconst 0, 1) := by decide +kernel
theorem dX5_choose_2 : decode cX5_choose 2 = .ok (.invokevirtual 128, 3) := by decide +kernel
theorem dX5_choose_5 : decode cX5_choose 5 = .ok (.ifCond .eq 5, 3) := by decide +kernel
theorem dX5_choose_8 : decode cX5_choose 8 = .ok (.iconst 1, 1) := by decide +kernel
theorem dX5_choose_9 : decode cX5_choose 9 = .ok (.ireturn, 1) := by decide +kernel
theorem dX5_choose_10 : decode cX5_choose 10 = .ok (.aload_n 0, 1) := by decide +kernel
theorem dX5_choose_11 : decode cX5_choose 11 = .ok (.iconst 1, 1) := by decide +kernel
theorem dX5_choose_12 : decode cX5_choose 12 = .ok (.invokevirtual 128, 3) := by decide +kernel
theorem dX5_choose_15 : decode cX5_choose 15 = .ok (.ifCond .eq 5, 3) := by decide +kernel
theorem dX5_choose_18 : decode cX5_choose 18 = .ok (.iconst 0, 1) := by decide +kernel
theorem dX5_choose_19 : decode cX5_choose 19 = .ok (.ireturn, 1) := by decide +kernel
theorem dX5_choose_20 : decode cX5_choose 20 = .ok (.aload_n 0, 1) := by decide +kernel
theorem dX5_choose_21 : decode cX5_choose 21 = .ok (.getfield 38, 3) := by decide +kernel
theorem dX5_choose_24 : decode cX5_choose 24 = .ok (.iconst (-1), 1) := by decide +kernel
theorem dX5_choose_25 : decode cX5_choose 25 = .ok (.if_icmp .eq 8, 3) := by decide +kernel
theorem dX5_choose_28 : decode cX5_choose 28 = .ok (.aload_n 0, 1) := by decide +kernel
theorem dX5_choose_29 : decode cX5_choose 29 = .ok (.getfield 38, 3) := by decide +kernel
theorem dX5_choose_32 : decode cX5_choose 32 = .ok (.ireturn, 1) := by decide +kernel
theorem dX5_choose_33 : decode cX5_choose 33 = .ok (.aload_n 0, 1) := by decide +kernel
theorem dX5_choose_34 : decode cX5_choose 34 = .ok (.getfield 66, 3) := by decide +kernel
theorem dX5_choose_37 : decode cX5_choose 37 = .ok (.iconst 0, 1) := by decide +kernel
theorem dX5_choose_38 : decode cX5_choose 38 = .ok (.iaload, 1) := by decide +kernel
theorem dX5_choose_39 : decode cX5_choose 39 = .ok (.iconst 1, 1) := by decide +kernel
theorem dX5_choose_40 : decode cX5_choose 40 = .ok (.iadd, 1) := by decide +kernel
theorem dX5_choose_41 : decode cX5_choose 41 = .ok (.i2l, 1) := by decide +kernel
theorem dX5_choose_42 : decode cX5_choose 42 = .ok (.aload_n 0, 1) := by decide +kernel
theorem dX5_choose_43 : decode cX5_choose 43 = .ok (.getfield 63, 3) := by decide +kernel
theorem dX5_choose_46 : decode cX5_choose 46 = .ok (.iconst 1, 1) := by decide +kernel
theorem dX5_choose_47 : decode cX5_choose 47 = .ok (.iaload, 1) := by decide +kernel
theorem dX5_choose_48 : decode cX5_choose 48 = .ok (.iconst 1, 1) := by decide +kernel
theorem dX5_choose_49 : decode cX5_choose 49 = .ok (.iadd, 1) := by decide +kernel
theorem dX5_choose_50 : decode cX5_choose 50 = .ok (.i2l, 1) := by decide +kernel
theorem dX5_choose_51 : decode cX5_choose 51 = .ok (.lmul, 1) := by decide +kernel
theorem dX5_choose_52 : decode cX5_choose 52 = .ok (.lstore_n 1, 1) := by decide +kernel
theorem dX5_choose_53 : decode cX5_choose 53 = .ok (.aload_n 0, 1) := by decide +kernel
theorem dX5_choose_54 : decode cX5_choose 54 = .ok (.getfield 66, 3) := by decide +kernel
theorem dX5_choose_57 : decode cX5_choose 57 = .ok (.iconst 1, 1) := by decide +kernel
theorem dX5_choose_58 : decode cX5_choose 58 = .ok (.iaload, 1) := by decide +kernel
theorem dX5_choose_59 : decode cX5_choose 59 = .ok (.iconst 1, 1) := by decide +kernel
theorem dX5_choose_60 : decode cX5_choose 60 = .ok (.iadd, 1) := by decide +kernel
theorem dX5_choose_61 : decode cX5_choose 61 = .ok (.i2l, 1) := by decide +kernel
theorem dX5_choose_62 : decode cX5_choose 62 = .ok (.aload_n 0, 1) := by decide +kernel
theorem dX5_choose_63 : decode cX5_choose 63 = .ok (.getfield 63, 3) := by decide +kernel
theorem dX5_choose_66 : decode cX5_choose 66 = .ok (.iconst 0, 1) := by decide +kernel
theorem dX5_choose_67 : decode cX5_choose 67 = .ok (.iaload, 1) := by decide +kernel
theorem dX5_choose_68 : decode cX5_choose 68 = .ok (.iconst 1, 1) := by decide +kernel
theorem dX5_choose_69 : decode cX5_choose 69 = .ok (.iadd, 1) := by decide +kernel
theorem dX5_choose_70 : decode cX5_choose 70 = .ok (.i2l, 1) := by decide +kernel
theorem dX5_choose_71 : decode cX5_choose 71 = .ok (.lmul, 1) := by decide +kernel
theorem dX5_choose_72 : decode cX5_choose 72 = .ok (.lstore_n 3, 1) := by decide +kernel
theorem dX5_choose_73 : decode cX5_choose 73 = .ok (.lload_n 3, 1) := by decide +kernel
theorem dX5_choose_74 : decode cX5_choose 74 = .ok (.lload_n 1, 1) := by decide +kernel
theorem dX5_choose_75 : decode cX5_choose 75 = .ok (.lcmp, 1) := by decide +kernel
theorem dX5_choose_76 : decode cX5_choose 76 = .ok (.ifCond .le 7, 3) := by decide +kernel
theorem dX5_choose_79 : decode cX5_choose 79 = .ok (.iconst 1, 1) := by decide +kernel
theorem dX5_choose_80 : decode cX5_choose 80 = .ok (.goto 4, 3) := by decide +kernel
theorem dX5_choose_83 : decode cX5_choose 83 = .ok (.iconst 0, 1) := by decide +kernel
theorem dX5_choose_84 : decode cX5_choose 84 = .ok (.ireturn, 1) := by decide +kernel
theorem dX5_nextIn_0 : decode cX5_nextIn 0 = .ok (.iconst (-1), 1) := by decide +kernel
theorem dX5_nextIn_1 : decode cX5_nextIn 1 = .ok (.istore_n 3, 1) := by decide +kernel
theorem dX5_nextIn_2 : decode cX5_nextIn 2 = .ok (.iconst 0, 1) := by decide +kernel
theorem dX5_nextIn_3 : decode cX5_nextIn 3 = .ok (.istore 4, 2) := by decide +kernel
theorem dX5_nextIn_5 : decode cX5_nextIn 5 = .ok (.iload 4, 2) := by decide +kernel
theorem dX5_nextIn_7 : decode cX5_nextIn 7 = .ok (.aload_n 0, 1) := by decide +kernel
theorem dX5_nextIn_8 : decode cX5_nextIn 8 = .ok (.getfield 7, 3) := by decide +kernel
theorem dX5_nextIn_11 : decode cX5_nextIn 11 = .ok (.iload_n 1, 1) := by decide +kernel
theorem dX5_nextIn_12 : decode cX5_nextIn 12 = .ok (.iaload, 1) := by decide +kernel
theorem dX5_nextIn_13 : decode cX5_nextIn 13 = .ok (.if_icmp .ge 69, 3) := by decide +kernel
theorem dX5_nextIn_16 : decode cX5_nextIn 16 = .ok (.bipush 50, 2) := by decide +kernel
theorem dX5_nextIn_18 : decode cX5_nextIn 18 = .ok (.iload_n 1, 1) := by decide +kernel
theorem dX5_nextIn_19 : decode cX5_nextIn 19 = .ok (.imul, 1) := by decide +kernel
theorem dX5_nextIn_20 : decode cX5_nextIn 20 = .ok (.iload 4, 2) := by decide +kernel
theorem dX5_nextIn_22 : decode cX5_nextIn 22 = .ok (.iadd, 1) := by decide +kernel
theorem dX5_nextIn_23 : decode cX5_nextIn 23 = .ok (.istore 5, 2) := by decide +kernel
theorem dX5_nextIn_25 : decode cX5_nextIn 25 = .ok (.aload_n 0, 1) := by decide +kernel
theorem dX5_nextIn_26 : decode cX5_nextIn 26 = .ok (.getfield 69, 3) := by decide +kernel
theorem dX5_nextIn_29 : decode cX5_nextIn 29 = .ok (.iload 5, 2) := by decide +kernel
theorem dX5_nextIn_31 : decode cX5_nextIn 31 = .ok (.iaload, 1) := by decide +kernel
theorem dX5_nextIn_32 : decode cX5_nextIn 32 = .ok (.iconst 2, 1) := by decide +kernel
theorem dX5_nextIn_33 : decode cX5_nextIn 33 = .ok (.if_icmp .ne 43, 3) := by decide +kernel
theorem dX5_nextIn_36 : decode cX5_nextIn 36 = .ok (.aload_n 0, 1) := by decide +kernel
theorem dX5_nextIn_37 : decode cX5_nextIn 37 = .ok (.getfield 72, 3) := by decide +kernel
theorem dX5_nextIn_40 : decode cX5_nextIn 40 = .ok (.iload 5, 2) := by decide +kernel
theorem dX5_nextIn_42 : decode cX5_nextIn 42 = .ok (.iaload, 1) := by decide +kernel
theorem dX5_nextIn_43 : decode cX5_nextIn 43 = .ok (.iload_n 2, 1) := by decide +kernel
theorem dX5_nextIn_44 : decode cX5_nextIn 44 = .ok (.if_icmp .le 32, 3) := by decide +kernel
theorem dX5_nextIn_47 : decode cX5_nextIn 47 = .ok (.iload_n 3, 1) := by decide +kernel
theorem dX5_nextIn_48 : decode cX5_nextIn 48 = .ok (.iconst (-1), 1) := by decide +kernel
theorem dX5_nextIn_49 : decode cX5_nextIn 49 = .ok (.if_icmp .eq 24, 3) := by decide +kernel
theorem dX5_nextIn_52 : decode cX5_nextIn 52 = .ok (.aload_n 0, 1) := by decide +kernel
theorem dX5_nextIn_53 : decode cX5_nextIn 53 = .ok (.getfield 72, 3) := by decide +kernel
theorem dX5_nextIn_56 : decode cX5_nextIn 56 = .ok (.iload 5, 2) := by decide +kernel
theorem dX5_nextIn_58 : decode cX5_nextIn 58 = .ok (.iaload, 1) := by decide +kernel
theorem dX5_nextIn_59 : decode cX5_nextIn 59 = .ok (.aload_n 0, 1) := by decide +kernel
theorem dX5_nextIn_60 : decode cX5_nextIn 60 = .ok (.getfield 72, 3) := by decide +kernel
theorem dX5_nextIn_63 : decode cX5_nextIn 63 = .ok (.bipush 50, 2) := by decide +kernel
theorem dX5_nextIn_65 : decode cX5_nextIn 65 = .ok (.iload_n 1, 1) := by decide +kernel
theorem dX5_nextIn_66 : decode cX5_nextIn 66 = .ok (.imul, 1) := by decide +kernel
theorem dX5_nextIn_67 : decode cX5_nextIn 67 = .ok (.iload_n 3, 1) := by decide +kernel
theorem dX5_nextIn_68 : decode cX5_nextIn 68 = .ok (.iadd, 1) := by decide +kernel
theorem dX5_nextIn_69 : decode cX5_nextIn 69 = .ok (.iaload, 1) := by decide +kernel
theorem dX5_nextIn_70 : decode cX5_nextIn 70 = .ok (.if_icmp .ge 6, 3) := by decide +kernel
theorem dX5_nextIn_73 : decode cX5_nextIn 73 = .ok (.iload 4, 2) := by decide +kernel
theorem dX5_nextIn_75 : decode cX5_nextIn 75 = .ok (.istore_n 3, 1) := by decide +kernel
theorem dX5_nextIn_76 : decode cX5_nextIn 76 = .ok (.iinc 4 1, 3) := by decide +kernel
theorem dX5_nextIn_79 : decode cX5_nextIn 79 = .ok (.goto (-74), 3) := by decide +kernel
theorem dX5_nextIn_82 : decode cX5_nextIn 82 = .ok (.iload_n 3, 1) := by decide +kernel
theorem dX5_nextIn_83 : decode cX5_nextIn 83 = .ok (.ireturn, 1) := by decide +kernel
theorem dX5_reads_0 : decode cX5_reads 0 = .ok (.aload_n 0, 1) := by decide +kernel
theorem dX5_reads_1 : decode cX5_reads 1 = .ok (.getfield 44, 3) := by decide +kernel
theorem dX5_reads_4 : decode cX5_reads 4 = .ok (.iload_n 1, 1) := by decide +kernel
theorem dX5_reads_5 : decode cX5_reads 5 = .ok (.iaload, 1) := by decide +kernel
theorem dX5_reads_6 : decode cX5_reads 6 = .ok (.istore_n 2, 1) := by decide +kernel
theorem dX5_reads_7 : decode cX5_reads 7 = .ok (.aload_n 0, 1) := by decide +kernel
theorem dX5_reads_8 : decode cX5_reads 8 = .ok (.getfield 44, 3) := by decide +kernel
theorem dX5_reads_11 : decode cX5_reads 11 = .ok (.iload_n 1, 1) := by decide +kernel
theorem dX5_reads_12 : decode cX5_reads 12 = .ok (.dup2, 1) := by decide +kernel
theorem dX5_reads_13 : decode cX5_reads 13 = .ok (.iaload, 1) := by decide +kernel
theorem dX5_reads_14 : decode cX5_reads 14 = .ok (.iconst 1, 1) := by decide +kernel
theorem dX5_reads_15 : decode cX5_reads 15 = .ok (.iadd, 1) := by decide +kernel
theorem dX5_reads_16 : decode cX5_reads 16 = .ok (.iastore, 1) := by decide +kernel
theorem dX5_reads_17 : decode cX5_reads 17 = .ok (.aload_n 0, 1) := by decide +kernel
theorem dX5_reads_18 : decode cX5_reads 18 = .ok (.getfield 112, 3) := by decide +kernel
theorem dX5_reads_21 : decode cX5_reads 21 = .ok (.iconst (-1), 1) := by decide +kernel
theorem dX5_reads_22 : decode cX5_reads 22 = .ok (.if_icmp .eq 21, 3) := by decide +kernel
theorem dX5_reads_25 : decode cX5_reads 25 = .ok (.aload_n 0, 1) := by decide +kernel
theorem dX5_reads_26 : decode cX5_reads 26 = .ok (.getfield 112, 3) := by decide +kernel
theorem dX5_reads_29 : decode cX5_reads 29 = .ok (.iload_n 1, 1) := by decide +kernel
theorem dX5_reads_30 : decode cX5_reads 30 = .ok (.if_icmp .eq 13, 3) := by decide +kernel
theorem dX5_reads_33 : decode cX5_reads 33 = .ok (.aload_n 0, 1) := by decide +kernel
theorem dX5_reads_34 : decode cX5_reads 34 = .ok (.dup, 1) := by decide +kernel
theorem dX5_reads_35 : decode cX5_reads 35 = .ok (.getfield 115, 3) := by decide +kernel
theorem dX5_reads_38 : decode cX5_reads 38 = .ok (.iconst 1, 1) := by decide +kernel
theorem dX5_reads_39 : decode cX5_reads 39 = .ok (.iadd, 1) := by decide +kernel
theorem dX5_reads_40 : decode cX5_reads 40 = .ok (.putfield 115, 3) := by decide +kernel
theorem dX5_reads_43 : decode cX5_reads 43 = .ok (.aload_n 0, 1) := by decide +kernel
theorem dX5_reads_44 : decode cX5_reads 44 = .ok (.iload_n 1, 1) := by decide +kernel
theorem dX5_reads_45 : decode cX5_reads 45 = .ok (.putfield 112, 3) := by decide +kernel
theorem dX5_reads_48 : decode cX5_reads 48 = .ok (.iconst 1, 1) := by decide +kernel
theorem dX5_reads_49 : decode cX5_reads 49 = .ok (.istore_n 3, 1) := by decide +kernel
theorem dX5_reads_50 : decode cX5_reads 50 = .ok (.iconst 1, 1) := by decide +kernel
theorem dX5_reads_51 : decode cX5_reads 51 = .ok (.istore 4, 2) := by decide +kernel
theorem dX5_reads_53 : decode cX5_reads 53 = .ok (.iconst 0, 1) := by decide +kernel
theorem dX5_reads_54 : decode cX5_reads 54 = .ok (.istore 5, 2) := by decide +kernel
theorem dX5_reads_56 : decode cX5_reads 56 = .ok (.iload 5, 2) := by decide +kernel
theorem dX5_reads_58 : decode cX5_reads 58 = .ok (.aload_n 0, 1) := by decide +kernel
theorem dX5_reads_59 : decode cX5_reads 59 = .ok (.getfield 41, 3) := by decide +kernel
theorem dX5_reads_62 : decode cX5_reads 62 = .ok (.iload_n 1, 1) := by decide +kernel
theorem dX5_reads_63 : decode cX5_reads 63 = .ok (.iaload, 1) := by decide +kernel
theorem dX5_reads_64 : decode cX5_reads 64 = .ok (.if_icmp .ge 103, 3) := by decide +kernel
theorem dX5_reads_67 : decode cX5_reads 67 = .ok (.iload 4, 2) := by decide +kernel
theorem dX5_reads_69 : decode cX5_reads 69 = .ok (.ifCond .eq 98, 3) := by decide +kernel
theorem dX5_reads_72 : decode cX5_reads 72 = .ok (.iconst 4, 1) := by decide +kernel
theorem dX5_reads_73 : decode cX5_reads 73 = .ok (.iload_n 1, 1) := by decide +kernel
theorem dX5_reads_74 : decode cX5_reads 74 = .ok (.imul, 1) := by decide +kernel
theorem dX5_reads_75 : decode cX5_reads 75 = .ok (.aload_n 0, 1) := by decide +kernel
theorem dX5_reads_76 : decode cX5_reads 76 = .ok (.getfield 47, 3) := by decide +kernel
theorem dX5_reads_79 : decode cX5_reads 79 = .ok (.iconst 4, 1) := by decide +kernel
theorem dX5_reads_80 : decode cX5_reads 80 = .ok (.iload_n 1, 1) := by decide +kernel
theorem dX5_reads_81 : decode cX5_reads 81 = .ok (.imul, 1) := by decide +kernel
theorem dX5_reads_82 : decode cX5_reads 82 = .ok (.iload 5, 2) := by decide +kernel
theorem dX5_reads_84 : decode cX5_reads 84 = .ok (.iadd, 1) := by decide +kernel
theorem dX5_reads_85 : decode cX5_reads 85 = .ok (.iaload, 1) := by decide +kernel
theorem dX5_reads_86 : decode cX5_reads 86 = .ok (.iadd, 1) := by decide +kernel
theorem dX5_reads_87 : decode cX5_reads 87 = .ok (.istore 6, 2) := by decide +kernel
theorem dX5_reads_89 : decode cX5_reads 89 = .ok (.aload_n 0, 1) := by decide +kernel
theorem dX5_reads_90 : decode cX5_reads 90 = .ok (.getfield 54, 3) := by decide +kernel
theorem dX5_reads_93 : decode cX5_reads 93 = .ok (.iload 6, 2) := by decide +kernel
theorem dX5_reads_95 : decode cX5_reads 95 = .ok (.dup2, 1) := by decide +kernel
theorem dX5_reads_96 : decode cX5_reads 96 = .ok (.iaload, 1) := by decide +kernel
theorem dX5_reads_97 : decode cX5_reads 97 = .ok (.iconst 1, 1) := by decide +kernel
theorem dX5_reads_98 : decode cX5_reads 98 = .ok (.iadd, 1) := by decide +kernel
theorem dX5_reads_99 : decode cX5_reads 99 = .ok (.iastore, 1) := by decide +kernel
theorem dX5_reads_100 : decode cX5_reads 100 = .ok (.iload_n 3, 1) := by decide +kernel
theorem dX5_reads_101 : decode cX5_reads 101 = .ok (.aload_n 0, 1) := by decide +kernel
theorem dX5_reads_102 : decode cX5_reads 102 = .ok (.getfield 28, 3) := by decide +kernel
theorem dX5_reads_105 : decode cX5_reads 105 = .ok (.iload 6, 2) := by decide +kernel
theorem dX5_reads_107 : decode cX5_reads 107 = .ok (.iaload, 1) := by decide +kernel
theorem dX5_reads_108 : decode cX5_reads 108 = .ok (.iadd, 1) := by decide +kernel
theorem dX5_reads_109 : decode cX5_reads 109 = .ok (.istore_n 3, 1) := by decide +kernel
theorem dX5_reads_110 : decode cX5_reads 110 = .ok (.aload_n 0, 1) := by decide +kernel
theorem dX5_reads_111 : decode cX5_reads 111 = .ok (.getfield 60, 3) := by decide +kernel
theorem dX5_reads_114 : decode cX5_reads 114 = .ok (.iload_n 1, 1) := by decide +kernel
theorem dX5_reads_115 : decode cX5_reads 115 = .ok (.dup2, 1) := by decide +kernel
theorem dX5_reads_116 : decode cX5_reads 116 = .ok (.iaload, 1) := by decide +kernel
theorem dX5_reads_117 : decode cX5_reads 117 = .ok (.aload_n 0, 1) := by decide +kernel
theorem dX5_reads_118 : decode cX5_reads 118 = .ok (.getfield 28, 3) := by decide +kernel
theorem dX5_reads_121 : decode cX5_reads 121 = .ok (.iload 6, 2) := by decide +kernel
theorem dX5_reads_123 : decode cX5_reads 123 = .ok (.iaload, 1) := by decide +kernel
theorem dX5_reads_124 : decode cX5_reads 124 = .ok (.iadd, 1) := by decide +kernel
theorem dX5_reads_125 : decode cX5_reads 125 = .ok (.iastore, 1) := by decide +kernel
theorem dX5_reads_126 : decode cX5_reads 126 = .ok (.aload_n 0, 1) := by decide +kernel
theorem dX5_reads_127 : decode cX5_reads 127 = .ok (.iload_n 1, 1) := by decide +kernel
theorem dX5_reads_128 : decode cX5_reads 128 = .ok (.iload_n 2, 1) := by decide +kernel
theorem dX5_reads_129 : decode cX5_reads 129 = .ok (.aload_n 0, 1) := by decide +kernel
theorem dX5_reads_130 : decode cX5_reads 130 = .ok (.getfield 47, 3) := by decide +kernel
theorem dX5_reads_133 : decode cX5_reads 133 = .ok (.iconst 4, 1) := by decide +kernel
theorem dX5_reads_134 : decode cX5_reads 134 = .ok (.iload_n 1, 1) := by decide +kernel
theorem dX5_reads_135 : decode cX5_reads 135 = .ok (.imul, 1) := by decide +kernel
theorem dX5_reads_136 : decode cX5_reads 136 = .ok (.iload 5, 2) := by decide +kernel
theorem dX5_reads_138 : decode cX5_reads 138 = .ok (.iadd, 1) := by decide +kernel
theorem dX5_reads_139 : decode cX5_reads 139 = .ok (.iaload, 1) := by decide +kernel
theorem dX5_reads_140 : decode cX5_reads 140 = .ok (.invokevirtual 135, 3) := by decide +kernel
theorem dX5_reads_143 : decode cX5_reads 143 = .ok (.istore 4, 2) := by decide +kernel
theorem dX5_reads_145 : decode cX5_reads 145 = .ok (.iload 4, 2) := by decide +kernel
theorem dX5_reads_147 : decode cX5_reads 147 = .ok (.ifCond .ne 14, 3) := by decide +kernel
theorem dX5_reads_150 : decode cX5_reads 150 = .ok (.aload_n 0, 1) := by decide +kernel
theorem dX5_reads_151 : decode cX5_reads 151 = .ok (.getfield 57, 3) := by decide +kernel
theorem dX5_reads_154 : decode cX5_reads 154 = .ok (.iload 6, 2) := by decide +kernel
theorem dX5_reads_156 : decode cX5_reads 156 = .ok (.dup2, 1) := by decide +kernel
theorem dX5_reads_157 : decode cX5_reads 157 = .ok (.iaload, 1) := by decide +kernel
theorem dX5_reads_158 : decode cX5_reads 158 = .ok (.iconst 1, 1) := by decide +kernel
theorem dX5_reads_159 : decode cX5_reads 159 = .ok (.iadd, 1) := by decide +kernel
theorem dX5_reads_160 : decode cX5_reads 160 = .ok (.iastore, 1) := by decide +kernel
theorem dX5_reads_161 : decode cX5_reads 161 = .ok (.iinc 5 1, 3) := by decide +kernel
theorem dX5_reads_164 : decode cX5_reads 164 = .ok (.goto (-108), 3) := by decide +kernel
theorem dX5_reads_167 : decode cX5_reads 167 = .ok (.aload_n 0, 1) := by decide +kernel
theorem dX5_reads_168 : decode cX5_reads 168 = .ok (.getfield 69, 3) := by decide +kernel
theorem dX5_reads_171 : decode cX5_reads 171 = .ok (.bipush 50, 2) := by decide +kernel
theorem dX5_reads_173 : decode cX5_reads 173 = .ok (.iload_n 1, 1) := by decide +kernel
theorem dX5_reads_174 : decode cX5_reads 174 = .ok (.imul, 1) := by decide +kernel
theorem dX5_reads_175 : decode cX5_reads 175 = .ok (.iload_n 2, 1) := by decide +kernel
theorem dX5_reads_176 : decode cX5_reads 176 = .ok (.iadd, 1) := by decide +kernel
theorem dX5_reads_177 : decode cX5_reads 177 = .ok (.iconst 1, 1) := by decide +kernel
theorem dX5_reads_178 : decode cX5_reads 178 = .ok (.iastore, 1) := by decide +kernel
theorem dX5_reads_179 : decode cX5_reads 179 = .ok (.iload 4, 2) := by decide +kernel
theorem dX5_reads_181 : decode cX5_reads 181 = .ok (.ifCond .eq 12, 3) := by decide +kernel
theorem dX5_reads_184 : decode cX5_reads 184 = .ok (.iload_n 3, 1) := by decide +kernel
theorem dX5_reads_185 : decode cX5_reads 185 = .ok (.aload_n 0, 1) := by decide +kernel
theorem dX5_reads_186 : decode cX5_reads 186 = .ok (.iload_n 1, 1) := by decide +kernel
theorem dX5_reads_187 : decode cX5_reads 187 = .ok (.iload_n 2, 1) := by decide +kernel
theorem dX5_reads_188 : decode cX5_reads 188 = .ok (.invokevirtual 138, 3) := by decide +kernel
theorem dX5_reads_191 : decode cX5_reads 191 = .ok (.iadd, 1) := by decide +kernel
theorem dX5_reads_192 : decode cX5_reads 192 = .ok (.istore_n 3, 1) := by decide +kernel
theorem dX5_reads_193 : decode cX5_reads 193 = .ok (.aload_n 0, 1) := by decide +kernel
theorem dX5_reads_194 : decode cX5_reads 194 = .ok (.dup, 1) := by decide +kernel
theorem dX5_reads_195 : decode cX5_reads 195 = .ok (.getfield 106, 3) := by decide +kernel
theorem dX5_reads_198 : decode cX5_reads 198 = .ok (.iload_n 3, 1) := by decide +kernel
theorem dX5_reads_199 : decode cX5_reads 199 = .ok (.iadd, 1) := by decide +kernel
theorem dX5_reads_200 : decode cX5_reads 200 = .ok (.putfield 106, 3) := by decide +kernel
theorem dX5_reads_203 : decode cX5_reads 203 = .ok (.aload_n 0, 1) := by decide +kernel
theorem dX5_reads_204 : decode cX5_reads 204 = .ok (.getfield 63, 3) := by decide +kernel
theorem dX5_reads_207 : decode cX5_reads 207 = .ok (.iload_n 1, 1) := by decide +kernel
theorem dX5_reads_208 : decode cX5_reads 208 = .ok (.dup2, 1) := by decide +kernel
theorem dX5_reads_209 : decode cX5_reads 209 = .ok (.iaload, 1) := by decide +kernel
theorem dX5_reads_210 : decode cX5_reads 210 = .ok (.iload_n 3, 1) := by decide +kernel
theorem dX5_reads_211 : decode cX5_reads 211 = .ok (.iadd, 1) := by decide +kernel
theorem dX5_reads_212 : decode cX5_reads 212 = .ok (.iastore, 1) := by decide +kernel
theorem dX5_reads_213 : decode cX5_reads 213 = .ok (.aload_n 0, 1) := by decide +kernel
theorem dX5_reads_214 : decode cX5_reads 214 = .ok (.getfield 44, 3) := by decide +kernel
theorem dX5_reads_217 : decode cX5_reads 217 = .ok (.iload_n 1, 1) := by decide +kernel
theorem dX5_reads_218 : decode cX5_reads 218 = .ok (.iaload, 1) := by decide +kernel
theorem dX5_reads_219 : decode cX5_reads 219 = .ok (.iconst 4, 1) := by decide +kernel
theorem dX5_reads_220 : decode cX5_reads 220 = .ok (.irem, 1) := by decide +kernel
theorem dX5_reads_221 : decode cX5_reads 221 = .ok (.ifCond .ne 8, 3) := by decide +kernel
theorem dX5_reads_224 : decode cX5_reads 224 = .ok (.aload_n 0, 1) := by decide +kernel
theorem dX5_reads_225 : decode cX5_reads 225 = .ok (.iload_n 1, 1) := by decide +kernel
theorem dX5_reads_226 : decode cX5_reads 226 = .ok (.invokevirtual 142, 3) := by decide +kernel
theorem dX5_reads_229 : decode cX5_reads 229 = .ok (.return_, 1) := by decide +kernel
theorem dX5_finds_0 : decode cX5_finds 0 = .ok (.iconst 0, 1) := by decide +kernel
theorem dX5_finds_1 : decode cX5_finds 1 = .ok (.istore_n 3, 1) := by decide +kernel
theorem dX5_finds_2 : decode cX5_finds 2 = .ok (.iconst (-1), 1) := by decide +kernel
theorem dX5_finds_3 : decode cX5_finds 3 = .ok (.istore 4, 2) := by decide +kernel
theorem dX5_finds_5 : decode cX5_finds 5 = .ok (.aload_n 0, 1) := by decide +kernel
theorem dX5_finds_6 : decode cX5_finds 6 = .ok (.iconst 1, 1) := by decide +kernel
theorem dX5_finds_7 : decode cX5_finds 7 = .ok (.iload_n 1, 1) := by decide +kernel
theorem dX5_finds_8 : decode cX5_finds 8 = .ok (.isub, 1) := by decide +kernel
theorem dX5_finds_9 : decode cX5_finds 9 = .ok (.iload 4, 2) := by decide +kernel
theorem dX5_finds_11 : decode cX5_finds 11 = .ok (.invokevirtual 145, 3) := by decide +kernel
theorem dX5_finds_14 : decode cX5_finds 14 = .ok (.istore 5, 2) := by decide +kernel
theorem dX5_finds_16 : decode cX5_finds 16 = .ok (.iload 5, 2) := by decide +kernel
theorem dX5_finds_18 : decode cX5_finds 18 = .ok (.iconst (-1), 1) := by decide +kernel
theorem dX5_finds_19 : decode cX5_finds 19 = .ok (.if_icmp .eq 79, 3) := by decide +kernel
theorem dX5_finds_22 : decode cX5_finds 22 = .ok (.aload_n 0, 1) := by decide +kernel
theorem dX5_finds_23 : decode cX5_finds 23 = .ok (.getfield 72, 3) := by decide +kernel
theorem dX5_finds_26 : decode cX5_finds 26 = .ok (.bipush 50, 2) := by decide +kernel
theorem dX5_finds_28 : decode cX5_finds 28 = .ok (.iconst 1, 1) := by decide +kernel
theorem dX5_finds_29 : decode cX5_finds 29 = .ok (.iload_n 1, 1) := by decide +kernel
theorem dX5_finds_30 : decode cX5_finds 30 = .ok (.isub, 1) := by decide +kernel
theorem dX5_finds_31 : decode cX5_finds 31 = .ok (.imul, 1) := by decide +kernel
theorem dX5_finds_32 : decode cX5_finds 32 = .ok (.iload 5, 2) := by decide +kernel
theorem dX5_finds_34 : decode cX5_finds 34 = .ok (.iadd, 1) := by decide +kernel
theorem dX5_finds_35 : decode cX5_finds 35 = .ok (.iaload, 1) := by decide +kernel
theorem dX5_finds_36 : decode cX5_finds 36 = .ok (.istore 4, 2) := by decide +kernel
theorem dX5_finds_38 : decode cX5_finds 38 = .ok (.iload_n 1, 1) := by decide +kernel
theorem dX5_finds_39 : decode cX5_finds 39 = .ok (.ifCond .ne 7, 3) := by decide +kernel
theorem dX5_finds_42 : decode cX5_finds 42 = .ok (.iload_n 2, 1) := by decide +kernel
theorem dX5_finds_43 : decode cX5_finds 43 = .ok (.goto 5, 3) := by decide +kernel
theorem dX5_finds_46 : decode cX5_finds 46 = .ok (.iload 5, 2) := by decide +kernel
theorem dX5_finds_48 : decode cX5_finds 48 = .ok (.istore 6, 2) := by decide +kernel
theorem dX5_finds_50 : decode cX5_finds 50 = .ok (.iload_n 1, 1) := by decide +kernel
theorem dX5_finds_51 : decode cX5_finds 51 = .ok (.ifCond .ne 8, 3) := by decide +kernel
theorem dX5_finds_54 : decode cX5_finds 54 = .ok (.iload 5, 2) := by decide +kernel
theorem dX5_finds_56 : decode cX5_finds 56 = .ok (.goto 4, 3) := by decide +kernel
theorem dX5_finds_59 : decode cX5_finds 59 = .ok (.iload_n 2, 1) := by decide +kernel
theorem dX5_finds_60 : decode cX5_finds 60 = .ok (.istore 7, 2) := by decide +kernel
theorem dX5_finds_62 : decode cX5_finds 62 = .ok (.aload_n 0, 1) := by decide +kernel
theorem dX5_finds_63 : decode cX5_finds 63 = .ok (.iload 6, 2) := by decide +kernel
theorem dX5_finds_65 : decode cX5_finds 65 = .ok (.iload 7, 2) := by decide +kernel
theorem dX5_finds_67 : decode cX5_finds 67 = .ok (.invokevirtual 124, 3) := by decide +kernel
theorem dX5_finds_70 : decode cX5_finds 70 = .ok (.ifCond .eq 14, 3) := by decide +kernel
theorem dX5_finds_73 : decode cX5_finds 73 = .ok (.aload_n 0, 1) := by decide +kernel
theorem dX5_finds_74 : decode cX5_finds 74 = .ok (.iload 6, 2) := by decide +kernel
theorem dX5_finds_76 : decode cX5_finds 76 = .ok (.iload 7, 2) := by decide +kernel
theorem dX5_finds_78 : decode cX5_finds 78 = .ok (.invokevirtual 148, 3) := by decide +kernel
theorem dX5_finds_81 : decode cX5_finds 81 = .ok (.iinc 3 1, 3) := by decide +kernel
theorem dX5_finds_84 : decode cX5_finds 84 = .ok (.aload_n 0, 1) := by decide +kernel
theorem dX5_finds_85 : decode cX5_finds 85 = .ok (.iconst 1, 1) := by decide +kernel
theorem dX5_finds_86 : decode cX5_finds 86 = .ok (.iload_n 1, 1) := by decide +kernel
theorem dX5_finds_87 : decode cX5_finds 87 = .ok (.isub, 1) := by decide +kernel
theorem dX5_finds_88 : decode cX5_finds 88 = .ok (.iload 4, 2) := by decide +kernel
theorem dX5_finds_90 : decode cX5_finds 90 = .ok (.invokevirtual 145, 3) := by decide +kernel
theorem dX5_finds_93 : decode cX5_finds 93 = .ok (.istore 5, 2) := by decide +kernel
theorem dX5_finds_95 : decode cX5_finds 95 = .ok (.goto (-79), 3) := by decide +kernel
theorem dX5_finds_98 : decode cX5_finds 98 = .ok (.aload_n 0, 1) := by decide +kernel
theorem dX5_finds_99 : decode cX5_finds 99 = .ok (.getfield 66, 3) := by decide +kernel
theorem dX5_finds_102 : decode cX5_finds 102 = .ok (.iload_n 1, 1) := by decide +kernel
theorem dX5_finds_103 : decode cX5_finds 103 = .ok (.dup2, 1) := by decide +kernel
theorem dX5_finds_104 : decode cX5_finds 104 = .ok (.iaload, 1) := by decide +kernel
theorem dX5_finds_105 : decode cX5_finds 105 = .ok (.iload_n 3, 1) := by decide +kernel
theorem dX5_finds_106 : decode cX5_finds 106 = .ok (.iadd, 1) := by decide +kernel
theorem dX5_finds_107 : decode cX5_finds 107 = .ok (.iastore, 1) := by decide +kernel
theorem dX5_finds_108 : decode cX5_finds 108 = .ok (.aload_n 0, 1) := by decide +kernel
theorem dX5_finds_109 : decode cX5_finds 109 = .ok (.getfield 69, 3) := by decide +kernel
theorem dX5_finds_112 : decode cX5_finds 112 = .ok (.bipush 50, 2) := by decide +kernel
theorem dX5_finds_114 : decode cX5_finds 114 = .ok (.iload_n 1, 1) := by decide +kernel
theorem dX5_finds_115 : decode cX5_finds 115 = .ok (.imul, 1) := by decide +kernel
theorem dX5_finds_116 : decode cX5_finds 116 = .ok (.iload_n 2, 1) := by decide +kernel
theorem dX5_finds_117 : decode cX5_finds 117 = .ok (.iadd, 1) := by decide +kernel
theorem dX5_finds_118 : decode cX5_finds 118 = .ok (.iconst 2, 1) := by decide +kernel
theorem dX5_finds_119 : decode cX5_finds 119 = .ok (.iastore, 1) := by decide +kernel
theorem dX5_finds_120 : decode cX5_finds 120 = .ok (.aload_n 0, 1) := by decide +kernel
theorem dX5_finds_121 : decode cX5_finds 121 = .ok (.getfield 72, 3) := by decide +kernel
theorem dX5_finds_124 : decode cX5_finds 124 = .ok (.bipush 50, 2) := by decide +kernel
theorem dX5_finds_126 : decode cX5_finds 126 = .ok (.iload_n 1, 1) := by decide +kernel
theorem dX5_finds_127 : decode cX5_finds 127 = .ok (.imul, 1) := by decide +kernel
theorem dX5_finds_128 : decode cX5_finds 128 = .ok (.iload_n 2, 1) := by decide +kernel
theorem dX5_finds_129 : decode cX5_finds 129 = .ok (.iadd, 1) := by decide +kernel
theorem dX5_finds_130 : decode cX5_finds 130 = .ok (.aload_n 0, 1) := by decide +kernel
theorem dX5_finds_131 : decode cX5_finds 131 = .ok (.getfield 100, 3) := by decide +kernel
theorem dX5_finds_134 : decode cX5_finds 134 = .ok (.iastore, 1) := by decide +kernel
theorem dX5_finds_135 : decode cX5_finds 135 = .ok (.aload_n 0, 1) := by decide +kernel
theorem dX5_finds_136 : decode cX5_finds 136 = .ok (.dup, 1) := by decide +kernel
theorem dX5_finds_137 : decode cX5_finds 137 = .ok (.getfield 100, 3) := by decide +kernel
theorem dX5_finds_140 : decode cX5_finds 140 = .ok (.iconst 1, 1) := by decide +kernel
theorem dX5_finds_141 : decode cX5_finds 141 = .ok (.iadd, 1) := by decide +kernel
theorem dX5_finds_142 : decode cX5_finds 142 = .ok (.putfield 100, 3) := by decide +kernel
theorem dX5_finds_145 : decode cX5_finds 145 = .ok (.aload_n 0, 1) := by decide +kernel
theorem dX5_finds_146 : decode cX5_finds 146 = .ok (.invokevirtual 152, 3) := by decide +kernel
theorem dX5_finds_149 : decode cX5_finds 149 = .ok (.iload_n 3, 1) := by decide +kernel
theorem dX5_finds_150 : decode cX5_finds 150 = .ok (.ireturn, 1) := by decide +kernel
theorem dX5_inMemory_0 : decode cX5_inMemory 0 = .ok (.iconst 0, 1) := by decide +kernel
theorem dX5_inMemory_1 : decode cX5_inMemory 1 = .ok (.istore_n 1, 1) := by decide +kernel
theorem dX5_inMemory_2 : decode cX5_inMemory 2 = .ok (.iconst 0, 1) := by decide +kernel
theorem dX5_inMemory_3 : decode cX5_inMemory 3 = .ok (.istore_n 2, 1) := by decide +kernel
theorem dX5_inMemory_4 : decode cX5_inMemory 4 = .ok (.iload_n 2, 1) := by decide +kernel
theorem dX5_inMemory_5 : decode cX5_inMemory 5 = .ok (.bipush 100, 2) := by decide +kernel
theorem dX5_inMemory_7 : decode cX5_inMemory 7 = .ok (.if_icmp .ge 27, 3) := by decide +kernel
theorem dX5_inMemory_10 : decode cX5_inMemory 10 = .ok (.iload_n 1, 1) := by decide +kernel
theorem dX5_inMemory_11 : decode cX5_inMemory 11 = .ok (.aload_n 0, 1) := by decide +kernel
theorem dX5_inMemory_12 : decode cX5_inMemory 12 = .ok (.getfield 69, 3) := by decide +kernel
theorem dX5_inMemory_15 : decode cX5_inMemory 15 = .ok (.iload_n 2, 1) := by decide +kernel
theorem dX5_inMemory_16 : decode cX5_inMemory 16 = .ok (.iaload, 1) := by decide +kernel
theorem dX5_inMemory_17 : decode cX5_inMemory 17 = .ok (.iconst 2, 1) := by decide +kernel
theorem dX5_inMemory_18 : decode cX5_inMemory 18 = .ok (.if_icmp .ne 7, 3) := by decide +kernel
theorem dX5_inMemory_21 : decode cX5_inMemory 21 = .ok (.iconst 1, 1) := by decide +kernel
theorem dX5_inMemory_22 : decode cX5_inMemory 22 = .ok (.goto 4, 3) := by decide +kernel
theorem dX5_inMemory_25 : decode cX5_inMemory 25 = .ok (.iconst 0, 1) := by decide +kernel
theorem dX5_inMemory_26 : decode cX5_inMemory 26 = .ok (.iadd, 1) := by decide +kernel
theorem dX5_inMemory_27 : decode cX5_inMemory 27 = .ok (.istore_n 1, 1) := by decide +kernel
theorem dX5_inMemory_28 : decode cX5_inMemory 28 = .ok (.iinc 2 1, 3) := by decide +kernel
theorem dX5_inMemory_31 : decode cX5_inMemory 31 = .ok (.goto (-27), 3) := by decide +kernel
theorem dX5_inMemory_34 : decode cX5_inMemory 34 = .ok (.iload_n 1, 1) := by decide +kernel
theorem dX5_inMemory_35 : decode cX5_inMemory 35 = .ok (.ireturn, 1) := by decide +kernel
theorem dX5_spills_0 : decode cX5_spills 0 = .ok (.aload_n 0, 1) := by decide +kernel
theorem dX5_spills_1 : decode cX5_spills 1 = .ok (.invokevirtual 155, 3) := by decide +kernel
theorem dX5_spills_4 : decode cX5_spills 4 = .ok (.aload_n 0, 1) := by decide +kernel
theorem dX5_spills_5 : decode cX5_spills 5 = .ok (.getfield 34, 3) := by decide +kernel
theorem dX5_spills_8 : decode cX5_spills 8 = .ok (.if_icmp .le 71, 3) := by decide +kernel
theorem dX5_spills_11 : decode cX5_spills 11 = .ok (.iconst (-1), 1) := by decide +kernel
theorem dX5_spills_12 : decode cX5_spills 12 = .ok (.istore_n 1, 1) := by decide +kernel
theorem dX5_spills_13 : decode cX5_spills 13 = .ok (.iconst 0, 1) := by decide +kernel
theorem dX5_spills_14 : decode cX5_spills 14 = .ok (.istore_n 2, 1) := by decide +kernel
theorem dX5_spills_15 : decode cX5_spills 15 = .ok (.iload_n 2, 1) := by decide +kernel
theorem dX5_spills_16 : decode cX5_spills 16 = .ok (.bipush 100, 2) := by decide +kernel
theorem dX5_spills_18 : decode cX5_spills 18 = .ok (.if_icmp .ge 41, 3) := by decide +kernel
theorem dX5_spills_21 : decode cX5_spills 21 = .ok (.aload_n 0, 1) := by decide +kernel
theorem dX5_spills_22 : decode cX5_spills 22 = .ok (.getfield 69, 3) := by decide +kernel
theorem dX5_spills_25 : decode cX5_spills 25 = .ok (.iload_n 2, 1) := by decide +kernel
theorem dX5_spills_26 : decode cX5_spills 26 = .ok (.iaload, 1) := by decide +kernel
theorem dX5_spills_27 : decode cX5_spills 27 = .ok (.iconst 2, 1) := by decide +kernel
theorem dX5_spills_28 : decode cX5_spills 28 = .ok (.if_icmp .ne 25, 3) := by decide +kernel
theorem dX5_spills_31 : decode cX5_spills 31 = .ok (.iload_n 1, 1) := by decide +kernel
theorem dX5_spills_32 : decode cX5_spills 32 = .ok (.iconst (-1), 1) := by decide +kernel
theorem dX5_spills_33 : decode cX5_spills 33 = .ok (.if_icmp .eq 18, 3) := by decide +kernel
theorem dX5_spills_36 : decode cX5_spills 36 = .ok (.aload_n 0, 1) := by decide +kernel
theorem dX5_spills_37 : decode cX5_spills 37 = .ok (.getfield 72, 3) := by decide +kernel
theorem dX5_spills_40 : decode cX5_spills 40 = .ok (.iload_n 2, 1) := by decide +kernel
theorem dX5_spills_41 : decode cX5_spills 41 = .ok (.iaload, 1) := by decide +kernel
theorem dX5_spills_42 : decode cX5_spills 42 = .ok (.aload_n 0, 1) := by decide +kernel
theorem dX5_spills_43 : decode cX5_spills 43 = .ok (.getfield 72, 3) := by decide +kernel
theorem dX5_spills_46 : decode cX5_spills 46 = .ok (.iload_n 1, 1) := by decide +kernel
theorem dX5_spills_47 : decode cX5_spills 47 = .ok (.iaload, 1) := by decide +kernel
theorem dX5_spills_48 : decode cX5_spills 48 = .ok (.if_icmp .ge 5, 3) := by decide +kernel
theorem dX5_spills_51 : decode cX5_spills 51 = .ok (.iload_n 2, 1) := by decide +kernel
theorem dX5_spills_52 : decode cX5_spills 52 = .ok (.istore_n 1, 1) := by decide +kernel
theorem dX5_spills_53 : decode cX5_spills 53 = .ok (.iinc 2 1, 3) := by decide +kernel
theorem dX5_spills_56 : decode cX5_spills 56 = .ok (.goto (-41), 3) := by decide +kernel
theorem dX5_spills_59 : decode cX5_spills 59 = .ok (.aload_n 0, 1) := by decide +kernel
theorem dX5_spills_60 : decode cX5_spills 60 = .ok (.getfield 69, 3) := by decide +kernel
theorem dX5_spills_63 : decode cX5_spills 63 = .ok (.iload_n 1, 1) := by decide +kernel
theorem dX5_spills_64 : decode cX5_spills 64 = .ok (.iconst 3, 1) := by decide +kernel
theorem dX5_spills_65 : decode cX5_spills 65 = .ok (.iastore, 1) := by decide +kernel
theorem dX5_spills_66 : decode cX5_spills 66 = .ok (.aload_n 0, 1) := by decide +kernel
theorem dX5_spills_67 : decode cX5_spills 67 = .ok (.dup, 1) := by decide +kernel
theorem dX5_spills_68 : decode cX5_spills 68 = .ok (.getfield 109, 3) := by decide +kernel
theorem dX5_spills_71 : decode cX5_spills 71 = .ok (.iconst 1, 1) := by decide +kernel
theorem dX5_spills_72 : decode cX5_spills 72 = .ok (.iadd, 1) := by decide +kernel
theorem dX5_spills_73 : decode cX5_spills 73 = .ok (.putfield 109, 3) := by decide +kernel
theorem dX5_spills_76 : decode cX5_spills 76 = .ok (.goto (-76), 3) := by decide +kernel
theorem dX5_spills_79 : decode cX5_spills 79 = .ok (.return_, 1) := by decide +kernel
theorem dX5_isCheaper_0 : decode cX5_isCheaper 0 = .ok (.iconst 4, 1) := by decide +kernel
theorem dX5_isCheaper_1 : decode cX5_isCheaper 1 = .ok (.iload_n 1, 1) := by decide +kernel
theorem dX5_isCheaper_2 : decode cX5_isCheaper 2 = .ok (.imul, 1) := by decide +kernel
theorem dX5_isCheaper_3 : decode cX5_isCheaper 3 = .ok (.iload_n 2, 1) := by decide +kernel
theorem dX5_isCheaper_4 : decode cX5_isCheaper 4 = .ok (.iadd, 1) := by decide +kernel
theorem dX5_isCheaper_5 : decode cX5_isCheaper 5 = .ok (.istore 4, 2) := by decide +kernel
theorem dX5_isCheaper_7 : decode cX5_isCheaper 7 = .ok (.iconst 4, 1) := by decide +kernel
theorem dX5_isCheaper_8 : decode cX5_isCheaper 8 = .ok (.iload_n 1, 1) := by decide +kernel
theorem dX5_isCheaper_9 : decode cX5_isCheaper 9 = .ok (.imul, 1) := by decide +kernel
theorem dX5_isCheaper_10 : decode cX5_isCheaper 10 = .ok (.iload_n 3, 1) := by decide +kernel
theorem dX5_isCheaper_11 : decode cX5_isCheaper 11 = .ok (.iadd, 1) := by decide +kernel
theorem dX5_isCheaper_12 : decode cX5_isCheaper 12 = .ok (.istore 5, 2) := by decide +kernel
theorem dX5_isCheaper_14 : decode cX5_isCheaper 14 = .ok (.aload_n 0, 1) := by decide +kernel
theorem dX5_isCheaper_15 : decode cX5_isCheaper 15 = .ok (.getfield 28, 3) := by decide +kernel
theorem dX5_isCheaper_18 : decode cX5_isCheaper 18 = .ok (.iload 4, 2) := by decide +kernel
theorem dX5_isCheaper_20 : decode cX5_isCheaper 20 = .ok (.iaload, 1) := by decide +kernel
theorem dX5_isCheaper_21 : decode cX5_isCheaper 21 = .ok (.i2l, 1) := by decide +kernel
theorem dX5_isCheaper_22 : decode cX5_isCheaper 22 = .ok (.aload_n 0, 1) := by decide +kernel
theorem dX5_isCheaper_23 : decode cX5_isCheaper 23 = .ok (.getfield 54, 3) := by decide +kernel
theorem dX5_isCheaper_26 : decode cX5_isCheaper 26 = .ok (.iload 4, 2) := by decide +kernel
theorem dX5_isCheaper_28 : decode cX5_isCheaper 28 = .ok (.iaload, 1) := by decide +kernel
theorem dX5_isCheaper_29 : decode cX5_isCheaper 29 = .ok (.iconst 2, 1) := by decide +kernel
theorem dX5_isCheaper_30 : decode cX5_isCheaper 30 = .ok (.iadd, 1) := by decide +kernel
theorem dX5_isCheaper_31 : decode cX5_isCheaper 31 = .ok (.i2l, 1) := by decide +kernel
theorem dX5_isCheaper_32 : decode cX5_isCheaper 32 = .ok (.lmul, 1) := by decide +kernel
theorem dX5_isCheaper_33 : decode cX5_isCheaper 33 = .ok (.aload_n 0, 1) := by decide +kernel
theorem dX5_isCheaper_34 : decode cX5_isCheaper 34 = .ok (.getfield 57, 3) := by decide +kernel
theorem dX5_isCheaper_37 : decode cX5_isCheaper 37 = .ok (.iload 5, 2) := by decide +kernel
theorem dX5_isCheaper_39 : decode cX5_isCheaper 39 = .ok (.iaload, 1) := by decide +kernel
theorem dX5_isCheaper_40 : decode cX5_isCheaper 40 = .ok (.iconst 1, 1) := by decide +kernel
theorem dX5_isCheaper_41 : decode cX5_isCheaper 41 = .ok (.iadd, 1) := by decide +kernel
theorem dX5_isCheaper_42 : decode cX5_isCheaper 42 = .ok (.i2l, 1) := by decide +kernel
theorem dX5_isCheaper_43 : decode cX5_isCheaper 43 = .ok (.lmul, 1) := by decide +kernel
theorem dX5_isCheaper_44 : decode cX5_isCheaper 44 = .ok (.lstore 6, 2) := by decide +kernel
theorem dX5_isCheaper_46 : decode cX5_isCheaper 46 = .ok (.aload_n 0, 1) := by decide +kernel
theorem dX5_isCheaper_47 : decode cX5_isCheaper 47 = .ok (.getfield 28, 3) := by decide +kernel
theorem dX5_isCheaper_50 : decode cX5_isCheaper 50 = .ok (.iload 5, 2) := by decide +kernel
theorem dX5_isCheaper_52 : decode cX5_isCheaper 52 = .ok (.iaload, 1) := by decide +kernel
theorem dX5_isCheaper_53 : decode cX5_isCheaper 53 = .ok (.i2l, 1) := by decide +kernel
theorem dX5_isCheaper_54 : decode cX5_isCheaper 54 = .ok (.aload_n 0, 1) := by decide +kernel
theorem dX5_isCheaper_55 : decode cX5_isCheaper 55 = .ok (.getfield 54, 3) := by decide +kernel
theorem dX5_isCheaper_58 : decode cX5_isCheaper 58 = .ok (.iload 5, 2) := by decide +kernel
theorem dX5_isCheaper_60 : decode cX5_isCheaper 60 = .ok (.iaload, 1) := by decide +kernel
theorem dX5_isCheaper_61 : decode cX5_isCheaper 61 = .ok (.iconst 2, 1) := by decide +kernel
theorem dX5_isCheaper_62 : decode cX5_isCheaper 62 = .ok (.iadd, 1) := by decide +kernel
theorem dX5_isCheaper_63 : decode cX5_isCheaper 63 = .ok (.i2l, 1) := by decide +kernel
theorem dX5_isCheaper_64 : decode cX5_isCheaper 64 = .ok (.lmul, 1) := by decide +kernel
theorem dX5_isCheaper_65 : decode cX5_isCheaper 65 = .ok (.aload_n 0, 1) := by decide +kernel
theorem dX5_isCheaper_66 : decode cX5_isCheaper 66 = .ok (.getfield 57, 3) := by decide +kernel
theorem dX5_isCheaper_69 : decode cX5_isCheaper 69 = .ok (.iload 4, 2) := by decide +kernel
theorem dX5_isCheaper_71 : decode cX5_isCheaper 71 = .ok (.iaload, 1) := by decide +kernel
theorem dX5_isCheaper_72 : decode cX5_isCheaper 72 = .ok (.iconst 1, 1) := by decide +kernel
theorem dX5_isCheaper_73 : decode cX5_isCheaper 73 = .ok (.iadd, 1) := by decide +kernel
theorem dX5_isCheaper_74 : decode cX5_isCheaper 74 = .ok (.i2l, 1) := by decide +kernel
theorem dX5_isCheaper_75 : decode cX5_isCheaper 75 = .ok (.lmul, 1) := by decide +kernel
theorem dX5_isCheaper_76 : decode cX5_isCheaper 76 = .ok (.lstore 8, 2) := by decide +kernel
theorem dX5_isCheaper_78 : decode cX5_isCheaper 78 = .ok (.lload 6, 2) := by decide +kernel
theorem dX5_isCheaper_80 : decode cX5_isCheaper 80 = .ok (.lload 8, 2) := by decide +kernel
theorem dX5_isCheaper_82 : decode cX5_isCheaper 82 = .ok (.lcmp, 1) := by decide +kernel
theorem dX5_isCheaper_83 : decode cX5_isCheaper 83 = .ok (.ifCond .lt 16, 3) := by decide +kernel
theorem dX5_isCheaper_86 : decode cX5_isCheaper 86 = .ok (.lload 6, 2) := by decide +kernel
theorem dX5_isCheaper_88 : decode cX5_isCheaper 88 = .ok (.lload 8, 2) := by decide +kernel
theorem dX5_isCheaper_90 : decode cX5_isCheaper 90 = .ok (.lcmp, 1) := by decide +kernel
theorem dX5_isCheaper_91 : decode cX5_isCheaper 91 = .ok (.ifCond .ne 12, 3) := by decide +kernel
theorem dX5_isCheaper_94 : decode cX5_isCheaper 94 = .ok (.iload_n 2, 1) := by decide +kernel
theorem dX5_isCheaper_95 : decode cX5_isCheaper 95 = .ok (.iload_n 3, 1) := by decide +kernel
theorem dX5_isCheaper_96 : decode cX5_isCheaper 96 = .ok (.if_icmp .ge 7, 3) := by decide +kernel
theorem dX5_isCheaper_99 : decode cX5_isCheaper 99 = .ok (.iconst 1, 1) := by decide +kernel
theorem dX5_isCheaper_100 : decode cX5_isCheaper 100 = .ok (.goto 4, 3) := by decide +kernel
theorem dX5_isCheaper_103 : decode cX5_isCheaper 103 = .ok (.iconst 0, 1) := by decide +kernel
theorem dX5_isCheaper_104 : decode cX5_isCheaper 104 = .ok (.ireturn, 1) := by decide +kernel
theorem dX5_turns_0 : decode cX5_turns 0 = .ok (.aload_n 0, 1) := by decide +kernel
theorem dX5_turns_1 : decode cX5_turns 1 = .ok (.getfield 50, 3) := by decide +kernel
theorem dX5_turns_4 : decode cX5_turns 4 = .ok (.iload_n 1, 1) := by decide +kernel
theorem dX5_turns_5 : decode cX5_turns 5 = .ok (.baload, 1) := by decide +kernel
theorem dX5_turns_6 : decode cX5_turns 6 = .ok (.ifCond .eq 4, 3) := by decide +kernel
theorem dX5_turns_9 : decode cX5_turns 9 = .ok (.return_, 1) := by decide +kernel
theorem dX5_turns_10 : decode cX5_turns 10 = .ok (.iconst 0, 1) := by decide +kernel
theorem dX5_turns_11 : decode cX5_turns 11 = .ok (.istore_n 2, 1) := by decide +kernel
theorem dX5_turns_12 : decode cX5_turns 12 = .ok (.iconst 1, 1) := by decide +kernel
theorem dX5_turns_13 : decode cX5_turns 13 = .ok (.istore_n 3, 1) := by decide +kernel
theorem dX5_turns_14 : decode cX5_turns 14 = .ok (.iload_n 3, 1) := by decide +kernel
theorem dX5_turns_15 : decode cX5_turns 15 = .ok (.aload_n 0, 1) := by decide +kernel
theorem dX5_turns_16 : decode cX5_turns 16 = .ok (.getfield 41, 3) := by decide +kernel
theorem dX5_turns_19 : decode cX5_turns 19 = .ok (.iload_n 1, 1) := by decide +kernel
theorem dX5_turns_20 : decode cX5_turns 20 = .ok (.iaload, 1) := by decide +kernel
theorem dX5_turns_21 : decode cX5_turns 21 = .ok (.if_icmp .ge 85, 3) := by decide +kernel
theorem dX5_turns_24 : decode cX5_turns 24 = .ok (.iconst 4, 1) := by decide +kernel
theorem dX5_turns_25 : decode cX5_turns 25 = .ok (.iload_n 1, 1) := by decide +kernel
theorem dX5_turns_26 : decode cX5_turns 26 = .ok (.imul, 1) := by decide +kernel
theorem dX5_turns_27 : decode cX5_turns 27 = .ok (.iload_n 3, 1) := by decide +kernel
theorem dX5_turns_28 : decode cX5_turns 28 = .ok (.iadd, 1) := by decide +kernel
theorem dX5_turns_29 : decode cX5_turns 29 = .ok (.istore 4, 2) := by decide +kernel
theorem dX5_turns_31 : decode cX5_turns 31 = .ok (.aload_n 0, 1) := by decide +kernel
theorem dX5_turns_32 : decode cX5_turns 32 = .ok (.getfield 47, 3) := by decide +kernel
theorem dX5_turns_35 : decode cX5_turns 35 = .ok (.iload 4, 2) := by decide +kernel
theorem dX5_turns_37 : decode cX5_turns 37 = .ok (.iaload, 1) := by decide +kernel
theorem dX5_turns_38 : decode cX5_turns 38 = .ok (.istore 5, 2) := by decide +kernel
theorem dX5_turns_40 : decode cX5_turns 40 = .ok (.iload 4, 2) := by decide +kernel
theorem dX5_turns_42 : decode cX5_turns 42 = .ok (.iconst 4, 1) := by decide +kernel
theorem dX5_turns_43 : decode cX5_turns 43 = .ok (.iload_n 1, 1) := by decide +kernel
theorem dX5_turns_44 : decode cX5_turns 44 = .ok (.imul, 1) := by decide +kernel
theorem dX5_turns_45 : decode cX5_turns 45 = .ok (.if_icmp .le 46, 3) := by decide +kernel
theorem dX5_turns_48 : decode cX5_turns 48 = .ok (.aload_n 0, 1) := by decide +kernel
theorem dX5_turns_49 : decode cX5_turns 49 = .ok (.iload_n 1, 1) := by decide +kernel
theorem dX5_turns_50 : decode cX5_turns 50 = .ok (.iload 5, 2) := by decide +kernel
theorem dX5_turns_52 : decode cX5_turns 52 = .ok (.aload_n 0, 1) := by decide +kernel
theorem dX5_turns_53 : decode cX5_turns 53 = .ok (.getfield 47, 3) := by decide +kernel
theorem dX5_turns_56 : decode cX5_turns 56 = .ok (.iload 4, 2) := by decide +kernel
theorem dX5_turns_58 : decode cX5_turns 58 = .ok (.iconst 1, 1) := by decide +kernel
theorem dX5_turns_59 : decode cX5_turns 59 = .ok (.isub, 1) := by decide +kernel
theorem dX5_turns_60 : decode cX5_turns 60 = .ok (.iaload, 1) := by decide +kernel
theorem dX5_turns_61 : decode cX5_turns 61 = .ok (.invokevirtual 158, 3) := by decide +kernel
theorem dX5_turns_64 : decode cX5_turns 64 = .ok (.ifCond .eq 27, 3) := by decide +kernel
theorem dX5_turns_67 : decode cX5_turns 67 = .ok (.aload_n 0, 1) := by decide +kernel
theorem dX5_turns_68 : decode cX5_turns 68 = .ok (.getfield 47, 3) := by decide +kernel
theorem dX5_turns_71 : decode cX5_turns 71 = .ok (.iload 4, 2) := by decide +kernel
theorem dX5_turns_73 : decode cX5_turns 73 = .ok (.aload_n 0, 1) := by decide +kernel
theorem dX5_turns_74 : decode cX5_turns 74 = .ok (.getfield 47, 3) := by decide +kernel
theorem dX5_turns_77 : decode cX5_turns 77 = .ok (.iload 4, 2) := by decide +kernel
theorem dX5_turns_79 : decode cX5_turns 79 = .ok (.iconst 1, 1) := by decide +kernel
theorem dX5_turns_80 : decode cX5_turns 80 = .ok (.isub, 1) := by decide +kernel
theorem dX5_turns_81 : decode cX5_turns 81 = .ok (.iaload, 1) := by decide +kernel
theorem dX5_turns_82 : decode cX5_turns 82 = .ok (.iastore, 1) := by decide +kernel
theorem dX5_turns_83 : decode cX5_turns 83 = .ok (.iinc 4 (-1), 3) := by decide +kernel
theorem dX5_turns_86 : decode cX5_turns 86 = .ok (.iconst 1, 1) := by decide +kernel
theorem dX5_turns_87 : decode cX5_turns 87 = .ok (.istore_n 2, 1) := by decide +kernel
theorem dX5_turns_88 : decode cX5_turns 88 = .ok (.goto (-48), 3) := by decide +kernel
theorem dX5_turns_91 : decode cX5_turns 91 = .ok (.aload_n 0, 1) := by decide +kernel
theorem dX5_turns_92 : decode cX5_turns 92 = .ok (.getfield 47, 3) := by decide +kernel
theorem dX5_turns_95 : decode cX5_turns 95 = .ok (.iload 4, 2) := by decide +kernel
theorem dX5_turns_97 : decode cX5_turns 97 = .ok (.iload 5, 2) := by decide +kernel
theorem dX5_turns_99 : decode cX5_turns 99 = .ok (.iastore, 1) := by decide +kernel
theorem dX5_turns_100 : decode cX5_turns 100 = .ok (.iinc 3 1, 3) := by decide +kernel
theorem dX5_turns_103 : decode cX5_turns 103 = .ok (.goto (-89), 3) := by decide +kernel
theorem dX5_turns_106 : decode cX5_turns 106 = .ok (.iload_n 2, 1) := by decide +kernel
theorem dX5_turns_107 : decode cX5_turns 107 = .ok (.ifCond .eq 13, 3) := by decide +kernel
theorem dX5_turns_110 : decode cX5_turns 110 = .ok (.aload_n 0, 1) := by decide +kernel
theorem dX5_turns_111 : decode cX5_turns 111 = .ok (.dup, 1) := by decide +kernel
theorem dX5_turns_112 : decode cX5_turns 112 = .ok (.getfield 118, 3) := by decide +kernel
theorem dX5_turns_115 : decode cX5_turns 115 = .ok (.iconst 1, 1) := by decide +kernel
theorem dX5_turns_116 : decode cX5_turns 116 = .ok (.iadd, 1) := by decide +kernel
theorem dX5_turns_117 : decode cX5_turns 117 = .ok (.putfield 118, 3) := by decide +kernel
theorem dX5_turns_120 : decode cX5_turns 120 = .ok (.return_, 1) := by decide +kernel
theorem dX5_go_0 : decode cX5_go 0 = .ok (.aload_n 0, 1) := by decide +kernel
theorem dX5_go_1 : decode cX5_go 1 = .ok (.getfield 89, 3) := by decide +kernel
theorem dX5_go_4 : decode cX5_go 4 = .ok (.iconst 1, 1) := by decide +kernel
theorem dX5_go_5 : decode cX5_go 5 = .ok (.if_icmp .ne 14, 3) := by decide +kernel
theorem dX5_go_8 : decode cX5_go 8 = .ok (.iload_n 1, 1) := by decide +kernel
theorem dX5_go_9 : decode cX5_go 9 = .ok (.iconst 0, 1) := by decide +kernel
theorem dX5_go_10 : decode cX5_go 10 = .ok (.sipush 200, 3) := by decide +kernel
theorem dX5_go_13 : decode cX5_go 13 = .ok (.invokestatic 81, 3) := by decide +kernel
theorem dX5_go_16 : decode cX5_go 16 = .ok (.ifCond .ne 5, 3) := by decide +kernel
theorem dX5_go_19 : decode cX5_go 19 = .ok (.iconst (-1), 1) := by decide +kernel
theorem dX5_go_20 : decode cX5_go 20 = .ok (.ireturn, 1) := by decide +kernel
theorem dX5_go_21 : decode cX5_go 21 = .ok (.iconst 0, 1) := by decide +kernel
theorem dX5_go_22 : decode cX5_go 22 = .ok (.istore_n 2, 1) := by decide +kernel
theorem dX5_go_23 : decode cX5_go 23 = .ok (.iload_n 2, 1) := by decide +kernel
theorem dX5_go_24 : decode cX5_go 24 = .ok (.iload_n 1, 1) := by decide +kernel
theorem dX5_go_25 : decode cX5_go 25 = .ok (.if_icmp .ge 75, 3) := by decide +kernel
theorem dX5_go_28 : decode cX5_go 28 = .ok (.aload_n 0, 1) := by decide +kernel
theorem dX5_go_29 : decode cX5_go 29 = .ok (.getfield 89, 3) := by decide +kernel
theorem dX5_go_32 : decode cX5_go 32 = .ok (.iconst 1, 1) := by decide +kernel
theorem dX5_go_33 : decode cX5_go 33 = .ok (.if_icmp .ne 67, 3) := by decide +kernel
theorem dX5_go_36 : decode cX5_go 36 = .ok (.aload_n 0, 1) := by decide +kernel
theorem dX5_go_37 : decode cX5_go 37 = .ok (.iconst 0, 1) := by decide +kernel
theorem dX5_go_38 : decode cX5_go 38 = .ok (.invokevirtual 128, 3) := by decide +kernel
theorem dX5_go_41 : decode cX5_go 41 = .ok (.ifCond .eq 41, 3) := by decide +kernel
theorem dX5_go_44 : decode cX5_go 44 = .ok (.aload_n 0, 1) := by decide +kernel
theorem dX5_go_45 : decode cX5_go 45 = .ok (.iconst 1, 1) := by decide +kernel
theorem dX5_go_46 : decode cX5_go 46 = .ok (.invokevirtual 128, 3) := by decide +kernel
theorem dX5_go_49 : decode cX5_go 49 = .ok (.ifCond .eq 33, 3) := by decide +kernel
theorem dX5_go_52 : decode cX5_go 52 = .ok (.aload_n 0, 1) := by decide +kernel
theorem dX5_go_53 : decode cX5_go 53 = .ok (.invokevirtual 131, 3) := by decide +kernel
theorem dX5_go_56 : decode cX5_go 56 = .ok (.istore_n 3, 1) := by decide +kernel
theorem dX5_go_57 : decode cX5_go 57 = .ok (.aload_n 0, 1) := by decide +kernel
theorem dX5_go_58 : decode cX5_go 58 = .ok (.iload_n 3, 1) := by decide +kernel
theorem dX5_go_59 : decode cX5_go 59 = .ok (.bipush 50, 2) := by decide +kernel
theorem dX5_go_61 : decode cX5_go 61 = .ok (.idiv, 1) := by decide +kernel
theorem dX5_go_62 : decode cX5_go 62 = .ok (.iload_n 3, 1) := by decide +kernel
theorem dX5_go_63 : decode cX5_go 63 = .ok (.bipush 50, 2) := by decide +kernel
theorem dX5_go_65 : decode cX5_go 65 = .ok (.irem, 1) := by decide +kernel
theorem dX5_go_66 : decode cX5_go 66 = .ok (.invokevirtual 148, 3) := by decide +kernel
theorem dX5_go_69 : decode cX5_go 69 = .ok (.aload_n 0, 1) := by decide +kernel
theorem dX5_go_70 : decode cX5_go 70 = .ok (.dup, 1) := by decide +kernel
theorem dX5_go_71 : decode cX5_go 71 = .ok (.getfield 106, 3) := by decide +kernel
theorem dX5_go_74 : decode cX5_go 74 = .ok (.iconst 2, 1) := by decide +kernel
theorem dX5_go_75 : decode cX5_go 75 = .ok (.iadd, 1) := by decide +kernel
theorem dX5_go_76 : decode cX5_go 76 = .ok (.putfield 106, 3) := by decide +kernel
theorem dX5_go_79 : decode cX5_go 79 = .ok (.goto 11, 3) := by decide +kernel
theorem dX5_go_82 : decode cX5_go 82 = .ok (.aload_n 0, 1) := by decide +kernel
theorem dX5_go_83 : decode cX5_go 83 = .ok (.aload_n 0, 1) := by decide +kernel
theorem dX5_go_84 : decode cX5_go 84 = .ok (.invokevirtual 161, 3) := by decide +kernel
theorem dX5_go_87 : decode cX5_go 87 = .ok (.invokevirtual 164, 3) := by decide +kernel
theorem dX5_go_90 : decode cX5_go 90 = .ok (.iinc 2 1, 3) := by decide +kernel
theorem dX5_go_93 : decode cX5_go 93 = .ok (.aload_n 0, 1) := by decide +kernel
theorem dX5_go_94 : decode cX5_go 94 = .ok (.invokevirtual 121, 3) := by decide +kernel
theorem dX5_go_97 : decode cX5_go 97 = .ok (.goto (-74), 3) := by decide +kernel
theorem dX5_go_100 : decode cX5_go 100 = .ok (.iload_n 2, 1) := by decide +kernel
theorem dX5_go_101 : decode cX5_go 101 = .ok (.ireturn, 1) := by decide +kernel
theorem dX5_memory_0 : decode cX5_memory 0 = .ok (.iload_n 1, 1) := by decide +kernel
theorem dX5_memory_1 : decode cX5_memory 1 = .ok (.iconst 0, 1) := by decide +kernel
theorem dX5_memory_2 : decode cX5_memory 2 = .ok (.bipush 100, 2) := by decide +kernel
theorem dX5_memory_4 : decode cX5_memory 4 = .ok (.invokestatic 81, 3) := by decide +kernel
theorem dX5_memory_7 : decode cX5_memory 7 = .ok (.ifCond .ne 5, 3) := by decide +kernel
theorem dX5_memory_10 : decode cX5_memory 10 = .ok (.iconst 0, 1) := by decide +kernel
theorem dX5_memory_11 : decode cX5_memory 11 = .ok (.ireturn, 1) := by decide +kernel
theorem dX5_memory_12 : decode cX5_memory 12 = .ok (.aload_n 0, 1) := by decide +kernel
theorem dX5_memory_13 : decode cX5_memory 13 = .ok (.iload_n 1, 1) := by decide +kernel
theorem dX5_memory_14 : decode cX5_memory 14 = .ok (.putfield 34, 3) := by decide +kernel
theorem dX5_memory_17 : decode cX5_memory 17 = .ok (.aload_n 0, 1) := by decide +kernel
theorem dX5_memory_18 : decode cX5_memory 18 = .ok (.invokevirtual 152, 3) := by decide +kernel
theorem dX5_memory_21 : decode cX5_memory 21 = .ok (.iconst 1, 1) := by decide +kernel
theorem dX5_memory_22 : decode cX5_memory 22 = .ok (.ireturn, 1) := by decide +kernel
theorem dX5_force_0 : decode cX5_force 0 = .ok (.iload_n 1, 1) := by decide +kernel
theorem dX5_force_1 : decode cX5_force 1 = .ok (.iconst (-1), 1) := by decide +kernel
theorem dX5_force_2 : decode cX5_force 2 = .ok (.iconst 1, 1) := by decide +kernel
theorem dX5_force_3 : decode cX5_force 3 = .ok (.invokestatic 81, 3) := by decide +kernel
theorem dX5_force_6 : decode cX5_force 6 = .ok (.ifCond .ne 5, 3) := by decide +kernel
theorem dX5_force_9 : decode cX5_force 9 = .ok (.iconst 0, 1) := by decide +kernel
theorem dX5_force_10 : decode cX5_force 10 = .ok (.ireturn, 1) := by decide +kernel
theorem dX5_force_11 : decode cX5_force 11 = .ok (.aload_n 0, 1) := by decide +kernel
theorem dX5_force_12 : decode cX5_force 12 = .ok (.iload_n 1, 1) := by decide +kernel
theorem dX5_force_13 : decode cX5_force 13 = .ok (.putfield 38, 3) := by decide +kernel
theorem dX5_force_16 : decode cX5_force 16 = .ok (.iconst 1, 1) := by decide +kernel
theorem dX5_force_17 : decode cX5_force 17 = .ok (.ireturn, 1) := by decide +kernel
theorem dX5_order_0 : decode cX5_order 0 = .ok (.iload_n 1, 1) := by decide +kernel
theorem dX5_order_1 : decode cX5_order 1 = .ok (.invokestatic 85, 3) := by decide +kernel
theorem dX5_order_4 : decode cX5_order 4 = .ok (.ifCond .eq 16, 3) := by decide +kernel
theorem dX5_order_7 : decode cX5_order 7 = .ok (.aload_n 0, 1) := by decide +kernel
theorem dX5_order_8 : decode cX5_order 8 = .ok (.getfield 89, 3) := by decide +kernel
theorem dX5_order_11 : decode cX5_order 11 = .ok (.iconst 1, 1) := by decide +kernel
theorem dX5_order_12 : decode cX5_order 12 = .ok (.if_icmp .ne 8, 3) := by decide +kernel
theorem dX5_order_15 : decode cX5_order 15 = .ok (.iload_n 2, 1) := by decide +kernel
theorem dX5_order_16 : decode cX5_order 16 = .ok (.iconst (-1), 1) := by decide +kernel
theorem dX5_order_17 : decode cX5_order 17 = .ok (.if_icmp .ge 5, 3) := by decide +kernel
theorem dX5_order_20 : decode cX5_order 20 = .ok (.iconst 0, 1) := by decide +kernel
theorem dX5_order_21 : decode cX5_order 21 = .ok (.ireturn, 1) := by decide +kernel
theorem dX5_order_22 : decode cX5_order 22 = .ok (.iload_n 2, 1) := by decide +kernel
theorem dX5_order_23 : decode cX5_order 23 = .ok (.iconst (-1), 1) := by decide +kernel
theorem dX5_order_24 : decode cX5_order 24 = .ok (.if_icmp .ne 12, 3) := by decide +kernel
theorem dX5_order_27 : decode cX5_order 27 = .ok (.aload_n 0, 1) := by decide +kernel
theorem dX5_order_28 : decode cX5_order 28 = .ok (.getfield 50, 3) := by decide +kernel
theorem dX5_order_31 : decode cX5_order 31 = .ok (.iload_n 1, 1) := by decide +kernel
theorem dX5_order_32 : decode cX5_order 32 = .ok (.iconst 0, 1) := by decide +kernel
theorem dX5_order_33 : decode cX5_order 33 = .ok (.bastore, 1) := by decide +kernel
theorem dX5_order_34 : decode cX5_order 34 = .ok (.iconst 1, 1) := by decide +kernel
theorem dX5_order_35 : decode cX5_order 35 = .ok (.ireturn, 1) := by decide +kernel
theorem dX5_order_36 : decode cX5_order 36 = .ok (.iload_n 2, 1) := by decide +kernel
theorem dX5_order_37 : decode cX5_order 37 = .ok (.istore_n 3, 1) := by decide +kernel
theorem dX5_order_38 : decode cX5_order 38 = .ok (.iconst 0, 1) := by decide +kernel
theorem dX5_order_39 : decode cX5_order 39 = .ok (.istore 4, 2) := by decide +kernel
theorem dX5_order_41 : decode cX5_order 41 = .ok (.iconst 0, 1) := by decide +kernel
theorem dX5_order_42 : decode cX5_order 42 = .ok (.istore 5, 2) := by decide +kernel
theorem dX5_order_44 : decode cX5_order 44 = .ok (.iload 5, 2) := by decide +kernel
theorem dX5_order_46 : decode cX5_order 46 = .ok (.aload_n 0, 1) := by decide +kernel
theorem dX5_order_47 : decode cX5_order 47 = .ok (.getfield 41, 3) := by decide +kernel
theorem dX5_order_50 : decode cX5_order 50 = .ok (.iload_n 1, 1) := by decide +kernel
theorem dX5_order_51 : decode cX5_order 51 = .ok (.iaload, 1) := by decide +kernel
theorem dX5_order_52 : decode cX5_order 52 = .ok (.if_icmp .ge 40, 3) := by decide +kernel
theorem dX5_order_55 : decode cX5_order 55 = .ok (.iload_n 3, 1) := by decide +kernel
theorem dX5_order_56 : decode cX5_order 56 = .ok (.bipush 10, 2) := by decide +kernel
theorem dX5_order_58 : decode cX5_order 58 = .ok (.irem, 1) := by decide +kernel
theorem dX5_order_59 : decode cX5_order 59 = .ok (.aload_n 0, 1) := by decide +kernel
theorem dX5_order_60 : decode cX5_order 60 = .ok (.getfield 41, 3) := by decide +kernel
theorem dX5_order_63 : decode cX5_order 63 = .ok (.iload_n 1, 1) := by decide +kernel
theorem dX5_order_64 : decode cX5_order 64 = .ok (.iaload, 1) := by decide +kernel
theorem dX5_order_65 : decode cX5_order 65 = .ok (.if_icmp .lt 5, 3) := by decide +kernel
theorem dX5_order_68 : decode cX5_order 68 = .ok (.iconst 0, 1) := by decide +kernel
theorem dX5_order_69 : decode cX5_order 69 = .ok (.ireturn, 1) := by decide +kernel
theorem dX5_order_70 : decode cX5_order 70 = .ok (.iload 4, 2) := by decide +kernel
theorem dX5_order_72 : decode cX5_order 72 = .ok (.iconst 1, 1) := by decide +kernel
theorem dX5_order_73 : decode cX5_order 73 = .ok (.iload_n 3, 1) := by decide +kernel
theorem dX5_order_74 : decode cX5_order 74 = .ok (.bipush 10, 2) := by decide +kernel
theorem dX5_order_76 : decode cX5_order 76 = .ok (.irem, 1) := by decide +kernel
theorem dX5_order_77 : decode cX5_order 77 = .ok (.ishl, 1) := by decide +kernel
theorem dX5_order_78 : decode cX5_order 78 = .ok (.ior, 1) := by decide +kernel
theorem dX5_order_79 : decode cX5_order 79 = .ok (.istore 4, 2) := by decide +kernel
theorem dX5_order_81 : decode cX5_order 81 = .ok (.iload_n 3, 1) := by decide +kernel
theorem dX5_order_82 : decode cX5_order 82 = .ok (.bipush 10, 2) := by decide +kernel
theorem dX5_order_84 : decode cX5_order 84 = .ok (.idiv, 1) := by decide +kernel
theorem dX5_order_85 : decode cX5_order 85 = .ok (.istore_n 3, 1) := by decide +kernel
theorem dX5_order_86 : decode cX5_order 86 = .ok (.iinc 5 1, 3) := by decide +kernel
theorem dX5_order_89 : decode cX5_order 89 = .ok (.goto (-45), 3) := by decide +kernel
theorem dX5_order_92 : decode cX5_order 92 = .ok (.iload_n 3, 1) := by decide +kernel
theorem dX5_order_93 : decode cX5_order 93 = .ok (.ifCond .ne 18, 3) := by decide +kernel
theorem dX5_order_96 : decode cX5_order 96 = .ok (.iload 4, 2) := by decide +kernel
theorem dX5_order_98 : decode cX5_order 98 = .ok (.iconst 1, 1) := by decide +kernel
theorem dX5_order_99 : decode cX5_order 99 = .ok (.aload_n 0, 1) := by decide +kernel
theorem dX5_order_100 : decode cX5_order 100 = .ok (.getfield 41, 3) := by decide +kernel
theorem dX5_order_103 : decode cX5_order 103 = .ok (.iload_n 1, 1) := by decide +kernel
theorem dX5_order_104 : decode cX5_order 104 = .ok (.iaload, 1) := by decide +kernel
theorem dX5_order_105 : decode cX5_order 105 = .ok (.ishl, 1) := by decide +kernel
theorem dX5_order_106 : decode cX5_order 106 = .ok (.iconst 1, 1) := by decide +kernel
theorem dX5_order_107 : decode cX5_order 107 = .ok (.isub, 1) := by decide +kernel
theorem dX5_order_108 : decode cX5_order 108 = .ok (.if_icmp .eq 5, 3) := by decide +kernel
theorem dX5_order_111 : decode cX5_order 111 = .ok (.iconst 0, 1) := by decide +kernel
theorem dX5_order_112 : decode cX5_order 112 = .ok (.ireturn, 1) := by decide +kernel
theorem dX5_order_113 : decode cX5_order 113 = .ok (.iload_n 2, 1) := by decide +kernel
theorem dX5_order_114 : decode cX5_order 114 = .ok (.istore_n 3, 1) := by decide +kernel
theorem dX5_order_115 : decode cX5_order 115 = .ok (.iconst 0, 1) := by decide +kernel
theorem dX5_order_116 : decode cX5_order 116 = .ok (.istore 5, 2) := by decide +kernel
theorem dX5_order_118 : decode cX5_order 118 = .ok (.iload 5, 2) := by decide +kernel
theorem dX5_order_120 : decode cX5_order 120 = .ok (.aload_n 0, 1) := by decide +kernel
theorem dX5_order_121 : decode cX5_order 121 = .ok (.getfield 41, 3) := by decide +kernel
theorem dX5_order_124 : decode cX5_order 124 = .ok (.iload_n 1, 1) := by decide +kernel
theorem dX5_order_125 : decode cX5_order 125 = .ok (.iaload, 1) := by decide +kernel
theorem dX5_order_126 : decode cX5_order 126 = .ok (.if_icmp .ge 29, 3) := by decide +kernel
theorem dX5_order_129 : decode cX5_order 129 = .ok (.aload_n 0, 1) := by decide +kernel
theorem dX5_order_130 : decode cX5_order 130 = .ok (.getfield 47, 3) := by decide +kernel
theorem dX5_order_133 : decode cX5_order 133 = .ok (.iconst 4, 1) := by decide +kernel
theorem dX5_order_134 : decode cX5_order 134 = .ok (.iload_n 1, 1) := by decide +kernel
theorem dX5_order_135 : decode cX5_order 135 = .ok (.imul, 1) := by decide +kernel
theorem dX5_order_136 : decode cX5_order 136 = .ok (.iload 5, 2) := by decide +kernel
theorem dX5_order_138 : decode cX5_order 138 = .ok (.iadd, 1) := by decide +kernel
theorem dX5_order_139 : decode cX5_order 139 = .ok (.iload_n 3, 1) := by decide +kernel
theorem dX5_order_140 : decode cX5_order 140 = .ok (.bipush 10, 2) := by decide +kernel
theorem dX5_order_142 : decode cX5_order 142 = .ok (.irem, 1) := by decide +kernel
theorem dX5_order_143 : decode cX5_order 143 = .ok (.iastore, 1) := by decide +kernel
theorem dX5_order_144 : decode cX5_order 144 = .ok (.iload_n 3, 1) := by decide +kernel
theorem dX5_order_145 : decode cX5_order 145 = .ok (.bipush 10, 2) := by decide +kernel
theorem dX5_order_147 : decode cX5_order 147 = .ok (.idiv, 1) := by decide +kernel
theorem dX5_order_148 : decode cX5_order 148 = .ok (.istore_n 3, 1) := by decide +kernel
theorem dX5_order_149 : decode cX5_order 149 = .ok (.iinc 5 1, 3) := by decide +kernel
theorem dX5_order_152 : decode cX5_order 152 = .ok (.goto (-34), 3) := by decide +kernel
theorem dX5_order_155 : decode cX5_order 155 = .ok (.aload_n 0, 1) := by decide +kernel
theorem dX5_order_156 : decode cX5_order 156 = .ok (.getfield 50, 3) := by decide +kernel
theorem dX5_order_159 : decode cX5_order 159 = .ok (.iload_n 1, 1) := by decide +kernel
theorem dX5_order_160 : decode cX5_order 160 = .ok (.iconst 1, 1) := by decide +kernel
theorem dX5_order_161 : decode cX5_order 161 = .ok (.bastore, 1) := by decide +kernel
theorem dX5_order_162 : decode cX5_order 162 = .ok (.iconst 1, 1) := by decide +kernel
theorem dX5_order_163 : decode cX5_order 163 = .ok (.ireturn, 1) := by decide +kernel
theorem dX5_ordered_0 : decode cX5_ordered 0 = .ok (.iload_n 1, 1) := by decide +kernel
theorem dX5_ordered_1 : decode cX5_ordered 1 = .ok (.invokestatic 85, 3) := by decide +kernel
theorem dX5_ordered_4 : decode cX5_ordered 4 = .ok (.ifCond .eq 39, 3) := by decide +kernel
theorem dX5_ordered_7 : decode cX5_ordered 7 = .ok (.aload_n 0, 1) := by decide +kernel
theorem dX5_ordered_8 : decode cX5_ordered 8 = .ok (.getfield 96, 3) := by decide +kernel
theorem dX5_ordered_11 : decode cX5_ordered 11 = .ok (.ifCond .eq 32, 3) := by decide +kernel
theorem dX5_ordered_14 : decode cX5_ordered 14 = .ok (.iload_n 2, 1) := by decide +kernel
theorem dX5_ordered_15 : decode cX5_ordered 15 = .ok (.iconst 0, 1) := by decide +kernel
theorem dX5_ordered_16 : decode cX5_ordered 16 = .ok (.aload_n 0, 1) := by decide +kernel
theorem dX5_ordered_17 : decode cX5_ordered 17 = .ok (.getfield 41, 3) := by decide +kernel
theorem dX5_ordered_20 : decode cX5_ordered 20 = .ok (.iload_n 1, 1) := by decide +kernel
theorem dX5_ordered_21 : decode cX5_ordered 21 = .ok (.iaload, 1) := by decide +kernel
theorem dX5_ordered_22 : decode cX5_ordered 22 = .ok (.iconst 1, 1) := by decide +kernel
theorem dX5_ordered_23 : decode cX5_ordered 23 = .ok (.isub, 1) := by decide +kernel
theorem dX5_ordered_24 : decode cX5_ordered 24 = .ok (.invokestatic 81, 3) := by decide +kernel
theorem dX5_ordered_27 : decode cX5_ordered 27 = .ok (.ifCond .eq 16, 3) := by decide +kernel
theorem dX5_ordered_30 : decode cX5_ordered 30 = .ok (.aload_n 0, 1) := by decide +kernel
theorem dX5_ordered_31 : decode cX5_ordered 31 = .ok (.getfield 47, 3) := by decide +kernel
theorem dX5_ordered_34 : decode cX5_ordered 34 = .ok (.iconst 4, 1) := by decide +kernel
theorem dX5_ordered_35 : decode cX5_ordered 35 = .ok (.iload_n 1, 1) := by decide +kernel
theorem dX5_ordered_36 : decode cX5_ordered 36 = .ok (.imul, 1) := by decide +kernel
theorem dX5_ordered_37 : decode cX5_ordered 37 = .ok (.iload_n 2, 1) := by decide +kernel
theorem dX5_ordered_38 : decode cX5_ordered 38 = .ok (.iadd, 1) := by decide +kernel
theorem dX5_ordered_39 : decode cX5_ordered 39 = .ok (.iaload, 1) := by decide +kernel
theorem dX5_ordered_40 : decode cX5_ordered 40 = .ok (.goto 4, 3) := by decide +kernel
theorem dX5_ordered_43 : decode cX5_ordered 43 = .ok (.iconst (-1), 1) := by decide +kernel
theorem dX5_ordered_44 : decode cX5_ordered 44 = .ok (.ireturn, 1) := by decide +kernel
theorem dX5_told_0 : decode cX5_told 0 = .ok (.iload_n 1, 1) := by decide +kernel
theorem dX5_told_1 : decode cX5_told 1 = .ok (.invokestatic 85, 3) := by decide +kernel
theorem dX5_told_4 : decode cX5_told 4 = .ok (.ifCond .eq 19, 3) := by decide +kernel
theorem dX5_told_7 : decode cX5_told 7 = .ok (.iload_n 2, 1) := by decide +kernel
theorem dX5_told_8 : decode cX5_told 8 = .ok (.iconst 0, 1) := by decide +kernel
theorem dX5_told_9 : decode cX5_told 9 = .ok (.aload_n 0, 1) := by decide +kernel
theorem dX5_told_10 : decode cX5_told 10 = .ok (.getfield 16, 3) := by decide +kernel
theorem dX5_told_13 : decode cX5_told 13 = .ok (.iload_n 1, 1) := by decide +kernel
theorem dX5_told_14 : decode cX5_told 14 = .ok (.iaload, 1) := by decide +kernel
theorem dX5_told_15 : decode cX5_told 15 = .ok (.iconst 1, 1) := by decide +kernel
theorem dX5_told_16 : decode cX5_told 16 = .ok (.isub, 1) := by decide +kernel
theorem dX5_told_17 : decode cX5_told 17 = .ok (.invokestatic 81, 3) := by decide +kernel
theorem dX5_told_20 : decode cX5_told 20 = .ok (.ifCond .ne 5, 3) := by decide +kernel
theorem dX5_told_23 : decode cX5_told 23 = .ok (.iconst (-1), 1) := by decide +kernel
theorem dX5_told_24 : decode cX5_told 24 = .ok (.ireturn, 1) := by decide +kernel
theorem dX5_told_25 : decode cX5_told 25 = .ok (.iconst 4, 1) := by decide +kernel
theorem dX5_told_26 : decode cX5_told 26 = .ok (.iload_n 1, 1) := by decide +kernel
theorem dX5_told_27 : decode cX5_told 27 = .ok (.imul, 1) := by decide +kernel
theorem dX5_told_28 : decode cX5_told 28 = .ok (.iload_n 2, 1) := by decide +kernel
theorem dX5_told_29 : decode cX5_told 29 = .ok (.iadd, 1) := by decide +kernel
theorem dX5_told_30 : decode cX5_told 30 = .ok (.istore 4, 2) := by decide +kernel
theorem dX5_told_32 : decode cX5_told 32 = .ok (.iload_n 3, 1) := by decide +kernel
theorem dX5_told_33 : decode cX5_told 33 = .ok (.tableswitch 51 0 2 #[27, 35, 43], 27) := by decide +kernel
theorem dX5_told_60 : decode cX5_told 60 = .ok (.aload_n 0, 1) := by decide +kernel
theorem dX5_told_61 : decode cX5_told 61 = .ok (.getfield 54, 3) := by decide +kernel
theorem dX5_told_64 : decode cX5_told 64 = .ok (.iload 4, 2) := by decide +kernel
theorem dX5_told_66 : decode cX5_told 66 = .ok (.iaload, 1) := by decide +kernel
theorem dX5_told_67 : decode cX5_told 67 = .ok (.ireturn, 1) := by decide +kernel
theorem dX5_told_68 : decode cX5_told 68 = .ok (.aload_n 0, 1) := by decide +kernel
theorem dX5_told_69 : decode cX5_told 69 = .ok (.getfield 57, 3) := by decide +kernel
theorem dX5_told_72 : decode cX5_told 72 = .ok (.iload 4, 2) := by decide +kernel
theorem dX5_told_74 : decode cX5_told 74 = .ok (.iaload, 1) := by decide +kernel
theorem dX5_told_75 : decode cX5_told 75 = .ok (.ireturn, 1) := by decide +kernel
theorem dX5_told_76 : decode cX5_told 76 = .ok (.aload_n 0, 1) := by decide +kernel
theorem dX5_told_77 : decode cX5_told 77 = .ok (.getfield 28, 3) := by decide +kernel
theorem dX5_told_80 : decode cX5_told 80 = .ok (.iload 4, 2) := by decide +kernel
theorem dX5_told_82 : decode cX5_told 82 = .ok (.iaload, 1) := by decide +kernel
theorem dX5_told_83 : decode cX5_told 83 = .ok (.ireturn, 1) := by decide +kernel
theorem dX5_told_84 : decode cX5_told 84 = .ok (.iconst (-1), 1) := by decide +kernel
theorem dX5_told_85 : decode cX5_told 85 = .ok (.ireturn, 1) := by decide +kernel
theorem dX5_given_0 : decode cX5_given 0 = .ok (.iload_n 1, 1) := by decide +kernel
theorem dX5_given_1 : decode cX5_given 1 = .ok (.iconst 0, 1) := by decide +kernel
theorem dX5_given_2 : decode cX5_given 2 = .ok (.aload_n 0, 1) := by decide +kernel
theorem dX5_given_3 : decode cX5_given 3 = .ok (.getfield 103, 3) := by decide +kernel
theorem dX5_given_6 : decode cX5_given 6 = .ok (.iconst 1, 1) := by decide +kernel
theorem dX5_given_7 : decode cX5_given 7 = .ok (.isub, 1) := by decide +kernel
theorem dX5_given_8 : decode cX5_given 8 = .ok (.invokestatic 81, 3) := by decide +kernel
theorem dX5_given_11 : decode cX5_given 11 = .ok (.ifCond .eq 10, 3) := by decide +kernel
theorem dX5_given_14 : decode cX5_given 14 = .ok (.iload_n 2, 1) := by decide +kernel
theorem dX5_given_15 : decode cX5_given 15 = .ok (.invokestatic 85, 3) := by decide +kernel
theorem dX5_given_18 : decode cX5_given 18 = .ok (.ifCond .ne 5, 3) := by decide +kernel
theorem dX5_given_21 : decode cX5_given 21 = .ok (.iconst (-1), 1) := by decide +kernel
theorem dX5_given_22 : decode cX5_given 22 = .ok (.ireturn, 1) := by decide +kernel
theorem dX5_given_23 : decode cX5_given 23 = .ok (.iload_n 2, 1) := by decide +kernel
theorem dX5_given_24 : decode cX5_given 24 = .ok (.ifCond .ne 15, 3) := by decide +kernel
theorem dX5_given_27 : decode cX5_given 27 = .ok (.aload_n 0, 1) := by decide +kernel
theorem dX5_given_28 : decode cX5_given 28 = .ok (.getfield 78, 3) := by decide +kernel
theorem dX5_given_31 : decode cX5_given 31 = .ok (.iload_n 1, 1) := by decide +kernel
theorem dX5_given_32 : decode cX5_given 32 = .ok (.iaload, 1) := by decide +kernel
theorem dX5_given_33 : decode cX5_given 33 = .ok (.bipush 50, 2) := by decide +kernel
theorem dX5_given_35 : decode cX5_given 35 = .ok (.idiv, 1) := by decide +kernel
theorem dX5_given_36 : decode cX5_given 36 = .ok (.goto 12, 3) := by decide +kernel
theorem dX5_given_39 : decode cX5_given 39 = .ok (.aload_n 0, 1) := by decide +kernel
theorem dX5_given_40 : decode cX5_given 40 = .ok (.getfield 78, 3) := by decide +kernel
theorem dX5_given_43 : decode cX5_given 43 = .ok (.iload_n 1, 1) := by decide +kernel
theorem dX5_given_44 : decode cX5_given 44 = .ok (.iaload, 1) := by decide +kernel
theorem dX5_given_45 : decode cX5_given 45 = .ok (.bipush 50, 2) := by decide +kernel
theorem dX5_given_47 : decode cX5_given 47 = .ok (.irem, 1) := by decide +kernel
theorem dX5_given_48 : decode cX5_given 48 = .ok (.ireturn, 1) := by decide +kernel
theorem dX5_where_0 : decode cX5_where 0 = .ok (.iload_n 1, 1) := by decide +kernel
theorem dX5_where_1 : decode cX5_where 1 = .ok (.invokestatic 85, 3) := by decide +kernel
theorem dX5_where_4 : decode cX5_where 4 = .ok (.ifCond .eq 33, 3) := by decide +kernel
theorem dX5_where_7 : decode cX5_where 7 = .ok (.iload_n 2, 1) := by decide +kernel
theorem dX5_where_8 : decode cX5_where 8 = .ok (.iconst 0, 1) := by decide +kernel
theorem dX5_where_9 : decode cX5_where 9 = .ok (.aload_n 0, 1) := by decide +kernel
theorem dX5_where_10 : decode cX5_where 10 = .ok (.getfield 7, 3) := by decide +kernel
theorem dX5_where_13 : decode cX5_where 13 = .ok (.iload_n 1, 1) := by decide +kernel
theorem dX5_where_14 : decode cX5_where 14 = .ok (.iaload, 1) := by decide +kernel
theorem dX5_where_15 : decode cX5_where 15 = .ok (.iconst 1, 1) := by decide +kernel
theorem dX5_where_16 : decode cX5_where 16 = .ok (.isub, 1) := by decide +kernel
theorem dX5_where_17 : decode cX5_where 17 = .ok (.invokestatic 81, 3) := by decide +kernel
theorem dX5_where_20 : decode cX5_where 20 = .ok (.ifCond .eq 17, 3) := by decide +kernel
theorem dX5_where_23 : decode cX5_where 23 = .ok (.aload_n 0, 1) := by decide +kernel
theorem dX5_where_24 : decode cX5_where 24 = .ok (.getfield 69, 3) := by decide +kernel
theorem dX5_where_27 : decode cX5_where 27 = .ok (.bipush 50, 2) := by decide +kernel
theorem dX5_where_29 : decode cX5_where 29 = .ok (.iload_n 1, 1) := by decide +kernel
theorem dX5_where_30 : decode cX5_where 30 = .ok (.imul, 1) := by decide +kernel
theorem dX5_where_31 : decode cX5_where 31 = .ok (.iload_n 2, 1) := by decide +kernel
theorem dX5_where_32 : decode cX5_where 32 = .ok (.iadd, 1) := by decide +kernel
theorem dX5_where_33 : decode cX5_where 33 = .ok (.iaload, 1) := by decide +kernel
theorem dX5_where_34 : decode cX5_where 34 = .ok (.goto 4, 3) := by decide +kernel
theorem dX5_where_37 : decode cX5_where 37 = .ok (.iconst (-1), 1) := by decide +kernel
theorem dX5_where_38 : decode cX5_where 38 = .ok (.ireturn, 1) := by decide +kernel
theorem dX5_sum_0 : decode cX5_sum 0 = .ok (.iload_n 1, 1) := by decide +kernel
theorem dX5_sum_1 : decode cX5_sum 1 = .ok (.invokestatic 85, 3) := by decide +kernel
theorem dX5_sum_4 : decode cX5_sum 4 = .ok (.ifCond .eq 12, 3) := by decide +kernel
theorem dX5_sum_7 : decode cX5_sum 7 = .ok (.iload_n 2, 1) := by decide +kernel
theorem dX5_sum_8 : decode cX5_sum 8 = .ok (.iconst 0, 1) := by decide +kernel
theorem dX5_sum_9 : decode cX5_sum 9 = .ok (.iconst 2, 1) := by decide +kernel
theorem dX5_sum_10 : decode cX5_sum 10 = .ok (.invokestatic 81, 3) := by decide +kernel
theorem dX5_sum_13 : decode cX5_sum 13 = .ok (.ifCond .ne 5, 3) := by decide +kernel
theorem dX5_sum_16 : decode cX5_sum 16 = .ok (.iconst (-1), 1) := by decide +kernel
theorem dX5_sum_17 : decode cX5_sum 17 = .ok (.ireturn, 1) := by decide +kernel
theorem dX5_sum_18 : decode cX5_sum 18 = .ok (.iconst 0, 1) := by decide +kernel
theorem dX5_sum_19 : decode cX5_sum 19 = .ok (.istore_n 3, 1) := by decide +kernel
theorem dX5_sum_20 : decode cX5_sum 20 = .ok (.iconst 0, 1) := by decide +kernel
theorem dX5_sum_21 : decode cX5_sum 21 = .ok (.istore 4, 2) := by decide +kernel
theorem dX5_sum_23 : decode cX5_sum 23 = .ok (.iload 4, 2) := by decide +kernel
theorem dX5_sum_25 : decode cX5_sum 25 = .ok (.aload_n 0, 1) := by decide +kernel
theorem dX5_sum_26 : decode cX5_sum 26 = .ok (.getfield 103, 3) := by decide +kernel
theorem dX5_sum_29 : decode cX5_sum 29 = .ok (.if_icmp .ge 25, 3) := by decide +kernel
theorem dX5_sum_32 : decode cX5_sum 32 = .ok (.iload_n 3, 1) := by decide +kernel
theorem dX5_sum_33 : decode cX5_sum 33 = .ok (.aload_n 0, 1) := by decide +kernel
theorem dX5_sum_34 : decode cX5_sum 34 = .ok (.iload_n 1, 1) := by decide +kernel
theorem dX5_sum_35 : decode cX5_sum 35 = .ok (.aload_n 0, 1) := by decide +kernel
theorem dX5_sum_36 : decode cX5_sum 36 = .ok (.iload 4, 2) := by decide +kernel
theorem dX5_sum_38 : decode cX5_sum 38 = .ok (.iload_n 1, 1) := by decide +kernel
theorem dX5_sum_39 : decode cX5_sum 39 = .ok (.invokevirtual 167, 3) := by decide +kernel
theorem dX5_sum_42 : decode cX5_sum 42 = .ok (.iload_n 2, 1) := by decide +kernel
theorem dX5_sum_43 : decode cX5_sum 43 = .ok (.invokevirtual 92, 3) := by decide +kernel
theorem dX5_sum_46 : decode cX5_sum 46 = .ok (.iadd, 1) := by decide +kernel
theorem dX5_sum_47 : decode cX5_sum 47 = .ok (.istore_n 3, 1) := by decide +kernel
theorem dX5_sum_48 : decode cX5_sum 48 = .ok (.iinc 4 1, 3) := by decide +kernel
theorem dX5_sum_51 : decode cX5_sum 51 = .ok (.goto (-28), 3) := by decide +kernel
theorem dX5_sum_54 : decode cX5_sum 54 = .ok (.iload_n 3, 1) := by decide +kernel
theorem dX5_sum_55 : decode cX5_sum 55 = .ok (.ireturn, 1) := by decide +kernel
theorem dX5_passesAll_0 : decode cX5_passesAll 0 = .ok (.iconst 0, 1) := by decide +kernel
theorem dX5_passesAll_1 : decode cX5_passesAll 1 = .ok (.istore_n 3, 1) := by decide +kernel
theorem dX5_passesAll_2 : decode cX5_passesAll 2 = .ok (.iload_n 3, 1) := by decide +kernel
theorem dX5_passesAll_3 : decode cX5_passesAll 3 = .ok (.aload_n 0, 1) := by decide +kernel
theorem dX5_passesAll_4 : decode cX5_passesAll 4 = .ok (.getfield 16, 3) := by decide +kernel
theorem dX5_passesAll_7 : decode cX5_passesAll 7 = .ok (.iload_n 1, 1) := by decide +kernel
theorem dX5_passesAll_8 : decode cX5_passesAll 8 = .ok (.iaload, 1) := by decide +kernel
theorem dX5_passesAll_9 : decode cX5_passesAll 9 = .ok (.if_icmp .ge 21, 3) := by decide +kernel
theorem dX5_passesAll_12 : decode cX5_passesAll 12 = .ok (.aload_n 0, 1) := by decide +kernel
theorem dX5_passesAll_13 : decode cX5_passesAll 13 = .ok (.iload_n 1, 1) := by decide +kernel
theorem dX5_passesAll_14 : decode cX5_passesAll 14 = .ok (.iload_n 2, 1) := by decide +kernel
theorem dX5_passesAll_15 : decode cX5_passesAll 15 = .ok (.iload_n 3, 1) := by decide +kernel
theorem dX5_passesAll_16 : decode cX5_passesAll 16 = .ok (.invokevirtual 135, 3) := by decide +kernel
theorem dX5_passesAll_19 : decode cX5_passesAll 19 = .ok (.ifCond .ne 5, 3) := by decide +kernel
theorem dX5_passesAll_22 : decode cX5_passesAll 22 = .ok (.iconst 0, 1) := by decide +kernel
theorem dX5_passesAll_23 : decode cX5_passesAll 23 = .ok (.ireturn, 1) := by decide +kernel
theorem dX5_passesAll_24 : decode cX5_passesAll 24 = .ok (.iinc 3 1, 3) := by decide +kernel
theorem dX5_passesAll_27 : decode cX5_passesAll 27 = .ok (.goto (-25), 3) := by decide +kernel
theorem dX5_passesAll_30 : decode cX5_passesAll 30 = .ok (.iconst 1, 1) := by decide +kernel
theorem dX5_passesAll_31 : decode cX5_passesAll 31 = .ok (.ireturn, 1) := by decide +kernel
theorem dX5_plain_0 : decode cX5_plain 0 = .ok (.iconst 0, 1) := by decide +kernel
theorem dX5_plain_1 : decode cX5_plain 1 = .ok (.istore_n 1, 1) := by decide +kernel
theorem dX5_plain_2 : decode cX5_plain 2 = .ok (.iconst 0, 1) := by decide +kernel
theorem dX5_plain_3 : decode cX5_plain 3 = .ok (.istore_n 2, 1) := by decide +kernel
theorem dX5_plain_4 : decode cX5_plain 4 = .ok (.iload_n 2, 1) := by decide +kernel
theorem dX5_plain_5 : decode cX5_plain 5 = .ok (.aload_n 0, 1) := by decide +kernel
theorem dX5_plain_6 : decode cX5_plain 6 = .ok (.getfield 7, 3) := by decide +kernel
theorem dX5_plain_9 : decode cX5_plain 9 = .ok (.iconst 0, 1) := by decide +kernel
theorem dX5_plain_10 : decode cX5_plain 10 = .ok (.iaload, 1) := by decide +kernel
theorem dX5_plain_11 : decode cX5_plain 11 = .ok (.if_icmp .ge 65, 3) := by decide +kernel
theorem dX5_plain_14 : decode cX5_plain 14 = .ok (.aload_n 0, 1) := by decide +kernel
theorem dX5_plain_15 : decode cX5_plain 15 = .ok (.iconst 0, 1) := by decide +kernel
theorem dX5_plain_16 : decode cX5_plain 16 = .ok (.iload_n 2, 1) := by decide +kernel
theorem dX5_plain_17 : decode cX5_plain 17 = .ok (.invokevirtual 169, 3) := by decide +kernel
theorem dX5_plain_20 : decode cX5_plain 20 = .ok (.ifCond .ne 6, 3) := by decide +kernel
theorem dX5_plain_23 : decode cX5_plain 23 = .ok (.goto 47, 3) := by decide +kernel
theorem dX5_plain_26 : decode cX5_plain 26 = .ok (.iconst 0, 1) := by decide +kernel
theorem dX5_plain_27 : decode cX5_plain 27 = .ok (.istore_n 3, 1) := by decide +kernel
theorem dX5_plain_28 : decode cX5_plain 28 = .ok (.iload_n 3, 1) := by decide +kernel
theorem dX5_plain_29 : decode cX5_plain 29 = .ok (.aload_n 0, 1) := by decide +kernel
theorem dX5_plain_30 : decode cX5_plain 30 = .ok (.getfield 7, 3) := by decide +kernel
theorem dX5_plain_33 : decode cX5_plain 33 = .ok (.iconst 1, 1) := by decide +kernel
theorem dX5_plain_34 : decode cX5_plain 34 = .ok (.iaload, 1) := by decide +kernel
theorem dX5_plain_35 : decode cX5_plain 35 = .ok (.if_icmp .ge 35, 3) := by decide +kernel
theorem dX5_plain_38 : decode cX5_plain 38 = .ok (.iload_n 1, 1) := by decide +kernel
theorem dX5_plain_39 : decode cX5_plain 39 = .ok (.aload_n 0, 1) := by decide +kernel
theorem dX5_plain_40 : decode cX5_plain 40 = .ok (.iload_n 2, 1) := by decide +kernel
theorem dX5_plain_41 : decode cX5_plain 41 = .ok (.iload_n 3, 1) := by decide +kernel
theorem dX5_plain_42 : decode cX5_plain 42 = .ok (.invokevirtual 124, 3) := by decide +kernel
theorem dX5_plain_45 : decode cX5_plain 45 = .ok (.ifCond .eq 16, 3) := by decide +kernel
theorem dX5_plain_48 : decode cX5_plain 48 = .ok (.aload_n 0, 1) := by decide +kernel
theorem dX5_plain_49 : decode cX5_plain 49 = .ok (.iconst 1, 1) := by decide +kernel
theorem dX5_plain_50 : decode cX5_plain 50 = .ok (.iload_n 3, 1) := by decide +kernel
theorem dX5_plain_51 : decode cX5_plain 51 = .ok (.invokevirtual 169, 3) := by decide +kernel
theorem dX5_plain_54 : decode cX5_plain 54 = .ok (.ifCond .eq 7, 3) := by decide +kernel
theorem dX5_plain_57 : decode cX5_plain 57 = .ok (.iconst 1, 1) := by decide +kernel
theorem dX5_plain_58 : decode cX5_plain 58 = .ok (.goto 4, 3) := by decide +kernel
theorem dX5_plain_61 : decode cX5_plain 61 = .ok (.iconst 0, 1) := by decide +kernel
theorem dX5_plain_62 : decode cX5_plain 62 = .ok (.iadd, 1) := by decide +kernel
theorem dX5_plain_63 : decode cX5_plain 63 = .ok (.istore_n 1, 1) := by decide +kernel
theorem dX5_plain_64 : decode cX5_plain 64 = .ok (.iinc 3 1, 3) := by decide +kernel
theorem dX5_plain_67 : decode cX5_plain 67 = .ok (.goto (-39), 3) := by decide +kernel
theorem dX5_plain_70 : decode cX5_plain 70 = .ok (.iinc 2 1, 3) := by decide +kernel
theorem dX5_plain_73 : decode cX5_plain 73 = .ok (.goto (-69), 3) := by decide +kernel
theorem dX5_plain_76 : decode cX5_plain 76 = .ok (.iload_n 1, 1) := by decide +kernel
theorem dX5_plain_77 : decode cX5_plain 77 = .ok (.ireturn, 1) := by decide +kernel
theorem dX5_costOf_0 : decode cX5_costOf 0 = .ok (.aload_n 0, 1) := by decide +kernel
theorem dX5_costOf_1 : decode cX5_costOf 1 = .ok (.getfield 41, 3) := by decide +kernel
theorem dX5_costOf_4 : decode cX5_costOf 4 = .ok (.iload_n 1, 1) := by decide +kernel
theorem dX5_costOf_5 : decode cX5_costOf 5 = .ok (.iaload, 1) := by decide +kernel
theorem dX5_costOf_6 : decode cX5_costOf 6 = .ok (.istore_n 3, 1) := by decide +kernel
theorem dX5_costOf_7 : decode cX5_costOf 7 = .ok (.iconst 0, 1) := by decide +kernel
theorem dX5_costOf_8 : decode cX5_costOf 8 = .ok (.istore 4, 2) := by decide +kernel
theorem dX5_costOf_10 : decode cX5_costOf 10 = .ok (.iconst 0, 1) := by decide +kernel
theorem dX5_costOf_11 : decode cX5_costOf 11 = .ok (.istore 5, 2) := by decide +kernel
theorem dX5_costOf_13 : decode cX5_costOf 13 = .ok (.iload 5, 2) := by decide +kernel
theorem dX5_costOf_15 : decode cX5_costOf 15 = .ok (.iload_n 3, 1) := by decide +kernel
theorem dX5_costOf_16 : decode cX5_costOf 16 = .ok (.if_icmp .ge 24, 3) := by decide +kernel
theorem dX5_costOf_19 : decode cX5_costOf 19 = .ok (.iload 4, 2) := by decide +kernel
theorem dX5_costOf_21 : decode cX5_costOf 21 = .ok (.iconst 1, 1) := by decide +kernel
theorem dX5_costOf_22 : decode cX5_costOf 22 = .ok (.iload_n 2, 1) := by decide +kernel
theorem dX5_costOf_23 : decode cX5_costOf 23 = .ok (.iconst 2, 1) := by decide +kernel
theorem dX5_costOf_24 : decode cX5_costOf 24 = .ok (.iload 5, 2) := by decide +kernel
theorem dX5_costOf_26 : decode cX5_costOf 26 = .ok (.imul, 1) := by decide +kernel
theorem dX5_costOf_27 : decode cX5_costOf 27 = .ok (.ishr, 1) := by decide +kernel
theorem dX5_costOf_28 : decode cX5_costOf 28 = .ok (.iconst 3, 1) := by decide +kernel
theorem dX5_costOf_29 : decode cX5_costOf 29 = .ok (.iand, 1) := by decide +kernel
theorem dX5_costOf_30 : decode cX5_costOf 30 = .ok (.ishl, 1) := by decide +kernel
theorem dX5_costOf_31 : decode cX5_costOf 31 = .ok (.ior, 1) := by decide +kernel
theorem dX5_costOf_32 : decode cX5_costOf 32 = .ok (.istore 4, 2) := by decide +kernel
theorem dX5_costOf_34 : decode cX5_costOf 34 = .ok (.iinc 5 1, 3) := by decide +kernel
theorem dX5_costOf_37 : decode cX5_costOf 37 = .ok (.goto (-24), 3) := by decide +kernel
theorem dX5_costOf_40 : decode cX5_costOf 40 = .ok (.iload 4, 2) := by decide +kernel
theorem dX5_costOf_42 : decode cX5_costOf 42 = .ok (.iconst 1, 1) := by decide +kernel
theorem dX5_costOf_43 : decode cX5_costOf 43 = .ok (.iload_n 3, 1) := by decide +kernel
theorem dX5_costOf_44 : decode cX5_costOf 44 = .ok (.ishl, 1) := by decide +kernel
theorem dX5_costOf_45 : decode cX5_costOf 45 = .ok (.iconst 1, 1) := by decide +kernel
theorem dX5_costOf_46 : decode cX5_costOf 46 = .ok (.isub, 1) := by decide +kernel
theorem dX5_costOf_47 : decode cX5_costOf 47 = .ok (.if_icmp .eq 5, 3) := by decide +kernel
theorem dX5_costOf_50 : decode cX5_costOf 50 = .ok (.iconst (-1), 1) := by decide +kernel
theorem dX5_costOf_51 : decode cX5_costOf 51 = .ok (.ireturn, 1) := by decide +kernel
theorem dX5_costOf_52 : decode cX5_costOf 52 = .ok (.iconst 0, 1) := by decide +kernel
theorem dX5_costOf_53 : decode cX5_costOf 53 = .ok (.istore 5, 2) := by decide +kernel
theorem dX5_costOf_55 : decode cX5_costOf 55 = .ok (.iconst 0, 1) := by decide +kernel
theorem dX5_costOf_56 : decode cX5_costOf 56 = .ok (.istore 6, 2) := by decide +kernel
theorem dX5_costOf_58 : decode cX5_costOf 58 = .ok (.iload 6, 2) := by decide +kernel
theorem dX5_costOf_60 : decode cX5_costOf 60 = .ok (.aload_n 0, 1) := by decide +kernel
theorem dX5_costOf_61 : decode cX5_costOf 61 = .ok (.getfield 44, 3) := by decide +kernel
theorem dX5_costOf_64 : decode cX5_costOf 64 = .ok (.iload_n 1, 1) := by decide +kernel
theorem dX5_costOf_65 : decode cX5_costOf 65 = .ok (.iaload, 1) := by decide +kernel
theorem dX5_costOf_66 : decode cX5_costOf 66 = .ok (.if_icmp .ge 69, 3) := by decide +kernel
theorem dX5_costOf_69 : decode cX5_costOf 69 = .ok (.iconst 1, 1) := by decide +kernel
theorem dX5_costOf_70 : decode cX5_costOf 70 = .ok (.istore 7, 2) := by decide +kernel
theorem dX5_costOf_72 : decode cX5_costOf 72 = .ok (.iconst 0, 1) := by decide +kernel
theorem dX5_costOf_73 : decode cX5_costOf 73 = .ok (.istore 8, 2) := by decide +kernel
theorem dX5_costOf_75 : decode cX5_costOf 75 = .ok (.iload 8, 2) := by decide +kernel
theorem dX5_costOf_77 : decode cX5_costOf 77 = .ok (.iload_n 3, 1) := by decide +kernel
theorem dX5_costOf_78 : decode cX5_costOf 78 = .ok (.if_icmp .ge 51, 3) := by decide +kernel
theorem dX5_costOf_81 : decode cX5_costOf 81 = .ok (.iload 7, 2) := by decide +kernel
theorem dX5_costOf_83 : decode cX5_costOf 83 = .ok (.ifCond .eq 46, 3) := by decide +kernel
theorem dX5_costOf_86 : decode cX5_costOf 86 = .ok (.iload_n 2, 1) := by decide +kernel
theorem dX5_costOf_87 : decode cX5_costOf 87 = .ok (.iconst 2, 1) := by decide +kernel
theorem dX5_costOf_88 : decode cX5_costOf 88 = .ok (.iload 8, 2) := by decide +kernel
theorem dX5_costOf_90 : decode cX5_costOf 90 = .ok (.imul, 1) := by decide +kernel
theorem dX5_costOf_91 : decode cX5_costOf 91 = .ok (.ishr, 1) := by decide +kernel
theorem dX5_costOf_92 : decode cX5_costOf 92 = .ok (.iconst 3, 1) := by decide +kernel
theorem dX5_costOf_93 : decode cX5_costOf 93 = .ok (.iand, 1) := by decide +kernel
theorem dX5_costOf_94 : decode cX5_costOf 94 = .ok (.istore 9, 2) := by decide +kernel
theorem dX5_costOf_96 : decode cX5_costOf 96 = .ok (.iload 5, 2) := by decide +kernel
theorem dX5_costOf_98 : decode cX5_costOf 98 = .ok (.aload_n 0, 1) := by decide +kernel
theorem dX5_costOf_99 : decode cX5_costOf 99 = .ok (.getfield 28, 3) := by decide +kernel
theorem dX5_costOf_102 : decode cX5_costOf 102 = .ok (.iconst 4, 1) := by decide +kernel
theorem dX5_costOf_103 : decode cX5_costOf 103 = .ok (.iload_n 1, 1) := by decide +kernel
theorem dX5_costOf_104 : decode cX5_costOf 104 = .ok (.imul, 1) := by decide +kernel
theorem dX5_costOf_105 : decode cX5_costOf 105 = .ok (.iload 9, 2) := by decide +kernel
theorem dX5_costOf_107 : decode cX5_costOf 107 = .ok (.iadd, 1) := by decide +kernel
theorem dX5_costOf_108 : decode cX5_costOf 108 = .ok (.iaload, 1) := by decide +kernel
theorem dX5_costOf_109 : decode cX5_costOf 109 = .ok (.iadd, 1) := by decide +kernel
theorem dX5_costOf_110 : decode cX5_costOf 110 = .ok (.istore 5, 2) := by decide +kernel
theorem dX5_costOf_112 : decode cX5_costOf 112 = .ok (.aload_n 0, 1) := by decide +kernel
theorem dX5_costOf_113 : decode cX5_costOf 113 = .ok (.iload_n 1, 1) := by decide +kernel
theorem dX5_costOf_114 : decode cX5_costOf 114 = .ok (.iload 6, 2) := by decide +kernel
theorem dX5_costOf_116 : decode cX5_costOf 116 = .ok (.iload 9, 2) := by decide +kernel
theorem dX5_costOf_118 : decode cX5_costOf 118 = .ok (.invokevirtual 135, 3) := by decide +kernel
theorem dX5_costOf_121 : decode cX5_costOf 121 = .ok (.istore 7, 2) := by decide +kernel
theorem dX5_costOf_123 : decode cX5_costOf 123 = .ok (.iinc 8 1, 3) := by decide +kernel
theorem dX5_costOf_126 : decode cX5_costOf 126 = .ok (.goto (-51), 3) := by decide +kernel
theorem dX5_costOf_129 : decode cX5_costOf 129 = .ok (.iinc 6 1, 3) := by decide +kernel
theorem dX5_costOf_132 : decode cX5_costOf 132 = .ok (.goto (-74), 3) := by decide +kernel
theorem dX5_costOf_135 : decode cX5_costOf 135 = .ok (.iload 5, 2) := by decide +kernel
theorem dX5_costOf_137 : decode cX5_costOf 137 = .ok (.ireturn, 1) := by decide +kernel
theorem dX5_fixed_0 : decode cX5_fixed 0 = .ok (.iload_n 1, 1) := by decide +kernel
theorem dX5_fixed_1 : decode cX5_fixed 1 = .ok (.invokestatic 85, 3) := by decide +kernel
theorem dX5_fixed_4 : decode cX5_fixed 4 = .ok (.ifCond .ne 5, 3) := by decide +kernel
theorem dX5_fixed_7 : decode cX5_fixed 7 = .ok (.iconst (-1), 1) := by decide +kernel
theorem dX5_fixed_8 : decode cX5_fixed 8 = .ok (.ireturn, 1) := by decide +kernel
theorem dX5_fixed_9 : decode cX5_fixed 9 = .ok (.iconst (-1), 1) := by decide +kernel
theorem dX5_fixed_10 : decode cX5_fixed 10 = .ok (.istore_n 2, 1) := by decide +kernel
theorem dX5_fixed_11 : decode cX5_fixed 11 = .ok (.iconst 0, 1) := by decide +kernel
theorem dX5_fixed_12 : decode cX5_fixed 12 = .ok (.istore_n 3, 1) := by decide +kernel
theorem dX5_fixed_13 : decode cX5_fixed 13 = .ok (.iload_n 3, 1) := by decide +kernel
theorem dX5_fixed_14 : decode cX5_fixed 14 = .ok (.iconst 1, 1) := by decide +kernel
theorem dX5_fixed_15 : decode cX5_fixed 15 = .ok (.iconst 2, 1) := by decide +kernel
theorem dX5_fixed_16 : decode cX5_fixed 16 = .ok (.aload_n 0, 1) := by decide +kernel
theorem dX5_fixed_17 : decode cX5_fixed 17 = .ok (.getfield 41, 3) := by decide +kernel
theorem dX5_fixed_20 : decode cX5_fixed 20 = .ok (.iload_n 1, 1) := by decide +kernel
theorem dX5_fixed_21 : decode cX5_fixed 21 = .ok (.iaload, 1) := by decide +kernel
theorem dX5_fixed_22 : decode cX5_fixed 22 = .ok (.imul, 1) := by decide +kernel
theorem dX5_fixed_23 : decode cX5_fixed 23 = .ok (.ishl, 1) := by decide +kernel
theorem dX5_fixed_24 : decode cX5_fixed 24 = .ok (.if_icmp .ge 37, 3) := by decide +kernel
theorem dX5_fixed_27 : decode cX5_fixed 27 = .ok (.aload_n 0, 1) := by decide +kernel
theorem dX5_fixed_28 : decode cX5_fixed 28 = .ok (.iload_n 1, 1) := by decide +kernel
theorem dX5_fixed_29 : decode cX5_fixed 29 = .ok (.iload_n 3, 1) := by decide +kernel
theorem dX5_fixed_30 : decode cX5_fixed 30 = .ok (.invokevirtual 172, 3) := by decide +kernel
theorem dX5_fixed_33 : decode cX5_fixed 33 = .ok (.istore 4, 2) := by decide +kernel
theorem dX5_fixed_35 : decode cX5_fixed 35 = .ok (.iload 4, 2) := by decide +kernel
theorem dX5_fixed_37 : decode cX5_fixed 37 = .ok (.iconst (-1), 1) := by decide +kernel
theorem dX5_fixed_38 : decode cX5_fixed 38 = .ok (.if_icmp .eq 17, 3) := by decide +kernel
theorem dX5_fixed_41 : decode cX5_fixed 41 = .ok (.iload_n 2, 1) := by decide +kernel
theorem dX5_fixed_42 : decode cX5_fixed 42 = .ok (.iconst (-1), 1) := by decide +kernel
theorem dX5_fixed_43 : decode cX5_fixed 43 = .ok (.if_icmp .eq 9, 3) := by decide +kernel
theorem dX5_fixed_46 : decode cX5_fixed 46 = .ok (.iload 4, 2) := by decide +kernel
theorem dX5_fixed_48 : decode cX5_fixed 48 = .ok (.iload_n 2, 1) := by decide +kernel
theorem dX5_fixed_49 : decode cX5_fixed 49 = .ok (.if_icmp .ge 6, 3) := by decide +kernel
theorem dX5_fixed_52 : decode cX5_fixed 52 = .ok (.iload 4, 2) := by decide +kernel
theorem dX5_fixed_54 : decode cX5_fixed 54 = .ok (.istore_n 2, 1) := by decide +kernel
theorem dX5_fixed_55 : decode cX5_fixed 55 = .ok (.iinc 3 1, 3) := by decide +kernel
theorem dX5_fixed_58 : decode cX5_fixed 58 = .ok (.goto (-45), 3) := by decide +kernel
theorem dX5_fixed_61 : decode cX5_fixed 61 = .ok (.iload_n 2, 1) := by decide +kernel
theorem dX5_fixed_62 : decode cX5_fixed 62 = .ok (.ireturn, 1) := by decide +kernel
theorem dX5_cost_0 : decode cX5_cost 0 = .ok (.iload_n 1, 1) := by decide +kernel
theorem dX5_cost_1 : decode cX5_cost 1 = .ok (.invokestatic 85, 3) := by decide +kernel
theorem dX5_cost_4 : decode cX5_cost 4 = .ok (.ifCond .eq 12, 3) := by decide +kernel
theorem dX5_cost_7 : decode cX5_cost 7 = .ok (.aload_n 0, 1) := by decide +kernel
theorem dX5_cost_8 : decode cX5_cost 8 = .ok (.getfield 60, 3) := by decide +kernel
theorem dX5_cost_11 : decode cX5_cost 11 = .ok (.iload_n 1, 1) := by decide +kernel
theorem dX5_cost_12 : decode cX5_cost 12 = .ok (.iaload, 1) := by decide +kernel
theorem dX5_cost_13 : decode cX5_cost 13 = .ok (.goto 4, 3) := by decide +kernel
theorem dX5_cost_16 : decode cX5_cost 16 = .ok (.iconst (-1), 1) := by decide +kernel
theorem dX5_cost_17 : decode cX5_cost 17 = .ok (.ireturn, 1) := by decide +kernel
theorem dX5_count_0 : decode cX5_count 0 = .ok (.iload_n 1, 1) := by decide +kernel
theorem dX5_count_1 : decode cX5_count 1 = .ok (.tableswitch 109 0 9 #[55, 60, 65, 70, 75, 80, 87, 94, 99, 104], 55) := by decide +kernel
theorem dX5_count_56 : decode cX5_count 56 = .ok (.aload_n 0, 1) := by decide +kernel
theorem dX5_count_57 : decode cX5_count 57 = .ok (.getfield 89, 3) := by decide +kernel
theorem dX5_count_60 : decode cX5_count 60 = .ok (.ireturn, 1) := by decide +kernel
theorem dX5_count_61 : decode cX5_count 61 = .ok (.aload_n 0, 1) := by decide +kernel
theorem dX5_count_62 : decode cX5_count 62 = .ok (.getfield 106, 3) := by decide +kernel
theorem dX5_count_65 : decode cX5_count 65 = .ok (.ireturn, 1) := by decide +kernel
theorem dX5_count_66 : decode cX5_count 66 = .ok (.aload_n 0, 1) := by decide +kernel
theorem dX5_count_67 : decode cX5_count 67 = .ok (.getfield 103, 3) := by decide +kernel
theorem dX5_count_70 : decode cX5_count 70 = .ok (.ireturn, 1) := by decide +kernel
theorem dX5_count_71 : decode cX5_count 71 = .ok (.aload_n 0, 1) := by decide +kernel
theorem dX5_count_72 : decode cX5_count 72 = .ok (.invokevirtual 155, 3) := by decide +kernel
theorem dX5_count_75 : decode cX5_count 75 = .ok (.ireturn, 1) := by decide +kernel
theorem dX5_count_76 : decode cX5_count 76 = .ok (.aload_n 0, 1) := by decide +kernel
theorem dX5_count_77 : decode cX5_count 77 = .ok (.getfield 109, 3) := by decide +kernel
theorem dX5_count_80 : decode cX5_count 80 = .ok (.ireturn, 1) := by decide +kernel
theorem dX5_count_81 : decode cX5_count 81 = .ok (.aload_n 0, 1) := by decide +kernel
theorem dX5_count_82 : decode cX5_count 82 = .ok (.getfield 44, 3) := by decide +kernel
theorem dX5_count_85 : decode cX5_count 85 = .ok (.iconst 0, 1) := by decide +kernel
theorem dX5_count_86 : decode cX5_count 86 = .ok (.iaload, 1) := by decide +kernel
theorem dX5_count_87 : decode cX5_count 87 = .ok (.ireturn, 1) := by decide +kernel
theorem dX5_count_88 : decode cX5_count 88 = .ok (.aload_n 0, 1) := by decide +kernel
theorem dX5_count_89 : decode cX5_count 89 = .ok (.getfield 44, 3) := by decide +kernel
theorem dX5_count_92 : decode cX5_count 92 = .ok (.iconst 1, 1) := by decide +kernel
theorem dX5_count_93 : decode cX5_count 93 = .ok (.iaload, 1) := by decide +kernel
theorem dX5_count_94 : decode cX5_count 94 = .ok (.ireturn, 1) := by decide +kernel
theorem dX5_count_95 : decode cX5_count 95 = .ok (.aload_n 0, 1) := by decide +kernel
theorem dX5_count_96 : decode cX5_count 96 = .ok (.getfield 115, 3) := by decide +kernel
theorem dX5_count_99 : decode cX5_count 99 = .ok (.ireturn, 1) := by decide +kernel
theorem dX5_count_100 : decode cX5_count 100 = .ok (.aload_n 0, 1) := by decide +kernel
theorem dX5_count_101 : decode cX5_count 101 = .ok (.getfield 118, 3) := by decide +kernel
theorem dX5_count_104 : decode cX5_count 104 = .ok (.ireturn, 1) := by decide +kernel
theorem dX5_count_105 : decode cX5_count 105 = .ok (.aload_n 0, 1) := by decide +kernel
theorem dX5_count_106 : decode cX5_count 106 = .ok (.getfield 34, 3) := by decide +kernel
theorem dX5_count_109 : decode cX5_count 109 = .ok (.ireturn, 1) := by decide +kernel
theorem dX5_count_110 : decode cX5_count 110 = .ok (.iconst (-1), 1) := by decide +kernel
theorem dX5_count_111 : decode cX5_count 111 = .ok (.ireturn, 1) := by decide +kernel
