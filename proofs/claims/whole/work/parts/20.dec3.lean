theorem dX7_formula_23 : decode cX7_formula 23 = .ok (.iload_n 1, 1) := by decide +kernel
theorem dX7_formula_24 : decode cX7_formula 24 = .ok (.aload_n 0, 1) := by decide +kernel
theorem dX7_formula_25 : decode cX7_formula 25 = .ok (.getfield 29, 3) := by decide +kernel
theorem dX7_formula_28 : decode cX7_formula 28 = .ok (.aload_n 0, 1) := by decide +kernel
theorem dX7_formula_29 : decode cX7_formula 29 = .ok (.getfield 23, 3) := by decide +kernel
theorem dX7_formula_32 : decode cX7_formula 32 = .ok (.iload_n 1, 1) := by decide +kernel
theorem dX7_formula_33 : decode cX7_formula 33 = .ok (.iaload, 1) := by decide +kernel
theorem dX7_formula_34 : decode cX7_formula 34 = .ok (.baload, 1) := by decide +kernel
theorem dX7_formula_35 : decode cX7_formula 35 = .ok (.ifCond .eq 21, 3) := by decide +kernel
theorem dX7_formula_38 : decode cX7_formula 38 = .ok (.aload_n 0, 1) := by decide +kernel
theorem dX7_formula_39 : decode cX7_formula 39 = .ok (.getfield 29, 3) := by decide +kernel
theorem dX7_formula_42 : decode cX7_formula 42 = .ok (.aload_n 0, 1) := by decide +kernel
theorem dX7_formula_43 : decode cX7_formula 43 = .ok (.getfield 26, 3) := by decide +kernel
theorem dX7_formula_46 : decode cX7_formula 46 = .ok (.iload_n 1, 1) := by decide +kernel
theorem dX7_formula_47 : decode cX7_formula 47 = .ok (.iaload, 1) := by decide +kernel
theorem dX7_formula_48 : decode cX7_formula 48 = .ok (.baload, 1) := by decide +kernel
theorem dX7_formula_49 : decode cX7_formula 49 = .ok (.ifCond .eq 7, 3) := by decide +kernel
theorem dX7_formula_52 : decode cX7_formula 52 = .ok (.iconst 1, 1) := by decide +kernel
theorem dX7_formula_53 : decode cX7_formula 53 = .ok (.goto 4, 3) := by decide +kernel
theorem dX7_formula_56 : decode cX7_formula 56 = .ok (.iconst 0, 1) := by decide +kernel
theorem dX7_formula_57 : decode cX7_formula 57 = .ok (.bastore, 1) := by decide +kernel
theorem dX7_formula_58 : decode cX7_formula 58 = .ok (.aload_n 0, 1) := by decide +kernel
theorem dX7_formula_59 : decode cX7_formula 59 = .ok (.getfield 20, 3) := by decide +kernel
theorem dX7_formula_62 : decode cX7_formula 62 = .ok (.iload_n 1, 1) := by decide +kernel
theorem dX7_formula_63 : decode cX7_formula 63 = .ok (.iaload, 1) := by decide +kernel
theorem dX7_formula_64 : decode cX7_formula 64 = .ok (.iconst 1, 1) := by decide +kernel
theorem dX7_formula_65 : decode cX7_formula 65 = .ok (.if_icmp .ne 42, 3) := by decide +kernel
theorem dX7_formula_68 : decode cX7_formula 68 = .ok (.aload_n 0, 1) := by decide +kernel
theorem dX7_formula_69 : decode cX7_formula 69 = .ok (.getfield 29, 3) := by decide +kernel
theorem dX7_formula_72 : decode cX7_formula 72 = .ok (.iload_n 1, 1) := by decide +kernel
theorem dX7_formula_73 : decode cX7_formula 73 = .ok (.aload_n 0, 1) := by decide +kernel
theorem dX7_formula_74 : decode cX7_formula 74 = .ok (.getfield 29, 3) := by decide +kernel
theorem dX7_formula_77 : decode cX7_formula 77 = .ok (.aload_n 0, 1) := by decide +kernel
theorem dX7_formula_78 : decode cX7_formula 78 = .ok (.getfield 23, 3) := by decide +kernel
theorem dX7_formula_81 : decode cX7_formula 81 = .ok (.iload_n 1, 1) := by decide +kernel
theorem dX7_formula_82 : decode cX7_formula 82 = .ok (.iaload, 1) := by decide +kernel
theorem dX7_formula_83 : decode cX7_formula 83 = .ok (.baload, 1) := by decide +kernel
theorem dX7_formula_84 : decode cX7_formula 84 = .ok (.ifCond .ne 17, 3) := by decide +kernel
theorem dX7_formula_87 : decode cX7_formula 87 = .ok (.aload_n 0, 1) := by decide +kernel
theorem dX7_formula_88 : decode cX7_formula 88 = .ok (.getfield 29, 3) := by decide +kernel
theorem dX7_formula_91 : decode cX7_formula 91 = .ok (.aload_n 0, 1) := by decide +kernel
theorem dX7_formula_92 : decode cX7_formula 92 = .ok (.getfield 26, 3) := by decide +kernel
theorem dX7_formula_95 : decode cX7_formula 95 = .ok (.iload_n 1, 1) := by decide +kernel
theorem dX7_formula_96 : decode cX7_formula 96 = .ok (.iaload, 1) := by decide +kernel
theorem dX7_formula_97 : decode cX7_formula 97 = .ok (.baload, 1) := by decide +kernel
theorem dX7_formula_98 : decode cX7_formula 98 = .ok (.ifCond .eq 7, 3) := by decide +kernel
theorem dX7_formula_101 : decode cX7_formula 101 = .ok (.iconst 1, 1) := by decide +kernel
theorem dX7_formula_102 : decode cX7_formula 102 = .ok (.goto 4, 3) := by decide +kernel
theorem dX7_formula_105 : decode cX7_formula 105 = .ok (.iconst 0, 1) := by decide +kernel
theorem dX7_formula_106 : decode cX7_formula 106 = .ok (.bastore, 1) := by decide +kernel
theorem dX7_formula_107 : decode cX7_formula 107 = .ok (.aload_n 0, 1) := by decide +kernel
theorem dX7_formula_108 : decode cX7_formula 108 = .ok (.getfield 20, 3) := by decide +kernel
theorem dX7_formula_111 : decode cX7_formula 111 = .ok (.iload_n 1, 1) := by decide +kernel
theorem dX7_formula_112 : decode cX7_formula 112 = .ok (.iaload, 1) := by decide +kernel
theorem dX7_formula_113 : decode cX7_formula 113 = .ok (.iconst 2, 1) := by decide +kernel
theorem dX7_formula_114 : decode cX7_formula 114 = .ok (.if_icmp .ne 28, 3) := by decide +kernel
theorem dX7_formula_117 : decode cX7_formula 117 = .ok (.aload_n 0, 1) := by decide +kernel
theorem dX7_formula_118 : decode cX7_formula 118 = .ok (.getfield 29, 3) := by decide +kernel
theorem dX7_formula_121 : decode cX7_formula 121 = .ok (.iload_n 1, 1) := by decide +kernel
theorem dX7_formula_122 : decode cX7_formula 122 = .ok (.aload_n 0, 1) := by decide +kernel
theorem dX7_formula_123 : decode cX7_formula 123 = .ok (.getfield 29, 3) := by decide +kernel
theorem dX7_formula_126 : decode cX7_formula 126 = .ok (.aload_n 0, 1) := by decide +kernel
theorem dX7_formula_127 : decode cX7_formula 127 = .ok (.getfield 23, 3) := by decide +kernel
theorem dX7_formula_130 : decode cX7_formula 130 = .ok (.iload_n 1, 1) := by decide +kernel
theorem dX7_formula_131 : decode cX7_formula 131 = .ok (.iaload, 1) := by decide +kernel
theorem dX7_formula_132 : decode cX7_formula 132 = .ok (.baload, 1) := by decide +kernel
theorem dX7_formula_133 : decode cX7_formula 133 = .ok (.ifCond .ne 7, 3) := by decide +kernel
theorem dX7_formula_136 : decode cX7_formula 136 = .ok (.iconst 1, 1) := by decide +kernel
theorem dX7_formula_137 : decode cX7_formula 137 = .ok (.goto 4, 3) := by decide +kernel
theorem dX7_formula_140 : decode cX7_formula 140 = .ok (.iconst 0, 1) := by decide +kernel
theorem dX7_formula_141 : decode cX7_formula 141 = .ok (.bastore, 1) := by decide +kernel
theorem dX7_formula_142 : decode cX7_formula 142 = .ok (.iinc 1 1, 3) := by decide +kernel
theorem dX7_formula_145 : decode cX7_formula 145 = .ok (.goto (-143), 3) := by decide +kernel
theorem dX7_formula_148 : decode cX7_formula 148 = .ok (.aload_n 0, 1) := by decide +kernel
theorem dX7_formula_149 : decode cX7_formula 149 = .ok (.getfield 29, 3) := by decide +kernel
theorem dX7_formula_152 : decode cX7_formula 152 = .ok (.aload_n 0, 1) := by decide +kernel
theorem dX7_formula_153 : decode cX7_formula 153 = .ok (.getfield 17, 3) := by decide +kernel
theorem dX7_formula_156 : decode cX7_formula 156 = .ok (.iconst 1, 1) := by decide +kernel
theorem dX7_formula_157 : decode cX7_formula 157 = .ok (.isub, 1) := by decide +kernel
theorem dX7_formula_158 : decode cX7_formula 158 = .ok (.baload, 1) := by decide +kernel
theorem dX7_formula_159 : decode cX7_formula 159 = .ok (.ireturn, 1) := by decide +kernel
theorem dX7_truthNow_0 : decode cX7_truthNow 0 = .ok (.iconst 0, 1) := by decide +kernel
theorem dX7_truthNow_1 : decode cX7_truthNow 1 = .ok (.istore_n 1, 1) := by decide +kernel
theorem dX7_truthNow_2 : decode cX7_truthNow 2 = .ok (.iload_n 1, 1) := by decide +kernel
theorem dX7_truthNow_3 : decode cX7_truthNow 3 = .ok (.aload_n 0, 1) := by decide +kernel
theorem dX7_truthNow_4 : decode cX7_truthNow 4 = .ok (.getfield 17, 3) := by decide +kernel
theorem dX7_truthNow_7 : decode cX7_truthNow 7 = .ok (.if_icmp .ge 128, 3) := by decide +kernel
theorem dX7_truthNow_10 : decode cX7_truthNow 10 = .ok (.aload_n 0, 1) := by decide +kernel
theorem dX7_truthNow_11 : decode cX7_truthNow 11 = .ok (.getfield 20, 3) := by decide +kernel
theorem dX7_truthNow_14 : decode cX7_truthNow 14 = .ok (.iload_n 1, 1) := by decide +kernel
theorem dX7_truthNow_15 : decode cX7_truthNow 15 = .ok (.iaload, 1) := by decide +kernel
theorem dX7_truthNow_16 : decode cX7_truthNow 16 = .ok (.iconst 3, 1) := by decide +kernel
theorem dX7_truthNow_17 : decode cX7_truthNow 17 = .ok (.if_icmp .ne 112, 3) := by decide +kernel
theorem dX7_truthNow_20 : decode cX7_truthNow 20 = .ok (.aload_n 0, 1) := by decide +kernel
theorem dX7_truthNow_21 : decode cX7_truthNow 21 = .ok (.getfield 23, 3) := by decide +kernel
theorem dX7_truthNow_24 : decode cX7_truthNow 24 = .ok (.iload_n 1, 1) := by decide +kernel
theorem dX7_truthNow_25 : decode cX7_truthNow 25 = .ok (.iaload, 1) := by decide +kernel
theorem dX7_truthNow_26 : decode cX7_truthNow 26 = .ok (.istore_n 2, 1) := by decide +kernel
theorem dX7_truthNow_27 : decode cX7_truthNow 27 = .ok (.iconst 0, 1) := by decide +kernel
theorem dX7_truthNow_28 : decode cX7_truthNow 28 = .ok (.istore_n 3, 1) := by decide +kernel
theorem dX7_truthNow_29 : decode cX7_truthNow 29 = .ok (.iconst 0, 1) := by decide +kernel
theorem dX7_truthNow_30 : decode cX7_truthNow 30 = .ok (.istore 4, 2) := by decide +kernel
theorem dX7_truthNow_32 : decode cX7_truthNow 32 = .ok (.iload 4, 2) := by decide +kernel
theorem dX7_truthNow_34 : decode cX7_truthNow 34 = .ok (.bipush 8, 2) := by decide +kernel
theorem dX7_truthNow_36 : decode cX7_truthNow 36 = .ok (.if_icmp .ge 32, 3) := by decide +kernel
theorem dX7_truthNow_39 : decode cX7_truthNow 39 = .ok (.iload_n 3, 1) := by decide +kernel
theorem dX7_truthNow_40 : decode cX7_truthNow 40 = .ok (.aload_n 0, 1) := by decide +kernel
theorem dX7_truthNow_41 : decode cX7_truthNow 41 = .ok (.getfield 36, 3) := by decide +kernel
theorem dX7_truthNow_44 : decode cX7_truthNow 44 = .ok (.bipush 8, 2) := by decide +kernel
theorem dX7_truthNow_46 : decode cX7_truthNow 46 = .ok (.iload_n 2, 1) := by decide +kernel
theorem dX7_truthNow_47 : decode cX7_truthNow 47 = .ok (.imul, 1) := by decide +kernel
theorem dX7_truthNow_48 : decode cX7_truthNow 48 = .ok (.iload 4, 2) := by decide +kernel
theorem dX7_truthNow_50 : decode cX7_truthNow 50 = .ok (.iadd, 1) := by decide +kernel
theorem dX7_truthNow_51 : decode cX7_truthNow 51 = .ok (.iaload, 1) := by decide +kernel
theorem dX7_truthNow_52 : decode cX7_truthNow 52 = .ok (.aload_n 0, 1) := by decide +kernel
theorem dX7_truthNow_53 : decode cX7_truthNow 53 = .ok (.getfield 61, 3) := by decide +kernel
theorem dX7_truthNow_56 : decode cX7_truthNow 56 = .ok (.iload 4, 2) := by decide +kernel
theorem dX7_truthNow_58 : decode cX7_truthNow 58 = .ok (.iaload, 1) := by decide +kernel
theorem dX7_truthNow_59 : decode cX7_truthNow 59 = .ok (.imul, 1) := by decide +kernel
theorem dX7_truthNow_60 : decode cX7_truthNow 60 = .ok (.iadd, 1) := by decide +kernel
theorem dX7_truthNow_61 : decode cX7_truthNow 61 = .ok (.istore_n 3, 1) := by decide +kernel
theorem dX7_truthNow_62 : decode cX7_truthNow 62 = .ok (.iinc 4 1, 3) := by decide +kernel
theorem dX7_truthNow_65 : decode cX7_truthNow 65 = .ok (.goto (-33), 3) := by decide +kernel
theorem dX7_truthNow_68 : decode cX7_truthNow 68 = .ok (.aload_n 0, 1) := by decide +kernel
theorem dX7_truthNow_69 : decode cX7_truthNow 69 = .ok (.getfield 42, 3) := by decide +kernel
theorem dX7_truthNow_72 : decode cX7_truthNow 72 = .ok (.iload_n 2, 1) := by decide +kernel
theorem dX7_truthNow_73 : decode cX7_truthNow 73 = .ok (.iaload, 1) := by decide +kernel
theorem dX7_truthNow_74 : decode cX7_truthNow 74 = .ok (.istore 4, 2) := by decide +kernel
theorem dX7_truthNow_76 : decode cX7_truthNow 76 = .ok (.aload_n 0, 1) := by decide +kernel
theorem dX7_truthNow_77 : decode cX7_truthNow 77 = .ok (.getfield 29, 3) := by decide +kernel
theorem dX7_truthNow_80 : decode cX7_truthNow 80 = .ok (.iload_n 1, 1) := by decide +kernel
theorem dX7_truthNow_81 : decode cX7_truthNow 81 = .ok (.iload 4, 2) := by decide +kernel
theorem dX7_truthNow_83 : decode cX7_truthNow 83 = .ok (.ifCond .ne 21, 3) := by decide +kernel
theorem dX7_truthNow_86 : decode cX7_truthNow 86 = .ok (.iload_n 3, 1) := by decide +kernel
theorem dX7_truthNow_87 : decode cX7_truthNow 87 = .ok (.aload_n 0, 1) := by decide +kernel
theorem dX7_truthNow_88 : decode cX7_truthNow 88 = .ok (.getfield 45, 3) := by decide +kernel
theorem dX7_truthNow_91 : decode cX7_truthNow 91 = .ok (.iload_n 2, 1) := by decide +kernel
theorem dX7_truthNow_92 : decode cX7_truthNow 92 = .ok (.iaload, 1) := by decide +kernel
theorem dX7_truthNow_93 : decode cX7_truthNow 93 = .ok (.if_icmp .lt 7, 3) := by decide +kernel
theorem dX7_truthNow_96 : decode cX7_truthNow 96 = .ok (.iconst 1, 1) := by decide +kernel
theorem dX7_truthNow_97 : decode cX7_truthNow 97 = .ok (.goto 31, 3) := by decide +kernel
theorem dX7_truthNow_100 : decode cX7_truthNow 100 = .ok (.iconst 0, 1) := by decide +kernel
theorem dX7_truthNow_101 : decode cX7_truthNow 101 = .ok (.goto 27, 3) := by decide +kernel
theorem dX7_truthNow_104 : decode cX7_truthNow 104 = .ok (.iload_n 3, 1) := by decide +kernel
theorem dX7_truthNow_105 : decode cX7_truthNow 105 = .ok (.iload 4, 2) := by decide +kernel
theorem dX7_truthNow_107 : decode cX7_truthNow 107 = .ok (.irem, 1) := by decide +kernel
theorem dX7_truthNow_108 : decode cX7_truthNow 108 = .ok (.iload 4, 2) := by decide +kernel
theorem dX7_truthNow_110 : decode cX7_truthNow 110 = .ok (.iadd, 1) := by decide +kernel
theorem dX7_truthNow_111 : decode cX7_truthNow 111 = .ok (.iload 4, 2) := by decide +kernel
theorem dX7_truthNow_113 : decode cX7_truthNow 113 = .ok (.irem, 1) := by decide +kernel
theorem dX7_truthNow_114 : decode cX7_truthNow 114 = .ok (.aload_n 0, 1) := by decide +kernel
theorem dX7_truthNow_115 : decode cX7_truthNow 115 = .ok (.getfield 45, 3) := by decide +kernel
theorem dX7_truthNow_118 : decode cX7_truthNow 118 = .ok (.iload_n 2, 1) := by decide +kernel
theorem dX7_truthNow_119 : decode cX7_truthNow 119 = .ok (.iaload, 1) := by decide +kernel
theorem dX7_truthNow_120 : decode cX7_truthNow 120 = .ok (.if_icmp .ne 7, 3) := by decide +kernel
theorem dX7_truthNow_123 : decode cX7_truthNow 123 = .ok (.iconst 1, 1) := by decide +kernel
theorem dX7_truthNow_124 : decode cX7_truthNow 124 = .ok (.goto 4, 3) := by decide +kernel
theorem dX7_truthNow_127 : decode cX7_truthNow 127 = .ok (.iconst 0, 1) := by decide +kernel
theorem dX7_truthNow_128 : decode cX7_truthNow 128 = .ok (.bastore, 1) := by decide +kernel
theorem dX7_truthNow_129 : decode cX7_truthNow 129 = .ok (.iinc 1 1, 3) := by decide +kernel
theorem dX7_truthNow_132 : decode cX7_truthNow 132 = .ok (.goto (-130), 3) := by decide +kernel
theorem dX7_truthNow_135 : decode cX7_truthNow 135 = .ok (.aload_n 0, 1) := by decide +kernel
theorem dX7_truthNow_136 : decode cX7_truthNow 136 = .ok (.invokevirtual 109, 3) := by decide +kernel
theorem dX7_truthNow_139 : decode cX7_truthNow 139 = .ok (.ireturn, 1) := by decide +kernel
theorem dX7_outputOf_0 : decode cX7_outputOf 0 = .ok (.iconst 0, 1) := by decide +kernel
theorem dX7_outputOf_1 : decode cX7_outputOf 1 = .ok (.istore_n 2, 1) := by decide +kernel
theorem dX7_outputOf_2 : decode cX7_outputOf 2 = .ok (.iload_n 2, 1) := by decide +kernel
theorem dX7_outputOf_3 : decode cX7_outputOf 3 = .ok (.aload_n 0, 1) := by decide +kernel
theorem dX7_outputOf_4 : decode cX7_outputOf 4 = .ok (.getfield 17, 3) := by decide +kernel
theorem dX7_outputOf_7 : decode cX7_outputOf 7 = .ok (.if_icmp .ge 51, 3) := by decide +kernel
theorem dX7_outputOf_10 : decode cX7_outputOf 10 = .ok (.aload_n 0, 1) := by decide +kernel
theorem dX7_outputOf_11 : decode cX7_outputOf 11 = .ok (.getfield 20, 3) := by decide +kernel
theorem dX7_outputOf_14 : decode cX7_outputOf 14 = .ok (.iload_n 2, 1) := by decide +kernel
theorem dX7_outputOf_15 : decode cX7_outputOf 15 = .ok (.iaload, 1) := by decide +kernel
theorem dX7_outputOf_16 : decode cX7_outputOf 16 = .ok (.iconst 3, 1) := by decide +kernel
theorem dX7_outputOf_17 : decode cX7_outputOf 17 = .ok (.if_icmp .ne 35, 3) := by decide +kernel
theorem dX7_outputOf_20 : decode cX7_outputOf 20 = .ok (.aload_n 0, 1) := by decide +kernel
theorem dX7_outputOf_21 : decode cX7_outputOf 21 = .ok (.getfield 29, 3) := by decide +kernel
theorem dX7_outputOf_24 : decode cX7_outputOf 24 = .ok (.iload_n 2, 1) := by decide +kernel
theorem dX7_outputOf_25 : decode cX7_outputOf 25 = .ok (.aload_n 0, 1) := by decide +kernel
theorem dX7_outputOf_26 : decode cX7_outputOf 26 = .ok (.getfield 58, 3) := by decide +kernel
theorem dX7_outputOf_29 : decode cX7_outputOf 29 = .ok (.iconst 5, 1) := by decide +kernel
theorem dX7_outputOf_30 : decode cX7_outputOf 30 = .ok (.iload_n 1, 1) := by decide +kernel
theorem dX7_outputOf_31 : decode cX7_outputOf 31 = .ok (.imul, 1) := by decide +kernel
theorem dX7_outputOf_32 : decode cX7_outputOf 32 = .ok (.aload_n 0, 1) := by decide +kernel
theorem dX7_outputOf_33 : decode cX7_outputOf 33 = .ok (.getfield 23, 3) := by decide +kernel
theorem dX7_outputOf_36 : decode cX7_outputOf 36 = .ok (.iload_n 2, 1) := by decide +kernel
theorem dX7_outputOf_37 : decode cX7_outputOf 37 = .ok (.iaload, 1) := by decide +kernel
theorem dX7_outputOf_38 : decode cX7_outputOf 38 = .ok (.iadd, 1) := by decide +kernel
theorem dX7_outputOf_39 : decode cX7_outputOf 39 = .ok (.iaload, 1) := by decide +kernel
theorem dX7_outputOf_40 : decode cX7_outputOf 40 = .ok (.iconst 1, 1) := by decide +kernel
theorem dX7_outputOf_41 : decode cX7_outputOf 41 = .ok (.iand, 1) := by decide +kernel
theorem dX7_outputOf_42 : decode cX7_outputOf 42 = .ok (.iconst 1, 1) := by decide +kernel
theorem dX7_outputOf_43 : decode cX7_outputOf 43 = .ok (.if_icmp .ne 7, 3) := by decide +kernel
theorem dX7_outputOf_46 : decode cX7_outputOf 46 = .ok (.iconst 1, 1) := by decide +kernel
theorem dX7_outputOf_47 : decode cX7_outputOf 47 = .ok (.goto 4, 3) := by decide +kernel
theorem dX7_outputOf_50 : decode cX7_outputOf 50 = .ok (.iconst 0, 1) := by decide +kernel
theorem dX7_outputOf_51 : decode cX7_outputOf 51 = .ok (.bastore, 1) := by decide +kernel
theorem dX7_outputOf_52 : decode cX7_outputOf 52 = .ok (.iinc 2 1, 3) := by decide +kernel
theorem dX7_outputOf_55 : decode cX7_outputOf 55 = .ok (.goto (-53), 3) := by decide +kernel
theorem dX7_outputOf_58 : decode cX7_outputOf 58 = .ok (.aload_n 0, 1) := by decide +kernel
theorem dX7_outputOf_59 : decode cX7_outputOf 59 = .ok (.invokevirtual 109, 3) := by decide +kernel
theorem dX7_outputOf_62 : decode cX7_outputOf 62 = .ok (.ireturn, 1) := by decide +kernel
theorem dX7_meets_0 : decode cX7_meets 0 = .ok (.iconst 0, 1) := by decide +kernel
theorem dX7_meets_1 : decode cX7_meets 1 = .ok (.istore 4, 2) := by decide +kernel
theorem dX7_meets_3 : decode cX7_meets 3 = .ok (.iconst 0, 1) := by decide +kernel
theorem dX7_meets_4 : decode cX7_meets 4 = .ok (.istore 5, 2) := by decide +kernel
theorem dX7_meets_6 : decode cX7_meets 6 = .ok (.iload 5, 2) := by decide +kernel
theorem dX7_meets_8 : decode cX7_meets 8 = .ok (.aload_n 0, 1) := by decide +kernel
theorem dX7_meets_9 : decode cX7_meets 9 = .ok (.getfield 33, 3) := by decide +kernel
theorem dX7_meets_12 : decode cX7_meets 12 = .ok (.if_icmp .ge 110, 3) := by decide +kernel
theorem dX7_meets_15 : decode cX7_meets 15 = .ok (.aload_n 0, 1) := by decide +kernel
theorem dX7_meets_16 : decode cX7_meets 16 = .ok (.iload 5, 2) := by decide +kernel
theorem dX7_meets_18 : decode cX7_meets 18 = .ok (.aload_n 0, 1) := by decide +kernel
theorem dX7_meets_19 : decode cX7_meets 19 = .ok (.getfield 58, 3) := by decide +kernel
theorem dX7_meets_22 : decode cX7_meets 22 = .ok (.iconst 5, 1) := by decide +kernel
theorem dX7_meets_23 : decode cX7_meets 23 = .ok (.iload_n 1, 1) := by decide +kernel
theorem dX7_meets_24 : decode cX7_meets 24 = .ok (.imul, 1) := by decide +kernel
theorem dX7_meets_25 : decode cX7_meets 25 = .ok (.iload 5, 2) := by decide +kernel
theorem dX7_meets_27 : decode cX7_meets 27 = .ok (.iadd, 1) := by decide +kernel
theorem dX7_meets_28 : decode cX7_meets 28 = .ok (.iaload, 1) := by decide +kernel
theorem dX7_meets_29 : decode cX7_meets 29 = .ok (.aload_n 0, 1) := by decide +kernel
theorem dX7_meets_30 : decode cX7_meets 30 = .ok (.getfield 58, 3) := by decide +kernel
theorem dX7_meets_33 : decode cX7_meets 33 = .ok (.iconst 5, 1) := by decide +kernel
theorem dX7_meets_34 : decode cX7_meets 34 = .ok (.iload_n 2, 1) := by decide +kernel
theorem dX7_meets_35 : decode cX7_meets 35 = .ok (.imul, 1) := by decide +kernel
theorem dX7_meets_36 : decode cX7_meets 36 = .ok (.iload 5, 2) := by decide +kernel
theorem dX7_meets_38 : decode cX7_meets 38 = .ok (.iadd, 1) := by decide +kernel
theorem dX7_meets_39 : decode cX7_meets 39 = .ok (.iaload, 1) := by decide +kernel
theorem dX7_meets_40 : decode cX7_meets 40 = .ok (.invokevirtual 105, 3) := by decide +kernel
theorem dX7_meets_43 : decode cX7_meets 43 = .ok (.aload_n 0, 1) := by decide +kernel
theorem dX7_meets_44 : decode cX7_meets 44 = .ok (.getfield 64, 3) := by decide +kernel
theorem dX7_meets_47 : decode cX7_meets 47 = .ok (.aload_n 0, 1) := by decide +kernel
theorem dX7_meets_48 : decode cX7_meets 48 = .ok (.getfield 58, 3) := by decide +kernel
theorem dX7_meets_51 : decode cX7_meets 51 = .ok (.iconst 5, 1) := by decide +kernel
theorem dX7_meets_52 : decode cX7_meets 52 = .ok (.iload_n 1, 1) := by decide +kernel
theorem dX7_meets_53 : decode cX7_meets 53 = .ok (.imul, 1) := by decide +kernel
theorem dX7_meets_54 : decode cX7_meets 54 = .ok (.iload 5, 2) := by decide +kernel
theorem dX7_meets_56 : decode cX7_meets 56 = .ok (.iadd, 1) := by decide +kernel
theorem dX7_meets_57 : decode cX7_meets 57 = .ok (.iaload, 1) := by decide +kernel
theorem dX7_meets_58 : decode cX7_meets 58 = .ok (.if_icmp .ne 21, 3) := by decide +kernel
theorem dX7_meets_61 : decode cX7_meets 61 = .ok (.aload_n 0, 1) := by decide +kernel
theorem dX7_meets_62 : decode cX7_meets 62 = .ok (.getfield 67, 3) := by decide +kernel
theorem dX7_meets_65 : decode cX7_meets 65 = .ok (.aload_n 0, 1) := by decide +kernel
theorem dX7_meets_66 : decode cX7_meets 66 = .ok (.getfield 58, 3) := by decide +kernel
theorem dX7_meets_69 : decode cX7_meets 69 = .ok (.iconst 5, 1) := by decide +kernel
theorem dX7_meets_70 : decode cX7_meets 70 = .ok (.iload_n 2, 1) := by decide +kernel
theorem dX7_meets_71 : decode cX7_meets 71 = .ok (.imul, 1) := by decide +kernel
theorem dX7_meets_72 : decode cX7_meets 72 = .ok (.iload 5, 2) := by decide +kernel
theorem dX7_meets_74 : decode cX7_meets 74 = .ok (.iadd, 1) := by decide +kernel
theorem dX7_meets_75 : decode cX7_meets 75 = .ok (.iaload, 1) := by decide +kernel
theorem dX7_meets_76 : decode cX7_meets 76 = .ok (.if_icmp .eq 6, 3) := by decide +kernel
theorem dX7_meets_79 : decode cX7_meets 79 = .ok (.iconst 1, 1) := by decide +kernel
theorem dX7_meets_80 : decode cX7_meets 80 = .ok (.istore 4, 2) := by decide +kernel
theorem dX7_meets_82 : decode cX7_meets 82 = .ok (.iload_n 3, 1) := by decide +kernel
theorem dX7_meets_83 : decode cX7_meets 83 = .ok (.ifCond .eq 33, 3) := by decide +kernel
theorem dX7_meets_86 : decode cX7_meets 86 = .ok (.aload_n 0, 1) := by decide +kernel
theorem dX7_meets_87 : decode cX7_meets 87 = .ok (.getfield 58, 3) := by decide +kernel
theorem dX7_meets_90 : decode cX7_meets 90 = .ok (.iconst 5, 1) := by decide +kernel
theorem dX7_meets_91 : decode cX7_meets 91 = .ok (.iload_n 1, 1) := by decide +kernel
theorem dX7_meets_92 : decode cX7_meets 92 = .ok (.imul, 1) := by decide +kernel
theorem dX7_meets_93 : decode cX7_meets 93 = .ok (.iload 5, 2) := by decide +kernel
theorem dX7_meets_95 : decode cX7_meets 95 = .ok (.iadd, 1) := by decide +kernel
theorem dX7_meets_96 : decode cX7_meets 96 = .ok (.aload_n 0, 1) := by decide +kernel
theorem dX7_meets_97 : decode cX7_meets 97 = .ok (.getfield 64, 3) := by decide +kernel
theorem dX7_meets_100 : decode cX7_meets 100 = .ok (.iastore, 1) := by decide +kernel
theorem dX7_meets_101 : decode cX7_meets 101 = .ok (.aload_n 0, 1) := by decide +kernel
theorem dX7_meets_102 : decode cX7_meets 102 = .ok (.getfield 58, 3) := by decide +kernel
theorem dX7_meets_105 : decode cX7_meets 105 = .ok (.iconst 5, 1) := by decide +kernel
theorem dX7_meets_106 : decode cX7_meets 106 = .ok (.iload_n 2, 1) := by decide +kernel
theorem dX7_meets_107 : decode cX7_meets 107 = .ok (.imul, 1) := by decide +kernel
theorem dX7_meets_108 : decode cX7_meets 108 = .ok (.iload 5, 2) := by decide +kernel
theorem dX7_meets_110 : decode cX7_meets 110 = .ok (.iadd, 1) := by decide +kernel
theorem dX7_meets_111 : decode cX7_meets 111 = .ok (.aload_n 0, 1) := by decide +kernel
theorem dX7_meets_112 : decode cX7_meets 112 = .ok (.getfield 67, 3) := by decide +kernel
theorem dX7_meets_115 : decode cX7_meets 115 = .ok (.iastore, 1) := by decide +kernel
theorem dX7_meets_116 : decode cX7_meets 116 = .ok (.iinc 5 1, 3) := by decide +kernel
theorem dX7_meets_119 : decode cX7_meets 119 = .ok (.goto (-113), 3) := by decide +kernel
theorem dX7_meets_122 : decode cX7_meets 122 = .ok (.iload 4, 2) := by decide +kernel
theorem dX7_meets_124 : decode cX7_meets 124 = .ok (.ifCond .eq 12, 3) := by decide +kernel
theorem dX7_meets_127 : decode cX7_meets 127 = .ok (.iload_n 3, 1) := by decide +kernel
theorem dX7_meets_128 : decode cX7_meets 128 = .ok (.ifCond .eq 8, 3) := by decide +kernel
theorem dX7_meets_131 : decode cX7_meets 131 = .ok (.aload_n 0, 1) := by decide +kernel
theorem dX7_meets_132 : decode cX7_meets 132 = .ok (.iconst 0, 1) := by decide +kernel
theorem dX7_meets_133 : decode cX7_meets 133 = .ok (.putfield 83, 3) := by decide +kernel
theorem dX7_meets_136 : decode cX7_meets 136 = .ok (.iload 4, 2) := by decide +kernel
theorem dX7_meets_138 : decode cX7_meets 138 = .ok (.ireturn, 1) := by decide +kernel
theorem dX7_stateIn_0 : decode cX7_stateIn 0 = .ok (.lload_n 0, 1) := by decide +kernel
theorem dX7_stateIn_1 : decode cX7_stateIn 1 = .ok (.bipush 8, 2) := by decide +kernel
theorem dX7_stateIn_3 : decode cX7_stateIn 3 = .ok (.iload_n 2, 1) := by decide +kernel
theorem dX7_stateIn_4 : decode cX7_stateIn 4 = .ok (.imul, 1) := by decide +kernel
theorem dX7_stateIn_5 : decode cX7_stateIn 5 = .ok (.lshr, 1) := by decide +kernel
theorem dX7_stateIn_6 : decode cX7_stateIn 6 = .ok (.l2i, 1) := by decide +kernel
theorem dX7_stateIn_7 : decode cX7_stateIn 7 = .ok (.sipush 255, 3) := by decide +kernel
theorem dX7_stateIn_10 : decode cX7_stateIn 10 = .ok (.iand, 1) := by decide +kernel
theorem dX7_stateIn_11 : decode cX7_stateIn 11 = .ok (.ireturn, 1) := by decide +kernel
theorem dX7_sort_0 : decode cX7_sort 0 = .ok (.iconst 1, 1) := by decide +kernel
theorem dX7_sort_1 : decode cX7_sort 1 = .ok (.istore_n 1, 1) := by decide +kernel
theorem dX7_sort_2 : decode cX7_sort 2 = .ok (.iload_n 1, 1) := by decide +kernel
theorem dX7_sort_3 : decode cX7_sort 3 = .ok (.aload_n 0, 1) := by decide +kernel
theorem dX7_sort_4 : decode cX7_sort 4 = .ok (.getfield 55, 3) := by decide +kernel
theorem dX7_sort_7 : decode cX7_sort 7 = .ok (.if_icmp .ge 69, 3) := by decide +kernel
theorem dX7_sort_10 : decode cX7_sort 10 = .ok (.iload_n 1, 1) := by decide +kernel
theorem dX7_sort_11 : decode cX7_sort 11 = .ok (.istore_n 2, 1) := by decide +kernel
theorem dX7_sort_12 : decode cX7_sort 12 = .ok (.iload_n 2, 1) := by decide +kernel
theorem dX7_sort_13 : decode cX7_sort 13 = .ok (.ifCond .le 57, 3) := by decide +kernel
theorem dX7_sort_16 : decode cX7_sort 16 = .ok (.aload_n 0, 1) := by decide +kernel
theorem dX7_sort_17 : decode cX7_sort 17 = .ok (.getfield 86, 3) := by decide +kernel
theorem dX7_sort_20 : decode cX7_sort 20 = .ok (.iload_n 2, 1) := by decide +kernel
theorem dX7_sort_21 : decode cX7_sort 21 = .ok (.laload, 1) := by decide +kernel
theorem dX7_sort_22 : decode cX7_sort 22 = .ok (.aload_n 0, 1) := by decide +kernel
theorem dX7_sort_23 : decode cX7_sort 23 = .ok (.getfield 86, 3) := by decide +kernel
theorem dX7_sort_26 : decode cX7_sort 26 = .ok (.iload_n 2, 1) := by decide +kernel
theorem dX7_sort_27 : decode cX7_sort 27 = .ok (.iconst 1, 1) := by decide +kernel
theorem dX7_sort_28 : decode cX7_sort 28 = .ok (.isub, 1) := by decide +kernel
theorem dX7_sort_29 : decode cX7_sort 29 = .ok (.laload, 1) := by decide +kernel
theorem dX7_sort_30 : decode cX7_sort 30 = .ok (.lcmp, 1) := by decide +kernel
theorem dX7_sort_31 : decode cX7_sort 31 = .ok (.ifCond .ge 39, 3) := by decide +kernel
theorem dX7_sort_34 : decode cX7_sort 34 = .ok (.aload_n 0, 1) := by decide +kernel
theorem dX7_sort_35 : decode cX7_sort 35 = .ok (.getfield 86, 3) := by decide +kernel
theorem dX7_sort_38 : decode cX7_sort 38 = .ok (.iload_n 2, 1) := by decide +kernel
theorem dX7_sort_39 : decode cX7_sort 39 = .ok (.laload, 1) := by decide +kernel
theorem dX7_sort_40 : decode cX7_sort 40 = .ok (.lstore_n 3, 1) := by decide +kernel
theorem dX7_sort_41 : decode cX7_sort 41 = .ok (.aload_n 0, 1) := by decide +kernel
theorem dX7_sort_42 : decode cX7_sort 42 = .ok (.getfield 86, 3) := by decide +kernel
theorem dX7_sort_45 : decode cX7_sort 45 = .ok (.iload_n 2, 1) := by decide +kernel
theorem dX7_sort_46 : decode cX7_sort 46 = .ok (.aload_n 0, 1) := by decide +kernel
theorem dX7_sort_47 : decode cX7_sort 47 = .ok (.getfield 86, 3) := by decide +kernel
theorem dX7_sort_50 : decode cX7_sort 50 = .ok (.iload_n 2, 1) := by decide +kernel
theorem dX7_sort_51 : decode cX7_sort 51 = .ok (.iconst 1, 1) := by decide +kernel
theorem dX7_sort_52 : decode cX7_sort 52 = .ok (.isub, 1) := by decide +kernel
theorem dX7_sort_53 : decode cX7_sort 53 = .ok (.laload, 1) := by decide +kernel
theorem dX7_sort_54 : decode cX7_sort 54 = .ok (.lastore, 1) := by decide +kernel
theorem dX7_sort_55 : decode cX7_sort 55 = .ok (.aload_n 0, 1) := by decide +kernel
theorem dX7_sort_56 : decode cX7_sort 56 = .ok (.getfield 86, 3) := by decide +kernel
theorem dX7_sort_59 : decode cX7_sort 59 = .ok (.iload_n 2, 1) := by decide +kernel
theorem dX7_sort_60 : decode cX7_sort 60 = .ok (.iconst 1, 1) := by decide +kernel
theorem dX7_sort_61 : decode cX7_sort 61 = .ok (.isub, 1) := by decide +kernel
theorem dX7_sort_62 : decode cX7_sort 62 = .ok (.lload_n 3, 1) := by decide +kernel
theorem dX7_sort_63 : decode cX7_sort 63 = .ok (.lastore, 1) := by decide +kernel
theorem dX7_sort_64 : decode cX7_sort 64 = .ok (.iinc 2 (-1), 3) := by decide +kernel
theorem dX7_sort_67 : decode cX7_sort 67 = .ok (.goto (-55), 3) := by decide +kernel
theorem dX7_sort_70 : decode cX7_sort 70 = .ok (.iinc 1 1, 3) := by decide +kernel
theorem dX7_sort_73 : decode cX7_sort 73 = .ok (.goto (-71), 3) := by decide +kernel
theorem dX7_sort_76 : decode cX7_sort 76 = .ok (.return_, 1) := by decide +kernel
theorem dX7_after_0 : decode cX7_after 0 = .ok (.iconst 0, 1) := by decide +kernel
theorem dX7_after_1 : decode cX7_after 1 = .ok (.istore 4, 2) := by decide +kernel
theorem dX7_after_3 : decode cX7_after 3 = .ok (.iload 4, 2) := by decide +kernel
theorem dX7_after_5 : decode cX7_after 5 = .ok (.aload_n 0, 1) := by decide +kernel
theorem dX7_after_6 : decode cX7_after 6 = .ok (.getfield 55, 3) := by decide +kernel
theorem dX7_after_9 : decode cX7_after 9 = .ok (.if_icmp .ge 28, 3) := by decide +kernel
theorem dX7_after_12 : decode cX7_after 12 = .ok (.aload_n 0, 1) := by decide +kernel
theorem dX7_after_13 : decode cX7_after 13 = .ok (.getfield 86, 3) := by decide +kernel
theorem dX7_after_16 : decode cX7_after 16 = .ok (.iload 4, 2) := by decide +kernel
theorem dX7_after_18 : decode cX7_after 18 = .ok (.aload_n 0, 1) := by decide +kernel
theorem dX7_after_19 : decode cX7_after 19 = .ok (.getfield 73, 3) := by decide +kernel
theorem dX7_after_22 : decode cX7_after 22 = .ok (.bipush 6, 2) := by decide +kernel
theorem dX7_after_24 : decode cX7_after 24 = .ok (.iload_n 1, 1) := by decide +kernel
theorem dX7_after_25 : decode cX7_after 25 = .ok (.imul, 1) := by decide +kernel
theorem dX7_after_26 : decode cX7_after 26 = .ok (.iload 4, 2) := by decide +kernel
theorem dX7_after_28 : decode cX7_after 28 = .ok (.iadd, 1) := by decide +kernel
theorem dX7_after_29 : decode cX7_after 29 = .ok (.laload, 1) := by decide +kernel
theorem dX7_after_30 : decode cX7_after 30 = .ok (.lastore, 1) := by decide +kernel
theorem dX7_after_31 : decode cX7_after 31 = .ok (.iinc 4 1, 3) := by decide +kernel
theorem dX7_after_34 : decode cX7_after 34 = .ok (.goto (-31), 3) := by decide +kernel
theorem dX7_after_37 : decode cX7_after 37 = .ok (.aload_n 0, 1) := by decide +kernel
theorem dX7_after_38 : decode cX7_after 38 = .ok (.getfield 86, 3) := by decide +kernel
theorem dX7_after_41 : decode cX7_after 41 = .ok (.iload_n 2, 1) := by decide +kernel
theorem dX7_after_42 : decode cX7_after 42 = .ok (.laload, 1) := by decide +kernel
theorem dX7_after_43 : decode cX7_after 43 = .ok (.lstore 4, 2) := by decide +kernel
theorem dX7_after_45 : decode cX7_after 45 = .ok (.aload_n 0, 1) := by decide +kernel
theorem dX7_after_46 : decode cX7_after 46 = .ok (.getfield 86, 3) := by decide +kernel
theorem dX7_after_49 : decode cX7_after 49 = .ok (.iload_n 3, 1) := by decide +kernel
theorem dX7_after_50 : decode cX7_after 50 = .ok (.laload, 1) := by decide +kernel
theorem dX7_after_51 : decode cX7_after 51 = .ok (.lstore 6, 2) := by decide +kernel
theorem dX7_after_53 : decode cX7_after 53 = .ok (.aload_n 0, 1) := by decide +kernel
theorem dX7_after_54 : decode cX7_after 54 = .ok (.getfield 86, 3) := by decide +kernel
theorem dX7_after_57 : decode cX7_after 57 = .ok (.iload_n 2, 1) := by decide +kernel
theorem dX7_after_58 : decode cX7_after 58 = .ok (.lconst 0, 1) := by decide +kernel
theorem dX7_after_59 : decode cX7_after 59 = .ok (.lastore, 1) := by decide +kernel
theorem dX7_after_60 : decode cX7_after 60 = .ok (.aload_n 0, 1) := by decide +kernel
theorem dX7_after_61 : decode cX7_after 61 = .ok (.getfield 86, 3) := by decide +kernel
theorem dX7_after_64 : decode cX7_after 64 = .ok (.iload_n 3, 1) := by decide +kernel
theorem dX7_after_65 : decode cX7_after 65 = .ok (.lconst 0, 1) := by decide +kernel
theorem dX7_after_66 : decode cX7_after 66 = .ok (.lastore, 1) := by decide +kernel
theorem dX7_after_67 : decode cX7_after 67 = .ok (.iconst 0, 1) := by decide +kernel
theorem dX7_after_68 : decode cX7_after 68 = .ok (.istore 8, 2) := by decide +kernel
theorem dX7_after_70 : decode cX7_after 70 = .ok (.iload 8, 2) := by decide +kernel
theorem dX7_after_72 : decode cX7_after 72 = .ok (.aload_n 0, 1) := by decide +kernel
theorem dX7_after_73 : decode cX7_after 73 = .ok (.getfield 33, 3) := by decide +kernel
theorem dX7_after_76 : decode cX7_after 76 = .ok (.if_icmp .ge 77, 3) := by decide +kernel
theorem dX7_after_79 : decode cX7_after 79 = .ok (.aload_n 0, 1) := by decide +kernel
theorem dX7_after_80 : decode cX7_after 80 = .ok (.iload 8, 2) := by decide +kernel
theorem dX7_after_82 : decode cX7_after 82 = .ok (.lload 4, 2) := by decide +kernel
theorem dX7_after_84 : decode cX7_after 84 = .ok (.iload 8, 2) := by decide +kernel
theorem dX7_after_86 : decode cX7_after 86 = .ok (.invokestatic 113, 3) := by decide +kernel
theorem dX7_after_89 : decode cX7_after 89 = .ok (.lload 6, 2) := by decide +kernel
theorem dX7_after_91 : decode cX7_after 91 = .ok (.iload 8, 2) := by decide +kernel
theorem dX7_after_93 : decode cX7_after 93 = .ok (.invokestatic 113, 3) := by decide +kernel
theorem dX7_after_96 : decode cX7_after 96 = .ok (.invokevirtual 105, 3) := by decide +kernel
theorem dX7_after_99 : decode cX7_after 99 = .ok (.aload_n 0, 1) := by decide +kernel
theorem dX7_after_100 : decode cX7_after 100 = .ok (.getfield 86, 3) := by decide +kernel
theorem dX7_after_103 : decode cX7_after 103 = .ok (.iload_n 2, 1) := by decide +kernel
theorem dX7_after_104 : decode cX7_after 104 = .ok (.aload_n 0, 1) := by decide +kernel
theorem dX7_after_105 : decode cX7_after 105 = .ok (.getfield 86, 3) := by decide +kernel
theorem dX7_after_108 : decode cX7_after 108 = .ok (.iload_n 2, 1) := by decide +kernel
theorem dX7_after_109 : decode cX7_after 109 = .ok (.laload, 1) := by decide +kernel
theorem dX7_after_110 : decode cX7_after 110 = .ok (.aload_n 0, 1) := by decide +kernel
theorem dX7_after_111 : decode cX7_after 111 = .ok (.getfield 64, 3) := by decide +kernel
theorem dX7_after_114 : decode cX7_after 114 = .ok (.i2l, 1) := by decide +kernel
theorem dX7_after_115 : decode cX7_after 115 = .ok (.bipush 8, 2) := by decide +kernel
theorem dX7_after_117 : decode cX7_after 117 = .ok (.iload 8, 2) := by decide +kernel
theorem dX7_after_119 : decode cX7_after 119 = .ok (.imul, 1) := by decide +kernel
theorem dX7_after_120 : decode cX7_after 120 = .ok (.lshl, 1) := by decide +kernel
theorem dX7_after_121 : decode cX7_after 121 = .ok (.lor, 1) := by decide +kernel
theorem dX7_after_122 : decode cX7_after 122 = .ok (.lastore, 1) := by decide +kernel
theorem dX7_after_123 : decode cX7_after 123 = .ok (.aload_n 0, 1) := by decide +kernel
theorem dX7_after_124 : decode cX7_after 124 = .ok (.getfield 86, 3) := by decide +kernel
theorem dX7_after_127 : decode cX7_after 127 = .ok (.iload_n 3, 1) := by decide +kernel
theorem dX7_after_128 : decode cX7_after 128 = .ok (.aload_n 0, 1) := by decide +kernel
theorem dX7_after_129 : decode cX7_after 129 = .ok (.getfield 86, 3) := by decide +kernel
theorem dX7_after_132 : decode cX7_after 132 = .ok (.iload_n 3, 1) := by decide +kernel
theorem dX7_after_133 : decode cX7_after 133 = .ok (.laload, 1) := by decide +kernel
theorem dX7_after_134 : decode cX7_after 134 = .ok (.aload_n 0, 1) := by decide +kernel
theorem dX7_after_135 : decode cX7_after 135 = .ok (.getfield 67, 3) := by decide +kernel
theorem dX7_after_138 : decode cX7_after 138 = .ok (.i2l, 1) := by decide +kernel
theorem dX7_after_139 : decode cX7_after 139 = .ok (.bipush 8, 2) := by decide +kernel
theorem dX7_after_141 : decode cX7_after 141 = .ok (.iload 8, 2) := by decide +kernel
theorem dX7_after_143 : decode cX7_after 143 = .ok (.imul, 1) := by decide +kernel
theorem dX7_after_144 : decode cX7_after 144 = .ok (.lshl, 1) := by decide +kernel
theorem dX7_after_145 : decode cX7_after 145 = .ok (.lor, 1) := by decide +kernel
theorem dX7_after_146 : decode cX7_after 146 = .ok (.lastore, 1) := by decide +kernel
theorem dX7_after_147 : decode cX7_after 147 = .ok (.iinc 8 1, 3) := by decide +kernel
theorem dX7_after_150 : decode cX7_after 150 = .ok (.goto (-80), 3) := by decide +kernel
theorem dX7_after_153 : decode cX7_after 153 = .ok (.aload_n 0, 1) := by decide +kernel
theorem dX7_after_154 : decode cX7_after 154 = .ok (.getfield 86, 3) := by decide +kernel
theorem dX7_after_157 : decode cX7_after 157 = .ok (.iload_n 2, 1) := by decide +kernel
theorem dX7_after_158 : decode cX7_after 158 = .ok (.laload, 1) := by decide +kernel
theorem dX7_after_159 : decode cX7_after 159 = .ok (.lload 4, 2) := by decide +kernel
theorem dX7_after_161 : decode cX7_after 161 = .ok (.lcmp, 1) := by decide +kernel
theorem dX7_after_162 : decode cX7_after 162 = .ok (.ifCond .ne 15, 3) := by decide +kernel
theorem dX7_after_165 : decode cX7_after 165 = .ok (.aload_n 0, 1) := by decide +kernel
theorem dX7_after_166 : decode cX7_after 166 = .ok (.getfield 86, 3) := by decide +kernel
theorem dX7_after_169 : decode cX7_after 169 = .ok (.iload_n 3, 1) := by decide +kernel
theorem dX7_after_170 : decode cX7_after 170 = .ok (.laload, 1) := by decide +kernel
theorem dX7_after_171 : decode cX7_after 171 = .ok (.lload 6, 2) := by decide +kernel
theorem dX7_after_173 : decode cX7_after 173 = .ok (.lcmp, 1) := by decide +kernel
theorem dX7_after_174 : decode cX7_after 174 = .ok (.ifCond .eq 7, 3) := by decide +kernel
theorem dX7_after_177 : decode cX7_after 177 = .ok (.iconst 1, 1) := by decide +kernel
theorem dX7_after_178 : decode cX7_after 178 = .ok (.goto 4, 3) := by decide +kernel
theorem dX7_after_181 : decode cX7_after 181 = .ok (.iconst 0, 1) := by decide +kernel
theorem dX7_after_182 : decode cX7_after 182 = .ok (.ireturn, 1) := by decide +kernel
theorem dX7_find_0 : decode cX7_find 0 = .ok (.ldc2_w 117, 3) := by decide +kernel
theorem dX7_find_3 : decode cX7_find 3 = .ok (.lstore_n 2, 1) := by decide +kernel
theorem dX7_find_4 : decode cX7_find 4 = .ok (.iconst 0, 1) := by decide +kernel
theorem dX7_find_5 : decode cX7_find 5 = .ok (.istore 4, 2) := by decide +kernel
theorem dX7_find_7 : decode cX7_find 7 = .ok (.iload 4, 2) := by decide +kernel
theorem dX7_find_9 : decode cX7_find 9 = .ok (.aload_n 0, 1) := by decide +kernel
theorem dX7_find_10 : decode cX7_find 10 = .ok (.getfield 55, 3) := by decide +kernel
theorem dX7_find_13 : decode cX7_find 13 = .ok (.if_icmp .ge 28, 3) := by decide +kernel
theorem dX7_find_16 : decode cX7_find 16 = .ok (.lload_n 2, 1) := by decide +kernel
theorem dX7_find_17 : decode cX7_find 17 = .ok (.ldc2_w 119, 3) := by decide +kernel
theorem dX7_find_20 : decode cX7_find 20 = .ok (.lmul, 1) := by decide +kernel
theorem dX7_find_21 : decode cX7_find 21 = .ok (.aload_n 0, 1) := by decide +kernel
theorem dX7_find_22 : decode cX7_find 22 = .ok (.getfield 86, 3) := by decide +kernel
theorem dX7_find_25 : decode cX7_find 25 = .ok (.iload 4, 2) := by decide +kernel
theorem dX7_find_27 : decode cX7_find 27 = .ok (.laload, 1) := by decide +kernel
theorem dX7_find_28 : decode cX7_find 28 = .ok (.ladd, 1) := by decide +kernel
theorem dX7_find_29 : decode cX7_find 29 = .ok (.lload_n 2, 1) := by decide +kernel
theorem dX7_find_30 : decode cX7_find 30 = .ok (.bipush 29, 2) := by decide +kernel
theorem dX7_find_32 : decode cX7_find 32 = .ok (.lushr, 1) := by decide +kernel
theorem dX7_find_33 : decode cX7_find 33 = .ok (.ladd, 1) := by decide +kernel
theorem dX7_find_34 : decode cX7_find 34 = .ok (.lstore_n 2, 1) := by decide +kernel
theorem dX7_find_35 : decode cX7_find 35 = .ok (.iinc 4 1, 3) := by decide +kernel
theorem dX7_find_38 : decode cX7_find 38 = .ok (.goto (-31), 3) := by decide +kernel
theorem dX7_find_41 : decode cX7_find 41 = .ok (.lload_n 2, 1) := by decide +kernel
theorem dX7_find_42 : decode cX7_find 42 = .ok (.bipush 20, 2) := by decide +kernel
theorem dX7_find_44 : decode cX7_find 44 = .ok (.lushr, 1) := by decide +kernel
theorem dX7_find_45 : decode cX7_find 45 = .ok (.l2i, 1) := by decide +kernel
theorem dX7_find_46 : decode cX7_find 46 = .ok (.sipush 8191, 3) := by decide +kernel
theorem dX7_find_49 : decode cX7_find 49 = .ok (.iand, 1) := by decide +kernel
theorem dX7_find_50 : decode cX7_find 50 = .ok (.istore 4, 2) := by decide +kernel
theorem dX7_find_52 : decode cX7_find 52 = .ok (.aload_n 0, 1) := by decide +kernel
theorem dX7_find_53 : decode cX7_find 53 = .ok (.getfield 77, 3) := by decide +kernel
theorem dX7_find_56 : decode cX7_find 56 = .ok (.iload 4, 2) := by decide +kernel
theorem dX7_find_58 : decode cX7_find 58 = .ok (.iaload, 1) := by decide +kernel
theorem dX7_find_59 : decode cX7_find 59 = .ok (.ifCond .le 83, 3) := by decide +kernel
theorem dX7_find_62 : decode cX7_find 62 = .ok (.aload_n 0, 1) := by decide +kernel
theorem dX7_find_63 : decode cX7_find 63 = .ok (.getfield 77, 3) := by decide +kernel
theorem dX7_find_66 : decode cX7_find 66 = .ok (.iload 4, 2) := by decide +kernel
theorem dX7_find_68 : decode cX7_find 68 = .ok (.iaload, 1) := by decide +kernel
theorem dX7_find_69 : decode cX7_find 69 = .ok (.iconst 1, 1) := by decide +kernel
theorem dX7_find_70 : decode cX7_find 70 = .ok (.isub, 1) := by decide +kernel
theorem dX7_find_71 : decode cX7_find 71 = .ok (.istore 5, 2) := by decide +kernel
theorem dX7_find_73 : decode cX7_find 73 = .ok (.iconst 1, 1) := by decide +kernel
theorem dX7_find_74 : decode cX7_find 74 = .ok (.istore 6, 2) := by decide +kernel
theorem dX7_find_76 : decode cX7_find 76 = .ok (.iconst 0, 1) := by decide +kernel
theorem dX7_find_77 : decode cX7_find 77 = .ok (.istore 7, 2) := by decide +kernel
theorem dX7_find_79 : decode cX7_find 79 = .ok (.iload 7, 2) := by decide +kernel
theorem dX7_find_81 : decode cX7_find 81 = .ok (.aload_n 0, 1) := by decide +kernel
theorem dX7_find_82 : decode cX7_find 82 = .ok (.getfield 55, 3) := by decide +kernel
theorem dX7_find_85 : decode cX7_find 85 = .ok (.if_icmp .ge 36, 3) := by decide +kernel
theorem dX7_find_88 : decode cX7_find 88 = .ok (.aload_n 0, 1) := by decide +kernel
theorem dX7_find_89 : decode cX7_find 89 = .ok (.getfield 73, 3) := by decide +kernel
theorem dX7_find_92 : decode cX7_find 92 = .ok (.bipush 6, 2) := by decide +kernel
theorem dX7_find_94 : decode cX7_find 94 = .ok (.iload 5, 2) := by decide +kernel
theorem dX7_find_96 : decode cX7_find 96 = .ok (.imul, 1) := by decide +kernel
theorem dX7_find_97 : decode cX7_find 97 = .ok (.iload 7, 2) := by decide +kernel
theorem dX7_find_99 : decode cX7_find 99 = .ok (.iadd, 1) := by decide +kernel
theorem dX7_find_100 : decode cX7_find 100 = .ok (.laload, 1) := by decide +kernel
theorem dX7_find_101 : decode cX7_find 101 = .ok (.aload_n 0, 1) := by decide +kernel
theorem dX7_find_102 : decode cX7_find 102 = .ok (.getfield 86, 3) := by decide +kernel
theorem dX7_find_105 : decode cX7_find 105 = .ok (.iload 7, 2) := by decide +kernel
theorem dX7_find_107 : decode cX7_find 107 = .ok (.laload, 1) := by decide +kernel
theorem dX7_find_108 : decode cX7_find 108 = .ok (.lcmp, 1) := by decide +kernel
theorem dX7_find_109 : decode cX7_find 109 = .ok (.ifCond .eq 6, 3) := by decide +kernel
theorem dX7_find_112 : decode cX7_find 112 = .ok (.iconst 0, 1) := by decide +kernel
theorem dX7_find_113 : decode cX7_find 113 = .ok (.istore 6, 2) := by decide +kernel
theorem dX7_find_115 : decode cX7_find 115 = .ok (.iinc 7 1, 3) := by decide +kernel
theorem dX7_find_118 : decode cX7_find 118 = .ok (.goto (-39), 3) := by decide +kernel
theorem dX7_find_121 : decode cX7_find 121 = .ok (.iload 6, 2) := by decide +kernel
theorem dX7_find_123 : decode cX7_find 123 = .ok (.ifCond .eq 6, 3) := by decide +kernel
theorem dX7_find_126 : decode cX7_find 126 = .ok (.iload 5, 2) := by decide +kernel
theorem dX7_find_128 : decode cX7_find 128 = .ok (.ireturn, 1) := by decide +kernel
theorem dX7_find_129 : decode cX7_find 129 = .ok (.iload 4, 2) := by decide +kernel
theorem dX7_find_131 : decode cX7_find 131 = .ok (.iconst 1, 1) := by decide +kernel
theorem dX7_find_132 : decode cX7_find 132 = .ok (.iadd, 1) := by decide +kernel
theorem dX7_find_133 : decode cX7_find 133 = .ok (.sipush 8191, 3) := by decide +kernel
theorem dX7_find_136 : decode cX7_find 136 = .ok (.iand, 1) := by decide +kernel
theorem dX7_find_137 : decode cX7_find 137 = .ok (.istore 4, 2) := by decide +kernel
theorem dX7_find_139 : decode cX7_find 139 = .ok (.goto (-87), 3) := by decide +kernel
theorem dX7_find_142 : decode cX7_find 142 = .ok (.iload_n 1, 1) := by decide +kernel
theorem dX7_find_143 : decode cX7_find 143 = .ok (.ifCond .ne 5, 3) := by decide +kernel
theorem dX7_find_146 : decode cX7_find 146 = .ok (.iconst (-1), 1) := by decide +kernel
theorem dX7_find_147 : decode cX7_find 147 = .ok (.ireturn, 1) := by decide +kernel
theorem dX7_find_148 : decode cX7_find 148 = .ok (.iconst 0, 1) := by decide +kernel
theorem dX7_find_149 : decode cX7_find 149 = .ok (.istore 5, 2) := by decide +kernel
theorem dX7_find_151 : decode cX7_find 151 = .ok (.iload 5, 2) := by decide +kernel
theorem dX7_find_153 : decode cX7_find 153 = .ok (.aload_n 0, 1) := by decide +kernel
theorem dX7_find_154 : decode cX7_find 154 = .ok (.getfield 55, 3) := by decide +kernel
theorem dX7_find_157 : decode cX7_find 157 = .ok (.if_icmp .ge 31, 3) := by decide +kernel
theorem dX7_find_160 : decode cX7_find 160 = .ok (.aload_n 0, 1) := by decide +kernel
theorem dX7_find_161 : decode cX7_find 161 = .ok (.getfield 73, 3) := by decide +kernel
theorem dX7_find_164 : decode cX7_find 164 = .ok (.bipush 6, 2) := by decide +kernel
theorem dX7_find_166 : decode cX7_find 166 = .ok (.aload_n 0, 1) := by decide +kernel
theorem dX7_find_167 : decode cX7_find 167 = .ok (.getfield 70, 3) := by decide +kernel
theorem dX7_find_170 : decode cX7_find 170 = .ok (.imul, 1) := by decide +kernel
theorem dX7_find_171 : decode cX7_find 171 = .ok (.iload 5, 2) := by decide +kernel
theorem dX7_find_173 : decode cX7_find 173 = .ok (.iadd, 1) := by decide +kernel
theorem dX7_find_174 : decode cX7_find 174 = .ok (.aload_n 0, 1) := by decide +kernel
theorem dX7_find_175 : decode cX7_find 175 = .ok (.getfield 86, 3) := by decide +kernel
theorem dX7_find_178 : decode cX7_find 178 = .ok (.iload 5, 2) := by decide +kernel
theorem dX7_find_180 : decode cX7_find 180 = .ok (.laload, 1) := by decide +kernel
theorem dX7_find_181 : decode cX7_find 181 = .ok (.lastore, 1) := by decide +kernel
theorem dX7_find_182 : decode cX7_find 182 = .ok (.iinc 5 1, 3) := by decide +kernel
theorem dX7_find_185 : decode cX7_find 185 = .ok (.goto (-34), 3) := by decide +kernel
theorem dX7_find_188 : decode cX7_find 188 = .ok (.aload_n 0, 1) := by decide +kernel
theorem dX7_find_189 : decode cX7_find 189 = .ok (.dup, 1) := by decide +kernel
theorem dX7_find_190 : decode cX7_find 190 = .ok (.getfield 70, 3) := by decide +kernel
theorem dX7_find_193 : decode cX7_find 193 = .ok (.iconst 1, 1) := by decide +kernel
theorem dX7_find_194 : decode cX7_find 194 = .ok (.iadd, 1) := by decide +kernel
theorem dX7_find_195 : decode cX7_find 195 = .ok (.putfield 70, 3) := by decide +kernel
theorem dX7_find_198 : decode cX7_find 198 = .ok (.aload_n 0, 1) := by decide +kernel
theorem dX7_find_199 : decode cX7_find 199 = .ok (.getfield 77, 3) := by decide +kernel
theorem dX7_find_202 : decode cX7_find 202 = .ok (.iload 4, 2) := by decide +kernel
theorem dX7_find_204 : decode cX7_find 204 = .ok (.aload_n 0, 1) := by decide +kernel
theorem dX7_find_205 : decode cX7_find 205 = .ok (.getfield 70, 3) := by decide +kernel
theorem dX7_find_208 : decode cX7_find 208 = .ok (.iastore, 1) := by decide +kernel
theorem dX7_find_209 : decode cX7_find 209 = .ok (.aload_n 0, 1) := by decide +kernel
theorem dX7_find_210 : decode cX7_find 210 = .ok (.getfield 70, 3) := by decide +kernel
theorem dX7_find_213 : decode cX7_find 213 = .ok (.iconst 1, 1) := by decide +kernel
theorem dX7_find_214 : decode cX7_find 214 = .ok (.isub, 1) := by decide +kernel
theorem dX7_find_215 : decode cX7_find 215 = .ok (.ireturn, 1) := by decide +kernel
theorem dX7_silentCrowd_0 : decode cX7_silentCrowd 0 = .ok (.iconst 0, 1) := by decide +kernel
theorem dX7_silentCrowd_1 : decode cX7_silentCrowd 1 = .ok (.istore_n 2, 1) := by decide +kernel
theorem dX7_silentCrowd_2 : decode cX7_silentCrowd 2 = .ok (.iload_n 2, 1) := by decide +kernel
theorem dX7_silentCrowd_3 : decode cX7_silentCrowd 3 = .ok (.aload_n 0, 1) := by decide +kernel
theorem dX7_silentCrowd_4 : decode cX7_silentCrowd 4 = .ok (.getfield 55, 3) := by decide +kernel
theorem dX7_silentCrowd_7 : decode cX7_silentCrowd 7 = .ok (.if_icmp .ge 42, 3) := by decide +kernel
theorem dX7_silentCrowd_10 : decode cX7_silentCrowd 10 = .ok (.iconst 0, 1) := by decide +kernel
theorem dX7_silentCrowd_11 : decode cX7_silentCrowd 11 = .ok (.istore_n 3, 1) := by decide +kernel
theorem dX7_silentCrowd_12 : decode cX7_silentCrowd 12 = .ok (.iload_n 3, 1) := by decide +kernel
theorem dX7_silentCrowd_13 : decode cX7_silentCrowd 13 = .ok (.aload_n 0, 1) := by decide +kernel
theorem dX7_silentCrowd_14 : decode cX7_silentCrowd 14 = .ok (.getfield 55, 3) := by decide +kernel
theorem dX7_silentCrowd_17 : decode cX7_silentCrowd 17 = .ok (.if_icmp .ge 26, 3) := by decide +kernel
theorem dX7_silentCrowd_20 : decode cX7_silentCrowd 20 = .ok (.iload_n 2, 1) := by decide +kernel
theorem dX7_silentCrowd_21 : decode cX7_silentCrowd 21 = .ok (.iload_n 3, 1) := by decide +kernel
theorem dX7_silentCrowd_22 : decode cX7_silentCrowd 22 = .ok (.if_icmp .eq 15, 3) := by decide +kernel
theorem dX7_silentCrowd_25 : decode cX7_silentCrowd 25 = .ok (.aload_n 0, 1) := by decide +kernel
theorem dX7_silentCrowd_26 : decode cX7_silentCrowd 26 = .ok (.iload_n 1, 1) := by decide +kernel
theorem dX7_silentCrowd_27 : decode cX7_silentCrowd 27 = .ok (.iload_n 2, 1) := by decide +kernel
theorem dX7_silentCrowd_28 : decode cX7_silentCrowd 28 = .ok (.iload_n 3, 1) := by decide +kernel
theorem dX7_silentCrowd_29 : decode cX7_silentCrowd 29 = .ok (.invokevirtual 121, 3) := by decide +kernel
theorem dX7_silentCrowd_32 : decode cX7_silentCrowd 32 = .ok (.ifCond .eq 5, 3) := by decide +kernel
theorem dX7_silentCrowd_35 : decode cX7_silentCrowd 35 = .ok (.iconst 0, 1) := by decide +kernel
theorem dX7_silentCrowd_36 : decode cX7_silentCrowd 36 = .ok (.ireturn, 1) := by decide +kernel
theorem dX7_silentCrowd_37 : decode cX7_silentCrowd 37 = .ok (.iinc 3 1, 3) := by decide +kernel
theorem dX7_silentCrowd_40 : decode cX7_silentCrowd 40 = .ok (.goto (-28), 3) := by decide +kernel
theorem dX7_silentCrowd_43 : decode cX7_silentCrowd 43 = .ok (.iinc 2 1, 3) := by decide +kernel
theorem dX7_silentCrowd_46 : decode cX7_silentCrowd 46 = .ok (.goto (-44), 3) := by decide +kernel
theorem dX7_silentCrowd_49 : decode cX7_silentCrowd 49 = .ok (.iconst 1, 1) := by decide +kernel
theorem dX7_silentCrowd_50 : decode cX7_silentCrowd 50 = .ok (.ireturn, 1) := by decide +kernel
theorem dX7_rightCrowd_0 : decode cX7_rightCrowd 0 = .ok (.iconst 0, 1) := by decide +kernel
theorem dX7_rightCrowd_1 : decode cX7_rightCrowd 1 = .ok (.istore_n 3, 1) := by decide +kernel
theorem dX7_rightCrowd_2 : decode cX7_rightCrowd 2 = .ok (.iload_n 3, 1) := by decide +kernel
theorem dX7_rightCrowd_3 : decode cX7_rightCrowd 3 = .ok (.aload_n 0, 1) := by decide +kernel
theorem dX7_rightCrowd_4 : decode cX7_rightCrowd 4 = .ok (.getfield 55, 3) := by decide +kernel
theorem dX7_rightCrowd_7 : decode cX7_rightCrowd 7 = .ok (.if_icmp .ge 87, 3) := by decide +kernel
theorem dX7_rightCrowd_10 : decode cX7_rightCrowd 10 = .ok (.iconst 0, 1) := by decide +kernel
theorem dX7_rightCrowd_11 : decode cX7_rightCrowd 11 = .ok (.istore 4, 2) := by decide +kernel
theorem dX7_rightCrowd_13 : decode cX7_rightCrowd 13 = .ok (.iload 4, 2) := by decide +kernel
theorem dX7_rightCrowd_15 : decode cX7_rightCrowd 15 = .ok (.aload_n 0, 1) := by decide +kernel
theorem dX7_rightCrowd_16 : decode cX7_rightCrowd 16 = .ok (.getfield 17, 3) := by decide +kernel
theorem dX7_rightCrowd_19 : decode cX7_rightCrowd 19 = .ok (.if_icmp .ge 59, 3) := by decide +kernel
theorem dX7_rightCrowd_22 : decode cX7_rightCrowd 22 = .ok (.aload_n 0, 1) := by decide +kernel
theorem dX7_rightCrowd_23 : decode cX7_rightCrowd 23 = .ok (.getfield 20, 3) := by decide +kernel
theorem dX7_rightCrowd_26 : decode cX7_rightCrowd 26 = .ok (.iload 4, 2) := by decide +kernel
theorem dX7_rightCrowd_28 : decode cX7_rightCrowd 28 = .ok (.iaload, 1) := by decide +kernel
theorem dX7_rightCrowd_29 : decode cX7_rightCrowd 29 = .ok (.iconst 3, 1) := by decide +kernel
theorem dX7_rightCrowd_30 : decode cX7_rightCrowd 30 = .ok (.if_icmp .ne 42, 3) := by decide +kernel
theorem dX7_rightCrowd_33 : decode cX7_rightCrowd 33 = .ok (.aload_n 0, 1) := by decide +kernel
theorem dX7_rightCrowd_34 : decode cX7_rightCrowd 34 = .ok (.getfield 29, 3) := by decide +kernel
theorem dX7_rightCrowd_37 : decode cX7_rightCrowd 37 = .ok (.iload 4, 2) := by decide +kernel
theorem dX7_rightCrowd_39 : decode cX7_rightCrowd 39 = .ok (.aload_n 0, 1) := by decide +kernel
theorem dX7_rightCrowd_40 : decode cX7_rightCrowd 40 = .ok (.getfield 73, 3) := by decide +kernel
theorem dX7_rightCrowd_43 : decode cX7_rightCrowd 43 = .ok (.bipush 6, 2) := by decide +kernel
theorem dX7_rightCrowd_45 : decode cX7_rightCrowd 45 = .ok (.iload_n 1, 1) := by decide +kernel
theorem dX7_rightCrowd_46 : decode cX7_rightCrowd 46 = .ok (.imul, 1) := by decide +kernel
theorem dX7_rightCrowd_47 : decode cX7_rightCrowd 47 = .ok (.iload_n 3, 1) := by decide +kernel
theorem dX7_rightCrowd_48 : decode cX7_rightCrowd 48 = .ok (.iadd, 1) := by decide +kernel
theorem dX7_rightCrowd_49 : decode cX7_rightCrowd 49 = .ok (.laload, 1) := by decide +kernel
theorem dX7_rightCrowd_50 : decode cX7_rightCrowd 50 = .ok (.aload_n 0, 1) := by decide +kernel
theorem dX7_rightCrowd_51 : decode cX7_rightCrowd 51 = .ok (.getfield 23, 3) := by decide +kernel
theorem dX7_rightCrowd_54 : decode cX7_rightCrowd 54 = .ok (.iload 4, 2) := by decide +kernel
theorem dX7_rightCrowd_56 : decode cX7_rightCrowd 56 = .ok (.iaload, 1) := by decide +kernel
theorem dX7_rightCrowd_57 : decode cX7_rightCrowd 57 = .ok (.invokestatic 113, 3) := by decide +kernel
theorem dX7_rightCrowd_60 : decode cX7_rightCrowd 60 = .ok (.iconst 1, 1) := by decide +kernel
theorem dX7_rightCrowd_61 : decode cX7_rightCrowd 61 = .ok (.iand, 1) := by decide +kernel
theorem dX7_rightCrowd_62 : decode cX7_rightCrowd 62 = .ok (.iconst 1, 1) := by decide +kernel
theorem dX7_rightCrowd_63 : decode cX7_rightCrowd 63 = .ok (.if_icmp .ne 7, 3) := by decide +kernel
theorem dX7_rightCrowd_66 : decode cX7_rightCrowd 66 = .ok (.iconst 1, 1) := by decide +kernel
theorem dX7_rightCrowd_67 : decode cX7_rightCrowd 67 = .ok (.goto 4, 3) := by decide +kernel
theorem dX7_rightCrowd_70 : decode cX7_rightCrowd 70 = .ok (.iconst 0, 1) := by decide +kernel
theorem dX7_rightCrowd_71 : decode cX7_rightCrowd 71 = .ok (.bastore, 1) := by decide +kernel
theorem dX7_rightCrowd_72 : decode cX7_rightCrowd 72 = .ok (.iinc 4 1, 3) := by decide +kernel
theorem dX7_rightCrowd_75 : decode cX7_rightCrowd 75 = .ok (.goto (-62), 3) := by decide +kernel
theorem dX7_rightCrowd_78 : decode cX7_rightCrowd 78 = .ok (.aload_n 0, 1) := by decide +kernel
theorem dX7_rightCrowd_79 : decode cX7_rightCrowd 79 = .ok (.invokevirtual 109, 3) := by decide +kernel
theorem dX7_rightCrowd_82 : decode cX7_rightCrowd 82 = .ok (.iload_n 2, 1) := by decide +kernel
theorem dX7_rightCrowd_83 : decode cX7_rightCrowd 83 = .ok (.if_icmp .eq 5, 3) := by decide +kernel
theorem dX7_rightCrowd_86 : decode cX7_rightCrowd 86 = .ok (.iconst 0, 1) := by decide +kernel
theorem dX7_rightCrowd_87 : decode cX7_rightCrowd 87 = .ok (.ireturn, 1) := by decide +kernel
theorem dX7_rightCrowd_88 : decode cX7_rightCrowd 88 = .ok (.iinc 3 1, 3) := by decide +kernel
theorem dX7_rightCrowd_91 : decode cX7_rightCrowd 91 = .ok (.goto (-89), 3) := by decide +kernel
theorem dX7_rightCrowd_94 : decode cX7_rightCrowd 94 = .ok (.iconst 1, 1) := by decide +kernel
theorem dX7_rightCrowd_95 : decode cX7_rightCrowd 95 = .ok (.ireturn, 1) := by decide +kernel
theorem dX7_leadsToGood_0 : decode cX7_leadsToGood 0 = .ok (.iconst 0, 1) := by decide +kernel
theorem dX7_leadsToGood_1 : decode cX7_leadsToGood 1 = .ok (.istore_n 2, 1) := by decide +kernel
theorem dX7_leadsToGood_2 : decode cX7_leadsToGood 2 = .ok (.iload_n 2, 1) := by decide +kernel
theorem dX7_leadsToGood_3 : decode cX7_leadsToGood 3 = .ok (.aload_n 0, 1) := by decide +kernel
theorem dX7_leadsToGood_4 : decode cX7_leadsToGood 4 = .ok (.getfield 55, 3) := by decide +kernel
theorem dX7_leadsToGood_7 : decode cX7_leadsToGood 7 = .ok (.if_icmp .ge 59, 3) := by decide +kernel
theorem dX7_leadsToGood_10 : decode cX7_leadsToGood 10 = .ok (.iconst 0, 1) := by decide +kernel
theorem dX7_leadsToGood_11 : decode cX7_leadsToGood 11 = .ok (.istore_n 3, 1) := by decide +kernel
theorem dX7_leadsToGood_12 : decode cX7_leadsToGood 12 = .ok (.iload_n 3, 1) := by decide +kernel
theorem dX7_leadsToGood_13 : decode cX7_leadsToGood 13 = .ok (.aload_n 0, 1) := by decide +kernel
theorem dX7_leadsToGood_14 : decode cX7_leadsToGood 14 = .ok (.getfield 55, 3) := by decide +kernel
theorem dX7_leadsToGood_17 : decode cX7_leadsToGood 17 = .ok (.if_icmp .ge 43, 3) := by decide +kernel
theorem dX7_leadsToGood_20 : decode cX7_leadsToGood 20 = .ok (.iload_n 2, 1) := by decide +kernel
theorem dX7_leadsToGood_21 : decode cX7_leadsToGood 21 = .ok (.iload_n 3, 1) := by decide +kernel
theorem dX7_leadsToGood_22 : decode cX7_leadsToGood 22 = .ok (.if_icmp .eq 32, 3) := by decide +kernel
theorem dX7_leadsToGood_25 : decode cX7_leadsToGood 25 = .ok (.aload_n 0, 1) := by decide +kernel
theorem dX7_leadsToGood_26 : decode cX7_leadsToGood 26 = .ok (.iload_n 1, 1) := by decide +kernel
theorem dX7_leadsToGood_27 : decode cX7_leadsToGood 27 = .ok (.iload_n 2, 1) := by decide +kernel
theorem dX7_leadsToGood_28 : decode cX7_leadsToGood 28 = .ok (.iload_n 3, 1) := by decide +kernel
theorem dX7_leadsToGood_29 : decode cX7_leadsToGood 29 = .ok (.invokevirtual 121, 3) := by decide +kernel
theorem dX7_leadsToGood_32 : decode cX7_leadsToGood 32 = .ok (.ifCond .eq 22, 3) := by decide +kernel
theorem dX7_leadsToGood_35 : decode cX7_leadsToGood 35 = .ok (.aload_n 0, 1) := by decide +kernel
theorem dX7_leadsToGood_36 : decode cX7_leadsToGood 36 = .ok (.invokevirtual 125, 3) := by decide +kernel
theorem dX7_leadsToGood_39 : decode cX7_leadsToGood 39 = .ok (.aload_n 0, 1) := by decide +kernel
theorem dX7_leadsToGood_40 : decode cX7_leadsToGood 40 = .ok (.getfield 80, 3) := by decide +kernel
theorem dX7_leadsToGood_43 : decode cX7_leadsToGood 43 = .ok (.aload_n 0, 1) := by decide +kernel
theorem dX7_leadsToGood_44 : decode cX7_leadsToGood 44 = .ok (.iconst 0, 1) := by decide +kernel
theorem dX7_leadsToGood_45 : decode cX7_leadsToGood 45 = .ok (.invokevirtual 128, 3) := by decide +kernel
theorem dX7_leadsToGood_48 : decode cX7_leadsToGood 48 = .ok (.baload, 1) := by decide +kernel
theorem dX7_leadsToGood_49 : decode cX7_leadsToGood 49 = .ok (.ifCond .eq 5, 3) := by decide +kernel
theorem dX7_leadsToGood_52 : decode cX7_leadsToGood 52 = .ok (.iconst 1, 1) := by decide +kernel
theorem dX7_leadsToGood_53 : decode cX7_leadsToGood 53 = .ok (.ireturn, 1) := by decide +kernel
theorem dX7_leadsToGood_54 : decode cX7_leadsToGood 54 = .ok (.iinc 3 1, 3) := by decide +kernel
theorem dX7_leadsToGood_57 : decode cX7_leadsToGood 57 = .ok (.goto (-45), 3) := by decide +kernel
theorem dX7_leadsToGood_60 : decode cX7_leadsToGood 60 = .ok (.iinc 2 1, 3) := by decide +kernel
theorem dX7_leadsToGood_63 : decode cX7_leadsToGood 63 = .ok (.goto (-61), 3) := by decide +kernel
theorem dX7_leadsToGood_66 : decode cX7_leadsToGood 66 = .ok (.iconst 0, 1) := by decide +kernel
theorem dX7_leadsToGood_67 : decode cX7_leadsToGood 67 = .ok (.ireturn, 1) := by decide +kernel
theorem dX7_clear_0 : decode cX7_clear 0 = .ok (.aload_n 0, 1) := by decide +kernel
theorem dX7_clear_1 : decode cX7_clear 1 = .ok (.iconst 0, 1) := by decide +kernel
theorem dX7_clear_2 : decode cX7_clear 2 = .ok (.putfield 7, 3) := by decide +kernel
theorem dX7_clear_5 : decode cX7_clear 5 = .ok (.iconst 0, 1) := by decide +kernel
theorem dX7_clear_6 : decode cX7_clear 6 = .ok (.istore_n 1, 1) := by decide +kernel
theorem dX7_clear_7 : decode cX7_clear 7 = .ok (.iload_n 1, 1) := by decide +kernel
theorem dX7_clear_8 : decode cX7_clear 8 = .ok (.bipush 8, 2) := by decide +kernel
theorem dX7_clear_10 : decode cX7_clear 10 = .ok (.if_icmp .ge 23, 3) := by decide +kernel
theorem dX7_clear_13 : decode cX7_clear 13 = .ok (.aload_n 0, 1) := by decide +kernel
theorem dX7_clear_14 : decode cX7_clear 14 = .ok (.getfield 13, 3) := by decide +kernel
theorem dX7_clear_17 : decode cX7_clear 17 = .ok (.iload_n 1, 1) := by decide +kernel
theorem dX7_clear_18 : decode cX7_clear 18 = .ok (.iconst 0, 1) := by decide +kernel
theorem dX7_clear_19 : decode cX7_clear 19 = .ok (.iastore, 1) := by decide +kernel
theorem dX7_clear_20 : decode cX7_clear 20 = .ok (.aload_n 0, 1) := by decide +kernel
theorem dX7_clear_21 : decode cX7_clear 21 = .ok (.getfield 61, 3) := by decide +kernel
theorem dX7_clear_24 : decode cX7_clear 24 = .ok (.iload_n 1, 1) := by decide +kernel
theorem dX7_clear_25 : decode cX7_clear 25 = .ok (.iconst 0, 1) := by decide +kernel
theorem dX7_clear_26 : decode cX7_clear 26 = .ok (.iastore, 1) := by decide +kernel
theorem dX7_clear_27 : decode cX7_clear 27 = .ok (.iinc 1 1, 3) := by decide +kernel
theorem dX7_clear_30 : decode cX7_clear 30 = .ok (.goto (-23), 3) := by decide +kernel
theorem dX7_clear_33 : decode cX7_clear 33 = .ok (.aload_n 0, 1) := by decide +kernel
theorem dX7_clear_34 : decode cX7_clear 34 = .ok (.iconst 0, 1) := by decide +kernel
theorem dX7_clear_35 : decode cX7_clear 35 = .ok (.putfield 17, 3) := by decide +kernel
theorem dX7_clear_38 : decode cX7_clear 38 = .ok (.aload_n 0, 1) := by decide +kernel
theorem dX7_clear_39 : decode cX7_clear 39 = .ok (.iconst 0, 1) := by decide +kernel
theorem dX7_clear_40 : decode cX7_clear 40 = .ok (.putfield 33, 3) := by decide +kernel
theorem dX7_clear_43 : decode cX7_clear 43 = .ok (.aload_n 0, 1) := by decide +kernel
theorem dX7_clear_44 : decode cX7_clear 44 = .ok (.iconst 0, 1) := by decide +kernel
theorem dX7_clear_45 : decode cX7_clear 45 = .ok (.putfield 48, 3) := by decide +kernel
theorem dX7_clear_48 : decode cX7_clear 48 = .ok (.aload_n 0, 1) := by decide +kernel
theorem dX7_clear_49 : decode cX7_clear 49 = .ok (.iconst 0, 1) := by decide +kernel
theorem dX7_clear_50 : decode cX7_clear 50 = .ok (.putfield 55, 3) := by decide +kernel
theorem dX7_clear_53 : decode cX7_clear 53 = .ok (.aload_n 0, 1) := by decide +kernel
theorem dX7_clear_54 : decode cX7_clear 54 = .ok (.iconst 0, 1) := by decide +kernel
theorem dX7_clear_55 : decode cX7_clear 55 = .ok (.putfield 83, 3) := by decide +kernel
theorem dX7_clear_58 : decode cX7_clear 58 = .ok (.return_, 1) := by decide +kernel
theorem dX7_coef_0 : decode cX7_coef 0 = .ok (.aload_n 0, 1) := by decide +kernel
theorem dX7_coef_1 : decode cX7_coef 1 = .ok (.iload_n 1, 1) := by decide +kernel
theorem dX7_coef_2 : decode cX7_coef 2 = .ok (.ifCond .lt 21, 3) := by decide +kernel
theorem dX7_coef_5 : decode cX7_coef 5 = .ok (.iload_n 1, 1) := by decide +kernel
theorem dX7_coef_6 : decode cX7_coef 6 = .ok (.bipush 7, 2) := by decide +kernel
theorem dX7_coef_8 : decode cX7_coef 8 = .ok (.if_icmp .gt 15, 3) := by decide +kernel
theorem dX7_coef_11 : decode cX7_coef 11 = .ok (.iload_n 2, 1) := by decide +kernel
theorem dX7_coef_12 : decode cX7_coef 12 = .ok (.bipush (-20), 2) := by decide +kernel
theorem dX7_coef_14 : decode cX7_coef 14 = .ok (.if_icmp .lt 9, 3) := by decide +kernel
theorem dX7_coef_17 : decode cX7_coef 17 = .ok (.iload_n 2, 1) := by decide +kernel
theorem dX7_coef_18 : decode cX7_coef 18 = .ok (.bipush 20, 2) := by decide +kernel
theorem dX7_coef_20 : decode cX7_coef 20 = .ok (.if_icmp .le 7, 3) := by decide +kernel
theorem dX7_coef_23 : decode cX7_coef 23 = .ok (.iconst 1, 1) := by decide +kernel
theorem dX7_coef_24 : decode cX7_coef 24 = .ok (.goto 4, 3) := by decide +kernel
theorem dX7_coef_27 : decode cX7_coef 27 = .ok (.iconst 0, 1) := by decide +kernel
theorem dX7_coef_28 : decode cX7_coef 28 = .ok (.putfield 7, 3) := by decide +kernel
theorem dX7_coef_31 : decode cX7_coef 31 = .ok (.aload_n 0, 1) := by decide +kernel
theorem dX7_coef_32 : decode cX7_coef 32 = .ok (.getfield 7, 3) := by decide +kernel
theorem dX7_coef_35 : decode cX7_coef 35 = .ok (.ifCond .eq 5, 3) := by decide +kernel
theorem dX7_coef_38 : decode cX7_coef 38 = .ok (.iconst 0, 1) := by decide +kernel
theorem dX7_coef_39 : decode cX7_coef 39 = .ok (.ireturn, 1) := by decide +kernel
theorem dX7_coef_40 : decode cX7_coef 40 = .ok (.aload_n 0, 1) := by decide +kernel
theorem dX7_coef_41 : decode cX7_coef 41 = .ok (.getfield 13, 3) := by decide +kernel
theorem dX7_coef_44 : decode cX7_coef 44 = .ok (.iload_n 1, 1) := by decide +kernel
theorem dX7_coef_45 : decode cX7_coef 45 = .ok (.iaload, 1) := by decide +kernel
theorem dX7_coef_46 : decode cX7_coef 46 = .ok (.istore_n 3, 1) := by decide +kernel
theorem dX7_coef_47 : decode cX7_coef 47 = .ok (.aload_n 0, 1) := by decide +kernel
theorem dX7_coef_48 : decode cX7_coef 48 = .ok (.getfield 13, 3) := by decide +kernel
theorem dX7_coef_51 : decode cX7_coef 51 = .ok (.iload_n 1, 1) := by decide +kernel
theorem dX7_coef_52 : decode cX7_coef 52 = .ok (.iload_n 2, 1) := by decide +kernel
theorem dX7_coef_53 : decode cX7_coef 53 = .ok (.iastore, 1) := by decide +kernel
theorem dX7_coef_54 : decode cX7_coef 54 = .ok (.iload_n 3, 1) := by decide +kernel
theorem dX7_coef_55 : decode cX7_coef 55 = .ok (.ireturn, 1) := by decide +kernel
theorem dX7_atom_0 : decode cX7_atom 0 = .ok (.iload_n 1, 1) := by decide +kernel
theorem dX7_atom_1 : decode cX7_atom 1 = .ok (.ifCond .ge 8, 3) := by decide +kernel
theorem dX7_atom_4 : decode cX7_atom 4 = .ok (.iload_n 1, 1) := by decide +kernel
theorem dX7_atom_5 : decode cX7_atom 5 = .ok (.ineg, 1) := by decide +kernel
theorem dX7_atom_6 : decode cX7_atom 6 = .ok (.goto 4, 3) := by decide +kernel
theorem dX7_atom_9 : decode cX7_atom 9 = .ok (.iload_n 1, 1) := by decide +kernel
theorem dX7_atom_10 : decode cX7_atom 10 = .ok (.iconst 1, 1) := by decide +kernel
theorem dX7_atom_11 : decode cX7_atom 11 = .ok (.iadd, 1) := by decide +kernel
theorem dX7_atom_12 : decode cX7_atom 12 = .ok (.istore_n 3, 1) := by decide +kernel
theorem dX7_atom_13 : decode cX7_atom 13 = .ok (.iconst 0, 1) := by decide +kernel
theorem dX7_atom_14 : decode cX7_atom 14 = .ok (.istore 4, 2) := by decide +kernel
theorem dX7_atom_16 : decode cX7_atom 16 = .ok (.iload 4, 2) := by decide +kernel
theorem dX7_atom_18 : decode cX7_atom 18 = .ok (.bipush 8, 2) := by decide +kernel
theorem dX7_atom_20 : decode cX7_atom 20 = .ok (.if_icmp .ge 63, 3) := by decide +kernel
theorem dX7_atom_23 : decode cX7_atom 23 = .ok (.aload_n 0, 1) := by decide +kernel
theorem dX7_atom_24 : decode cX7_atom 24 = .ok (.getfield 13, 3) := by decide +kernel
theorem dX7_atom_27 : decode cX7_atom 27 = .ok (.iload 4, 2) := by decide +kernel
theorem dX7_atom_29 : decode cX7_atom 29 = .ok (.iaload, 1) := by decide +kernel
theorem dX7_atom_30 : decode cX7_atom 30 = .ok (.istore 5, 2) := by decide +kernel
theorem dX7_atom_32 : decode cX7_atom 32 = .ok (.aload_n 0, 1) := by decide +kernel
theorem dX7_atom_33 : decode cX7_atom 33 = .ok (.getfield 36, 3) := by decide +kernel
theorem dX7_atom_36 : decode cX7_atom 36 = .ok (.bipush 8, 2) := by decide +kernel
theorem dX7_atom_38 : decode cX7_atom 38 = .ok (.aload_n 0, 1) := by decide +kernel
theorem dX7_atom_39 : decode cX7_atom 39 = .ok (.getfield 33, 3) := by decide +kernel
theorem dX7_atom_42 : decode cX7_atom 42 = .ok (.imul, 1) := by decide +kernel
theorem dX7_atom_43 : decode cX7_atom 43 = .ok (.iload 4, 2) := by decide +kernel
theorem dX7_atom_45 : decode cX7_atom 45 = .ok (.iadd, 1) := by decide +kernel
theorem dX7_atom_46 : decode cX7_atom 46 = .ok (.iload 5, 2) := by decide +kernel
theorem dX7_atom_48 : decode cX7_atom 48 = .ok (.iastore, 1) := by decide +kernel
theorem dX7_atom_49 : decode cX7_atom 49 = .ok (.iload 5, 2) := by decide +kernel
theorem dX7_atom_51 : decode cX7_atom 51 = .ok (.iload_n 3, 1) := by decide +kernel
theorem dX7_atom_52 : decode cX7_atom 52 = .ok (.if_icmp .le 6, 3) := by decide +kernel
theorem dX7_atom_55 : decode cX7_atom 55 = .ok (.iload 5, 2) := by decide +kernel
theorem dX7_atom_57 : decode cX7_atom 57 = .ok (.istore_n 3, 1) := by decide +kernel
theorem dX7_atom_58 : decode cX7_atom 58 = .ok (.iload 5, 2) := by decide +kernel
theorem dX7_atom_60 : decode cX7_atom 60 = .ok (.ineg, 1) := by decide +kernel
theorem dX7_atom_61 : decode cX7_atom 61 = .ok (.iload_n 3, 1) := by decide +kernel
theorem dX7_atom_62 : decode cX7_atom 62 = .ok (.if_icmp .le 7, 3) := by decide +kernel
theorem dX7_atom_65 : decode cX7_atom 65 = .ok (.iload 5, 2) := by decide +kernel
theorem dX7_atom_67 : decode cX7_atom 67 = .ok (.ineg, 1) := by decide +kernel
theorem dX7_atom_68 : decode cX7_atom 68 = .ok (.istore_n 3, 1) := by decide +kernel
theorem dX7_atom_69 : decode cX7_atom 69 = .ok (.aload_n 0, 1) := by decide +kernel
theorem dX7_atom_70 : decode cX7_atom 70 = .ok (.getfield 13, 3) := by decide +kernel
theorem dX7_atom_73 : decode cX7_atom 73 = .ok (.iload 4, 2) := by decide +kernel
theorem dX7_atom_75 : decode cX7_atom 75 = .ok (.iconst 0, 1) := by decide +kernel
theorem dX7_atom_76 : decode cX7_atom 76 = .ok (.iastore, 1) := by decide +kernel
theorem dX7_atom_77 : decode cX7_atom 77 = .ok (.iinc 4 1, 3) := by decide +kernel
theorem dX7_atom_80 : decode cX7_atom 80 = .ok (.goto (-64), 3) := by decide +kernel
theorem dX7_atom_83 : decode cX7_atom 83 = .ok (.aload_n 0, 1) := by decide +kernel
theorem dX7_atom_84 : decode cX7_atom 84 = .ok (.getfield 39, 3) := by decide +kernel
theorem dX7_atom_87 : decode cX7_atom 87 = .ok (.aload_n 0, 1) := by decide +kernel
theorem dX7_atom_88 : decode cX7_atom 88 = .ok (.getfield 33, 3) := by decide +kernel
theorem dX7_atom_91 : decode cX7_atom 91 = .ok (.iload_n 3, 1) := by decide +kernel
theorem dX7_atom_92 : decode cX7_atom 92 = .ok (.iastore, 1) := by decide +kernel
theorem dX7_atom_93 : decode cX7_atom 93 = .ok (.aload_n 0, 1) := by decide +kernel
theorem dX7_atom_94 : decode cX7_atom 94 = .ok (.getfield 42, 3) := by decide +kernel
theorem dX7_atom_97 : decode cX7_atom 97 = .ok (.aload_n 0, 1) := by decide +kernel
theorem dX7_atom_98 : decode cX7_atom 98 = .ok (.getfield 33, 3) := by decide +kernel
theorem dX7_atom_101 : decode cX7_atom 101 = .ok (.iload_n 2, 1) := by decide +kernel
theorem dX7_atom_102 : decode cX7_atom 102 = .ok (.iastore, 1) := by decide +kernel
theorem dX7_atom_103 : decode cX7_atom 103 = .ok (.aload_n 0, 1) := by decide +kernel
theorem dX7_atom_104 : decode cX7_atom 104 = .ok (.getfield 45, 3) := by decide +kernel
theorem dX7_atom_107 : decode cX7_atom 107 = .ok (.aload_n 0, 1) := by decide +kernel
theorem dX7_atom_108 : decode cX7_atom 108 = .ok (.getfield 33, 3) := by decide +kernel
theorem dX7_atom_111 : decode cX7_atom 111 = .ok (.iload_n 1, 1) := by decide +kernel
theorem dX7_atom_112 : decode cX7_atom 112 = .ok (.iastore, 1) := by decide +kernel
theorem dX7_atom_113 : decode cX7_atom 113 = .ok (.aload_n 0, 1) := by decide +kernel
theorem dX7_atom_114 : decode cX7_atom 114 = .ok (.dup, 1) := by decide +kernel
theorem dX7_atom_115 : decode cX7_atom 115 = .ok (.getfield 33, 3) := by decide +kernel
theorem dX7_atom_118 : decode cX7_atom 118 = .ok (.iconst 1, 1) := by decide +kernel
theorem dX7_atom_119 : decode cX7_atom 119 = .ok (.iadd, 1) := by decide +kernel
theorem dX7_atom_120 : decode cX7_atom 120 = .ok (.putfield 33, 3) := by decide +kernel
theorem dX7_atom_123 : decode cX7_atom 123 = .ok (.aload_n 0, 1) := by decide +kernel
theorem dX7_atom_124 : decode cX7_atom 124 = .ok (.iconst 3, 1) := by decide +kernel
theorem dX7_atom_125 : decode cX7_atom 125 = .ok (.aload_n 0, 1) := by decide +kernel
theorem dX7_atom_126 : decode cX7_atom 126 = .ok (.getfield 33, 3) := by decide +kernel
theorem dX7_atom_129 : decode cX7_atom 129 = .ok (.iconst 1, 1) := by decide +kernel
theorem dX7_atom_130 : decode cX7_atom 130 = .ok (.isub, 1) := by decide +kernel
theorem dX7_atom_131 : decode cX7_atom 131 = .ok (.iconst 0, 1) := by decide +kernel
theorem dX7_atom_132 : decode cX7_atom 132 = .ok (.invokevirtual 132, 3) := by decide +kernel
theorem dX7_atom_135 : decode cX7_atom 135 = .ok (.ireturn, 1) := by decide +kernel
theorem dX7_node_0 : decode cX7_node 0 = .ok (.aload_n 0, 1) := by decide +kernel
theorem dX7_node_1 : decode cX7_node 1 = .ok (.getfield 20, 3) := by decide +kernel
theorem dX7_node_4 : decode cX7_node 4 = .ok (.aload_n 0, 1) := by decide +kernel
theorem dX7_node_5 : decode cX7_node 5 = .ok (.getfield 17, 3) := by decide +kernel
theorem dX7_node_8 : decode cX7_node 8 = .ok (.iload_n 1, 1) := by decide +kernel
theorem dX7_node_9 : decode cX7_node 9 = .ok (.iastore, 1) := by decide +kernel
theorem dX7_node_10 : decode cX7_node 10 = .ok (.aload_n 0, 1) := by decide +kernel
theorem dX7_node_11 : decode cX7_node 11 = .ok (.getfield 23, 3) := by decide +kernel
theorem dX7_node_14 : decode cX7_node 14 = .ok (.aload_n 0, 1) := by decide +kernel
theorem dX7_node_15 : decode cX7_node 15 = .ok (.getfield 17, 3) := by decide +kernel
theorem dX7_node_18 : decode cX7_node 18 = .ok (.iload_n 2, 1) := by decide +kernel
theorem dX7_node_19 : decode cX7_node 19 = .ok (.iastore, 1) := by decide +kernel
theorem dX7_node_20 : decode cX7_node 20 = .ok (.aload_n 0, 1) := by decide +kernel
theorem dX7_node_21 : decode cX7_node 21 = .ok (.getfield 26, 3) := by decide +kernel
theorem dX7_node_24 : decode cX7_node 24 = .ok (.aload_n 0, 1) := by decide +kernel
theorem dX7_node_25 : decode cX7_node 25 = .ok (.getfield 17, 3) := by decide +kernel
theorem dX7_node_28 : decode cX7_node 28 = .ok (.iload_n 3, 1) := by decide +kernel
theorem dX7_node_29 : decode cX7_node 29 = .ok (.iastore, 1) := by decide +kernel
theorem dX7_node_30 : decode cX7_node 30 = .ok (.aload_n 0, 1) := by decide +kernel
theorem dX7_node_31 : decode cX7_node 31 = .ok (.dup, 1) := by decide +kernel
theorem dX7_node_32 : decode cX7_node 32 = .ok (.getfield 17, 3) := by decide +kernel
theorem dX7_node_35 : decode cX7_node 35 = .ok (.iconst 1, 1) := by decide +kernel
theorem dX7_node_36 : decode cX7_node 36 = .ok (.iadd, 1) := by decide +kernel
theorem dX7_node_37 : decode cX7_node 37 = .ok (.putfield 17, 3) := by decide +kernel
theorem dX7_node_40 : decode cX7_node 40 = .ok (.aload_n 0, 1) := by decide +kernel
theorem dX7_node_41 : decode cX7_node 41 = .ok (.getfield 17, 3) := by decide +kernel
theorem dX7_node_44 : decode cX7_node 44 = .ok (.iconst 1, 1) := by decide +kernel
theorem dX7_node_45 : decode cX7_node 45 = .ok (.isub, 1) := by decide +kernel
theorem dX7_node_46 : decode cX7_node 46 = .ok (.ireturn, 1) := by decide +kernel
theorem dX7_full_0 : decode cX7_full 0 = .ok (.aload_n 0, 1) := by decide +kernel
theorem dX7_full_1 : decode cX7_full 1 = .ok (.getfield 48, 3) := by decide +kernel
theorem dX7_full_4 : decode cX7_full 4 = .ok (.ifCond .ne 12, 3) := by decide +kernel
theorem dX7_full_7 : decode cX7_full 7 = .ok (.aload_n 0, 1) := by decide +kernel
theorem dX7_full_8 : decode cX7_full 8 = .ok (.getfield 17, 3) := by decide +kernel
theorem dX7_full_11 : decode cX7_full 11 = .ok (.bipush 20, 2) := by decide +kernel
theorem dX7_full_13 : decode cX7_full 13 = .ok (.if_icmp .ne 7, 3) := by decide +kernel
theorem dX7_full_16 : decode cX7_full 16 = .ok (.iconst 1, 1) := by decide +kernel
theorem dX7_full_17 : decode cX7_full 17 = .ok (.goto 4, 3) := by decide +kernel
theorem dX7_full_20 : decode cX7_full 20 = .ok (.iconst 0, 1) := by decide +kernel
theorem dX7_full_21 : decode cX7_full 21 = .ok (.ireturn, 1) := by decide +kernel
theorem dX7_sum_0 : decode cX7_sum 0 = .ok (.aload_n 0, 1) := by decide +kernel
theorem dX7_sum_1 : decode cX7_sum 1 = .ok (.iload_n 1, 1) := by decide +kernel
theorem dX7_sum_2 : decode cX7_sum 2 = .ok (.bipush (-20), 2) := by decide +kernel
theorem dX7_sum_4 : decode cX7_sum 4 = .ok (.if_icmp .lt 9, 3) := by decide +kernel
theorem dX7_sum_7 : decode cX7_sum 7 = .ok (.iload_n 1, 1) := by decide +kernel
theorem dX7_sum_8 : decode cX7_sum 8 = .ok (.bipush 20, 2) := by decide +kernel
theorem dX7_sum_10 : decode cX7_sum 10 = .ok (.if_icmp .le 7, 3) := by decide +kernel
theorem dX7_sum_13 : decode cX7_sum 13 = .ok (.iconst 1, 1) := by decide +kernel
theorem dX7_sum_14 : decode cX7_sum 14 = .ok (.goto 23, 3) := by decide +kernel
theorem dX7_sum_17 : decode cX7_sum 17 = .ok (.aload_n 0, 1) := by decide +kernel
theorem dX7_sum_18 : decode cX7_sum 18 = .ok (.invokevirtual 136, 3) := by decide +kernel
theorem dX7_sum_21 : decode cX7_sum 21 = .ok (.ifCond .ne 11, 3) := by decide +kernel
theorem dX7_sum_24 : decode cX7_sum 24 = .ok (.aload_n 0, 1) := by decide +kernel
theorem dX7_sum_25 : decode cX7_sum 25 = .ok (.getfield 33, 3) := by decide +kernel
theorem dX7_sum_28 : decode cX7_sum 28 = .ok (.iconst 5, 1) := by decide +kernel
theorem dX7_sum_29 : decode cX7_sum 29 = .ok (.if_icmp .ne 7, 3) := by decide +kernel
theorem dX7_sum_32 : decode cX7_sum 32 = .ok (.iconst 2, 1) := by decide +kernel
theorem dX7_sum_33 : decode cX7_sum 33 = .ok (.goto 4, 3) := by decide +kernel
theorem dX7_sum_36 : decode cX7_sum 36 = .ok (.iconst 0, 1) := by decide +kernel
theorem dX7_sum_37 : decode cX7_sum 37 = .ok (.putfield 7, 3) := by decide +kernel
theorem dX7_sum_40 : decode cX7_sum 40 = .ok (.aload_n 0, 1) := by decide +kernel
theorem dX7_sum_41 : decode cX7_sum 41 = .ok (.getfield 7, 3) := by decide +kernel
theorem dX7_sum_44 : decode cX7_sum 44 = .ok (.ifCond .eq 7, 3) := by decide +kernel
theorem dX7_sum_47 : decode cX7_sum 47 = .ok (.iconst 0, 1) := by decide +kernel
theorem dX7_sum_48 : decode cX7_sum 48 = .ok (.goto 9, 3) := by decide +kernel
theorem dX7_sum_51 : decode cX7_sum 51 = .ok (.aload_n 0, 1) := by decide +kernel
theorem dX7_sum_52 : decode cX7_sum 52 = .ok (.iload_n 1, 1) := by decide +kernel
theorem dX7_sum_53 : decode cX7_sum 53 = .ok (.iconst 0, 1) := by decide +kernel
theorem dX7_sum_54 : decode cX7_sum 54 = .ok (.invokevirtual 139, 3) := by decide +kernel
theorem dX7_sum_57 : decode cX7_sum 57 = .ok (.ireturn, 1) := by decide +kernel
theorem dX7_mod_0 : decode cX7_mod 0 = .ok (.aload_n 0, 1) := by decide +kernel
theorem dX7_mod_1 : decode cX7_mod 1 = .ok (.iload_n 2, 1) := by decide +kernel
theorem dX7_mod_2 : decode cX7_mod 2 = .ok (.iconst 2, 1) := by decide +kernel
theorem dX7_mod_3 : decode cX7_mod 3 = .ok (.if_icmp .lt 18, 3) := by decide +kernel
theorem dX7_mod_6 : decode cX7_mod 6 = .ok (.iload_n 2, 1) := by decide +kernel
theorem dX7_mod_7 : decode cX7_mod 7 = .ok (.bipush 16, 2) := by decide +kernel
theorem dX7_mod_9 : decode cX7_mod 9 = .ok (.if_icmp .gt 12, 3) := by decide +kernel
theorem dX7_mod_12 : decode cX7_mod 12 = .ok (.iload_n 1, 1) := by decide +kernel
theorem dX7_mod_13 : decode cX7_mod 13 = .ok (.ifCond .lt 8, 3) := by decide +kernel
theorem dX7_mod_16 : decode cX7_mod 16 = .ok (.iload_n 1, 1) := by decide +kernel
theorem dX7_mod_17 : decode cX7_mod 17 = .ok (.iload_n 2, 1) := by decide +kernel
theorem dX7_mod_18 : decode cX7_mod 18 = .ok (.if_icmp .lt 7, 3) := by decide +kernel
theorem dX7_mod_21 : decode cX7_mod 21 = .ok (.iconst 1, 1) := by decide +kernel
theorem dX7_mod_22 : decode cX7_mod 22 = .ok (.goto 23, 3) := by decide +kernel
theorem dX7_mod_25 : decode cX7_mod 25 = .ok (.aload_n 0, 1) := by decide +kernel
theorem dX7_mod_26 : decode cX7_mod 26 = .ok (.invokevirtual 136, 3) := by decide +kernel
theorem dX7_mod_29 : decode cX7_mod 29 = .ok (.ifCond .ne 11, 3) := by decide +kernel
theorem dX7_mod_32 : decode cX7_mod 32 = .ok (.aload_n 0, 1) := by decide +kernel
theorem dX7_mod_33 : decode cX7_mod 33 = .ok (.getfield 33, 3) := by decide +kernel
theorem dX7_mod_36 : decode cX7_mod 36 = .ok (.iconst 5, 1) := by decide +kernel
theorem dX7_mod_37 : decode cX7_mod 37 = .ok (.if_icmp .ne 7, 3) := by decide +kernel
theorem dX7_mod_40 : decode cX7_mod 40 = .ok (.iconst 2, 1) := by decide +kernel
theorem dX7_mod_41 : decode cX7_mod 41 = .ok (.goto 4, 3) := by decide +kernel
theorem dX7_mod_44 : decode cX7_mod 44 = .ok (.iconst 0, 1) := by decide +kernel
theorem dX7_mod_45 : decode cX7_mod 45 = .ok (.putfield 7, 3) := by decide +kernel
theorem dX7_mod_48 : decode cX7_mod 48 = .ok (.aload_n 0, 1) := by decide +kernel
theorem dX7_mod_49 : decode cX7_mod 49 = .ok (.getfield 7, 3) := by decide +kernel
theorem dX7_mod_52 : decode cX7_mod 52 = .ok (.ifCond .eq 7, 3) := by decide +kernel
theorem dX7_mod_55 : decode cX7_mod 55 = .ok (.iconst 0, 1) := by decide +kernel
theorem dX7_mod_56 : decode cX7_mod 56 = .ok (.goto 9, 3) := by decide +kernel
theorem dX7_mod_59 : decode cX7_mod 59 = .ok (.aload_n 0, 1) := by decide +kernel
theorem dX7_mod_60 : decode cX7_mod 60 = .ok (.iload_n 1, 1) := by decide +kernel
theorem dX7_mod_61 : decode cX7_mod 61 = .ok (.iload_n 2, 1) := by decide +kernel
theorem dX7_mod_62 : decode cX7_mod 62 = .ok (.invokevirtual 139, 3) := by decide +kernel
theorem dX7_mod_65 : decode cX7_mod 65 = .ok (.ireturn, 1) := by decide +kernel
theorem dX7_combine_0 : decode cX7_combine 0 = .ok (.iload_n 1, 1) := by decide +kernel
theorem dX7_combine_1 : decode cX7_combine 1 = .ok (.ifCond .lt 37, 3) := by decide +kernel
theorem dX7_combine_4 : decode cX7_combine 4 = .ok (.iload_n 1, 1) := by decide +kernel
theorem dX7_combine_5 : decode cX7_combine 5 = .ok (.iconst 2, 1) := by decide +kernel
theorem dX7_combine_6 : decode cX7_combine 6 = .ok (.if_icmp .gt 32, 3) := by decide +kernel
theorem dX7_combine_9 : decode cX7_combine 9 = .ok (.iload_n 2, 1) := by decide +kernel
theorem dX7_combine_10 : decode cX7_combine 10 = .ok (.ifCond .lt 28, 3) := by decide +kernel
theorem dX7_combine_13 : decode cX7_combine 13 = .ok (.iload_n 2, 1) := by decide +kernel
theorem dX7_combine_14 : decode cX7_combine 14 = .ok (.aload_n 0, 1) := by decide +kernel
theorem dX7_combine_15 : decode cX7_combine 15 = .ok (.getfield 17, 3) := by decide +kernel
theorem dX7_combine_18 : decode cX7_combine 18 = .ok (.if_icmp .ge 20, 3) := by decide +kernel
theorem dX7_combine_21 : decode cX7_combine 21 = .ok (.iload_n 1, 1) := by decide +kernel
theorem dX7_combine_22 : decode cX7_combine 22 = .ok (.iconst 2, 1) := by decide +kernel
theorem dX7_combine_23 : decode cX7_combine 23 = .ok (.if_icmp .ge 19, 3) := by decide +kernel
theorem dX7_combine_26 : decode cX7_combine 26 = .ok (.iload_n 3, 1) := by decide +kernel
theorem dX7_combine_27 : decode cX7_combine 27 = .ok (.ifCond .lt 11, 3) := by decide +kernel
theorem dX7_combine_30 : decode cX7_combine 30 = .ok (.iload_n 3, 1) := by decide +kernel
theorem dX7_combine_31 : decode cX7_combine 31 = .ok (.aload_n 0, 1) := by decide +kernel
theorem dX7_combine_32 : decode cX7_combine 32 = .ok (.getfield 17, 3) := by decide +kernel
theorem dX7_combine_35 : decode cX7_combine 35 = .ok (.if_icmp .lt 7, 3) := by decide +kernel
theorem dX7_combine_38 : decode cX7_combine 38 = .ok (.iconst 1, 1) := by decide +kernel
theorem dX7_combine_39 : decode cX7_combine 39 = .ok (.goto 4, 3) := by decide +kernel
theorem dX7_combine_42 : decode cX7_combine 42 = .ok (.iconst 0, 1) := by decide +kernel
theorem dX7_combine_43 : decode cX7_combine 43 = .ok (.istore 4, 2) := by decide +kernel
theorem dX7_combine_45 : decode cX7_combine 45 = .ok (.aload_n 0, 1) := by decide +kernel
theorem dX7_combine_46 : decode cX7_combine 46 = .ok (.iload 4, 2) := by decide +kernel
theorem dX7_combine_48 : decode cX7_combine 48 = .ok (.ifCond .eq 7, 3) := by decide +kernel
theorem dX7_combine_51 : decode cX7_combine 51 = .ok (.iconst 1, 1) := by decide +kernel
theorem dX7_combine_52 : decode cX7_combine 52 = .ok (.goto 15, 3) := by decide +kernel
theorem dX7_combine_55 : decode cX7_combine 55 = .ok (.aload_n 0, 1) := by decide +kernel
theorem dX7_combine_56 : decode cX7_combine 56 = .ok (.invokevirtual 136, 3) := by decide +kernel
theorem dX7_combine_59 : decode cX7_combine 59 = .ok (.ifCond .eq 7, 3) := by decide +kernel
theorem dX7_combine_62 : decode cX7_combine 62 = .ok (.iconst 2, 1) := by decide +kernel
theorem dX7_combine_63 : decode cX7_combine 63 = .ok (.goto 4, 3) := by decide +kernel
theorem dX7_combine_66 : decode cX7_combine 66 = .ok (.iconst 0, 1) := by decide +kernel
theorem dX7_combine_67 : decode cX7_combine 67 = .ok (.putfield 7, 3) := by decide +kernel
theorem dX7_combine_70 : decode cX7_combine 70 = .ok (.aload_n 0, 1) := by decide +kernel
theorem dX7_combine_71 : decode cX7_combine 71 = .ok (.getfield 7, 3) := by decide +kernel
theorem dX7_combine_74 : decode cX7_combine 74 = .ok (.ifCond .eq 7, 3) := by decide +kernel
theorem dX7_combine_77 : decode cX7_combine 77 = .ok (.iconst 0, 1) := by decide +kernel
theorem dX7_combine_78 : decode cX7_combine 78 = .ok (.goto 19, 3) := by decide +kernel
theorem dX7_combine_81 : decode cX7_combine 81 = .ok (.aload_n 0, 1) := by decide +kernel
theorem dX7_combine_82 : decode cX7_combine 82 = .ok (.iload_n 1, 1) := by decide +kernel
theorem dX7_combine_83 : decode cX7_combine 83 = .ok (.iload_n 2, 1) := by decide +kernel
theorem dX7_combine_84 : decode cX7_combine 84 = .ok (.iload_n 1, 1) := by decide +kernel
theorem dX7_combine_85 : decode cX7_combine 85 = .ok (.iconst 2, 1) := by decide +kernel
theorem dX7_combine_86 : decode cX7_combine 86 = .ok (.if_icmp .ne 7, 3) := by decide +kernel
theorem dX7_combine_89 : decode cX7_combine 89 = .ok (.iconst (-1), 1) := by decide +kernel
theorem dX7_combine_90 : decode cX7_combine 90 = .ok (.goto 4, 3) := by decide +kernel
theorem dX7_combine_93 : decode cX7_combine 93 = .ok (.iload_n 3, 1) := by decide +kernel
theorem dX7_combine_94 : decode cX7_combine 94 = .ok (.invokevirtual 132, 3) := by decide +kernel
