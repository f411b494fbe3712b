theorem dX7_combine_97 : decode cX7_combine 97 = .ok (.ireturn, 1) := by decide +kernel
theorem dX7_compile_0 : decode cX7_compile 0 = .ok (.iconst 0, 1) := by decide +kernel
theorem dX7_compile_1 : decode cX7_compile 1 = .ok (.istore_n 1, 1) := by decide +kernel
theorem dX7_compile_2 : decode cX7_compile 2 = .ok (.iconst 0, 1) := by decide +kernel
theorem dX7_compile_3 : decode cX7_compile 3 = .ok (.istore_n 2, 1) := by decide +kernel
theorem dX7_compile_4 : decode cX7_compile 4 = .ok (.iload_n 2, 1) := by decide +kernel
theorem dX7_compile_5 : decode cX7_compile 5 = .ok (.aload_n 0, 1) := by decide +kernel
theorem dX7_compile_6 : decode cX7_compile 6 = .ok (.getfield 17, 3) := by decide +kernel
theorem dX7_compile_9 : decode cX7_compile 9 = .ok (.if_icmp .ge 86, 3) := by decide +kernel
theorem dX7_compile_12 : decode cX7_compile 12 = .ok (.iconst 0, 1) := by decide +kernel
theorem dX7_compile_13 : decode cX7_compile 13 = .ok (.istore_n 3, 1) := by decide +kernel
theorem dX7_compile_14 : decode cX7_compile 14 = .ok (.iconst 0, 1) := by decide +kernel
theorem dX7_compile_15 : decode cX7_compile 15 = .ok (.istore 4, 2) := by decide +kernel
theorem dX7_compile_17 : decode cX7_compile 17 = .ok (.iload 4, 2) := by decide +kernel
theorem dX7_compile_19 : decode cX7_compile 19 = .ok (.aload_n 0, 1) := by decide +kernel
theorem dX7_compile_20 : decode cX7_compile 20 = .ok (.getfield 17, 3) := by decide +kernel
theorem dX7_compile_23 : decode cX7_compile 23 = .ok (.if_icmp .ge 59, 3) := by decide +kernel
theorem dX7_compile_26 : decode cX7_compile 26 = .ok (.aload_n 0, 1) := by decide +kernel
theorem dX7_compile_27 : decode cX7_compile 27 = .ok (.getfield 20, 3) := by decide +kernel
theorem dX7_compile_30 : decode cX7_compile 30 = .ok (.iload 4, 2) := by decide +kernel
theorem dX7_compile_32 : decode cX7_compile 32 = .ok (.iaload, 1) := by decide +kernel
theorem dX7_compile_33 : decode cX7_compile 33 = .ok (.iconst 3, 1) := by decide +kernel
theorem dX7_compile_34 : decode cX7_compile 34 = .ok (.if_icmp .ge 17, 3) := by decide +kernel
theorem dX7_compile_37 : decode cX7_compile 37 = .ok (.aload_n 0, 1) := by decide +kernel
theorem dX7_compile_38 : decode cX7_compile 38 = .ok (.getfield 23, 3) := by decide +kernel
theorem dX7_compile_41 : decode cX7_compile 41 = .ok (.iload 4, 2) := by decide +kernel
theorem dX7_compile_43 : decode cX7_compile 43 = .ok (.iaload, 1) := by decide +kernel
theorem dX7_compile_44 : decode cX7_compile 44 = .ok (.iload_n 2, 1) := by decide +kernel
theorem dX7_compile_45 : decode cX7_compile 45 = .ok (.if_icmp .ne 6, 3) := by decide +kernel
theorem dX7_compile_48 : decode cX7_compile 48 = .ok (.iinc 3 1, 3) := by decide +kernel
theorem dX7_compile_51 : decode cX7_compile 51 = .ok (.aload_n 0, 1) := by decide +kernel
theorem dX7_compile_52 : decode cX7_compile 52 = .ok (.getfield 20, 3) := by decide +kernel
theorem dX7_compile_55 : decode cX7_compile 55 = .ok (.iload 4, 2) := by decide +kernel
theorem dX7_compile_57 : decode cX7_compile 57 = .ok (.iaload, 1) := by decide +kernel
theorem dX7_compile_58 : decode cX7_compile 58 = .ok (.iconst 2, 1) := by decide +kernel
theorem dX7_compile_59 : decode cX7_compile 59 = .ok (.if_icmp .ge 17, 3) := by decide +kernel
theorem dX7_compile_62 : decode cX7_compile 62 = .ok (.aload_n 0, 1) := by decide +kernel
theorem dX7_compile_63 : decode cX7_compile 63 = .ok (.getfield 26, 3) := by decide +kernel
theorem dX7_compile_66 : decode cX7_compile 66 = .ok (.iload 4, 2) := by decide +kernel
theorem dX7_compile_68 : decode cX7_compile 68 = .ok (.iaload, 1) := by decide +kernel
theorem dX7_compile_69 : decode cX7_compile 69 = .ok (.iload_n 2, 1) := by decide +kernel
theorem dX7_compile_70 : decode cX7_compile 70 = .ok (.if_icmp .ne 6, 3) := by decide +kernel
theorem dX7_compile_73 : decode cX7_compile 73 = .ok (.iinc 3 1, 3) := by decide +kernel
theorem dX7_compile_76 : decode cX7_compile 76 = .ok (.iinc 4 1, 3) := by decide +kernel
theorem dX7_compile_79 : decode cX7_compile 79 = .ok (.goto (-62), 3) := by decide +kernel
theorem dX7_compile_82 : decode cX7_compile 82 = .ok (.iload_n 3, 1) := by decide +kernel
theorem dX7_compile_83 : decode cX7_compile 83 = .ok (.iconst 1, 1) := by decide +kernel
theorem dX7_compile_84 : decode cX7_compile 84 = .ok (.if_icmp .le 5, 3) := by decide +kernel
theorem dX7_compile_87 : decode cX7_compile 87 = .ok (.iconst 1, 1) := by decide +kernel
theorem dX7_compile_88 : decode cX7_compile 88 = .ok (.istore_n 1, 1) := by decide +kernel
theorem dX7_compile_89 : decode cX7_compile 89 = .ok (.iinc 2 1, 3) := by decide +kernel
theorem dX7_compile_92 : decode cX7_compile 92 = .ok (.goto (-88), 3) := by decide +kernel
theorem dX7_compile_95 : decode cX7_compile 95 = .ok (.aload_n 0, 1) := by decide +kernel
theorem dX7_compile_96 : decode cX7_compile 96 = .ok (.aload_n 0, 1) := by decide +kernel
theorem dX7_compile_97 : decode cX7_compile 97 = .ok (.getfield 17, 3) := by decide +kernel
theorem dX7_compile_100 : decode cX7_compile 100 = .ok (.ifCond .eq 14, 3) := by decide +kernel
theorem dX7_compile_103 : decode cX7_compile 103 = .ok (.iload_n 1, 1) := by decide +kernel
theorem dX7_compile_104 : decode cX7_compile 104 = .ok (.ifCond .ne 10, 3) := by decide +kernel
theorem dX7_compile_107 : decode cX7_compile 107 = .ok (.aload_n 0, 1) := by decide +kernel
theorem dX7_compile_108 : decode cX7_compile 108 = .ok (.getfield 48, 3) := by decide +kernel
theorem dX7_compile_111 : decode cX7_compile 111 = .ok (.ifCond .eq 7, 3) := by decide +kernel
theorem dX7_compile_114 : decode cX7_compile 114 = .ok (.iconst 1, 1) := by decide +kernel
theorem dX7_compile_115 : decode cX7_compile 115 = .ok (.goto 4, 3) := by decide +kernel
theorem dX7_compile_118 : decode cX7_compile 118 = .ok (.iconst 0, 1) := by decide +kernel
theorem dX7_compile_119 : decode cX7_compile 119 = .ok (.putfield 7, 3) := by decide +kernel
theorem dX7_compile_122 : decode cX7_compile 122 = .ok (.aload_n 0, 1) := by decide +kernel
theorem dX7_compile_123 : decode cX7_compile 123 = .ok (.getfield 7, 3) := by decide +kernel
theorem dX7_compile_126 : decode cX7_compile 126 = .ok (.ifCond .eq 5, 3) := by decide +kernel
theorem dX7_compile_129 : decode cX7_compile 129 = .ok (.iconst 0, 1) := by decide +kernel
theorem dX7_compile_130 : decode cX7_compile 130 = .ok (.ireturn, 1) := by decide +kernel
theorem dX7_compile_131 : decode cX7_compile 131 = .ok (.aload_n 0, 1) := by decide +kernel
theorem dX7_compile_132 : decode cX7_compile 132 = .ok (.iconst 1, 1) := by decide +kernel
theorem dX7_compile_133 : decode cX7_compile 133 = .ok (.putfield 48, 3) := by decide +kernel
theorem dX7_compile_136 : decode cX7_compile 136 = .ok (.iconst 0, 1) := by decide +kernel
theorem dX7_compile_137 : decode cX7_compile 137 = .ok (.istore_n 2, 1) := by decide +kernel
theorem dX7_compile_138 : decode cX7_compile 138 = .ok (.iconst 0, 1) := by decide +kernel
theorem dX7_compile_139 : decode cX7_compile 139 = .ok (.istore_n 3, 1) := by decide +kernel
theorem dX7_compile_140 : decode cX7_compile 140 = .ok (.iload_n 3, 1) := by decide +kernel
theorem dX7_compile_141 : decode cX7_compile 141 = .ok (.aload_n 0, 1) := by decide +kernel
theorem dX7_compile_142 : decode cX7_compile 142 = .ok (.getfield 33, 3) := by decide +kernel
theorem dX7_compile_145 : decode cX7_compile 145 = .ok (.if_icmp .ge 22, 3) := by decide +kernel
theorem dX7_compile_148 : decode cX7_compile 148 = .ok (.aload_n 0, 1) := by decide +kernel
theorem dX7_compile_149 : decode cX7_compile 149 = .ok (.iload_n 3, 1) := by decide +kernel
theorem dX7_compile_150 : decode cX7_compile 150 = .ok (.invokevirtual 142, 3) := by decide +kernel
theorem dX7_compile_153 : decode cX7_compile 153 = .ok (.iload_n 2, 1) := by decide +kernel
theorem dX7_compile_154 : decode cX7_compile 154 = .ok (.aload_n 0, 1) := by decide +kernel
theorem dX7_compile_155 : decode cX7_compile 155 = .ok (.iload_n 3, 1) := by decide +kernel
theorem dX7_compile_156 : decode cX7_compile 156 = .ok (.invokevirtual 146, 3) := by decide +kernel
theorem dX7_compile_159 : decode cX7_compile 159 = .ok (.iadd, 1) := by decide +kernel
theorem dX7_compile_160 : decode cX7_compile 160 = .ok (.istore_n 2, 1) := by decide +kernel
theorem dX7_compile_161 : decode cX7_compile 161 = .ok (.iinc 3 1, 3) := by decide +kernel
theorem dX7_compile_164 : decode cX7_compile 164 = .ok (.goto (-24), 3) := by decide +kernel
theorem dX7_compile_167 : decode cX7_compile 167 = .ok (.iload_n 2, 1) := by decide +kernel
theorem dX7_compile_168 : decode cX7_compile 168 = .ok (.ireturn, 1) := by decide +kernel
theorem dX7_add_0 : decode cX7_add 0 = .ok (.aload_n 0, 1) := by decide +kernel
theorem dX7_add_1 : decode cX7_add 1 = .ok (.iload_n 1, 1) := by decide +kernel
theorem dX7_add_2 : decode cX7_add 2 = .ok (.ifCond .lt 13, 3) := by decide +kernel
theorem dX7_add_5 : decode cX7_add 5 = .ok (.iload_n 1, 1) := by decide +kernel
theorem dX7_add_6 : decode cX7_add 6 = .ok (.bipush 7, 2) := by decide +kernel
theorem dX7_add_8 : decode cX7_add 8 = .ok (.if_icmp .gt 7, 3) := by decide +kernel
theorem dX7_add_11 : decode cX7_add 11 = .ok (.iload_n 2, 1) := by decide +kernel
theorem dX7_add_12 : decode cX7_add 12 = .ok (.ifCond .ge 7, 3) := by decide +kernel
theorem dX7_add_15 : decode cX7_add 15 = .ok (.iconst 1, 1) := by decide +kernel
theorem dX7_add_16 : decode cX7_add 16 = .ok (.goto 27, 3) := by decide +kernel
theorem dX7_add_19 : decode cX7_add 19 = .ok (.aload_n 0, 1) := by decide +kernel
theorem dX7_add_20 : decode cX7_add 20 = .ok (.getfield 48, 3) := by decide +kernel
theorem dX7_add_23 : decode cX7_add 23 = .ok (.ifCond .eq 15, 3) := by decide +kernel
theorem dX7_add_26 : decode cX7_add 26 = .ok (.iload_n 2, 1) := by decide +kernel
theorem dX7_add_27 : decode cX7_add 27 = .ok (.sipush 200, 3) := by decide +kernel
theorem dX7_add_30 : decode cX7_add 30 = .ok (.aload_n 0, 1) := by decide +kernel
theorem dX7_add_31 : decode cX7_add 31 = .ok (.getfield 55, 3) := by decide +kernel
theorem dX7_add_34 : decode cX7_add 34 = .ok (.isub, 1) := by decide +kernel
theorem dX7_add_35 : decode cX7_add 35 = .ok (.if_icmp .le 7, 3) := by decide +kernel
theorem dX7_add_38 : decode cX7_add 38 = .ok (.iconst 2, 1) := by decide +kernel
theorem dX7_add_39 : decode cX7_add 39 = .ok (.goto 4, 3) := by decide +kernel
theorem dX7_add_42 : decode cX7_add 42 = .ok (.iconst 0, 1) := by decide +kernel
theorem dX7_add_43 : decode cX7_add 43 = .ok (.putfield 7, 3) := by decide +kernel
theorem dX7_add_46 : decode cX7_add 46 = .ok (.aload_n 0, 1) := by decide +kernel
theorem dX7_add_47 : decode cX7_add 47 = .ok (.getfield 7, 3) := by decide +kernel
theorem dX7_add_50 : decode cX7_add 50 = .ok (.ifCond .eq 5, 3) := by decide +kernel
theorem dX7_add_53 : decode cX7_add 53 = .ok (.iconst 0, 1) := by decide +kernel
theorem dX7_add_54 : decode cX7_add 54 = .ok (.ireturn, 1) := by decide +kernel
theorem dX7_add_55 : decode cX7_add 55 = .ok (.iconst 0, 1) := by decide +kernel
theorem dX7_add_56 : decode cX7_add 56 = .ok (.istore_n 3, 1) := by decide +kernel
theorem dX7_add_57 : decode cX7_add 57 = .ok (.iload_n 3, 1) := by decide +kernel
theorem dX7_add_58 : decode cX7_add 58 = .ok (.iload_n 2, 1) := by decide +kernel
theorem dX7_add_59 : decode cX7_add 59 = .ok (.if_icmp .ge 58, 3) := by decide +kernel
theorem dX7_add_62 : decode cX7_add 62 = .ok (.iconst 0, 1) := by decide +kernel
theorem dX7_add_63 : decode cX7_add 63 = .ok (.istore 4, 2) := by decide +kernel
theorem dX7_add_65 : decode cX7_add 65 = .ok (.iload 4, 2) := by decide +kernel
theorem dX7_add_67 : decode cX7_add 67 = .ok (.aload_n 0, 1) := by decide +kernel
theorem dX7_add_68 : decode cX7_add 68 = .ok (.getfield 33, 3) := by decide +kernel
theorem dX7_add_71 : decode cX7_add 71 = .ok (.if_icmp .ge 30, 3) := by decide +kernel
theorem dX7_add_74 : decode cX7_add 74 = .ok (.aload_n 0, 1) := by decide +kernel
theorem dX7_add_75 : decode cX7_add 75 = .ok (.getfield 58, 3) := by decide +kernel
theorem dX7_add_78 : decode cX7_add 78 = .ok (.iconst 5, 1) := by decide +kernel
theorem dX7_add_79 : decode cX7_add 79 = .ok (.aload_n 0, 1) := by decide +kernel
theorem dX7_add_80 : decode cX7_add 80 = .ok (.getfield 55, 3) := by decide +kernel
theorem dX7_add_83 : decode cX7_add 83 = .ok (.imul, 1) := by decide +kernel
theorem dX7_add_84 : decode cX7_add 84 = .ok (.iload 4, 2) := by decide +kernel
theorem dX7_add_86 : decode cX7_add 86 = .ok (.iadd, 1) := by decide +kernel
theorem dX7_add_87 : decode cX7_add 87 = .ok (.aload_n 0, 1) := by decide +kernel
theorem dX7_add_88 : decode cX7_add 88 = .ok (.iload 4, 2) := by decide +kernel
theorem dX7_add_90 : decode cX7_add 90 = .ok (.iload_n 1, 1) := by decide +kernel
theorem dX7_add_91 : decode cX7_add 91 = .ok (.invokevirtual 101, 3) := by decide +kernel
theorem dX7_add_94 : decode cX7_add 94 = .ok (.iastore, 1) := by decide +kernel
theorem dX7_add_95 : decode cX7_add 95 = .ok (.iinc 4 1, 3) := by decide +kernel
theorem dX7_add_98 : decode cX7_add 98 = .ok (.goto (-33), 3) := by decide +kernel
theorem dX7_add_101 : decode cX7_add 101 = .ok (.aload_n 0, 1) := by decide +kernel
theorem dX7_add_102 : decode cX7_add 102 = .ok (.dup, 1) := by decide +kernel
theorem dX7_add_103 : decode cX7_add 103 = .ok (.getfield 55, 3) := by decide +kernel
theorem dX7_add_106 : decode cX7_add 106 = .ok (.iconst 1, 1) := by decide +kernel
theorem dX7_add_107 : decode cX7_add 107 = .ok (.iadd, 1) := by decide +kernel
theorem dX7_add_108 : decode cX7_add 108 = .ok (.putfield 55, 3) := by decide +kernel
theorem dX7_add_111 : decode cX7_add 111 = .ok (.iinc 3 1, 3) := by decide +kernel
theorem dX7_add_114 : decode cX7_add 114 = .ok (.goto (-57), 3) := by decide +kernel
theorem dX7_add_117 : decode cX7_add 117 = .ok (.aload_n 0, 1) := by decide +kernel
theorem dX7_add_118 : decode cX7_add 118 = .ok (.getfield 61, 3) := by decide +kernel
theorem dX7_add_121 : decode cX7_add 121 = .ok (.iload_n 1, 1) := by decide +kernel
theorem dX7_add_122 : decode cX7_add 122 = .ok (.dup2, 1) := by decide +kernel
theorem dX7_add_123 : decode cX7_add 123 = .ok (.iaload, 1) := by decide +kernel
theorem dX7_add_124 : decode cX7_add 124 = .ok (.iload_n 2, 1) := by decide +kernel
theorem dX7_add_125 : decode cX7_add 125 = .ok (.iadd, 1) := by decide +kernel
theorem dX7_add_126 : decode cX7_add 126 = .ok (.iastore, 1) := by decide +kernel
theorem dX7_add_127 : decode cX7_add 127 = .ok (.iload_n 2, 1) := by decide +kernel
theorem dX7_add_128 : decode cX7_add 128 = .ok (.ifCond .le 8, 3) := by decide +kernel
theorem dX7_add_131 : decode cX7_add 131 = .ok (.aload_n 0, 1) := by decide +kernel
theorem dX7_add_132 : decode cX7_add 132 = .ok (.iconst 0, 1) := by decide +kernel
theorem dX7_add_133 : decode cX7_add 133 = .ok (.putfield 83, 3) := by decide +kernel
theorem dX7_add_136 : decode cX7_add 136 = .ok (.aload_n 0, 1) := by decide +kernel
theorem dX7_add_137 : decode cX7_add 137 = .ok (.getfield 55, 3) := by decide +kernel
theorem dX7_add_140 : decode cX7_add 140 = .ok (.ireturn, 1) := by decide +kernel
theorem dX7_size_0 : decode cX7_size 0 = .ok (.aload_n 0, 1) := by decide +kernel
theorem dX7_size_1 : decode cX7_size 1 = .ok (.iconst 0, 1) := by decide +kernel
theorem dX7_size_2 : decode cX7_size 2 = .ok (.putfield 7, 3) := by decide +kernel
theorem dX7_size_5 : decode cX7_size 5 = .ok (.aload_n 0, 1) := by decide +kernel
theorem dX7_size_6 : decode cX7_size 6 = .ok (.getfield 55, 3) := by decide +kernel
theorem dX7_size_9 : decode cX7_size 9 = .ok (.ireturn, 1) := by decide +kernel
theorem dX7_noAgent_0 : decode cX7_noAgent 0 = .ok (.iload_n 1, 1) := by decide +kernel
theorem dX7_noAgent_1 : decode cX7_noAgent 1 = .ok (.ifCond .lt 11, 3) := by decide +kernel
theorem dX7_noAgent_4 : decode cX7_noAgent 4 = .ok (.iload_n 1, 1) := by decide +kernel
theorem dX7_noAgent_5 : decode cX7_noAgent 5 = .ok (.aload_n 0, 1) := by decide +kernel
theorem dX7_noAgent_6 : decode cX7_noAgent 6 = .ok (.getfield 55, 3) := by decide +kernel
theorem dX7_noAgent_9 : decode cX7_noAgent 9 = .ok (.if_icmp .lt 7, 3) := by decide +kernel
theorem dX7_noAgent_12 : decode cX7_noAgent 12 = .ok (.iconst 1, 1) := by decide +kernel
theorem dX7_noAgent_13 : decode cX7_noAgent 13 = .ok (.goto 4, 3) := by decide +kernel
theorem dX7_noAgent_16 : decode cX7_noAgent 16 = .ok (.iconst 0, 1) := by decide +kernel
theorem dX7_noAgent_17 : decode cX7_noAgent 17 = .ok (.ireturn, 1) := by decide +kernel
theorem dX7_meet_0 : decode cX7_meet 0 = .ok (.aload_n 0, 1) := by decide +kernel
theorem dX7_meet_1 : decode cX7_meet 1 = .ok (.iload_n 1, 1) := by decide +kernel
theorem dX7_meet_2 : decode cX7_meet 2 = .ok (.iload_n 2, 1) := by decide +kernel
theorem dX7_meet_3 : decode cX7_meet 3 = .ok (.if_icmp .ne 7, 3) := by decide +kernel
theorem dX7_meet_6 : decode cX7_meet 6 = .ok (.iconst 1, 1) := by decide +kernel
theorem dX7_meet_7 : decode cX7_meet 7 = .ok (.goto 24, 3) := by decide +kernel
theorem dX7_meet_10 : decode cX7_meet 10 = .ok (.aload_n 0, 1) := by decide +kernel
theorem dX7_meet_11 : decode cX7_meet 11 = .ok (.iload_n 1, 1) := by decide +kernel
theorem dX7_meet_12 : decode cX7_meet 12 = .ok (.invokevirtual 149, 3) := by decide +kernel
theorem dX7_meet_15 : decode cX7_meet 15 = .ok (.ifCond .ne 11, 3) := by decide +kernel
theorem dX7_meet_18 : decode cX7_meet 18 = .ok (.aload_n 0, 1) := by decide +kernel
theorem dX7_meet_19 : decode cX7_meet 19 = .ok (.iload_n 2, 1) := by decide +kernel
theorem dX7_meet_20 : decode cX7_meet 20 = .ok (.invokevirtual 149, 3) := by decide +kernel
theorem dX7_meet_23 : decode cX7_meet 23 = .ok (.ifCond .eq 7, 3) := by decide +kernel
theorem dX7_meet_26 : decode cX7_meet 26 = .ok (.iconst 2, 1) := by decide +kernel
theorem dX7_meet_27 : decode cX7_meet 27 = .ok (.goto 4, 3) := by decide +kernel
theorem dX7_meet_30 : decode cX7_meet 30 = .ok (.iconst 0, 1) := by decide +kernel
theorem dX7_meet_31 : decode cX7_meet 31 = .ok (.putfield 7, 3) := by decide +kernel
theorem dX7_meet_34 : decode cX7_meet 34 = .ok (.aload_n 0, 1) := by decide +kernel
theorem dX7_meet_35 : decode cX7_meet 35 = .ok (.getfield 7, 3) := by decide +kernel
theorem dX7_meet_38 : decode cX7_meet 38 = .ok (.ifCond .ne 17, 3) := by decide +kernel
theorem dX7_meet_41 : decode cX7_meet 41 = .ok (.aload_n 0, 1) := by decide +kernel
theorem dX7_meet_42 : decode cX7_meet 42 = .ok (.iload_n 1, 1) := by decide +kernel
theorem dX7_meet_43 : decode cX7_meet 43 = .ok (.iload_n 2, 1) := by decide +kernel
theorem dX7_meet_44 : decode cX7_meet 44 = .ok (.iconst 1, 1) := by decide +kernel
theorem dX7_meet_45 : decode cX7_meet 45 = .ok (.invokevirtual 153, 3) := by decide +kernel
theorem dX7_meet_48 : decode cX7_meet 48 = .ok (.ifCond .eq 7, 3) := by decide +kernel
theorem dX7_meet_51 : decode cX7_meet 51 = .ok (.iconst 1, 1) := by decide +kernel
theorem dX7_meet_52 : decode cX7_meet 52 = .ok (.goto 4, 3) := by decide +kernel
theorem dX7_meet_55 : decode cX7_meet 55 = .ok (.iconst 0, 1) := by decide +kernel
theorem dX7_meet_56 : decode cX7_meet 56 = .ok (.ireturn, 1) := by decide +kernel
theorem dX7_sweep_0 : decode cX7_sweep 0 = .ok (.aload_n 0, 1) := by decide +kernel
theorem dX7_sweep_1 : decode cX7_sweep 1 = .ok (.iload_n 1, 1) := by decide +kernel
theorem dX7_sweep_2 : decode cX7_sweep 2 = .ok (.iconst 1, 1) := by decide +kernel
theorem dX7_sweep_3 : decode cX7_sweep 3 = .ok (.if_icmp .lt 10, 3) := by decide +kernel
theorem dX7_sweep_6 : decode cX7_sweep 6 = .ok (.iload_n 1, 1) := by decide +kernel
theorem dX7_sweep_7 : decode cX7_sweep 7 = .ok (.sipush 500, 3) := by decide +kernel
theorem dX7_sweep_10 : decode cX7_sweep 10 = .ok (.if_icmp .le 7, 3) := by decide +kernel
theorem dX7_sweep_13 : decode cX7_sweep 13 = .ok (.iconst 1, 1) := by decide +kernel
theorem dX7_sweep_14 : decode cX7_sweep 14 = .ok (.goto 4, 3) := by decide +kernel
theorem dX7_sweep_17 : decode cX7_sweep 17 = .ok (.iconst 0, 1) := by decide +kernel
theorem dX7_sweep_18 : decode cX7_sweep 18 = .ok (.putfield 7, 3) := by decide +kernel
theorem dX7_sweep_21 : decode cX7_sweep 21 = .ok (.aload_n 0, 1) := by decide +kernel
theorem dX7_sweep_22 : decode cX7_sweep 22 = .ok (.getfield 7, 3) := by decide +kernel
theorem dX7_sweep_25 : decode cX7_sweep 25 = .ok (.ifCond .eq 5, 3) := by decide +kernel
theorem dX7_sweep_28 : decode cX7_sweep 28 = .ok (.iconst 0, 1) := by decide +kernel
theorem dX7_sweep_29 : decode cX7_sweep 29 = .ok (.ireturn, 1) := by decide +kernel
theorem dX7_sweep_30 : decode cX7_sweep 30 = .ok (.iconst 0, 1) := by decide +kernel
theorem dX7_sweep_31 : decode cX7_sweep 31 = .ok (.istore_n 2, 1) := by decide +kernel
theorem dX7_sweep_32 : decode cX7_sweep 32 = .ok (.iconst 0, 1) := by decide +kernel
theorem dX7_sweep_33 : decode cX7_sweep 33 = .ok (.istore_n 3, 1) := by decide +kernel
theorem dX7_sweep_34 : decode cX7_sweep 34 = .ok (.iload_n 3, 1) := by decide +kernel
theorem dX7_sweep_35 : decode cX7_sweep 35 = .ok (.iload_n 1, 1) := by decide +kernel
theorem dX7_sweep_36 : decode cX7_sweep 36 = .ok (.if_icmp .ge 74, 3) := by decide +kernel
theorem dX7_sweep_39 : decode cX7_sweep 39 = .ok (.iload_n 2, 1) := by decide +kernel
theorem dX7_sweep_40 : decode cX7_sweep 40 = .ok (.istore 4, 2) := by decide +kernel
theorem dX7_sweep_42 : decode cX7_sweep 42 = .ok (.iconst 0, 1) := by decide +kernel
theorem dX7_sweep_43 : decode cX7_sweep 43 = .ok (.istore 5, 2) := by decide +kernel
theorem dX7_sweep_45 : decode cX7_sweep 45 = .ok (.iload 5, 2) := by decide +kernel
theorem dX7_sweep_47 : decode cX7_sweep 47 = .ok (.aload_n 0, 1) := by decide +kernel
theorem dX7_sweep_48 : decode cX7_sweep 48 = .ok (.getfield 55, 3) := by decide +kernel
theorem dX7_sweep_51 : decode cX7_sweep 51 = .ok (.if_icmp .ge 45, 3) := by decide +kernel
theorem dX7_sweep_54 : decode cX7_sweep 54 = .ok (.iload 5, 2) := by decide +kernel
theorem dX7_sweep_56 : decode cX7_sweep 56 = .ok (.iconst 1, 1) := by decide +kernel
theorem dX7_sweep_57 : decode cX7_sweep 57 = .ok (.iadd, 1) := by decide +kernel
theorem dX7_sweep_58 : decode cX7_sweep 58 = .ok (.istore 6, 2) := by decide +kernel
theorem dX7_sweep_60 : decode cX7_sweep 60 = .ok (.iload 6, 2) := by decide +kernel
theorem dX7_sweep_62 : decode cX7_sweep 62 = .ok (.aload_n 0, 1) := by decide +kernel
theorem dX7_sweep_63 : decode cX7_sweep 63 = .ok (.getfield 55, 3) := by decide +kernel
theorem dX7_sweep_66 : decode cX7_sweep 66 = .ok (.if_icmp .ge 24, 3) := by decide +kernel
theorem dX7_sweep_69 : decode cX7_sweep 69 = .ok (.aload_n 0, 1) := by decide +kernel
theorem dX7_sweep_70 : decode cX7_sweep 70 = .ok (.iload 5, 2) := by decide +kernel
theorem dX7_sweep_72 : decode cX7_sweep 72 = .ok (.iload 6, 2) := by decide +kernel
theorem dX7_sweep_74 : decode cX7_sweep 74 = .ok (.iconst 1, 1) := by decide +kernel
theorem dX7_sweep_75 : decode cX7_sweep 75 = .ok (.invokevirtual 153, 3) := by decide +kernel
theorem dX7_sweep_78 : decode cX7_sweep 78 = .ok (.ifCond .eq 6, 3) := by decide +kernel
theorem dX7_sweep_81 : decode cX7_sweep 81 = .ok (.iinc 2 1, 3) := by decide +kernel
theorem dX7_sweep_84 : decode cX7_sweep 84 = .ok (.iinc 6 1, 3) := by decide +kernel
theorem dX7_sweep_87 : decode cX7_sweep 87 = .ok (.goto (-27), 3) := by decide +kernel
theorem dX7_sweep_90 : decode cX7_sweep 90 = .ok (.iinc 5 1, 3) := by decide +kernel
theorem dX7_sweep_93 : decode cX7_sweep 93 = .ok (.goto (-48), 3) := by decide +kernel
theorem dX7_sweep_96 : decode cX7_sweep 96 = .ok (.iload_n 2, 1) := by decide +kernel
theorem dX7_sweep_97 : decode cX7_sweep 97 = .ok (.iload 4, 2) := by decide +kernel
theorem dX7_sweep_99 : decode cX7_sweep 99 = .ok (.if_icmp .ne 5, 3) := by decide +kernel
theorem dX7_sweep_102 : decode cX7_sweep 102 = .ok (.iload_n 2, 1) := by decide +kernel
theorem dX7_sweep_103 : decode cX7_sweep 103 = .ok (.ireturn, 1) := by decide +kernel
theorem dX7_sweep_104 : decode cX7_sweep 104 = .ok (.iinc 3 1, 3) := by decide +kernel
theorem dX7_sweep_107 : decode cX7_sweep 107 = .ok (.goto (-73), 3) := by decide +kernel
theorem dX7_sweep_110 : decode cX7_sweep 110 = .ok (.iload_n 2, 1) := by decide +kernel
theorem dX7_sweep_111 : decode cX7_sweep 111 = .ok (.ireturn, 1) := by decide +kernel
theorem dX7_output_0 : decode cX7_output 0 = .ok (.aload_n 0, 1) := by decide +kernel
theorem dX7_output_1 : decode cX7_output 1 = .ok (.aload_n 0, 1) := by decide +kernel
theorem dX7_output_2 : decode cX7_output 2 = .ok (.iload_n 1, 1) := by decide +kernel
theorem dX7_output_3 : decode cX7_output 3 = .ok (.invokevirtual 149, 3) := by decide +kernel
theorem dX7_output_6 : decode cX7_output 6 = .ok (.ifCond .eq 7, 3) := by decide +kernel
theorem dX7_output_9 : decode cX7_output 9 = .ok (.iconst 1, 1) := by decide +kernel
theorem dX7_output_10 : decode cX7_output 10 = .ok (.goto 4, 3) := by decide +kernel
theorem dX7_output_13 : decode cX7_output 13 = .ok (.iconst 0, 1) := by decide +kernel
theorem dX7_output_14 : decode cX7_output 14 = .ok (.putfield 7, 3) := by decide +kernel
theorem dX7_output_17 : decode cX7_output 17 = .ok (.aload_n 0, 1) := by decide +kernel
theorem dX7_output_18 : decode cX7_output 18 = .ok (.getfield 7, 3) := by decide +kernel
theorem dX7_output_21 : decode cX7_output 21 = .ok (.ifCond .ne 15, 3) := by decide +kernel
theorem dX7_output_24 : decode cX7_output 24 = .ok (.aload_n 0, 1) := by decide +kernel
theorem dX7_output_25 : decode cX7_output 25 = .ok (.iload_n 1, 1) := by decide +kernel
theorem dX7_output_26 : decode cX7_output 26 = .ok (.invokevirtual 157, 3) := by decide +kernel
theorem dX7_output_29 : decode cX7_output 29 = .ok (.ifCond .eq 7, 3) := by decide +kernel
theorem dX7_output_32 : decode cX7_output 32 = .ok (.iconst 1, 1) := by decide +kernel
theorem dX7_output_33 : decode cX7_output 33 = .ok (.goto 4, 3) := by decide +kernel
theorem dX7_output_36 : decode cX7_output 36 = .ok (.iconst 0, 1) := by decide +kernel
theorem dX7_output_37 : decode cX7_output 37 = .ok (.ireturn, 1) := by decide +kernel
theorem dX7_partOf_0 : decode cX7_partOf 0 = .ok (.iload_n 1, 1) := by decide +kernel
theorem dX7_partOf_1 : decode cX7_partOf 1 = .ok (.ifCond .ne 10, 3) := by decide +kernel
theorem dX7_partOf_4 : decode cX7_partOf 4 = .ok (.iload_n 0, 1) := by decide +kernel
theorem dX7_partOf_5 : decode cX7_partOf 5 = .ok (.invokestatic 97, 3) := by decide +kernel
theorem dX7_partOf_8 : decode cX7_partOf 8 = .ok (.goto 18, 3) := by decide +kernel
theorem dX7_partOf_11 : decode cX7_partOf 11 = .ok (.iload_n 1, 1) := by decide +kernel
theorem dX7_partOf_12 : decode cX7_partOf 12 = .ok (.iconst 1, 1) := by decide +kernel
theorem dX7_partOf_13 : decode cX7_partOf 13 = .ok (.if_icmp .ne 10, 3) := by decide +kernel
theorem dX7_partOf_16 : decode cX7_partOf 16 = .ok (.iload_n 0, 1) := by decide +kernel
theorem dX7_partOf_17 : decode cX7_partOf 17 = .ok (.bipush 86, 2) := by decide +kernel
theorem dX7_partOf_19 : decode cX7_partOf 19 = .ok (.idiv, 1) := by decide +kernel
theorem dX7_partOf_20 : decode cX7_partOf 20 = .ok (.goto 6, 3) := by decide +kernel
theorem dX7_partOf_23 : decode cX7_partOf 23 = .ok (.iload_n 0, 1) := by decide +kernel
theorem dX7_partOf_24 : decode cX7_partOf 24 = .ok (.iconst 1, 1) := by decide +kernel
theorem dX7_partOf_25 : decode cX7_partOf 25 = .ok (.iand, 1) := by decide +kernel
theorem dX7_partOf_26 : decode cX7_partOf 26 = .ok (.ireturn, 1) := by decide +kernel
theorem dX7_state_0 : decode cX7_state 0 = .ok (.aload_n 0, 1) := by decide +kernel
theorem dX7_state_1 : decode cX7_state 1 = .ok (.aload_n 0, 1) := by decide +kernel
theorem dX7_state_2 : decode cX7_state 2 = .ok (.iload_n 1, 1) := by decide +kernel
theorem dX7_state_3 : decode cX7_state 3 = .ok (.invokevirtual 149, 3) := by decide +kernel
theorem dX7_state_6 : decode cX7_state 6 = .ok (.ifCond .ne 24, 3) := by decide +kernel
theorem dX7_state_9 : decode cX7_state 9 = .ok (.iload_n 2, 1) := by decide +kernel
theorem dX7_state_10 : decode cX7_state 10 = .ok (.ifCond .lt 20, 3) := by decide +kernel
theorem dX7_state_13 : decode cX7_state 13 = .ok (.iload_n 2, 1) := by decide +kernel
theorem dX7_state_14 : decode cX7_state 14 = .ok (.aload_n 0, 1) := by decide +kernel
theorem dX7_state_15 : decode cX7_state 15 = .ok (.getfield 33, 3) := by decide +kernel
theorem dX7_state_18 : decode cX7_state 18 = .ok (.if_icmp .ge 12, 3) := by decide +kernel
theorem dX7_state_21 : decode cX7_state 21 = .ok (.iload_n 3, 1) := by decide +kernel
theorem dX7_state_22 : decode cX7_state 22 = .ok (.ifCond .lt 8, 3) := by decide +kernel
theorem dX7_state_25 : decode cX7_state 25 = .ok (.iload_n 3, 1) := by decide +kernel
theorem dX7_state_26 : decode cX7_state 26 = .ok (.iconst 2, 1) := by decide +kernel
theorem dX7_state_27 : decode cX7_state 27 = .ok (.if_icmp .le 7, 3) := by decide +kernel
theorem dX7_state_30 : decode cX7_state 30 = .ok (.iconst 1, 1) := by decide +kernel
theorem dX7_state_31 : decode cX7_state 31 = .ok (.goto 4, 3) := by decide +kernel
theorem dX7_state_34 : decode cX7_state 34 = .ok (.iconst 0, 1) := by decide +kernel
theorem dX7_state_35 : decode cX7_state 35 = .ok (.putfield 7, 3) := by decide +kernel
theorem dX7_state_38 : decode cX7_state 38 = .ok (.aload_n 0, 1) := by decide +kernel
theorem dX7_state_39 : decode cX7_state 39 = .ok (.getfield 7, 3) := by decide +kernel
theorem dX7_state_42 : decode cX7_state 42 = .ok (.ifCond .eq 7, 3) := by decide +kernel
theorem dX7_state_45 : decode cX7_state 45 = .ok (.iconst 0, 1) := by decide +kernel
theorem dX7_state_46 : decode cX7_state 46 = .ok (.goto 17, 3) := by decide +kernel
theorem dX7_state_49 : decode cX7_state 49 = .ok (.aload_n 0, 1) := by decide +kernel
theorem dX7_state_50 : decode cX7_state 50 = .ok (.getfield 58, 3) := by decide +kernel
theorem dX7_state_53 : decode cX7_state 53 = .ok (.iconst 5, 1) := by decide +kernel
theorem dX7_state_54 : decode cX7_state 54 = .ok (.iload_n 1, 1) := by decide +kernel
theorem dX7_state_55 : decode cX7_state 55 = .ok (.imul, 1) := by decide +kernel
theorem dX7_state_56 : decode cX7_state 56 = .ok (.iload_n 2, 1) := by decide +kernel
theorem dX7_state_57 : decode cX7_state 57 = .ok (.iadd, 1) := by decide +kernel
theorem dX7_state_58 : decode cX7_state 58 = .ok (.iaload, 1) := by decide +kernel
theorem dX7_state_59 : decode cX7_state 59 = .ok (.iload_n 3, 1) := by decide +kernel
theorem dX7_state_60 : decode cX7_state 60 = .ok (.invokestatic 160, 3) := by decide +kernel
theorem dX7_state_63 : decode cX7_state 63 = .ok (.ireturn, 1) := by decide +kernel
theorem dX7_truth_0 : decode cX7_truth 0 = .ok (.aload_n 0, 1) := by decide +kernel
theorem dX7_truth_1 : decode cX7_truth 1 = .ok (.aload_n 0, 1) := by decide +kernel
theorem dX7_truth_2 : decode cX7_truth 2 = .ok (.getfield 48, 3) := by decide +kernel
theorem dX7_truth_5 : decode cX7_truth 5 = .ok (.ifCond .eq 7, 3) := by decide +kernel
theorem dX7_truth_8 : decode cX7_truth 8 = .ok (.iconst 0, 1) := by decide +kernel
theorem dX7_truth_9 : decode cX7_truth 9 = .ok (.goto 4, 3) := by decide +kernel
theorem dX7_truth_12 : decode cX7_truth 12 = .ok (.iconst 1, 1) := by decide +kernel
theorem dX7_truth_13 : decode cX7_truth 13 = .ok (.putfield 7, 3) := by decide +kernel
theorem dX7_truth_16 : decode cX7_truth 16 = .ok (.aload_n 0, 1) := by decide +kernel
theorem dX7_truth_17 : decode cX7_truth 17 = .ok (.getfield 7, 3) := by decide +kernel
theorem dX7_truth_20 : decode cX7_truth 20 = .ok (.ifCond .ne 14, 3) := by decide +kernel
theorem dX7_truth_23 : decode cX7_truth 23 = .ok (.aload_n 0, 1) := by decide +kernel
theorem dX7_truth_24 : decode cX7_truth 24 = .ok (.invokevirtual 163, 3) := by decide +kernel
theorem dX7_truth_27 : decode cX7_truth 27 = .ok (.ifCond .eq 7, 3) := by decide +kernel
theorem dX7_truth_30 : decode cX7_truth 30 = .ok (.iconst 1, 1) := by decide +kernel
theorem dX7_truth_31 : decode cX7_truth 31 = .ok (.goto 4, 3) := by decide +kernel
theorem dX7_truth_34 : decode cX7_truth 34 = .ok (.iconst 0, 1) := by decide +kernel
theorem dX7_truth_35 : decode cX7_truth 35 = .ok (.ireturn, 1) := by decide +kernel
theorem dX7_silent_0 : decode cX7_silent 0 = .ok (.aload_n 0, 1) := by decide +kernel
theorem dX7_silent_1 : decode cX7_silent 1 = .ok (.iconst 0, 1) := by decide +kernel
theorem dX7_silent_2 : decode cX7_silent 2 = .ok (.putfield 7, 3) := by decide +kernel
theorem dX7_silent_5 : decode cX7_silent 5 = .ok (.iconst 0, 1) := by decide +kernel
theorem dX7_silent_6 : decode cX7_silent 6 = .ok (.istore_n 1, 1) := by decide +kernel
theorem dX7_silent_7 : decode cX7_silent 7 = .ok (.iload_n 1, 1) := by decide +kernel
theorem dX7_silent_8 : decode cX7_silent 8 = .ok (.aload_n 0, 1) := by decide +kernel
theorem dX7_silent_9 : decode cX7_silent 9 = .ok (.getfield 55, 3) := by decide +kernel
theorem dX7_silent_12 : decode cX7_silent 12 = .ok (.if_icmp .ge 42, 3) := by decide +kernel
theorem dX7_silent_15 : decode cX7_silent 15 = .ok (.iconst 0, 1) := by decide +kernel
theorem dX7_silent_16 : decode cX7_silent 16 = .ok (.istore_n 2, 1) := by decide +kernel
theorem dX7_silent_17 : decode cX7_silent 17 = .ok (.iload_n 2, 1) := by decide +kernel
theorem dX7_silent_18 : decode cX7_silent 18 = .ok (.aload_n 0, 1) := by decide +kernel
theorem dX7_silent_19 : decode cX7_silent 19 = .ok (.getfield 55, 3) := by decide +kernel
theorem dX7_silent_22 : decode cX7_silent 22 = .ok (.if_icmp .ge 26, 3) := by decide +kernel
theorem dX7_silent_25 : decode cX7_silent 25 = .ok (.iload_n 1, 1) := by decide +kernel
theorem dX7_silent_26 : decode cX7_silent 26 = .ok (.iload_n 2, 1) := by decide +kernel
theorem dX7_silent_27 : decode cX7_silent 27 = .ok (.if_icmp .eq 15, 3) := by decide +kernel
theorem dX7_silent_30 : decode cX7_silent 30 = .ok (.aload_n 0, 1) := by decide +kernel
theorem dX7_silent_31 : decode cX7_silent 31 = .ok (.iload_n 1, 1) := by decide +kernel
theorem dX7_silent_32 : decode cX7_silent 32 = .ok (.iload_n 2, 1) := by decide +kernel
theorem dX7_silent_33 : decode cX7_silent 33 = .ok (.iconst 0, 1) := by decide +kernel
theorem dX7_silent_34 : decode cX7_silent 34 = .ok (.invokevirtual 153, 3) := by decide +kernel
theorem dX7_silent_37 : decode cX7_silent 37 = .ok (.ifCond .eq 5, 3) := by decide +kernel
theorem dX7_silent_40 : decode cX7_silent 40 = .ok (.iconst 0, 1) := by decide +kernel
theorem dX7_silent_41 : decode cX7_silent 41 = .ok (.ireturn, 1) := by decide +kernel
theorem dX7_silent_42 : decode cX7_silent 42 = .ok (.iinc 2 1, 3) := by decide +kernel
theorem dX7_silent_45 : decode cX7_silent 45 = .ok (.goto (-28), 3) := by decide +kernel
theorem dX7_silent_48 : decode cX7_silent 48 = .ok (.iinc 1 1, 3) := by decide +kernel
theorem dX7_silent_51 : decode cX7_silent 51 = .ok (.goto (-44), 3) := by decide +kernel
theorem dX7_silent_54 : decode cX7_silent 54 = .ok (.iconst 1, 1) := by decide +kernel
theorem dX7_silent_55 : decode cX7_silent 55 = .ok (.ireturn, 1) := by decide +kernel
theorem dX7_agree_0 : decode cX7_agree 0 = .ok (.aload_n 0, 1) := by decide +kernel
theorem dX7_agree_1 : decode cX7_agree 1 = .ok (.iconst 0, 1) := by decide +kernel
theorem dX7_agree_2 : decode cX7_agree 2 = .ok (.putfield 7, 3) := by decide +kernel
theorem dX7_agree_5 : decode cX7_agree 5 = .ok (.iconst 1, 1) := by decide +kernel
theorem dX7_agree_6 : decode cX7_agree 6 = .ok (.istore_n 1, 1) := by decide +kernel
theorem dX7_agree_7 : decode cX7_agree 7 = .ok (.iload_n 1, 1) := by decide +kernel
theorem dX7_agree_8 : decode cX7_agree 8 = .ok (.aload_n 0, 1) := by decide +kernel
theorem dX7_agree_9 : decode cX7_agree 9 = .ok (.getfield 55, 3) := by decide +kernel
theorem dX7_agree_12 : decode cX7_agree 12 = .ok (.if_icmp .ge 24, 3) := by decide +kernel
theorem dX7_agree_15 : decode cX7_agree 15 = .ok (.aload_n 0, 1) := by decide +kernel
theorem dX7_agree_16 : decode cX7_agree 16 = .ok (.iload_n 1, 1) := by decide +kernel
theorem dX7_agree_17 : decode cX7_agree 17 = .ok (.invokevirtual 157, 3) := by decide +kernel
theorem dX7_agree_20 : decode cX7_agree 20 = .ok (.aload_n 0, 1) := by decide +kernel
theorem dX7_agree_21 : decode cX7_agree 21 = .ok (.iconst 0, 1) := by decide +kernel
theorem dX7_agree_22 : decode cX7_agree 22 = .ok (.invokevirtual 157, 3) := by decide +kernel
theorem dX7_agree_25 : decode cX7_agree 25 = .ok (.if_icmp .eq 5, 3) := by decide +kernel
theorem dX7_agree_28 : decode cX7_agree 28 = .ok (.iconst 0, 1) := by decide +kernel
theorem dX7_agree_29 : decode cX7_agree 29 = .ok (.ireturn, 1) := by decide +kernel
theorem dX7_agree_30 : decode cX7_agree 30 = .ok (.iinc 1 1, 3) := by decide +kernel
theorem dX7_agree_33 : decode cX7_agree 33 = .ok (.goto (-26), 3) := by decide +kernel
theorem dX7_agree_36 : decode cX7_agree 36 = .ok (.iconst 1, 1) := by decide +kernel
theorem dX7_agree_37 : decode cX7_agree 37 = .ok (.ireturn, 1) := by decide +kernel
theorem dX7_explore_0 : decode cX7_explore 0 = .ok (.aload_n 0, 1) := by decide +kernel
theorem dX7_explore_1 : decode cX7_explore 1 = .ok (.iload_n 1, 1) := by decide +kernel
theorem dX7_explore_2 : decode cX7_explore 2 = .ok (.iconst 1, 1) := by decide +kernel
theorem dX7_explore_3 : decode cX7_explore 3 = .ok (.if_icmp .lt 10, 3) := by decide +kernel
theorem dX7_explore_6 : decode cX7_explore 6 = .ok (.iload_n 1, 1) := by decide +kernel
theorem dX7_explore_7 : decode cX7_explore 7 = .ok (.sipush 3000, 3) := by decide +kernel
theorem dX7_explore_10 : decode cX7_explore 10 = .ok (.if_icmp .le 7, 3) := by decide +kernel
theorem dX7_explore_13 : decode cX7_explore 13 = .ok (.iconst 1, 1) := by decide +kernel
theorem dX7_explore_14 : decode cX7_explore 14 = .ok (.goto 24, 3) := by decide +kernel
theorem dX7_explore_17 : decode cX7_explore 17 = .ok (.aload_n 0, 1) := by decide +kernel
theorem dX7_explore_18 : decode cX7_explore 18 = .ok (.getfield 55, 3) := by decide +kernel
theorem dX7_explore_21 : decode cX7_explore 21 = .ok (.ifCond .eq 12, 3) := by decide +kernel
theorem dX7_explore_24 : decode cX7_explore 24 = .ok (.aload_n 0, 1) := by decide +kernel
theorem dX7_explore_25 : decode cX7_explore 25 = .ok (.getfield 55, 3) := by decide +kernel
theorem dX7_explore_28 : decode cX7_explore 28 = .ok (.bipush 6, 2) := by decide +kernel
theorem dX7_explore_30 : decode cX7_explore 30 = .ok (.if_icmp .le 7, 3) := by decide +kernel
theorem dX7_explore_33 : decode cX7_explore 33 = .ok (.iconst 2, 1) := by decide +kernel
theorem dX7_explore_34 : decode cX7_explore 34 = .ok (.goto 4, 3) := by decide +kernel
theorem dX7_explore_37 : decode cX7_explore 37 = .ok (.iconst 0, 1) := by decide +kernel
theorem dX7_explore_38 : decode cX7_explore 38 = .ok (.putfield 7, 3) := by decide +kernel
theorem dX7_explore_41 : decode cX7_explore 41 = .ok (.aload_n 0, 1) := by decide +kernel
theorem dX7_explore_42 : decode cX7_explore 42 = .ok (.getfield 7, 3) := by decide +kernel
theorem dX7_explore_45 : decode cX7_explore 45 = .ok (.ifCond .eq 5, 3) := by decide +kernel
theorem dX7_explore_48 : decode cX7_explore 48 = .ok (.iconst 0, 1) := by decide +kernel
theorem dX7_explore_49 : decode cX7_explore 49 = .ok (.ireturn, 1) := by decide +kernel
theorem dX7_explore_50 : decode cX7_explore 50 = .ok (.iconst 0, 1) := by decide +kernel
theorem dX7_explore_51 : decode cX7_explore 51 = .ok (.istore_n 2, 1) := by decide +kernel
theorem dX7_explore_52 : decode cX7_explore 52 = .ok (.iload_n 2, 1) := by decide +kernel
theorem dX7_explore_53 : decode cX7_explore 53 = .ok (.sipush 8192, 3) := by decide +kernel
theorem dX7_explore_56 : decode cX7_explore 56 = .ok (.if_icmp .ge 16, 3) := by decide +kernel
theorem dX7_explore_59 : decode cX7_explore 59 = .ok (.aload_n 0, 1) := by decide +kernel
theorem dX7_explore_60 : decode cX7_explore 60 = .ok (.getfield 77, 3) := by decide +kernel
theorem dX7_explore_63 : decode cX7_explore 63 = .ok (.iload_n 2, 1) := by decide +kernel
theorem dX7_explore_64 : decode cX7_explore 64 = .ok (.iconst 0, 1) := by decide +kernel
theorem dX7_explore_65 : decode cX7_explore 65 = .ok (.iastore, 1) := by decide +kernel
theorem dX7_explore_66 : decode cX7_explore 66 = .ok (.iinc 2 1, 3) := by decide +kernel
theorem dX7_explore_69 : decode cX7_explore 69 = .ok (.goto (-17), 3) := by decide +kernel
theorem dX7_explore_72 : decode cX7_explore 72 = .ok (.aload_n 0, 1) := by decide +kernel
theorem dX7_explore_73 : decode cX7_explore 73 = .ok (.iconst 0, 1) := by decide +kernel
theorem dX7_explore_74 : decode cX7_explore 74 = .ok (.putfield 70, 3) := by decide +kernel
theorem dX7_explore_77 : decode cX7_explore 77 = .ok (.aload_n 0, 1) := by decide +kernel
theorem dX7_explore_78 : decode cX7_explore 78 = .ok (.iconst 0, 1) := by decide +kernel
theorem dX7_explore_79 : decode cX7_explore 79 = .ok (.putfield 83, 3) := by decide +kernel
theorem dX7_explore_82 : decode cX7_explore 82 = .ok (.iconst 0, 1) := by decide +kernel
theorem dX7_explore_83 : decode cX7_explore 83 = .ok (.istore_n 2, 1) := by decide +kernel
theorem dX7_explore_84 : decode cX7_explore 84 = .ok (.iload_n 2, 1) := by decide +kernel
theorem dX7_explore_85 : decode cX7_explore 85 = .ok (.aload_n 0, 1) := by decide +kernel
theorem dX7_explore_86 : decode cX7_explore 86 = .ok (.getfield 55, 3) := by decide +kernel
theorem dX7_explore_89 : decode cX7_explore 89 = .ok (.if_icmp .ge 61, 3) := by decide +kernel
theorem dX7_explore_92 : decode cX7_explore 92 = .ok (.aload_n 0, 1) := by decide +kernel
theorem dX7_explore_93 : decode cX7_explore 93 = .ok (.getfield 86, 3) := by decide +kernel
theorem dX7_explore_96 : decode cX7_explore 96 = .ok (.iload_n 2, 1) := by decide +kernel
theorem dX7_explore_97 : decode cX7_explore 97 = .ok (.lconst 0, 1) := by decide +kernel
theorem dX7_explore_98 : decode cX7_explore 98 = .ok (.lastore, 1) := by decide +kernel
theorem dX7_explore_99 : decode cX7_explore 99 = .ok (.iconst 0, 1) := by decide +kernel
theorem dX7_explore_100 : decode cX7_explore 100 = .ok (.istore_n 3, 1) := by decide +kernel
theorem dX7_explore_101 : decode cX7_explore 101 = .ok (.iload_n 3, 1) := by decide +kernel
theorem dX7_explore_102 : decode cX7_explore 102 = .ok (.aload_n 0, 1) := by decide +kernel
theorem dX7_explore_103 : decode cX7_explore 103 = .ok (.getfield 33, 3) := by decide +kernel
theorem dX7_explore_106 : decode cX7_explore 106 = .ok (.if_icmp .ge 38, 3) := by decide +kernel
theorem dX7_explore_109 : decode cX7_explore 109 = .ok (.aload_n 0, 1) := by decide +kernel
theorem dX7_explore_110 : decode cX7_explore 110 = .ok (.getfield 86, 3) := by decide +kernel
theorem dX7_explore_113 : decode cX7_explore 113 = .ok (.iload_n 2, 1) := by decide +kernel
theorem dX7_explore_114 : decode cX7_explore 114 = .ok (.aload_n 0, 1) := by decide +kernel
theorem dX7_explore_115 : decode cX7_explore 115 = .ok (.getfield 86, 3) := by decide +kernel
theorem dX7_explore_118 : decode cX7_explore 118 = .ok (.iload_n 2, 1) := by decide +kernel
theorem dX7_explore_119 : decode cX7_explore 119 = .ok (.laload, 1) := by decide +kernel
theorem dX7_explore_120 : decode cX7_explore 120 = .ok (.aload_n 0, 1) := by decide +kernel
theorem dX7_explore_121 : decode cX7_explore 121 = .ok (.getfield 58, 3) := by decide +kernel
theorem dX7_explore_124 : decode cX7_explore 124 = .ok (.iconst 5, 1) := by decide +kernel
theorem dX7_explore_125 : decode cX7_explore 125 = .ok (.iload_n 2, 1) := by decide +kernel
theorem dX7_explore_126 : decode cX7_explore 126 = .ok (.imul, 1) := by decide +kernel
theorem dX7_explore_127 : decode cX7_explore 127 = .ok (.iload_n 3, 1) := by decide +kernel
theorem dX7_explore_128 : decode cX7_explore 128 = .ok (.iadd, 1) := by decide +kernel
theorem dX7_explore_129 : decode cX7_explore 129 = .ok (.iaload, 1) := by decide +kernel
theorem dX7_explore_130 : decode cX7_explore 130 = .ok (.i2l, 1) := by decide +kernel
theorem dX7_explore_131 : decode cX7_explore 131 = .ok (.bipush 8, 2) := by decide +kernel
theorem dX7_explore_133 : decode cX7_explore 133 = .ok (.iload_n 3, 1) := by decide +kernel
theorem dX7_explore_134 : decode cX7_explore 134 = .ok (.imul, 1) := by decide +kernel
theorem dX7_explore_135 : decode cX7_explore 135 = .ok (.lshl, 1) := by decide +kernel
theorem dX7_explore_136 : decode cX7_explore 136 = .ok (.lor, 1) := by decide +kernel
theorem dX7_explore_137 : decode cX7_explore 137 = .ok (.lastore, 1) := by decide +kernel
theorem dX7_explore_138 : decode cX7_explore 138 = .ok (.iinc 3 1, 3) := by decide +kernel
theorem dX7_explore_141 : decode cX7_explore 141 = .ok (.goto (-40), 3) := by decide +kernel
theorem dX7_explore_144 : decode cX7_explore 144 = .ok (.iinc 2 1, 3) := by decide +kernel
theorem dX7_explore_147 : decode cX7_explore 147 = .ok (.goto (-63), 3) := by decide +kernel
theorem dX7_explore_150 : decode cX7_explore 150 = .ok (.aload_n 0, 1) := by decide +kernel
theorem dX7_explore_151 : decode cX7_explore 151 = .ok (.invokevirtual 125, 3) := by decide +kernel
theorem dX7_explore_154 : decode cX7_explore 154 = .ok (.aload_n 0, 1) := by decide +kernel
theorem dX7_explore_155 : decode cX7_explore 155 = .ok (.iconst 1, 1) := by decide +kernel
theorem dX7_explore_156 : decode cX7_explore 156 = .ok (.invokevirtual 128, 3) := by decide +kernel
theorem dX7_explore_159 : decode cX7_explore 159 = .ok (.pop, 1) := by decide +kernel
theorem dX7_explore_160 : decode cX7_explore 160 = .ok (.iconst 0, 1) := by decide +kernel
theorem dX7_explore_161 : decode cX7_explore 161 = .ok (.istore_n 2, 1) := by decide +kernel
theorem dX7_explore_162 : decode cX7_explore 162 = .ok (.iload_n 2, 1) := by decide +kernel
theorem dX7_explore_163 : decode cX7_explore 163 = .ok (.aload_n 0, 1) := by decide +kernel
theorem dX7_explore_164 : decode cX7_explore 164 = .ok (.getfield 70, 3) := by decide +kernel
theorem dX7_explore_167 : decode cX7_explore 167 = .ok (.if_icmp .ge 80, 3) := by decide +kernel
theorem dX7_explore_170 : decode cX7_explore 170 = .ok (.iconst 0, 1) := by decide +kernel
theorem dX7_explore_171 : decode cX7_explore 171 = .ok (.istore_n 3, 1) := by decide +kernel
theorem dX7_explore_172 : decode cX7_explore 172 = .ok (.iload_n 3, 1) := by decide +kernel
theorem dX7_explore_173 : decode cX7_explore 173 = .ok (.aload_n 0, 1) := by decide +kernel
theorem dX7_explore_174 : decode cX7_explore 174 = .ok (.getfield 55, 3) := by decide +kernel
theorem dX7_explore_177 : decode cX7_explore 177 = .ok (.if_icmp .ge 64, 3) := by decide +kernel
theorem dX7_explore_180 : decode cX7_explore 180 = .ok (.iconst 0, 1) := by decide +kernel
theorem dX7_explore_181 : decode cX7_explore 181 = .ok (.istore 4, 2) := by decide +kernel
theorem dX7_explore_183 : decode cX7_explore 183 = .ok (.iload 4, 2) := by decide +kernel
theorem dX7_explore_185 : decode cX7_explore 185 = .ok (.aload_n 0, 1) := by decide +kernel
theorem dX7_explore_186 : decode cX7_explore 186 = .ok (.getfield 55, 3) := by decide +kernel
theorem dX7_explore_189 : decode cX7_explore 189 = .ok (.if_icmp .ge 46, 3) := by decide +kernel
theorem dX7_explore_192 : decode cX7_explore 192 = .ok (.iload_n 3, 1) := by decide +kernel
theorem dX7_explore_193 : decode cX7_explore 193 = .ok (.iload 4, 2) := by decide +kernel
theorem dX7_explore_195 : decode cX7_explore 195 = .ok (.if_icmp .eq 34, 3) := by decide +kernel
theorem dX7_explore_198 : decode cX7_explore 198 = .ok (.aload_n 0, 1) := by decide +kernel
theorem dX7_explore_199 : decode cX7_explore 199 = .ok (.iload_n 2, 1) := by decide +kernel
theorem dX7_explore_200 : decode cX7_explore 200 = .ok (.iload_n 3, 1) := by decide +kernel
theorem dX7_explore_201 : decode cX7_explore 201 = .ok (.iload 4, 2) := by decide +kernel
theorem dX7_explore_203 : decode cX7_explore 203 = .ok (.invokevirtual 121, 3) := by decide +kernel
theorem dX7_explore_206 : decode cX7_explore 206 = .ok (.ifCond .eq 23, 3) := by decide +kernel
theorem dX7_explore_209 : decode cX7_explore 209 = .ok (.aload_n 0, 1) := by decide +kernel
theorem dX7_explore_210 : decode cX7_explore 210 = .ok (.invokevirtual 125, 3) := by decide +kernel
theorem dX7_explore_213 : decode cX7_explore 213 = .ok (.aload_n 0, 1) := by decide +kernel
theorem dX7_explore_214 : decode cX7_explore 214 = .ok (.iconst 1, 1) := by decide +kernel
theorem dX7_explore_215 : decode cX7_explore 215 = .ok (.invokevirtual 128, 3) := by decide +kernel
theorem dX7_explore_218 : decode cX7_explore 218 = .ok (.pop, 1) := by decide +kernel
theorem dX7_explore_219 : decode cX7_explore 219 = .ok (.aload_n 0, 1) := by decide +kernel
theorem dX7_explore_220 : decode cX7_explore 220 = .ok (.getfield 70, 3) := by decide +kernel
theorem dX7_explore_223 : decode cX7_explore 223 = .ok (.iload_n 1, 1) := by decide +kernel
theorem dX7_explore_224 : decode cX7_explore 224 = .ok (.if_icmp .le 5, 3) := by decide +kernel
theorem dX7_explore_227 : decode cX7_explore 227 = .ok (.iconst (-1), 1) := by decide +kernel
theorem dX7_explore_228 : decode cX7_explore 228 = .ok (.ireturn, 1) := by decide +kernel
theorem dX7_explore_229 : decode cX7_explore 229 = .ok (.iinc 4 1, 3) := by decide +kernel
theorem dX7_explore_232 : decode cX7_explore 232 = .ok (.goto (-49), 3) := by decide +kernel
theorem dX7_explore_235 : decode cX7_explore 235 = .ok (.iinc 3 1, 3) := by decide +kernel
theorem dX7_explore_238 : decode cX7_explore 238 = .ok (.goto (-66), 3) := by decide +kernel
theorem dX7_explore_241 : decode cX7_explore 241 = .ok (.iinc 2 1, 3) := by decide +kernel
theorem dX7_explore_244 : decode cX7_explore 244 = .ok (.goto (-82), 3) := by decide +kernel
theorem dX7_explore_247 : decode cX7_explore 247 = .ok (.aload_n 0, 1) := by decide +kernel
theorem dX7_explore_248 : decode cX7_explore 248 = .ok (.iconst 1, 1) := by decide +kernel
theorem dX7_explore_249 : decode cX7_explore 249 = .ok (.putfield 83, 3) := by decide +kernel
theorem dX7_explore_252 : decode cX7_explore 252 = .ok (.aload_n 0, 1) := by decide +kernel
theorem dX7_explore_253 : decode cX7_explore 253 = .ok (.getfield 70, 3) := by decide +kernel
theorem dX7_explore_256 : decode cX7_explore 256 = .ok (.ireturn, 1) := by decide +kernel
theorem dX7_recovers_0 : decode cX7_recovers 0 = .ok (.aload_n 0, 1) := by decide +kernel
theorem dX7_recovers_1 : decode cX7_recovers 1 = .ok (.aload_n 0, 1) := by decide +kernel
theorem dX7_recovers_2 : decode cX7_recovers 2 = .ok (.getfield 83, 3) := by decide +kernel
theorem dX7_recovers_5 : decode cX7_recovers 5 = .ok (.ifCond .eq 7, 3) := by decide +kernel
theorem dX7_recovers_8 : decode cX7_recovers 8 = .ok (.iconst 0, 1) := by decide +kernel
theorem dX7_recovers_9 : decode cX7_recovers 9 = .ok (.goto 4, 3) := by decide +kernel
theorem dX7_recovers_12 : decode cX7_recovers 12 = .ok (.iconst 1, 1) := by decide +kernel
theorem dX7_recovers_13 : decode cX7_recovers 13 = .ok (.putfield 7, 3) := by decide +kernel
theorem dX7_recovers_16 : decode cX7_recovers 16 = .ok (.aload_n 0, 1) := by decide +kernel
theorem dX7_recovers_17 : decode cX7_recovers 17 = .ok (.getfield 7, 3) := by decide +kernel
theorem dX7_recovers_20 : decode cX7_recovers 20 = .ok (.ifCond .eq 5, 3) := by decide +kernel
theorem dX7_recovers_23 : decode cX7_recovers 23 = .ok (.iconst 0, 1) := by decide +kernel
theorem dX7_recovers_24 : decode cX7_recovers 24 = .ok (.ireturn, 1) := by decide +kernel
theorem dX7_recovers_25 : decode cX7_recovers 25 = .ok (.aload_n 0, 1) := by decide +kernel
theorem dX7_recovers_26 : decode cX7_recovers 26 = .ok (.invokevirtual 163, 3) := by decide +kernel
theorem dX7_recovers_29 : decode cX7_recovers 29 = .ok (.istore_n 1, 1) := by decide +kernel
theorem dX7_recovers_30 : decode cX7_recovers 30 = .ok (.iconst 0, 1) := by decide +kernel
theorem dX7_recovers_31 : decode cX7_recovers 31 = .ok (.istore_n 2, 1) := by decide +kernel
theorem dX7_recovers_32 : decode cX7_recovers 32 = .ok (.iload_n 2, 1) := by decide +kernel
theorem dX7_recovers_33 : decode cX7_recovers 33 = .ok (.aload_n 0, 1) := by decide +kernel
theorem dX7_recovers_34 : decode cX7_recovers 34 = .ok (.getfield 70, 3) := by decide +kernel
theorem dX7_recovers_37 : decode cX7_recovers 37 = .ok (.if_icmp .ge 37, 3) := by decide +kernel
theorem dX7_recovers_40 : decode cX7_recovers 40 = .ok (.aload_n 0, 1) := by decide +kernel
theorem dX7_recovers_41 : decode cX7_recovers 41 = .ok (.getfield 80, 3) := by decide +kernel
theorem dX7_recovers_44 : decode cX7_recovers 44 = .ok (.iload_n 2, 1) := by decide +kernel
theorem dX7_recovers_45 : decode cX7_recovers 45 = .ok (.aload_n 0, 1) := by decide +kernel
theorem dX7_recovers_46 : decode cX7_recovers 46 = .ok (.iload_n 2, 1) := by decide +kernel
theorem dX7_recovers_47 : decode cX7_recovers 47 = .ok (.invokevirtual 166, 3) := by decide +kernel
theorem dX7_recovers_50 : decode cX7_recovers 50 = .ok (.ifCond .eq 16, 3) := by decide +kernel
theorem dX7_recovers_53 : decode cX7_recovers 53 = .ok (.aload_n 0, 1) := by decide +kernel
theorem dX7_recovers_54 : decode cX7_recovers 54 = .ok (.iload_n 2, 1) := by decide +kernel
theorem dX7_recovers_55 : decode cX7_recovers 55 = .ok (.iload_n 1, 1) := by decide +kernel
theorem dX7_recovers_56 : decode cX7_recovers 56 = .ok (.invokevirtual 169, 3) := by decide +kernel
theorem dX7_recovers_59 : decode cX7_recovers 59 = .ok (.ifCond .eq 7, 3) := by decide +kernel
theorem dX7_recovers_62 : decode cX7_recovers 62 = .ok (.iconst 1, 1) := by decide +kernel
theorem dX7_recovers_63 : decode cX7_recovers 63 = .ok (.goto 4, 3) := by decide +kernel
theorem dX7_recovers_66 : decode cX7_recovers 66 = .ok (.iconst 0, 1) := by decide +kernel
theorem dX7_recovers_67 : decode cX7_recovers 67 = .ok (.bastore, 1) := by decide +kernel
theorem dX7_recovers_68 : decode cX7_recovers 68 = .ok (.iinc 2 1, 3) := by decide +kernel
theorem dX7_recovers_71 : decode cX7_recovers 71 = .ok (.goto (-39), 3) := by decide +kernel
theorem dX7_recovers_74 : decode cX7_recovers 74 = .ok (.iconst 1, 1) := by decide +kernel
theorem dX7_recovers_75 : decode cX7_recovers 75 = .ok (.istore_n 2, 1) := by decide +kernel
theorem dX7_recovers_76 : decode cX7_recovers 76 = .ok (.iload_n 2, 1) := by decide +kernel
theorem dX7_recovers_77 : decode cX7_recovers 77 = .ok (.ifCond .eq 51, 3) := by decide +kernel
theorem dX7_recovers_80 : decode cX7_recovers 80 = .ok (.iconst 0, 1) := by decide +kernel
theorem dX7_recovers_81 : decode cX7_recovers 81 = .ok (.istore_n 2, 1) := by decide +kernel
theorem dX7_recovers_82 : decode cX7_recovers 82 = .ok (.aload_n 0, 1) := by decide +kernel
theorem dX7_recovers_83 : decode cX7_recovers 83 = .ok (.getfield 70, 3) := by decide +kernel
theorem dX7_recovers_86 : decode cX7_recovers 86 = .ok (.iconst 1, 1) := by decide +kernel
theorem dX7_recovers_87 : decode cX7_recovers 87 = .ok (.isub, 1) := by decide +kernel
theorem dX7_recovers_88 : decode cX7_recovers 88 = .ok (.istore_n 3, 1) := by decide +kernel
theorem dX7_recovers_89 : decode cX7_recovers 89 = .ok (.iload_n 3, 1) := by decide +kernel
theorem dX7_recovers_90 : decode cX7_recovers 90 = .ok (.ifCond .lt 35, 3) := by decide +kernel
theorem dX7_recovers_93 : decode cX7_recovers 93 = .ok (.aload_n 0, 1) := by decide +kernel
theorem dX7_recovers_94 : decode cX7_recovers 94 = .ok (.getfield 80, 3) := by decide +kernel
theorem dX7_recovers_97 : decode cX7_recovers 97 = .ok (.iload_n 3, 1) := by decide +kernel
theorem dX7_recovers_98 : decode cX7_recovers 98 = .ok (.baload, 1) := by decide +kernel
theorem dX7_recovers_99 : decode cX7_recovers 99 = .ok (.ifCond .ne 20, 3) := by decide +kernel
theorem dX7_recovers_102 : decode cX7_recovers 102 = .ok (.aload_n 0, 1) := by decide +kernel
theorem dX7_recovers_103 : decode cX7_recovers 103 = .ok (.iload_n 3, 1) := by decide +kernel
theorem dX7_recovers_104 : decode cX7_recovers 104 = .ok (.invokevirtual 173, 3) := by decide +kernel
theorem dX7_recovers_107 : decode cX7_recovers 107 = .ok (.ifCond .eq 12, 3) := by decide +kernel
theorem dX7_recovers_110 : decode cX7_recovers 110 = .ok (.aload_n 0, 1) := by decide +kernel
theorem dX7_recovers_111 : decode cX7_recovers 111 = .ok (.getfield 80, 3) := by decide +kernel
theorem dX7_recovers_114 : decode cX7_recovers 114 = .ok (.iload_n 3, 1) := by decide +kernel
theorem dX7_recovers_115 : decode cX7_recovers 115 = .ok (.iconst 1, 1) := by decide +kernel
theorem dX7_recovers_116 : decode cX7_recovers 116 = .ok (.bastore, 1) := by decide +kernel
theorem dX7_recovers_117 : decode cX7_recovers 117 = .ok (.iconst 1, 1) := by decide +kernel
theorem dX7_recovers_118 : decode cX7_recovers 118 = .ok (.istore_n 2, 1) := by decide +kernel
theorem dX7_recovers_119 : decode cX7_recovers 119 = .ok (.iinc 3 (-1), 3) := by decide +kernel
theorem dX7_recovers_122 : decode cX7_recovers 122 = .ok (.goto (-33), 3) := by decide +kernel
theorem dX7_recovers_125 : decode cX7_recovers 125 = .ok (.goto (-49), 3) := by decide +kernel
theorem dX7_recovers_128 : decode cX7_recovers 128 = .ok (.iconst 0, 1) := by decide +kernel
theorem dX7_recovers_129 : decode cX7_recovers 129 = .ok (.istore_n 3, 1) := by decide +kernel
theorem dX7_recovers_130 : decode cX7_recovers 130 = .ok (.iload_n 3, 1) := by decide +kernel
theorem dX7_recovers_131 : decode cX7_recovers 131 = .ok (.aload_n 0, 1) := by decide +kernel
theorem dX7_recovers_132 : decode cX7_recovers 132 = .ok (.getfield 70, 3) := by decide +kernel
theorem dX7_recovers_135 : decode cX7_recovers 135 = .ok (.if_icmp .ge 20, 3) := by decide +kernel
theorem dX7_recovers_138 : decode cX7_recovers 138 = .ok (.aload_n 0, 1) := by decide +kernel
theorem dX7_recovers_139 : decode cX7_recovers 139 = .ok (.getfield 80, 3) := by decide +kernel
theorem dX7_recovers_142 : decode cX7_recovers 142 = .ok (.iload_n 3, 1) := by decide +kernel
theorem dX7_recovers_143 : decode cX7_recovers 143 = .ok (.baload, 1) := by decide +kernel
theorem dX7_recovers_144 : decode cX7_recovers 144 = .ok (.ifCond .ne 5, 3) := by decide +kernel
theorem dX7_recovers_147 : decode cX7_recovers 147 = .ok (.iconst 0, 1) := by decide +kernel
theorem dX7_recovers_148 : decode cX7_recovers 148 = .ok (.ireturn, 1) := by decide +kernel
theorem dX7_recovers_149 : decode cX7_recovers 149 = .ok (.iinc 3 1, 3) := by decide +kernel
theorem dX7_recovers_152 : decode cX7_recovers 152 = .ok (.goto (-22), 3) := by decide +kernel
theorem dX7_recovers_155 : decode cX7_recovers 155 = .ok (.iconst 1, 1) := by decide +kernel
theorem dX7_recovers_156 : decode cX7_recovers 156 = .ok (.ireturn, 1) := by decide +kernel
theorem dX7_tableFault_0 : decode cX7_tableFault 0 = .ok (.iload_n 1, 1) := by decide +kernel
theorem dX7_tableFault_1 : decode cX7_tableFault 1 = .ok (.ifCond .lt 20, 3) := by decide +kernel
theorem dX7_tableFault_4 : decode cX7_tableFault 4 = .ok (.iload_n 1, 1) := by decide +kernel
theorem dX7_tableFault_5 : decode cX7_tableFault 5 = .ok (.aload_n 0, 1) := by decide +kernel
theorem dX7_tableFault_6 : decode cX7_tableFault 6 = .ok (.getfield 33, 3) := by decide +kernel
theorem dX7_tableFault_9 : decode cX7_tableFault 9 = .ok (.if_icmp .ge 12, 3) := by decide +kernel
theorem dX7_tableFault_12 : decode cX7_tableFault 12 = .ok (.iload_n 2, 1) := by decide +kernel
theorem dX7_tableFault_13 : decode cX7_tableFault 13 = .ok (.ifCond .lt 8, 3) := by decide +kernel
theorem dX7_tableFault_16 : decode cX7_tableFault 16 = .ok (.iload_n 2, 1) := by decide +kernel
theorem dX7_tableFault_17 : decode cX7_tableFault 17 = .ok (.iload_n 3, 1) := by decide +kernel
theorem dX7_tableFault_18 : decode cX7_tableFault 18 = .ok (.if_icmp .le 7, 3) := by decide +kernel
theorem dX7_tableFault_21 : decode cX7_tableFault 21 = .ok (.iconst 1, 1) := by decide +kernel
theorem dX7_tableFault_22 : decode cX7_tableFault 22 = .ok (.goto 15, 3) := by decide +kernel
theorem dX7_tableFault_25 : decode cX7_tableFault 25 = .ok (.aload_n 0, 1) := by decide +kernel
theorem dX7_tableFault_26 : decode cX7_tableFault 26 = .ok (.getfield 48, 3) := by decide +kernel
theorem dX7_tableFault_29 : decode cX7_tableFault 29 = .ok (.ifCond .ne 7, 3) := by decide +kernel
theorem dX7_tableFault_32 : decode cX7_tableFault 32 = .ok (.iconst 2, 1) := by decide +kernel
theorem dX7_tableFault_33 : decode cX7_tableFault 33 = .ok (.goto 4, 3) := by decide +kernel
theorem dX7_tableFault_36 : decode cX7_tableFault 36 = .ok (.iconst 0, 1) := by decide +kernel
theorem dX7_tableFault_37 : decode cX7_tableFault 37 = .ok (.ireturn, 1) := by decide +kernel
theorem dX7_table_0 : decode cX7_table 0 = .ok (.aload_n 0, 1) := by decide +kernel
theorem dX7_table_1 : decode cX7_table 1 = .ok (.aload_n 0, 1) := by decide +kernel
theorem dX7_table_2 : decode cX7_table 2 = .ok (.iload_n 1, 1) := by decide +kernel
theorem dX7_table_3 : decode cX7_table 3 = .ok (.iload_n 2, 1) := by decide +kernel
theorem dX7_table_4 : decode cX7_table 4 = .ok (.iconst 1, 1) := by decide +kernel
theorem dX7_table_5 : decode cX7_table 5 = .ok (.invokevirtual 176, 3) := by decide +kernel
theorem dX7_table_8 : decode cX7_table 8 = .ok (.putfield 7, 3) := by decide +kernel
theorem dX7_table_11 : decode cX7_table 11 = .ok (.aload_n 0, 1) := by decide +kernel
theorem dX7_table_12 : decode cX7_table 12 = .ok (.getfield 7, 3) := by decide +kernel
theorem dX7_table_15 : decode cX7_table 15 = .ok (.ifCond .eq 5, 3) := by decide +kernel
theorem dX7_table_18 : decode cX7_table 18 = .ok (.iconst 0, 1) := by decide +kernel
theorem dX7_table_19 : decode cX7_table 19 = .ok (.ireturn, 1) := by decide +kernel
theorem dX7_table_20 : decode cX7_table 20 = .ok (.iload_n 2, 1) := by decide +kernel
theorem dX7_table_21 : decode cX7_table 21 = .ok (.ifCond .ne 11, 3) := by decide +kernel
theorem dX7_table_24 : decode cX7_table 24 = .ok (.aload_n 0, 1) := by decide +kernel
theorem dX7_table_25 : decode cX7_table 25 = .ok (.iload_n 1, 1) := by decide +kernel
theorem dX7_table_26 : decode cX7_table 26 = .ok (.invokevirtual 146, 3) := by decide +kernel
theorem dX7_table_29 : decode cX7_table 29 = .ok (.goto 13, 3) := by decide +kernel
theorem dX7_table_32 : decode cX7_table 32 = .ok (.aload_n 0, 1) := by decide +kernel
theorem dX7_table_33 : decode cX7_table 33 = .ok (.iload_n 1, 1) := by decide +kernel
theorem dX7_table_34 : decode cX7_table 34 = .ok (.iconst (-1), 1) := by decide +kernel
theorem dX7_table_35 : decode cX7_table 35 = .ok (.invokevirtual 179, 3) := by decide +kernel
theorem dX7_table_38 : decode cX7_table 38 = .ok (.sipush 30000, 3) := by decide +kernel
theorem dX7_table_41 : decode cX7_table 41 = .ok (.iadd, 1) := by decide +kernel
theorem dX7_table_42 : decode cX7_table 42 = .ok (.ireturn, 1) := by decide +kernel
theorem dX7_rule_0 : decode cX7_rule 0 = .ok (.aload_n 0, 1) := by decide +kernel
theorem dX7_rule_1 : decode cX7_rule 1 = .ok (.aload_n 0, 1) := by decide +kernel
theorem dX7_rule_2 : decode cX7_rule 2 = .ok (.iload_n 1, 1) := by decide +kernel
theorem dX7_rule_3 : decode cX7_rule 3 = .ok (.iload_n 3, 1) := by decide +kernel
theorem dX7_rule_4 : decode cX7_rule 4 = .ok (.iconst 3, 1) := by decide +kernel
theorem dX7_rule_5 : decode cX7_rule 5 = .ok (.invokevirtual 176, 3) := by decide +kernel
theorem dX7_rule_8 : decode cX7_rule 8 = .ok (.putfield 7, 3) := by decide +kernel
theorem dX7_rule_11 : decode cX7_rule 11 = .ok (.aload_n 0, 1) := by decide +kernel
theorem dX7_rule_12 : decode cX7_rule 12 = .ok (.getfield 7, 3) := by decide +kernel
theorem dX7_rule_15 : decode cX7_rule 15 = .ok (.ifCond .eq 5, 3) := by decide +kernel
theorem dX7_rule_18 : decode cX7_rule 18 = .ok (.iconst 0, 1) := by decide +kernel
theorem dX7_rule_19 : decode cX7_rule 19 = .ok (.ireturn, 1) := by decide +kernel
theorem dX7_rule_20 : decode cX7_rule 20 = .ok (.iload_n 2, 1) := by decide +kernel
theorem dX7_rule_21 : decode cX7_rule 21 = .ok (.ifCond .ge 7, 3) := by decide +kernel
theorem dX7_rule_24 : decode cX7_rule 24 = .ok (.iconst (-1), 1) := by decide +kernel
theorem dX7_rule_25 : decode cX7_rule 25 = .ok (.goto 9, 3) := by decide +kernel
theorem dX7_rule_28 : decode cX7_rule 28 = .ok (.aload_n 0, 1) := by decide +kernel
theorem dX7_rule_29 : decode cX7_rule 29 = .ok (.iload_n 1, 1) := by decide +kernel
theorem dX7_rule_30 : decode cX7_rule 30 = .ok (.iload_n 2, 1) := by decide +kernel
theorem dX7_rule_31 : decode cX7_rule 31 = .ok (.invokevirtual 179, 3) := by decide +kernel
theorem dX7_rule_34 : decode cX7_rule 34 = .ok (.istore 4, 2) := by decide +kernel
theorem dX7_rule_36 : decode cX7_rule 36 = .ok (.iload 4, 2) := by decide +kernel
theorem dX7_rule_38 : decode cX7_rule 38 = .ok (.ifCond .ge 10, 3) := by decide +kernel
theorem dX7_rule_41 : decode cX7_rule 41 = .ok (.aload_n 0, 1) := by decide +kernel
theorem dX7_rule_42 : decode cX7_rule 42 = .ok (.iconst 1, 1) := by decide +kernel
theorem dX7_rule_43 : decode cX7_rule 43 = .ok (.putfield 7, 3) := by decide +kernel
theorem dX7_rule_46 : decode cX7_rule 46 = .ok (.iconst 0, 1) := by decide +kernel
theorem dX7_rule_47 : decode cX7_rule 47 = .ok (.ireturn, 1) := by decide +kernel
theorem dX7_rule_48 : decode cX7_rule 48 = .ok (.iload_n 3, 1) := by decide +kernel
theorem dX7_rule_49 : decode cX7_rule 49 = .ok (.ifCond .ne 15, 3) := by decide +kernel
theorem dX7_rule_52 : decode cX7_rule 52 = .ok (.aload_n 0, 1) := by decide +kernel
theorem dX7_rule_53 : decode cX7_rule 53 = .ok (.iload_n 1, 1) := by decide +kernel
theorem dX7_rule_54 : decode cX7_rule 54 = .ok (.iload 4, 2) := by decide +kernel
theorem dX7_rule_56 : decode cX7_rule 56 = .ok (.sipush 172, 3) := by decide +kernel
theorem dX7_rule_59 : decode cX7_rule 59 = .ok (.idiv, 1) := by decide +kernel
theorem dX7_rule_60 : decode cX7_rule 60 = .ok (.invokevirtual 182, 3) := by decide +kernel
theorem dX7_rule_63 : decode cX7_rule 63 = .ok (.ireturn, 1) := by decide +kernel
theorem dX7_rule_64 : decode cX7_rule 64 = .ok (.iload_n 3, 1) := by decide +kernel
theorem dX7_rule_65 : decode cX7_rule 65 = .ok (.iconst 1, 1) := by decide +kernel
theorem dX7_rule_66 : decode cX7_rule 66 = .ok (.if_icmp .ne 15, 3) := by decide +kernel
theorem dX7_rule_69 : decode cX7_rule 69 = .ok (.aload_n 0, 1) := by decide +kernel
theorem dX7_rule_70 : decode cX7_rule 70 = .ok (.iload_n 1, 1) := by decide +kernel
theorem dX7_rule_71 : decode cX7_rule 71 = .ok (.iload 4, 2) := by decide +kernel
theorem dX7_rule_73 : decode cX7_rule 73 = .ok (.sipush 172, 3) := by decide +kernel
theorem dX7_rule_76 : decode cX7_rule 76 = .ok (.irem, 1) := by decide +kernel
theorem dX7_rule_77 : decode cX7_rule 77 = .ok (.invokevirtual 182, 3) := by decide +kernel
theorem dX7_rule_80 : decode cX7_rule 80 = .ok (.ireturn, 1) := by decide +kernel
theorem dX7_rule_81 : decode cX7_rule 81 = .ok (.aload_n 0, 1) := by decide +kernel
theorem dX7_rule_82 : decode cX7_rule 82 = .ok (.iload_n 1, 1) := by decide +kernel
theorem dX7_rule_83 : decode cX7_rule 83 = .ok (.iload 4, 2) := by decide +kernel
theorem dX7_rule_85 : decode cX7_rule 85 = .ok (.sipush 172, 3) := by decide +kernel
theorem dX7_rule_88 : decode cX7_rule 88 = .ok (.idiv, 1) := by decide +kernel
theorem dX7_rule_89 : decode cX7_rule 89 = .ok (.iload 4, 2) := by decide +kernel
theorem dX7_rule_91 : decode cX7_rule 91 = .ok (.sipush 172, 3) := by decide +kernel
theorem dX7_rule_94 : decode cX7_rule 94 = .ok (.irem, 1) := by decide +kernel
theorem dX7_rule_95 : decode cX7_rule 95 = .ok (.invokevirtual 105, 3) := by decide +kernel
theorem dX7_rule_98 : decode cX7_rule 98 = .ok (.aload_n 0, 1) := by decide +kernel
theorem dX7_rule_99 : decode cX7_rule 99 = .ok (.iload_n 1, 1) := by decide +kernel
theorem dX7_rule_100 : decode cX7_rule 100 = .ok (.iload_n 3, 1) := by decide +kernel
theorem dX7_rule_101 : decode cX7_rule 101 = .ok (.iconst 2, 1) := by decide +kernel
theorem dX7_rule_102 : decode cX7_rule 102 = .ok (.if_icmp .ne 10, 3) := by decide +kernel
theorem dX7_rule_105 : decode cX7_rule 105 = .ok (.aload_n 0, 1) := by decide +kernel
theorem dX7_rule_106 : decode cX7_rule 106 = .ok (.getfield 64, 3) := by decide +kernel
theorem dX7_rule_109 : decode cX7_rule 109 = .ok (.goto 7, 3) := by decide +kernel
theorem dX7_rule_112 : decode cX7_rule 112 = .ok (.aload_n 0, 1) := by decide +kernel
theorem dX7_rule_113 : decode cX7_rule 113 = .ok (.getfield 67, 3) := by decide +kernel
theorem dX7_rule_116 : decode cX7_rule 116 = .ok (.invokevirtual 182, 3) := by decide +kernel
theorem dX7_rule_119 : decode cX7_rule 119 = .ok (.ireturn, 1) := by decide +kernel
theorem dX7_kind_0 : decode cX7_kind 0 = .ok (.aload_n 0, 1) := by decide +kernel
theorem dX7_kind_1 : decode cX7_kind 1 = .ok (.aload_n 0, 1) := by decide +kernel
theorem dX7_kind_2 : decode cX7_kind 2 = .ok (.iload_n 1, 1) := by decide +kernel
theorem dX7_kind_3 : decode cX7_kind 3 = .ok (.iload_n 3, 1) := by decide +kernel
theorem dX7_kind_4 : decode cX7_kind 4 = .ok (.iconst 2, 1) := by decide +kernel
theorem dX7_kind_5 : decode cX7_kind 5 = .ok (.invokevirtual 176, 3) := by decide +kernel
theorem dX7_kind_8 : decode cX7_kind 8 = .ok (.putfield 7, 3) := by decide +kernel
theorem dX7_kind_11 : decode cX7_kind 11 = .ok (.aload_n 0, 1) := by decide +kernel
theorem dX7_kind_12 : decode cX7_kind 12 = .ok (.getfield 7, 3) := by decide +kernel
theorem dX7_kind_15 : decode cX7_kind 15 = .ok (.ifCond .eq 5, 3) := by decide +kernel
theorem dX7_kind_18 : decode cX7_kind 18 = .ok (.iconst 0, 1) := by decide +kernel
theorem dX7_kind_19 : decode cX7_kind 19 = .ok (.ireturn, 1) := by decide +kernel
theorem dX7_kind_20 : decode cX7_kind 20 = .ok (.iload_n 2, 1) := by decide +kernel
theorem dX7_kind_21 : decode cX7_kind 21 = .ok (.ifCond .lt 54, 3) := by decide +kernel
theorem dX7_kind_24 : decode cX7_kind 24 = .ok (.iconst 0, 1) := by decide +kernel
theorem dX7_kind_25 : decode cX7_kind 25 = .ok (.istore 4, 2) := by decide +kernel
theorem dX7_kind_27 : decode cX7_kind 27 = .ok (.iload 4, 2) := by decide +kernel
theorem dX7_kind_29 : decode cX7_kind 29 = .ok (.sipush 172, 3) := by decide +kernel
theorem dX7_kind_32 : decode cX7_kind 32 = .ok (.if_icmp .ge 43, 3) := by decide +kernel
theorem dX7_kind_35 : decode cX7_kind 35 = .ok (.aload_n 0, 1) := by decide +kernel
theorem dX7_kind_36 : decode cX7_kind 36 = .ok (.getfield 52, 3) := by decide +kernel
theorem dX7_kind_39 : decode cX7_kind 39 = .ok (.sipush 172, 3) := by decide +kernel
theorem dX7_kind_42 : decode cX7_kind 42 = .ok (.iload_n 1, 1) := by decide +kernel
theorem dX7_kind_43 : decode cX7_kind 43 = .ok (.imul, 1) := by decide +kernel
theorem dX7_kind_44 : decode cX7_kind 44 = .ok (.iload 4, 2) := by decide +kernel
theorem dX7_kind_46 : decode cX7_kind 46 = .ok (.iadd, 1) := by decide +kernel
theorem dX7_kind_47 : decode cX7_kind 47 = .ok (.baload, 1) := by decide +kernel
theorem dX7_kind_48 : decode cX7_kind 48 = .ok (.ifCond .eq 21, 3) := by decide +kernel
theorem dX7_kind_51 : decode cX7_kind 51 = .ok (.aload_n 0, 1) := by decide +kernel
theorem dX7_kind_52 : decode cX7_kind 52 = .ok (.iload_n 1, 1) := by decide +kernel
theorem dX7_kind_53 : decode cX7_kind 53 = .ok (.iload 4, 2) := by decide +kernel
theorem dX7_kind_55 : decode cX7_kind 55 = .ok (.invokevirtual 182, 3) := by decide +kernel
theorem dX7_kind_58 : decode cX7_kind 58 = .ok (.iload_n 2, 1) := by decide +kernel
theorem dX7_kind_59 : decode cX7_kind 59 = .ok (.if_icmp .ne 10, 3) := by decide +kernel
theorem dX7_kind_62 : decode cX7_kind 62 = .ok (.iload 4, 2) := by decide +kernel
theorem dX7_kind_64 : decode cX7_kind 64 = .ok (.iload_n 3, 1) := by decide +kernel
theorem dX7_kind_65 : decode cX7_kind 65 = .ok (.invokestatic 160, 3) := by decide +kernel
theorem dX7_kind_68 : decode cX7_kind 68 = .ok (.ireturn, 1) := by decide +kernel
theorem dX7_kind_69 : decode cX7_kind 69 = .ok (.iinc 4 1, 3) := by decide +kernel
theorem dX7_kind_72 : decode cX7_kind 72 = .ok (.goto (-45), 3) := by decide +kernel
theorem dX7_kind_75 : decode cX7_kind 75 = .ok (.aload_n 0, 1) := by decide +kernel
theorem dX7_kind_76 : decode cX7_kind 76 = .ok (.iconst 1, 1) := by decide +kernel
theorem dX7_kind_77 : decode cX7_kind 77 = .ok (.putfield 7, 3) := by decide +kernel
theorem dX7_kind_80 : decode cX7_kind 80 = .ok (.iconst 0, 1) := by decide +kernel
theorem dX7_kind_81 : decode cX7_kind 81 = .ok (.ireturn, 1) := by decide +kernel
theorem dJ9_floorMod_7cf53_0 : decode cJ9_floorMod_7cf53 0 = .ok (.iload_n 0, 1) := by decide +kernel
theorem dJ9_floorMod_7cf53_1 : decode cJ9_floorMod_7cf53 1 = .ok (.iload_n 1, 1) := by decide +kernel
theorem dJ9_floorMod_7cf53_2 : decode cJ9_floorMod_7cf53 2 = .ok (.irem, 1) := by decide +kernel
theorem dJ9_floorMod_7cf53_3 : decode cJ9_floorMod_7cf53 3 = .ok (.istore_n 2, 1) := by decide +kernel
theorem dJ9_floorMod_7cf53_4 : decode cJ9_floorMod_7cf53 4 = .ok (.iload_n 0, 1) := by decide +kernel
theorem dJ9_floorMod_7cf53_5 : decode cJ9_floorMod_7cf53 5 = .ok (.iload_n 1, 1) := by decide +kernel
theorem dJ9_floorMod_7cf53_6 : decode cJ9_floorMod_7cf53 6 = .ok (.ixor, 1) := by decide +kernel
theorem dJ9_floorMod_7cf53_7 : decode cJ9_floorMod_7cf53 7 = .ok (.ifCond .ge 11, 3) := by decide +kernel
theorem dJ9_floorMod_7cf53_10 : decode cJ9_floorMod_7cf53 10 = .ok (.iload_n 2, 1) := by decide +kernel
theorem dJ9_floorMod_7cf53_11 : decode cJ9_floorMod_7cf53 11 = .ok (.ifCond .eq 7, 3) := by decide +kernel
theorem dJ9_floorMod_7cf53_14 : decode cJ9_floorMod_7cf53 14 = .ok (.iload_n 2, 1) := by decide +kernel
theorem dJ9_floorMod_7cf53_15 : decode cJ9_floorMod_7cf53 15 = .ok (.iload_n 1, 1) := by decide +kernel
theorem dJ9_floorMod_7cf53_16 : decode cJ9_floorMod_7cf53 16 = .ok (.iadd, 1) := by decide +kernel
theorem dJ9_floorMod_7cf53_17 : decode cJ9_floorMod_7cf53 17 = .ok (.ireturn, 1) := by decide +kernel
theorem dJ9_floorMod_7cf53_18 : decode cJ9_floorMod_7cf53 18 = .ok (.iload_n 2, 1) := by decide +kernel
theorem dJ9_floorMod_7cf53_19 : decode cJ9_floorMod_7cf53 19 = .ok (.ireturn, 1) := by decide +kernel
theorem dJ9_abs_0f7a4_0 : decode cJ9_abs_0f7a4 0 = .ok (.iload_n 0, 1) := by decide +kernel
theorem dJ9_abs_0f7a4_1 : decode cJ9_abs_0f7a4 1 = .ok (.ifCond .ge 8, 3) := by decide +kernel
theorem dJ9_abs_0f7a4_4 : decode cJ9_abs_0f7a4 4 = .ok (.iload_n 0, 1) := by decide +kernel
theorem dJ9_abs_0f7a4_5 : decode cJ9_abs_0f7a4 5 = .ok (.ineg, 1) := by decide +kernel
theorem dJ9_abs_0f7a4_6 : decode cJ9_abs_0f7a4 6 = .ok (.goto 4, 3) := by decide +kernel
theorem dJ9_abs_0f7a4_9 : decode cJ9_abs_0f7a4 9 = .ok (.iload_n 0, 1) := by decide +kernel
theorem dJ9_abs_0f7a4_10 : decode cJ9_abs_0f7a4 10 = .ok (.ireturn, 1) := by decide +kernel
theorem dJ9_max_7cf53_0 : decode cJ9_max_7cf53 0 = .ok (.iload_n 0, 1) := by decide +kernel
theorem dJ9_max_7cf53_1 : decode cJ9_max_7cf53 1 = .ok (.iload_n 1, 1) := by decide +kernel
theorem dJ9_max_7cf53_2 : decode cJ9_max_7cf53 2 = .ok (.if_icmp .lt 7, 3) := by decide +kernel
theorem dJ9_max_7cf53_5 : decode cJ9_max_7cf53 5 = .ok (.iload_n 0, 1) := by decide +kernel
theorem dJ9_max_7cf53_6 : decode cJ9_max_7cf53 6 = .ok (.goto 4, 3) := by decide +kernel
theorem dJ9_max_7cf53_9 : decode cJ9_max_7cf53 9 = .ok (.iload_n 1, 1) := by decide +kernel
theorem dJ9_max_7cf53_10 : decode cJ9_max_7cf53 10 = .ok (.ireturn, 1) := by decide +kernel
theorem dJ9_min_7cf53_0 : decode cJ9_min_7cf53 0 = .ok (.iload_n 0, 1) := by decide +kernel
theorem dJ9_min_7cf53_1 : decode cJ9_min_7cf53 1 = .ok (.iload_n 1, 1) := by decide +kernel
theorem dJ9_min_7cf53_2 : decode cJ9_min_7cf53 2 = .ok (.if_icmp .gt 7, 3) := by decide +kernel
theorem dJ9_min_7cf53_5 : decode cJ9_min_7cf53 5 = .ok (.iload_n 0, 1) := by decide +kernel
theorem dJ9_min_7cf53_6 : decode cJ9_min_7cf53 6 = .ok (.goto 4, 3) := by decide +kernel
theorem dJ9_min_7cf53_9 : decode cJ9_min_7cf53 9 = .ok (.iload_n 1, 1) := by decide +kernel
theorem dJ9_min_7cf53_10 : decode cJ9_min_7cf53 10 = .ok (.ireturn, 1) := by decide +kernel
theorem dJ7_fill_53178_0 : decode cJ7_fill_53178 0 = .ok (.iconst 0, 1) := by decide +kernel
theorem dJ7_fill_53178_1 : decode cJ7_fill_53178 1 = .ok (.istore_n 2, 1) := by decide +kernel
theorem dJ7_fill_53178_2 : decode cJ7_fill_53178 2 = .ok (.aload_n 0, 1) := by decide +kernel
theorem dJ7_fill_53178_3 : decode cJ7_fill_53178 3 = .ok (.arraylength, 1) := by decide +kernel
theorem dJ7_fill_53178_4 : decode cJ7_fill_53178 4 = .ok (.istore_n 3, 1) := by decide +kernel
theorem dJ7_fill_53178_5 : decode cJ7_fill_53178 5 = .ok (.iload_n 2, 1) := by decide +kernel
theorem dJ7_fill_53178_6 : decode cJ7_fill_53178 6 = .ok (.iload_n 3, 1) := by decide +kernel
theorem dJ7_fill_53178_7 : decode cJ7_fill_53178 7 = .ok (.if_icmp .ge 13, 3) := by decide +kernel
theorem dJ7_fill_53178_10 : decode cJ7_fill_53178 10 = .ok (.aload_n 0, 1) := by decide +kernel
theorem dJ7_fill_53178_11 : decode cJ7_fill_53178 11 = .ok (.iload_n 2, 1) := by decide +kernel
theorem dJ7_fill_53178_12 : decode cJ7_fill_53178 12 = .ok (.iload_n 1, 1) := by decide +kernel
theorem dJ7_fill_53178_13 : decode cJ7_fill_53178 13 = .ok (.iastore, 1) := by decide +kernel
theorem dJ7_fill_53178_14 : decode cJ7_fill_53178 14 = .ok (.iinc 2 1, 3) := by decide +kernel
theorem dJ7_fill_53178_17 : decode cJ7_fill_53178 17 = .ok (.goto (-12), 3) := by decide +kernel
theorem dJ7_fill_53178_20 : decode cJ7_fill_53178 20 = .ok (.return_, 1) := by decide +kernel
theorem dL_coef_0 : decode cL_coef 0 = .ok (.aload_n 3, 1) := by decide +kernel
theorem dL_coef_1 : decode cL_coef 1 = .ok (.iconst 0, 1) := by decide +kernel
theorem dL_coef_2 : decode cL_coef 2 = .ok (.aload_n 0, 1) := by decide +kernel
theorem dL_coef_3 : decode cL_coef 3 = .ok (.iload_n 1, 1) := by decide +kernel
theorem dL_coef_4 : decode cL_coef 4 = .ok (.iload_n 2, 1) := by decide +kernel
theorem dL_coef_5 : decode cL_coef 5 = .ok (.invokevirtual 7, 3) := by decide +kernel
theorem dL_coef_8 : decode cL_coef 8 = .ok (.i2l, 1) := by decide +kernel
theorem dL_coef_9 : decode cL_coef 9 = .ok (.lastore, 1) := by decide +kernel
theorem dL_coef_10 : decode cL_coef 10 = .ok (.goto 7, 3) := by decide +kernel
theorem dL_coef_13 : decode cL_coef 13 = .ok (.astore 4, 2) := by decide +kernel
theorem dL_coef_15 : decode cL_coef 15 = .ok (.iconst 1, 1) := by decide +kernel
theorem dL_coef_16 : decode cL_coef 16 = .ok (.ireturn, 1) := by decide +kernel
theorem dL_coef_17 : decode cL_coef 17 = .ok (.iconst 0, 1) := by decide +kernel
theorem dL_coef_18 : decode cL_coef 18 = .ok (.ireturn, 1) := by decide +kernel
theorem dL_sum_0 : decode cL_sum 0 = .ok (.aload_n 2, 1) := by decide +kernel
theorem dL_sum_1 : decode cL_sum 1 = .ok (.iconst 0, 1) := by decide +kernel
theorem dL_sum_2 : decode cL_sum 2 = .ok (.aload_n 0, 1) := by decide +kernel
theorem dL_sum_3 : decode cL_sum 3 = .ok (.iload_n 1, 1) := by decide +kernel
theorem dL_sum_4 : decode cL_sum 4 = .ok (.invokevirtual 15, 3) := by decide +kernel
theorem dL_sum_7 : decode cL_sum 7 = .ok (.i2l, 1) := by decide +kernel
theorem dL_sum_8 : decode cL_sum 8 = .ok (.lastore, 1) := by decide +kernel
theorem dL_sum_9 : decode cL_sum 9 = .ok (.goto 9, 3) := by decide +kernel
theorem dL_sum_12 : decode cL_sum 12 = .ok (.astore_n 3, 1) := by decide +kernel
theorem dL_sum_13 : decode cL_sum 13 = .ok (.iconst 1, 1) := by decide +kernel
theorem dL_sum_14 : decode cL_sum 14 = .ok (.ireturn, 1) := by decide +kernel
theorem dL_sum_15 : decode cL_sum 15 = .ok (.astore_n 3, 1) := by decide +kernel
theorem dL_sum_16 : decode cL_sum 16 = .ok (.iconst 2, 1) := by decide +kernel
theorem dL_sum_17 : decode cL_sum 17 = .ok (.ireturn, 1) := by decide +kernel
theorem dL_sum_18 : decode cL_sum 18 = .ok (.iconst 0, 1) := by decide +kernel
theorem dL_sum_19 : decode cL_sum 19 = .ok (.ireturn, 1) := by decide +kernel
theorem dL_mod_0 : decode cL_mod 0 = .ok (.aload_n 3, 1) := by decide +kernel
theorem dL_mod_1 : decode cL_mod 1 = .ok (.iconst 0, 1) := by decide +kernel
theorem dL_mod_2 : decode cL_mod 2 = .ok (.aload_n 0, 1) := by decide +kernel
theorem dL_mod_3 : decode cL_mod 3 = .ok (.iload_n 1, 1) := by decide +kernel
theorem dL_mod_4 : decode cL_mod 4 = .ok (.iload_n 2, 1) := by decide +kernel
theorem dL_mod_5 : decode cL_mod 5 = .ok (.invokevirtual 21, 3) := by decide +kernel
theorem dL_mod_8 : decode cL_mod 8 = .ok (.i2l, 1) := by decide +kernel
theorem dL_mod_9 : decode cL_mod 9 = .ok (.lastore, 1) := by decide +kernel
theorem dL_mod_10 : decode cL_mod 10 = .ok (.goto 11, 3) := by decide +kernel
theorem dL_mod_13 : decode cL_mod 13 = .ok (.astore 4, 2) := by decide +kernel
theorem dL_mod_15 : decode cL_mod 15 = .ok (.iconst 1, 1) := by decide +kernel
theorem dL_mod_16 : decode cL_mod 16 = .ok (.ireturn, 1) := by decide +kernel
theorem dL_mod_17 : decode cL_mod 17 = .ok (.astore 4, 2) := by decide +kernel
theorem dL_mod_19 : decode cL_mod 19 = .ok (.iconst 2, 1) := by decide +kernel
theorem dL_mod_20 : decode cL_mod 20 = .ok (.ireturn, 1) := by decide +kernel
theorem dL_mod_21 : decode cL_mod 21 = .ok (.iconst 0, 1) := by decide +kernel
theorem dL_mod_22 : decode cL_mod 22 = .ok (.ireturn, 1) := by decide +kernel
theorem dL_combine_0 : decode cL_combine 0 = .ok (.aload 4, 2) := by decide +kernel
theorem dL_combine_2 : decode cL_combine 2 = .ok (.iconst 0, 1) := by decide +kernel
theorem dL_combine_3 : decode cL_combine 3 = .ok (.aload_n 0, 1) := by decide +kernel
theorem dL_combine_4 : decode cL_combine 4 = .ok (.iload_n 1, 1) := by decide +kernel
theorem dL_combine_5 : decode cL_combine 5 = .ok (.iload_n 2, 1) := by decide +kernel
theorem dL_combine_6 : decode cL_combine 6 = .ok (.iload_n 3, 1) := by decide +kernel
theorem dL_combine_7 : decode cL_combine 7 = .ok (.invokevirtual 24, 3) := by decide +kernel
theorem dL_combine_10 : decode cL_combine 10 = .ok (.i2l, 1) := by decide +kernel
theorem dL_combine_11 : decode cL_combine 11 = .ok (.lastore, 1) := by decide +kernel
theorem dL_combine_12 : decode cL_combine 12 = .ok (.goto 11, 3) := by decide +kernel
theorem dL_combine_15 : decode cL_combine 15 = .ok (.astore 5, 2) := by decide +kernel
theorem dL_combine_17 : decode cL_combine 17 = .ok (.iconst 1, 1) := by decide +kernel
theorem dL_combine_18 : decode cL_combine 18 = .ok (.ireturn, 1) := by decide +kernel
theorem dL_combine_19 : decode cL_combine 19 = .ok (.astore 5, 2) := by decide +kernel
theorem dL_combine_21 : decode cL_combine 21 = .ok (.iconst 2, 1) := by decide +kernel
theorem dL_combine_22 : decode cL_combine 22 = .ok (.ireturn, 1) := by decide +kernel
theorem dL_combine_23 : decode cL_combine 23 = .ok (.iconst 0, 1) := by decide +kernel
theorem dL_combine_24 : decode cL_combine 24 = .ok (.ireturn, 1) := by decide +kernel
theorem dL_compile_0 : decode cL_compile 0 = .ok (.aload_n 1, 1) := by decide +kernel
theorem dL_compile_1 : decode cL_compile 1 = .ok (.iconst 0, 1) := by decide +kernel
theorem dL_compile_2 : decode cL_compile 2 = .ok (.aload_n 0, 1) := by decide +kernel
theorem dL_compile_3 : decode cL_compile 3 = .ok (.invokevirtual 28, 3) := by decide +kernel
theorem dL_compile_6 : decode cL_compile 6 = .ok (.i2l, 1) := by decide +kernel
theorem dL_compile_7 : decode cL_compile 7 = .ok (.lastore, 1) := by decide +kernel
theorem dL_compile_8 : decode cL_compile 8 = .ok (.goto 6, 3) := by decide +kernel
theorem dL_compile_11 : decode cL_compile 11 = .ok (.astore_n 2, 1) := by decide +kernel
theorem dL_compile_12 : decode cL_compile 12 = .ok (.iconst 1, 1) := by decide +kernel
theorem dL_compile_13 : decode cL_compile 13 = .ok (.ireturn, 1) := by decide +kernel
theorem dL_compile_14 : decode cL_compile 14 = .ok (.iconst 0, 1) := by decide +kernel
theorem dL_compile_15 : decode cL_compile 15 = .ok (.ireturn, 1) := by decide +kernel
theorem dL_add_0 : decode cL_add 0 = .ok (.aload_n 3, 1) := by decide +kernel
theorem dL_add_1 : decode cL_add 1 = .ok (.iconst 0, 1) := by decide +kernel
theorem dL_add_2 : decode cL_add 2 = .ok (.aload_n 0, 1) := by decide +kernel
theorem dL_add_3 : decode cL_add 3 = .ok (.iload_n 1, 1) := by decide +kernel
theorem dL_add_4 : decode cL_add 4 = .ok (.iload_n 2, 1) := by decide +kernel
theorem dL_add_5 : decode cL_add 5 = .ok (.invokevirtual 32, 3) := by decide +kernel
theorem dL_add_8 : decode cL_add 8 = .ok (.i2l, 1) := by decide +kernel
theorem dL_add_9 : decode cL_add 9 = .ok (.lastore, 1) := by decide +kernel
theorem dL_add_10 : decode cL_add 10 = .ok (.goto 11, 3) := by decide +kernel
theorem dL_add_13 : decode cL_add 13 = .ok (.astore 4, 2) := by decide +kernel
theorem dL_add_15 : decode cL_add 15 = .ok (.iconst 1, 1) := by decide +kernel
theorem dL_add_16 : decode cL_add 16 = .ok (.ireturn, 1) := by decide +kernel
theorem dL_add_17 : decode cL_add 17 = .ok (.astore 4, 2) := by decide +kernel
theorem dL_add_19 : decode cL_add 19 = .ok (.iconst 2, 1) := by decide +kernel
theorem dL_add_20 : decode cL_add 20 = .ok (.ireturn, 1) := by decide +kernel
theorem dL_add_21 : decode cL_add 21 = .ok (.iconst 0, 1) := by decide +kernel
theorem dL_add_22 : decode cL_add 22 = .ok (.ireturn, 1) := by decide +kernel
theorem dL_meet_0 : decode cL_meet 0 = .ok (.aload_n 3, 1) := by decide +kernel
theorem dL_meet_1 : decode cL_meet 1 = .ok (.iconst 0, 1) := by decide +kernel
theorem dL_meet_2 : decode cL_meet 2 = .ok (.aload_n 0, 1) := by decide +kernel
theorem dL_meet_3 : decode cL_meet 3 = .ok (.iload_n 1, 1) := by decide +kernel
theorem dL_meet_4 : decode cL_meet 4 = .ok (.iload_n 2, 1) := by decide +kernel
theorem dL_meet_5 : decode cL_meet 5 = .ok (.invokevirtual 35, 3) := by decide +kernel
theorem dL_meet_8 : decode cL_meet 8 = .ok (.ifCond .eq 7, 3) := by decide +kernel
theorem dL_meet_11 : decode cL_meet 11 = .ok (.lconst 1, 1) := by decide +kernel
theorem dL_meet_12 : decode cL_meet 12 = .ok (.goto 4, 3) := by decide +kernel
theorem dL_meet_15 : decode cL_meet 15 = .ok (.lconst 0, 1) := by decide +kernel
theorem dL_meet_16 : decode cL_meet 16 = .ok (.lastore, 1) := by decide +kernel
theorem dL_meet_17 : decode cL_meet 17 = .ok (.goto 11, 3) := by decide +kernel
theorem dL_meet_20 : decode cL_meet 20 = .ok (.astore 4, 2) := by decide +kernel
theorem dL_meet_22 : decode cL_meet 22 = .ok (.iconst 1, 1) := by decide +kernel
theorem dL_meet_23 : decode cL_meet 23 = .ok (.ireturn, 1) := by decide +kernel
theorem dL_meet_24 : decode cL_meet 24 = .ok (.astore 4, 2) := by decide +kernel
theorem dL_meet_26 : decode cL_meet 26 = .ok (.iconst 2, 1) := by decide +kernel
theorem dL_meet_27 : decode cL_meet 27 = .ok (.ireturn, 1) := by decide +kernel
theorem dL_meet_28 : decode cL_meet 28 = .ok (.iconst 0, 1) := by decide +kernel
theorem dL_meet_29 : decode cL_meet 29 = .ok (.ireturn, 1) := by decide +kernel
theorem dL_sweep_0 : decode cL_sweep 0 = .ok (.aload_n 2, 1) := by decide +kernel
theorem dL_sweep_1 : decode cL_sweep 1 = .ok (.iconst 0, 1) := by decide +kernel
theorem dL_sweep_2 : decode cL_sweep 2 = .ok (.aload_n 0, 1) := by decide +kernel
theorem dL_sweep_3 : decode cL_sweep 3 = .ok (.iload_n 1, 1) := by decide +kernel
theorem dL_sweep_4 : decode cL_sweep 4 = .ok (.invokevirtual 41, 3) := by decide +kernel
theorem dL_sweep_7 : decode cL_sweep 7 = .ok (.i2l, 1) := by decide +kernel
theorem dL_sweep_8 : decode cL_sweep 8 = .ok (.lastore, 1) := by decide +kernel
theorem dL_sweep_9 : decode cL_sweep 9 = .ok (.goto 6, 3) := by decide +kernel
theorem dL_sweep_12 : decode cL_sweep 12 = .ok (.astore_n 3, 1) := by decide +kernel
theorem dL_sweep_13 : decode cL_sweep 13 = .ok (.iconst 1, 1) := by decide +kernel
theorem dL_sweep_14 : decode cL_sweep 14 = .ok (.ireturn, 1) := by decide +kernel
theorem dL_sweep_15 : decode cL_sweep 15 = .ok (.iconst 0, 1) := by decide +kernel
theorem dL_sweep_16 : decode cL_sweep 16 = .ok (.ireturn, 1) := by decide +kernel
theorem dL_output_0 : decode cL_output 0 = .ok (.aload_n 2, 1) := by decide +kernel
theorem dL_output_1 : decode cL_output 1 = .ok (.iconst 0, 1) := by decide +kernel
theorem dL_output_2 : decode cL_output 2 = .ok (.aload_n 0, 1) := by decide +kernel
theorem dL_output_3 : decode cL_output 3 = .ok (.iload_n 1, 1) := by decide +kernel
theorem dL_output_4 : decode cL_output 4 = .ok (.invokevirtual 44, 3) := by decide +kernel
theorem dL_output_7 : decode cL_output 7 = .ok (.ifCond .eq 7, 3) := by decide +kernel
theorem dL_output_10 : decode cL_output 10 = .ok (.lconst 1, 1) := by decide +kernel
theorem dL_output_11 : decode cL_output 11 = .ok (.goto 4, 3) := by decide +kernel
theorem dL_output_14 : decode cL_output 14 = .ok (.lconst 0, 1) := by decide +kernel
