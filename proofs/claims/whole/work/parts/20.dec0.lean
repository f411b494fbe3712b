theorem dX0_init_0 : decode cX0_init 0 = .ok (.aload_n 0, 1) := by decide +kernel
theorem dX0_init_1 : decode cX0_init 1 = .ok (.invokespecial 3, 3) := by decide +kernel
theorem dX0_init_4 : decode cX0_init 4 = .ok (.aload_n 0, 1) := by decide +kernel
theorem dX0_init_5 : decode cX0_init 5 = .ok (.bipush 8, 2) := by decide +kernel
theorem dX0_init_7 : decode cX0_init 7 = .ok (.newarray .int, 2) := by decide +kernel
theorem dX0_init_9 : decode cX0_init 9 = .ok (.putfield 9, 3) := by decide +kernel
theorem dX0_init_12 : decode cX0_init 12 = .ok (.aload_n 0, 1) := by decide +kernel
theorem dX0_init_13 : decode cX0_init 13 = .ok (.sipush 256, 3) := by decide +kernel
theorem dX0_init_16 : decode cX0_init 16 = .ok (.newarray .int, 2) := by decide +kernel
theorem dX0_init_18 : decode cX0_init 18 = .ok (.putfield 17, 3) := by decide +kernel
theorem dX0_init_21 : decode cX0_init 21 = .ok (.aload_n 0, 1) := by decide +kernel
theorem dX0_init_22 : decode cX0_init 22 = .ok (.sipush 256, 3) := by decide +kernel
theorem dX0_init_25 : decode cX0_init 25 = .ok (.newarray .int, 2) := by decide +kernel
theorem dX0_init_27 : decode cX0_init 27 = .ok (.putfield 20, 3) := by decide +kernel
theorem dX0_init_30 : decode cX0_init 30 = .ok (.aload_n 0, 1) := by decide +kernel
theorem dX0_init_31 : decode cX0_init 31 = .ok (.sipush 257, 3) := by decide +kernel
theorem dX0_init_34 : decode cX0_init 34 = .ok (.newarray .int, 2) := by decide +kernel
theorem dX0_init_36 : decode cX0_init 36 = .ok (.putfield 23, 3) := by decide +kernel
theorem dX0_init_39 : decode cX0_init 39 = .ok (.return_, 1) := by decide +kernel
theorem dX0_become_0 : decode cX0_become 0 = .ok (.aload_n 0, 1) := by decide +kernel
theorem dX0_become_1 : decode cX0_become 1 = .ok (.iload_n 1, 1) := by decide +kernel
theorem dX0_become_2 : decode cX0_become 2 = .ok (.putfield 26, 3) := by decide +kernel
theorem dX0_become_5 : decode cX0_become 5 = .ok (.aload_n 0, 1) := by decide +kernel
theorem dX0_become_6 : decode cX0_become 6 = .ok (.iload_n 2, 1) := by decide +kernel
theorem dX0_become_7 : decode cX0_become 7 = .ok (.putfield 30, 3) := by decide +kernel
theorem dX0_become_10 : decode cX0_become 10 = .ok (.aload_n 0, 1) := by decide +kernel
theorem dX0_become_11 : decode cX0_become 11 = .ok (.iload_n 2, 1) := by decide +kernel
theorem dX0_become_12 : decode cX0_become 12 = .ok (.invokestatic 33, 3) := by decide +kernel
theorem dX0_become_15 : decode cX0_become 15 = .ok (.iconst 1, 1) := by decide +kernel
theorem dX0_become_16 : decode cX0_become 16 = .ok (.iadd, 1) := by decide +kernel
theorem dX0_become_17 : decode cX0_become 17 = .ok (.putfield 39, 3) := by decide +kernel
theorem dX0_become_20 : decode cX0_become 20 = .ok (.iconst 0, 1) := by decide +kernel
theorem dX0_become_21 : decode cX0_become 21 = .ok (.istore 4, 2) := by decide +kernel
theorem dX0_become_23 : decode cX0_become 23 = .ok (.iload 4, 2) := by decide +kernel
theorem dX0_become_25 : decode cX0_become 25 = .ok (.bipush 8, 2) := by decide +kernel
theorem dX0_become_27 : decode cX0_become 27 = .ok (.if_icmp .ge 38, 3) := by decide +kernel
theorem dX0_become_30 : decode cX0_become 30 = .ok (.aload_n 0, 1) := by decide +kernel
theorem dX0_become_31 : decode cX0_become 31 = .ok (.getfield 9, 3) := by decide +kernel
theorem dX0_become_34 : decode cX0_become 34 = .ok (.iload 4, 2) := by decide +kernel
theorem dX0_become_36 : decode cX0_become 36 = .ok (.aload_n 3, 1) := by decide +kernel
theorem dX0_become_37 : decode cX0_become 37 = .ok (.iload 4, 2) := by decide +kernel
theorem dX0_become_39 : decode cX0_become 39 = .ok (.iaload, 1) := by decide +kernel
theorem dX0_become_40 : decode cX0_become 40 = .ok (.iastore, 1) := by decide +kernel
theorem dX0_become_41 : decode cX0_become 41 = .ok (.aload_n 0, 1) := by decide +kernel
theorem dX0_become_42 : decode cX0_become 42 = .ok (.aload_n 0, 1) := by decide +kernel
theorem dX0_become_43 : decode cX0_become 43 = .ok (.getfield 39, 3) := by decide +kernel
theorem dX0_become_46 : decode cX0_become 46 = .ok (.aload_n 3, 1) := by decide +kernel
theorem dX0_become_47 : decode cX0_become 47 = .ok (.iload 4, 2) := by decide +kernel
theorem dX0_become_49 : decode cX0_become 49 = .ok (.iaload, 1) := by decide +kernel
theorem dX0_become_50 : decode cX0_become 50 = .ok (.invokestatic 33, 3) := by decide +kernel
theorem dX0_become_53 : decode cX0_become 53 = .ok (.invokestatic 42, 3) := by decide +kernel
theorem dX0_become_56 : decode cX0_become 56 = .ok (.putfield 39, 3) := by decide +kernel
theorem dX0_become_59 : decode cX0_become 59 = .ok (.iinc 4 1, 3) := by decide +kernel
theorem dX0_become_62 : decode cX0_become 62 = .ok (.goto (-39), 3) := by decide +kernel
theorem dX0_become_65 : decode cX0_become 65 = .ok (.return_, 1) := by decide +kernel
theorem dX0_isTrueOf_0 : decode cX0_isTrueOf 0 = .ok (.iconst 0, 1) := by decide +kernel
theorem dX0_isTrueOf_1 : decode cX0_isTrueOf 1 = .ok (.istore_n 2, 1) := by decide +kernel
theorem dX0_isTrueOf_2 : decode cX0_isTrueOf 2 = .ok (.iconst 0, 1) := by decide +kernel
theorem dX0_isTrueOf_3 : decode cX0_isTrueOf 3 = .ok (.istore_n 3, 1) := by decide +kernel
theorem dX0_isTrueOf_4 : decode cX0_isTrueOf 4 = .ok (.iload_n 3, 1) := by decide +kernel
theorem dX0_isTrueOf_5 : decode cX0_isTrueOf 5 = .ok (.bipush 8, 2) := by decide +kernel
theorem dX0_isTrueOf_7 : decode cX0_isTrueOf 7 = .ok (.if_icmp .ge 22, 3) := by decide +kernel
theorem dX0_isTrueOf_10 : decode cX0_isTrueOf 10 = .ok (.iload_n 2, 1) := by decide +kernel
theorem dX0_isTrueOf_11 : decode cX0_isTrueOf 11 = .ok (.aload_n 0, 1) := by decide +kernel
theorem dX0_isTrueOf_12 : decode cX0_isTrueOf 12 = .ok (.getfield 9, 3) := by decide +kernel
theorem dX0_isTrueOf_15 : decode cX0_isTrueOf 15 = .ok (.iload_n 3, 1) := by decide +kernel
theorem dX0_isTrueOf_16 : decode cX0_isTrueOf 16 = .ok (.iaload, 1) := by decide +kernel
theorem dX0_isTrueOf_17 : decode cX0_isTrueOf 17 = .ok (.aload_n 1, 1) := by decide +kernel
theorem dX0_isTrueOf_18 : decode cX0_isTrueOf 18 = .ok (.iload_n 3, 1) := by decide +kernel
theorem dX0_isTrueOf_19 : decode cX0_isTrueOf 19 = .ok (.iaload, 1) := by decide +kernel
theorem dX0_isTrueOf_20 : decode cX0_isTrueOf 20 = .ok (.imul, 1) := by decide +kernel
theorem dX0_isTrueOf_21 : decode cX0_isTrueOf 21 = .ok (.iadd, 1) := by decide +kernel
theorem dX0_isTrueOf_22 : decode cX0_isTrueOf 22 = .ok (.istore_n 2, 1) := by decide +kernel
theorem dX0_isTrueOf_23 : decode cX0_isTrueOf 23 = .ok (.iinc 3 1, 3) := by decide +kernel
theorem dX0_isTrueOf_26 : decode cX0_isTrueOf 26 = .ok (.goto (-22), 3) := by decide +kernel
theorem dX0_isTrueOf_29 : decode cX0_isTrueOf 29 = .ok (.aload_n 0, 1) := by decide +kernel
theorem dX0_isTrueOf_30 : decode cX0_isTrueOf 30 = .ok (.aload_n 0, 1) := by decide +kernel
theorem dX0_isTrueOf_31 : decode cX0_isTrueOf 31 = .ok (.iload_n 2, 1) := by decide +kernel
theorem dX0_isTrueOf_32 : decode cX0_isTrueOf 32 = .ok (.invokevirtual 46, 3) := by decide +kernel
theorem dX0_isTrueOf_35 : decode cX0_isTrueOf 35 = .ok (.invokevirtual 49, 3) := by decide +kernel
theorem dX0_isTrueOf_38 : decode cX0_isTrueOf 38 = .ok (.ireturn, 1) := by decide +kernel
theorem dX0_beginning_0 : decode cX0_beginning 0 = .ok (.aload_n 0, 1) := by decide +kernel
theorem dX0_beginning_1 : decode cX0_beginning 1 = .ok (.aload_n 0, 1) := by decide +kernel
theorem dX0_beginning_2 : decode cX0_beginning 2 = .ok (.getfield 9, 3) := by decide +kernel
theorem dX0_beginning_5 : decode cX0_beginning 5 = .ok (.iload_n 1, 1) := by decide +kernel
theorem dX0_beginning_6 : decode cX0_beginning 6 = .ok (.iaload, 1) := by decide +kernel
theorem dX0_beginning_7 : decode cX0_beginning 7 = .ok (.invokevirtual 46, 3) := by decide +kernel
theorem dX0_beginning_10 : decode cX0_beginning 10 = .ok (.istore_n 2, 1) := by decide +kernel
theorem dX0_beginning_11 : decode cX0_beginning 11 = .ok (.iconst 1, 1) := by decide +kernel
theorem dX0_beginning_12 : decode cX0_beginning 12 = .ok (.iload_n 2, 1) := by decide +kernel
theorem dX0_beginning_13 : decode cX0_beginning 13 = .ok (.aload_n 0, 1) := by decide +kernel
theorem dX0_beginning_14 : decode cX0_beginning 14 = .ok (.iload_n 2, 1) := by decide +kernel
theorem dX0_beginning_15 : decode cX0_beginning 15 = .ok (.invokevirtual 49, 3) := by decide +kernel
theorem dX0_beginning_18 : decode cX0_beginning 18 = .ok (.invokestatic 53, 3) := by decide +kernel
theorem dX0_beginning_21 : decode cX0_beginning 21 = .ok (.ireturn, 1) := by decide +kernel
theorem dX0_afterMeeting_0 : decode cX0_afterMeeting 0 = .ok (.iload_n 1, 1) := by decide +kernel
theorem dX0_afterMeeting_1 : decode cX0_afterMeeting 1 = .ok (.invokestatic 57, 3) := by decide +kernel
theorem dX0_afterMeeting_4 : decode cX0_afterMeeting 4 = .ok (.istore_n 3, 1) := by decide +kernel
theorem dX0_afterMeeting_5 : decode cX0_afterMeeting 5 = .ok (.iload_n 3, 1) := by decide +kernel
theorem dX0_afterMeeting_6 : decode cX0_afterMeeting 6 = .ok (.ifCond .ne 16, 3) := by decide +kernel
theorem dX0_afterMeeting_9 : decode cX0_afterMeeting 9 = .ok (.iload_n 2, 1) := by decide +kernel
theorem dX0_afterMeeting_10 : decode cX0_afterMeeting 10 = .ok (.invokestatic 57, 3) := by decide +kernel
theorem dX0_afterMeeting_13 : decode cX0_afterMeeting 13 = .ok (.ifCond .ne 9, 3) := by decide +kernel
theorem dX0_afterMeeting_16 : decode cX0_afterMeeting 16 = .ok (.iload_n 1, 1) := by decide +kernel
theorem dX0_afterMeeting_17 : decode cX0_afterMeeting 17 = .ok (.iload_n 2, 1) := by decide +kernel
theorem dX0_afterMeeting_18 : decode cX0_afterMeeting 18 = .ok (.invokestatic 60, 3) := by decide +kernel
theorem dX0_afterMeeting_21 : decode cX0_afterMeeting 21 = .ok (.ireturn, 1) := by decide +kernel
theorem dX0_afterMeeting_22 : decode cX0_afterMeeting 22 = .ok (.iload_n 1, 1) := by decide +kernel
theorem dX0_afterMeeting_23 : decode cX0_afterMeeting 23 = .ok (.invokestatic 63, 3) := by decide +kernel
theorem dX0_afterMeeting_26 : decode cX0_afterMeeting 26 = .ok (.iload_n 2, 1) := by decide +kernel
theorem dX0_afterMeeting_27 : decode cX0_afterMeeting 27 = .ok (.invokestatic 63, 3) := by decide +kernel
theorem dX0_afterMeeting_30 : decode cX0_afterMeeting 30 = .ok (.iadd, 1) := by decide +kernel
theorem dX0_afterMeeting_31 : decode cX0_afterMeeting 31 = .ok (.istore 4, 2) := by decide +kernel
theorem dX0_afterMeeting_33 : decode cX0_afterMeeting 33 = .ok (.aload_n 0, 1) := by decide +kernel
theorem dX0_afterMeeting_34 : decode cX0_afterMeeting 34 = .ok (.getfield 26, 3) := by decide +kernel
theorem dX0_afterMeeting_37 : decode cX0_afterMeeting 37 = .ok (.ifCond .le 12, 3) := by decide +kernel
theorem dX0_afterMeeting_40 : decode cX0_afterMeeting 40 = .ok (.aload_n 0, 1) := by decide +kernel
theorem dX0_afterMeeting_41 : decode cX0_afterMeeting 41 = .ok (.iload 4, 2) := by decide +kernel
theorem dX0_afterMeeting_43 : decode cX0_afterMeeting 43 = .ok (.invokevirtual 46, 3) := by decide +kernel
theorem dX0_afterMeeting_46 : decode cX0_afterMeeting 46 = .ok (.goto 20, 3) := by decide +kernel
theorem dX0_afterMeeting_49 : decode cX0_afterMeeting 49 = .ok (.aload_n 0, 1) := by decide +kernel
theorem dX0_afterMeeting_50 : decode cX0_afterMeeting 50 = .ok (.getfield 39, 3) := by decide +kernel
theorem dX0_afterMeeting_53 : decode cX0_afterMeeting 53 = .ok (.ineg, 1) := by decide +kernel
theorem dX0_afterMeeting_54 : decode cX0_afterMeeting 54 = .ok (.aload_n 0, 1) := by decide +kernel
theorem dX0_afterMeeting_55 : decode cX0_afterMeeting 55 = .ok (.getfield 39, 3) := by decide +kernel
theorem dX0_afterMeeting_58 : decode cX0_afterMeeting 58 = .ok (.iload 4, 2) := by decide +kernel
theorem dX0_afterMeeting_60 : decode cX0_afterMeeting 60 = .ok (.invokestatic 66, 3) := by decide +kernel
theorem dX0_afterMeeting_63 : decode cX0_afterMeeting 63 = .ok (.invokestatic 42, 3) := by decide +kernel
theorem dX0_afterMeeting_66 : decode cX0_afterMeeting 66 = .ok (.istore 5, 2) := by decide +kernel
theorem dX0_afterMeeting_68 : decode cX0_afterMeeting 68 = .ok (.aload_n 0, 1) := by decide +kernel
theorem dX0_afterMeeting_69 : decode cX0_afterMeeting 69 = .ok (.getfield 26, 3) := by decide +kernel
theorem dX0_afterMeeting_72 : decode cX0_afterMeeting 72 = .ok (.ifCond .le 7, 3) := by decide +kernel
theorem dX0_afterMeeting_75 : decode cX0_afterMeeting 75 = .ok (.iconst 0, 1) := by decide +kernel
theorem dX0_afterMeeting_76 : decode cX0_afterMeeting 76 = .ok (.goto 8, 3) := by decide +kernel
theorem dX0_afterMeeting_79 : decode cX0_afterMeeting 79 = .ok (.iload 4, 2) := by decide +kernel
theorem dX0_afterMeeting_81 : decode cX0_afterMeeting 81 = .ok (.iload 5, 2) := by decide +kernel
theorem dX0_afterMeeting_83 : decode cX0_afterMeeting 83 = .ok (.isub, 1) := by decide +kernel
theorem dX0_afterMeeting_84 : decode cX0_afterMeeting 84 = .ok (.istore 6, 2) := by decide +kernel
theorem dX0_afterMeeting_86 : decode cX0_afterMeeting 86 = .ok (.aload_n 0, 1) := by decide +kernel
theorem dX0_afterMeeting_87 : decode cX0_afterMeeting 87 = .ok (.iload 5, 2) := by decide +kernel
theorem dX0_afterMeeting_89 : decode cX0_afterMeeting 89 = .ok (.invokevirtual 49, 3) := by decide +kernel
theorem dX0_afterMeeting_92 : decode cX0_afterMeeting 92 = .ok (.istore 7, 2) := by decide +kernel
theorem dX0_afterMeeting_94 : decode cX0_afterMeeting 94 = .ok (.iconst 1, 1) := by decide +kernel
theorem dX0_afterMeeting_95 : decode cX0_afterMeeting 95 = .ok (.iload 5, 2) := by decide +kernel
theorem dX0_afterMeeting_97 : decode cX0_afterMeeting 97 = .ok (.iload 7, 2) := by decide +kernel
theorem dX0_afterMeeting_99 : decode cX0_afterMeeting 99 = .ok (.invokestatic 53, 3) := by decide +kernel
theorem dX0_afterMeeting_102 : decode cX0_afterMeeting 102 = .ok (.istore 8, 2) := by decide +kernel
theorem dX0_afterMeeting_104 : decode cX0_afterMeeting 104 = .ok (.iconst 0, 1) := by decide +kernel
theorem dX0_afterMeeting_105 : decode cX0_afterMeeting 105 = .ok (.iload 6, 2) := by decide +kernel
theorem dX0_afterMeeting_107 : decode cX0_afterMeeting 107 = .ok (.iload 7, 2) := by decide +kernel
theorem dX0_afterMeeting_109 : decode cX0_afterMeeting 109 = .ok (.invokestatic 53, 3) := by decide +kernel
theorem dX0_afterMeeting_112 : decode cX0_afterMeeting 112 = .ok (.istore 9, 2) := by decide +kernel
theorem dX0_afterMeeting_114 : decode cX0_afterMeeting 114 = .ok (.iload_n 3, 1) := by decide +kernel
theorem dX0_afterMeeting_115 : decode cX0_afterMeeting 115 = .ok (.ifCond .eq 13, 3) := by decide +kernel
theorem dX0_afterMeeting_118 : decode cX0_afterMeeting 118 = .ok (.iload 8, 2) := by decide +kernel
theorem dX0_afterMeeting_120 : decode cX0_afterMeeting 120 = .ok (.iload 9, 2) := by decide +kernel
theorem dX0_afterMeeting_122 : decode cX0_afterMeeting 122 = .ok (.invokestatic 60, 3) := by decide +kernel
theorem dX0_afterMeeting_125 : decode cX0_afterMeeting 125 = .ok (.goto 10, 3) := by decide +kernel
theorem dX0_afterMeeting_128 : decode cX0_afterMeeting 128 = .ok (.iload 9, 2) := by decide +kernel
theorem dX0_afterMeeting_130 : decode cX0_afterMeeting 130 = .ok (.iload 8, 2) := by decide +kernel
theorem dX0_afterMeeting_132 : decode cX0_afterMeeting 132 = .ok (.invokestatic 60, 3) := by decide +kernel
theorem dX0_afterMeeting_135 : decode cX0_afterMeeting 135 = .ok (.ireturn, 1) := by decide +kernel
theorem dX0_reduce_0 : decode cX0_reduce 0 = .ok (.aload_n 0, 1) := by decide +kernel
theorem dX0_reduce_1 : decode cX0_reduce 1 = .ok (.getfield 26, 3) := by decide +kernel
theorem dX0_reduce_4 : decode cX0_reduce 4 = .ok (.ifCond .le 14, 3) := by decide +kernel
theorem dX0_reduce_7 : decode cX0_reduce 7 = .ok (.iload_n 1, 1) := by decide +kernel
theorem dX0_reduce_8 : decode cX0_reduce 8 = .ok (.aload_n 0, 1) := by decide +kernel
theorem dX0_reduce_9 : decode cX0_reduce 9 = .ok (.getfield 26, 3) := by decide +kernel
theorem dX0_reduce_12 : decode cX0_reduce 12 = .ok (.invokestatic 69, 3) := by decide +kernel
theorem dX0_reduce_15 : decode cX0_reduce 15 = .ok (.goto 4, 3) := by decide +kernel
theorem dX0_reduce_18 : decode cX0_reduce 18 = .ok (.iload_n 1, 1) := by decide +kernel
theorem dX0_reduce_19 : decode cX0_reduce 19 = .ok (.ireturn, 1) := by decide +kernel
theorem dX0_opinionOf_0 : decode cX0_opinionOf 0 = .ok (.aload_n 0, 1) := by decide +kernel
theorem dX0_opinionOf_1 : decode cX0_opinionOf 1 = .ok (.getfield 26, 3) := by decide +kernel
theorem dX0_opinionOf_4 : decode cX0_opinionOf 4 = .ok (.ifCond .le 19, 3) := by decide +kernel
theorem dX0_opinionOf_7 : decode cX0_opinionOf 7 = .ok (.iload_n 1, 1) := by decide +kernel
theorem dX0_opinionOf_8 : decode cX0_opinionOf 8 = .ok (.aload_n 0, 1) := by decide +kernel
theorem dX0_opinionOf_9 : decode cX0_opinionOf 9 = .ok (.getfield 30, 3) := by decide +kernel
theorem dX0_opinionOf_12 : decode cX0_opinionOf 12 = .ok (.if_icmp .ne 7, 3) := by decide +kernel
theorem dX0_opinionOf_15 : decode cX0_opinionOf 15 = .ok (.iconst 1, 1) := by decide +kernel
theorem dX0_opinionOf_16 : decode cX0_opinionOf 16 = .ok (.goto 20, 3) := by decide +kernel
theorem dX0_opinionOf_19 : decode cX0_opinionOf 19 = .ok (.iconst 0, 1) := by decide +kernel
theorem dX0_opinionOf_20 : decode cX0_opinionOf 20 = .ok (.goto 16, 3) := by decide +kernel
theorem dX0_opinionOf_23 : decode cX0_opinionOf 23 = .ok (.iload_n 1, 1) := by decide +kernel
theorem dX0_opinionOf_24 : decode cX0_opinionOf 24 = .ok (.aload_n 0, 1) := by decide +kernel
theorem dX0_opinionOf_25 : decode cX0_opinionOf 25 = .ok (.getfield 30, 3) := by decide +kernel
theorem dX0_opinionOf_28 : decode cX0_opinionOf 28 = .ok (.if_icmp .lt 7, 3) := by decide +kernel
theorem dX0_opinionOf_31 : decode cX0_opinionOf 31 = .ok (.iconst 1, 1) := by decide +kernel
theorem dX0_opinionOf_32 : decode cX0_opinionOf 32 = .ok (.goto 4, 3) := by decide +kernel
theorem dX0_opinionOf_35 : decode cX0_opinionOf 35 = .ok (.iconst 0, 1) := by decide +kernel
theorem dX0_opinionOf_36 : decode cX0_opinionOf 36 = .ok (.ireturn, 1) := by decide +kernel
theorem dX0_makeTable_0 : decode cX0_makeTable 0 = .ok (.aload_n 0, 1) := by decide +kernel
theorem dX0_makeTable_1 : decode cX0_makeTable 1 = .ok (.invokevirtual 72, 3) := by decide +kernel
theorem dX0_makeTable_4 : decode cX0_makeTable 4 = .ok (.aload_n 0, 1) := by decide +kernel
theorem dX0_makeTable_5 : decode cX0_makeTable 5 = .ok (.invokevirtual 75, 3) := by decide +kernel
theorem dX0_makeTable_8 : decode cX0_makeTable 8 = .ok (.aload_n 0, 1) := by decide +kernel
theorem dX0_makeTable_9 : decode cX0_makeTable 9 = .ok (.invokevirtual 78, 3) := by decide +kernel
theorem dX0_makeTable_12 : decode cX0_makeTable 12 = .ok (.return_, 1) := by decide +kernel
theorem dX0_findStates_0 : decode cX0_findStates 0 = .ok (.aload_n 0, 1) := by decide +kernel
theorem dX0_findStates_1 : decode cX0_findStates 1 = .ok (.getfield 20, 3) := by decide +kernel
theorem dX0_findStates_4 : decode cX0_findStates 4 = .ok (.iconst (-1), 1) := by decide +kernel
theorem dX0_findStates_5 : decode cX0_findStates 5 = .ok (.invokestatic 81, 3) := by decide +kernel
theorem dX0_findStates_8 : decode cX0_findStates 8 = .ok (.aload_n 0, 1) := by decide +kernel
theorem dX0_findStates_9 : decode cX0_findStates 9 = .ok (.iconst 0, 1) := by decide +kernel
theorem dX0_findStates_10 : decode cX0_findStates 10 = .ok (.putfield 87, 3) := by decide +kernel
theorem dX0_findStates_13 : decode cX0_findStates 13 = .ok (.iconst 0, 1) := by decide +kernel
theorem dX0_findStates_14 : decode cX0_findStates 14 = .ok (.istore_n 1, 1) := by decide +kernel
theorem dX0_findStates_15 : decode cX0_findStates 15 = .ok (.iload_n 1, 1) := by decide +kernel
theorem dX0_findStates_16 : decode cX0_findStates 16 = .ok (.bipush 8, 2) := by decide +kernel
theorem dX0_findStates_18 : decode cX0_findStates 18 = .ok (.if_icmp .ge 18, 3) := by decide +kernel
theorem dX0_findStates_21 : decode cX0_findStates 21 = .ok (.aload_n 0, 1) := by decide +kernel
theorem dX0_findStates_22 : decode cX0_findStates 22 = .ok (.aload_n 0, 1) := by decide +kernel
theorem dX0_findStates_23 : decode cX0_findStates 23 = .ok (.iload_n 1, 1) := by decide +kernel
theorem dX0_findStates_24 : decode cX0_findStates 24 = .ok (.invokevirtual 90, 3) := by decide +kernel
theorem dX0_findStates_27 : decode cX0_findStates 27 = .ok (.invokevirtual 93, 3) := by decide +kernel
theorem dX0_findStates_30 : decode cX0_findStates 30 = .ok (.iinc 1 1, 3) := by decide +kernel
theorem dX0_findStates_33 : decode cX0_findStates 33 = .ok (.goto (-18), 3) := by decide +kernel
theorem dX0_findStates_36 : decode cX0_findStates 36 = .ok (.iconst 0, 1) := by decide +kernel
theorem dX0_findStates_37 : decode cX0_findStates 37 = .ok (.istore_n 1, 1) := by decide +kernel
theorem dX0_findStates_38 : decode cX0_findStates 38 = .ok (.iload_n 1, 1) := by decide +kernel
theorem dX0_findStates_39 : decode cX0_findStates 39 = .ok (.aload_n 0, 1) := by decide +kernel
theorem dX0_findStates_40 : decode cX0_findStates 40 = .ok (.getfield 87, 3) := by decide +kernel
theorem dX0_findStates_43 : decode cX0_findStates 43 = .ok (.if_icmp .ge 69, 3) := by decide +kernel
theorem dX0_findStates_46 : decode cX0_findStates 46 = .ok (.iload_n 1, 1) := by decide +kernel
theorem dX0_findStates_47 : decode cX0_findStates 47 = .ok (.sipush 256, 3) := by decide +kernel
theorem dX0_findStates_50 : decode cX0_findStates 50 = .ok (.if_icmp .ge 62, 3) := by decide +kernel
theorem dX0_findStates_53 : decode cX0_findStates 53 = .ok (.iconst 0, 1) := by decide +kernel
theorem dX0_findStates_54 : decode cX0_findStates 54 = .ok (.istore_n 2, 1) := by decide +kernel
theorem dX0_findStates_55 : decode cX0_findStates 55 = .ok (.iload_n 2, 1) := by decide +kernel
theorem dX0_findStates_56 : decode cX0_findStates 56 = .ok (.iload_n 1, 1) := by decide +kernel
theorem dX0_findStates_57 : decode cX0_findStates 57 = .ok (.if_icmp .gt 49, 3) := by decide +kernel
theorem dX0_findStates_60 : decode cX0_findStates 60 = .ok (.aload_n 0, 1) := by decide +kernel
theorem dX0_findStates_61 : decode cX0_findStates 61 = .ok (.aload_n 0, 1) := by decide +kernel
theorem dX0_findStates_62 : decode cX0_findStates 62 = .ok (.aload_n 0, 1) := by decide +kernel
theorem dX0_findStates_63 : decode cX0_findStates 63 = .ok (.getfield 17, 3) := by decide +kernel
theorem dX0_findStates_66 : decode cX0_findStates 66 = .ok (.iload_n 1, 1) := by decide +kernel
theorem dX0_findStates_67 : decode cX0_findStates 67 = .ok (.iaload, 1) := by decide +kernel
theorem dX0_findStates_68 : decode cX0_findStates 68 = .ok (.aload_n 0, 1) := by decide +kernel
theorem dX0_findStates_69 : decode cX0_findStates 69 = .ok (.getfield 17, 3) := by decide +kernel
theorem dX0_findStates_72 : decode cX0_findStates 72 = .ok (.iload_n 2, 1) := by decide +kernel
theorem dX0_findStates_73 : decode cX0_findStates 73 = .ok (.iaload, 1) := by decide +kernel
theorem dX0_findStates_74 : decode cX0_findStates 74 = .ok (.invokevirtual 97, 3) := by decide +kernel
theorem dX0_findStates_77 : decode cX0_findStates 77 = .ok (.invokevirtual 100, 3) := by decide +kernel
theorem dX0_findStates_80 : decode cX0_findStates 80 = .ok (.aload_n 0, 1) := by decide +kernel
theorem dX0_findStates_81 : decode cX0_findStates 81 = .ok (.aload_n 0, 1) := by decide +kernel
theorem dX0_findStates_82 : decode cX0_findStates 82 = .ok (.aload_n 0, 1) := by decide +kernel
theorem dX0_findStates_83 : decode cX0_findStates 83 = .ok (.getfield 17, 3) := by decide +kernel
theorem dX0_findStates_86 : decode cX0_findStates 86 = .ok (.iload_n 2, 1) := by decide +kernel
theorem dX0_findStates_87 : decode cX0_findStates 87 = .ok (.iaload, 1) := by decide +kernel
theorem dX0_findStates_88 : decode cX0_findStates 88 = .ok (.aload_n 0, 1) := by decide +kernel
theorem dX0_findStates_89 : decode cX0_findStates 89 = .ok (.getfield 17, 3) := by decide +kernel
theorem dX0_findStates_92 : decode cX0_findStates 92 = .ok (.iload_n 1, 1) := by decide +kernel
theorem dX0_findStates_93 : decode cX0_findStates 93 = .ok (.iaload, 1) := by decide +kernel
theorem dX0_findStates_94 : decode cX0_findStates 94 = .ok (.invokevirtual 97, 3) := by decide +kernel
theorem dX0_findStates_97 : decode cX0_findStates 97 = .ok (.invokevirtual 100, 3) := by decide +kernel
theorem dX0_findStates_100 : decode cX0_findStates 100 = .ok (.iinc 2 1, 3) := by decide +kernel
theorem dX0_findStates_103 : decode cX0_findStates 103 = .ok (.goto (-48), 3) := by decide +kernel
theorem dX0_findStates_106 : decode cX0_findStates 106 = .ok (.iinc 1 1, 3) := by decide +kernel
theorem dX0_findStates_109 : decode cX0_findStates 109 = .ok (.goto (-71), 3) := by decide +kernel
theorem dX0_findStates_112 : decode cX0_findStates 112 = .ok (.return_, 1) := by decide +kernel
theorem dX0_learnBoth_0 : decode cX0_learnBoth 0 = .ok (.aload_n 0, 1) := by decide +kernel
theorem dX0_learnBoth_1 : decode cX0_learnBoth 1 = .ok (.iload_n 1, 1) := by decide +kernel
theorem dX0_learnBoth_2 : decode cX0_learnBoth 2 = .ok (.invokestatic 103, 3) := by decide +kernel
theorem dX0_learnBoth_5 : decode cX0_learnBoth 5 = .ok (.invokevirtual 93, 3) := by decide +kernel
theorem dX0_learnBoth_8 : decode cX0_learnBoth 8 = .ok (.aload_n 0, 1) := by decide +kernel
theorem dX0_learnBoth_9 : decode cX0_learnBoth 9 = .ok (.iload_n 1, 1) := by decide +kernel
theorem dX0_learnBoth_10 : decode cX0_learnBoth 10 = .ok (.invokestatic 106, 3) := by decide +kernel
theorem dX0_learnBoth_13 : decode cX0_learnBoth 13 = .ok (.invokevirtual 93, 3) := by decide +kernel
theorem dX0_learnBoth_16 : decode cX0_learnBoth 16 = .ok (.return_, 1) := by decide +kernel
theorem dX0_learn_0 : decode cX0_learn 0 = .ok (.aload_n 0, 1) := by decide +kernel
theorem dX0_learn_1 : decode cX0_learn 1 = .ok (.getfield 20, 3) := by decide +kernel
theorem dX0_learn_4 : decode cX0_learn 4 = .ok (.iload_n 1, 1) := by decide +kernel
theorem dX0_learn_5 : decode cX0_learn 5 = .ok (.iaload, 1) := by decide +kernel
theorem dX0_learn_6 : decode cX0_learn 6 = .ok (.iconst (-1), 1) := by decide +kernel
theorem dX0_learn_7 : decode cX0_learn 7 = .ok (.if_icmp .ne 33, 3) := by decide +kernel
theorem dX0_learn_10 : decode cX0_learn 10 = .ok (.aload_n 0, 1) := by decide +kernel
theorem dX0_learn_11 : decode cX0_learn 11 = .ok (.getfield 20, 3) := by decide +kernel
theorem dX0_learn_14 : decode cX0_learn 14 = .ok (.iload_n 1, 1) := by decide +kernel
theorem dX0_learn_15 : decode cX0_learn 15 = .ok (.aload_n 0, 1) := by decide +kernel
theorem dX0_learn_16 : decode cX0_learn 16 = .ok (.getfield 87, 3) := by decide +kernel
theorem dX0_learn_19 : decode cX0_learn 19 = .ok (.iastore, 1) := by decide +kernel
theorem dX0_learn_20 : decode cX0_learn 20 = .ok (.aload_n 0, 1) := by decide +kernel
theorem dX0_learn_21 : decode cX0_learn 21 = .ok (.getfield 17, 3) := by decide +kernel
theorem dX0_learn_24 : decode cX0_learn 24 = .ok (.aload_n 0, 1) := by decide +kernel
theorem dX0_learn_25 : decode cX0_learn 25 = .ok (.getfield 87, 3) := by decide +kernel
theorem dX0_learn_28 : decode cX0_learn 28 = .ok (.iload_n 1, 1) := by decide +kernel
theorem dX0_learn_29 : decode cX0_learn 29 = .ok (.iastore, 1) := by decide +kernel
theorem dX0_learn_30 : decode cX0_learn 30 = .ok (.aload_n 0, 1) := by decide +kernel
theorem dX0_learn_31 : decode cX0_learn 31 = .ok (.dup, 1) := by decide +kernel
theorem dX0_learn_32 : decode cX0_learn 32 = .ok (.getfield 87, 3) := by decide +kernel
theorem dX0_learn_35 : decode cX0_learn 35 = .ok (.iconst 1, 1) := by decide +kernel
theorem dX0_learn_36 : decode cX0_learn 36 = .ok (.iadd, 1) := by decide +kernel
theorem dX0_learn_37 : decode cX0_learn 37 = .ok (.putfield 87, 3) := by decide +kernel
theorem dX0_learn_40 : decode cX0_learn 40 = .ok (.return_, 1) := by decide +kernel
theorem dX0_numberStates_0 : decode cX0_numberStates 0 = .ok (.iconst 0, 1) := by decide +kernel
theorem dX0_numberStates_1 : decode cX0_numberStates 1 = .ok (.istore_n 1, 1) := by decide +kernel
theorem dX0_numberStates_2 : decode cX0_numberStates 2 = .ok (.iconst 0, 1) := by decide +kernel
theorem dX0_numberStates_3 : decode cX0_numberStates 3 = .ok (.istore_n 2, 1) := by decide +kernel
theorem dX0_numberStates_4 : decode cX0_numberStates 4 = .ok (.iload_n 2, 1) := by decide +kernel
theorem dX0_numberStates_5 : decode cX0_numberStates 5 = .ok (.sipush 256, 3) := by decide +kernel
theorem dX0_numberStates_8 : decode cX0_numberStates 8 = .ok (.if_icmp .ge 36, 3) := by decide +kernel
theorem dX0_numberStates_11 : decode cX0_numberStates 11 = .ok (.aload_n 0, 1) := by decide +kernel
theorem dX0_numberStates_12 : decode cX0_numberStates 12 = .ok (.getfield 20, 3) := by decide +kernel
theorem dX0_numberStates_15 : decode cX0_numberStates 15 = .ok (.iload_n 2, 1) := by decide +kernel
theorem dX0_numberStates_16 : decode cX0_numberStates 16 = .ok (.iaload, 1) := by decide +kernel
theorem dX0_numberStates_17 : decode cX0_numberStates 17 = .ok (.iconst (-1), 1) := by decide +kernel
theorem dX0_numberStates_18 : decode cX0_numberStates 18 = .ok (.if_icmp .eq 20, 3) := by decide +kernel
theorem dX0_numberStates_21 : decode cX0_numberStates 21 = .ok (.aload_n 0, 1) := by decide +kernel
theorem dX0_numberStates_22 : decode cX0_numberStates 22 = .ok (.getfield 20, 3) := by decide +kernel
theorem dX0_numberStates_25 : decode cX0_numberStates 25 = .ok (.iload_n 2, 1) := by decide +kernel
theorem dX0_numberStates_26 : decode cX0_numberStates 26 = .ok (.iload_n 1, 1) := by decide +kernel
theorem dX0_numberStates_27 : decode cX0_numberStates 27 = .ok (.iastore, 1) := by decide +kernel
theorem dX0_numberStates_28 : decode cX0_numberStates 28 = .ok (.aload_n 0, 1) := by decide +kernel
theorem dX0_numberStates_29 : decode cX0_numberStates 29 = .ok (.getfield 17, 3) := by decide +kernel
theorem dX0_numberStates_32 : decode cX0_numberStates 32 = .ok (.iload_n 1, 1) := by decide +kernel
theorem dX0_numberStates_33 : decode cX0_numberStates 33 = .ok (.iload_n 2, 1) := by decide +kernel
theorem dX0_numberStates_34 : decode cX0_numberStates 34 = .ok (.iastore, 1) := by decide +kernel
theorem dX0_numberStates_35 : decode cX0_numberStates 35 = .ok (.iinc 1 1, 3) := by decide +kernel
theorem dX0_numberStates_38 : decode cX0_numberStates 38 = .ok (.iinc 2 1, 3) := by decide +kernel
theorem dX0_numberStates_41 : decode cX0_numberStates 41 = .ok (.goto (-37), 3) := by decide +kernel
theorem dX0_numberStates_44 : decode cX0_numberStates 44 = .ok (.return_, 1) := by decide +kernel
theorem dX0_countRules_0 : decode cX0_countRules 0 = .ok (.aload_n 0, 1) := by decide +kernel
theorem dX0_countRules_1 : decode cX0_countRules 1 = .ok (.getfield 23, 3) := by decide +kernel
theorem dX0_countRules_4 : decode cX0_countRules 4 = .ok (.iconst 0, 1) := by decide +kernel
theorem dX0_countRules_5 : decode cX0_countRules 5 = .ok (.iconst 0, 1) := by decide +kernel
theorem dX0_countRules_6 : decode cX0_countRules 6 = .ok (.iastore, 1) := by decide +kernel
theorem dX0_countRules_7 : decode cX0_countRules 7 = .ok (.iconst 0, 1) := by decide +kernel
theorem dX0_countRules_8 : decode cX0_countRules 8 = .ok (.istore_n 1, 1) := by decide +kernel
theorem dX0_countRules_9 : decode cX0_countRules 9 = .ok (.iload_n 1, 1) := by decide +kernel
theorem dX0_countRules_10 : decode cX0_countRules 10 = .ok (.aload_n 0, 1) := by decide +kernel
theorem dX0_countRules_11 : decode cX0_countRules 11 = .ok (.getfield 87, 3) := by decide +kernel
theorem dX0_countRules_14 : decode cX0_countRules 14 = .ok (.if_icmp .ge 55, 3) := by decide +kernel
theorem dX0_countRules_17 : decode cX0_countRules 17 = .ok (.iconst 0, 1) := by decide +kernel
theorem dX0_countRules_18 : decode cX0_countRules 18 = .ok (.istore_n 2, 1) := by decide +kernel
theorem dX0_countRules_19 : decode cX0_countRules 19 = .ok (.iconst 0, 1) := by decide +kernel
theorem dX0_countRules_20 : decode cX0_countRules 20 = .ok (.istore_n 3, 1) := by decide +kernel
theorem dX0_countRules_21 : decode cX0_countRules 21 = .ok (.iload_n 3, 1) := by decide +kernel
theorem dX0_countRules_22 : decode cX0_countRules 22 = .ok (.aload_n 0, 1) := by decide +kernel
theorem dX0_countRules_23 : decode cX0_countRules 23 = .ok (.getfield 87, 3) := by decide +kernel
theorem dX0_countRules_26 : decode cX0_countRules 26 = .ok (.if_icmp .ge 21, 3) := by decide +kernel
theorem dX0_countRules_29 : decode cX0_countRules 29 = .ok (.aload_n 0, 1) := by decide +kernel
theorem dX0_countRules_30 : decode cX0_countRules 30 = .ok (.iload_n 1, 1) := by decide +kernel
theorem dX0_countRules_31 : decode cX0_countRules 31 = .ok (.iload_n 3, 1) := by decide +kernel
theorem dX0_countRules_32 : decode cX0_countRules 32 = .ok (.invokevirtual 109, 3) := by decide +kernel
theorem dX0_countRules_35 : decode cX0_countRules 35 = .ok (.ifCond .eq 6, 3) := by decide +kernel
theorem dX0_countRules_38 : decode cX0_countRules 38 = .ok (.iinc 2 1, 3) := by decide +kernel
theorem dX0_countRules_41 : decode cX0_countRules 41 = .ok (.iinc 3 1, 3) := by decide +kernel
theorem dX0_countRules_44 : decode cX0_countRules 44 = .ok (.goto (-23), 3) := by decide +kernel
theorem dX0_countRules_47 : decode cX0_countRules 47 = .ok (.aload_n 0, 1) := by decide +kernel
theorem dX0_countRules_48 : decode cX0_countRules 48 = .ok (.getfield 23, 3) := by decide +kernel
theorem dX0_countRules_51 : decode cX0_countRules 51 = .ok (.iload_n 1, 1) := by decide +kernel
theorem dX0_countRules_52 : decode cX0_countRules 52 = .ok (.iconst 1, 1) := by decide +kernel
theorem dX0_countRules_53 : decode cX0_countRules 53 = .ok (.iadd, 1) := by decide +kernel
theorem dX0_countRules_54 : decode cX0_countRules 54 = .ok (.aload_n 0, 1) := by decide +kernel
theorem dX0_countRules_55 : decode cX0_countRules 55 = .ok (.getfield 23, 3) := by decide +kernel
theorem dX0_countRules_58 : decode cX0_countRules 58 = .ok (.iload_n 1, 1) := by decide +kernel
theorem dX0_countRules_59 : decode cX0_countRules 59 = .ok (.iaload, 1) := by decide +kernel
theorem dX0_countRules_60 : decode cX0_countRules 60 = .ok (.iload_n 2, 1) := by decide +kernel
theorem dX0_countRules_61 : decode cX0_countRules 61 = .ok (.iadd, 1) := by decide +kernel
theorem dX0_countRules_62 : decode cX0_countRules 62 = .ok (.iastore, 1) := by decide +kernel
theorem dX0_countRules_63 : decode cX0_countRules 63 = .ok (.iinc 1 1, 3) := by decide +kernel
theorem dX0_countRules_66 : decode cX0_countRules 66 = .ok (.goto (-57), 3) := by decide +kernel
theorem dX0_countRules_69 : decode cX0_countRules 69 = .ok (.return_, 1) := by decide +kernel
theorem dX0_isRule_0 : decode cX0_isRule 0 = .ok (.aload_n 0, 1) := by decide +kernel
theorem dX0_isRule_1 : decode cX0_isRule 1 = .ok (.aload_n 0, 1) := by decide +kernel
theorem dX0_isRule_2 : decode cX0_isRule 2 = .ok (.getfield 17, 3) := by decide +kernel
theorem dX0_isRule_5 : decode cX0_isRule 5 = .ok (.iload_n 1, 1) := by decide +kernel
theorem dX0_isRule_6 : decode cX0_isRule 6 = .ok (.iaload, 1) := by decide +kernel
theorem dX0_isRule_7 : decode cX0_isRule 7 = .ok (.aload_n 0, 1) := by decide +kernel
theorem dX0_isRule_8 : decode cX0_isRule 8 = .ok (.getfield 17, 3) := by decide +kernel
theorem dX0_isRule_11 : decode cX0_isRule 11 = .ok (.iload_n 2, 1) := by decide +kernel
theorem dX0_isRule_12 : decode cX0_isRule 12 = .ok (.iaload, 1) := by decide +kernel
theorem dX0_isRule_13 : decode cX0_isRule 13 = .ok (.invokevirtual 97, 3) := by decide +kernel
theorem dX0_isRule_16 : decode cX0_isRule 16 = .ok (.aload_n 0, 1) := by decide +kernel
theorem dX0_isRule_17 : decode cX0_isRule 17 = .ok (.getfield 17, 3) := by decide +kernel
theorem dX0_isRule_20 : decode cX0_isRule 20 = .ok (.iload_n 1, 1) := by decide +kernel
theorem dX0_isRule_21 : decode cX0_isRule 21 = .ok (.iaload, 1) := by decide +kernel
theorem dX0_isRule_22 : decode cX0_isRule 22 = .ok (.aload_n 0, 1) := by decide +kernel
theorem dX0_isRule_23 : decode cX0_isRule 23 = .ok (.getfield 17, 3) := by decide +kernel
theorem dX0_isRule_26 : decode cX0_isRule 26 = .ok (.iload_n 2, 1) := by decide +kernel
theorem dX0_isRule_27 : decode cX0_isRule 27 = .ok (.iaload, 1) := by decide +kernel
theorem dX0_isRule_28 : decode cX0_isRule 28 = .ok (.invokestatic 60, 3) := by decide +kernel
theorem dX0_isRule_31 : decode cX0_isRule 31 = .ok (.if_icmp .eq 7, 3) := by decide +kernel
theorem dX0_isRule_34 : decode cX0_isRule 34 = .ok (.iconst 1, 1) := by decide +kernel
theorem dX0_isRule_35 : decode cX0_isRule 35 = .ok (.goto 4, 3) := by decide +kernel
theorem dX0_isRule_38 : decode cX0_isRule 38 = .ok (.iconst 0, 1) := by decide +kernel
theorem dX0_isRule_39 : decode cX0_isRule 39 = .ok (.ireturn, 1) := by decide +kernel
theorem dX0_stateCount_0 : decode cX0_stateCount 0 = .ok (.aload_n 0, 1) := by decide +kernel
theorem dX0_stateCount_1 : decode cX0_stateCount 1 = .ok (.getfield 87, 3) := by decide +kernel
theorem dX0_stateCount_4 : decode cX0_stateCount 4 = .ok (.ireturn, 1) := by decide +kernel
theorem dX0_ruleCount_0 : decode cX0_ruleCount 0 = .ok (.aload_n 0, 1) := by decide +kernel
theorem dX0_ruleCount_1 : decode cX0_ruleCount 1 = .ok (.getfield 23, 3) := by decide +kernel
theorem dX0_ruleCount_4 : decode cX0_ruleCount 4 = .ok (.aload_n 0, 1) := by decide +kernel
theorem dX0_ruleCount_5 : decode cX0_ruleCount 5 = .ok (.getfield 87, 3) := by decide +kernel
theorem dX0_ruleCount_8 : decode cX0_ruleCount 8 = .ok (.iaload, 1) := by decide +kernel
theorem dX0_ruleCount_9 : decode cX0_ruleCount 9 = .ok (.ireturn, 1) := by decide +kernel
theorem dX0_codeOf_0 : decode cX0_codeOf 0 = .ok (.aload_n 0, 1) := by decide +kernel
theorem dX0_codeOf_1 : decode cX0_codeOf 1 = .ok (.getfield 17, 3) := by decide +kernel
theorem dX0_codeOf_4 : decode cX0_codeOf 4 = .ok (.iload_n 1, 1) := by decide +kernel
theorem dX0_codeOf_5 : decode cX0_codeOf 5 = .ok (.iaload, 1) := by decide +kernel
theorem dX0_codeOf_6 : decode cX0_codeOf 6 = .ok (.ireturn, 1) := by decide +kernel
theorem dX0_ruleFact_0 : decode cX0_ruleFact 0 = .ok (.aload_n 0, 1) := by decide +kernel
theorem dX0_ruleFact_1 : decode cX0_ruleFact 1 = .ok (.iload_n 1, 1) := by decide +kernel
theorem dX0_ruleFact_2 : decode cX0_ruleFact 2 = .ok (.invokevirtual 113, 3) := by decide +kernel
theorem dX0_ruleFact_5 : decode cX0_ruleFact 5 = .ok (.istore_n 3, 1) := by decide +kernel
theorem dX0_ruleFact_6 : decode cX0_ruleFact 6 = .ok (.aload_n 0, 1) := by decide +kernel
theorem dX0_ruleFact_7 : decode cX0_ruleFact 7 = .ok (.iload_n 1, 1) := by decide +kernel
theorem dX0_ruleFact_8 : decode cX0_ruleFact 8 = .ok (.iload_n 3, 1) := by decide +kernel
theorem dX0_ruleFact_9 : decode cX0_ruleFact 9 = .ok (.invokevirtual 116, 3) := by decide +kernel
theorem dX0_ruleFact_12 : decode cX0_ruleFact 12 = .ok (.istore 4, 2) := by decide +kernel
theorem dX0_ruleFact_14 : decode cX0_ruleFact 14 = .ok (.iload_n 2, 1) := by decide +kernel
theorem dX0_ruleFact_15 : decode cX0_ruleFact 15 = .ok (.ifCond .ne 5, 3) := by decide +kernel
theorem dX0_ruleFact_18 : decode cX0_ruleFact 18 = .ok (.iload_n 3, 1) := by decide +kernel
theorem dX0_ruleFact_19 : decode cX0_ruleFact 19 = .ok (.ireturn, 1) := by decide +kernel
theorem dX0_ruleFact_20 : decode cX0_ruleFact 20 = .ok (.iload_n 2, 1) := by decide +kernel
theorem dX0_ruleFact_21 : decode cX0_ruleFact 21 = .ok (.iconst 1, 1) := by decide +kernel
theorem dX0_ruleFact_22 : decode cX0_ruleFact 22 = .ok (.if_icmp .ne 6, 3) := by decide +kernel
theorem dX0_ruleFact_25 : decode cX0_ruleFact 25 = .ok (.iload 4, 2) := by decide +kernel
theorem dX0_ruleFact_27 : decode cX0_ruleFact 27 = .ok (.ireturn, 1) := by decide +kernel
theorem dX0_ruleFact_28 : decode cX0_ruleFact 28 = .ok (.aload_n 0, 1) := by decide +kernel
theorem dX0_ruleFact_29 : decode cX0_ruleFact 29 = .ok (.aload_n 0, 1) := by decide +kernel
theorem dX0_ruleFact_30 : decode cX0_ruleFact 30 = .ok (.getfield 17, 3) := by decide +kernel
theorem dX0_ruleFact_33 : decode cX0_ruleFact 33 = .ok (.iload_n 3, 1) := by decide +kernel
theorem dX0_ruleFact_34 : decode cX0_ruleFact 34 = .ok (.iaload, 1) := by decide +kernel
theorem dX0_ruleFact_35 : decode cX0_ruleFact 35 = .ok (.aload_n 0, 1) := by decide +kernel
theorem dX0_ruleFact_36 : decode cX0_ruleFact 36 = .ok (.getfield 17, 3) := by decide +kernel
theorem dX0_ruleFact_39 : decode cX0_ruleFact 39 = .ok (.iload 4, 2) := by decide +kernel
theorem dX0_ruleFact_41 : decode cX0_ruleFact 41 = .ok (.iaload, 1) := by decide +kernel
theorem dX0_ruleFact_42 : decode cX0_ruleFact 42 = .ok (.invokevirtual 97, 3) := by decide +kernel
theorem dX0_ruleFact_45 : decode cX0_ruleFact 45 = .ok (.istore 5, 2) := by decide +kernel
theorem dX0_ruleFact_47 : decode cX0_ruleFact 47 = .ok (.aload_n 0, 1) := by decide +kernel
theorem dX0_ruleFact_48 : decode cX0_ruleFact 48 = .ok (.getfield 20, 3) := by decide +kernel
theorem dX0_ruleFact_51 : decode cX0_ruleFact 51 = .ok (.iload_n 2, 1) := by decide +kernel
theorem dX0_ruleFact_52 : decode cX0_ruleFact 52 = .ok (.iconst 2, 1) := by decide +kernel
theorem dX0_ruleFact_53 : decode cX0_ruleFact 53 = .ok (.if_icmp .ne 11, 3) := by decide +kernel
theorem dX0_ruleFact_56 : decode cX0_ruleFact 56 = .ok (.iload 5, 2) := by decide +kernel
theorem dX0_ruleFact_58 : decode cX0_ruleFact 58 = .ok (.invokestatic 103, 3) := by decide +kernel
theorem dX0_ruleFact_61 : decode cX0_ruleFact 61 = .ok (.goto 8, 3) := by decide +kernel
theorem dX0_ruleFact_64 : decode cX0_ruleFact 64 = .ok (.iload 5, 2) := by decide +kernel
theorem dX0_ruleFact_66 : decode cX0_ruleFact 66 = .ok (.invokestatic 106, 3) := by decide +kernel
theorem dX0_ruleFact_69 : decode cX0_ruleFact 69 = .ok (.iaload, 1) := by decide +kernel
theorem dX0_ruleFact_70 : decode cX0_ruleFact 70 = .ok (.ireturn, 1) := by decide +kernel
theorem dX0_firstOfRule_0 : decode cX0_firstOfRule 0 = .ok (.iconst 0, 1) := by decide +kernel
theorem dX0_firstOfRule_1 : decode cX0_firstOfRule 1 = .ok (.istore_n 2, 1) := by decide +kernel
theorem dX0_firstOfRule_2 : decode cX0_firstOfRule 2 = .ok (.iload_n 2, 1) := by decide +kernel
theorem dX0_firstOfRule_3 : decode cX0_firstOfRule 3 = .ok (.aload_n 0, 1) := by decide +kernel
theorem dX0_firstOfRule_4 : decode cX0_firstOfRule 4 = .ok (.getfield 87, 3) := by decide +kernel
theorem dX0_firstOfRule_7 : decode cX0_firstOfRule 7 = .ok (.iconst 1, 1) := by decide +kernel
theorem dX0_firstOfRule_8 : decode cX0_firstOfRule 8 = .ok (.isub, 1) := by decide +kernel
theorem dX0_firstOfRule_9 : decode cX0_firstOfRule 9 = .ok (.if_icmp .ge 21, 3) := by decide +kernel
theorem dX0_firstOfRule_12 : decode cX0_firstOfRule 12 = .ok (.aload_n 0, 1) := by decide +kernel
theorem dX0_firstOfRule_13 : decode cX0_firstOfRule 13 = .ok (.getfield 23, 3) := by decide +kernel
theorem dX0_firstOfRule_16 : decode cX0_firstOfRule 16 = .ok (.iload_n 2, 1) := by decide +kernel
theorem dX0_firstOfRule_17 : decode cX0_firstOfRule 17 = .ok (.iconst 1, 1) := by decide +kernel
theorem dX0_firstOfRule_18 : decode cX0_firstOfRule 18 = .ok (.iadd, 1) := by decide +kernel
theorem dX0_firstOfRule_19 : decode cX0_firstOfRule 19 = .ok (.iaload, 1) := by decide +kernel
theorem dX0_firstOfRule_20 : decode cX0_firstOfRule 20 = .ok (.iload_n 1, 1) := by decide +kernel
theorem dX0_firstOfRule_21 : decode cX0_firstOfRule 21 = .ok (.if_icmp .gt 9, 3) := by decide +kernel
theorem dX0_firstOfRule_24 : decode cX0_firstOfRule 24 = .ok (.iinc 2 1, 3) := by decide +kernel
theorem dX0_firstOfRule_27 : decode cX0_firstOfRule 27 = .ok (.goto (-25), 3) := by decide +kernel
theorem dX0_firstOfRule_30 : decode cX0_firstOfRule 30 = .ok (.iload_n 2, 1) := by decide +kernel
theorem dX0_firstOfRule_31 : decode cX0_firstOfRule 31 = .ok (.ireturn, 1) := by decide +kernel
theorem dX0_secondOfRule_0 : decode cX0_secondOfRule 0 = .ok (.aload_n 0, 1) := by decide +kernel
theorem dX0_secondOfRule_1 : decode cX0_secondOfRule 1 = .ok (.getfield 23, 3) := by decide +kernel
theorem dX0_secondOfRule_4 : decode cX0_secondOfRule 4 = .ok (.iload_n 2, 1) := by decide +kernel
theorem dX0_secondOfRule_5 : decode cX0_secondOfRule 5 = .ok (.iaload, 1) := by decide +kernel
theorem dX0_secondOfRule_6 : decode cX0_secondOfRule 6 = .ok (.istore_n 3, 1) := by decide +kernel
theorem dX0_secondOfRule_7 : decode cX0_secondOfRule 7 = .ok (.iconst 0, 1) := by decide +kernel
theorem dX0_secondOfRule_8 : decode cX0_secondOfRule 8 = .ok (.istore 4, 2) := by decide +kernel
theorem dX0_secondOfRule_10 : decode cX0_secondOfRule 10 = .ok (.iload 4, 2) := by decide +kernel
theorem dX0_secondOfRule_12 : decode cX0_secondOfRule 12 = .ok (.aload_n 0, 1) := by decide +kernel
theorem dX0_secondOfRule_13 : decode cX0_secondOfRule 13 = .ok (.getfield 87, 3) := by decide +kernel
theorem dX0_secondOfRule_16 : decode cX0_secondOfRule 16 = .ok (.if_icmp .ge 30, 3) := by decide +kernel
theorem dX0_secondOfRule_19 : decode cX0_secondOfRule 19 = .ok (.aload_n 0, 1) := by decide +kernel
theorem dX0_secondOfRule_20 : decode cX0_secondOfRule 20 = .ok (.iload_n 2, 1) := by decide +kernel
theorem dX0_secondOfRule_21 : decode cX0_secondOfRule 21 = .ok (.iload 4, 2) := by decide +kernel
theorem dX0_secondOfRule_23 : decode cX0_secondOfRule 23 = .ok (.invokevirtual 109, 3) := by decide +kernel
theorem dX0_secondOfRule_26 : decode cX0_secondOfRule 26 = .ok (.ifCond .eq 14, 3) := by decide +kernel
theorem dX0_secondOfRule_29 : decode cX0_secondOfRule 29 = .ok (.iload_n 3, 1) := by decide +kernel
theorem dX0_secondOfRule_30 : decode cX0_secondOfRule 30 = .ok (.iload_n 1, 1) := by decide +kernel
theorem dX0_secondOfRule_31 : decode cX0_secondOfRule 31 = .ok (.if_icmp .ne 6, 3) := by decide +kernel
theorem dX0_secondOfRule_34 : decode cX0_secondOfRule 34 = .ok (.iload 4, 2) := by decide +kernel
theorem dX0_secondOfRule_36 : decode cX0_secondOfRule 36 = .ok (.ireturn, 1) := by decide +kernel
theorem dX0_secondOfRule_37 : decode cX0_secondOfRule 37 = .ok (.iinc 3 1, 3) := by decide +kernel
theorem dX0_secondOfRule_40 : decode cX0_secondOfRule 40 = .ok (.iinc 4 1, 3) := by decide +kernel
theorem dX0_secondOfRule_43 : decode cX0_secondOfRule 43 = .ok (.goto (-33), 3) := by decide +kernel
theorem dX0_secondOfRule_46 : decode cX0_secondOfRule 46 = .ok (.iconst 0, 1) := by decide +kernel
theorem dX0_secondOfRule_47 : decode cX0_secondOfRule 47 = .ok (.ireturn, 1) := by decide +kernel
theorem dX1_of_0 : decode cX1_of 0 = .ok (.iload_n 1, 1) := by decide +kernel
theorem dX1_of_1 : decode cX1_of 1 = .ok (.bipush 32, 2) := by decide +kernel
theorem dX1_of_3 : decode cX1_of 3 = .ok (.iadd, 1) := by decide +kernel
theorem dX1_of_4 : decode cX1_of 4 = .ok (.iconst 1, 1) := by decide +kernel
theorem dX1_of_5 : decode cX1_of 5 = .ok (.ishl, 1) := by decide +kernel
theorem dX1_of_6 : decode cX1_of 6 = .ok (.istore_n 3, 1) := by decide +kernel
theorem dX1_of_7 : decode cX1_of 7 = .ok (.iload_n 0, 1) := by decide +kernel
theorem dX1_of_8 : decode cX1_of 8 = .ok (.ifCond .eq 9, 3) := by decide +kernel
theorem dX1_of_11 : decode cX1_of 11 = .ok (.iload_n 3, 1) := by decide +kernel
theorem dX1_of_12 : decode cX1_of 12 = .ok (.sipush 128, 3) := by decide +kernel
theorem dX1_of_15 : decode cX1_of 15 = .ok (.ior, 1) := by decide +kernel
theorem dX1_of_16 : decode cX1_of 16 = .ok (.istore_n 3, 1) := by decide +kernel
theorem dX1_of_17 : decode cX1_of 17 = .ok (.iload_n 2, 1) := by decide +kernel
theorem dX1_of_18 : decode cX1_of 18 = .ok (.ifCond .eq 9, 3) := by decide +kernel
theorem dX1_of_21 : decode cX1_of 21 = .ok (.iload_n 3, 1) := by decide +kernel
theorem dX1_of_22 : decode cX1_of 22 = .ok (.iconst 1, 1) := by decide +kernel
theorem dX1_of_23 : decode cX1_of 23 = .ok (.ior, 1) := by decide +kernel
theorem dX1_of_24 : decode cX1_of 24 = .ok (.goto 4, 3) := by decide +kernel
theorem dX1_of_27 : decode cX1_of 27 = .ok (.iload_n 3, 1) := by decide +kernel
theorem dX1_of_28 : decode cX1_of 28 = .ok (.ireturn, 1) := by decide +kernel
theorem dX1_value_0 : decode cX1_value 0 = .ok (.iload_n 0, 1) := by decide +kernel
theorem dX1_value_1 : decode cX1_value 1 = .ok (.iconst 1, 1) := by decide +kernel
theorem dX1_value_2 : decode cX1_value 2 = .ok (.ishr, 1) := by decide +kernel
theorem dX1_value_3 : decode cX1_value 3 = .ok (.bipush 63, 2) := by decide +kernel
theorem dX1_value_5 : decode cX1_value 5 = .ok (.iand, 1) := by decide +kernel
theorem dX1_value_6 : decode cX1_value 6 = .ok (.bipush 32, 2) := by decide +kernel
theorem dX1_value_8 : decode cX1_value 8 = .ok (.isub, 1) := by decide +kernel
theorem dX1_value_9 : decode cX1_value 9 = .ok (.ireturn, 1) := by decide +kernel
theorem dX1_leads_0 : decode cX1_leads 0 = .ok (.iload_n 0, 1) := by decide +kernel
theorem dX1_leads_1 : decode cX1_leads 1 = .ok (.sipush 128, 3) := by decide +kernel
theorem dX1_leads_4 : decode cX1_leads 4 = .ok (.iand, 1) := by decide +kernel
theorem dX1_leads_5 : decode cX1_leads 5 = .ok (.ifCond .eq 7, 3) := by decide +kernel
theorem dX1_leads_8 : decode cX1_leads 8 = .ok (.iconst 1, 1) := by decide +kernel
theorem dX1_leads_9 : decode cX1_leads 9 = .ok (.goto 4, 3) := by decide +kernel
theorem dX1_leads_12 : decode cX1_leads 12 = .ok (.iconst 0, 1) := by decide +kernel
theorem dX1_leads_13 : decode cX1_leads 13 = .ok (.ireturn, 1) := by decide +kernel
theorem dX1_opinion_0 : decode cX1_opinion 0 = .ok (.iload_n 0, 1) := by decide +kernel
theorem dX1_opinion_1 : decode cX1_opinion 1 = .ok (.iconst 1, 1) := by decide +kernel
theorem dX1_opinion_2 : decode cX1_opinion 2 = .ok (.iand, 1) := by decide +kernel
theorem dX1_opinion_3 : decode cX1_opinion 3 = .ok (.ireturn, 1) := by decide +kernel
theorem dX1_fact_0 : decode cX1_fact 0 = .ok (.iload_n 1, 1) := by decide +kernel
theorem dX1_fact_1 : decode cX1_fact 1 = .ok (.ifCond .ne 8, 3) := by decide +kernel
theorem dX1_fact_4 : decode cX1_fact 4 = .ok (.iload_n 0, 1) := by decide +kernel
theorem dX1_fact_5 : decode cX1_fact 5 = .ok (.invokestatic 9, 3) := by decide +kernel
theorem dX1_fact_8 : decode cX1_fact 8 = .ok (.ireturn, 1) := by decide +kernel
theorem dX1_fact_9 : decode cX1_fact 9 = .ok (.iload_n 1, 1) := by decide +kernel
theorem dX1_fact_10 : decode cX1_fact 10 = .ok (.iconst 1, 1) := by decide +kernel
theorem dX1_fact_11 : decode cX1_fact 11 = .ok (.if_icmp .ne 16, 3) := by decide +kernel
theorem dX1_fact_14 : decode cX1_fact 14 = .ok (.iload_n 0, 1) := by decide +kernel
theorem dX1_fact_15 : decode cX1_fact 15 = .ok (.invokestatic 13, 3) := by decide +kernel
theorem dX1_fact_18 : decode cX1_fact 18 = .ok (.ifCond .eq 7, 3) := by decide +kernel
theorem dX1_fact_21 : decode cX1_fact 21 = .ok (.iconst 1, 1) := by decide +kernel
theorem dX1_fact_22 : decode cX1_fact 22 = .ok (.goto 4, 3) := by decide +kernel
theorem dX1_fact_25 : decode cX1_fact 25 = .ok (.iconst 0, 1) := by decide +kernel
theorem dX1_fact_26 : decode cX1_fact 26 = .ok (.ireturn, 1) := by decide +kernel
theorem dX1_fact_27 : decode cX1_fact 27 = .ok (.iload_n 0, 1) := by decide +kernel
theorem dX1_fact_28 : decode cX1_fact 28 = .ok (.invokestatic 17, 3) := by decide +kernel
theorem dX1_fact_31 : decode cX1_fact 31 = .ok (.ireturn, 1) := by decide +kernel
theorem dX1_pair_0 : decode cX1_pair 0 = .ok (.iload_n 0, 1) := by decide +kernel
theorem dX1_pair_1 : decode cX1_pair 1 = .ok (.bipush 8, 2) := by decide +kernel
theorem dX1_pair_3 : decode cX1_pair 3 = .ok (.ishl, 1) := by decide +kernel
theorem dX1_pair_4 : decode cX1_pair 4 = .ok (.iload_n 1, 1) := by decide +kernel
theorem dX1_pair_5 : decode cX1_pair 5 = .ok (.ior, 1) := by decide +kernel
theorem dX1_pair_6 : decode cX1_pair 6 = .ok (.ireturn, 1) := by decide +kernel
theorem dX1_first_0 : decode cX1_first 0 = .ok (.iload_n 0, 1) := by decide +kernel
theorem dX1_first_1 : decode cX1_first 1 = .ok (.bipush 8, 2) := by decide +kernel
theorem dX1_first_3 : decode cX1_first 3 = .ok (.ishr, 1) := by decide +kernel
theorem dX1_first_4 : decode cX1_first 4 = .ok (.sipush 255, 3) := by decide +kernel
theorem dX1_first_7 : decode cX1_first 7 = .ok (.iand, 1) := by decide +kernel
theorem dX1_first_8 : decode cX1_first 8 = .ok (.ireturn, 1) := by decide +kernel
theorem dX1_second_0 : decode cX1_second 0 = .ok (.iload_n 0, 1) := by decide +kernel
theorem dX1_second_1 : decode cX1_second 1 = .ok (.sipush 255, 3) := by decide +kernel
theorem dX1_second_4 : decode cX1_second 4 = .ok (.iand, 1) := by decide +kernel
theorem dX1_second_5 : decode cX1_second 5 = .ok (.ireturn, 1) := by decide +kernel
theorem dX1_ofAtom_0 : decode cX1_ofAtom 0 = .ok (.lload_n 0, 1) := by decide +kernel
theorem dX1_ofAtom_1 : decode cX1_ofAtom 1 = .ok (.iload_n 2, 1) := by decide +kernel
theorem dX1_ofAtom_2 : decode cX1_ofAtom 2 = .ok (.bipush 8, 2) := by decide +kernel
theorem dX1_ofAtom_4 : decode cX1_ofAtom 4 = .ok (.imul, 1) := by decide +kernel
theorem dX1_ofAtom_5 : decode cX1_ofAtom 5 = .ok (.lshr, 1) := by decide +kernel
theorem dX1_ofAtom_6 : decode cX1_ofAtom 6 = .ok (.l2i, 1) := by decide +kernel
theorem dX1_ofAtom_7 : decode cX1_ofAtom 7 = .ok (.sipush 255, 3) := by decide +kernel
theorem dX1_ofAtom_10 : decode cX1_ofAtom 10 = .ok (.iand, 1) := by decide +kernel
theorem dX1_ofAtom_11 : decode cX1_ofAtom 11 = .ok (.ireturn, 1) := by decide +kernel
theorem dX1_atAtom_0 : decode cX1_atAtom 0 = .ok (.iload_n 0, 1) := by decide +kernel
theorem dX1_atAtom_1 : decode cX1_atAtom 1 = .ok (.i2l, 1) := by decide +kernel
theorem dX1_atAtom_2 : decode cX1_atAtom 2 = .ok (.iload_n 1, 1) := by decide +kernel
theorem dX1_atAtom_3 : decode cX1_atAtom 3 = .ok (.bipush 8, 2) := by decide +kernel
theorem dX1_atAtom_5 : decode cX1_atAtom 5 = .ok (.imul, 1) := by decide +kernel
theorem dX1_atAtom_6 : decode cX1_atAtom 6 = .ok (.lshl, 1) := by decide +kernel
theorem dX1_atAtom_7 : decode cX1_atAtom 7 = .ok (.lreturn, 1) := by decide +kernel
theorem dX1_leadsSomewhere_0 : decode cX1_leadsSomewhere 0 = .ok (.lload_n 0, 1) := by decide +kernel
theorem dX1_leadsSomewhere_1 : decode cX1_leadsSomewhere 1 = .ok (.ldc2_w 20, 3) := by decide +kernel
theorem dX1_leadsSomewhere_4 : decode cX1_leadsSomewhere 4 = .ok (.land, 1) := by decide +kernel
theorem dX1_leadsSomewhere_5 : decode cX1_leadsSomewhere 5 = .ok (.lconst 0, 1) := by decide +kernel
theorem dX1_leadsSomewhere_6 : decode cX1_leadsSomewhere 6 = .ok (.lcmp, 1) := by decide +kernel
theorem dX1_leadsSomewhere_7 : decode cX1_leadsSomewhere 7 = .ok (.ifCond .eq 7, 3) := by decide +kernel
theorem dX1_leadsSomewhere_10 : decode cX1_leadsSomewhere 10 = .ok (.iconst 1, 1) := by decide +kernel
theorem dX1_leadsSomewhere_11 : decode cX1_leadsSomewhere 11 = .ok (.goto 4, 3) := by decide +kernel
theorem dX1_leadsSomewhere_14 : decode cX1_leadsSomewhere 14 = .ok (.iconst 0, 1) := by decide +kernel
theorem dX1_leadsSomewhere_15 : decode cX1_leadsSomewhere 15 = .ok (.ireturn, 1) := by decide +kernel
theorem dX2_init_0 : decode cX2_init 0 = .ok (.aload_n 0, 1) := by decide +kernel
theorem dX2_init_1 : decode cX2_init 1 = .ok (.invokespecial 3, 3) := by decide +kernel
theorem dX2_init_4 : decode cX2_init 4 = .ok (.aload_n 0, 1) := by decide +kernel
theorem dX2_init_5 : decode cX2_init 5 = .ok (.sipush 200, 3) := by decide +kernel
theorem dX2_init_8 : decode cX2_init 8 = .ok (.newarray .long, 2) := by decide +kernel
theorem dX2_init_10 : decode cX2_init 10 = .ok (.putfield 9, 3) := by decide +kernel
theorem dX2_init_13 : decode cX2_init 13 = .ok (.aload_n 0, 1) := by decide +kernel
theorem dX2_init_14 : decode cX2_init 14 = .ok (.bipush 8, 2) := by decide +kernel
theorem dX2_init_16 : decode cX2_init 16 = .ok (.newarray .int, 2) := by decide +kernel
theorem dX2_init_18 : decode cX2_init 18 = .ok (.putfield 15, 3) := by decide +kernel
theorem dX2_init_21 : decode cX2_init 21 = .ok (.aload_n 0, 1) := by decide +kernel
theorem dX2_init_22 : decode cX2_init 22 = .ok (.aload_n 1, 1) := by decide +kernel
theorem dX2_init_23 : decode cX2_init 23 = .ok (.putfield 19, 3) := by decide +kernel
theorem dX2_init_26 : decode cX2_init 26 = .ok (.aload_n 0, 1) := by decide +kernel
theorem dX2_init_27 : decode cX2_init 27 = .ok (.new 23, 3) := by decide +kernel
theorem dX2_init_30 : decode cX2_init 30 = .ok (.dup, 1) := by decide +kernel
theorem dX2_init_31 : decode cX2_init 31 = .ok (.aload_n 1, 1) := by decide +kernel
theorem dX2_init_32 : decode cX2_init 32 = .ok (.invokespecial 25, 3) := by decide +kernel
theorem dX2_init_35 : decode cX2_init 35 = .ok (.putfield 28, 3) := by decide +kernel
theorem dX2_init_38 : decode cX2_init 38 = .ok (.return_, 1) := by decide +kernel
theorem dX2_reset_0 : decode cX2_reset 0 = .ok (.aload_n 0, 1) := by decide +kernel
theorem dX2_reset_1 : decode cX2_reset 1 = .ok (.getfield 15, 3) := by decide +kernel
theorem dX2_reset_4 : decode cX2_reset 4 = .ok (.iconst 0, 1) := by decide +kernel
theorem dX2_reset_5 : decode cX2_reset 5 = .ok (.invokestatic 32, 3) := by decide +kernel
theorem dX2_reset_8 : decode cX2_reset 8 = .ok (.aload_n 0, 1) := by decide +kernel
theorem dX2_reset_9 : decode cX2_reset 9 = .ok (.iconst 0, 1) := by decide +kernel
theorem dX2_reset_10 : decode cX2_reset 10 = .ok (.putfield 38, 3) := by decide +kernel
theorem dX2_reset_13 : decode cX2_reset 13 = .ok (.return_, 1) := by decide +kernel
theorem dX2_count_0 : decode cX2_count 0 = .ok (.aload_n 0, 1) := by decide +kernel
theorem dX2_count_1 : decode cX2_count 1 = .ok (.getfield 38, 3) := by decide +kernel
theorem dX2_count_4 : decode cX2_count 4 = .ok (.ireturn, 1) := by decide +kernel
theorem dX2_hasAgent_0 : decode cX2_hasAgent 0 = .ok (.iload_n 1, 1) := by decide +kernel
theorem dX2_hasAgent_1 : decode cX2_hasAgent 1 = .ok (.ifCond .lt 15, 3) := by decide +kernel
theorem dX2_hasAgent_4 : decode cX2_hasAgent 4 = .ok (.iload_n 1, 1) := by decide +kernel
theorem dX2_hasAgent_5 : decode cX2_hasAgent 5 = .ok (.aload_n 0, 1) := by decide +kernel
theorem dX2_hasAgent_6 : decode cX2_hasAgent 6 = .ok (.getfield 38, 3) := by decide +kernel
theorem dX2_hasAgent_9 : decode cX2_hasAgent 9 = .ok (.if_icmp .ge 7, 3) := by decide +kernel
theorem dX2_hasAgent_12 : decode cX2_hasAgent 12 = .ok (.iconst 1, 1) := by decide +kernel
theorem dX2_hasAgent_13 : decode cX2_hasAgent 13 = .ok (.goto 4, 3) := by decide +kernel
theorem dX2_hasAgent_16 : decode cX2_hasAgent 16 = .ok (.iconst 0, 1) := by decide +kernel
theorem dX2_hasAgent_17 : decode cX2_hasAgent 17 = .ok (.ireturn, 1) := by decide +kernel
theorem dX2_agent_0 : decode cX2_agent 0 = .ok (.aload_n 0, 1) := by decide +kernel
theorem dX2_agent_1 : decode cX2_agent 1 = .ok (.getfield 9, 3) := by decide +kernel
theorem dX2_agent_4 : decode cX2_agent 4 = .ok (.iload_n 1, 1) := by decide +kernel
theorem dX2_agent_5 : decode cX2_agent 5 = .ok (.laload, 1) := by decide +kernel
theorem dX2_agent_6 : decode cX2_agent 6 = .ok (.lreturn, 1) := by decide +kernel
theorem dX2_letterCounts_0 : decode cX2_letterCounts 0 = .ok (.aload_n 0, 1) := by decide +kernel
theorem dX2_letterCounts_1 : decode cX2_letterCounts 1 = .ok (.getfield 15, 3) := by decide +kernel
theorem dX2_letterCounts_4 : decode cX2_letterCounts 4 = .ok (.areturn, 1) := by decide +kernel
theorem dX2_admit_0 : decode cX2_admit 0 = .ok (.aload_n 0, 1) := by decide +kernel
theorem dX2_admit_1 : decode cX2_admit 1 = .ok (.getfield 19, 3) := by decide +kernel
theorem dX2_admit_4 : decode cX2_admit 4 = .ok (.iload_n 1, 1) := by decide +kernel
theorem dX2_admit_5 : decode cX2_admit 5 = .ok (.invokevirtual 42, 3) := by decide +kernel
theorem dX2_admit_8 : decode cX2_admit 8 = .ok (.lstore_n 3, 1) := by decide +kernel
theorem dX2_admit_9 : decode cX2_admit 9 = .ok (.iconst 0, 1) := by decide +kernel
theorem dX2_admit_10 : decode cX2_admit 10 = .ok (.istore 5, 2) := by decide +kernel
theorem dX2_admit_12 : decode cX2_admit 12 = .ok (.iload 5, 2) := by decide +kernel
theorem dX2_admit_14 : decode cX2_admit 14 = .ok (.iload_n 2, 1) := by decide +kernel
theorem dX2_admit_15 : decode cX2_admit 15 = .ok (.if_icmp .ge 29, 3) := by decide +kernel
theorem dX2_admit_18 : decode cX2_admit 18 = .ok (.aload_n 0, 1) := by decide +kernel
theorem dX2_admit_19 : decode cX2_admit 19 = .ok (.getfield 9, 3) := by decide +kernel
theorem dX2_admit_22 : decode cX2_admit 22 = .ok (.aload_n 0, 1) := by decide +kernel
theorem dX2_admit_23 : decode cX2_admit 23 = .ok (.getfield 38, 3) := by decide +kernel
theorem dX2_admit_26 : decode cX2_admit 26 = .ok (.lload_n 3, 1) := by decide +kernel
theorem dX2_admit_27 : decode cX2_admit 27 = .ok (.lastore, 1) := by decide +kernel
theorem dX2_admit_28 : decode cX2_admit 28 = .ok (.aload_n 0, 1) := by decide +kernel
theorem dX2_admit_29 : decode cX2_admit 29 = .ok (.dup, 1) := by decide +kernel
theorem dX2_admit_30 : decode cX2_admit 30 = .ok (.getfield 38, 3) := by decide +kernel
theorem dX2_admit_33 : decode cX2_admit 33 = .ok (.iconst 1, 1) := by decide +kernel
theorem dX2_admit_34 : decode cX2_admit 34 = .ok (.iadd, 1) := by decide +kernel
theorem dX2_admit_35 : decode cX2_admit 35 = .ok (.putfield 38, 3) := by decide +kernel
theorem dX2_admit_38 : decode cX2_admit 38 = .ok (.iinc 5 1, 3) := by decide +kernel
theorem dX2_admit_41 : decode cX2_admit 41 = .ok (.goto (-29), 3) := by decide +kernel
theorem dX2_admit_44 : decode cX2_admit 44 = .ok (.aload_n 0, 1) := by decide +kernel
theorem dX2_admit_45 : decode cX2_admit 45 = .ok (.getfield 15, 3) := by decide +kernel
theorem dX2_admit_48 : decode cX2_admit 48 = .ok (.iload_n 1, 1) := by decide +kernel
theorem dX2_admit_49 : decode cX2_admit 49 = .ok (.dup2, 1) := by decide +kernel
theorem dX2_admit_50 : decode cX2_admit 50 = .ok (.iaload, 1) := by decide +kernel
theorem dX2_admit_51 : decode cX2_admit 51 = .ok (.iload_n 2, 1) := by decide +kernel
theorem dX2_admit_52 : decode cX2_admit 52 = .ok (.iadd, 1) := by decide +kernel
theorem dX2_admit_53 : decode cX2_admit 53 = .ok (.iastore, 1) := by decide +kernel
theorem dX2_admit_54 : decode cX2_admit 54 = .ok (.return_, 1) := by decide +kernel
theorem dX2_bringTogether_0 : decode cX2_bringTogether 0 = .ok (.aload_n 0, 1) := by decide +kernel
theorem dX2_bringTogether_1 : decode cX2_bringTogether 1 = .ok (.getfield 28, 3) := by decide +kernel
theorem dX2_bringTogether_4 : decode cX2_bringTogether 4 = .ok (.aload_n 0, 1) := by decide +kernel
theorem dX2_bringTogether_5 : decode cX2_bringTogether 5 = .ok (.getfield 9, 3) := by decide +kernel
theorem dX2_bringTogether_8 : decode cX2_bringTogether 8 = .ok (.iload_n 1, 1) := by decide +kernel
theorem dX2_bringTogether_9 : decode cX2_bringTogether 9 = .ok (.laload, 1) := by decide +kernel
theorem dX2_bringTogether_10 : decode cX2_bringTogether 10 = .ok (.aload_n 0, 1) := by decide +kernel
theorem dX2_bringTogether_11 : decode cX2_bringTogether 11 = .ok (.getfield 9, 3) := by decide +kernel
theorem dX2_bringTogether_14 : decode cX2_bringTogether 14 = .ok (.iload_n 2, 1) := by decide +kernel
theorem dX2_bringTogether_15 : decode cX2_bringTogether 15 = .ok (.laload, 1) := by decide +kernel
theorem dX2_bringTogether_16 : decode cX2_bringTogether 16 = .ok (.invokevirtual 48, 3) := by decide +kernel
theorem dX2_bringTogether_19 : decode cX2_bringTogether 19 = .ok (.istore_n 3, 1) := by decide +kernel
theorem dX2_bringTogether_20 : decode cX2_bringTogether 20 = .ok (.aload_n 0, 1) := by decide +kernel
theorem dX2_bringTogether_21 : decode cX2_bringTogether 21 = .ok (.getfield 9, 3) := by decide +kernel
theorem dX2_bringTogether_24 : decode cX2_bringTogether 24 = .ok (.iload_n 1, 1) := by decide +kernel
theorem dX2_bringTogether_25 : decode cX2_bringTogether 25 = .ok (.aload_n 0, 1) := by decide +kernel
theorem dX2_bringTogether_26 : decode cX2_bringTogether 26 = .ok (.getfield 28, 3) := by decide +kernel
theorem dX2_bringTogether_29 : decode cX2_bringTogether 29 = .ok (.invokevirtual 52, 3) := by decide +kernel
theorem dX2_bringTogether_32 : decode cX2_bringTogether 32 = .ok (.lastore, 1) := by decide +kernel
theorem dX2_bringTogether_33 : decode cX2_bringTogether 33 = .ok (.aload_n 0, 1) := by decide +kernel
theorem dX2_bringTogether_34 : decode cX2_bringTogether 34 = .ok (.getfield 9, 3) := by decide +kernel
theorem dX2_bringTogether_37 : decode cX2_bringTogether 37 = .ok (.iload_n 2, 1) := by decide +kernel
theorem dX2_bringTogether_38 : decode cX2_bringTogether 38 = .ok (.aload_n 0, 1) := by decide +kernel
theorem dX2_bringTogether_39 : decode cX2_bringTogether 39 = .ok (.getfield 28, 3) := by decide +kernel
theorem dX2_bringTogether_42 : decode cX2_bringTogether 42 = .ok (.invokevirtual 56, 3) := by decide +kernel
theorem dX2_bringTogether_45 : decode cX2_bringTogether 45 = .ok (.lastore, 1) := by decide +kernel
theorem dX2_bringTogether_46 : decode cX2_bringTogether 46 = .ok (.iload_n 3, 1) := by decide +kernel
theorem dX2_bringTogether_47 : decode cX2_bringTogether 47 = .ok (.ireturn, 1) := by decide +kernel
theorem dX2_sweepOften_0 : decode cX2_sweepOften 0 = .ok (.iconst 0, 1) := by decide +kernel
theorem dX2_sweepOften_1 : decode cX2_sweepOften 1 = .ok (.istore_n 2, 1) := by decide +kernel
theorem dX2_sweepOften_2 : decode cX2_sweepOften 2 = .ok (.iconst 0, 1) := by decide +kernel
theorem dX2_sweepOften_3 : decode cX2_sweepOften 3 = .ok (.istore_n 3, 1) := by decide +kernel
theorem dX2_sweepOften_4 : decode cX2_sweepOften 4 = .ok (.iload_n 3, 1) := by decide +kernel
theorem dX2_sweepOften_5 : decode cX2_sweepOften 5 = .ok (.iload_n 1, 1) := by decide +kernel
theorem dX2_sweepOften_6 : decode cX2_sweepOften 6 = .ok (.if_icmp .ge 28, 3) := by decide +kernel
theorem dX2_sweepOften_9 : decode cX2_sweepOften 9 = .ok (.aload_n 0, 1) := by decide +kernel
theorem dX2_sweepOften_10 : decode cX2_sweepOften 10 = .ok (.invokevirtual 59, 3) := by decide +kernel
theorem dX2_sweepOften_13 : decode cX2_sweepOften 13 = .ok (.istore 4, 2) := by decide +kernel
theorem dX2_sweepOften_15 : decode cX2_sweepOften 15 = .ok (.iload 4, 2) := by decide +kernel
theorem dX2_sweepOften_17 : decode cX2_sweepOften 17 = .ok (.ifCond .ne 6, 3) := by decide +kernel
theorem dX2_sweepOften_20 : decode cX2_sweepOften 20 = .ok (.goto 14, 3) := by decide +kernel
theorem dX2_sweepOften_23 : decode cX2_sweepOften 23 = .ok (.iload_n 2, 1) := by decide +kernel
theorem dX2_sweepOften_24 : decode cX2_sweepOften 24 = .ok (.iload 4, 2) := by decide +kernel
theorem dX2_sweepOften_26 : decode cX2_sweepOften 26 = .ok (.iadd, 1) := by decide +kernel
theorem dX2_sweepOften_27 : decode cX2_sweepOften 27 = .ok (.istore_n 2, 1) := by decide +kernel
theorem dX2_sweepOften_28 : decode cX2_sweepOften 28 = .ok (.iinc 3 1, 3) := by decide +kernel
theorem dX2_sweepOften_31 : decode cX2_sweepOften 31 = .ok (.goto (-27), 3) := by decide +kernel
theorem dX2_sweepOften_34 : decode cX2_sweepOften 34 = .ok (.iload_n 2, 1) := by decide +kernel
theorem dX2_sweepOften_35 : decode cX2_sweepOften 35 = .ok (.ireturn, 1) := by decide +kernel
theorem dX2_sweepOnce_0 : decode cX2_sweepOnce 0 = .ok (.iconst 0, 1) := by decide +kernel
theorem dX2_sweepOnce_1 : decode cX2_sweepOnce 1 = .ok (.istore_n 1, 1) := by decide +kernel
theorem dX2_sweepOnce_2 : decode cX2_sweepOnce 2 = .ok (.aload_n 0, 1) := by decide +kernel
theorem dX2_sweepOnce_3 : decode cX2_sweepOnce 3 = .ok (.invokevirtual 63, 3) := by decide +kernel
theorem dX2_sweepOnce_6 : decode cX2_sweepOnce 6 = .ok (.istore_n 2, 1) := by decide +kernel
theorem dX2_sweepOnce_7 : decode cX2_sweepOnce 7 = .ok (.iconst 0, 1) := by decide +kernel
theorem dX2_sweepOnce_8 : decode cX2_sweepOnce 8 = .ok (.istore_n 3, 1) := by decide +kernel
theorem dX2_sweepOnce_9 : decode cX2_sweepOnce 9 = .ok (.iload_n 3, 1) := by decide +kernel
theorem dX2_sweepOnce_10 : decode cX2_sweepOnce 10 = .ok (.aload_n 0, 1) := by decide +kernel
theorem dX2_sweepOnce_11 : decode cX2_sweepOnce 11 = .ok (.getfield 38, 3) := by decide +kernel
theorem dX2_sweepOnce_14 : decode cX2_sweepOnce 14 = .ok (.if_icmp .ge 62, 3) := by decide +kernel
theorem dX2_sweepOnce_17 : decode cX2_sweepOnce 17 = .ok (.aload_n 0, 1) := by decide +kernel
theorem dX2_sweepOnce_18 : decode cX2_sweepOnce 18 = .ok (.getfield 9, 3) := by decide +kernel
theorem dX2_sweepOnce_21 : decode cX2_sweepOnce 21 = .ok (.iload_n 3, 1) := by decide +kernel
theorem dX2_sweepOnce_22 : decode cX2_sweepOnce 22 = .ok (.laload, 1) := by decide +kernel
theorem dX2_sweepOnce_23 : decode cX2_sweepOnce 23 = .ok (.invokestatic 66, 3) := by decide +kernel
theorem dX2_sweepOnce_26 : decode cX2_sweepOnce 26 = .ok (.ifCond .eq 10, 3) := by decide +kernel
theorem dX2_sweepOnce_29 : decode cX2_sweepOnce 29 = .ok (.aload_n 0, 1) := by decide +kernel
theorem dX2_sweepOnce_30 : decode cX2_sweepOnce 30 = .ok (.getfield 38, 3) := by decide +kernel
theorem dX2_sweepOnce_33 : decode cX2_sweepOnce 33 = .ok (.goto 4, 3) := by decide +kernel
theorem dX2_sweepOnce_36 : decode cX2_sweepOnce 36 = .ok (.iload_n 2, 1) := by decide +kernel
theorem dX2_sweepOnce_37 : decode cX2_sweepOnce 37 = .ok (.istore 4, 2) := by decide +kernel
theorem dX2_sweepOnce_39 : decode cX2_sweepOnce 39 = .ok (.iload_n 3, 1) := by decide +kernel
theorem dX2_sweepOnce_40 : decode cX2_sweepOnce 40 = .ok (.iconst 1, 1) := by decide +kernel
theorem dX2_sweepOnce_41 : decode cX2_sweepOnce 41 = .ok (.iadd, 1) := by decide +kernel
theorem dX2_sweepOnce_42 : decode cX2_sweepOnce 42 = .ok (.istore 5, 2) := by decide +kernel
theorem dX2_sweepOnce_44 : decode cX2_sweepOnce 44 = .ok (.iload 5, 2) := by decide +kernel
theorem dX2_sweepOnce_46 : decode cX2_sweepOnce 46 = .ok (.iload 4, 2) := by decide +kernel
theorem dX2_sweepOnce_48 : decode cX2_sweepOnce 48 = .ok (.if_icmp .ge 22, 3) := by decide +kernel
theorem dX2_sweepOnce_51 : decode cX2_sweepOnce 51 = .ok (.aload_n 0, 1) := by decide +kernel
theorem dX2_sweepOnce_52 : decode cX2_sweepOnce 52 = .ok (.iload_n 3, 1) := by decide +kernel
theorem dX2_sweepOnce_53 : decode cX2_sweepOnce 53 = .ok (.iload 5, 2) := by decide +kernel
theorem dX2_sweepOnce_55 : decode cX2_sweepOnce 55 = .ok (.invokevirtual 72, 3) := by decide +kernel
theorem dX2_sweepOnce_58 : decode cX2_sweepOnce 58 = .ok (.ifCond .eq 6, 3) := by decide +kernel
theorem dX2_sweepOnce_61 : decode cX2_sweepOnce 61 = .ok (.iinc 1 1, 3) := by decide +kernel
theorem dX2_sweepOnce_64 : decode cX2_sweepOnce 64 = .ok (.iinc 5 1, 3) := by decide +kernel
theorem dX2_sweepOnce_67 : decode cX2_sweepOnce 67 = .ok (.goto (-23), 3) := by decide +kernel
theorem dX2_sweepOnce_70 : decode cX2_sweepOnce 70 = .ok (.iinc 3 1, 3) := by decide +kernel
theorem dX2_sweepOnce_73 : decode cX2_sweepOnce 73 = .ok (.goto (-64), 3) := by decide +kernel
theorem dX2_sweepOnce_76 : decode cX2_sweepOnce 76 = .ok (.iload_n 1, 1) := by decide +kernel
theorem dX2_sweepOnce_77 : decode cX2_sweepOnce 77 = .ok (.ireturn, 1) := by decide +kernel
theorem dX2_behindLastLeader_0 : decode cX2_behindLastLeader 0 = .ok (.aload_n 0, 1) := by decide +kernel
theorem dX2_behindLastLeader_1 : decode cX2_behindLastLeader 1 = .ok (.getfield 38, 3) := by decide +kernel
theorem dX2_behindLastLeader_4 : decode cX2_behindLastLeader 4 = .ok (.istore_n 1, 1) := by decide +kernel
theorem dX2_behindLastLeader_5 : decode cX2_behindLastLeader 5 = .ok (.iload_n 1, 1) := by decide +kernel
theorem dX2_behindLastLeader_6 : decode cX2_behindLastLeader 6 = .ok (.ifCond .le 23, 3) := by decide +kernel
theorem dX2_behindLastLeader_9 : decode cX2_behindLastLeader 9 = .ok (.aload_n 0, 1) := by decide +kernel
theorem dX2_behindLastLeader_10 : decode cX2_behindLastLeader 10 = .ok (.getfield 9, 3) := by decide +kernel
theorem dX2_behindLastLeader_13 : decode cX2_behindLastLeader 13 = .ok (.iload_n 1, 1) := by decide +kernel
theorem dX2_behindLastLeader_14 : decode cX2_behindLastLeader 14 = .ok (.iconst 1, 1) := by decide +kernel
theorem dX2_behindLastLeader_15 : decode cX2_behindLastLeader 15 = .ok (.isub, 1) := by decide +kernel
theorem dX2_behindLastLeader_16 : decode cX2_behindLastLeader 16 = .ok (.laload, 1) := by decide +kernel
theorem dX2_behindLastLeader_17 : decode cX2_behindLastLeader 17 = .ok (.invokestatic 66, 3) := by decide +kernel
theorem dX2_behindLastLeader_20 : decode cX2_behindLastLeader 20 = .ok (.ifCond .ne 9, 3) := by decide +kernel
theorem dX2_behindLastLeader_23 : decode cX2_behindLastLeader 23 = .ok (.iinc 1 (-1), 3) := by decide +kernel
theorem dX2_behindLastLeader_26 : decode cX2_behindLastLeader 26 = .ok (.goto (-21), 3) := by decide +kernel
theorem dX2_behindLastLeader_29 : decode cX2_behindLastLeader 29 = .ok (.iload_n 1, 1) := by decide +kernel
theorem dX2_behindLastLeader_30 : decode cX2_behindLastLeader 30 = .ok (.ireturn, 1) := by decide +kernel
theorem dX2_isQuiet_0 : decode cX2_isQuiet 0 = .ok (.aload_n 0, 1) := by decide +kernel
theorem dX2_isQuiet_1 : decode cX2_isQuiet 1 = .ok (.getfield 28, 3) := by decide +kernel
theorem dX2_isQuiet_4 : decode cX2_isQuiet 4 = .ok (.aload_n 0, 1) := by decide +kernel
theorem dX2_isQuiet_5 : decode cX2_isQuiet 5 = .ok (.getfield 9, 3) := by decide +kernel
theorem dX2_isQuiet_8 : decode cX2_isQuiet 8 = .ok (.iconst 0, 1) := by decide +kernel
theorem dX2_isQuiet_9 : decode cX2_isQuiet 9 = .ok (.aload_n 0, 1) := by decide +kernel
theorem dX2_isQuiet_10 : decode cX2_isQuiet 10 = .ok (.getfield 38, 3) := by decide +kernel
theorem dX2_isQuiet_13 : decode cX2_isQuiet 13 = .ok (.invokevirtual 76, 3) := by decide +kernel
theorem dX2_isQuiet_16 : decode cX2_isQuiet 16 = .ok (.ireturn, 1) := by decide +kernel
theorem dX2_isOfOneMind_0 : decode cX2_isOfOneMind 0 = .ok (.aload_n 0, 1) := by decide +kernel
theorem dX2_isOfOneMind_1 : decode cX2_isOfOneMind 1 = .ok (.getfield 38, 3) := by decide +kernel
theorem dX2_isOfOneMind_4 : decode cX2_isOfOneMind 4 = .ok (.ifCond .eq 35, 3) := by decide +kernel
theorem dX2_isOfOneMind_7 : decode cX2_isOfOneMind 7 = .ok (.aload_n 0, 1) := by decide +kernel
theorem dX2_isOfOneMind_8 : decode cX2_isOfOneMind 8 = .ok (.getfield 19, 3) := by decide +kernel
theorem dX2_isOfOneMind_11 : decode cX2_isOfOneMind 11 = .ok (.aload_n 0, 1) := by decide +kernel
theorem dX2_isOfOneMind_12 : decode cX2_isOfOneMind 12 = .ok (.getfield 19, 3) := by decide +kernel
theorem dX2_isOfOneMind_15 : decode cX2_isOfOneMind 15 = .ok (.aload_n 0, 1) := by decide +kernel
theorem dX2_isOfOneMind_16 : decode cX2_isOfOneMind 16 = .ok (.getfield 9, 3) := by decide +kernel
theorem dX2_isOfOneMind_19 : decode cX2_isOfOneMind 19 = .ok (.iconst 0, 1) := by decide +kernel
theorem dX2_isOfOneMind_20 : decode cX2_isOfOneMind 20 = .ok (.laload, 1) := by decide +kernel
theorem dX2_isOfOneMind_21 : decode cX2_isOfOneMind 21 = .ok (.invokevirtual 80, 3) := by decide +kernel
theorem dX2_isOfOneMind_24 : decode cX2_isOfOneMind 24 = .ok (.aload_n 0, 1) := by decide +kernel
theorem dX2_isOfOneMind_25 : decode cX2_isOfOneMind 25 = .ok (.getfield 9, 3) := by decide +kernel
theorem dX2_isOfOneMind_28 : decode cX2_isOfOneMind 28 = .ok (.iconst 0, 1) := by decide +kernel
theorem dX2_isOfOneMind_29 : decode cX2_isOfOneMind 29 = .ok (.aload_n 0, 1) := by decide +kernel
theorem dX2_isOfOneMind_30 : decode cX2_isOfOneMind 30 = .ok (.getfield 38, 3) := by decide +kernel
theorem dX2_isOfOneMind_33 : decode cX2_isOfOneMind 33 = .ok (.invokevirtual 83, 3) := by decide +kernel
theorem dX2_isOfOneMind_36 : decode cX2_isOfOneMind 36 = .ok (.ifCond .eq 7, 3) := by decide +kernel
theorem dX2_isOfOneMind_39 : decode cX2_isOfOneMind 39 = .ok (.iconst 1, 1) := by decide +kernel
theorem dX2_isOfOneMind_40 : decode cX2_isOfOneMind 40 = .ok (.goto 4, 3) := by decide +kernel
theorem dX2_isOfOneMind_43 : decode cX2_isOfOneMind 43 = .ok (.iconst 0, 1) := by decide +kernel
theorem dX2_isOfOneMind_44 : decode cX2_isOfOneMind 44 = .ok (.ireturn, 1) := by decide +kernel
theorem dX3_init_0 : decode cX3_init 0 = .ok (.aload_n 0, 1) := by decide +kernel
theorem dX3_init_1 : decode cX3_init 1 = .ok (.invokespecial 3, 3) := by decide +kernel
theorem dX3_init_4 : decode cX3_init 4 = .ok (.aload_n 0, 1) := by decide +kernel
theorem dX3_init_5 : decode cX3_init 5 = .ok (.bipush 8, 2) := by decide +kernel
theorem dX3_init_7 : decode cX3_init 7 = .ok (.newarray .int, 2) := by decide +kernel
theorem dX3_init_9 : decode cX3_init 9 = .ok (.putfield 9, 3) := by decide +kernel
theorem dX3_init_12 : decode cX3_init 12 = .ok (.aload_n 0, 1) := by decide +kernel
theorem dX3_init_13 : decode cX3_init 13 = .ok (.bipush 20, 2) := by decide +kernel
theorem dX3_init_15 : decode cX3_init 15 = .ok (.newarray .int, 2) := by decide +kernel
theorem dX3_init_17 : decode cX3_init 17 = .ok (.putfield 15, 3) := by decide +kernel
theorem dX3_init_20 : decode cX3_init 20 = .ok (.aload_n 0, 1) := by decide +kernel
theorem dX3_init_21 : decode cX3_init 21 = .ok (.bipush 20, 2) := by decide +kernel
theorem dX3_init_23 : decode cX3_init 23 = .ok (.newarray .int, 2) := by decide +kernel
theorem dX3_init_25 : decode cX3_init 25 = .ok (.putfield 18, 3) := by decide +kernel
theorem dX3_init_28 : decode cX3_init 28 = .ok (.aload_n 0, 1) := by decide +kernel
theorem dX3_init_29 : decode cX3_init 29 = .ok (.bipush 20, 2) := by decide +kernel
theorem dX3_init_31 : decode cX3_init 31 = .ok (.newarray .int, 2) := by decide +kernel
theorem dX3_init_33 : decode cX3_init 33 = .ok (.putfield 21, 3) := by decide +kernel
theorem dX3_init_36 : decode cX3_init 36 = .ok (.aload_n 0, 1) := by decide +kernel
theorem dX3_init_37 : decode cX3_init 37 = .ok (.iconst 5, 1) := by decide +kernel
theorem dX3_init_38 : decode cX3_init 38 = .ok (.anewarray 24, 3) := by decide +kernel
theorem dX3_init_41 : decode cX3_init 41 = .ok (.putfield 26, 3) := by decide +kernel
theorem dX3_init_44 : decode cX3_init 44 = .ok (.iconst 0, 1) := by decide +kernel
theorem dX3_init_45 : decode cX3_init 45 = .ok (.istore_n 1, 1) := by decide +kernel
theorem dX3_init_46 : decode cX3_init 46 = .ok (.iload_n 1, 1) := by decide +kernel
theorem dX3_init_47 : decode cX3_init 47 = .ok (.iconst 5, 1) := by decide +kernel
theorem dX3_init_48 : decode cX3_init 48 = .ok (.if_icmp .ge 22, 3) := by decide +kernel
theorem dX3_init_51 : decode cX3_init 51 = .ok (.aload_n 0, 1) := by decide +kernel
theorem dX3_init_52 : decode cX3_init 52 = .ok (.getfield 26, 3) := by decide +kernel
theorem dX3_init_55 : decode cX3_init 55 = .ok (.iload_n 1, 1) := by decide +kernel
theorem dX3_init_56 : decode cX3_init 56 = .ok (.new 24, 3) := by decide +kernel
theorem dX3_init_59 : decode cX3_init 59 = .ok (.dup, 1) := by decide +kernel
theorem dX3_init_60 : decode cX3_init 60 = .ok (.invokespecial 30, 3) := by decide +kernel
theorem dX3_init_63 : decode cX3_init 63 = .ok (.aastore, 1) := by decide +kernel
theorem dX3_init_64 : decode cX3_init 64 = .ok (.iinc 1 1, 3) := by decide +kernel
theorem dX3_init_67 : decode cX3_init 67 = .ok (.goto (-21), 3) := by decide +kernel
theorem dX3_init_70 : decode cX3_init 70 = .ok (.return_, 1) := by decide +kernel
theorem dX3_reset_0 : decode cX3_reset 0 = .ok (.aload_n 0, 1) := by decide +kernel
theorem dX3_reset_1 : decode cX3_reset 1 = .ok (.getfield 9, 3) := by decide +kernel
theorem dX3_reset_4 : decode cX3_reset 4 = .ok (.iconst 0, 1) := by decide +kernel
theorem dX3_reset_5 : decode cX3_reset 5 = .ok (.invokestatic 31, 3) := by decide +kernel
theorem dX3_reset_8 : decode cX3_reset 8 = .ok (.aload_n 0, 1) := by decide +kernel
theorem dX3_reset_9 : decode cX3_reset 9 = .ok (.iconst 0, 1) := by decide +kernel
theorem dX3_reset_10 : decode cX3_reset 10 = .ok (.putfield 37, 3) := by decide +kernel
theorem dX3_reset_13 : decode cX3_reset 13 = .ok (.aload_n 0, 1) := by decide +kernel
theorem dX3_reset_14 : decode cX3_reset 14 = .ok (.iconst 0, 1) := by decide +kernel
theorem dX3_reset_15 : decode cX3_reset 15 = .ok (.putfield 41, 3) := by decide +kernel
theorem dX3_reset_18 : decode cX3_reset 18 = .ok (.aload_n 0, 1) := by decide +kernel
theorem dX3_reset_19 : decode cX3_reset 19 = .ok (.iconst 0, 1) := by decide +kernel
theorem dX3_reset_20 : decode cX3_reset 20 = .ok (.putfield 44, 3) := by decide +kernel
theorem dX3_reset_23 : decode cX3_reset 23 = .ok (.return_, 1) := by decide +kernel
theorem dX3_setPending_0 : decode cX3_setPending 0 = .ok (.aload_n 0, 1) := by decide +kernel
theorem dX3_setPending_1 : decode cX3_setPending 1 = .ok (.getfield 9, 3) := by decide +kernel
theorem dX3_setPending_4 : decode cX3_setPending 4 = .ok (.iload_n 1, 1) := by decide +kernel
theorem dX3_setPending_5 : decode cX3_setPending 5 = .ok (.iaload, 1) := by decide +kernel
theorem dX3_setPending_6 : decode cX3_setPending 6 = .ok (.istore_n 3, 1) := by decide +kernel
theorem dX3_setPending_7 : decode cX3_setPending 7 = .ok (.aload_n 0, 1) := by decide +kernel
theorem dX3_setPending_8 : decode cX3_setPending 8 = .ok (.getfield 9, 3) := by decide +kernel
theorem dX3_setPending_11 : decode cX3_setPending 11 = .ok (.iload_n 1, 1) := by decide +kernel
theorem dX3_setPending_12 : decode cX3_setPending 12 = .ok (.iload_n 2, 1) := by decide +kernel
theorem dX3_setPending_13 : decode cX3_setPending 13 = .ok (.iastore, 1) := by decide +kernel
theorem dX3_setPending_14 : decode cX3_setPending 14 = .ok (.iload_n 3, 1) := by decide +kernel
theorem dX3_setPending_15 : decode cX3_setPending 15 = .ok (.ireturn, 1) := by decide +kernel
theorem dX3_takesNode_0 : decode cX3_takesNode 0 = .ok (.aload_n 0, 1) := by decide +kernel
theorem dX3_takesNode_1 : decode cX3_takesNode 1 = .ok (.getfield 44, 3) := by decide +kernel
theorem dX3_takesNode_4 : decode cX3_takesNode 4 = .ok (.ifCond .ne 16, 3) := by decide +kernel
theorem dX3_takesNode_7 : decode cX3_takesNode 7 = .ok (.aload_n 0, 1) := by decide +kernel
theorem dX3_takesNode_8 : decode cX3_takesNode 8 = .ok (.getfield 37, 3) := by decide +kernel
theorem dX3_takesNode_11 : decode cX3_takesNode 11 = .ok (.bipush 20, 2) := by decide +kernel
theorem dX3_takesNode_13 : decode cX3_takesNode 13 = .ok (.if_icmp .ge 7, 3) := by decide +kernel
theorem dX3_takesNode_16 : decode cX3_takesNode 16 = .ok (.iconst 1, 1) := by decide +kernel
theorem dX3_takesNode_17 : decode cX3_takesNode 17 = .ok (.goto 4, 3) := by decide +kernel
theorem dX3_takesNode_20 : decode cX3_takesNode 20 = .ok (.iconst 0, 1) := by decide +kernel
theorem dX3_takesNode_21 : decode cX3_takesNode 21 = .ok (.ireturn, 1) := by decide +kernel
theorem dX3_takesAtom_0 : decode cX3_takesAtom 0 = .ok (.aload_n 0, 1) := by decide +kernel
theorem dX3_takesAtom_1 : decode cX3_takesAtom 1 = .ok (.invokevirtual 48, 3) := by decide +kernel
theorem dX3_takesAtom_4 : decode cX3_takesAtom 4 = .ok (.ifCond .eq 15, 3) := by decide +kernel
theorem dX3_takesAtom_7 : decode cX3_takesAtom 7 = .ok (.aload_n 0, 1) := by decide +kernel
theorem dX3_takesAtom_8 : decode cX3_takesAtom 8 = .ok (.getfield 41, 3) := by decide +kernel
theorem dX3_takesAtom_11 : decode cX3_takesAtom 11 = .ok (.iconst 5, 1) := by decide +kernel
theorem dX3_takesAtom_12 : decode cX3_takesAtom 12 = .ok (.if_icmp .ge 7, 3) := by decide +kernel
theorem dX3_takesAtom_15 : decode cX3_takesAtom 15 = .ok (.iconst 1, 1) := by decide +kernel
theorem dX3_takesAtom_16 : decode cX3_takesAtom 16 = .ok (.goto 4, 3) := by decide +kernel
theorem dX3_takesAtom_19 : decode cX3_takesAtom 19 = .ok (.iconst 0, 1) := by decide +kernel
theorem dX3_takesAtom_20 : decode cX3_takesAtom 20 = .ok (.ireturn, 1) := by decide +kernel
theorem dX3_hasNode_0 : decode cX3_hasNode 0 = .ok (.iload_n 1, 1) := by decide +kernel
theorem dX3_hasNode_1 : decode cX3_hasNode 1 = .ok (.ifCond .lt 15, 3) := by decide +kernel
theorem dX3_hasNode_4 : decode cX3_hasNode 4 = .ok (.iload_n 1, 1) := by decide +kernel
theorem dX3_hasNode_5 : decode cX3_hasNode 5 = .ok (.aload_n 0, 1) := by decide +kernel
theorem dX3_hasNode_6 : decode cX3_hasNode 6 = .ok (.getfield 37, 3) := by decide +kernel
theorem dX3_hasNode_9 : decode cX3_hasNode 9 = .ok (.if_icmp .ge 7, 3) := by decide +kernel
theorem dX3_hasNode_12 : decode cX3_hasNode 12 = .ok (.iconst 1, 1) := by decide +kernel
theorem dX3_hasNode_13 : decode cX3_hasNode 13 = .ok (.goto 4, 3) := by decide +kernel
theorem dX3_hasNode_16 : decode cX3_hasNode 16 = .ok (.iconst 0, 1) := by decide +kernel
theorem dX3_hasNode_17 : decode cX3_hasNode 17 = .ok (.ireturn, 1) := by decide +kernel
theorem dX3_hasAtom_0 : decode cX3_hasAtom 0 = .ok (.iload_n 1, 1) := by decide +kernel
theorem dX3_hasAtom_1 : decode cX3_hasAtom 1 = .ok (.ifCond .lt 15, 3) := by decide +kernel
theorem dX3_hasAtom_4 : decode cX3_hasAtom 4 = .ok (.iload_n 1, 1) := by decide +kernel
theorem dX3_hasAtom_5 : decode cX3_hasAtom 5 = .ok (.aload_n 0, 1) := by decide +kernel
theorem dX3_hasAtom_6 : decode cX3_hasAtom 6 = .ok (.getfield 41, 3) := by decide +kernel
theorem dX3_hasAtom_9 : decode cX3_hasAtom 9 = .ok (.if_icmp .ge 7, 3) := by decide +kernel
theorem dX3_hasAtom_12 : decode cX3_hasAtom 12 = .ok (.iconst 1, 1) := by decide +kernel
theorem dX3_hasAtom_13 : decode cX3_hasAtom 13 = .ok (.goto 4, 3) := by decide +kernel
theorem dX3_hasAtom_16 : decode cX3_hasAtom 16 = .ok (.iconst 0, 1) := by decide +kernel
theorem dX3_hasAtom_17 : decode cX3_hasAtom 17 = .ok (.ireturn, 1) := by decide +kernel
theorem dX3_isCompiled_0 : decode cX3_isCompiled 0 = .ok (.aload_n 0, 1) := by decide +kernel
theorem dX3_isCompiled_1 : decode cX3_isCompiled 1 = .ok (.getfield 44, 3) := by decide +kernel
theorem dX3_isCompiled_4 : decode cX3_isCompiled 4 = .ok (.ireturn, 1) := by decide +kernel
theorem dX3_isEmpty_0 : decode cX3_isEmpty 0 = .ok (.aload_n 0, 1) := by decide +kernel
theorem dX3_isEmpty_1 : decode cX3_isEmpty 1 = .ok (.getfield 37, 3) := by decide +kernel
theorem dX3_isEmpty_4 : decode cX3_isEmpty 4 = .ok (.ifCond .ne 7, 3) := by decide +kernel
theorem dX3_isEmpty_7 : decode cX3_isEmpty 7 = .ok (.iconst 1, 1) := by decide +kernel
theorem dX3_isEmpty_8 : decode cX3_isEmpty 8 = .ok (.goto 4, 3) := by decide +kernel
theorem dX3_isEmpty_11 : decode cX3_isEmpty 11 = .ok (.iconst 0, 1) := by decide +kernel
theorem dX3_isEmpty_12 : decode cX3_isEmpty 12 = .ok (.ireturn, 1) := by decide +kernel
theorem dX3_atom_0 : decode cX3_atom 0 = .ok (.aload_n 0, 1) := by decide +kernel
theorem dX3_atom_1 : decode cX3_atom 1 = .ok (.getfield 26, 3) := by decide +kernel
theorem dX3_atom_4 : decode cX3_atom 4 = .ok (.iload_n 1, 1) := by decide +kernel
theorem dX3_atom_5 : decode cX3_atom 5 = .ok (.aaload, 1) := by decide +kernel
theorem dX3_atom_6 : decode cX3_atom 6 = .ok (.areturn, 1) := by decide +kernel
theorem dX3_atomCount_0 : decode cX3_atomCount 0 = .ok (.aload_n 0, 1) := by decide +kernel
theorem dX3_atomCount_1 : decode cX3_atomCount 1 = .ok (.getfield 41, 3) := by decide +kernel
theorem dX3_atomCount_4 : decode cX3_atomCount 4 = .ok (.ireturn, 1) := by decide +kernel
theorem dX3_addAtom_0 : decode cX3_addAtom 0 = .ok (.aload_n 0, 1) := by decide +kernel
theorem dX3_addAtom_1 : decode cX3_addAtom 1 = .ok (.getfield 26, 3) := by decide +kernel
theorem dX3_addAtom_4 : decode cX3_addAtom 4 = .ok (.aload_n 0, 1) := by decide +kernel
theorem dX3_addAtom_5 : decode cX3_addAtom 5 = .ok (.getfield 41, 3) := by decide +kernel
theorem dX3_addAtom_8 : decode cX3_addAtom 8 = .ok (.aaload, 1) := by decide +kernel
theorem dX3_addAtom_9 : decode cX3_addAtom 9 = .ok (.iload_n 1, 1) := by decide +kernel
theorem dX3_addAtom_10 : decode cX3_addAtom 10 = .ok (.iload_n 2, 1) := by decide +kernel
theorem dX3_addAtom_11 : decode cX3_addAtom 11 = .ok (.aload_n 0, 1) := by decide +kernel
theorem dX3_addAtom_12 : decode cX3_addAtom 12 = .ok (.getfield 9, 3) := by decide +kernel
theorem dX3_addAtom_15 : decode cX3_addAtom 15 = .ok (.invokevirtual 52, 3) := by decide +kernel
theorem dX3_addAtom_18 : decode cX3_addAtom 18 = .ok (.aload_n 0, 1) := by decide +kernel
theorem dX3_addAtom_19 : decode cX3_addAtom 19 = .ok (.getfield 9, 3) := by decide +kernel
theorem dX3_addAtom_22 : decode cX3_addAtom 22 = .ok (.iconst 0, 1) := by decide +kernel
theorem dX3_addAtom_23 : decode cX3_addAtom 23 = .ok (.invokestatic 31, 3) := by decide +kernel
theorem dX3_addAtom_26 : decode cX3_addAtom 26 = .ok (.aload_n 0, 1) := by decide +kernel
theorem dX3_addAtom_27 : decode cX3_addAtom 27 = .ok (.iconst 3, 1) := by decide +kernel
theorem dX3_addAtom_28 : decode cX3_addAtom 28 = .ok (.aload_n 0, 1) := by decide +kernel
theorem dX3_addAtom_29 : decode cX3_addAtom 29 = .ok (.getfield 41, 3) := by decide +kernel
theorem dX3_addAtom_32 : decode cX3_addAtom 32 = .ok (.iconst 0, 1) := by decide +kernel
theorem dX3_addAtom_33 : decode cX3_addAtom 33 = .ok (.invokevirtual 56, 3) := by decide +kernel
theorem dX3_addAtom_36 : decode cX3_addAtom 36 = .ok (.istore_n 3, 1) := by decide +kernel
theorem dX3_addAtom_37 : decode cX3_addAtom 37 = .ok (.aload_n 0, 1) := by decide +kernel
theorem dX3_addAtom_38 : decode cX3_addAtom 38 = .ok (.dup, 1) := by decide +kernel
theorem dX3_addAtom_39 : decode cX3_addAtom 39 = .ok (.getfield 41, 3) := by decide +kernel
theorem dX3_addAtom_42 : decode cX3_addAtom 42 = .ok (.iconst 1, 1) := by decide +kernel
theorem dX3_addAtom_43 : decode cX3_addAtom 43 = .ok (.iadd, 1) := by decide +kernel
theorem dX3_addAtom_44 : decode cX3_addAtom 44 = .ok (.putfield 41, 3) := by decide +kernel
theorem dX3_addAtom_47 : decode cX3_addAtom 47 = .ok (.iload_n 3, 1) := by decide +kernel
theorem dX3_addAtom_48 : decode cX3_addAtom 48 = .ok (.ireturn, 1) := by decide +kernel
theorem dX3_addNode_0 : decode cX3_addNode 0 = .ok (.aload_n 0, 1) := by decide +kernel
theorem dX3_addNode_1 : decode cX3_addNode 1 = .ok (.getfield 37, 3) := by decide +kernel
theorem dX3_addNode_4 : decode cX3_addNode 4 = .ok (.istore 4, 2) := by decide +kernel
theorem dX3_addNode_6 : decode cX3_addNode 6 = .ok (.aload_n 0, 1) := by decide +kernel
theorem dX3_addNode_7 : decode cX3_addNode 7 = .ok (.getfield 15, 3) := by decide +kernel
theorem dX3_addNode_10 : decode cX3_addNode 10 = .ok (.iload 4, 2) := by decide +kernel
theorem dX3_addNode_12 : decode cX3_addNode 12 = .ok (.iload_n 1, 1) := by decide +kernel
theorem dX3_addNode_13 : decode cX3_addNode 13 = .ok (.iastore, 1) := by decide +kernel
theorem dX3_addNode_14 : decode cX3_addNode 14 = .ok (.aload_n 0, 1) := by decide +kernel
theorem dX3_addNode_15 : decode cX3_addNode 15 = .ok (.getfield 18, 3) := by decide +kernel
theorem dX3_addNode_18 : decode cX3_addNode 18 = .ok (.iload 4, 2) := by decide +kernel
theorem dX3_addNode_20 : decode cX3_addNode 20 = .ok (.iload_n 2, 1) := by decide +kernel
theorem dX3_addNode_21 : decode cX3_addNode 21 = .ok (.iastore, 1) := by decide +kernel
theorem dX3_addNode_22 : decode cX3_addNode 22 = .ok (.aload_n 0, 1) := by decide +kernel
theorem dX3_addNode_23 : decode cX3_addNode 23 = .ok (.getfield 21, 3) := by decide +kernel
theorem dX3_addNode_26 : decode cX3_addNode 26 = .ok (.iload 4, 2) := by decide +kernel
theorem dX3_addNode_28 : decode cX3_addNode 28 = .ok (.iload_n 3, 1) := by decide +kernel
theorem dX3_addNode_29 : decode cX3_addNode 29 = .ok (.iastore, 1) := by decide +kernel
theorem dX3_addNode_30 : decode cX3_addNode 30 = .ok (.aload_n 0, 1) := by decide +kernel
theorem dX3_addNode_31 : decode cX3_addNode 31 = .ok (.dup, 1) := by decide +kernel
theorem dX3_addNode_32 : decode cX3_addNode 32 = .ok (.getfield 37, 3) := by decide +kernel
theorem dX3_addNode_35 : decode cX3_addNode 35 = .ok (.iconst 1, 1) := by decide +kernel
theorem dX3_addNode_36 : decode cX3_addNode 36 = .ok (.iadd, 1) := by decide +kernel
theorem dX3_addNode_37 : decode cX3_addNode 37 = .ok (.putfield 37, 3) := by decide +kernel
theorem dX3_addNode_40 : decode cX3_addNode 40 = .ok (.iload 4, 2) := by decide +kernel
theorem dX3_addNode_42 : decode cX3_addNode 42 = .ok (.ireturn, 1) := by decide +kernel
theorem dX3_hasSharedNode_0 : decode cX3_hasSharedNode 0 = .ok (.iconst 0, 1) := by decide +kernel
theorem dX3_hasSharedNode_1 : decode cX3_hasSharedNode 1 = .ok (.istore_n 1, 1) := by decide +kernel
theorem dX3_hasSharedNode_2 : decode cX3_hasSharedNode 2 = .ok (.iconst 0, 1) := by decide +kernel
theorem dX3_hasSharedNode_3 : decode cX3_hasSharedNode 3 = .ok (.istore_n 2, 1) := by decide +kernel
theorem dX3_hasSharedNode_4 : decode cX3_hasSharedNode 4 = .ok (.iload_n 2, 1) := by decide +kernel
theorem dX3_hasSharedNode_5 : decode cX3_hasSharedNode 5 = .ok (.aload_n 0, 1) := by decide +kernel
theorem dX3_hasSharedNode_6 : decode cX3_hasSharedNode 6 = .ok (.getfield 37, 3) := by decide +kernel
theorem dX3_hasSharedNode_9 : decode cX3_hasSharedNode 9 = .ok (.if_icmp .ge 90, 3) := by decide +kernel
theorem dX3_hasSharedNode_12 : decode cX3_hasSharedNode 12 = .ok (.aload_n 0, 1) := by decide +kernel
theorem dX3_hasSharedNode_13 : decode cX3_hasSharedNode 13 = .ok (.getfield 15, 3) := by decide +kernel
theorem dX3_hasSharedNode_16 : decode cX3_hasSharedNode 16 = .ok (.iload_n 2, 1) := by decide +kernel
theorem dX3_hasSharedNode_17 : decode cX3_hasSharedNode 17 = .ok (.iaload, 1) := by decide +kernel
theorem dX3_hasSharedNode_18 : decode cX3_hasSharedNode 18 = .ok (.iconst 3, 1) := by decide +kernel
