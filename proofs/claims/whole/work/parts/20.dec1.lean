theorem dX3_hasSharedNode_19 : decode cX3_hasSharedNode 19 = .ok (.if_icmp .ne 7, 3) := by decide +kernel
theorem dX3_hasSharedNode_22 : decode cX3_hasSharedNode 22 = .ok (.iconst 0, 1) := by decide +kernel
theorem dX3_hasSharedNode_23 : decode cX3_hasSharedNode 23 = .ok (.goto 11, 3) := by decide +kernel
theorem dX3_hasSharedNode_26 : decode cX3_hasSharedNode 26 = .ok (.iconst 1, 1) := by decide +kernel
theorem dX3_hasSharedNode_27 : decode cX3_hasSharedNode 27 = .ok (.aload_n 0, 1) := by decide +kernel
theorem dX3_hasSharedNode_28 : decode cX3_hasSharedNode 28 = .ok (.getfield 18, 3) := by decide +kernel
theorem dX3_hasSharedNode_31 : decode cX3_hasSharedNode 31 = .ok (.iload_n 2, 1) := by decide +kernel
theorem dX3_hasSharedNode_32 : decode cX3_hasSharedNode 32 = .ok (.iaload, 1) := by decide +kernel
theorem dX3_hasSharedNode_33 : decode cX3_hasSharedNode 33 = .ok (.ishl, 1) := by decide +kernel
theorem dX3_hasSharedNode_34 : decode cX3_hasSharedNode 34 = .ok (.istore_n 3, 1) := by decide +kernel
theorem dX3_hasSharedNode_35 : decode cX3_hasSharedNode 35 = .ok (.aload_n 0, 1) := by decide +kernel
theorem dX3_hasSharedNode_36 : decode cX3_hasSharedNode 36 = .ok (.getfield 15, 3) := by decide +kernel
theorem dX3_hasSharedNode_39 : decode cX3_hasSharedNode 39 = .ok (.iload_n 2, 1) := by decide +kernel
theorem dX3_hasSharedNode_40 : decode cX3_hasSharedNode 40 = .ok (.iaload, 1) := by decide +kernel
theorem dX3_hasSharedNode_41 : decode cX3_hasSharedNode 41 = .ok (.ifCond .eq 13, 3) := by decide +kernel
theorem dX3_hasSharedNode_44 : decode cX3_hasSharedNode 44 = .ok (.aload_n 0, 1) := by decide +kernel
theorem dX3_hasSharedNode_45 : decode cX3_hasSharedNode 45 = .ok (.getfield 15, 3) := by decide +kernel
theorem dX3_hasSharedNode_48 : decode cX3_hasSharedNode 48 = .ok (.iload_n 2, 1) := by decide +kernel
theorem dX3_hasSharedNode_49 : decode cX3_hasSharedNode 49 = .ok (.iaload, 1) := by decide +kernel
theorem dX3_hasSharedNode_50 : decode cX3_hasSharedNode 50 = .ok (.iconst 1, 1) := by decide +kernel
theorem dX3_hasSharedNode_51 : decode cX3_hasSharedNode 51 = .ok (.if_icmp .ne 14, 3) := by decide +kernel
theorem dX3_hasSharedNode_54 : decode cX3_hasSharedNode 54 = .ok (.iconst 1, 1) := by decide +kernel
theorem dX3_hasSharedNode_55 : decode cX3_hasSharedNode 55 = .ok (.aload_n 0, 1) := by decide +kernel
theorem dX3_hasSharedNode_56 : decode cX3_hasSharedNode 56 = .ok (.getfield 21, 3) := by decide +kernel
theorem dX3_hasSharedNode_59 : decode cX3_hasSharedNode 59 = .ok (.iload_n 2, 1) := by decide +kernel
theorem dX3_hasSharedNode_60 : decode cX3_hasSharedNode 60 = .ok (.iaload, 1) := by decide +kernel
theorem dX3_hasSharedNode_61 : decode cX3_hasSharedNode 61 = .ok (.ishl, 1) := by decide +kernel
theorem dX3_hasSharedNode_62 : decode cX3_hasSharedNode 62 = .ok (.goto 4, 3) := by decide +kernel
theorem dX3_hasSharedNode_65 : decode cX3_hasSharedNode 65 = .ok (.iconst 0, 1) := by decide +kernel
theorem dX3_hasSharedNode_66 : decode cX3_hasSharedNode 66 = .ok (.istore 4, 2) := by decide +kernel
theorem dX3_hasSharedNode_68 : decode cX3_hasSharedNode 68 = .ok (.iload_n 1, 1) := by decide +kernel
theorem dX3_hasSharedNode_69 : decode cX3_hasSharedNode 69 = .ok (.iload_n 3, 1) := by decide +kernel
theorem dX3_hasSharedNode_70 : decode cX3_hasSharedNode 70 = .ok (.iload 4, 2) := by decide +kernel
theorem dX3_hasSharedNode_72 : decode cX3_hasSharedNode 72 = .ok (.ior, 1) := by decide +kernel
theorem dX3_hasSharedNode_73 : decode cX3_hasSharedNode 73 = .ok (.iand, 1) := by decide +kernel
theorem dX3_hasSharedNode_74 : decode cX3_hasSharedNode 74 = .ok (.ifCond .ne 10, 3) := by decide +kernel
theorem dX3_hasSharedNode_77 : decode cX3_hasSharedNode 77 = .ok (.iload_n 3, 1) := by decide +kernel
theorem dX3_hasSharedNode_78 : decode cX3_hasSharedNode 78 = .ok (.iload 4, 2) := by decide +kernel
theorem dX3_hasSharedNode_80 : decode cX3_hasSharedNode 80 = .ok (.iand, 1) := by decide +kernel
theorem dX3_hasSharedNode_81 : decode cX3_hasSharedNode 81 = .ok (.ifCond .eq 5, 3) := by decide +kernel
theorem dX3_hasSharedNode_84 : decode cX3_hasSharedNode 84 = .ok (.iconst 1, 1) := by decide +kernel
theorem dX3_hasSharedNode_85 : decode cX3_hasSharedNode 85 = .ok (.ireturn, 1) := by decide +kernel
theorem dX3_hasSharedNode_86 : decode cX3_hasSharedNode 86 = .ok (.iload_n 1, 1) := by decide +kernel
theorem dX3_hasSharedNode_87 : decode cX3_hasSharedNode 87 = .ok (.iload_n 3, 1) := by decide +kernel
theorem dX3_hasSharedNode_88 : decode cX3_hasSharedNode 88 = .ok (.iload 4, 2) := by decide +kernel
theorem dX3_hasSharedNode_90 : decode cX3_hasSharedNode 90 = .ok (.ior, 1) := by decide +kernel
theorem dX3_hasSharedNode_91 : decode cX3_hasSharedNode 91 = .ok (.ior, 1) := by decide +kernel
theorem dX3_hasSharedNode_92 : decode cX3_hasSharedNode 92 = .ok (.istore_n 1, 1) := by decide +kernel
theorem dX3_hasSharedNode_93 : decode cX3_hasSharedNode 93 = .ok (.iinc 2 1, 3) := by decide +kernel
theorem dX3_hasSharedNode_96 : decode cX3_hasSharedNode 96 = .ok (.goto (-92), 3) := by decide +kernel
theorem dX3_hasSharedNode_99 : decode cX3_hasSharedNode 99 = .ok (.iconst 0, 1) := by decide +kernel
theorem dX3_hasSharedNode_100 : decode cX3_hasSharedNode 100 = .ok (.ireturn, 1) := by decide +kernel
theorem dX3_makeRules_0 : decode cX3_makeRules 0 = .ok (.iconst 0, 1) := by decide +kernel
theorem dX3_makeRules_1 : decode cX3_makeRules 1 = .ok (.istore_n 1, 1) := by decide +kernel
theorem dX3_makeRules_2 : decode cX3_makeRules 2 = .ok (.iconst 0, 1) := by decide +kernel
theorem dX3_makeRules_3 : decode cX3_makeRules 3 = .ok (.istore_n 2, 1) := by decide +kernel
theorem dX3_makeRules_4 : decode cX3_makeRules 4 = .ok (.iload_n 2, 1) := by decide +kernel
theorem dX3_makeRules_5 : decode cX3_makeRules 5 = .ok (.aload_n 0, 1) := by decide +kernel
theorem dX3_makeRules_6 : decode cX3_makeRules 6 = .ok (.getfield 41, 3) := by decide +kernel
theorem dX3_makeRules_9 : decode cX3_makeRules 9 = .ok (.if_icmp .ge 30, 3) := by decide +kernel
theorem dX3_makeRules_12 : decode cX3_makeRules 12 = .ok (.aload_n 0, 1) := by decide +kernel
theorem dX3_makeRules_13 : decode cX3_makeRules 13 = .ok (.getfield 26, 3) := by decide +kernel
theorem dX3_makeRules_16 : decode cX3_makeRules 16 = .ok (.iload_n 2, 1) := by decide +kernel
theorem dX3_makeRules_17 : decode cX3_makeRules 17 = .ok (.aaload, 1) := by decide +kernel
theorem dX3_makeRules_18 : decode cX3_makeRules 18 = .ok (.invokevirtual 60, 3) := by decide +kernel
theorem dX3_makeRules_21 : decode cX3_makeRules 21 = .ok (.iload_n 1, 1) := by decide +kernel
theorem dX3_makeRules_22 : decode cX3_makeRules 22 = .ok (.aload_n 0, 1) := by decide +kernel
theorem dX3_makeRules_23 : decode cX3_makeRules 23 = .ok (.getfield 26, 3) := by decide +kernel
theorem dX3_makeRules_26 : decode cX3_makeRules 26 = .ok (.iload_n 2, 1) := by decide +kernel
theorem dX3_makeRules_27 : decode cX3_makeRules 27 = .ok (.aaload, 1) := by decide +kernel
theorem dX3_makeRules_28 : decode cX3_makeRules 28 = .ok (.invokevirtual 63, 3) := by decide +kernel
theorem dX3_makeRules_31 : decode cX3_makeRules 31 = .ok (.iadd, 1) := by decide +kernel
theorem dX3_makeRules_32 : decode cX3_makeRules 32 = .ok (.istore_n 1, 1) := by decide +kernel
theorem dX3_makeRules_33 : decode cX3_makeRules 33 = .ok (.iinc 2 1, 3) := by decide +kernel
theorem dX3_makeRules_36 : decode cX3_makeRules 36 = .ok (.goto (-32), 3) := by decide +kernel
theorem dX3_makeRules_39 : decode cX3_makeRules 39 = .ok (.aload_n 0, 1) := by decide +kernel
theorem dX3_makeRules_40 : decode cX3_makeRules 40 = .ok (.iconst 1, 1) := by decide +kernel
theorem dX3_makeRules_41 : decode cX3_makeRules 41 = .ok (.putfield 44, 3) := by decide +kernel
theorem dX3_makeRules_44 : decode cX3_makeRules 44 = .ok (.iload_n 1, 1) := by decide +kernel
theorem dX3_makeRules_45 : decode cX3_makeRules 45 = .ok (.ireturn, 1) := by decide +kernel
theorem dX3_beginning_0 : decode cX3_beginning 0 = .ok (.lconst 0, 1) := by decide +kernel
theorem dX3_beginning_1 : decode cX3_beginning 1 = .ok (.lstore_n 2, 1) := by decide +kernel
theorem dX3_beginning_2 : decode cX3_beginning 2 = .ok (.iconst 0, 1) := by decide +kernel
theorem dX3_beginning_3 : decode cX3_beginning 3 = .ok (.istore 4, 2) := by decide +kernel
theorem dX3_beginning_5 : decode cX3_beginning 5 = .ok (.iload 4, 2) := by decide +kernel
theorem dX3_beginning_7 : decode cX3_beginning 7 = .ok (.aload_n 0, 1) := by decide +kernel
theorem dX3_beginning_8 : decode cX3_beginning 8 = .ok (.getfield 41, 3) := by decide +kernel
theorem dX3_beginning_11 : decode cX3_beginning 11 = .ok (.if_icmp .ge 28, 3) := by decide +kernel
theorem dX3_beginning_14 : decode cX3_beginning 14 = .ok (.lload_n 2, 1) := by decide +kernel
theorem dX3_beginning_15 : decode cX3_beginning 15 = .ok (.aload_n 0, 1) := by decide +kernel
theorem dX3_beginning_16 : decode cX3_beginning 16 = .ok (.getfield 26, 3) := by decide +kernel
theorem dX3_beginning_19 : decode cX3_beginning 19 = .ok (.iload 4, 2) := by decide +kernel
theorem dX3_beginning_21 : decode cX3_beginning 21 = .ok (.aaload, 1) := by decide +kernel
theorem dX3_beginning_22 : decode cX3_beginning 22 = .ok (.iload_n 1, 1) := by decide +kernel
theorem dX3_beginning_23 : decode cX3_beginning 23 = .ok (.invokevirtual 67, 3) := by decide +kernel
theorem dX3_beginning_26 : decode cX3_beginning 26 = .ok (.iload 4, 2) := by decide +kernel
theorem dX3_beginning_28 : decode cX3_beginning 28 = .ok (.invokestatic 71, 3) := by decide +kernel
theorem dX3_beginning_31 : decode cX3_beginning 31 = .ok (.lor, 1) := by decide +kernel
theorem dX3_beginning_32 : decode cX3_beginning 32 = .ok (.lstore_n 2, 1) := by decide +kernel
theorem dX3_beginning_33 : decode cX3_beginning 33 = .ok (.iinc 4 1, 3) := by decide +kernel
theorem dX3_beginning_36 : decode cX3_beginning 36 = .ok (.goto (-31), 3) := by decide +kernel
theorem dX3_beginning_39 : decode cX3_beginning 39 = .ok (.lload_n 2, 1) := by decide +kernel
theorem dX3_beginning_40 : decode cX3_beginning 40 = .ok (.lreturn, 1) := by decide +kernel
theorem dX3_isTrueOf_0 : decode cX3_isTrueOf 0 = .ok (.iconst 0, 1) := by decide +kernel
theorem dX3_isTrueOf_1 : decode cX3_isTrueOf 1 = .ok (.istore_n 2, 1) := by decide +kernel
theorem dX3_isTrueOf_2 : decode cX3_isTrueOf 2 = .ok (.iconst 0, 1) := by decide +kernel
theorem dX3_isTrueOf_3 : decode cX3_isTrueOf 3 = .ok (.istore_n 3, 1) := by decide +kernel
theorem dX3_isTrueOf_4 : decode cX3_isTrueOf 4 = .ok (.iload_n 3, 1) := by decide +kernel
theorem dX3_isTrueOf_5 : decode cX3_isTrueOf 5 = .ok (.aload_n 0, 1) := by decide +kernel
theorem dX3_isTrueOf_6 : decode cX3_isTrueOf 6 = .ok (.getfield 41, 3) := by decide +kernel
theorem dX3_isTrueOf_9 : decode cX3_isTrueOf 9 = .ok (.if_icmp .ge 28, 3) := by decide +kernel
theorem dX3_isTrueOf_12 : decode cX3_isTrueOf 12 = .ok (.aload_n 0, 1) := by decide +kernel
theorem dX3_isTrueOf_13 : decode cX3_isTrueOf 13 = .ok (.getfield 26, 3) := by decide +kernel
theorem dX3_isTrueOf_16 : decode cX3_isTrueOf 16 = .ok (.iload_n 3, 1) := by decide +kernel
theorem dX3_isTrueOf_17 : decode cX3_isTrueOf 17 = .ok (.aaload, 1) := by decide +kernel
theorem dX3_isTrueOf_18 : decode cX3_isTrueOf 18 = .ok (.aload_n 1, 1) := by decide +kernel
theorem dX3_isTrueOf_19 : decode cX3_isTrueOf 19 = .ok (.invokevirtual 77, 3) := by decide +kernel
theorem dX3_isTrueOf_22 : decode cX3_isTrueOf 22 = .ok (.ifCond .eq 9, 3) := by decide +kernel
theorem dX3_isTrueOf_25 : decode cX3_isTrueOf 25 = .ok (.iload_n 2, 1) := by decide +kernel
theorem dX3_isTrueOf_26 : decode cX3_isTrueOf 26 = .ok (.iconst 1, 1) := by decide +kernel
theorem dX3_isTrueOf_27 : decode cX3_isTrueOf 27 = .ok (.iload_n 3, 1) := by decide +kernel
theorem dX3_isTrueOf_28 : decode cX3_isTrueOf 28 = .ok (.ishl, 1) := by decide +kernel
theorem dX3_isTrueOf_29 : decode cX3_isTrueOf 29 = .ok (.ior, 1) := by decide +kernel
theorem dX3_isTrueOf_30 : decode cX3_isTrueOf 30 = .ok (.istore_n 2, 1) := by decide +kernel
theorem dX3_isTrueOf_31 : decode cX3_isTrueOf 31 = .ok (.iinc 3 1, 3) := by decide +kernel
theorem dX3_isTrueOf_34 : decode cX3_isTrueOf 34 = .ok (.goto (-30), 3) := by decide +kernel
theorem dX3_isTrueOf_37 : decode cX3_isTrueOf 37 = .ok (.aload_n 0, 1) := by decide +kernel
theorem dX3_isTrueOf_38 : decode cX3_isTrueOf 38 = .ok (.iload_n 2, 1) := by decide +kernel
theorem dX3_isTrueOf_39 : decode cX3_isTrueOf 39 = .ok (.invokevirtual 81, 3) := by decide +kernel
theorem dX3_isTrueOf_42 : decode cX3_isTrueOf 42 = .ok (.ireturn, 1) := by decide +kernel
theorem dX3_outputOf_0 : decode cX3_outputOf 0 = .ok (.iconst 0, 1) := by decide +kernel
theorem dX3_outputOf_1 : decode cX3_outputOf 1 = .ok (.istore_n 3, 1) := by decide +kernel
theorem dX3_outputOf_2 : decode cX3_outputOf 2 = .ok (.iconst 0, 1) := by decide +kernel
theorem dX3_outputOf_3 : decode cX3_outputOf 3 = .ok (.istore 4, 2) := by decide +kernel
theorem dX3_outputOf_5 : decode cX3_outputOf 5 = .ok (.iload 4, 2) := by decide +kernel
theorem dX3_outputOf_7 : decode cX3_outputOf 7 = .ok (.aload_n 0, 1) := by decide +kernel
theorem dX3_outputOf_8 : decode cX3_outputOf 8 = .ok (.getfield 41, 3) := by decide +kernel
theorem dX3_outputOf_11 : decode cX3_outputOf 11 = .ok (.if_icmp .ge 24, 3) := by decide +kernel
theorem dX3_outputOf_14 : decode cX3_outputOf 14 = .ok (.iload_n 3, 1) := by decide +kernel
theorem dX3_outputOf_15 : decode cX3_outputOf 15 = .ok (.lload_n 1, 1) := by decide +kernel
theorem dX3_outputOf_16 : decode cX3_outputOf 16 = .ok (.iload 4, 2) := by decide +kernel
theorem dX3_outputOf_18 : decode cX3_outputOf 18 = .ok (.invokestatic 85, 3) := by decide +kernel
theorem dX3_outputOf_21 : decode cX3_outputOf 21 = .ok (.invokestatic 89, 3) := by decide +kernel
theorem dX3_outputOf_24 : decode cX3_outputOf 24 = .ok (.iload 4, 2) := by decide +kernel
theorem dX3_outputOf_26 : decode cX3_outputOf 26 = .ok (.ishl, 1) := by decide +kernel
theorem dX3_outputOf_27 : decode cX3_outputOf 27 = .ok (.ior, 1) := by decide +kernel
theorem dX3_outputOf_28 : decode cX3_outputOf 28 = .ok (.istore_n 3, 1) := by decide +kernel
theorem dX3_outputOf_29 : decode cX3_outputOf 29 = .ok (.iinc 4 1, 3) := by decide +kernel
theorem dX3_outputOf_32 : decode cX3_outputOf 32 = .ok (.goto (-27), 3) := by decide +kernel
theorem dX3_outputOf_35 : decode cX3_outputOf 35 = .ok (.aload_n 0, 1) := by decide +kernel
theorem dX3_outputOf_36 : decode cX3_outputOf 36 = .ok (.iload_n 3, 1) := by decide +kernel
theorem dX3_outputOf_37 : decode cX3_outputOf 37 = .ok (.invokevirtual 81, 3) := by decide +kernel
theorem dX3_outputOf_40 : decode cX3_outputOf 40 = .ok (.ireturn, 1) := by decide +kernel
theorem dX3_allOutputsAre_0 : decode cX3_allOutputsAre 0 = .ok (.iconst 0, 1) := by decide +kernel
theorem dX3_allOutputsAre_1 : decode cX3_allOutputsAre 1 = .ok (.istore 5, 2) := by decide +kernel
theorem dX3_allOutputsAre_3 : decode cX3_allOutputsAre 3 = .ok (.iload 5, 2) := by decide +kernel
theorem dX3_allOutputsAre_5 : decode cX3_allOutputsAre 5 = .ok (.iload 4, 2) := by decide +kernel
theorem dX3_allOutputsAre_7 : decode cX3_allOutputsAre 7 = .ok (.if_icmp .ge 25, 3) := by decide +kernel
theorem dX3_allOutputsAre_10 : decode cX3_allOutputsAre 10 = .ok (.aload_n 0, 1) := by decide +kernel
theorem dX3_allOutputsAre_11 : decode cX3_allOutputsAre 11 = .ok (.aload_n 2, 1) := by decide +kernel
theorem dX3_allOutputsAre_12 : decode cX3_allOutputsAre 12 = .ok (.iload_n 3, 1) := by decide +kernel
theorem dX3_allOutputsAre_13 : decode cX3_allOutputsAre 13 = .ok (.iload 5, 2) := by decide +kernel
theorem dX3_allOutputsAre_15 : decode cX3_allOutputsAre 15 = .ok (.iadd, 1) := by decide +kernel
theorem dX3_allOutputsAre_16 : decode cX3_allOutputsAre 16 = .ok (.laload, 1) := by decide +kernel
theorem dX3_allOutputsAre_17 : decode cX3_allOutputsAre 17 = .ok (.invokevirtual 92, 3) := by decide +kernel
theorem dX3_allOutputsAre_20 : decode cX3_allOutputsAre 20 = .ok (.iload_n 1, 1) := by decide +kernel
theorem dX3_allOutputsAre_21 : decode cX3_allOutputsAre 21 = .ok (.if_icmp .eq 5, 3) := by decide +kernel
theorem dX3_allOutputsAre_24 : decode cX3_allOutputsAre 24 = .ok (.iconst 0, 1) := by decide +kernel
theorem dX3_allOutputsAre_25 : decode cX3_allOutputsAre 25 = .ok (.ireturn, 1) := by decide +kernel
theorem dX3_allOutputsAre_26 : decode cX3_allOutputsAre 26 = .ok (.iinc 5 1, 3) := by decide +kernel
theorem dX3_allOutputsAre_29 : decode cX3_allOutputsAre 29 = .ok (.goto (-26), 3) := by decide +kernel
theorem dX3_allOutputsAre_32 : decode cX3_allOutputsAre 32 = .ok (.iconst 1, 1) := by decide +kernel
theorem dX3_allOutputsAre_33 : decode cX3_allOutputsAre 33 = .ok (.ireturn, 1) := by decide +kernel
theorem dX3_evaluate_0 : decode cX3_evaluate 0 = .ok (.iconst 0, 1) := by decide +kernel
theorem dX3_evaluate_1 : decode cX3_evaluate 1 = .ok (.istore_n 2, 1) := by decide +kernel
theorem dX3_evaluate_2 : decode cX3_evaluate 2 = .ok (.iconst 0, 1) := by decide +kernel
theorem dX3_evaluate_3 : decode cX3_evaluate 3 = .ok (.istore_n 3, 1) := by decide +kernel
theorem dX3_evaluate_4 : decode cX3_evaluate 4 = .ok (.iload_n 3, 1) := by decide +kernel
theorem dX3_evaluate_5 : decode cX3_evaluate 5 = .ok (.aload_n 0, 1) := by decide +kernel
theorem dX3_evaluate_6 : decode cX3_evaluate 6 = .ok (.getfield 37, 3) := by decide +kernel
theorem dX3_evaluate_9 : decode cX3_evaluate 9 = .ok (.if_icmp .ge 21, 3) := by decide +kernel
theorem dX3_evaluate_12 : decode cX3_evaluate 12 = .ok (.iload_n 2, 1) := by decide +kernel
theorem dX3_evaluate_13 : decode cX3_evaluate 13 = .ok (.aload_n 0, 1) := by decide +kernel
theorem dX3_evaluate_14 : decode cX3_evaluate 14 = .ok (.iload_n 3, 1) := by decide +kernel
theorem dX3_evaluate_15 : decode cX3_evaluate 15 = .ok (.iload_n 1, 1) := by decide +kernel
theorem dX3_evaluate_16 : decode cX3_evaluate 16 = .ok (.iload_n 2, 1) := by decide +kernel
theorem dX3_evaluate_17 : decode cX3_evaluate 17 = .ok (.invokevirtual 96, 3) := by decide +kernel
theorem dX3_evaluate_20 : decode cX3_evaluate 20 = .ok (.iload_n 3, 1) := by decide +kernel
theorem dX3_evaluate_21 : decode cX3_evaluate 21 = .ok (.ishl, 1) := by decide +kernel
theorem dX3_evaluate_22 : decode cX3_evaluate 22 = .ok (.ior, 1) := by decide +kernel
theorem dX3_evaluate_23 : decode cX3_evaluate 23 = .ok (.istore_n 2, 1) := by decide +kernel
theorem dX3_evaluate_24 : decode cX3_evaluate 24 = .ok (.iinc 3 1, 3) := by decide +kernel
theorem dX3_evaluate_27 : decode cX3_evaluate 27 = .ok (.goto (-23), 3) := by decide +kernel
theorem dX3_evaluate_30 : decode cX3_evaluate 30 = .ok (.aload_n 0, 1) := by decide +kernel
theorem dX3_evaluate_31 : decode cX3_evaluate 31 = .ok (.getfield 37, 3) := by decide +kernel
theorem dX3_evaluate_34 : decode cX3_evaluate 34 = .ok (.ifCond .le 21, 3) := by decide +kernel
theorem dX3_evaluate_37 : decode cX3_evaluate 37 = .ok (.iload_n 2, 1) := by decide +kernel
theorem dX3_evaluate_38 : decode cX3_evaluate 38 = .ok (.aload_n 0, 1) := by decide +kernel
theorem dX3_evaluate_39 : decode cX3_evaluate 39 = .ok (.getfield 37, 3) := by decide +kernel
theorem dX3_evaluate_42 : decode cX3_evaluate 42 = .ok (.iconst 1, 1) := by decide +kernel
theorem dX3_evaluate_43 : decode cX3_evaluate 43 = .ok (.isub, 1) := by decide +kernel
theorem dX3_evaluate_44 : decode cX3_evaluate 44 = .ok (.invokestatic 99, 3) := by decide +kernel
theorem dX3_evaluate_47 : decode cX3_evaluate 47 = .ok (.iconst 1, 1) := by decide +kernel
theorem dX3_evaluate_48 : decode cX3_evaluate 48 = .ok (.if_icmp .ne 7, 3) := by decide +kernel
theorem dX3_evaluate_51 : decode cX3_evaluate 51 = .ok (.iconst 1, 1) := by decide +kernel
theorem dX3_evaluate_52 : decode cX3_evaluate 52 = .ok (.goto 4, 3) := by decide +kernel
theorem dX3_evaluate_55 : decode cX3_evaluate 55 = .ok (.iconst 0, 1) := by decide +kernel
theorem dX3_evaluate_56 : decode cX3_evaluate 56 = .ok (.ireturn, 1) := by decide +kernel
theorem dX3_nodeTruth_0 : decode cX3_nodeTruth 0 = .ok (.aload_n 0, 1) := by decide +kernel
theorem dX3_nodeTruth_1 : decode cX3_nodeTruth 1 = .ok (.getfield 15, 3) := by decide +kernel
theorem dX3_nodeTruth_4 : decode cX3_nodeTruth 4 = .ok (.iload_n 1, 1) := by decide +kernel
theorem dX3_nodeTruth_5 : decode cX3_nodeTruth 5 = .ok (.iaload, 1) := by decide +kernel
theorem dX3_nodeTruth_6 : decode cX3_nodeTruth 6 = .ok (.tableswitch 85 0 3 #[41, 63, 85, 30], 30) := by decide +kernel
theorem dX3_nodeTruth_36 : decode cX3_nodeTruth 36 = .ok (.iload_n 2, 1) := by decide +kernel
theorem dX3_nodeTruth_37 : decode cX3_nodeTruth 37 = .ok (.aload_n 0, 1) := by decide +kernel
theorem dX3_nodeTruth_38 : decode cX3_nodeTruth 38 = .ok (.getfield 18, 3) := by decide +kernel
theorem dX3_nodeTruth_41 : decode cX3_nodeTruth 41 = .ok (.iload_n 1, 1) := by decide +kernel
theorem dX3_nodeTruth_42 : decode cX3_nodeTruth 42 = .ok (.iaload, 1) := by decide +kernel
theorem dX3_nodeTruth_43 : decode cX3_nodeTruth 43 = .ok (.invokestatic 99, 3) := by decide +kernel
theorem dX3_nodeTruth_46 : decode cX3_nodeTruth 46 = .ok (.ireturn, 1) := by decide +kernel
theorem dX3_nodeTruth_47 : decode cX3_nodeTruth 47 = .ok (.iload_n 3, 1) := by decide +kernel
theorem dX3_nodeTruth_48 : decode cX3_nodeTruth 48 = .ok (.aload_n 0, 1) := by decide +kernel
theorem dX3_nodeTruth_49 : decode cX3_nodeTruth 49 = .ok (.getfield 18, 3) := by decide +kernel
theorem dX3_nodeTruth_52 : decode cX3_nodeTruth 52 = .ok (.iload_n 1, 1) := by decide +kernel
theorem dX3_nodeTruth_53 : decode cX3_nodeTruth 53 = .ok (.iaload, 1) := by decide +kernel
theorem dX3_nodeTruth_54 : decode cX3_nodeTruth 54 = .ok (.invokestatic 99, 3) := by decide +kernel
theorem dX3_nodeTruth_57 : decode cX3_nodeTruth 57 = .ok (.iload_n 3, 1) := by decide +kernel
theorem dX3_nodeTruth_58 : decode cX3_nodeTruth 58 = .ok (.aload_n 0, 1) := by decide +kernel
theorem dX3_nodeTruth_59 : decode cX3_nodeTruth 59 = .ok (.getfield 21, 3) := by decide +kernel
theorem dX3_nodeTruth_62 : decode cX3_nodeTruth 62 = .ok (.iload_n 1, 1) := by decide +kernel
theorem dX3_nodeTruth_63 : decode cX3_nodeTruth 63 = .ok (.iaload, 1) := by decide +kernel
theorem dX3_nodeTruth_64 : decode cX3_nodeTruth 64 = .ok (.invokestatic 99, 3) := by decide +kernel
theorem dX3_nodeTruth_67 : decode cX3_nodeTruth 67 = .ok (.iand, 1) := by decide +kernel
theorem dX3_nodeTruth_68 : decode cX3_nodeTruth 68 = .ok (.ireturn, 1) := by decide +kernel
theorem dX3_nodeTruth_69 : decode cX3_nodeTruth 69 = .ok (.iload_n 3, 1) := by decide +kernel
theorem dX3_nodeTruth_70 : decode cX3_nodeTruth 70 = .ok (.aload_n 0, 1) := by decide +kernel
theorem dX3_nodeTruth_71 : decode cX3_nodeTruth 71 = .ok (.getfield 18, 3) := by decide +kernel
theorem dX3_nodeTruth_74 : decode cX3_nodeTruth 74 = .ok (.iload_n 1, 1) := by decide +kernel
theorem dX3_nodeTruth_75 : decode cX3_nodeTruth 75 = .ok (.iaload, 1) := by decide +kernel
theorem dX3_nodeTruth_76 : decode cX3_nodeTruth 76 = .ok (.invokestatic 99, 3) := by decide +kernel
theorem dX3_nodeTruth_79 : decode cX3_nodeTruth 79 = .ok (.iload_n 3, 1) := by decide +kernel
theorem dX3_nodeTruth_80 : decode cX3_nodeTruth 80 = .ok (.aload_n 0, 1) := by decide +kernel
theorem dX3_nodeTruth_81 : decode cX3_nodeTruth 81 = .ok (.getfield 21, 3) := by decide +kernel
theorem dX3_nodeTruth_84 : decode cX3_nodeTruth 84 = .ok (.iload_n 1, 1) := by decide +kernel
theorem dX3_nodeTruth_85 : decode cX3_nodeTruth 85 = .ok (.iaload, 1) := by decide +kernel
theorem dX3_nodeTruth_86 : decode cX3_nodeTruth 86 = .ok (.invokestatic 99, 3) := by decide +kernel
theorem dX3_nodeTruth_89 : decode cX3_nodeTruth 89 = .ok (.ior, 1) := by decide +kernel
theorem dX3_nodeTruth_90 : decode cX3_nodeTruth 90 = .ok (.ireturn, 1) := by decide +kernel
theorem dX3_nodeTruth_91 : decode cX3_nodeTruth 91 = .ok (.iconst 1, 1) := by decide +kernel
theorem dX3_nodeTruth_92 : decode cX3_nodeTruth 92 = .ok (.iload_n 3, 1) := by decide +kernel
theorem dX3_nodeTruth_93 : decode cX3_nodeTruth 93 = .ok (.aload_n 0, 1) := by decide +kernel
theorem dX3_nodeTruth_94 : decode cX3_nodeTruth 94 = .ok (.getfield 18, 3) := by decide +kernel
theorem dX3_nodeTruth_97 : decode cX3_nodeTruth 97 = .ok (.iload_n 1, 1) := by decide +kernel
theorem dX3_nodeTruth_98 : decode cX3_nodeTruth 98 = .ok (.iaload, 1) := by decide +kernel
theorem dX3_nodeTruth_99 : decode cX3_nodeTruth 99 = .ok (.invokestatic 99, 3) := by decide +kernel
theorem dX3_nodeTruth_102 : decode cX3_nodeTruth 102 = .ok (.isub, 1) := by decide +kernel
theorem dX3_nodeTruth_103 : decode cX3_nodeTruth 103 = .ok (.ireturn, 1) := by decide +kernel
theorem dX3_bit_0 : decode cX3_bit 0 = .ok (.iload_n 0, 1) := by decide +kernel
theorem dX3_bit_1 : decode cX3_bit 1 = .ok (.iload_n 1, 1) := by decide +kernel
theorem dX3_bit_2 : decode cX3_bit 2 = .ok (.ishr, 1) := by decide +kernel
theorem dX3_bit_3 : decode cX3_bit 3 = .ok (.iconst 1, 1) := by decide +kernel
theorem dX3_bit_4 : decode cX3_bit 4 = .ok (.iand, 1) := by decide +kernel
theorem dX3_bit_5 : decode cX3_bit 5 = .ok (.ireturn, 1) := by decide +kernel
theorem dX4_init_0 : decode cX4_init 0 = .ok (.aload_n 0, 1) := by decide +kernel
theorem dX4_init_1 : decode cX4_init 1 = .ok (.invokespecial 1, 3) := by decide +kernel
theorem dX4_init_4 : decode cX4_init 4 = .ok (.aload_n 0, 1) := by decide +kernel
theorem dX4_init_5 : decode cX4_init 5 = .ok (.aload_n 1, 1) := by decide +kernel
theorem dX4_init_6 : decode cX4_init 6 = .ok (.putfield 7, 3) := by decide +kernel
theorem dX4_init_9 : decode cX4_init 9 = .ok (.return_, 1) := by decide +kernel
theorem dX4_changes_0 : decode cX4_changes 0 = .ok (.aload_n 0, 1) := by decide +kernel
theorem dX4_changes_1 : decode cX4_changes 1 = .ok (.lload_n 1, 1) := by decide +kernel
theorem dX4_changes_2 : decode cX4_changes 2 = .ok (.putfield 13, 3) := by decide +kernel
theorem dX4_changes_5 : decode cX4_changes 5 = .ok (.aload_n 0, 1) := by decide +kernel
theorem dX4_changes_6 : decode cX4_changes 6 = .ok (.lload_n 3, 1) := by decide +kernel
theorem dX4_changes_7 : decode cX4_changes 7 = .ok (.putfield 17, 3) := by decide +kernel
theorem dX4_changes_10 : decode cX4_changes 10 = .ok (.lload_n 1, 1) := by decide +kernel
theorem dX4_changes_11 : decode cX4_changes 11 = .ok (.lload_n 3, 1) := by decide +kernel
theorem dX4_changes_12 : decode cX4_changes 12 = .ok (.lor, 1) := by decide +kernel
theorem dX4_changes_13 : decode cX4_changes 13 = .ok (.invokestatic 20, 3) := by decide +kernel
theorem dX4_changes_16 : decode cX4_changes 16 = .ok (.ifCond .ne 5, 3) := by decide +kernel
theorem dX4_changes_19 : decode cX4_changes 19 = .ok (.iconst 0, 1) := by decide +kernel
theorem dX4_changes_20 : decode cX4_changes 20 = .ok (.ireturn, 1) := by decide +kernel
theorem dX4_changes_21 : decode cX4_changes 21 = .ok (.aload_n 0, 1) := by decide +kernel
theorem dX4_changes_22 : decode cX4_changes 22 = .ok (.lconst 0, 1) := by decide +kernel
theorem dX4_changes_23 : decode cX4_changes 23 = .ok (.putfield 13, 3) := by decide +kernel
theorem dX4_changes_26 : decode cX4_changes 26 = .ok (.aload_n 0, 1) := by decide +kernel
theorem dX4_changes_27 : decode cX4_changes 27 = .ok (.lconst 0, 1) := by decide +kernel
theorem dX4_changes_28 : decode cX4_changes 28 = .ok (.putfield 17, 3) := by decide +kernel
theorem dX4_changes_31 : decode cX4_changes 31 = .ok (.iconst 0, 1) := by decide +kernel
theorem dX4_changes_32 : decode cX4_changes 32 = .ok (.istore 5, 2) := by decide +kernel
theorem dX4_changes_34 : decode cX4_changes 34 = .ok (.iload 5, 2) := by decide +kernel
theorem dX4_changes_36 : decode cX4_changes 36 = .ok (.aload_n 0, 1) := by decide +kernel
theorem dX4_changes_37 : decode cX4_changes 37 = .ok (.getfield 7, 3) := by decide +kernel
theorem dX4_changes_40 : decode cX4_changes 40 = .ok (.invokevirtual 26, 3) := by decide +kernel
theorem dX4_changes_43 : decode cX4_changes 43 = .ok (.if_icmp .ge 73, 3) := by decide +kernel
theorem dX4_changes_46 : decode cX4_changes 46 = .ok (.aload_n 0, 1) := by decide +kernel
theorem dX4_changes_47 : decode cX4_changes 47 = .ok (.getfield 7, 3) := by decide +kernel
theorem dX4_changes_50 : decode cX4_changes 50 = .ok (.iload 5, 2) := by decide +kernel
theorem dX4_changes_52 : decode cX4_changes 52 = .ok (.invokevirtual 32, 3) := by decide +kernel
theorem dX4_changes_55 : decode cX4_changes 55 = .ok (.lload_n 1, 1) := by decide +kernel
theorem dX4_changes_56 : decode cX4_changes 56 = .ok (.iload 5, 2) := by decide +kernel
theorem dX4_changes_58 : decode cX4_changes 58 = .ok (.invokestatic 36, 3) := by decide +kernel
theorem dX4_changes_61 : decode cX4_changes 61 = .ok (.lload_n 3, 1) := by decide +kernel
theorem dX4_changes_62 : decode cX4_changes 62 = .ok (.iload 5, 2) := by decide +kernel
theorem dX4_changes_64 : decode cX4_changes 64 = .ok (.invokestatic 36, 3) := by decide +kernel
theorem dX4_changes_67 : decode cX4_changes 67 = .ok (.invokevirtual 40, 3) := by decide +kernel
theorem dX4_changes_70 : decode cX4_changes 70 = .ok (.istore 6, 2) := by decide +kernel
theorem dX4_changes_72 : decode cX4_changes 72 = .ok (.aload_n 0, 1) := by decide +kernel
theorem dX4_changes_73 : decode cX4_changes 73 = .ok (.dup, 1) := by decide +kernel
theorem dX4_changes_74 : decode cX4_changes 74 = .ok (.getfield 13, 3) := by decide +kernel
theorem dX4_changes_77 : decode cX4_changes 77 = .ok (.iload 6, 2) := by decide +kernel
theorem dX4_changes_79 : decode cX4_changes 79 = .ok (.invokestatic 46, 3) := by decide +kernel
theorem dX4_changes_82 : decode cX4_changes 82 = .ok (.iload 5, 2) := by decide +kernel
theorem dX4_changes_84 : decode cX4_changes 84 = .ok (.invokestatic 49, 3) := by decide +kernel
theorem dX4_changes_87 : decode cX4_changes 87 = .ok (.lor, 1) := by decide +kernel
theorem dX4_changes_88 : decode cX4_changes 88 = .ok (.putfield 13, 3) := by decide +kernel
theorem dX4_changes_91 : decode cX4_changes 91 = .ok (.aload_n 0, 1) := by decide +kernel
theorem dX4_changes_92 : decode cX4_changes 92 = .ok (.dup, 1) := by decide +kernel
theorem dX4_changes_93 : decode cX4_changes 93 = .ok (.getfield 17, 3) := by decide +kernel
theorem dX4_changes_96 : decode cX4_changes 96 = .ok (.iload 6, 2) := by decide +kernel
theorem dX4_changes_98 : decode cX4_changes 98 = .ok (.invokestatic 53, 3) := by decide +kernel
theorem dX4_changes_101 : decode cX4_changes 101 = .ok (.iload 5, 2) := by decide +kernel
theorem dX4_changes_103 : decode cX4_changes 103 = .ok (.invokestatic 49, 3) := by decide +kernel
theorem dX4_changes_106 : decode cX4_changes 106 = .ok (.lor, 1) := by decide +kernel
theorem dX4_changes_107 : decode cX4_changes 107 = .ok (.putfield 17, 3) := by decide +kernel
theorem dX4_changes_110 : decode cX4_changes 110 = .ok (.iinc 5 1, 3) := by decide +kernel
theorem dX4_changes_113 : decode cX4_changes 113 = .ok (.goto (-79), 3) := by decide +kernel
theorem dX4_changes_116 : decode cX4_changes 116 = .ok (.aload_n 0, 1) := by decide +kernel
theorem dX4_changes_117 : decode cX4_changes 117 = .ok (.getfield 13, 3) := by decide +kernel
theorem dX4_changes_120 : decode cX4_changes 120 = .ok (.lload_n 1, 1) := by decide +kernel
theorem dX4_changes_121 : decode cX4_changes 121 = .ok (.lcmp, 1) := by decide +kernel
theorem dX4_changes_122 : decode cX4_changes 122 = .ok (.ifCond .ne 12, 3) := by decide +kernel
theorem dX4_changes_125 : decode cX4_changes 125 = .ok (.aload_n 0, 1) := by decide +kernel
theorem dX4_changes_126 : decode cX4_changes 126 = .ok (.getfield 17, 3) := by decide +kernel
theorem dX4_changes_129 : decode cX4_changes 129 = .ok (.lload_n 3, 1) := by decide +kernel
theorem dX4_changes_130 : decode cX4_changes 130 = .ok (.lcmp, 1) := by decide +kernel
theorem dX4_changes_131 : decode cX4_changes 131 = .ok (.ifCond .eq 7, 3) := by decide +kernel
theorem dX4_changes_134 : decode cX4_changes 134 = .ok (.iconst 1, 1) := by decide +kernel
theorem dX4_changes_135 : decode cX4_changes 135 = .ok (.goto 4, 3) := by decide +kernel
theorem dX4_changes_138 : decode cX4_changes 138 = .ok (.iconst 0, 1) := by decide +kernel
theorem dX4_changes_139 : decode cX4_changes 139 = .ok (.ireturn, 1) := by decide +kernel
theorem dX4_first_0 : decode cX4_first 0 = .ok (.aload_n 0, 1) := by decide +kernel
theorem dX4_first_1 : decode cX4_first 1 = .ok (.getfield 13, 3) := by decide +kernel
theorem dX4_first_4 : decode cX4_first 4 = .ok (.lreturn, 1) := by decide +kernel
theorem dX4_second_0 : decode cX4_second 0 = .ok (.aload_n 0, 1) := by decide +kernel
theorem dX4_second_1 : decode cX4_second 1 = .ok (.getfield 17, 3) := by decide +kernel
theorem dX4_second_4 : decode cX4_second 4 = .ok (.lreturn, 1) := by decide +kernel
theorem dX4_changesNone_0 : decode cX4_changesNone 0 = .ok (.iconst 0, 1) := by decide +kernel
theorem dX4_changesNone_1 : decode cX4_changesNone 1 = .ok (.istore 4, 2) := by decide +kernel
theorem dX4_changesNone_3 : decode cX4_changesNone 3 = .ok (.iload 4, 2) := by decide +kernel
theorem dX4_changesNone_5 : decode cX4_changesNone 5 = .ok (.iload_n 3, 1) := by decide +kernel
theorem dX4_changesNone_6 : decode cX4_changesNone 6 = .ok (.if_icmp .ge 52, 3) := by decide +kernel
theorem dX4_changesNone_9 : decode cX4_changesNone 9 = .ok (.iconst 0, 1) := by decide +kernel
theorem dX4_changesNone_10 : decode cX4_changesNone 10 = .ok (.istore 5, 2) := by decide +kernel
theorem dX4_changesNone_12 : decode cX4_changesNone 12 = .ok (.iload 5, 2) := by decide +kernel
theorem dX4_changesNone_14 : decode cX4_changesNone 14 = .ok (.iload_n 3, 1) := by decide +kernel
theorem dX4_changesNone_15 : decode cX4_changesNone 15 = .ok (.if_icmp .ge 37, 3) := by decide +kernel
theorem dX4_changesNone_18 : decode cX4_changesNone 18 = .ok (.iload 4, 2) := by decide +kernel
theorem dX4_changesNone_20 : decode cX4_changesNone 20 = .ok (.iload 5, 2) := by decide +kernel
theorem dX4_changesNone_22 : decode cX4_changesNone 22 = .ok (.if_icmp .eq 24, 3) := by decide +kernel
theorem dX4_changesNone_25 : decode cX4_changesNone 25 = .ok (.aload_n 0, 1) := by decide +kernel
theorem dX4_changesNone_26 : decode cX4_changesNone 26 = .ok (.aload_n 1, 1) := by decide +kernel
theorem dX4_changesNone_27 : decode cX4_changesNone 27 = .ok (.iload_n 2, 1) := by decide +kernel
theorem dX4_changesNone_28 : decode cX4_changesNone 28 = .ok (.iload 4, 2) := by decide +kernel
theorem dX4_changesNone_30 : decode cX4_changesNone 30 = .ok (.iadd, 1) := by decide +kernel
theorem dX4_changesNone_31 : decode cX4_changesNone 31 = .ok (.laload, 1) := by decide +kernel
theorem dX4_changesNone_32 : decode cX4_changesNone 32 = .ok (.aload_n 1, 1) := by decide +kernel
theorem dX4_changesNone_33 : decode cX4_changesNone 33 = .ok (.iload_n 2, 1) := by decide +kernel
theorem dX4_changesNone_34 : decode cX4_changesNone 34 = .ok (.iload 5, 2) := by decide +kernel
theorem dX4_changesNone_36 : decode cX4_changesNone 36 = .ok (.iadd, 1) := by decide +kernel
theorem dX4_changesNone_37 : decode cX4_changesNone 37 = .ok (.laload, 1) := by decide +kernel
theorem dX4_changesNone_38 : decode cX4_changesNone 38 = .ok (.invokevirtual 55, 3) := by decide +kernel
theorem dX4_changesNone_41 : decode cX4_changesNone 41 = .ok (.ifCond .eq 5, 3) := by decide +kernel
theorem dX4_changesNone_44 : decode cX4_changesNone 44 = .ok (.iconst 0, 1) := by decide +kernel
theorem dX4_changesNone_45 : decode cX4_changesNone 45 = .ok (.ireturn, 1) := by decide +kernel
theorem dX4_changesNone_46 : decode cX4_changesNone 46 = .ok (.iinc 5 1, 3) := by decide +kernel
theorem dX4_changesNone_49 : decode cX4_changesNone 49 = .ok (.goto (-37), 3) := by decide +kernel
theorem dX4_changesNone_52 : decode cX4_changesNone 52 = .ok (.iinc 4 1, 3) := by decide +kernel
theorem dX4_changesNone_55 : decode cX4_changesNone 55 = .ok (.goto (-52), 3) := by decide +kernel
theorem dX4_changesNone_58 : decode cX4_changesNone 58 = .ok (.iconst 1, 1) := by decide +kernel
theorem dX4_changesNone_59 : decode cX4_changesNone 59 = .ok (.ireturn, 1) := by decide +kernel
theorem dX5_init_0 : decode cX5_init 0 = .ok (.aload_n 0, 1) := by decide +kernel
theorem dX5_init_1 : decode cX5_init 1 = .ok (.invokespecial 3, 3) := by decide +kernel
theorem dX5_init_4 : decode cX5_init 4 = .ok (.aload_n 0, 1) := by decide +kernel
theorem dX5_init_5 : decode cX5_init 5 = .ok (.sipush 18000, 3) := by decide +kernel
theorem dX5_init_8 : decode cX5_init 8 = .ok (.newarray .long, 2) := by decide +kernel
theorem dX5_init_10 : decode cX5_init 10 = .ok (.putfield 9, 3) := by decide +kernel
theorem dX5_init_13 : decode cX5_init 13 = .ok (.aload_n 0, 1) := by decide +kernel
theorem dX5_init_14 : decode cX5_init 14 = .ok (.sipush 8192, 3) := by decide +kernel
theorem dX5_init_17 : decode cX5_init 17 = .ok (.newarray .int, 2) := by decide +kernel
theorem dX5_init_19 : decode cX5_init 19 = .ok (.putfield 15, 3) := by decide +kernel
theorem dX5_init_22 : decode cX5_init 22 = .ok (.aload_n 0, 1) := by decide +kernel
theorem dX5_init_23 : decode cX5_init 23 = .ok (.sipush 3000, 3) := by decide +kernel
theorem dX5_init_26 : decode cX5_init 26 = .ok (.newarray .boolean, 2) := by decide +kernel
theorem dX5_init_28 : decode cX5_init 28 = .ok (.putfield 19, 3) := by decide +kernel
theorem dX5_init_31 : decode cX5_init 31 = .ok (.aload_n 0, 1) := by decide +kernel
theorem dX5_init_32 : decode cX5_init 32 = .ok (.bipush 6, 2) := by decide +kernel
theorem dX5_init_34 : decode cX5_init 34 = .ok (.newarray .long, 2) := by decide +kernel
theorem dX5_init_36 : decode cX5_init 36 = .ok (.putfield 23, 3) := by decide +kernel
theorem dX5_init_39 : decode cX5_init 39 = .ok (.aload_n 0, 1) := by decide +kernel
theorem dX5_init_40 : decode cX5_init 40 = .ok (.aload_n 1, 1) := by decide +kernel
theorem dX5_init_41 : decode cX5_init 41 = .ok (.putfield 26, 3) := by decide +kernel
theorem dX5_init_44 : decode cX5_init 44 = .ok (.aload_n 0, 1) := by decide +kernel
theorem dX5_init_45 : decode cX5_init 45 = .ok (.new 30, 3) := by decide +kernel
theorem dX5_init_48 : decode cX5_init 48 = .ok (.dup, 1) := by decide +kernel
theorem dX5_init_49 : decode cX5_init 49 = .ok (.aload_n 1, 1) := by decide +kernel
theorem dX5_init_50 : decode cX5_init 50 = .ok (.invokespecial 32, 3) := by decide +kernel
theorem dX5_init_53 : decode cX5_init 53 = .ok (.putfield 35, 3) := by decide +kernel
theorem dX5_init_56 : decode cX5_init 56 = .ok (.return_, 1) := by decide +kernel
theorem dX5_findAll_0 : decode cX5_findAll 0 = .ok (.aload_n 0, 1) := by decide +kernel
theorem dX5_findAll_1 : decode cX5_findAll 1 = .ok (.getfield 15, 3) := by decide +kernel
theorem dX5_findAll_4 : decode cX5_findAll 4 = .ok (.iconst (-1), 1) := by decide +kernel
theorem dX5_findAll_5 : decode cX5_findAll 5 = .ok (.invokestatic 39, 3) := by decide +kernel
theorem dX5_findAll_8 : decode cX5_findAll 8 = .ok (.aload_n 0, 1) := by decide +kernel
theorem dX5_findAll_9 : decode cX5_findAll 9 = .ok (.aload_n 1, 1) := by decide +kernel
theorem dX5_findAll_10 : decode cX5_findAll 10 = .ok (.invokevirtual 45, 3) := by decide +kernel
theorem dX5_findAll_13 : decode cX5_findAll 13 = .ok (.putfield 51, 3) := by decide +kernel
theorem dX5_findAll_16 : decode cX5_findAll 16 = .ok (.aload_n 0, 1) := by decide +kernel
theorem dX5_findAll_17 : decode cX5_findAll 17 = .ok (.iconst 0, 1) := by decide +kernel
theorem dX5_findAll_18 : decode cX5_findAll 18 = .ok (.putfield 55, 3) := by decide +kernel
theorem dX5_findAll_21 : decode cX5_findAll 21 = .ok (.iconst 0, 1) := by decide +kernel
theorem dX5_findAll_22 : decode cX5_findAll 22 = .ok (.istore_n 3, 1) := by decide +kernel
theorem dX5_findAll_23 : decode cX5_findAll 23 = .ok (.iload_n 3, 1) := by decide +kernel
theorem dX5_findAll_24 : decode cX5_findAll 24 = .ok (.aload_n 0, 1) := by decide +kernel
theorem dX5_findAll_25 : decode cX5_findAll 25 = .ok (.getfield 51, 3) := by decide +kernel
theorem dX5_findAll_28 : decode cX5_findAll 28 = .ok (.if_icmp .ge 20, 3) := by decide +kernel
theorem dX5_findAll_31 : decode cX5_findAll 31 = .ok (.aload_n 0, 1) := by decide +kernel
theorem dX5_findAll_32 : decode cX5_findAll 32 = .ok (.getfield 23, 3) := by decide +kernel
theorem dX5_findAll_35 : decode cX5_findAll 35 = .ok (.iload_n 3, 1) := by decide +kernel
theorem dX5_findAll_36 : decode cX5_findAll 36 = .ok (.aload_n 1, 1) := by decide +kernel
theorem dX5_findAll_37 : decode cX5_findAll 37 = .ok (.iload_n 3, 1) := by decide +kernel
theorem dX5_findAll_38 : decode cX5_findAll 38 = .ok (.invokevirtual 58, 3) := by decide +kernel
theorem dX5_findAll_41 : decode cX5_findAll 41 = .ok (.lastore, 1) := by decide +kernel
theorem dX5_findAll_42 : decode cX5_findAll 42 = .ok (.iinc 3 1, 3) := by decide +kernel
theorem dX5_findAll_45 : decode cX5_findAll 45 = .ok (.goto (-22), 3) := by decide +kernel
theorem dX5_findAll_48 : decode cX5_findAll 48 = .ok (.aload_n 0, 1) := by decide +kernel
theorem dX5_findAll_49 : decode cX5_findAll 49 = .ok (.invokevirtual 62, 3) := by decide +kernel
theorem dX5_findAll_52 : decode cX5_findAll 52 = .ok (.aload_n 0, 1) := by decide +kernel
theorem dX5_findAll_53 : decode cX5_findAll 53 = .ok (.aload_n 0, 1) := by decide +kernel
theorem dX5_findAll_54 : decode cX5_findAll 54 = .ok (.invokevirtual 65, 3) := by decide +kernel
theorem dX5_findAll_57 : decode cX5_findAll 57 = .ok (.invokevirtual 68, 3) := by decide +kernel
theorem dX5_findAll_60 : decode cX5_findAll 60 = .ok (.iconst 0, 1) := by decide +kernel
theorem dX5_findAll_61 : decode cX5_findAll 61 = .ok (.istore_n 3, 1) := by decide +kernel
theorem dX5_findAll_62 : decode cX5_findAll 62 = .ok (.iload_n 3, 1) := by decide +kernel
theorem dX5_findAll_63 : decode cX5_findAll 63 = .ok (.aload_n 0, 1) := by decide +kernel
theorem dX5_findAll_64 : decode cX5_findAll 64 = .ok (.getfield 55, 3) := by decide +kernel
theorem dX5_findAll_67 : decode cX5_findAll 67 = .ok (.if_icmp .ge 25, 3) := by decide +kernel
theorem dX5_findAll_70 : decode cX5_findAll 70 = .ok (.iload_n 3, 1) := by decide +kernel
theorem dX5_findAll_71 : decode cX5_findAll 71 = .ok (.iload_n 2, 1) := by decide +kernel
theorem dX5_findAll_72 : decode cX5_findAll 72 = .ok (.if_icmp .ge 20, 3) := by decide +kernel
theorem dX5_findAll_75 : decode cX5_findAll 75 = .ok (.aload_n 0, 1) := by decide +kernel
theorem dX5_findAll_76 : decode cX5_findAll 76 = .ok (.iload_n 3, 1) := by decide +kernel
theorem dX5_findAll_77 : decode cX5_findAll 77 = .ok (.iload_n 2, 1) := by decide +kernel
theorem dX5_findAll_78 : decode cX5_findAll 78 = .ok (.invokevirtual 72, 3) := by decide +kernel
theorem dX5_findAll_81 : decode cX5_findAll 81 = .ok (.ifCond .ne 5, 3) := by decide +kernel
theorem dX5_findAll_84 : decode cX5_findAll 84 = .ok (.iconst (-1), 1) := by decide +kernel
theorem dX5_findAll_85 : decode cX5_findAll 85 = .ok (.ireturn, 1) := by decide +kernel
theorem dX5_findAll_86 : decode cX5_findAll 86 = .ok (.iinc 3 1, 3) := by decide +kernel
theorem dX5_findAll_89 : decode cX5_findAll 89 = .ok (.goto (-27), 3) := by decide +kernel
theorem dX5_findAll_92 : decode cX5_findAll 92 = .ok (.aload_n 0, 1) := by decide +kernel
theorem dX5_findAll_93 : decode cX5_findAll 93 = .ok (.getfield 55, 3) := by decide +kernel
theorem dX5_findAll_96 : decode cX5_findAll 96 = .ok (.ireturn, 1) := by decide +kernel
theorem dX5_keepAllAfter_0 : decode cX5_keepAllAfter 0 = .ok (.iconst 0, 1) := by decide +kernel
theorem dX5_keepAllAfter_1 : decode cX5_keepAllAfter 1 = .ok (.istore_n 3, 1) := by decide +kernel
theorem dX5_keepAllAfter_2 : decode cX5_keepAllAfter 2 = .ok (.iload_n 3, 1) := by decide +kernel
theorem dX5_keepAllAfter_3 : decode cX5_keepAllAfter 3 = .ok (.aload_n 0, 1) := by decide +kernel
theorem dX5_keepAllAfter_4 : decode cX5_keepAllAfter 4 = .ok (.getfield 51, 3) := by decide +kernel
theorem dX5_keepAllAfter_7 : decode cX5_keepAllAfter 7 = .ok (.if_icmp .ge 77, 3) := by decide +kernel
theorem dX5_keepAllAfter_10 : decode cX5_keepAllAfter 10 = .ok (.iconst 0, 1) := by decide +kernel
theorem dX5_keepAllAfter_11 : decode cX5_keepAllAfter 11 = .ok (.istore 4, 2) := by decide +kernel
theorem dX5_keepAllAfter_13 : decode cX5_keepAllAfter 13 = .ok (.iload 4, 2) := by decide +kernel
theorem dX5_keepAllAfter_15 : decode cX5_keepAllAfter 15 = .ok (.aload_n 0, 1) := by decide +kernel
theorem dX5_keepAllAfter_16 : decode cX5_keepAllAfter 16 = .ok (.getfield 51, 3) := by decide +kernel
theorem dX5_keepAllAfter_19 : decode cX5_keepAllAfter 19 = .ok (.if_icmp .ge 59, 3) := by decide +kernel
theorem dX5_keepAllAfter_22 : decode cX5_keepAllAfter 22 = .ok (.iload_n 3, 1) := by decide +kernel
theorem dX5_keepAllAfter_23 : decode cX5_keepAllAfter 23 = .ok (.iload 4, 2) := by decide +kernel
theorem dX5_keepAllAfter_25 : decode cX5_keepAllAfter 25 = .ok (.if_icmp .eq 47, 3) := by decide +kernel
theorem dX5_keepAllAfter_28 : decode cX5_keepAllAfter 28 = .ok (.aload_n 0, 1) := by decide +kernel
theorem dX5_keepAllAfter_29 : decode cX5_keepAllAfter 29 = .ok (.iload_n 1, 1) := by decide +kernel
theorem dX5_keepAllAfter_30 : decode cX5_keepAllAfter 30 = .ok (.iload_n 3, 1) := by decide +kernel
theorem dX5_keepAllAfter_31 : decode cX5_keepAllAfter 31 = .ok (.iload 4, 2) := by decide +kernel
theorem dX5_keepAllAfter_33 : decode cX5_keepAllAfter 33 = .ok (.invokevirtual 76, 3) := by decide +kernel
theorem dX5_keepAllAfter_36 : decode cX5_keepAllAfter 36 = .ok (.ifCond .eq 36, 3) := by decide +kernel
theorem dX5_keepAllAfter_39 : decode cX5_keepAllAfter 39 = .ok (.aload_n 0, 1) := by decide +kernel
theorem dX5_keepAllAfter_40 : decode cX5_keepAllAfter 40 = .ok (.invokevirtual 65, 3) := by decide +kernel
theorem dX5_keepAllAfter_43 : decode cX5_keepAllAfter 43 = .ok (.istore 5, 2) := by decide +kernel
theorem dX5_keepAllAfter_45 : decode cX5_keepAllAfter 45 = .ok (.aload_n 0, 1) := by decide +kernel
theorem dX5_keepAllAfter_46 : decode cX5_keepAllAfter 46 = .ok (.getfield 15, 3) := by decide +kernel
theorem dX5_keepAllAfter_49 : decode cX5_keepAllAfter 49 = .ok (.iload 5, 2) := by decide +kernel
theorem dX5_keepAllAfter_51 : decode cX5_keepAllAfter 51 = .ok (.iaload, 1) := by decide +kernel
theorem dX5_keepAllAfter_52 : decode cX5_keepAllAfter 52 = .ok (.iconst (-1), 1) := by decide +kernel
theorem dX5_keepAllAfter_53 : decode cX5_keepAllAfter 53 = .ok (.if_icmp .ne 19, 3) := by decide +kernel
theorem dX5_keepAllAfter_56 : decode cX5_keepAllAfter 56 = .ok (.aload_n 0, 1) := by decide +kernel
theorem dX5_keepAllAfter_57 : decode cX5_keepAllAfter 57 = .ok (.getfield 55, 3) := by decide +kernel
theorem dX5_keepAllAfter_60 : decode cX5_keepAllAfter 60 = .ok (.iload_n 2, 1) := by decide +kernel
theorem dX5_keepAllAfter_61 : decode cX5_keepAllAfter 61 = .ok (.if_icmp .ne 5, 3) := by decide +kernel
theorem dX5_keepAllAfter_64 : decode cX5_keepAllAfter 64 = .ok (.iconst 0, 1) := by decide +kernel
theorem dX5_keepAllAfter_65 : decode cX5_keepAllAfter 65 = .ok (.ireturn, 1) := by decide +kernel
theorem dX5_keepAllAfter_66 : decode cX5_keepAllAfter 66 = .ok (.aload_n 0, 1) := by decide +kernel
theorem dX5_keepAllAfter_67 : decode cX5_keepAllAfter 67 = .ok (.iload 5, 2) := by decide +kernel
theorem dX5_keepAllAfter_69 : decode cX5_keepAllAfter 69 = .ok (.invokevirtual 68, 3) := by decide +kernel
theorem dX5_keepAllAfter_72 : decode cX5_keepAllAfter 72 = .ok (.iinc 4 1, 3) := by decide +kernel
theorem dX5_keepAllAfter_75 : decode cX5_keepAllAfter 75 = .ok (.goto (-62), 3) := by decide +kernel
theorem dX5_keepAllAfter_78 : decode cX5_keepAllAfter 78 = .ok (.iinc 3 1, 3) := by decide +kernel
theorem dX5_keepAllAfter_81 : decode cX5_keepAllAfter 81 = .ok (.goto (-79), 3) := by decide +kernel
theorem dX5_keepAllAfter_84 : decode cX5_keepAllAfter 84 = .ok (.iconst 1, 1) := by decide +kernel
theorem dX5_keepAllAfter_85 : decode cX5_keepAllAfter 85 = .ok (.ireturn, 1) := by decide +kernel
theorem dX5_stepToNext_0 : decode cX5_stepToNext 0 = .ok (.iload_n 1, 1) := by decide +kernel
theorem dX5_stepToNext_1 : decode cX5_stepToNext 1 = .ok (.aload_n 0, 1) := by decide +kernel
theorem dX5_stepToNext_2 : decode cX5_stepToNext 2 = .ok (.getfield 51, 3) := by decide +kernel
theorem dX5_stepToNext_5 : decode cX5_stepToNext 5 = .ok (.imul, 1) := by decide +kernel
theorem dX5_stepToNext_6 : decode cX5_stepToNext 6 = .ok (.istore 4, 2) := by decide +kernel
theorem dX5_stepToNext_8 : decode cX5_stepToNext 8 = .ok (.aload_n 0, 1) := by decide +kernel
theorem dX5_stepToNext_9 : decode cX5_stepToNext 9 = .ok (.getfield 35, 3) := by decide +kernel
theorem dX5_stepToNext_12 : decode cX5_stepToNext 12 = .ok (.aload_n 0, 1) := by decide +kernel
theorem dX5_stepToNext_13 : decode cX5_stepToNext 13 = .ok (.getfield 9, 3) := by decide +kernel
theorem dX5_stepToNext_16 : decode cX5_stepToNext 16 = .ok (.iload 4, 2) := by decide +kernel
theorem dX5_stepToNext_18 : decode cX5_stepToNext 18 = .ok (.iload_n 2, 1) := by decide +kernel
theorem dX5_stepToNext_19 : decode cX5_stepToNext 19 = .ok (.iadd, 1) := by decide +kernel
theorem dX5_stepToNext_20 : decode cX5_stepToNext 20 = .ok (.laload, 1) := by decide +kernel
theorem dX5_stepToNext_21 : decode cX5_stepToNext 21 = .ok (.aload_n 0, 1) := by decide +kernel
theorem dX5_stepToNext_22 : decode cX5_stepToNext 22 = .ok (.getfield 9, 3) := by decide +kernel
theorem dX5_stepToNext_25 : decode cX5_stepToNext 25 = .ok (.iload 4, 2) := by decide +kernel
theorem dX5_stepToNext_27 : decode cX5_stepToNext 27 = .ok (.iload_n 3, 1) := by decide +kernel
theorem dX5_stepToNext_28 : decode cX5_stepToNext 28 = .ok (.iadd, 1) := by decide +kernel
theorem dX5_stepToNext_29 : decode cX5_stepToNext 29 = .ok (.laload, 1) := by decide +kernel
theorem dX5_stepToNext_30 : decode cX5_stepToNext 30 = .ok (.invokevirtual 80, 3) := by decide +kernel
theorem dX5_stepToNext_33 : decode cX5_stepToNext 33 = .ok (.ifCond .ne 5, 3) := by decide +kernel
theorem dX5_stepToNext_36 : decode cX5_stepToNext 36 = .ok (.iconst 0, 1) := by decide +kernel
theorem dX5_stepToNext_37 : decode cX5_stepToNext 37 = .ok (.ireturn, 1) := by decide +kernel
theorem dX5_stepToNext_38 : decode cX5_stepToNext 38 = .ok (.iconst 0, 1) := by decide +kernel
theorem dX5_stepToNext_39 : decode cX5_stepToNext 39 = .ok (.istore 5, 2) := by decide +kernel
theorem dX5_stepToNext_41 : decode cX5_stepToNext 41 = .ok (.iload 5, 2) := by decide +kernel
theorem dX5_stepToNext_43 : decode cX5_stepToNext 43 = .ok (.aload_n 0, 1) := by decide +kernel
theorem dX5_stepToNext_44 : decode cX5_stepToNext 44 = .ok (.getfield 51, 3) := by decide +kernel
theorem dX5_stepToNext_47 : decode cX5_stepToNext 47 = .ok (.if_icmp .ge 26, 3) := by decide +kernel
theorem dX5_stepToNext_50 : decode cX5_stepToNext 50 = .ok (.aload_n 0, 1) := by decide +kernel
theorem dX5_stepToNext_51 : decode cX5_stepToNext 51 = .ok (.getfield 23, 3) := by decide +kernel
theorem dX5_stepToNext_54 : decode cX5_stepToNext 54 = .ok (.iload 5, 2) := by decide +kernel
theorem dX5_stepToNext_56 : decode cX5_stepToNext 56 = .ok (.aload_n 0, 1) := by decide +kernel
theorem dX5_stepToNext_57 : decode cX5_stepToNext 57 = .ok (.getfield 9, 3) := by decide +kernel
theorem dX5_stepToNext_60 : decode cX5_stepToNext 60 = .ok (.iload 4, 2) := by decide +kernel
theorem dX5_stepToNext_62 : decode cX5_stepToNext 62 = .ok (.iload 5, 2) := by decide +kernel
theorem dX5_stepToNext_64 : decode cX5_stepToNext 64 = .ok (.iadd, 1) := by decide +kernel
theorem dX5_stepToNext_65 : decode cX5_stepToNext 65 = .ok (.laload, 1) := by decide +kernel
theorem dX5_stepToNext_66 : decode cX5_stepToNext 66 = .ok (.lastore, 1) := by decide +kernel
theorem dX5_stepToNext_67 : decode cX5_stepToNext 67 = .ok (.iinc 5 1, 3) := by decide +kernel
theorem dX5_stepToNext_70 : decode cX5_stepToNext 70 = .ok (.goto (-29), 3) := by decide +kernel
theorem dX5_stepToNext_73 : decode cX5_stepToNext 73 = .ok (.aload_n 0, 1) := by decide +kernel
theorem dX5_stepToNext_74 : decode cX5_stepToNext 74 = .ok (.getfield 23, 3) := by decide +kernel
theorem dX5_stepToNext_77 : decode cX5_stepToNext 77 = .ok (.iload_n 2, 1) := by decide +kernel
theorem dX5_stepToNext_78 : decode cX5_stepToNext 78 = .ok (.aload_n 0, 1) := by decide +kernel
theorem dX5_stepToNext_79 : decode cX5_stepToNext 79 = .ok (.getfield 35, 3) := by decide +kernel
theorem dX5_stepToNext_82 : decode cX5_stepToNext 82 = .ok (.invokevirtual 84, 3) := by decide +kernel
theorem dX5_stepToNext_85 : decode cX5_stepToNext 85 = .ok (.lastore, 1) := by decide +kernel
theorem dX5_stepToNext_86 : decode cX5_stepToNext 86 = .ok (.aload_n 0, 1) := by decide +kernel
theorem dX5_stepToNext_87 : decode cX5_stepToNext 87 = .ok (.getfield 23, 3) := by decide +kernel
theorem dX5_stepToNext_90 : decode cX5_stepToNext 90 = .ok (.iload_n 3, 1) := by decide +kernel
theorem dX5_stepToNext_91 : decode cX5_stepToNext 91 = .ok (.aload_n 0, 1) := by decide +kernel
theorem dX5_stepToNext_92 : decode cX5_stepToNext 92 = .ok (.getfield 35, 3) := by decide +kernel
theorem dX5_stepToNext_95 : decode cX5_stepToNext 95 = .ok (.invokevirtual 88, 3) := by decide +kernel
theorem dX5_stepToNext_98 : decode cX5_stepToNext 98 = .ok (.lastore, 1) := by decide +kernel
theorem dX5_stepToNext_99 : decode cX5_stepToNext 99 = .ok (.aload_n 0, 1) := by decide +kernel
theorem dX5_stepToNext_100 : decode cX5_stepToNext 100 = .ok (.invokevirtual 62, 3) := by decide +kernel
theorem dX5_stepToNext_103 : decode cX5_stepToNext 103 = .ok (.iconst 1, 1) := by decide +kernel
theorem dX5_stepToNext_104 : decode cX5_stepToNext 104 = .ok (.ireturn, 1) := by decide +kernel
theorem dX5_sortNext_0 : decode cX5_sortNext 0 = .ok (.iconst 1, 1) := by decide +kernel
theorem dX5_sortNext_1 : decode cX5_sortNext 1 = .ok (.istore_n 1, 1) := by decide +kernel
theorem dX5_sortNext_2 : decode cX5_sortNext 2 = .ok (.iload_n 1, 1) := by decide +kernel
theorem dX5_sortNext_3 : decode cX5_sortNext 3 = .ok (.aload_n 0, 1) := by decide +kernel
theorem dX5_sortNext_4 : decode cX5_sortNext 4 = .ok (.getfield 51, 3) := by decide +kernel
theorem dX5_sortNext_7 : decode cX5_sortNext 7 = .ok (.if_icmp .ge 68, 3) := by decide +kernel
theorem dX5_sortNext_10 : decode cX5_sortNext 10 = .ok (.aload_n 0, 1) := by decide +kernel
theorem dX5_sortNext_11 : decode cX5_sortNext 11 = .ok (.getfield 23, 3) := by decide +kernel
theorem dX5_sortNext_14 : decode cX5_sortNext 14 = .ok (.iload_n 1, 1) := by decide +kernel
theorem dX5_sortNext_15 : decode cX5_sortNext 15 = .ok (.laload, 1) := by decide +kernel
theorem dX5_sortNext_16 : decode cX5_sortNext 16 = .ok (.lstore_n 2, 1) := by decide +kernel
theorem dX5_sortNext_17 : decode cX5_sortNext 17 = .ok (.iload_n 1, 1) := by decide +kernel
theorem dX5_sortNext_18 : decode cX5_sortNext 18 = .ok (.istore 4, 2) := by decide +kernel
theorem dX5_sortNext_20 : decode cX5_sortNext 20 = .ok (.iload 4, 2) := by decide +kernel
theorem dX5_sortNext_22 : decode cX5_sortNext 22 = .ok (.ifCond .le 39, 3) := by decide +kernel
theorem dX5_sortNext_25 : decode cX5_sortNext 25 = .ok (.aload_n 0, 1) := by decide +kernel
theorem dX5_sortNext_26 : decode cX5_sortNext 26 = .ok (.getfield 23, 3) := by decide +kernel
theorem dX5_sortNext_29 : decode cX5_sortNext 29 = .ok (.iload 4, 2) := by decide +kernel
theorem dX5_sortNext_31 : decode cX5_sortNext 31 = .ok (.iconst 1, 1) := by decide +kernel
theorem dX5_sortNext_32 : decode cX5_sortNext 32 = .ok (.isub, 1) := by decide +kernel
theorem dX5_sortNext_33 : decode cX5_sortNext 33 = .ok (.laload, 1) := by decide +kernel
theorem dX5_sortNext_34 : decode cX5_sortNext 34 = .ok (.lload_n 2, 1) := by decide +kernel
theorem dX5_sortNext_35 : decode cX5_sortNext 35 = .ok (.lcmp, 1) := by decide +kernel
theorem dX5_sortNext_36 : decode cX5_sortNext 36 = .ok (.ifCond .le 25, 3) := by decide +kernel
theorem dX5_sortNext_39 : decode cX5_sortNext 39 = .ok (.aload_n 0, 1) := by decide +kernel
theorem dX5_sortNext_40 : decode cX5_sortNext 40 = .ok (.getfield 23, 3) := by decide +kernel
theorem dX5_sortNext_43 : decode cX5_sortNext 43 = .ok (.iload 4, 2) := by decide +kernel
theorem dX5_sortNext_45 : decode cX5_sortNext 45 = .ok (.aload_n 0, 1) := by decide +kernel
theorem dX5_sortNext_46 : decode cX5_sortNext 46 = .ok (.getfield 23, 3) := by decide +kernel
theorem dX5_sortNext_49 : decode cX5_sortNext 49 = .ok (.iload 4, 2) := by decide +kernel
theorem dX5_sortNext_51 : decode cX5_sortNext 51 = .ok (.iconst 1, 1) := by decide +kernel
theorem dX5_sortNext_52 : decode cX5_sortNext 52 = .ok (.isub, 1) := by decide +kernel
theorem dX5_sortNext_53 : decode cX5_sortNext 53 = .ok (.laload, 1) := by decide +kernel
theorem dX5_sortNext_54 : decode cX5_sortNext 54 = .ok (.lastore, 1) := by decide +kernel
theorem dX5_sortNext_55 : decode cX5_sortNext 55 = .ok (.iinc 4 (-1), 3) := by decide +kernel
theorem dX5_sortNext_58 : decode cX5_sortNext 58 = .ok (.goto (-38), 3) := by decide +kernel
theorem dX5_sortNext_61 : decode cX5_sortNext 61 = .ok (.aload_n 0, 1) := by decide +kernel
theorem dX5_sortNext_62 : decode cX5_sortNext 62 = .ok (.getfield 23, 3) := by decide +kernel
theorem dX5_sortNext_65 : decode cX5_sortNext 65 = .ok (.iload 4, 2) := by decide +kernel
theorem dX5_sortNext_67 : decode cX5_sortNext 67 = .ok (.lload_n 2, 1) := by decide +kernel
theorem dX5_sortNext_68 : decode cX5_sortNext 68 = .ok (.lastore, 1) := by decide +kernel
theorem dX5_sortNext_69 : decode cX5_sortNext 69 = .ok (.iinc 1 1, 3) := by decide +kernel
theorem dX5_sortNext_72 : decode cX5_sortNext 72 = .ok (.goto (-70), 3) := by decide +kernel
theorem dX5_sortNext_75 : decode cX5_sortNext 75 = .ok (.return_, 1) := by decide +kernel
theorem dX5_keepNext_0 : decode cX5_keepNext 0 = .ok (.aload_n 0, 1) := by decide +kernel
theorem dX5_keepNext_1 : decode cX5_keepNext 1 = .ok (.getfield 15, 3) := by decide +kernel
theorem dX5_keepNext_4 : decode cX5_keepNext 4 = .ok (.iload_n 1, 1) := by decide +kernel
theorem dX5_keepNext_5 : decode cX5_keepNext 5 = .ok (.aload_n 0, 1) := by decide +kernel
theorem dX5_keepNext_6 : decode cX5_keepNext 6 = .ok (.getfield 55, 3) := by decide +kernel
theorem dX5_keepNext_9 : decode cX5_keepNext 9 = .ok (.iastore, 1) := by decide +kernel
theorem dX5_keepNext_10 : decode cX5_keepNext 10 = .ok (.iconst 0, 1) := by decide +kernel
theorem dX5_keepNext_11 : decode cX5_keepNext 11 = .ok (.istore_n 2, 1) := by decide +kernel
theorem dX5_keepNext_12 : decode cX5_keepNext 12 = .ok (.iload_n 2, 1) := by decide +kernel
theorem dX5_keepNext_13 : decode cX5_keepNext 13 = .ok (.aload_n 0, 1) := by decide +kernel
theorem dX5_keepNext_14 : decode cX5_keepNext 14 = .ok (.getfield 51, 3) := by decide +kernel
theorem dX5_keepNext_17 : decode cX5_keepNext 17 = .ok (.if_icmp .ge 31, 3) := by decide +kernel
theorem dX5_keepNext_20 : decode cX5_keepNext 20 = .ok (.aload_n 0, 1) := by decide +kernel
theorem dX5_keepNext_21 : decode cX5_keepNext 21 = .ok (.getfield 9, 3) := by decide +kernel
theorem dX5_keepNext_24 : decode cX5_keepNext 24 = .ok (.aload_n 0, 1) := by decide +kernel
theorem dX5_keepNext_25 : decode cX5_keepNext 25 = .ok (.getfield 55, 3) := by decide +kernel
theorem dX5_keepNext_28 : decode cX5_keepNext 28 = .ok (.aload_n 0, 1) := by decide +kernel
theorem dX5_keepNext_29 : decode cX5_keepNext 29 = .ok (.getfield 51, 3) := by decide +kernel
theorem dX5_keepNext_32 : decode cX5_keepNext 32 = .ok (.imul, 1) := by decide +kernel
theorem dX5_keepNext_33 : decode cX5_keepNext 33 = .ok (.iload_n 2, 1) := by decide +kernel
theorem dX5_keepNext_34 : decode cX5_keepNext 34 = .ok (.iadd, 1) := by decide +kernel
theorem dX5_keepNext_35 : decode cX5_keepNext 35 = .ok (.aload_n 0, 1) := by decide +kernel
theorem dX5_keepNext_36 : decode cX5_keepNext 36 = .ok (.getfield 23, 3) := by decide +kernel
theorem dX5_keepNext_39 : decode cX5_keepNext 39 = .ok (.iload_n 2, 1) := by decide +kernel
theorem dX5_keepNext_40 : decode cX5_keepNext 40 = .ok (.laload, 1) := by decide +kernel
theorem dX5_keepNext_41 : decode cX5_keepNext 41 = .ok (.lastore, 1) := by decide +kernel
theorem dX5_keepNext_42 : decode cX5_keepNext 42 = .ok (.iinc 2 1, 3) := by decide +kernel
theorem dX5_keepNext_45 : decode cX5_keepNext 45 = .ok (.goto (-33), 3) := by decide +kernel
theorem dX5_keepNext_48 : decode cX5_keepNext 48 = .ok (.aload_n 0, 1) := by decide +kernel
theorem dX5_keepNext_49 : decode cX5_keepNext 49 = .ok (.dup, 1) := by decide +kernel
theorem dX5_keepNext_50 : decode cX5_keepNext 50 = .ok (.getfield 55, 3) := by decide +kernel
theorem dX5_keepNext_53 : decode cX5_keepNext 53 = .ok (.iconst 1, 1) := by decide +kernel
theorem dX5_keepNext_54 : decode cX5_keepNext 54 = .ok (.iadd, 1) := by decide +kernel
theorem dX5_keepNext_55 : decode cX5_keepNext 55 = .ok (.putfield 55, 3) := by decide +kernel
theorem dX5_keepNext_58 : decode cX5_keepNext 58 = .ok (.return_, 1) := by decide +kernel
theorem dX5_slotOfNext_0 : decode cX5_slotOfNext 0 = .ok (.lconst 0, 1) := by decide +kernel
theorem dX5_slotOfNext_1 : decode cX5_slotOfNext 1 = .ok (.lstore_n 1, 1) := by decide +kernel
theorem dX5_slotOfNext_2 : decode cX5_slotOfNext 2 = .ok (.iconst 0, 1) := by decide +kernel
theorem dX5_slotOfNext_3 : decode cX5_slotOfNext 3 = .ok (.istore_n 3, 1) := by decide +kernel
theorem dX5_slotOfNext_4 : decode cX5_slotOfNext 4 = .ok (.iload_n 3, 1) := by decide +kernel
theorem dX5_slotOfNext_5 : decode cX5_slotOfNext 5 = .ok (.aload_n 0, 1) := by decide +kernel
theorem dX5_slotOfNext_6 : decode cX5_slotOfNext 6 = .ok (.getfield 51, 3) := by decide +kernel
theorem dX5_slotOfNext_9 : decode cX5_slotOfNext 9 = .ok (.if_icmp .ge 22, 3) := by decide +kernel
theorem dX5_slotOfNext_12 : decode cX5_slotOfNext 12 = .ok (.lload_n 1, 1) := by decide +kernel
theorem dX5_slotOfNext_13 : decode cX5_slotOfNext 13 = .ok (.aload_n 0, 1) := by decide +kernel
theorem dX5_slotOfNext_14 : decode cX5_slotOfNext 14 = .ok (.getfield 23, 3) := by decide +kernel
theorem dX5_slotOfNext_17 : decode cX5_slotOfNext 17 = .ok (.iload_n 3, 1) := by decide +kernel
theorem dX5_slotOfNext_18 : decode cX5_slotOfNext 18 = .ok (.laload, 1) := by decide +kernel
theorem dX5_slotOfNext_19 : decode cX5_slotOfNext 19 = .ok (.ladd, 1) := by decide +kernel
theorem dX5_slotOfNext_20 : decode cX5_slotOfNext 20 = .ok (.ldc2_w 91, 3) := by decide +kernel
theorem dX5_slotOfNext_23 : decode cX5_slotOfNext 23 = .ok (.lmul, 1) := by decide +kernel
theorem dX5_slotOfNext_24 : decode cX5_slotOfNext 24 = .ok (.lstore_n 1, 1) := by decide +kernel
theorem dX5_slotOfNext_25 : decode cX5_slotOfNext 25 = .ok (.iinc 3 1, 3) := by decide +kernel
theorem dX5_slotOfNext_28 : decode cX5_slotOfNext 28 = .ok (.goto (-24), 3) := by decide +kernel
theorem dX5_slotOfNext_31 : decode cX5_slotOfNext 31 = .ok (.lload_n 1, 1) := by decide +kernel
theorem dX5_slotOfNext_32 : decode cX5_slotOfNext 32 = .ok (.bipush 51, 2) := by decide +kernel
theorem dX5_slotOfNext_34 : decode cX5_slotOfNext 34 = .ok (.lushr, 1) := by decide +kernel
theorem dX5_slotOfNext_35 : decode cX5_slotOfNext 35 = .ok (.l2i, 1) := by decide +kernel
theorem dX5_slotOfNext_36 : decode cX5_slotOfNext 36 = .ok (.istore_n 3, 1) := by decide +kernel
theorem dX5_slotOfNext_37 : decode cX5_slotOfNext 37 = .ok (.iconst 0, 1) := by decide +kernel
theorem dX5_slotOfNext_38 : decode cX5_slotOfNext 38 = .ok (.istore 4, 2) := by decide +kernel
theorem dX5_slotOfNext_40 : decode cX5_slotOfNext 40 = .ok (.iload 4, 2) := by decide +kernel
theorem dX5_slotOfNext_42 : decode cX5_slotOfNext 42 = .ok (.sipush 8192, 3) := by decide +kernel
theorem dX5_slotOfNext_45 : decode cX5_slotOfNext 45 = .ok (.if_icmp .ge 42, 3) := by decide +kernel
theorem dX5_slotOfNext_48 : decode cX5_slotOfNext 48 = .ok (.aload_n 0, 1) := by decide +kernel
theorem dX5_slotOfNext_49 : decode cX5_slotOfNext 49 = .ok (.getfield 15, 3) := by decide +kernel
theorem dX5_slotOfNext_52 : decode cX5_slotOfNext 52 = .ok (.iload_n 3, 1) := by decide +kernel
theorem dX5_slotOfNext_53 : decode cX5_slotOfNext 53 = .ok (.iaload, 1) := by decide +kernel
theorem dX5_slotOfNext_54 : decode cX5_slotOfNext 54 = .ok (.iconst (-1), 1) := by decide +kernel
theorem dX5_slotOfNext_55 : decode cX5_slotOfNext 55 = .ok (.if_icmp .eq 16, 3) := by decide +kernel
theorem dX5_slotOfNext_58 : decode cX5_slotOfNext 58 = .ok (.aload_n 0, 1) := by decide +kernel
theorem dX5_slotOfNext_59 : decode cX5_slotOfNext 59 = .ok (.aload_n 0, 1) := by decide +kernel
theorem dX5_slotOfNext_60 : decode cX5_slotOfNext 60 = .ok (.getfield 15, 3) := by decide +kernel
theorem dX5_slotOfNext_63 : decode cX5_slotOfNext 63 = .ok (.iload_n 3, 1) := by decide +kernel
theorem dX5_slotOfNext_64 : decode cX5_slotOfNext 64 = .ok (.iaload, 1) := by decide +kernel
theorem dX5_slotOfNext_65 : decode cX5_slotOfNext 65 = .ok (.invokevirtual 93, 3) := by decide +kernel
theorem dX5_slotOfNext_68 : decode cX5_slotOfNext 68 = .ok (.ifCond .eq 5, 3) := by decide +kernel
theorem dX5_slotOfNext_71 : decode cX5_slotOfNext 71 = .ok (.iload_n 3, 1) := by decide +kernel
theorem dX5_slotOfNext_72 : decode cX5_slotOfNext 72 = .ok (.ireturn, 1) := by decide +kernel
theorem dX5_slotOfNext_73 : decode cX5_slotOfNext 73 = .ok (.iload_n 3, 1) := by decide +kernel
theorem dX5_slotOfNext_74 : decode cX5_slotOfNext 74 = .ok (.iconst 1, 1) := by decide +kernel
theorem dX5_slotOfNext_75 : decode cX5_slotOfNext 75 = .ok (.iadd, 1) := by decide +kernel
theorem dX5_slotOfNext_76 : decode cX5_slotOfNext 76 = .ok (.sipush 8192, 3) := by decide +kernel
theorem dX5_slotOfNext_79 : decode cX5_slotOfNext 79 = .ok (.irem, 1) := by decide +kernel
theorem dX5_slotOfNext_80 : decode cX5_slotOfNext 80 = .ok (.istore_n 3, 1) := by decide +kernel
theorem dX5_slotOfNext_81 : decode cX5_slotOfNext 81 = .ok (.iinc 4 1, 3) := by decide +kernel
theorem dX5_slotOfNext_84 : decode cX5_slotOfNext 84 = .ok (.goto (-44), 3) := by decide +kernel
theorem dX5_slotOfNext_87 : decode cX5_slotOfNext 87 = .ok (.iload_n 3, 1) := by decide +kernel
theorem dX5_slotOfNext_88 : decode cX5_slotOfNext 88 = .ok (.ireturn, 1) := by decide +kernel
theorem dX5_isNext_0 : decode cX5_isNext 0 = .ok (.iconst 0, 1) := by decide +kernel
theorem dX5_isNext_1 : decode cX5_isNext 1 = .ok (.istore_n 2, 1) := by decide +kernel
theorem dX5_isNext_2 : decode cX5_isNext 2 = .ok (.iload_n 2, 1) := by decide +kernel
theorem dX5_isNext_3 : decode cX5_isNext 3 = .ok (.aload_n 0, 1) := by decide +kernel
theorem dX5_isNext_4 : decode cX5_isNext 4 = .ok (.getfield 51, 3) := by decide +kernel
theorem dX5_isNext_7 : decode cX5_isNext 7 = .ok (.if_icmp .ge 34, 3) := by decide +kernel
theorem dX5_isNext_10 : decode cX5_isNext 10 = .ok (.aload_n 0, 1) := by decide +kernel
theorem dX5_isNext_11 : decode cX5_isNext 11 = .ok (.getfield 9, 3) := by decide +kernel
theorem dX5_isNext_14 : decode cX5_isNext 14 = .ok (.iload_n 1, 1) := by decide +kernel
theorem dX5_isNext_15 : decode cX5_isNext 15 = .ok (.aload_n 0, 1) := by decide +kernel
theorem dX5_isNext_16 : decode cX5_isNext 16 = .ok (.getfield 51, 3) := by decide +kernel
theorem dX5_isNext_19 : decode cX5_isNext 19 = .ok (.imul, 1) := by decide +kernel
theorem dX5_isNext_20 : decode cX5_isNext 20 = .ok (.iload_n 2, 1) := by decide +kernel
theorem dX5_isNext_21 : decode cX5_isNext 21 = .ok (.iadd, 1) := by decide +kernel
theorem dX5_isNext_22 : decode cX5_isNext 22 = .ok (.laload, 1) := by decide +kernel
theorem dX5_isNext_23 : decode cX5_isNext 23 = .ok (.aload_n 0, 1) := by decide +kernel
theorem dX5_isNext_24 : decode cX5_isNext 24 = .ok (.getfield 23, 3) := by decide +kernel
theorem dX5_isNext_27 : decode cX5_isNext 27 = .ok (.iload_n 2, 1) := by decide +kernel
theorem dX5_isNext_28 : decode cX5_isNext 28 = .ok (.laload, 1) := by decide +kernel
theorem dX5_isNext_29 : decode cX5_isNext 29 = .ok (.lcmp, 1) := by decide +kernel
theorem dX5_isNext_30 : decode cX5_isNext 30 = .ok (.ifCond .eq 5, 3) := by decide +kernel
theorem dX5_isNext_33 : decode cX5_isNext 33 = .ok (.iconst 0, 1) := by decide +kernel
theorem dX5_isNext_34 : decode cX5_isNext 34 = .ok (.ireturn, 1) := by decide +kernel
theorem dX5_isNext_35 : decode cX5_isNext 35 = .ok (.iinc 2 1, 3) := by decide +kernel
theorem dX5_isNext_38 : decode cX5_isNext 38 = .ok (.goto (-36), 3) := by decide +kernel
theorem dX5_isNext_41 : decode cX5_isNext 41 = .ok (.iconst 1, 1) := by decide +kernel
theorem dX5_isNext_42 : decode cX5_isNext 42 = .ok (.ireturn, 1) := by decide +kernel
theorem dX5_allCanEndRight_0 : decode cX5_allCanEndRight 0 = .ok (.aload_n 0, 1) := by decide +kernel
theorem dX5_allCanEndRight_1 : decode cX5_allCanEndRight 1 = .ok (.getfield 55, 3) := by decide +kernel
theorem dX5_allCanEndRight_4 : decode cX5_allCanEndRight 4 = .ok (.istore_n 2, 1) := by decide +kernel
theorem dX5_allCanEndRight_5 : decode cX5_allCanEndRight 5 = .ok (.iconst 0, 1) := by decide +kernel
theorem dX5_allCanEndRight_6 : decode cX5_allCanEndRight 6 = .ok (.istore_n 3, 1) := by decide +kernel
theorem dX5_allCanEndRight_7 : decode cX5_allCanEndRight 7 = .ok (.iload_n 3, 1) := by decide +kernel
theorem dX5_allCanEndRight_8 : decode cX5_allCanEndRight 8 = .ok (.aload_n 0, 1) := by decide +kernel
theorem dX5_allCanEndRight_9 : decode cX5_allCanEndRight 9 = .ok (.getfield 55, 3) := by decide +kernel
theorem dX5_allCanEndRight_12 : decode cX5_allCanEndRight 12 = .ok (.if_icmp .ge 38, 3) := by decide +kernel
theorem dX5_allCanEndRight_15 : decode cX5_allCanEndRight 15 = .ok (.aload_n 0, 1) := by decide +kernel
theorem dX5_allCanEndRight_16 : decode cX5_allCanEndRight 16 = .ok (.getfield 19, 3) := by decide +kernel
theorem dX5_allCanEndRight_19 : decode cX5_allCanEndRight 19 = .ok (.iload_n 3, 1) := by decide +kernel
theorem dX5_allCanEndRight_20 : decode cX5_allCanEndRight 20 = .ok (.aload_n 0, 1) := by decide +kernel
theorem dX5_allCanEndRight_21 : decode cX5_allCanEndRight 21 = .ok (.iload_n 3, 1) := by decide +kernel
theorem dX5_allCanEndRight_22 : decode cX5_allCanEndRight 22 = .ok (.iload_n 1, 1) := by decide +kernel
theorem dX5_allCanEndRight_23 : decode cX5_allCanEndRight 23 = .ok (.invokevirtual 97, 3) := by decide +kernel
theorem dX5_allCanEndRight_26 : decode cX5_allCanEndRight 26 = .ok (.bastore, 1) := by decide +kernel
theorem dX5_allCanEndRight_27 : decode cX5_allCanEndRight 27 = .ok (.iload_n 2, 1) := by decide +kernel
theorem dX5_allCanEndRight_28 : decode cX5_allCanEndRight 28 = .ok (.aload_n 0, 1) := by decide +kernel
theorem dX5_allCanEndRight_29 : decode cX5_allCanEndRight 29 = .ok (.getfield 19, 3) := by decide +kernel
theorem dX5_allCanEndRight_32 : decode cX5_allCanEndRight 32 = .ok (.iload_n 3, 1) := by decide +kernel
theorem dX5_allCanEndRight_33 : decode cX5_allCanEndRight 33 = .ok (.baload, 1) := by decide +kernel
theorem dX5_allCanEndRight_34 : decode cX5_allCanEndRight 34 = .ok (.ifCond .eq 7, 3) := by decide +kernel
theorem dX5_allCanEndRight_37 : decode cX5_allCanEndRight 37 = .ok (.iconst 1, 1) := by decide +kernel
theorem dX5_allCanEndRight_38 : decode cX5_allCanEndRight 38 = .ok (.goto 4, 3) := by decide +kernel
theorem dX5_allCanEndRight_41 : decode cX5_allCanEndRight 41 = .ok (.iconst 0, 1) := by decide +kernel
theorem dX5_allCanEndRight_42 : decode cX5_allCanEndRight 42 = .ok (.isub, 1) := by decide +kernel
theorem dX5_allCanEndRight_43 : decode cX5_allCanEndRight 43 = .ok (.istore_n 2, 1) := by decide +kernel
theorem dX5_allCanEndRight_44 : decode cX5_allCanEndRight 44 = .ok (.iinc 3 1, 3) := by decide +kernel
theorem dX5_allCanEndRight_47 : decode cX5_allCanEndRight 47 = .ok (.goto (-40), 3) := by decide +kernel
theorem dX5_allCanEndRight_50 : decode cX5_allCanEndRight 50 = .ok (.iconst 0, 1) := by decide +kernel
theorem dX5_allCanEndRight_51 : decode cX5_allCanEndRight 51 = .ok (.istore_n 3, 1) := by decide +kernel
theorem dX5_allCanEndRight_52 : decode cX5_allCanEndRight 52 = .ok (.iload_n 3, 1) := by decide +kernel
theorem dX5_allCanEndRight_53 : decode cX5_allCanEndRight 53 = .ok (.aload_n 0, 1) := by decide +kernel
theorem dX5_allCanEndRight_54 : decode cX5_allCanEndRight 54 = .ok (.getfield 55, 3) := by decide +kernel
theorem dX5_allCanEndRight_57 : decode cX5_allCanEndRight 57 = .ok (.if_icmp .ge 73, 3) := by decide +kernel
theorem dX5_allCanEndRight_60 : decode cX5_allCanEndRight 60 = .ok (.iload_n 2, 1) := by decide +kernel
theorem dX5_allCanEndRight_61 : decode cX5_allCanEndRight 61 = .ok (.ifCond .le 69, 3) := by decide +kernel
theorem dX5_allCanEndRight_64 : decode cX5_allCanEndRight 64 = .ok (.iload_n 2, 1) := by decide +kernel
theorem dX5_allCanEndRight_65 : decode cX5_allCanEndRight 65 = .ok (.istore 4, 2) := by decide +kernel
theorem dX5_allCanEndRight_67 : decode cX5_allCanEndRight 67 = .ok (.aload_n 0, 1) := by decide +kernel
theorem dX5_allCanEndRight_68 : decode cX5_allCanEndRight 68 = .ok (.getfield 55, 3) := by decide +kernel
theorem dX5_allCanEndRight_71 : decode cX5_allCanEndRight 71 = .ok (.iconst 1, 1) := by decide +kernel
theorem dX5_allCanEndRight_72 : decode cX5_allCanEndRight 72 = .ok (.isub, 1) := by decide +kernel
theorem dX5_allCanEndRight_73 : decode cX5_allCanEndRight 73 = .ok (.istore 5, 2) := by decide +kernel
theorem dX5_allCanEndRight_75 : decode cX5_allCanEndRight 75 = .ok (.iload 5, 2) := by decide +kernel
theorem dX5_allCanEndRight_77 : decode cX5_allCanEndRight 77 = .ok (.ifCond .lt 39, 3) := by decide +kernel
theorem dX5_allCanEndRight_80 : decode cX5_allCanEndRight 80 = .ok (.aload_n 0, 1) := by decide +kernel
theorem dX5_allCanEndRight_81 : decode cX5_allCanEndRight 81 = .ok (.getfield 19, 3) := by decide +kernel
theorem dX5_allCanEndRight_84 : decode cX5_allCanEndRight 84 = .ok (.iload 5, 2) := by decide +kernel
theorem dX5_allCanEndRight_86 : decode cX5_allCanEndRight 86 = .ok (.baload, 1) := by decide +kernel
theorem dX5_allCanEndRight_87 : decode cX5_allCanEndRight 87 = .ok (.ifCond .ne 23, 3) := by decide +kernel
theorem dX5_allCanEndRight_90 : decode cX5_allCanEndRight 90 = .ok (.aload_n 0, 1) := by decide +kernel
theorem dX5_allCanEndRight_91 : decode cX5_allCanEndRight 91 = .ok (.iload 5, 2) := by decide +kernel
theorem dX5_allCanEndRight_93 : decode cX5_allCanEndRight 93 = .ok (.invokevirtual 101, 3) := by decide +kernel
theorem dX5_allCanEndRight_96 : decode cX5_allCanEndRight 96 = .ok (.ifCond .eq 14, 3) := by decide +kernel
theorem dX5_allCanEndRight_99 : decode cX5_allCanEndRight 99 = .ok (.aload_n 0, 1) := by decide +kernel
theorem dX5_allCanEndRight_100 : decode cX5_allCanEndRight 100 = .ok (.getfield 19, 3) := by decide +kernel
theorem dX5_allCanEndRight_103 : decode cX5_allCanEndRight 103 = .ok (.iload 5, 2) := by decide +kernel
theorem dX5_allCanEndRight_105 : decode cX5_allCanEndRight 105 = .ok (.iconst 1, 1) := by decide +kernel
theorem dX5_allCanEndRight_106 : decode cX5_allCanEndRight 106 = .ok (.bastore, 1) := by decide +kernel
theorem dX5_allCanEndRight_107 : decode cX5_allCanEndRight 107 = .ok (.iinc 2 (-1), 3) := by decide +kernel
theorem dX5_allCanEndRight_110 : decode cX5_allCanEndRight 110 = .ok (.iinc 5 (-1), 3) := by decide +kernel
theorem dX5_allCanEndRight_113 : decode cX5_allCanEndRight 113 = .ok (.goto (-38), 3) := by decide +kernel
theorem dX5_allCanEndRight_116 : decode cX5_allCanEndRight 116 = .ok (.iload_n 2, 1) := by decide +kernel
theorem dX5_allCanEndRight_117 : decode cX5_allCanEndRight 117 = .ok (.iload 4, 2) := by decide +kernel
theorem dX5_allCanEndRight_119 : decode cX5_allCanEndRight 119 = .ok (.if_icmp .ne 5, 3) := by decide +kernel
theorem dX5_allCanEndRight_122 : decode cX5_allCanEndRight 122 = .ok (.iconst 0, 1) := by decide +kernel
theorem dX5_allCanEndRight_123 : decode cX5_allCanEndRight 123 = .ok (.ireturn, 1) := by decide +kernel
theorem dX5_allCanEndRight_124 : decode cX5_allCanEndRight 124 = .ok (.iinc 3 1, 3) := by decide +kernel
theorem dX5_allCanEndRight_127 : decode cX5_allCanEndRight 127 = .ok (.goto (-75), 3) := by decide +kernel
theorem dX5_allCanEndRight_130 : decode cX5_allCanEndRight 130 = .ok (.iload_n 2, 1) := by decide +kernel
theorem dX5_allCanEndRight_131 : decode cX5_allCanEndRight 131 = .ok (.ifCond .ne 7, 3) := by decide +kernel
theorem dX5_allCanEndRight_134 : decode cX5_allCanEndRight 134 = .ok (.iconst 1, 1) := by decide +kernel
theorem dX5_allCanEndRight_135 : decode cX5_allCanEndRight 135 = .ok (.goto 4, 3) := by decide +kernel
theorem dX5_allCanEndRight_138 : decode cX5_allCanEndRight 138 = .ok (.iconst 0, 1) := by decide +kernel
theorem dX5_allCanEndRight_139 : decode cX5_allCanEndRight 139 = .ok (.ireturn, 1) := by decide +kernel
theorem dX5_isRightEnd_0 : decode cX5_isRightEnd 0 = .ok (.iload_n 1, 1) := by decide +kernel
theorem dX5_isRightEnd_1 : decode cX5_isRightEnd 1 = .ok (.aload_n 0, 1) := by decide +kernel
theorem dX5_isRightEnd_2 : decode cX5_isRightEnd 2 = .ok (.getfield 51, 3) := by decide +kernel
theorem dX5_isRightEnd_5 : decode cX5_isRightEnd 5 = .ok (.imul, 1) := by decide +kernel
theorem dX5_isRightEnd_6 : decode cX5_isRightEnd 6 = .ok (.istore_n 3, 1) := by decide +kernel
theorem dX5_isRightEnd_7 : decode cX5_isRightEnd 7 = .ok (.aload_n 0, 1) := by decide +kernel
theorem dX5_isRightEnd_8 : decode cX5_isRightEnd 8 = .ok (.getfield 26, 3) := by decide +kernel
theorem dX5_isRightEnd_11 : decode cX5_isRightEnd 11 = .ok (.iload_n 2, 1) := by decide +kernel
theorem dX5_isRightEnd_12 : decode cX5_isRightEnd 12 = .ok (.aload_n 0, 1) := by decide +kernel
theorem dX5_isRightEnd_13 : decode cX5_isRightEnd 13 = .ok (.getfield 9, 3) := by decide +kernel
theorem dX5_isRightEnd_16 : decode cX5_isRightEnd 16 = .ok (.iload_n 3, 1) := by decide +kernel
theorem dX5_isRightEnd_17 : decode cX5_isRightEnd 17 = .ok (.aload_n 0, 1) := by decide +kernel
theorem dX5_isRightEnd_18 : decode cX5_isRightEnd 18 = .ok (.getfield 51, 3) := by decide +kernel
theorem dX5_isRightEnd_21 : decode cX5_isRightEnd 21 = .ok (.invokevirtual 104, 3) := by decide +kernel
theorem dX5_isRightEnd_24 : decode cX5_isRightEnd 24 = .ok (.ifCond .eq 26, 3) := by decide +kernel
theorem dX5_isRightEnd_27 : decode cX5_isRightEnd 27 = .ok (.aload_n 0, 1) := by decide +kernel
theorem dX5_isRightEnd_28 : decode cX5_isRightEnd 28 = .ok (.getfield 35, 3) := by decide +kernel
theorem dX5_isRightEnd_31 : decode cX5_isRightEnd 31 = .ok (.aload_n 0, 1) := by decide +kernel
theorem dX5_isRightEnd_32 : decode cX5_isRightEnd 32 = .ok (.getfield 9, 3) := by decide +kernel
theorem dX5_isRightEnd_35 : decode cX5_isRightEnd 35 = .ok (.iload_n 3, 1) := by decide +kernel
theorem dX5_isRightEnd_36 : decode cX5_isRightEnd 36 = .ok (.aload_n 0, 1) := by decide +kernel
theorem dX5_isRightEnd_37 : decode cX5_isRightEnd 37 = .ok (.getfield 51, 3) := by decide +kernel
theorem dX5_isRightEnd_40 : decode cX5_isRightEnd 40 = .ok (.invokevirtual 110, 3) := by decide +kernel
theorem dX5_isRightEnd_43 : decode cX5_isRightEnd 43 = .ok (.ifCond .eq 7, 3) := by decide +kernel
theorem dX5_isRightEnd_46 : decode cX5_isRightEnd 46 = .ok (.iconst 1, 1) := by decide +kernel
theorem dX5_isRightEnd_47 : decode cX5_isRightEnd 47 = .ok (.goto 4, 3) := by decide +kernel
theorem dX5_isRightEnd_50 : decode cX5_isRightEnd 50 = .ok (.iconst 0, 1) := by decide +kernel
theorem dX5_isRightEnd_51 : decode cX5_isRightEnd 51 = .ok (.ireturn, 1) := by decide +kernel
theorem dX5_leadsToRightEnd_0 : decode cX5_leadsToRightEnd 0 = .ok (.iconst 0, 1) := by decide +kernel
theorem dX5_leadsToRightEnd_1 : decode cX5_leadsToRightEnd 1 = .ok (.istore_n 2, 1) := by decide +kernel
theorem dX5_leadsToRightEnd_2 : decode cX5_leadsToRightEnd 2 = .ok (.iload_n 2, 1) := by decide +kernel
theorem dX5_leadsToRightEnd_3 : decode cX5_leadsToRightEnd 3 = .ok (.aload_n 0, 1) := by decide +kernel
theorem dX5_leadsToRightEnd_4 : decode cX5_leadsToRightEnd 4 = .ok (.getfield 51, 3) := by decide +kernel
theorem dX5_leadsToRightEnd_7 : decode cX5_leadsToRightEnd 7 = .ok (.if_icmp .ge 69, 3) := by decide +kernel
theorem dX5_leadsToRightEnd_10 : decode cX5_leadsToRightEnd 10 = .ok (.iconst 0, 1) := by decide +kernel
theorem dX5_leadsToRightEnd_11 : decode cX5_leadsToRightEnd 11 = .ok (.istore_n 3, 1) := by decide +kernel
theorem dX5_leadsToRightEnd_12 : decode cX5_leadsToRightEnd 12 = .ok (.iload_n 3, 1) := by decide +kernel
theorem dX5_leadsToRightEnd_13 : decode cX5_leadsToRightEnd 13 = .ok (.aload_n 0, 1) := by decide +kernel
theorem dX5_leadsToRightEnd_14 : decode cX5_leadsToRightEnd 14 = .ok (.getfield 51, 3) := by decide +kernel
theorem dX5_leadsToRightEnd_17 : decode cX5_leadsToRightEnd 17 = .ok (.if_icmp .ge 53, 3) := by decide +kernel
theorem dX5_leadsToRightEnd_20 : decode cX5_leadsToRightEnd 20 = .ok (.iload_n 2, 1) := by decide +kernel
theorem dX5_leadsToRightEnd_21 : decode cX5_leadsToRightEnd 21 = .ok (.iload_n 3, 1) := by decide +kernel
theorem dX5_leadsToRightEnd_22 : decode cX5_leadsToRightEnd 22 = .ok (.if_icmp .eq 42, 3) := by decide +kernel
theorem dX5_leadsToRightEnd_25 : decode cX5_leadsToRightEnd 25 = .ok (.aload_n 0, 1) := by decide +kernel
theorem dX5_leadsToRightEnd_26 : decode cX5_leadsToRightEnd 26 = .ok (.iload_n 1, 1) := by decide +kernel
theorem dX5_leadsToRightEnd_27 : decode cX5_leadsToRightEnd 27 = .ok (.iload_n 2, 1) := by decide +kernel
theorem dX5_leadsToRightEnd_28 : decode cX5_leadsToRightEnd 28 = .ok (.iload_n 3, 1) := by decide +kernel
theorem dX5_leadsToRightEnd_29 : decode cX5_leadsToRightEnd 29 = .ok (.invokevirtual 76, 3) := by decide +kernel
theorem dX5_leadsToRightEnd_32 : decode cX5_leadsToRightEnd 32 = .ok (.ifCond .eq 32, 3) := by decide +kernel
theorem dX5_leadsToRightEnd_35 : decode cX5_leadsToRightEnd 35 = .ok (.aload_n 0, 1) := by decide +kernel
theorem dX5_leadsToRightEnd_36 : decode cX5_leadsToRightEnd 36 = .ok (.getfield 15, 3) := by decide +kernel
theorem dX5_leadsToRightEnd_39 : decode cX5_leadsToRightEnd 39 = .ok (.aload_n 0, 1) := by decide +kernel
theorem dX5_leadsToRightEnd_40 : decode cX5_leadsToRightEnd 40 = .ok (.invokevirtual 65, 3) := by decide +kernel
theorem dX5_leadsToRightEnd_43 : decode cX5_leadsToRightEnd 43 = .ok (.iaload, 1) := by decide +kernel
theorem dX5_leadsToRightEnd_44 : decode cX5_leadsToRightEnd 44 = .ok (.istore 4, 2) := by decide +kernel
theorem dX5_leadsToRightEnd_46 : decode cX5_leadsToRightEnd 46 = .ok (.iload 4, 2) := by decide +kernel
theorem dX5_leadsToRightEnd_48 : decode cX5_leadsToRightEnd 48 = .ok (.iconst (-1), 1) := by decide +kernel
theorem dX5_leadsToRightEnd_49 : decode cX5_leadsToRightEnd 49 = .ok (.if_icmp .eq 15, 3) := by decide +kernel
theorem dX5_leadsToRightEnd_52 : decode cX5_leadsToRightEnd 52 = .ok (.aload_n 0, 1) := by decide +kernel
theorem dX5_leadsToRightEnd_53 : decode cX5_leadsToRightEnd 53 = .ok (.getfield 19, 3) := by decide +kernel
theorem dX5_leadsToRightEnd_56 : decode cX5_leadsToRightEnd 56 = .ok (.iload 4, 2) := by decide +kernel
theorem dX5_leadsToRightEnd_58 : decode cX5_leadsToRightEnd 58 = .ok (.baload, 1) := by decide +kernel
theorem dX5_leadsToRightEnd_59 : decode cX5_leadsToRightEnd 59 = .ok (.ifCond .eq 5, 3) := by decide +kernel
theorem dX5_leadsToRightEnd_62 : decode cX5_leadsToRightEnd 62 = .ok (.iconst 1, 1) := by decide +kernel
theorem dX5_leadsToRightEnd_63 : decode cX5_leadsToRightEnd 63 = .ok (.ireturn, 1) := by decide +kernel
theorem dX5_leadsToRightEnd_64 : decode cX5_leadsToRightEnd 64 = .ok (.iinc 3 1, 3) := by decide +kernel
theorem dX5_leadsToRightEnd_67 : decode cX5_leadsToRightEnd 67 = .ok (.goto (-55), 3) := by decide +kernel
theorem dX5_leadsToRightEnd_70 : decode cX5_leadsToRightEnd 70 = .ok (.iinc 2 1, 3) := by decide +kernel
theorem dX5_leadsToRightEnd_73 : decode cX5_leadsToRightEnd 73 = .ok (.goto (-71), 3) := by decide +kernel
theorem dX5_leadsToRightEnd_76 : decode cX5_leadsToRightEnd 76 = .ok (.iconst 0, 1) := by decide +kernel
theorem dX5_leadsToRightEnd_77 : decode cX5_leadsToRightEnd 77 = .ok (.ireturn, 1) := by decide +kernel
theorem dX6_init_0 : decode cX6_init 0 = .ok (.aload_n 0, 1) := by decide +kernel
theorem dX6_init_1 : decode cX6_init 1 = .ok (.invokespecial 1, 3) := by decide +kernel
theorem dX6_init_4 : decode cX6_init 4 = .ok (.aload_n 0, 1) := by decide +kernel
theorem dX6_init_5 : decode cX6_init 5 = .ok (.new 7, 3) := by decide +kernel
theorem dX6_init_8 : decode cX6_init 8 = .ok (.dup, 1) := by decide +kernel
theorem dX6_init_9 : decode cX6_init 9 = .ok (.invokespecial 9, 3) := by decide +kernel
theorem dX6_init_12 : decode cX6_init 12 = .ok (.putfield 10, 3) := by decide +kernel
theorem dX6_init_15 : decode cX6_init 15 = .ok (.aload_n 0, 1) := by decide +kernel
theorem dX6_init_16 : decode cX6_init 16 = .ok (.new 16, 3) := by decide +kernel
theorem dX6_init_19 : decode cX6_init 19 = .ok (.dup, 1) := by decide +kernel
theorem dX6_init_20 : decode cX6_init 20 = .ok (.aload_n 0, 1) := by decide +kernel
theorem dX6_init_21 : decode cX6_init 21 = .ok (.getfield 10, 3) := by decide +kernel
theorem dX6_init_24 : decode cX6_init 24 = .ok (.invokespecial 18, 3) := by decide +kernel
theorem dX6_init_27 : decode cX6_init 27 = .ok (.putfield 21, 3) := by decide +kernel
theorem dX6_init_30 : decode cX6_init 30 = .ok (.aload_n 0, 1) := by decide +kernel
theorem dX6_init_31 : decode cX6_init 31 = .ok (.aconst_null, 1) := by decide +kernel
theorem dX6_init_32 : decode cX6_init 32 = .ok (.putfield 25, 3) := by decide +kernel
theorem dX6_init_35 : decode cX6_init 35 = .ok (.aload_n 0, 1) := by decide +kernel
theorem dX6_init_36 : decode cX6_init 36 = .ok (.iconst 0, 1) := by decide +kernel
theorem dX6_init_37 : decode cX6_init 37 = .ok (.putfield 29, 3) := by decide +kernel
theorem dX6_init_40 : decode cX6_init 40 = .ok (.return_, 1) := by decide +kernel
theorem dX6_clear_0 : decode cX6_clear 0 = .ok (.aload_n 0, 1) := by decide +kernel
theorem dX6_clear_1 : decode cX6_clear 1 = .ok (.getfield 10, 3) := by decide +kernel
theorem dX6_clear_4 : decode cX6_clear 4 = .ok (.invokevirtual 33, 3) := by decide +kernel
theorem dX6_clear_7 : decode cX6_clear 7 = .ok (.aload_n 0, 1) := by decide +kernel
theorem dX6_clear_8 : decode cX6_clear 8 = .ok (.getfield 21, 3) := by decide +kernel
theorem dX6_clear_11 : decode cX6_clear 11 = .ok (.invokevirtual 36, 3) := by decide +kernel
theorem dX6_clear_14 : decode cX6_clear 14 = .ok (.aload_n 0, 1) := by decide +kernel
theorem dX6_clear_15 : decode cX6_clear 15 = .ok (.iconst 0, 1) := by decide +kernel
theorem dX6_clear_16 : decode cX6_clear 16 = .ok (.putfield 29, 3) := by decide +kernel
theorem dX6_clear_19 : decode cX6_clear 19 = .ok (.return_, 1) := by decide +kernel
theorem dX6_coef_0 : decode cX6_coef 0 = .ok (.iload_n 1, 1) := by decide +kernel
theorem dX6_coef_1 : decode cX6_coef 1 = .ok (.invokestatic 37, 3) := by decide +kernel
theorem dX6_coef_4 : decode cX6_coef 4 = .ok (.ifCond .ne 13, 3) := by decide +kernel
theorem dX6_coef_7 : decode cX6_coef 7 = .ok (.new 41, 3) := by decide +kernel
theorem dX6_coef_10 : decode cX6_coef 10 = .ok (.dup, 1) := by decide +kernel
theorem dX6_coef_11 : decode cX6_coef 11 = .ok (.ldc 43, 2) := by decide +kernel
theorem dX6_coef_13 : decode cX6_coef 13 = .ok (.invokespecial 45, 3) := by decide +kernel
theorem dX6_coef_16 : decode cX6_coef 16 = .ok (.athrow, 1) := by decide +kernel
theorem dX6_coef_17 : decode cX6_coef 17 = .ok (.iload_n 2, 1) := by decide +kernel
theorem dX6_coef_18 : decode cX6_coef 18 = .ok (.invokestatic 48, 3) := by decide +kernel
theorem dX6_coef_21 : decode cX6_coef 21 = .ok (.ifCond .ne 13, 3) := by decide +kernel
theorem dX6_coef_24 : decode cX6_coef 24 = .ok (.new 41, 3) := by decide +kernel
theorem dX6_coef_27 : decode cX6_coef 27 = .ok (.dup, 1) := by decide +kernel
theorem dX6_coef_28 : decode cX6_coef 28 = .ok (.ldc 51, 2) := by decide +kernel
theorem dX6_coef_30 : decode cX6_coef 30 = .ok (.invokespecial 45, 3) := by decide +kernel
theorem dX6_coef_33 : decode cX6_coef 33 = .ok (.athrow, 1) := by decide +kernel
theorem dX6_coef_34 : decode cX6_coef 34 = .ok (.aload_n 0, 1) := by decide +kernel
theorem dX6_coef_35 : decode cX6_coef 35 = .ok (.getfield 10, 3) := by decide +kernel
theorem dX6_coef_38 : decode cX6_coef 38 = .ok (.iload_n 1, 1) := by decide +kernel
theorem dX6_coef_39 : decode cX6_coef 39 = .ok (.iload_n 2, 1) := by decide +kernel
theorem dX6_coef_40 : decode cX6_coef 40 = .ok (.invokevirtual 53, 3) := by decide +kernel
theorem dX6_coef_43 : decode cX6_coef 43 = .ok (.ireturn, 1) := by decide +kernel
theorem dX6_sum_0 : decode cX6_sum 0 = .ok (.iload_n 1, 1) := by decide +kernel
theorem dX6_sum_1 : decode cX6_sum 1 = .ok (.invokestatic 48, 3) := by decide +kernel
theorem dX6_sum_4 : decode cX6_sum 4 = .ok (.ifCond .ne 13, 3) := by decide +kernel
theorem dX6_sum_7 : decode cX6_sum 7 = .ok (.new 41, 3) := by decide +kernel
theorem dX6_sum_10 : decode cX6_sum 10 = .ok (.dup, 1) := by decide +kernel
theorem dX6_sum_11 : decode cX6_sum 11 = .ok (.ldc 57, 2) := by decide +kernel
theorem dX6_sum_13 : decode cX6_sum 13 = .ok (.invokespecial 45, 3) := by decide +kernel
theorem dX6_sum_16 : decode cX6_sum 16 = .ok (.athrow, 1) := by decide +kernel
theorem dX6_sum_17 : decode cX6_sum 17 = .ok (.aload_n 0, 1) := by decide +kernel
theorem dX6_sum_18 : decode cX6_sum 18 = .ok (.getfield 10, 3) := by decide +kernel
theorem dX6_sum_21 : decode cX6_sum 21 = .ok (.invokevirtual 59, 3) := by decide +kernel
theorem dX6_sum_24 : decode cX6_sum 24 = .ok (.ifCond .ne 13, 3) := by decide +kernel
theorem dX6_sum_27 : decode cX6_sum 27 = .ok (.new 63, 3) := by decide +kernel
theorem dX6_sum_30 : decode cX6_sum 30 = .ok (.dup, 1) := by decide +kernel
theorem dX6_sum_31 : decode cX6_sum 31 = .ok (.ldc 65, 2) := by decide +kernel
theorem dX6_sum_33 : decode cX6_sum 33 = .ok (.invokespecial 67, 3) := by decide +kernel
theorem dX6_sum_36 : decode cX6_sum 36 = .ok (.athrow, 1) := by decide +kernel
theorem dX6_sum_37 : decode cX6_sum 37 = .ok (.aload_n 0, 1) := by decide +kernel
theorem dX6_sum_38 : decode cX6_sum 38 = .ok (.getfield 10, 3) := by decide +kernel
theorem dX6_sum_41 : decode cX6_sum 41 = .ok (.iconst 0, 1) := by decide +kernel
theorem dX6_sum_42 : decode cX6_sum 42 = .ok (.iload_n 1, 1) := by decide +kernel
theorem dX6_sum_43 : decode cX6_sum 43 = .ok (.invokevirtual 70, 3) := by decide +kernel
theorem dX6_sum_46 : decode cX6_sum 46 = .ok (.ireturn, 1) := by decide +kernel
theorem dX6_mod_0 : decode cX6_mod 0 = .ok (.iload_n 2, 1) := by decide +kernel
theorem dX6_mod_1 : decode cX6_mod 1 = .ok (.iconst 2, 1) := by decide +kernel
theorem dX6_mod_2 : decode cX6_mod 2 = .ok (.if_icmp .lt 9, 3) := by decide +kernel
theorem dX6_mod_5 : decode cX6_mod 5 = .ok (.iload_n 2, 1) := by decide +kernel
theorem dX6_mod_6 : decode cX6_mod 6 = .ok (.bipush 16, 2) := by decide +kernel
theorem dX6_mod_8 : decode cX6_mod 8 = .ok (.if_icmp .le 13, 3) := by decide +kernel
theorem dX6_mod_11 : decode cX6_mod 11 = .ok (.new 41, 3) := by decide +kernel
theorem dX6_mod_14 : decode cX6_mod 14 = .ok (.dup, 1) := by decide +kernel
theorem dX6_mod_15 : decode cX6_mod 15 = .ok (.ldc 73, 2) := by decide +kernel
theorem dX6_mod_17 : decode cX6_mod 17 = .ok (.invokespecial 45, 3) := by decide +kernel
theorem dX6_mod_20 : decode cX6_mod 20 = .ok (.athrow, 1) := by decide +kernel
theorem dX6_mod_21 : decode cX6_mod 21 = .ok (.iload_n 1, 1) := by decide +kernel
theorem dX6_mod_22 : decode cX6_mod 22 = .ok (.ifCond .lt 8, 3) := by decide +kernel
theorem dX6_mod_25 : decode cX6_mod 25 = .ok (.iload_n 1, 1) := by decide +kernel
theorem dX6_mod_26 : decode cX6_mod 26 = .ok (.iload_n 2, 1) := by decide +kernel
theorem dX6_mod_27 : decode cX6_mod 27 = .ok (.if_icmp .lt 13, 3) := by decide +kernel
theorem dX6_mod_30 : decode cX6_mod 30 = .ok (.new 41, 3) := by decide +kernel
theorem dX6_mod_33 : decode cX6_mod 33 = .ok (.dup, 1) := by decide +kernel
theorem dX6_mod_34 : decode cX6_mod 34 = .ok (.ldc 75, 2) := by decide +kernel
theorem dX6_mod_36 : decode cX6_mod 36 = .ok (.invokespecial 45, 3) := by decide +kernel
theorem dX6_mod_39 : decode cX6_mod 39 = .ok (.athrow, 1) := by decide +kernel
theorem dX6_mod_40 : decode cX6_mod 40 = .ok (.aload_n 0, 1) := by decide +kernel
theorem dX6_mod_41 : decode cX6_mod 41 = .ok (.getfield 10, 3) := by decide +kernel
theorem dX6_mod_44 : decode cX6_mod 44 = .ok (.invokevirtual 59, 3) := by decide +kernel
theorem dX6_mod_47 : decode cX6_mod 47 = .ok (.ifCond .ne 13, 3) := by decide +kernel
theorem dX6_mod_50 : decode cX6_mod 50 = .ok (.new 63, 3) := by decide +kernel
theorem dX6_mod_53 : decode cX6_mod 53 = .ok (.dup, 1) := by decide +kernel
theorem dX6_mod_54 : decode cX6_mod 54 = .ok (.ldc 65, 2) := by decide +kernel
theorem dX6_mod_56 : decode cX6_mod 56 = .ok (.invokespecial 67, 3) := by decide +kernel
theorem dX6_mod_59 : decode cX6_mod 59 = .ok (.athrow, 1) := by decide +kernel
theorem dX6_mod_60 : decode cX6_mod 60 = .ok (.aload_n 0, 1) := by decide +kernel
theorem dX6_mod_61 : decode cX6_mod 61 = .ok (.getfield 10, 3) := by decide +kernel
theorem dX6_mod_64 : decode cX6_mod 64 = .ok (.iload_n 2, 1) := by decide +kernel
theorem dX6_mod_65 : decode cX6_mod 65 = .ok (.iload_n 1, 1) := by decide +kernel
theorem dX6_mod_66 : decode cX6_mod 66 = .ok (.invokevirtual 70, 3) := by decide +kernel
theorem dX6_mod_69 : decode cX6_mod 69 = .ok (.ireturn, 1) := by decide +kernel
theorem dX6_combine_0 : decode cX6_combine 0 = .ok (.iload_n 1, 1) := by decide +kernel
theorem dX6_combine_1 : decode cX6_combine 1 = .ok (.ifCond .eq 23, 3) := by decide +kernel
theorem dX6_combine_4 : decode cX6_combine 4 = .ok (.iload_n 1, 1) := by decide +kernel
theorem dX6_combine_5 : decode cX6_combine 5 = .ok (.iconst 1, 1) := by decide +kernel
theorem dX6_combine_6 : decode cX6_combine 6 = .ok (.if_icmp .eq 18, 3) := by decide +kernel
theorem dX6_combine_9 : decode cX6_combine 9 = .ok (.iload_n 1, 1) := by decide +kernel
theorem dX6_combine_10 : decode cX6_combine 10 = .ok (.iconst 2, 1) := by decide +kernel
theorem dX6_combine_11 : decode cX6_combine 11 = .ok (.if_icmp .eq 13, 3) := by decide +kernel
theorem dX6_combine_14 : decode cX6_combine 14 = .ok (.new 41, 3) := by decide +kernel
theorem dX6_combine_17 : decode cX6_combine 17 = .ok (.dup, 1) := by decide +kernel
theorem dX6_combine_18 : decode cX6_combine 18 = .ok (.ldc 77, 2) := by decide +kernel
theorem dX6_combine_20 : decode cX6_combine 20 = .ok (.invokespecial 45, 3) := by decide +kernel
theorem dX6_combine_23 : decode cX6_combine 23 = .ok (.athrow, 1) := by decide +kernel
theorem dX6_combine_24 : decode cX6_combine 24 = .ok (.aload_n 0, 1) := by decide +kernel
