theorem dX6_combine_25 : decode cX6_combine 25 = .ok (.getfield 10, 3) := by decide +kernel
theorem dX6_combine_28 : decode cX6_combine 28 = .ok (.iload_n 2, 1) := by decide +kernel
theorem dX6_combine_29 : decode cX6_combine 29 = .ok (.invokevirtual 79, 3) := by decide +kernel
theorem dX6_combine_32 : decode cX6_combine 32 = .ok (.ifCond .eq 19, 3) := by decide +kernel
theorem dX6_combine_35 : decode cX6_combine 35 = .ok (.iload_n 1, 1) := by decide +kernel
theorem dX6_combine_36 : decode cX6_combine 36 = .ok (.iconst 2, 1) := by decide +kernel
theorem dX6_combine_37 : decode cX6_combine 37 = .ok (.if_icmp .eq 24, 3) := by decide +kernel
theorem dX6_combine_40 : decode cX6_combine 40 = .ok (.aload_n 0, 1) := by decide +kernel
theorem dX6_combine_41 : decode cX6_combine 41 = .ok (.getfield 10, 3) := by decide +kernel
theorem dX6_combine_44 : decode cX6_combine 44 = .ok (.iload_n 3, 1) := by decide +kernel
theorem dX6_combine_45 : decode cX6_combine 45 = .ok (.invokevirtual 79, 3) := by decide +kernel
theorem dX6_combine_48 : decode cX6_combine 48 = .ok (.ifCond .ne 13, 3) := by decide +kernel
theorem dX6_combine_51 : decode cX6_combine 51 = .ok (.new 41, 3) := by decide +kernel
theorem dX6_combine_54 : decode cX6_combine 54 = .ok (.dup, 1) := by decide +kernel
theorem dX6_combine_55 : decode cX6_combine 55 = .ok (.ldc 82, 2) := by decide +kernel
theorem dX6_combine_57 : decode cX6_combine 57 = .ok (.invokespecial 45, 3) := by decide +kernel
theorem dX6_combine_60 : decode cX6_combine 60 = .ok (.athrow, 1) := by decide +kernel
theorem dX6_combine_61 : decode cX6_combine 61 = .ok (.aload_n 0, 1) := by decide +kernel
theorem dX6_combine_62 : decode cX6_combine 62 = .ok (.getfield 10, 3) := by decide +kernel
theorem dX6_combine_65 : decode cX6_combine 65 = .ok (.invokevirtual 84, 3) := by decide +kernel
theorem dX6_combine_68 : decode cX6_combine 68 = .ok (.ifCond .ne 13, 3) := by decide +kernel
theorem dX6_combine_71 : decode cX6_combine 71 = .ok (.new 63, 3) := by decide +kernel
theorem dX6_combine_74 : decode cX6_combine 74 = .ok (.dup, 1) := by decide +kernel
theorem dX6_combine_75 : decode cX6_combine 75 = .ok (.ldc 87, 2) := by decide +kernel
theorem dX6_combine_77 : decode cX6_combine 77 = .ok (.invokespecial 67, 3) := by decide +kernel
theorem dX6_combine_80 : decode cX6_combine 80 = .ok (.athrow, 1) := by decide +kernel
theorem dX6_combine_81 : decode cX6_combine 81 = .ok (.aload_n 0, 1) := by decide +kernel
theorem dX6_combine_82 : decode cX6_combine 82 = .ok (.getfield 10, 3) := by decide +kernel
theorem dX6_combine_85 : decode cX6_combine 85 = .ok (.iload_n 1, 1) := by decide +kernel
theorem dX6_combine_86 : decode cX6_combine 86 = .ok (.iload_n 2, 1) := by decide +kernel
theorem dX6_combine_87 : decode cX6_combine 87 = .ok (.iload_n 3, 1) := by decide +kernel
theorem dX6_combine_88 : decode cX6_combine 88 = .ok (.invokevirtual 89, 3) := by decide +kernel
theorem dX6_combine_91 : decode cX6_combine 91 = .ok (.ireturn, 1) := by decide +kernel
theorem dX6_compile_0 : decode cX6_compile 0 = .ok (.aload_n 0, 1) := by decide +kernel
theorem dX6_compile_1 : decode cX6_compile 1 = .ok (.getfield 10, 3) := by decide +kernel
theorem dX6_compile_4 : decode cX6_compile 4 = .ok (.invokevirtual 93, 3) := by decide +kernel
theorem dX6_compile_7 : decode cX6_compile 7 = .ok (.ifCond .eq 13, 3) := by decide +kernel
theorem dX6_compile_10 : decode cX6_compile 10 = .ok (.new 63, 3) := by decide +kernel
theorem dX6_compile_13 : decode cX6_compile 13 = .ok (.dup, 1) := by decide +kernel
theorem dX6_compile_14 : decode cX6_compile 14 = .ok (.ldc 96, 2) := by decide +kernel
theorem dX6_compile_16 : decode cX6_compile 16 = .ok (.invokespecial 67, 3) := by decide +kernel
theorem dX6_compile_19 : decode cX6_compile 19 = .ok (.athrow, 1) := by decide +kernel
theorem dX6_compile_20 : decode cX6_compile 20 = .ok (.aload_n 0, 1) := by decide +kernel
theorem dX6_compile_21 : decode cX6_compile 21 = .ok (.getfield 10, 3) := by decide +kernel
theorem dX6_compile_24 : decode cX6_compile 24 = .ok (.invokevirtual 98, 3) := by decide +kernel
theorem dX6_compile_27 : decode cX6_compile 27 = .ok (.ifCond .eq 13, 3) := by decide +kernel
theorem dX6_compile_30 : decode cX6_compile 30 = .ok (.new 63, 3) := by decide +kernel
theorem dX6_compile_33 : decode cX6_compile 33 = .ok (.dup, 1) := by decide +kernel
theorem dX6_compile_34 : decode cX6_compile 34 = .ok (.ldc 101, 2) := by decide +kernel
theorem dX6_compile_36 : decode cX6_compile 36 = .ok (.invokespecial 67, 3) := by decide +kernel
theorem dX6_compile_39 : decode cX6_compile 39 = .ok (.athrow, 1) := by decide +kernel
theorem dX6_compile_40 : decode cX6_compile 40 = .ok (.aload_n 0, 1) := by decide +kernel
theorem dX6_compile_41 : decode cX6_compile 41 = .ok (.getfield 10, 3) := by decide +kernel
theorem dX6_compile_44 : decode cX6_compile 44 = .ok (.invokevirtual 103, 3) := by decide +kernel
theorem dX6_compile_47 : decode cX6_compile 47 = .ok (.ifCond .eq 13, 3) := by decide +kernel
theorem dX6_compile_50 : decode cX6_compile 50 = .ok (.new 63, 3) := by decide +kernel
theorem dX6_compile_53 : decode cX6_compile 53 = .ok (.dup, 1) := by decide +kernel
theorem dX6_compile_54 : decode cX6_compile 54 = .ok (.ldc 106, 2) := by decide +kernel
theorem dX6_compile_56 : decode cX6_compile 56 = .ok (.invokespecial 67, 3) := by decide +kernel
theorem dX6_compile_59 : decode cX6_compile 59 = .ok (.athrow, 1) := by decide +kernel
theorem dX6_compile_60 : decode cX6_compile 60 = .ok (.aload_n 0, 1) := by decide +kernel
theorem dX6_compile_61 : decode cX6_compile 61 = .ok (.getfield 10, 3) := by decide +kernel
theorem dX6_compile_64 : decode cX6_compile 64 = .ok (.invokevirtual 108, 3) := by decide +kernel
theorem dX6_compile_67 : decode cX6_compile 67 = .ok (.ireturn, 1) := by decide +kernel
theorem dX6_add_0 : decode cX6_add 0 = .ok (.iload_n 1, 1) := by decide +kernel
theorem dX6_add_1 : decode cX6_add 1 = .ok (.invokestatic 37, 3) := by decide +kernel
theorem dX6_add_4 : decode cX6_add 4 = .ok (.ifCond .ne 13, 3) := by decide +kernel
theorem dX6_add_7 : decode cX6_add 7 = .ok (.new 41, 3) := by decide +kernel
theorem dX6_add_10 : decode cX6_add 10 = .ok (.dup, 1) := by decide +kernel
theorem dX6_add_11 : decode cX6_add 11 = .ok (.ldc 43, 2) := by decide +kernel
theorem dX6_add_13 : decode cX6_add 13 = .ok (.invokespecial 45, 3) := by decide +kernel
theorem dX6_add_16 : decode cX6_add 16 = .ok (.athrow, 1) := by decide +kernel
theorem dX6_add_17 : decode cX6_add 17 = .ok (.iload_n 2, 1) := by decide +kernel
theorem dX6_add_18 : decode cX6_add 18 = .ok (.ifCond .ge 13, 3) := by decide +kernel
theorem dX6_add_21 : decode cX6_add 21 = .ok (.new 41, 3) := by decide +kernel
theorem dX6_add_24 : decode cX6_add 24 = .ok (.dup, 1) := by decide +kernel
theorem dX6_add_25 : decode cX6_add 25 = .ok (.ldc 112, 2) := by decide +kernel
theorem dX6_add_27 : decode cX6_add 27 = .ok (.invokespecial 45, 3) := by decide +kernel
theorem dX6_add_30 : decode cX6_add 30 = .ok (.athrow, 1) := by decide +kernel
theorem dX6_add_31 : decode cX6_add 31 = .ok (.aload_n 0, 1) := by decide +kernel
theorem dX6_add_32 : decode cX6_add 32 = .ok (.getfield 10, 3) := by decide +kernel
theorem dX6_add_35 : decode cX6_add 35 = .ok (.invokevirtual 93, 3) := by decide +kernel
theorem dX6_add_38 : decode cX6_add 38 = .ok (.ifCond .ne 13, 3) := by decide +kernel
theorem dX6_add_41 : decode cX6_add 41 = .ok (.new 63, 3) := by decide +kernel
theorem dX6_add_44 : decode cX6_add 44 = .ok (.dup, 1) := by decide +kernel
theorem dX6_add_45 : decode cX6_add 45 = .ok (.ldc 114, 2) := by decide +kernel
theorem dX6_add_47 : decode cX6_add 47 = .ok (.invokespecial 67, 3) := by decide +kernel
theorem dX6_add_50 : decode cX6_add 50 = .ok (.athrow, 1) := by decide +kernel
theorem dX6_add_51 : decode cX6_add 51 = .ok (.iload_n 2, 1) := by decide +kernel
theorem dX6_add_52 : decode cX6_add 52 = .ok (.sipush 200, 3) := by decide +kernel
theorem dX6_add_55 : decode cX6_add 55 = .ok (.aload_n 0, 1) := by decide +kernel
theorem dX6_add_56 : decode cX6_add 56 = .ok (.getfield 21, 3) := by decide +kernel
theorem dX6_add_59 : decode cX6_add 59 = .ok (.invokevirtual 116, 3) := by decide +kernel
theorem dX6_add_62 : decode cX6_add 62 = .ok (.isub, 1) := by decide +kernel
theorem dX6_add_63 : decode cX6_add 63 = .ok (.if_icmp .le 13, 3) := by decide +kernel
theorem dX6_add_66 : decode cX6_add 66 = .ok (.new 63, 3) := by decide +kernel
theorem dX6_add_69 : decode cX6_add 69 = .ok (.dup, 1) := by decide +kernel
theorem dX6_add_70 : decode cX6_add 70 = .ok (.ldc 119, 2) := by decide +kernel
theorem dX6_add_72 : decode cX6_add 72 = .ok (.invokespecial 67, 3) := by decide +kernel
theorem dX6_add_75 : decode cX6_add 75 = .ok (.athrow, 1) := by decide +kernel
theorem dX6_add_76 : decode cX6_add 76 = .ok (.iload_n 2, 1) := by decide +kernel
theorem dX6_add_77 : decode cX6_add 77 = .ok (.ifCond .le 17, 3) := by decide +kernel
theorem dX6_add_80 : decode cX6_add 80 = .ok (.aload_n 0, 1) := by decide +kernel
theorem dX6_add_81 : decode cX6_add 81 = .ok (.getfield 21, 3) := by decide +kernel
theorem dX6_add_84 : decode cX6_add 84 = .ok (.iload_n 1, 1) := by decide +kernel
theorem dX6_add_85 : decode cX6_add 85 = .ok (.iload_n 2, 1) := by decide +kernel
theorem dX6_add_86 : decode cX6_add 86 = .ok (.invokevirtual 121, 3) := by decide +kernel
theorem dX6_add_89 : decode cX6_add 89 = .ok (.aload_n 0, 1) := by decide +kernel
theorem dX6_add_90 : decode cX6_add 90 = .ok (.iconst 0, 1) := by decide +kernel
theorem dX6_add_91 : decode cX6_add 91 = .ok (.putfield 29, 3) := by decide +kernel
theorem dX6_add_94 : decode cX6_add 94 = .ok (.aload_n 0, 1) := by decide +kernel
theorem dX6_add_95 : decode cX6_add 95 = .ok (.getfield 21, 3) := by decide +kernel
theorem dX6_add_98 : decode cX6_add 98 = .ok (.invokevirtual 116, 3) := by decide +kernel
theorem dX6_add_101 : decode cX6_add 101 = .ok (.ireturn, 1) := by decide +kernel
theorem dX6_size_0 : decode cX6_size 0 = .ok (.aload_n 0, 1) := by decide +kernel
theorem dX6_size_1 : decode cX6_size 1 = .ok (.getfield 21, 3) := by decide +kernel
theorem dX6_size_4 : decode cX6_size 4 = .ok (.invokevirtual 116, 3) := by decide +kernel
theorem dX6_size_7 : decode cX6_size 7 = .ok (.ireturn, 1) := by decide +kernel
theorem dX6_meet_0 : decode cX6_meet 0 = .ok (.iload_n 1, 1) := by decide +kernel
theorem dX6_meet_1 : decode cX6_meet 1 = .ok (.iload_n 2, 1) := by decide +kernel
theorem dX6_meet_2 : decode cX6_meet 2 = .ok (.if_icmp .ne 13, 3) := by decide +kernel
theorem dX6_meet_5 : decode cX6_meet 5 = .ok (.new 41, 3) := by decide +kernel
theorem dX6_meet_8 : decode cX6_meet 8 = .ok (.dup, 1) := by decide +kernel
theorem dX6_meet_9 : decode cX6_meet 9 = .ok (.ldc 125, 2) := by decide +kernel
theorem dX6_meet_11 : decode cX6_meet 11 = .ok (.invokespecial 45, 3) := by decide +kernel
theorem dX6_meet_14 : decode cX6_meet 14 = .ok (.athrow, 1) := by decide +kernel
theorem dX6_meet_15 : decode cX6_meet 15 = .ok (.aload_n 0, 1) := by decide +kernel
theorem dX6_meet_16 : decode cX6_meet 16 = .ok (.getfield 21, 3) := by decide +kernel
theorem dX6_meet_19 : decode cX6_meet 19 = .ok (.iload_n 1, 1) := by decide +kernel
theorem dX6_meet_20 : decode cX6_meet 20 = .ok (.invokevirtual 127, 3) := by decide +kernel
theorem dX6_meet_23 : decode cX6_meet 23 = .ok (.ifCond .eq 14, 3) := by decide +kernel
theorem dX6_meet_26 : decode cX6_meet 26 = .ok (.aload_n 0, 1) := by decide +kernel
theorem dX6_meet_27 : decode cX6_meet 27 = .ok (.getfield 21, 3) := by decide +kernel
theorem dX6_meet_30 : decode cX6_meet 30 = .ok (.iload_n 2, 1) := by decide +kernel
theorem dX6_meet_31 : decode cX6_meet 31 = .ok (.invokevirtual 127, 3) := by decide +kernel
theorem dX6_meet_34 : decode cX6_meet 34 = .ok (.ifCond .ne 13, 3) := by decide +kernel
theorem dX6_meet_37 : decode cX6_meet 37 = .ok (.new 130, 3) := by decide +kernel
theorem dX6_meet_40 : decode cX6_meet 40 = .ok (.dup, 1) := by decide +kernel
theorem dX6_meet_41 : decode cX6_meet 41 = .ok (.ldc 132, 2) := by decide +kernel
theorem dX6_meet_43 : decode cX6_meet 43 = .ok (.invokespecial 134, 3) := by decide +kernel
theorem dX6_meet_46 : decode cX6_meet 46 = .ok (.athrow, 1) := by decide +kernel
theorem dX6_meet_47 : decode cX6_meet 47 = .ok (.aload_n 0, 1) := by decide +kernel
theorem dX6_meet_48 : decode cX6_meet 48 = .ok (.getfield 21, 3) := by decide +kernel
theorem dX6_meet_51 : decode cX6_meet 51 = .ok (.iload_n 1, 1) := by decide +kernel
theorem dX6_meet_52 : decode cX6_meet 52 = .ok (.iload_n 2, 1) := by decide +kernel
theorem dX6_meet_53 : decode cX6_meet 53 = .ok (.invokevirtual 135, 3) := by decide +kernel
theorem dX6_meet_56 : decode cX6_meet 56 = .ok (.istore_n 3, 1) := by decide +kernel
theorem dX6_meet_57 : decode cX6_meet 57 = .ok (.iload_n 3, 1) := by decide +kernel
theorem dX6_meet_58 : decode cX6_meet 58 = .ok (.ifCond .eq 8, 3) := by decide +kernel
theorem dX6_meet_61 : decode cX6_meet 61 = .ok (.aload_n 0, 1) := by decide +kernel
theorem dX6_meet_62 : decode cX6_meet 62 = .ok (.iconst 0, 1) := by decide +kernel
theorem dX6_meet_63 : decode cX6_meet 63 = .ok (.putfield 29, 3) := by decide +kernel
theorem dX6_meet_66 : decode cX6_meet 66 = .ok (.iload_n 3, 1) := by decide +kernel
theorem dX6_meet_67 : decode cX6_meet 67 = .ok (.ireturn, 1) := by decide +kernel
theorem dX6_sweep_0 : decode cX6_sweep 0 = .ok (.iload_n 1, 1) := by decide +kernel
theorem dX6_sweep_1 : decode cX6_sweep 1 = .ok (.iconst 1, 1) := by decide +kernel
theorem dX6_sweep_2 : decode cX6_sweep 2 = .ok (.if_icmp .lt 10, 3) := by decide +kernel
theorem dX6_sweep_5 : decode cX6_sweep 5 = .ok (.iload_n 1, 1) := by decide +kernel
theorem dX6_sweep_6 : decode cX6_sweep 6 = .ok (.sipush 500, 3) := by decide +kernel
theorem dX6_sweep_9 : decode cX6_sweep 9 = .ok (.if_icmp .le 13, 3) := by decide +kernel
theorem dX6_sweep_12 : decode cX6_sweep 12 = .ok (.new 41, 3) := by decide +kernel
theorem dX6_sweep_15 : decode cX6_sweep 15 = .ok (.dup, 1) := by decide +kernel
theorem dX6_sweep_16 : decode cX6_sweep 16 = .ok (.ldc 139, 2) := by decide +kernel
theorem dX6_sweep_18 : decode cX6_sweep 18 = .ok (.invokespecial 45, 3) := by decide +kernel
theorem dX6_sweep_21 : decode cX6_sweep 21 = .ok (.athrow, 1) := by decide +kernel
theorem dX6_sweep_22 : decode cX6_sweep 22 = .ok (.aload_n 0, 1) := by decide +kernel
theorem dX6_sweep_23 : decode cX6_sweep 23 = .ok (.getfield 21, 3) := by decide +kernel
theorem dX6_sweep_26 : decode cX6_sweep 26 = .ok (.iload_n 1, 1) := by decide +kernel
theorem dX6_sweep_27 : decode cX6_sweep 27 = .ok (.invokevirtual 141, 3) := by decide +kernel
theorem dX6_sweep_30 : decode cX6_sweep 30 = .ok (.istore_n 2, 1) := by decide +kernel
theorem dX6_sweep_31 : decode cX6_sweep 31 = .ok (.iload_n 2, 1) := by decide +kernel
theorem dX6_sweep_32 : decode cX6_sweep 32 = .ok (.ifCond .le 8, 3) := by decide +kernel
theorem dX6_sweep_35 : decode cX6_sweep 35 = .ok (.aload_n 0, 1) := by decide +kernel
theorem dX6_sweep_36 : decode cX6_sweep 36 = .ok (.iconst 0, 1) := by decide +kernel
theorem dX6_sweep_37 : decode cX6_sweep 37 = .ok (.putfield 29, 3) := by decide +kernel
theorem dX6_sweep_40 : decode cX6_sweep 40 = .ok (.iload_n 2, 1) := by decide +kernel
theorem dX6_sweep_41 : decode cX6_sweep 41 = .ok (.ireturn, 1) := by decide +kernel
theorem dX6_output_0 : decode cX6_output 0 = .ok (.aload_n 0, 1) := by decide +kernel
theorem dX6_output_1 : decode cX6_output 1 = .ok (.getfield 21, 3) := by decide +kernel
theorem dX6_output_4 : decode cX6_output 4 = .ok (.iload_n 1, 1) := by decide +kernel
theorem dX6_output_5 : decode cX6_output 5 = .ok (.invokevirtual 127, 3) := by decide +kernel
theorem dX6_output_8 : decode cX6_output 8 = .ok (.ifCond .ne 13, 3) := by decide +kernel
theorem dX6_output_11 : decode cX6_output 11 = .ok (.new 130, 3) := by decide +kernel
theorem dX6_output_14 : decode cX6_output 14 = .ok (.dup, 1) := by decide +kernel
theorem dX6_output_15 : decode cX6_output 15 = .ok (.ldc 132, 2) := by decide +kernel
theorem dX6_output_17 : decode cX6_output 17 = .ok (.invokespecial 134, 3) := by decide +kernel
theorem dX6_output_20 : decode cX6_output 20 = .ok (.athrow, 1) := by decide +kernel
theorem dX6_output_21 : decode cX6_output 21 = .ok (.aload_n 0, 1) := by decide +kernel
theorem dX6_output_22 : decode cX6_output 22 = .ok (.getfield 10, 3) := by decide +kernel
theorem dX6_output_25 : decode cX6_output 25 = .ok (.aload_n 0, 1) := by decide +kernel
theorem dX6_output_26 : decode cX6_output 26 = .ok (.getfield 21, 3) := by decide +kernel
theorem dX6_output_29 : decode cX6_output 29 = .ok (.iload_n 1, 1) := by decide +kernel
theorem dX6_output_30 : decode cX6_output 30 = .ok (.invokevirtual 145, 3) := by decide +kernel
theorem dX6_output_33 : decode cX6_output 33 = .ok (.invokevirtual 149, 3) := by decide +kernel
theorem dX6_output_36 : decode cX6_output 36 = .ok (.ireturn, 1) := by decide +kernel
theorem dX6_state_0 : decode cX6_state 0 = .ok (.aload_n 0, 1) := by decide +kernel
theorem dX6_state_1 : decode cX6_state 1 = .ok (.getfield 21, 3) := by decide +kernel
theorem dX6_state_4 : decode cX6_state 4 = .ok (.iload_n 1, 1) := by decide +kernel
theorem dX6_state_5 : decode cX6_state 5 = .ok (.invokevirtual 127, 3) := by decide +kernel
theorem dX6_state_8 : decode cX6_state 8 = .ok (.ifCond .eq 22, 3) := by decide +kernel
theorem dX6_state_11 : decode cX6_state 11 = .ok (.aload_n 0, 1) := by decide +kernel
theorem dX6_state_12 : decode cX6_state 12 = .ok (.getfield 10, 3) := by decide +kernel
theorem dX6_state_15 : decode cX6_state 15 = .ok (.iload_n 2, 1) := by decide +kernel
theorem dX6_state_16 : decode cX6_state 16 = .ok (.invokevirtual 153, 3) := by decide +kernel
theorem dX6_state_19 : decode cX6_state 19 = .ok (.ifCond .eq 11, 3) := by decide +kernel
theorem dX6_state_22 : decode cX6_state 22 = .ok (.iload_n 3, 1) := by decide +kernel
theorem dX6_state_23 : decode cX6_state 23 = .ok (.iconst 3, 1) := by decide +kernel
theorem dX6_state_24 : decode cX6_state 24 = .ok (.invokestatic 156, 3) := by decide +kernel
theorem dX6_state_27 : decode cX6_state 27 = .ok (.ifCond .ne 13, 3) := by decide +kernel
theorem dX6_state_30 : decode cX6_state 30 = .ok (.new 130, 3) := by decide +kernel
theorem dX6_state_33 : decode cX6_state 33 = .ok (.dup, 1) := by decide +kernel
theorem dX6_state_34 : decode cX6_state 34 = .ok (.ldc 159, 2) := by decide +kernel
theorem dX6_state_36 : decode cX6_state 36 = .ok (.invokespecial 134, 3) := by decide +kernel
theorem dX6_state_39 : decode cX6_state 39 = .ok (.athrow, 1) := by decide +kernel
theorem dX6_state_40 : decode cX6_state 40 = .ok (.aload_n 0, 1) := by decide +kernel
theorem dX6_state_41 : decode cX6_state 41 = .ok (.getfield 21, 3) := by decide +kernel
theorem dX6_state_44 : decode cX6_state 44 = .ok (.iload_n 1, 1) := by decide +kernel
theorem dX6_state_45 : decode cX6_state 45 = .ok (.invokevirtual 145, 3) := by decide +kernel
theorem dX6_state_48 : decode cX6_state 48 = .ok (.iload_n 2, 1) := by decide +kernel
theorem dX6_state_49 : decode cX6_state 49 = .ok (.invokestatic 161, 3) := by decide +kernel
theorem dX6_state_52 : decode cX6_state 52 = .ok (.iload_n 3, 1) := by decide +kernel
theorem dX6_state_53 : decode cX6_state 53 = .ok (.invokestatic 167, 3) := by decide +kernel
theorem dX6_state_56 : decode cX6_state 56 = .ok (.ireturn, 1) := by decide +kernel
theorem dX6_truth_0 : decode cX6_truth 0 = .ok (.aload_n 0, 1) := by decide +kernel
theorem dX6_truth_1 : decode cX6_truth 1 = .ok (.getfield 10, 3) := by decide +kernel
theorem dX6_truth_4 : decode cX6_truth 4 = .ok (.invokevirtual 93, 3) := by decide +kernel
theorem dX6_truth_7 : decode cX6_truth 7 = .ok (.ifCond .ne 13, 3) := by decide +kernel
theorem dX6_truth_10 : decode cX6_truth 10 = .ok (.new 63, 3) := by decide +kernel
theorem dX6_truth_13 : decode cX6_truth 13 = .ok (.dup, 1) := by decide +kernel
theorem dX6_truth_14 : decode cX6_truth 14 = .ok (.ldc 114, 2) := by decide +kernel
theorem dX6_truth_16 : decode cX6_truth 16 = .ok (.invokespecial 67, 3) := by decide +kernel
theorem dX6_truth_19 : decode cX6_truth 19 = .ok (.athrow, 1) := by decide +kernel
theorem dX6_truth_20 : decode cX6_truth 20 = .ok (.aload_n 0, 1) := by decide +kernel
theorem dX6_truth_21 : decode cX6_truth 21 = .ok (.getfield 10, 3) := by decide +kernel
theorem dX6_truth_24 : decode cX6_truth 24 = .ok (.aload_n 0, 1) := by decide +kernel
theorem dX6_truth_25 : decode cX6_truth 25 = .ok (.getfield 21, 3) := by decide +kernel
theorem dX6_truth_28 : decode cX6_truth 28 = .ok (.invokevirtual 170, 3) := by decide +kernel
theorem dX6_truth_31 : decode cX6_truth 31 = .ok (.invokevirtual 174, 3) := by decide +kernel
theorem dX6_truth_34 : decode cX6_truth 34 = .ok (.ireturn, 1) := by decide +kernel
theorem dX6_silent_0 : decode cX6_silent 0 = .ok (.aload_n 0, 1) := by decide +kernel
theorem dX6_silent_1 : decode cX6_silent 1 = .ok (.getfield 21, 3) := by decide +kernel
theorem dX6_silent_4 : decode cX6_silent 4 = .ok (.invokevirtual 178, 3) := by decide +kernel
theorem dX6_silent_7 : decode cX6_silent 7 = .ok (.ireturn, 1) := by decide +kernel
theorem dX6_agree_0 : decode cX6_agree 0 = .ok (.aload_n 0, 1) := by decide +kernel
theorem dX6_agree_1 : decode cX6_agree 1 = .ok (.getfield 21, 3) := by decide +kernel
theorem dX6_agree_4 : decode cX6_agree 4 = .ok (.invokevirtual 181, 3) := by decide +kernel
theorem dX6_agree_7 : decode cX6_agree 7 = .ok (.ireturn, 1) := by decide +kernel
theorem dX6_explore_0 : decode cX6_explore 0 = .ok (.iload_n 1, 1) := by decide +kernel
theorem dX6_explore_1 : decode cX6_explore 1 = .ok (.iconst 1, 1) := by decide +kernel
theorem dX6_explore_2 : decode cX6_explore 2 = .ok (.if_icmp .lt 10, 3) := by decide +kernel
theorem dX6_explore_5 : decode cX6_explore 5 = .ok (.iload_n 1, 1) := by decide +kernel
theorem dX6_explore_6 : decode cX6_explore 6 = .ok (.sipush 3000, 3) := by decide +kernel
theorem dX6_explore_9 : decode cX6_explore 9 = .ok (.if_icmp .le 13, 3) := by decide +kernel
theorem dX6_explore_12 : decode cX6_explore 12 = .ok (.new 41, 3) := by decide +kernel
theorem dX6_explore_15 : decode cX6_explore 15 = .ok (.dup, 1) := by decide +kernel
theorem dX6_explore_16 : decode cX6_explore 16 = .ok (.ldc 184, 2) := by decide +kernel
theorem dX6_explore_18 : decode cX6_explore 18 = .ok (.invokespecial 45, 3) := by decide +kernel
theorem dX6_explore_21 : decode cX6_explore 21 = .ok (.athrow, 1) := by decide +kernel
theorem dX6_explore_22 : decode cX6_explore 22 = .ok (.aload_n 0, 1) := by decide +kernel
theorem dX6_explore_23 : decode cX6_explore 23 = .ok (.getfield 21, 3) := by decide +kernel
theorem dX6_explore_26 : decode cX6_explore 26 = .ok (.invokevirtual 116, 3) := by decide +kernel
theorem dX6_explore_29 : decode cX6_explore 29 = .ok (.iconst 1, 1) := by decide +kernel
theorem dX6_explore_30 : decode cX6_explore 30 = .ok (.if_icmp .lt 15, 3) := by decide +kernel
theorem dX6_explore_33 : decode cX6_explore 33 = .ok (.aload_n 0, 1) := by decide +kernel
theorem dX6_explore_34 : decode cX6_explore 34 = .ok (.getfield 21, 3) := by decide +kernel
theorem dX6_explore_37 : decode cX6_explore 37 = .ok (.invokevirtual 116, 3) := by decide +kernel
theorem dX6_explore_40 : decode cX6_explore 40 = .ok (.bipush 6, 2) := by decide +kernel
theorem dX6_explore_42 : decode cX6_explore 42 = .ok (.if_icmp .le 13, 3) := by decide +kernel
theorem dX6_explore_45 : decode cX6_explore 45 = .ok (.new 63, 3) := by decide +kernel
theorem dX6_explore_48 : decode cX6_explore 48 = .ok (.dup, 1) := by decide +kernel
theorem dX6_explore_49 : decode cX6_explore 49 = .ok (.ldc 186, 2) := by decide +kernel
theorem dX6_explore_51 : decode cX6_explore 51 = .ok (.invokespecial 67, 3) := by decide +kernel
theorem dX6_explore_54 : decode cX6_explore 54 = .ok (.athrow, 1) := by decide +kernel
theorem dX6_explore_55 : decode cX6_explore 55 = .ok (.aload_n 0, 1) := by decide +kernel
theorem dX6_explore_56 : decode cX6_explore 56 = .ok (.getfield 25, 3) := by decide +kernel
theorem dX6_explore_59 : decode cX6_explore 59 = .ok (.ifnonnull 18, 3) := by decide +kernel
theorem dX6_explore_62 : decode cX6_explore 62 = .ok (.aload_n 0, 1) := by decide +kernel
theorem dX6_explore_63 : decode cX6_explore 63 = .ok (.new 188, 3) := by decide +kernel
theorem dX6_explore_66 : decode cX6_explore 66 = .ok (.dup, 1) := by decide +kernel
theorem dX6_explore_67 : decode cX6_explore 67 = .ok (.aload_n 0, 1) := by decide +kernel
theorem dX6_explore_68 : decode cX6_explore 68 = .ok (.getfield 10, 3) := by decide +kernel
theorem dX6_explore_71 : decode cX6_explore 71 = .ok (.invokespecial 190, 3) := by decide +kernel
theorem dX6_explore_74 : decode cX6_explore 74 = .ok (.putfield 25, 3) := by decide +kernel
theorem dX6_explore_77 : decode cX6_explore 77 = .ok (.aload_n 0, 1) := by decide +kernel
theorem dX6_explore_78 : decode cX6_explore 78 = .ok (.getfield 25, 3) := by decide +kernel
theorem dX6_explore_81 : decode cX6_explore 81 = .ok (.aload_n 0, 1) := by decide +kernel
theorem dX6_explore_82 : decode cX6_explore 82 = .ok (.getfield 21, 3) := by decide +kernel
theorem dX6_explore_85 : decode cX6_explore 85 = .ok (.iload_n 1, 1) := by decide +kernel
theorem dX6_explore_86 : decode cX6_explore 86 = .ok (.invokevirtual 191, 3) := by decide +kernel
theorem dX6_explore_89 : decode cX6_explore 89 = .ok (.istore_n 2, 1) := by decide +kernel
theorem dX6_explore_90 : decode cX6_explore 90 = .ok (.aload_n 0, 1) := by decide +kernel
theorem dX6_explore_91 : decode cX6_explore 91 = .ok (.iload_n 2, 1) := by decide +kernel
theorem dX6_explore_92 : decode cX6_explore 92 = .ok (.iconst (-1), 1) := by decide +kernel
theorem dX6_explore_93 : decode cX6_explore 93 = .ok (.if_icmp .eq 7, 3) := by decide +kernel
theorem dX6_explore_96 : decode cX6_explore 96 = .ok (.iconst 1, 1) := by decide +kernel
theorem dX6_explore_97 : decode cX6_explore 97 = .ok (.goto 4, 3) := by decide +kernel
theorem dX6_explore_100 : decode cX6_explore 100 = .ok (.iconst 0, 1) := by decide +kernel
theorem dX6_explore_101 : decode cX6_explore 101 = .ok (.putfield 29, 3) := by decide +kernel
theorem dX6_explore_104 : decode cX6_explore 104 = .ok (.iload_n 2, 1) := by decide +kernel
theorem dX6_explore_105 : decode cX6_explore 105 = .ok (.ireturn, 1) := by decide +kernel
theorem dX6_recovers_0 : decode cX6_recovers 0 = .ok (.aload_n 0, 1) := by decide +kernel
theorem dX6_recovers_1 : decode cX6_recovers 1 = .ok (.getfield 29, 3) := by decide +kernel
theorem dX6_recovers_4 : decode cX6_recovers 4 = .ok (.ifCond .eq 10, 3) := by decide +kernel
theorem dX6_recovers_7 : decode cX6_recovers 7 = .ok (.aload_n 0, 1) := by decide +kernel
theorem dX6_recovers_8 : decode cX6_recovers 8 = .ok (.getfield 25, 3) := by decide +kernel
theorem dX6_recovers_11 : decode cX6_recovers 11 = .ok (.ifnonnull 13, 3) := by decide +kernel
theorem dX6_recovers_14 : decode cX6_recovers 14 = .ok (.new 63, 3) := by decide +kernel
theorem dX6_recovers_17 : decode cX6_recovers 17 = .ok (.dup, 1) := by decide +kernel
theorem dX6_recovers_18 : decode cX6_recovers 18 = .ok (.ldc 195, 2) := by decide +kernel
theorem dX6_recovers_20 : decode cX6_recovers 20 = .ok (.invokespecial 67, 3) := by decide +kernel
theorem dX6_recovers_23 : decode cX6_recovers 23 = .ok (.athrow, 1) := by decide +kernel
theorem dX6_recovers_24 : decode cX6_recovers 24 = .ok (.aload_n 0, 1) := by decide +kernel
theorem dX6_recovers_25 : decode cX6_recovers 25 = .ok (.getfield 25, 3) := by decide +kernel
theorem dX6_recovers_28 : decode cX6_recovers 28 = .ok (.aload_n 0, 1) := by decide +kernel
theorem dX6_recovers_29 : decode cX6_recovers 29 = .ok (.getfield 10, 3) := by decide +kernel
theorem dX6_recovers_32 : decode cX6_recovers 32 = .ok (.aload_n 0, 1) := by decide +kernel
theorem dX6_recovers_33 : decode cX6_recovers 33 = .ok (.getfield 21, 3) := by decide +kernel
theorem dX6_recovers_36 : decode cX6_recovers 36 = .ok (.invokevirtual 170, 3) := by decide +kernel
theorem dX6_recovers_39 : decode cX6_recovers 39 = .ok (.invokevirtual 174, 3) := by decide +kernel
theorem dX6_recovers_42 : decode cX6_recovers 42 = .ok (.invokevirtual 197, 3) := by decide +kernel
theorem dX6_recovers_45 : decode cX6_recovers 45 = .ok (.ireturn, 1) := by decide +kernel
theorem dX6_table_0 : decode cX6_table 0 = .ok (.aload_n 0, 1) := by decide +kernel
theorem dX6_table_1 : decode cX6_table 1 = .ok (.iload_n 1, 1) := by decide +kernel
theorem dX6_table_2 : decode cX6_table 2 = .ok (.iload_n 2, 1) := by decide +kernel
theorem dX6_table_3 : decode cX6_table 3 = .ok (.iconst 2, 1) := by decide +kernel
theorem dX6_table_4 : decode cX6_table 4 = .ok (.invokevirtual 201, 3) := by decide +kernel
theorem dX6_table_7 : decode cX6_table 7 = .ok (.aload_n 0, 1) := by decide +kernel
theorem dX6_table_8 : decode cX6_table 8 = .ok (.getfield 10, 3) := by decide +kernel
theorem dX6_table_11 : decode cX6_table 11 = .ok (.iload_n 1, 1) := by decide +kernel
theorem dX6_table_12 : decode cX6_table 12 = .ok (.invokevirtual 205, 3) := by decide +kernel
theorem dX6_table_15 : decode cX6_table 15 = .ok (.astore_n 3, 1) := by decide +kernel
theorem dX6_table_16 : decode cX6_table 16 = .ok (.iload_n 2, 1) := by decide +kernel
theorem dX6_table_17 : decode cX6_table 17 = .ok (.ifCond .ne 10, 3) := by decide +kernel
theorem dX6_table_20 : decode cX6_table 20 = .ok (.aload_n 3, 1) := by decide +kernel
theorem dX6_table_21 : decode cX6_table 21 = .ok (.invokevirtual 209, 3) := by decide +kernel
theorem dX6_table_24 : decode cX6_table 24 = .ok (.goto 7, 3) := by decide +kernel
theorem dX6_table_27 : decode cX6_table 27 = .ok (.aload_n 3, 1) := by decide +kernel
theorem dX6_table_28 : decode cX6_table 28 = .ok (.invokevirtual 212, 3) := by decide +kernel
theorem dX6_table_31 : decode cX6_table 31 = .ok (.ireturn, 1) := by decide +kernel
theorem dX6_rule_0 : decode cX6_rule 0 = .ok (.aload_n 0, 1) := by decide +kernel
theorem dX6_rule_1 : decode cX6_rule 1 = .ok (.iload_n 1, 1) := by decide +kernel
theorem dX6_rule_2 : decode cX6_rule 2 = .ok (.iload_n 3, 1) := by decide +kernel
theorem dX6_rule_3 : decode cX6_rule 3 = .ok (.iconst 4, 1) := by decide +kernel
theorem dX6_rule_4 : decode cX6_rule 4 = .ok (.invokevirtual 201, 3) := by decide +kernel
theorem dX6_rule_7 : decode cX6_rule 7 = .ok (.aload_n 0, 1) := by decide +kernel
theorem dX6_rule_8 : decode cX6_rule 8 = .ok (.getfield 10, 3) := by decide +kernel
theorem dX6_rule_11 : decode cX6_rule 11 = .ok (.iload_n 1, 1) := by decide +kernel
theorem dX6_rule_12 : decode cX6_rule 12 = .ok (.invokevirtual 205, 3) := by decide +kernel
theorem dX6_rule_15 : decode cX6_rule 15 = .ok (.astore 4, 2) := by decide +kernel
theorem dX6_rule_17 : decode cX6_rule 17 = .ok (.iload_n 2, 1) := by decide +kernel
theorem dX6_rule_18 : decode cX6_rule 18 = .ok (.ifCond .lt 12, 3) := by decide +kernel
theorem dX6_rule_21 : decode cX6_rule 21 = .ok (.iload_n 2, 1) := by decide +kernel
theorem dX6_rule_22 : decode cX6_rule 22 = .ok (.aload 4, 2) := by decide +kernel
theorem dX6_rule_24 : decode cX6_rule 24 = .ok (.invokevirtual 212, 3) := by decide +kernel
theorem dX6_rule_27 : decode cX6_rule 27 = .ok (.if_icmp .lt 13, 3) := by decide +kernel
theorem dX6_rule_30 : decode cX6_rule 30 = .ok (.new 130, 3) := by decide +kernel
theorem dX6_rule_33 : decode cX6_rule 33 = .ok (.dup, 1) := by decide +kernel
theorem dX6_rule_34 : decode cX6_rule 34 = .ok (.ldc 215, 2) := by decide +kernel
theorem dX6_rule_36 : decode cX6_rule 36 = .ok (.invokespecial 134, 3) := by decide +kernel
theorem dX6_rule_39 : decode cX6_rule 39 = .ok (.athrow, 1) := by decide +kernel
theorem dX6_rule_40 : decode cX6_rule 40 = .ok (.aload 4, 2) := by decide +kernel
theorem dX6_rule_42 : decode cX6_rule 42 = .ok (.iload_n 2, 1) := by decide +kernel
theorem dX6_rule_43 : decode cX6_rule 43 = .ok (.iload_n 3, 1) := by decide +kernel
theorem dX6_rule_44 : decode cX6_rule 44 = .ok (.invokevirtual 217, 3) := by decide +kernel
theorem dX6_rule_47 : decode cX6_rule 47 = .ok (.ireturn, 1) := by decide +kernel
theorem dX6_kind_0 : decode cX6_kind 0 = .ok (.aload_n 0, 1) := by decide +kernel
theorem dX6_kind_1 : decode cX6_kind 1 = .ok (.iload_n 1, 1) := by decide +kernel
theorem dX6_kind_2 : decode cX6_kind 2 = .ok (.iload_n 3, 1) := by decide +kernel
theorem dX6_kind_3 : decode cX6_kind 3 = .ok (.iconst 3, 1) := by decide +kernel
theorem dX6_kind_4 : decode cX6_kind 4 = .ok (.invokevirtual 201, 3) := by decide +kernel
theorem dX6_kind_7 : decode cX6_kind 7 = .ok (.aload_n 0, 1) := by decide +kernel
theorem dX6_kind_8 : decode cX6_kind 8 = .ok (.getfield 10, 3) := by decide +kernel
theorem dX6_kind_11 : decode cX6_kind 11 = .ok (.iload_n 1, 1) := by decide +kernel
theorem dX6_kind_12 : decode cX6_kind 12 = .ok (.invokevirtual 205, 3) := by decide +kernel
theorem dX6_kind_15 : decode cX6_kind 15 = .ok (.astore 4, 2) := by decide +kernel
theorem dX6_kind_17 : decode cX6_kind 17 = .ok (.iload_n 2, 1) := by decide +kernel
theorem dX6_kind_18 : decode cX6_kind 18 = .ok (.ifCond .lt 12, 3) := by decide +kernel
theorem dX6_kind_21 : decode cX6_kind 21 = .ok (.iload_n 2, 1) := by decide +kernel
theorem dX6_kind_22 : decode cX6_kind 22 = .ok (.aload 4, 2) := by decide +kernel
theorem dX6_kind_24 : decode cX6_kind 24 = .ok (.invokevirtual 209, 3) := by decide +kernel
theorem dX6_kind_27 : decode cX6_kind 27 = .ok (.if_icmp .lt 13, 3) := by decide +kernel
theorem dX6_kind_30 : decode cX6_kind 30 = .ok (.new 130, 3) := by decide +kernel
theorem dX6_kind_33 : decode cX6_kind 33 = .ok (.dup, 1) := by decide +kernel
theorem dX6_kind_34 : decode cX6_kind 34 = .ok (.ldc 220, 2) := by decide +kernel
theorem dX6_kind_36 : decode cX6_kind 36 = .ok (.invokespecial 134, 3) := by decide +kernel
theorem dX6_kind_39 : decode cX6_kind 39 = .ok (.athrow, 1) := by decide +kernel
theorem dX6_kind_40 : decode cX6_kind 40 = .ok (.aload 4, 2) := by decide +kernel
theorem dX6_kind_42 : decode cX6_kind 42 = .ok (.iload_n 2, 1) := by decide +kernel
theorem dX6_kind_43 : decode cX6_kind 43 = .ok (.invokevirtual 222, 3) := by decide +kernel
theorem dX6_kind_46 : decode cX6_kind 46 = .ok (.iload_n 3, 1) := by decide +kernel
theorem dX6_kind_47 : decode cX6_kind 47 = .ok (.invokestatic 167, 3) := by decide +kernel
theorem dX6_kind_50 : decode cX6_kind 50 = .ok (.ireturn, 1) := by decide +kernel
theorem dX6_checkTable_0 : decode cX6_checkTable 0 = .ok (.aload_n 0, 1) := by decide +kernel
theorem dX6_checkTable_1 : decode cX6_checkTable 1 = .ok (.getfield 10, 3) := by decide +kernel
theorem dX6_checkTable_4 : decode cX6_checkTable 4 = .ok (.iload_n 1, 1) := by decide +kernel
theorem dX6_checkTable_5 : decode cX6_checkTable 5 = .ok (.invokevirtual 153, 3) := by decide +kernel
theorem dX6_checkTable_8 : decode cX6_checkTable 8 = .ok (.ifCond .eq 11, 3) := by decide +kernel
theorem dX6_checkTable_11 : decode cX6_checkTable 11 = .ok (.iload_n 2, 1) := by decide +kernel
theorem dX6_checkTable_12 : decode cX6_checkTable 12 = .ok (.iload_n 3, 1) := by decide +kernel
theorem dX6_checkTable_13 : decode cX6_checkTable 13 = .ok (.invokestatic 156, 3) := by decide +kernel
theorem dX6_checkTable_16 : decode cX6_checkTable 16 = .ok (.ifCond .ne 13, 3) := by decide +kernel
theorem dX6_checkTable_19 : decode cX6_checkTable 19 = .ok (.new 130, 3) := by decide +kernel
theorem dX6_checkTable_22 : decode cX6_checkTable 22 = .ok (.dup, 1) := by decide +kernel
theorem dX6_checkTable_23 : decode cX6_checkTable 23 = .ok (.ldc 225, 2) := by decide +kernel
theorem dX6_checkTable_25 : decode cX6_checkTable 25 = .ok (.invokespecial 134, 3) := by decide +kernel
theorem dX6_checkTable_28 : decode cX6_checkTable 28 = .ok (.athrow, 1) := by decide +kernel
theorem dX6_checkTable_29 : decode cX6_checkTable 29 = .ok (.aload_n 0, 1) := by decide +kernel
theorem dX6_checkTable_30 : decode cX6_checkTable 30 = .ok (.getfield 10, 3) := by decide +kernel
theorem dX6_checkTable_33 : decode cX6_checkTable 33 = .ok (.invokevirtual 93, 3) := by decide +kernel
theorem dX6_checkTable_36 : decode cX6_checkTable 36 = .ok (.ifCond .ne 13, 3) := by decide +kernel
theorem dX6_checkTable_39 : decode cX6_checkTable 39 = .ok (.new 63, 3) := by decide +kernel
theorem dX6_checkTable_42 : decode cX6_checkTable 42 = .ok (.dup, 1) := by decide +kernel
theorem dX6_checkTable_43 : decode cX6_checkTable 43 = .ok (.ldc 114, 2) := by decide +kernel
theorem dX6_checkTable_45 : decode cX6_checkTable 45 = .ok (.invokespecial 67, 3) := by decide +kernel
theorem dX6_checkTable_48 : decode cX6_checkTable 48 = .ok (.athrow, 1) := by decide +kernel
theorem dX6_checkTable_49 : decode cX6_checkTable 49 = .ok (.return_, 1) := by decide +kernel
theorem dX6_isLetter_0 : decode cX6_isLetter 0 = .ok (.iload_n 0, 1) := by decide +kernel
theorem dX6_isLetter_1 : decode cX6_isLetter 1 = .ok (.ifCond .lt 13, 3) := by decide +kernel
theorem dX6_isLetter_4 : decode cX6_isLetter 4 = .ok (.iload_n 0, 1) := by decide +kernel
theorem dX6_isLetter_5 : decode cX6_isLetter 5 = .ok (.bipush 8, 2) := by decide +kernel
theorem dX6_isLetter_7 : decode cX6_isLetter 7 = .ok (.if_icmp .ge 7, 3) := by decide +kernel
theorem dX6_isLetter_10 : decode cX6_isLetter 10 = .ok (.iconst 1, 1) := by decide +kernel
theorem dX6_isLetter_11 : decode cX6_isLetter 11 = .ok (.goto 4, 3) := by decide +kernel
theorem dX6_isLetter_14 : decode cX6_isLetter 14 = .ok (.iconst 0, 1) := by decide +kernel
theorem dX6_isLetter_15 : decode cX6_isLetter 15 = .ok (.ireturn, 1) := by decide +kernel
theorem dX6_isCoefficient_0 : decode cX6_isCoefficient 0 = .ok (.iload_n 0, 1) := by decide +kernel
theorem dX6_isCoefficient_1 : decode cX6_isCoefficient 1 = .ok (.bipush (-20), 2) := by decide +kernel
theorem dX6_isCoefficient_3 : decode cX6_isCoefficient 3 = .ok (.if_icmp .lt 13, 3) := by decide +kernel
theorem dX6_isCoefficient_6 : decode cX6_isCoefficient 6 = .ok (.iload_n 0, 1) := by decide +kernel
theorem dX6_isCoefficient_7 : decode cX6_isCoefficient 7 = .ok (.bipush 20, 2) := by decide +kernel
theorem dX6_isCoefficient_9 : decode cX6_isCoefficient 9 = .ok (.if_icmp .gt 7, 3) := by decide +kernel
theorem dX6_isCoefficient_12 : decode cX6_isCoefficient 12 = .ok (.iconst 1, 1) := by decide +kernel
theorem dX6_isCoefficient_13 : decode cX6_isCoefficient 13 = .ok (.goto 4, 3) := by decide +kernel
theorem dX6_isCoefficient_16 : decode cX6_isCoefficient 16 = .ok (.iconst 0, 1) := by decide +kernel
theorem dX6_isCoefficient_17 : decode cX6_isCoefficient 17 = .ok (.ireturn, 1) := by decide +kernel
theorem dX6_isFact_0 : decode cX6_isFact 0 = .ok (.iload_n 0, 1) := by decide +kernel
theorem dX6_isFact_1 : decode cX6_isFact 1 = .ok (.ifCond .lt 12, 3) := by decide +kernel
theorem dX6_isFact_4 : decode cX6_isFact 4 = .ok (.iload_n 0, 1) := by decide +kernel
theorem dX6_isFact_5 : decode cX6_isFact 5 = .ok (.iload_n 1, 1) := by decide +kernel
theorem dX6_isFact_6 : decode cX6_isFact 6 = .ok (.if_icmp .ge 7, 3) := by decide +kernel
theorem dX6_isFact_9 : decode cX6_isFact 9 = .ok (.iconst 1, 1) := by decide +kernel
theorem dX6_isFact_10 : decode cX6_isFact 10 = .ok (.goto 4, 3) := by decide +kernel
theorem dX6_isFact_13 : decode cX6_isFact 13 = .ok (.iconst 0, 1) := by decide +kernel
theorem dX6_isFact_14 : decode cX6_isFact 14 = .ok (.ireturn, 1) := by decide +kernel
theorem dX7_init_0 : decode cX7_init 0 = .ok (.aload_n 0, 1) := by decide +kernel
theorem dX7_init_1 : decode cX7_init 1 = .ok (.invokespecial 1, 3) := by decide +kernel
theorem dX7_init_4 : decode cX7_init 4 = .ok (.aload_n 0, 1) := by decide +kernel
theorem dX7_init_5 : decode cX7_init 5 = .ok (.iconst 0, 1) := by decide +kernel
theorem dX7_init_6 : decode cX7_init 6 = .ok (.putfield 7, 3) := by decide +kernel
theorem dX7_init_9 : decode cX7_init 9 = .ok (.aload_n 0, 1) := by decide +kernel
theorem dX7_init_10 : decode cX7_init 10 = .ok (.bipush 8, 2) := by decide +kernel
theorem dX7_init_12 : decode cX7_init 12 = .ok (.newarray .int, 2) := by decide +kernel
theorem dX7_init_14 : decode cX7_init 14 = .ok (.putfield 13, 3) := by decide +kernel
theorem dX7_init_17 : decode cX7_init 17 = .ok (.aload_n 0, 1) := by decide +kernel
theorem dX7_init_18 : decode cX7_init 18 = .ok (.iconst 0, 1) := by decide +kernel
theorem dX7_init_19 : decode cX7_init 19 = .ok (.putfield 17, 3) := by decide +kernel
theorem dX7_init_22 : decode cX7_init 22 = .ok (.aload_n 0, 1) := by decide +kernel
theorem dX7_init_23 : decode cX7_init 23 = .ok (.bipush 20, 2) := by decide +kernel
theorem dX7_init_25 : decode cX7_init 25 = .ok (.newarray .int, 2) := by decide +kernel
theorem dX7_init_27 : decode cX7_init 27 = .ok (.putfield 20, 3) := by decide +kernel
theorem dX7_init_30 : decode cX7_init 30 = .ok (.aload_n 0, 1) := by decide +kernel
theorem dX7_init_31 : decode cX7_init 31 = .ok (.bipush 20, 2) := by decide +kernel
theorem dX7_init_33 : decode cX7_init 33 = .ok (.newarray .int, 2) := by decide +kernel
theorem dX7_init_35 : decode cX7_init 35 = .ok (.putfield 23, 3) := by decide +kernel
theorem dX7_init_38 : decode cX7_init 38 = .ok (.aload_n 0, 1) := by decide +kernel
theorem dX7_init_39 : decode cX7_init 39 = .ok (.bipush 20, 2) := by decide +kernel
theorem dX7_init_41 : decode cX7_init 41 = .ok (.newarray .int, 2) := by decide +kernel
theorem dX7_init_43 : decode cX7_init 43 = .ok (.putfield 26, 3) := by decide +kernel
theorem dX7_init_46 : decode cX7_init 46 = .ok (.aload_n 0, 1) := by decide +kernel
theorem dX7_init_47 : decode cX7_init 47 = .ok (.bipush 20, 2) := by decide +kernel
theorem dX7_init_49 : decode cX7_init 49 = .ok (.newarray .boolean, 2) := by decide +kernel
theorem dX7_init_51 : decode cX7_init 51 = .ok (.putfield 29, 3) := by decide +kernel
theorem dX7_init_54 : decode cX7_init 54 = .ok (.aload_n 0, 1) := by decide +kernel
theorem dX7_init_55 : decode cX7_init 55 = .ok (.iconst 0, 1) := by decide +kernel
theorem dX7_init_56 : decode cX7_init 56 = .ok (.putfield 33, 3) := by decide +kernel
theorem dX7_init_59 : decode cX7_init 59 = .ok (.aload_n 0, 1) := by decide +kernel
theorem dX7_init_60 : decode cX7_init 60 = .ok (.bipush 40, 2) := by decide +kernel
theorem dX7_init_62 : decode cX7_init 62 = .ok (.newarray .int, 2) := by decide +kernel
theorem dX7_init_64 : decode cX7_init 64 = .ok (.putfield 36, 3) := by decide +kernel
theorem dX7_init_67 : decode cX7_init 67 = .ok (.aload_n 0, 1) := by decide +kernel
theorem dX7_init_68 : decode cX7_init 68 = .ok (.iconst 5, 1) := by decide +kernel
theorem dX7_init_69 : decode cX7_init 69 = .ok (.newarray .int, 2) := by decide +kernel
theorem dX7_init_71 : decode cX7_init 71 = .ok (.putfield 39, 3) := by decide +kernel
theorem dX7_init_74 : decode cX7_init 74 = .ok (.aload_n 0, 1) := by decide +kernel
theorem dX7_init_75 : decode cX7_init 75 = .ok (.iconst 5, 1) := by decide +kernel
theorem dX7_init_76 : decode cX7_init 76 = .ok (.newarray .int, 2) := by decide +kernel
theorem dX7_init_78 : decode cX7_init 78 = .ok (.putfield 42, 3) := by decide +kernel
theorem dX7_init_81 : decode cX7_init 81 = .ok (.aload_n 0, 1) := by decide +kernel
theorem dX7_init_82 : decode cX7_init 82 = .ok (.iconst 5, 1) := by decide +kernel
theorem dX7_init_83 : decode cX7_init 83 = .ok (.newarray .int, 2) := by decide +kernel
theorem dX7_init_85 : decode cX7_init 85 = .ok (.putfield 45, 3) := by decide +kernel
theorem dX7_init_88 : decode cX7_init 88 = .ok (.aload_n 0, 1) := by decide +kernel
theorem dX7_init_89 : decode cX7_init 89 = .ok (.iconst 0, 1) := by decide +kernel
theorem dX7_init_90 : decode cX7_init 90 = .ok (.putfield 48, 3) := by decide +kernel
theorem dX7_init_93 : decode cX7_init 93 = .ok (.aload_n 0, 1) := by decide +kernel
theorem dX7_init_94 : decode cX7_init 94 = .ok (.sipush 860, 3) := by decide +kernel
theorem dX7_init_97 : decode cX7_init 97 = .ok (.newarray .boolean, 2) := by decide +kernel
theorem dX7_init_99 : decode cX7_init 99 = .ok (.putfield 52, 3) := by decide +kernel
theorem dX7_init_102 : decode cX7_init 102 = .ok (.aload_n 0, 1) := by decide +kernel
theorem dX7_init_103 : decode cX7_init 103 = .ok (.iconst 0, 1) := by decide +kernel
theorem dX7_init_104 : decode cX7_init 104 = .ok (.putfield 55, 3) := by decide +kernel
theorem dX7_init_107 : decode cX7_init 107 = .ok (.aload_n 0, 1) := by decide +kernel
theorem dX7_init_108 : decode cX7_init 108 = .ok (.sipush 1000, 3) := by decide +kernel
theorem dX7_init_111 : decode cX7_init 111 = .ok (.newarray .int, 2) := by decide +kernel
theorem dX7_init_113 : decode cX7_init 113 = .ok (.putfield 58, 3) := by decide +kernel
theorem dX7_init_116 : decode cX7_init 116 = .ok (.aload_n 0, 1) := by decide +kernel
theorem dX7_init_117 : decode cX7_init 117 = .ok (.bipush 8, 2) := by decide +kernel
theorem dX7_init_119 : decode cX7_init 119 = .ok (.newarray .int, 2) := by decide +kernel
theorem dX7_init_121 : decode cX7_init 121 = .ok (.putfield 61, 3) := by decide +kernel
theorem dX7_init_124 : decode cX7_init 124 = .ok (.aload_n 0, 1) := by decide +kernel
theorem dX7_init_125 : decode cX7_init 125 = .ok (.iconst 0, 1) := by decide +kernel
theorem dX7_init_126 : decode cX7_init 126 = .ok (.putfield 64, 3) := by decide +kernel
theorem dX7_init_129 : decode cX7_init 129 = .ok (.aload_n 0, 1) := by decide +kernel
theorem dX7_init_130 : decode cX7_init 130 = .ok (.iconst 0, 1) := by decide +kernel
theorem dX7_init_131 : decode cX7_init 131 = .ok (.putfield 67, 3) := by decide +kernel
theorem dX7_init_134 : decode cX7_init 134 = .ok (.aload_n 0, 1) := by decide +kernel
theorem dX7_init_135 : decode cX7_init 135 = .ok (.iconst 0, 1) := by decide +kernel
theorem dX7_init_136 : decode cX7_init 136 = .ok (.putfield 70, 3) := by decide +kernel
theorem dX7_init_139 : decode cX7_init 139 = .ok (.aload_n 0, 1) := by decide +kernel
theorem dX7_init_140 : decode cX7_init 140 = .ok (.sipush 18012, 3) := by decide +kernel
theorem dX7_init_143 : decode cX7_init 143 = .ok (.newarray .long, 2) := by decide +kernel
theorem dX7_init_145 : decode cX7_init 145 = .ok (.putfield 73, 3) := by decide +kernel
theorem dX7_init_148 : decode cX7_init 148 = .ok (.aload_n 0, 1) := by decide +kernel
theorem dX7_init_149 : decode cX7_init 149 = .ok (.sipush 8192, 3) := by decide +kernel
theorem dX7_init_152 : decode cX7_init 152 = .ok (.newarray .int, 2) := by decide +kernel
theorem dX7_init_154 : decode cX7_init 154 = .ok (.putfield 77, 3) := by decide +kernel
theorem dX7_init_157 : decode cX7_init 157 = .ok (.aload_n 0, 1) := by decide +kernel
theorem dX7_init_158 : decode cX7_init 158 = .ok (.sipush 3002, 3) := by decide +kernel
theorem dX7_init_161 : decode cX7_init 161 = .ok (.newarray .boolean, 2) := by decide +kernel
theorem dX7_init_163 : decode cX7_init 163 = .ok (.putfield 80, 3) := by decide +kernel
theorem dX7_init_166 : decode cX7_init 166 = .ok (.aload_n 0, 1) := by decide +kernel
theorem dX7_init_167 : decode cX7_init 167 = .ok (.iconst 0, 1) := by decide +kernel
theorem dX7_init_168 : decode cX7_init 168 = .ok (.putfield 83, 3) := by decide +kernel
theorem dX7_init_171 : decode cX7_init 171 = .ok (.aload_n 0, 1) := by decide +kernel
theorem dX7_init_172 : decode cX7_init 172 = .ok (.bipush 6, 2) := by decide +kernel
theorem dX7_init_174 : decode cX7_init 174 = .ok (.newarray .long, 2) := by decide +kernel
theorem dX7_init_176 : decode cX7_init 176 = .ok (.putfield 86, 3) := by decide +kernel
theorem dX7_init_179 : decode cX7_init 179 = .ok (.return_, 1) := by decide +kernel
theorem dX7_thrown_0 : decode cX7_thrown 0 = .ok (.aload_n 0, 1) := by decide +kernel
theorem dX7_thrown_1 : decode cX7_thrown 1 = .ok (.getfield 7, 3) := by decide +kernel
theorem dX7_thrown_4 : decode cX7_thrown 4 = .ok (.ireturn, 1) := by decide +kernel
theorem dX7_opinionOf_0 : decode cX7_opinionOf 0 = .ok (.aload_n 0, 1) := by decide +kernel
theorem dX7_opinionOf_1 : decode cX7_opinionOf 1 = .ok (.getfield 42, 3) := by decide +kernel
theorem dX7_opinionOf_4 : decode cX7_opinionOf 4 = .ok (.iload_n 1, 1) := by decide +kernel
theorem dX7_opinionOf_5 : decode cX7_opinionOf 5 = .ok (.iaload, 1) := by decide +kernel
theorem dX7_opinionOf_6 : decode cX7_opinionOf 6 = .ok (.ifCond .ne 21, 3) := by decide +kernel
theorem dX7_opinionOf_9 : decode cX7_opinionOf 9 = .ok (.iload_n 2, 1) := by decide +kernel
theorem dX7_opinionOf_10 : decode cX7_opinionOf 10 = .ok (.aload_n 0, 1) := by decide +kernel
theorem dX7_opinionOf_11 : decode cX7_opinionOf 11 = .ok (.getfield 45, 3) := by decide +kernel
theorem dX7_opinionOf_14 : decode cX7_opinionOf 14 = .ok (.iload_n 1, 1) := by decide +kernel
theorem dX7_opinionOf_15 : decode cX7_opinionOf 15 = .ok (.iaload, 1) := by decide +kernel
theorem dX7_opinionOf_16 : decode cX7_opinionOf 16 = .ok (.if_icmp .lt 7, 3) := by decide +kernel
theorem dX7_opinionOf_19 : decode cX7_opinionOf 19 = .ok (.iconst 1, 1) := by decide +kernel
theorem dX7_opinionOf_20 : decode cX7_opinionOf 20 = .ok (.goto 22, 3) := by decide +kernel
theorem dX7_opinionOf_23 : decode cX7_opinionOf 23 = .ok (.iconst 0, 1) := by decide +kernel
theorem dX7_opinionOf_24 : decode cX7_opinionOf 24 = .ok (.goto 18, 3) := by decide +kernel
theorem dX7_opinionOf_27 : decode cX7_opinionOf 27 = .ok (.iload_n 2, 1) := by decide +kernel
theorem dX7_opinionOf_28 : decode cX7_opinionOf 28 = .ok (.aload_n 0, 1) := by decide +kernel
theorem dX7_opinionOf_29 : decode cX7_opinionOf 29 = .ok (.getfield 45, 3) := by decide +kernel
theorem dX7_opinionOf_32 : decode cX7_opinionOf 32 = .ok (.iload_n 1, 1) := by decide +kernel
theorem dX7_opinionOf_33 : decode cX7_opinionOf 33 = .ok (.iaload, 1) := by decide +kernel
theorem dX7_opinionOf_34 : decode cX7_opinionOf 34 = .ok (.if_icmp .ne 7, 3) := by decide +kernel
theorem dX7_opinionOf_37 : decode cX7_opinionOf 37 = .ok (.iconst 1, 1) := by decide +kernel
theorem dX7_opinionOf_38 : decode cX7_opinionOf 38 = .ok (.goto 4, 3) := by decide +kernel
theorem dX7_opinionOf_41 : decode cX7_opinionOf 41 = .ok (.iconst 0, 1) := by decide +kernel
theorem dX7_opinionOf_42 : decode cX7_opinionOf 42 = .ok (.ireturn, 1) := by decide +kernel
theorem dX7_stateOf_0 : decode cX7_stateOf 0 = .ok (.iload_n 2, 1) := by decide +kernel
theorem dX7_stateOf_1 : decode cX7_stateOf 1 = .ok (.ifCond .eq 8, 3) := by decide +kernel
theorem dX7_stateOf_4 : decode cX7_stateOf 4 = .ok (.bipush 86, 2) := by decide +kernel
theorem dX7_stateOf_6 : decode cX7_stateOf 6 = .ok (.goto 4, 3) := by decide +kernel
theorem dX7_stateOf_9 : decode cX7_stateOf 9 = .ok (.iconst 0, 1) := by decide +kernel
theorem dX7_stateOf_10 : decode cX7_stateOf 10 = .ok (.iconst 2, 1) := by decide +kernel
theorem dX7_stateOf_11 : decode cX7_stateOf 11 = .ok (.iload_n 3, 1) := by decide +kernel
theorem dX7_stateOf_12 : decode cX7_stateOf 12 = .ok (.bipush 21, 2) := by decide +kernel
theorem dX7_stateOf_14 : decode cX7_stateOf 14 = .ok (.iadd, 1) := by decide +kernel
theorem dX7_stateOf_15 : decode cX7_stateOf 15 = .ok (.imul, 1) := by decide +kernel
theorem dX7_stateOf_16 : decode cX7_stateOf 16 = .ok (.iadd, 1) := by decide +kernel
theorem dX7_stateOf_17 : decode cX7_stateOf 17 = .ok (.iload 4, 2) := by decide +kernel
theorem dX7_stateOf_19 : decode cX7_stateOf 19 = .ok (.ifCond .eq 7, 3) := by decide +kernel
theorem dX7_stateOf_22 : decode cX7_stateOf 22 = .ok (.iconst 1, 1) := by decide +kernel
theorem dX7_stateOf_23 : decode cX7_stateOf 23 = .ok (.goto 4, 3) := by decide +kernel
theorem dX7_stateOf_26 : decode cX7_stateOf 26 = .ok (.iconst 0, 1) := by decide +kernel
theorem dX7_stateOf_27 : decode cX7_stateOf 27 = .ok (.iadd, 1) := by decide +kernel
theorem dX7_stateOf_28 : decode cX7_stateOf 28 = .ok (.ireturn, 1) := by decide +kernel
theorem dX7_valueOf_0 : decode cX7_valueOf 0 = .ok (.iload_n 0, 1) := by decide +kernel
theorem dX7_valueOf_1 : decode cX7_valueOf 1 = .ok (.bipush 86, 2) := by decide +kernel
theorem dX7_valueOf_3 : decode cX7_valueOf 3 = .ok (.irem, 1) := by decide +kernel
theorem dX7_valueOf_4 : decode cX7_valueOf 4 = .ok (.iconst 2, 1) := by decide +kernel
theorem dX7_valueOf_5 : decode cX7_valueOf 5 = .ok (.idiv, 1) := by decide +kernel
theorem dX7_valueOf_6 : decode cX7_valueOf 6 = .ok (.bipush 21, 2) := by decide +kernel
theorem dX7_valueOf_8 : decode cX7_valueOf 8 = .ok (.isub, 1) := by decide +kernel
theorem dX7_valueOf_9 : decode cX7_valueOf 9 = .ok (.ireturn, 1) := by decide +kernel
theorem dX7_firstState_0 : decode cX7_firstState 0 = .ok (.aload_n 0, 1) := by decide +kernel
theorem dX7_firstState_1 : decode cX7_firstState 1 = .ok (.getfield 36, 3) := by decide +kernel
theorem dX7_firstState_4 : decode cX7_firstState 4 = .ok (.bipush 8, 2) := by decide +kernel
theorem dX7_firstState_6 : decode cX7_firstState 6 = .ok (.iload_n 1, 1) := by decide +kernel
theorem dX7_firstState_7 : decode cX7_firstState 7 = .ok (.imul, 1) := by decide +kernel
theorem dX7_firstState_8 : decode cX7_firstState 8 = .ok (.iload_n 2, 1) := by decide +kernel
theorem dX7_firstState_9 : decode cX7_firstState 9 = .ok (.iadd, 1) := by decide +kernel
theorem dX7_firstState_10 : decode cX7_firstState 10 = .ok (.iaload, 1) := by decide +kernel
theorem dX7_firstState_11 : decode cX7_firstState 11 = .ok (.istore_n 3, 1) := by decide +kernel
theorem dX7_firstState_12 : decode cX7_firstState 12 = .ok (.aload_n 0, 1) := by decide +kernel
theorem dX7_firstState_13 : decode cX7_firstState 13 = .ok (.getfield 42, 3) := by decide +kernel
theorem dX7_firstState_16 : decode cX7_firstState 16 = .ok (.iload_n 1, 1) := by decide +kernel
theorem dX7_firstState_17 : decode cX7_firstState 17 = .ok (.iaload, 1) := by decide +kernel
theorem dX7_firstState_18 : decode cX7_firstState 18 = .ok (.ifCond .le 26, 3) := by decide +kernel
theorem dX7_firstState_21 : decode cX7_firstState 21 = .ok (.iload_n 3, 1) := by decide +kernel
theorem dX7_firstState_22 : decode cX7_firstState 22 = .ok (.aload_n 0, 1) := by decide +kernel
theorem dX7_firstState_23 : decode cX7_firstState 23 = .ok (.getfield 42, 3) := by decide +kernel
theorem dX7_firstState_26 : decode cX7_firstState 26 = .ok (.iload_n 1, 1) := by decide +kernel
theorem dX7_firstState_27 : decode cX7_firstState 27 = .ok (.iaload, 1) := by decide +kernel
theorem dX7_firstState_28 : decode cX7_firstState 28 = .ok (.irem, 1) := by decide +kernel
theorem dX7_firstState_29 : decode cX7_firstState 29 = .ok (.aload_n 0, 1) := by decide +kernel
theorem dX7_firstState_30 : decode cX7_firstState 30 = .ok (.getfield 42, 3) := by decide +kernel
theorem dX7_firstState_33 : decode cX7_firstState 33 = .ok (.iload_n 1, 1) := by decide +kernel
theorem dX7_firstState_34 : decode cX7_firstState 34 = .ok (.iaload, 1) := by decide +kernel
theorem dX7_firstState_35 : decode cX7_firstState 35 = .ok (.iadd, 1) := by decide +kernel
theorem dX7_firstState_36 : decode cX7_firstState 36 = .ok (.aload_n 0, 1) := by decide +kernel
theorem dX7_firstState_37 : decode cX7_firstState 37 = .ok (.getfield 42, 3) := by decide +kernel
theorem dX7_firstState_40 : decode cX7_firstState 40 = .ok (.iload_n 1, 1) := by decide +kernel
theorem dX7_firstState_41 : decode cX7_firstState 41 = .ok (.iaload, 1) := by decide +kernel
theorem dX7_firstState_42 : decode cX7_firstState 42 = .ok (.irem, 1) := by decide +kernel
theorem dX7_firstState_43 : decode cX7_firstState 43 = .ok (.istore_n 3, 1) := by decide +kernel
theorem dX7_firstState_44 : decode cX7_firstState 44 = .ok (.aload_n 0, 1) := by decide +kernel
theorem dX7_firstState_45 : decode cX7_firstState 45 = .ok (.iload_n 1, 1) := by decide +kernel
theorem dX7_firstState_46 : decode cX7_firstState 46 = .ok (.iconst 1, 1) := by decide +kernel
theorem dX7_firstState_47 : decode cX7_firstState 47 = .ok (.iload_n 3, 1) := by decide +kernel
theorem dX7_firstState_48 : decode cX7_firstState 48 = .ok (.aload_n 0, 1) := by decide +kernel
theorem dX7_firstState_49 : decode cX7_firstState 49 = .ok (.iload_n 1, 1) := by decide +kernel
theorem dX7_firstState_50 : decode cX7_firstState 50 = .ok (.iload_n 3, 1) := by decide +kernel
theorem dX7_firstState_51 : decode cX7_firstState 51 = .ok (.invokevirtual 89, 3) := by decide +kernel
theorem dX7_firstState_54 : decode cX7_firstState 54 = .ok (.invokevirtual 93, 3) := by decide +kernel
theorem dX7_firstState_57 : decode cX7_firstState 57 = .ok (.ireturn, 1) := by decide +kernel
theorem dX7_meeting_0 : decode cX7_meeting 0 = .ok (.aload_n 0, 1) := by decide +kernel
theorem dX7_meeting_1 : decode cX7_meeting 1 = .ok (.iload_n 2, 1) := by decide +kernel
theorem dX7_meeting_2 : decode cX7_meeting 2 = .ok (.putfield 64, 3) := by decide +kernel
theorem dX7_meeting_5 : decode cX7_meeting 5 = .ok (.aload_n 0, 1) := by decide +kernel
theorem dX7_meeting_6 : decode cX7_meeting 6 = .ok (.iload_n 3, 1) := by decide +kernel
theorem dX7_meeting_7 : decode cX7_meeting 7 = .ok (.putfield 67, 3) := by decide +kernel
theorem dX7_meeting_10 : decode cX7_meeting 10 = .ok (.iload_n 2, 1) := by decide +kernel
theorem dX7_meeting_11 : decode cX7_meeting 11 = .ok (.bipush 86, 2) := by decide +kernel
theorem dX7_meeting_13 : decode cX7_meeting 13 = .ok (.if_icmp .ge 10, 3) := by decide +kernel
theorem dX7_meeting_16 : decode cX7_meeting 16 = .ok (.iload_n 3, 1) := by decide +kernel
theorem dX7_meeting_17 : decode cX7_meeting 17 = .ok (.bipush 86, 2) := by decide +kernel
theorem dX7_meeting_19 : decode cX7_meeting 19 = .ok (.if_icmp .ge 4, 3) := by decide +kernel
theorem dX7_meeting_22 : decode cX7_meeting 22 = .ok (.return_, 1) := by decide +kernel
theorem dX7_meeting_23 : decode cX7_meeting 23 = .ok (.iload_n 2, 1) := by decide +kernel
theorem dX7_meeting_24 : decode cX7_meeting 24 = .ok (.bipush 86, 2) := by decide +kernel
theorem dX7_meeting_26 : decode cX7_meeting 26 = .ok (.if_icmp .lt 7, 3) := by decide +kernel
theorem dX7_meeting_29 : decode cX7_meeting 29 = .ok (.iconst 1, 1) := by decide +kernel
theorem dX7_meeting_30 : decode cX7_meeting 30 = .ok (.goto 4, 3) := by decide +kernel
theorem dX7_meeting_33 : decode cX7_meeting 33 = .ok (.iconst 0, 1) := by decide +kernel
theorem dX7_meeting_34 : decode cX7_meeting 34 = .ok (.istore 4, 2) := by decide +kernel
theorem dX7_meeting_36 : decode cX7_meeting 36 = .ok (.iload_n 2, 1) := by decide +kernel
theorem dX7_meeting_37 : decode cX7_meeting 37 = .ok (.invokestatic 97, 3) := by decide +kernel
theorem dX7_meeting_40 : decode cX7_meeting 40 = .ok (.iload_n 3, 1) := by decide +kernel
theorem dX7_meeting_41 : decode cX7_meeting 41 = .ok (.invokestatic 97, 3) := by decide +kernel
theorem dX7_meeting_44 : decode cX7_meeting 44 = .ok (.iadd, 1) := by decide +kernel
theorem dX7_meeting_45 : decode cX7_meeting 45 = .ok (.istore 5, 2) := by decide +kernel
theorem dX7_meeting_47 : decode cX7_meeting 47 = .ok (.iload 5, 2) := by decide +kernel
theorem dX7_meeting_49 : decode cX7_meeting 49 = .ok (.istore 6, 2) := by decide +kernel
theorem dX7_meeting_51 : decode cX7_meeting 51 = .ok (.iconst 0, 1) := by decide +kernel
theorem dX7_meeting_52 : decode cX7_meeting 52 = .ok (.istore 7, 2) := by decide +kernel
theorem dX7_meeting_54 : decode cX7_meeting 54 = .ok (.aload_n 0, 1) := by decide +kernel
theorem dX7_meeting_55 : decode cX7_meeting 55 = .ok (.getfield 42, 3) := by decide +kernel
theorem dX7_meeting_58 : decode cX7_meeting 58 = .ok (.iload_n 1, 1) := by decide +kernel
theorem dX7_meeting_59 : decode cX7_meeting 59 = .ok (.iaload, 1) := by decide +kernel
theorem dX7_meeting_60 : decode cX7_meeting 60 = .ok (.ifCond .le 33, 3) := by decide +kernel
theorem dX7_meeting_63 : decode cX7_meeting 63 = .ok (.iload 5, 2) := by decide +kernel
theorem dX7_meeting_65 : decode cX7_meeting 65 = .ok (.aload_n 0, 1) := by decide +kernel
theorem dX7_meeting_66 : decode cX7_meeting 66 = .ok (.getfield 42, 3) := by decide +kernel
theorem dX7_meeting_69 : decode cX7_meeting 69 = .ok (.iload_n 1, 1) := by decide +kernel
theorem dX7_meeting_70 : decode cX7_meeting 70 = .ok (.iaload, 1) := by decide +kernel
theorem dX7_meeting_71 : decode cX7_meeting 71 = .ok (.if_icmp .lt 15, 3) := by decide +kernel
theorem dX7_meeting_74 : decode cX7_meeting 74 = .ok (.iload 5, 2) := by decide +kernel
theorem dX7_meeting_76 : decode cX7_meeting 76 = .ok (.aload_n 0, 1) := by decide +kernel
theorem dX7_meeting_77 : decode cX7_meeting 77 = .ok (.getfield 42, 3) := by decide +kernel
theorem dX7_meeting_80 : decode cX7_meeting 80 = .ok (.iload_n 1, 1) := by decide +kernel
theorem dX7_meeting_81 : decode cX7_meeting 81 = .ok (.iaload, 1) := by decide +kernel
theorem dX7_meeting_82 : decode cX7_meeting 82 = .ok (.isub, 1) := by decide +kernel
theorem dX7_meeting_83 : decode cX7_meeting 83 = .ok (.goto 5, 3) := by decide +kernel
theorem dX7_meeting_86 : decode cX7_meeting 86 = .ok (.iload 5, 2) := by decide +kernel
theorem dX7_meeting_88 : decode cX7_meeting 88 = .ok (.istore 6, 2) := by decide +kernel
theorem dX7_meeting_90 : decode cX7_meeting 90 = .ok (.goto 50, 3) := by decide +kernel
theorem dX7_meeting_93 : decode cX7_meeting 93 = .ok (.iload 6, 2) := by decide +kernel
theorem dX7_meeting_95 : decode cX7_meeting 95 = .ok (.aload_n 0, 1) := by decide +kernel
theorem dX7_meeting_96 : decode cX7_meeting 96 = .ok (.getfield 39, 3) := by decide +kernel
theorem dX7_meeting_99 : decode cX7_meeting 99 = .ok (.iload_n 1, 1) := by decide +kernel
theorem dX7_meeting_100 : decode cX7_meeting 100 = .ok (.iaload, 1) := by decide +kernel
theorem dX7_meeting_101 : decode cX7_meeting 101 = .ok (.if_icmp .le 11, 3) := by decide +kernel
theorem dX7_meeting_104 : decode cX7_meeting 104 = .ok (.aload_n 0, 1) := by decide +kernel
theorem dX7_meeting_105 : decode cX7_meeting 105 = .ok (.getfield 39, 3) := by decide +kernel
theorem dX7_meeting_108 : decode cX7_meeting 108 = .ok (.iload_n 1, 1) := by decide +kernel
theorem dX7_meeting_109 : decode cX7_meeting 109 = .ok (.iaload, 1) := by decide +kernel
theorem dX7_meeting_110 : decode cX7_meeting 110 = .ok (.istore 6, 2) := by decide +kernel
theorem dX7_meeting_112 : decode cX7_meeting 112 = .ok (.iload 6, 2) := by decide +kernel
theorem dX7_meeting_114 : decode cX7_meeting 114 = .ok (.aload_n 0, 1) := by decide +kernel
theorem dX7_meeting_115 : decode cX7_meeting 115 = .ok (.getfield 39, 3) := by decide +kernel
theorem dX7_meeting_118 : decode cX7_meeting 118 = .ok (.iload_n 1, 1) := by decide +kernel
theorem dX7_meeting_119 : decode cX7_meeting 119 = .ok (.iaload, 1) := by decide +kernel
theorem dX7_meeting_120 : decode cX7_meeting 120 = .ok (.ineg, 1) := by decide +kernel
theorem dX7_meeting_121 : decode cX7_meeting 121 = .ok (.if_icmp .ge 12, 3) := by decide +kernel
theorem dX7_meeting_124 : decode cX7_meeting 124 = .ok (.aload_n 0, 1) := by decide +kernel
theorem dX7_meeting_125 : decode cX7_meeting 125 = .ok (.getfield 39, 3) := by decide +kernel
theorem dX7_meeting_128 : decode cX7_meeting 128 = .ok (.iload_n 1, 1) := by decide +kernel
theorem dX7_meeting_129 : decode cX7_meeting 129 = .ok (.iaload, 1) := by decide +kernel
theorem dX7_meeting_130 : decode cX7_meeting 130 = .ok (.ineg, 1) := by decide +kernel
theorem dX7_meeting_131 : decode cX7_meeting 131 = .ok (.istore 6, 2) := by decide +kernel
theorem dX7_meeting_133 : decode cX7_meeting 133 = .ok (.iload 5, 2) := by decide +kernel
theorem dX7_meeting_135 : decode cX7_meeting 135 = .ok (.iload 6, 2) := by decide +kernel
theorem dX7_meeting_137 : decode cX7_meeting 137 = .ok (.isub, 1) := by decide +kernel
theorem dX7_meeting_138 : decode cX7_meeting 138 = .ok (.istore 7, 2) := by decide +kernel
theorem dX7_meeting_140 : decode cX7_meeting 140 = .ok (.aload_n 0, 1) := by decide +kernel
theorem dX7_meeting_141 : decode cX7_meeting 141 = .ok (.iload_n 1, 1) := by decide +kernel
theorem dX7_meeting_142 : decode cX7_meeting 142 = .ok (.iload 6, 2) := by decide +kernel
theorem dX7_meeting_144 : decode cX7_meeting 144 = .ok (.invokevirtual 89, 3) := by decide +kernel
theorem dX7_meeting_147 : decode cX7_meeting 147 = .ok (.istore 8, 2) := by decide +kernel
theorem dX7_meeting_149 : decode cX7_meeting 149 = .ok (.aload_n 0, 1) := by decide +kernel
theorem dX7_meeting_150 : decode cX7_meeting 150 = .ok (.aload_n 0, 1) := by decide +kernel
theorem dX7_meeting_151 : decode cX7_meeting 151 = .ok (.iload_n 1, 1) := by decide +kernel
theorem dX7_meeting_152 : decode cX7_meeting 152 = .ok (.iload 4, 2) := by decide +kernel
theorem dX7_meeting_154 : decode cX7_meeting 154 = .ok (.iload 4, 2) := by decide +kernel
theorem dX7_meeting_156 : decode cX7_meeting 156 = .ok (.ifCond .eq 8, 3) := by decide +kernel
theorem dX7_meeting_159 : decode cX7_meeting 159 = .ok (.iload 6, 2) := by decide +kernel
theorem dX7_meeting_161 : decode cX7_meeting 161 = .ok (.goto 5, 3) := by decide +kernel
theorem dX7_meeting_164 : decode cX7_meeting 164 = .ok (.iload 7, 2) := by decide +kernel
theorem dX7_meeting_166 : decode cX7_meeting 166 = .ok (.iload 8, 2) := by decide +kernel
theorem dX7_meeting_168 : decode cX7_meeting 168 = .ok (.invokevirtual 93, 3) := by decide +kernel
theorem dX7_meeting_171 : decode cX7_meeting 171 = .ok (.putfield 64, 3) := by decide +kernel
theorem dX7_meeting_174 : decode cX7_meeting 174 = .ok (.aload_n 0, 1) := by decide +kernel
theorem dX7_meeting_175 : decode cX7_meeting 175 = .ok (.aload_n 0, 1) := by decide +kernel
theorem dX7_meeting_176 : decode cX7_meeting 176 = .ok (.iload_n 1, 1) := by decide +kernel
theorem dX7_meeting_177 : decode cX7_meeting 177 = .ok (.iload 4, 2) := by decide +kernel
theorem dX7_meeting_179 : decode cX7_meeting 179 = .ok (.ifCond .ne 7, 3) := by decide +kernel
theorem dX7_meeting_182 : decode cX7_meeting 182 = .ok (.iconst 1, 1) := by decide +kernel
theorem dX7_meeting_183 : decode cX7_meeting 183 = .ok (.goto 4, 3) := by decide +kernel
theorem dX7_meeting_186 : decode cX7_meeting 186 = .ok (.iconst 0, 1) := by decide +kernel
theorem dX7_meeting_187 : decode cX7_meeting 187 = .ok (.iload 4, 2) := by decide +kernel
theorem dX7_meeting_189 : decode cX7_meeting 189 = .ok (.ifCond .eq 8, 3) := by decide +kernel
theorem dX7_meeting_192 : decode cX7_meeting 192 = .ok (.iload 7, 2) := by decide +kernel
theorem dX7_meeting_194 : decode cX7_meeting 194 = .ok (.goto 5, 3) := by decide +kernel
theorem dX7_meeting_197 : decode cX7_meeting 197 = .ok (.iload 6, 2) := by decide +kernel
theorem dX7_meeting_199 : decode cX7_meeting 199 = .ok (.iload 8, 2) := by decide +kernel
theorem dX7_meeting_201 : decode cX7_meeting 201 = .ok (.invokevirtual 93, 3) := by decide +kernel
theorem dX7_meeting_204 : decode cX7_meeting 204 = .ok (.putfield 67, 3) := by decide +kernel
theorem dX7_meeting_207 : decode cX7_meeting 207 = .ok (.return_, 1) := by decide +kernel
theorem dX7_findStates_0 : decode cX7_findStates 0 = .ok (.iconst 0, 1) := by decide +kernel
theorem dX7_findStates_1 : decode cX7_findStates 1 = .ok (.istore_n 2, 1) := by decide +kernel
theorem dX7_findStates_2 : decode cX7_findStates 2 = .ok (.iload_n 2, 1) := by decide +kernel
theorem dX7_findStates_3 : decode cX7_findStates 3 = .ok (.sipush 172, 3) := by decide +kernel
theorem dX7_findStates_6 : decode cX7_findStates 6 = .ok (.if_icmp .ge 22, 3) := by decide +kernel
theorem dX7_findStates_9 : decode cX7_findStates 9 = .ok (.aload_n 0, 1) := by decide +kernel
theorem dX7_findStates_10 : decode cX7_findStates 10 = .ok (.getfield 52, 3) := by decide +kernel
theorem dX7_findStates_13 : decode cX7_findStates 13 = .ok (.sipush 172, 3) := by decide +kernel
theorem dX7_findStates_16 : decode cX7_findStates 16 = .ok (.iload_n 1, 1) := by decide +kernel
theorem dX7_findStates_17 : decode cX7_findStates 17 = .ok (.imul, 1) := by decide +kernel
theorem dX7_findStates_18 : decode cX7_findStates 18 = .ok (.iload_n 2, 1) := by decide +kernel
theorem dX7_findStates_19 : decode cX7_findStates 19 = .ok (.iadd, 1) := by decide +kernel
theorem dX7_findStates_20 : decode cX7_findStates 20 = .ok (.iconst 0, 1) := by decide +kernel
theorem dX7_findStates_21 : decode cX7_findStates 21 = .ok (.bastore, 1) := by decide +kernel
theorem dX7_findStates_22 : decode cX7_findStates 22 = .ok (.iinc 2 1, 3) := by decide +kernel
theorem dX7_findStates_25 : decode cX7_findStates 25 = .ok (.goto (-23), 3) := by decide +kernel
theorem dX7_findStates_28 : decode cX7_findStates 28 = .ok (.iconst 0, 1) := by decide +kernel
theorem dX7_findStates_29 : decode cX7_findStates 29 = .ok (.istore_n 2, 1) := by decide +kernel
theorem dX7_findStates_30 : decode cX7_findStates 30 = .ok (.iload_n 2, 1) := by decide +kernel
theorem dX7_findStates_31 : decode cX7_findStates 31 = .ok (.bipush 8, 2) := by decide +kernel
theorem dX7_findStates_33 : decode cX7_findStates 33 = .ok (.if_icmp .ge 27, 3) := by decide +kernel
theorem dX7_findStates_36 : decode cX7_findStates 36 = .ok (.aload_n 0, 1) := by decide +kernel
theorem dX7_findStates_37 : decode cX7_findStates 37 = .ok (.getfield 52, 3) := by decide +kernel
theorem dX7_findStates_40 : decode cX7_findStates 40 = .ok (.sipush 172, 3) := by decide +kernel
theorem dX7_findStates_43 : decode cX7_findStates 43 = .ok (.iload_n 1, 1) := by decide +kernel
theorem dX7_findStates_44 : decode cX7_findStates 44 = .ok (.imul, 1) := by decide +kernel
theorem dX7_findStates_45 : decode cX7_findStates 45 = .ok (.aload_n 0, 1) := by decide +kernel
theorem dX7_findStates_46 : decode cX7_findStates 46 = .ok (.iload_n 1, 1) := by decide +kernel
theorem dX7_findStates_47 : decode cX7_findStates 47 = .ok (.iload_n 2, 1) := by decide +kernel
theorem dX7_findStates_48 : decode cX7_findStates 48 = .ok (.invokevirtual 101, 3) := by decide +kernel
theorem dX7_findStates_51 : decode cX7_findStates 51 = .ok (.iadd, 1) := by decide +kernel
theorem dX7_findStates_52 : decode cX7_findStates 52 = .ok (.iconst 1, 1) := by decide +kernel
theorem dX7_findStates_53 : decode cX7_findStates 53 = .ok (.bastore, 1) := by decide +kernel
theorem dX7_findStates_54 : decode cX7_findStates 54 = .ok (.iinc 2 1, 3) := by decide +kernel
theorem dX7_findStates_57 : decode cX7_findStates 57 = .ok (.goto (-27), 3) := by decide +kernel
theorem dX7_findStates_60 : decode cX7_findStates 60 = .ok (.iconst 1, 1) := by decide +kernel
theorem dX7_findStates_61 : decode cX7_findStates 61 = .ok (.istore_n 2, 1) := by decide +kernel
theorem dX7_findStates_62 : decode cX7_findStates 62 = .ok (.iconst 0, 1) := by decide +kernel
theorem dX7_findStates_63 : decode cX7_findStates 63 = .ok (.istore_n 3, 1) := by decide +kernel
theorem dX7_findStates_64 : decode cX7_findStates 64 = .ok (.iload_n 3, 1) := by decide +kernel
theorem dX7_findStates_65 : decode cX7_findStates 65 = .ok (.sipush 200, 3) := by decide +kernel
theorem dX7_findStates_68 : decode cX7_findStates 68 = .ok (.if_icmp .ge 160, 3) := by decide +kernel
theorem dX7_findStates_71 : decode cX7_findStates 71 = .ok (.iload_n 2, 1) := by decide +kernel
theorem dX7_findStates_72 : decode cX7_findStates 72 = .ok (.ifCond .eq 156, 3) := by decide +kernel
theorem dX7_findStates_75 : decode cX7_findStates 75 = .ok (.iconst 0, 1) := by decide +kernel
theorem dX7_findStates_76 : decode cX7_findStates 76 = .ok (.istore_n 2, 1) := by decide +kernel
theorem dX7_findStates_77 : decode cX7_findStates 77 = .ok (.iconst 0, 1) := by decide +kernel
theorem dX7_findStates_78 : decode cX7_findStates 78 = .ok (.istore 4, 2) := by decide +kernel
theorem dX7_findStates_80 : decode cX7_findStates 80 = .ok (.iload 4, 2) := by decide +kernel
theorem dX7_findStates_82 : decode cX7_findStates 82 = .ok (.sipush 172, 3) := by decide +kernel
theorem dX7_findStates_85 : decode cX7_findStates 85 = .ok (.if_icmp .ge 137, 3) := by decide +kernel
theorem dX7_findStates_88 : decode cX7_findStates 88 = .ok (.iconst 0, 1) := by decide +kernel
theorem dX7_findStates_89 : decode cX7_findStates 89 = .ok (.istore 5, 2) := by decide +kernel
theorem dX7_findStates_91 : decode cX7_findStates 91 = .ok (.iload 5, 2) := by decide +kernel
theorem dX7_findStates_93 : decode cX7_findStates 93 = .ok (.sipush 172, 3) := by decide +kernel
theorem dX7_findStates_96 : decode cX7_findStates 96 = .ok (.if_icmp .ge 120, 3) := by decide +kernel
theorem dX7_findStates_99 : decode cX7_findStates 99 = .ok (.aload_n 0, 1) := by decide +kernel
theorem dX7_findStates_100 : decode cX7_findStates 100 = .ok (.getfield 52, 3) := by decide +kernel
theorem dX7_findStates_103 : decode cX7_findStates 103 = .ok (.sipush 172, 3) := by decide +kernel
theorem dX7_findStates_106 : decode cX7_findStates 106 = .ok (.iload_n 1, 1) := by decide +kernel
theorem dX7_findStates_107 : decode cX7_findStates 107 = .ok (.imul, 1) := by decide +kernel
theorem dX7_findStates_108 : decode cX7_findStates 108 = .ok (.iload 4, 2) := by decide +kernel
theorem dX7_findStates_110 : decode cX7_findStates 110 = .ok (.iadd, 1) := by decide +kernel
theorem dX7_findStates_111 : decode cX7_findStates 111 = .ok (.baload, 1) := by decide +kernel
theorem dX7_findStates_112 : decode cX7_findStates 112 = .ok (.ifCond .eq 98, 3) := by decide +kernel
theorem dX7_findStates_115 : decode cX7_findStates 115 = .ok (.aload_n 0, 1) := by decide +kernel
theorem dX7_findStates_116 : decode cX7_findStates 116 = .ok (.getfield 52, 3) := by decide +kernel
theorem dX7_findStates_119 : decode cX7_findStates 119 = .ok (.sipush 172, 3) := by decide +kernel
theorem dX7_findStates_122 : decode cX7_findStates 122 = .ok (.iload_n 1, 1) := by decide +kernel
theorem dX7_findStates_123 : decode cX7_findStates 123 = .ok (.imul, 1) := by decide +kernel
theorem dX7_findStates_124 : decode cX7_findStates 124 = .ok (.iload 5, 2) := by decide +kernel
theorem dX7_findStates_126 : decode cX7_findStates 126 = .ok (.iadd, 1) := by decide +kernel
theorem dX7_findStates_127 : decode cX7_findStates 127 = .ok (.baload, 1) := by decide +kernel
theorem dX7_findStates_128 : decode cX7_findStates 128 = .ok (.ifCond .eq 82, 3) := by decide +kernel
theorem dX7_findStates_131 : decode cX7_findStates 131 = .ok (.aload_n 0, 1) := by decide +kernel
theorem dX7_findStates_132 : decode cX7_findStates 132 = .ok (.iload_n 1, 1) := by decide +kernel
theorem dX7_findStates_133 : decode cX7_findStates 133 = .ok (.iload 4, 2) := by decide +kernel
theorem dX7_findStates_135 : decode cX7_findStates 135 = .ok (.iload 5, 2) := by decide +kernel
theorem dX7_findStates_137 : decode cX7_findStates 137 = .ok (.invokevirtual 105, 3) := by decide +kernel
theorem dX7_findStates_140 : decode cX7_findStates 140 = .ok (.aload_n 0, 1) := by decide +kernel
theorem dX7_findStates_141 : decode cX7_findStates 141 = .ok (.getfield 52, 3) := by decide +kernel
theorem dX7_findStates_144 : decode cX7_findStates 144 = .ok (.sipush 172, 3) := by decide +kernel
theorem dX7_findStates_147 : decode cX7_findStates 147 = .ok (.iload_n 1, 1) := by decide +kernel
theorem dX7_findStates_148 : decode cX7_findStates 148 = .ok (.imul, 1) := by decide +kernel
theorem dX7_findStates_149 : decode cX7_findStates 149 = .ok (.aload_n 0, 1) := by decide +kernel
theorem dX7_findStates_150 : decode cX7_findStates 150 = .ok (.getfield 64, 3) := by decide +kernel
theorem dX7_findStates_153 : decode cX7_findStates 153 = .ok (.iadd, 1) := by decide +kernel
theorem dX7_findStates_154 : decode cX7_findStates 154 = .ok (.baload, 1) := by decide +kernel
theorem dX7_findStates_155 : decode cX7_findStates 155 = .ok (.ifCond .eq 21, 3) := by decide +kernel
theorem dX7_findStates_158 : decode cX7_findStates 158 = .ok (.aload_n 0, 1) := by decide +kernel
theorem dX7_findStates_159 : decode cX7_findStates 159 = .ok (.getfield 52, 3) := by decide +kernel
theorem dX7_findStates_162 : decode cX7_findStates 162 = .ok (.sipush 172, 3) := by decide +kernel
theorem dX7_findStates_165 : decode cX7_findStates 165 = .ok (.iload_n 1, 1) := by decide +kernel
theorem dX7_findStates_166 : decode cX7_findStates 166 = .ok (.imul, 1) := by decide +kernel
theorem dX7_findStates_167 : decode cX7_findStates 167 = .ok (.aload_n 0, 1) := by decide +kernel
theorem dX7_findStates_168 : decode cX7_findStates 168 = .ok (.getfield 67, 3) := by decide +kernel
theorem dX7_findStates_171 : decode cX7_findStates 171 = .ok (.iadd, 1) := by decide +kernel
theorem dX7_findStates_172 : decode cX7_findStates 172 = .ok (.baload, 1) := by decide +kernel
theorem dX7_findStates_173 : decode cX7_findStates 173 = .ok (.ifCond .ne 5, 3) := by decide +kernel
theorem dX7_findStates_176 : decode cX7_findStates 176 = .ok (.iconst 1, 1) := by decide +kernel
theorem dX7_findStates_177 : decode cX7_findStates 177 = .ok (.istore_n 2, 1) := by decide +kernel
theorem dX7_findStates_178 : decode cX7_findStates 178 = .ok (.aload_n 0, 1) := by decide +kernel
theorem dX7_findStates_179 : decode cX7_findStates 179 = .ok (.getfield 52, 3) := by decide +kernel
theorem dX7_findStates_182 : decode cX7_findStates 182 = .ok (.sipush 172, 3) := by decide +kernel
theorem dX7_findStates_185 : decode cX7_findStates 185 = .ok (.iload_n 1, 1) := by decide +kernel
theorem dX7_findStates_186 : decode cX7_findStates 186 = .ok (.imul, 1) := by decide +kernel
theorem dX7_findStates_187 : decode cX7_findStates 187 = .ok (.aload_n 0, 1) := by decide +kernel
theorem dX7_findStates_188 : decode cX7_findStates 188 = .ok (.getfield 64, 3) := by decide +kernel
theorem dX7_findStates_191 : decode cX7_findStates 191 = .ok (.iadd, 1) := by decide +kernel
theorem dX7_findStates_192 : decode cX7_findStates 192 = .ok (.iconst 1, 1) := by decide +kernel
theorem dX7_findStates_193 : decode cX7_findStates 193 = .ok (.bastore, 1) := by decide +kernel
theorem dX7_findStates_194 : decode cX7_findStates 194 = .ok (.aload_n 0, 1) := by decide +kernel
theorem dX7_findStates_195 : decode cX7_findStates 195 = .ok (.getfield 52, 3) := by decide +kernel
theorem dX7_findStates_198 : decode cX7_findStates 198 = .ok (.sipush 172, 3) := by decide +kernel
theorem dX7_findStates_201 : decode cX7_findStates 201 = .ok (.iload_n 1, 1) := by decide +kernel
theorem dX7_findStates_202 : decode cX7_findStates 202 = .ok (.imul, 1) := by decide +kernel
theorem dX7_findStates_203 : decode cX7_findStates 203 = .ok (.aload_n 0, 1) := by decide +kernel
theorem dX7_findStates_204 : decode cX7_findStates 204 = .ok (.getfield 67, 3) := by decide +kernel
theorem dX7_findStates_207 : decode cX7_findStates 207 = .ok (.iadd, 1) := by decide +kernel
theorem dX7_findStates_208 : decode cX7_findStates 208 = .ok (.iconst 1, 1) := by decide +kernel
theorem dX7_findStates_209 : decode cX7_findStates 209 = .ok (.bastore, 1) := by decide +kernel
theorem dX7_findStates_210 : decode cX7_findStates 210 = .ok (.iinc 5 1, 3) := by decide +kernel
theorem dX7_findStates_213 : decode cX7_findStates 213 = .ok (.goto (-122), 3) := by decide +kernel
theorem dX7_findStates_216 : decode cX7_findStates 216 = .ok (.iinc 4 1, 3) := by decide +kernel
theorem dX7_findStates_219 : decode cX7_findStates 219 = .ok (.goto (-139), 3) := by decide +kernel
theorem dX7_findStates_222 : decode cX7_findStates 222 = .ok (.iinc 3 1, 3) := by decide +kernel
theorem dX7_findStates_225 : decode cX7_findStates 225 = .ok (.goto (-161), 3) := by decide +kernel
theorem dX7_findStates_228 : decode cX7_findStates 228 = .ok (.return_, 1) := by decide +kernel
theorem dX7_stateCount_0 : decode cX7_stateCount 0 = .ok (.iconst 0, 1) := by decide +kernel
theorem dX7_stateCount_1 : decode cX7_stateCount 1 = .ok (.istore_n 2, 1) := by decide +kernel
theorem dX7_stateCount_2 : decode cX7_stateCount 2 = .ok (.iconst 0, 1) := by decide +kernel
theorem dX7_stateCount_3 : decode cX7_stateCount 3 = .ok (.istore_n 3, 1) := by decide +kernel
theorem dX7_stateCount_4 : decode cX7_stateCount 4 = .ok (.iload_n 3, 1) := by decide +kernel
theorem dX7_stateCount_5 : decode cX7_stateCount 5 = .ok (.sipush 172, 3) := by decide +kernel
theorem dX7_stateCount_8 : decode cX7_stateCount 8 = .ok (.if_icmp .ge 32, 3) := by decide +kernel
theorem dX7_stateCount_11 : decode cX7_stateCount 11 = .ok (.iload_n 2, 1) := by decide +kernel
theorem dX7_stateCount_12 : decode cX7_stateCount 12 = .ok (.aload_n 0, 1) := by decide +kernel
theorem dX7_stateCount_13 : decode cX7_stateCount 13 = .ok (.getfield 52, 3) := by decide +kernel
theorem dX7_stateCount_16 : decode cX7_stateCount 16 = .ok (.sipush 172, 3) := by decide +kernel
theorem dX7_stateCount_19 : decode cX7_stateCount 19 = .ok (.iload_n 1, 1) := by decide +kernel
theorem dX7_stateCount_20 : decode cX7_stateCount 20 = .ok (.imul, 1) := by decide +kernel
theorem dX7_stateCount_21 : decode cX7_stateCount 21 = .ok (.iload_n 3, 1) := by decide +kernel
theorem dX7_stateCount_22 : decode cX7_stateCount 22 = .ok (.iadd, 1) := by decide +kernel
theorem dX7_stateCount_23 : decode cX7_stateCount 23 = .ok (.baload, 1) := by decide +kernel
theorem dX7_stateCount_24 : decode cX7_stateCount 24 = .ok (.ifCond .eq 7, 3) := by decide +kernel
theorem dX7_stateCount_27 : decode cX7_stateCount 27 = .ok (.iconst 1, 1) := by decide +kernel
theorem dX7_stateCount_28 : decode cX7_stateCount 28 = .ok (.goto 4, 3) := by decide +kernel
theorem dX7_stateCount_31 : decode cX7_stateCount 31 = .ok (.iconst 0, 1) := by decide +kernel
theorem dX7_stateCount_32 : decode cX7_stateCount 32 = .ok (.iadd, 1) := by decide +kernel
theorem dX7_stateCount_33 : decode cX7_stateCount 33 = .ok (.istore_n 2, 1) := by decide +kernel
theorem dX7_stateCount_34 : decode cX7_stateCount 34 = .ok (.iinc 3 1, 3) := by decide +kernel
theorem dX7_stateCount_37 : decode cX7_stateCount 37 = .ok (.goto (-33), 3) := by decide +kernel
theorem dX7_stateCount_40 : decode cX7_stateCount 40 = .ok (.iload_n 2, 1) := by decide +kernel
theorem dX7_stateCount_41 : decode cX7_stateCount 41 = .ok (.ireturn, 1) := by decide +kernel
theorem dX7_numberOf_0 : decode cX7_numberOf 0 = .ok (.iconst 0, 1) := by decide +kernel
theorem dX7_numberOf_1 : decode cX7_numberOf 1 = .ok (.istore_n 3, 1) := by decide +kernel
theorem dX7_numberOf_2 : decode cX7_numberOf 2 = .ok (.iconst 0, 1) := by decide +kernel
theorem dX7_numberOf_3 : decode cX7_numberOf 3 = .ok (.istore 4, 2) := by decide +kernel
theorem dX7_numberOf_5 : decode cX7_numberOf 5 = .ok (.iload 4, 2) := by decide +kernel
theorem dX7_numberOf_7 : decode cX7_numberOf 7 = .ok (.iload_n 2, 1) := by decide +kernel
theorem dX7_numberOf_8 : decode cX7_numberOf 8 = .ok (.if_icmp .ge 33, 3) := by decide +kernel
theorem dX7_numberOf_11 : decode cX7_numberOf 11 = .ok (.iload_n 3, 1) := by decide +kernel
theorem dX7_numberOf_12 : decode cX7_numberOf 12 = .ok (.aload_n 0, 1) := by decide +kernel
theorem dX7_numberOf_13 : decode cX7_numberOf 13 = .ok (.getfield 52, 3) := by decide +kernel
theorem dX7_numberOf_16 : decode cX7_numberOf 16 = .ok (.sipush 172, 3) := by decide +kernel
theorem dX7_numberOf_19 : decode cX7_numberOf 19 = .ok (.iload_n 1, 1) := by decide +kernel
theorem dX7_numberOf_20 : decode cX7_numberOf 20 = .ok (.imul, 1) := by decide +kernel
theorem dX7_numberOf_21 : decode cX7_numberOf 21 = .ok (.iload 4, 2) := by decide +kernel
theorem dX7_numberOf_23 : decode cX7_numberOf 23 = .ok (.iadd, 1) := by decide +kernel
theorem dX7_numberOf_24 : decode cX7_numberOf 24 = .ok (.baload, 1) := by decide +kernel
theorem dX7_numberOf_25 : decode cX7_numberOf 25 = .ok (.ifCond .eq 7, 3) := by decide +kernel
theorem dX7_numberOf_28 : decode cX7_numberOf 28 = .ok (.iconst 1, 1) := by decide +kernel
theorem dX7_numberOf_29 : decode cX7_numberOf 29 = .ok (.goto 4, 3) := by decide +kernel
theorem dX7_numberOf_32 : decode cX7_numberOf 32 = .ok (.iconst 0, 1) := by decide +kernel
theorem dX7_numberOf_33 : decode cX7_numberOf 33 = .ok (.iadd, 1) := by decide +kernel
theorem dX7_numberOf_34 : decode cX7_numberOf 34 = .ok (.istore_n 3, 1) := by decide +kernel
theorem dX7_numberOf_35 : decode cX7_numberOf 35 = .ok (.iinc 4 1, 3) := by decide +kernel
theorem dX7_numberOf_38 : decode cX7_numberOf 38 = .ok (.goto (-33), 3) := by decide +kernel
theorem dX7_numberOf_41 : decode cX7_numberOf 41 = .ok (.iload_n 3, 1) := by decide +kernel
theorem dX7_numberOf_42 : decode cX7_numberOf 42 = .ok (.ireturn, 1) := by decide +kernel
theorem dX7_findRule_0 : decode cX7_findRule 0 = .ok (.iconst 0, 1) := by decide +kernel
theorem dX7_findRule_1 : decode cX7_findRule 1 = .ok (.istore_n 3, 1) := by decide +kernel
theorem dX7_findRule_2 : decode cX7_findRule 2 = .ok (.iconst 0, 1) := by decide +kernel
theorem dX7_findRule_3 : decode cX7_findRule 3 = .ok (.istore 4, 2) := by decide +kernel
theorem dX7_findRule_5 : decode cX7_findRule 5 = .ok (.iload 4, 2) := by decide +kernel
theorem dX7_findRule_7 : decode cX7_findRule 7 = .ok (.sipush 172, 3) := by decide +kernel
theorem dX7_findRule_10 : decode cX7_findRule 10 = .ok (.if_icmp .ge 103, 3) := by decide +kernel
theorem dX7_findRule_13 : decode cX7_findRule 13 = .ok (.iconst 0, 1) := by decide +kernel
theorem dX7_findRule_14 : decode cX7_findRule 14 = .ok (.istore 5, 2) := by decide +kernel
theorem dX7_findRule_16 : decode cX7_findRule 16 = .ok (.iload 5, 2) := by decide +kernel
theorem dX7_findRule_18 : decode cX7_findRule 18 = .ok (.sipush 172, 3) := by decide +kernel
theorem dX7_findRule_21 : decode cX7_findRule 21 = .ok (.if_icmp .ge 86, 3) := by decide +kernel
theorem dX7_findRule_24 : decode cX7_findRule 24 = .ok (.aload_n 0, 1) := by decide +kernel
theorem dX7_findRule_25 : decode cX7_findRule 25 = .ok (.getfield 52, 3) := by decide +kernel
theorem dX7_findRule_28 : decode cX7_findRule 28 = .ok (.sipush 172, 3) := by decide +kernel
theorem dX7_findRule_31 : decode cX7_findRule 31 = .ok (.iload_n 1, 1) := by decide +kernel
theorem dX7_findRule_32 : decode cX7_findRule 32 = .ok (.imul, 1) := by decide +kernel
theorem dX7_findRule_33 : decode cX7_findRule 33 = .ok (.iload 4, 2) := by decide +kernel
theorem dX7_findRule_35 : decode cX7_findRule 35 = .ok (.iadd, 1) := by decide +kernel
theorem dX7_findRule_36 : decode cX7_findRule 36 = .ok (.baload, 1) := by decide +kernel
theorem dX7_findRule_37 : decode cX7_findRule 37 = .ok (.ifCond .eq 64, 3) := by decide +kernel
theorem dX7_findRule_40 : decode cX7_findRule 40 = .ok (.aload_n 0, 1) := by decide +kernel
theorem dX7_findRule_41 : decode cX7_findRule 41 = .ok (.getfield 52, 3) := by decide +kernel
theorem dX7_findRule_44 : decode cX7_findRule 44 = .ok (.sipush 172, 3) := by decide +kernel
theorem dX7_findRule_47 : decode cX7_findRule 47 = .ok (.iload_n 1, 1) := by decide +kernel
theorem dX7_findRule_48 : decode cX7_findRule 48 = .ok (.imul, 1) := by decide +kernel
theorem dX7_findRule_49 : decode cX7_findRule 49 = .ok (.iload 5, 2) := by decide +kernel
theorem dX7_findRule_51 : decode cX7_findRule 51 = .ok (.iadd, 1) := by decide +kernel
theorem dX7_findRule_52 : decode cX7_findRule 52 = .ok (.baload, 1) := by decide +kernel
theorem dX7_findRule_53 : decode cX7_findRule 53 = .ok (.ifCond .eq 48, 3) := by decide +kernel
theorem dX7_findRule_56 : decode cX7_findRule 56 = .ok (.aload_n 0, 1) := by decide +kernel
theorem dX7_findRule_57 : decode cX7_findRule 57 = .ok (.iload_n 1, 1) := by decide +kernel
theorem dX7_findRule_58 : decode cX7_findRule 58 = .ok (.iload 4, 2) := by decide +kernel
theorem dX7_findRule_60 : decode cX7_findRule 60 = .ok (.iload 5, 2) := by decide +kernel
theorem dX7_findRule_62 : decode cX7_findRule 62 = .ok (.invokevirtual 105, 3) := by decide +kernel
theorem dX7_findRule_65 : decode cX7_findRule 65 = .ok (.aload_n 0, 1) := by decide +kernel
theorem dX7_findRule_66 : decode cX7_findRule 66 = .ok (.getfield 64, 3) := by decide +kernel
theorem dX7_findRule_69 : decode cX7_findRule 69 = .ok (.iload 4, 2) := by decide +kernel
theorem dX7_findRule_71 : decode cX7_findRule 71 = .ok (.if_icmp .ne 12, 3) := by decide +kernel
theorem dX7_findRule_74 : decode cX7_findRule 74 = .ok (.aload_n 0, 1) := by decide +kernel
theorem dX7_findRule_75 : decode cX7_findRule 75 = .ok (.getfield 67, 3) := by decide +kernel
theorem dX7_findRule_78 : decode cX7_findRule 78 = .ok (.iload 5, 2) := by decide +kernel
theorem dX7_findRule_80 : decode cX7_findRule 80 = .ok (.if_icmp .eq 21, 3) := by decide +kernel
theorem dX7_findRule_83 : decode cX7_findRule 83 = .ok (.iload_n 3, 1) := by decide +kernel
theorem dX7_findRule_84 : decode cX7_findRule 84 = .ok (.iload_n 2, 1) := by decide +kernel
theorem dX7_findRule_85 : decode cX7_findRule 85 = .ok (.if_icmp .ne 13, 3) := by decide +kernel
theorem dX7_findRule_88 : decode cX7_findRule 88 = .ok (.sipush 172, 3) := by decide +kernel
theorem dX7_findRule_91 : decode cX7_findRule 91 = .ok (.iload 4, 2) := by decide +kernel
theorem dX7_findRule_93 : decode cX7_findRule 93 = .ok (.imul, 1) := by decide +kernel
theorem dX7_findRule_94 : decode cX7_findRule 94 = .ok (.iload 5, 2) := by decide +kernel
theorem dX7_findRule_96 : decode cX7_findRule 96 = .ok (.iadd, 1) := by decide +kernel
theorem dX7_findRule_97 : decode cX7_findRule 97 = .ok (.ireturn, 1) := by decide +kernel
theorem dX7_findRule_98 : decode cX7_findRule 98 = .ok (.iinc 3 1, 3) := by decide +kernel
theorem dX7_findRule_101 : decode cX7_findRule 101 = .ok (.iinc 5 1, 3) := by decide +kernel
theorem dX7_findRule_104 : decode cX7_findRule 104 = .ok (.goto (-88), 3) := by decide +kernel
theorem dX7_findRule_107 : decode cX7_findRule 107 = .ok (.iinc 4 1, 3) := by decide +kernel
theorem dX7_findRule_110 : decode cX7_findRule 110 = .ok (.goto (-105), 3) := by decide +kernel
theorem dX7_findRule_113 : decode cX7_findRule 113 = .ok (.iload_n 3, 1) := by decide +kernel
theorem dX7_findRule_114 : decode cX7_findRule 114 = .ok (.sipush 30000, 3) := by decide +kernel
theorem dX7_findRule_117 : decode cX7_findRule 117 = .ok (.isub, 1) := by decide +kernel
theorem dX7_findRule_118 : decode cX7_findRule 118 = .ok (.ireturn, 1) := by decide +kernel
theorem dX7_formula_0 : decode cX7_formula 0 = .ok (.iconst 0, 1) := by decide +kernel
theorem dX7_formula_1 : decode cX7_formula 1 = .ok (.istore_n 1, 1) := by decide +kernel
theorem dX7_formula_2 : decode cX7_formula 2 = .ok (.iload_n 1, 1) := by decide +kernel
theorem dX7_formula_3 : decode cX7_formula 3 = .ok (.aload_n 0, 1) := by decide +kernel
theorem dX7_formula_4 : decode cX7_formula 4 = .ok (.getfield 17, 3) := by decide +kernel
theorem dX7_formula_7 : decode cX7_formula 7 = .ok (.if_icmp .ge 141, 3) := by decide +kernel
theorem dX7_formula_10 : decode cX7_formula 10 = .ok (.aload_n 0, 1) := by decide +kernel
theorem dX7_formula_11 : decode cX7_formula 11 = .ok (.getfield 20, 3) := by decide +kernel
theorem dX7_formula_14 : decode cX7_formula 14 = .ok (.iload_n 1, 1) := by decide +kernel
theorem dX7_formula_15 : decode cX7_formula 15 = .ok (.iaload, 1) := by decide +kernel
theorem dX7_formula_16 : decode cX7_formula 16 = .ok (.ifCond .ne 42, 3) := by decide +kernel
theorem dX7_formula_19 : decode cX7_formula 19 = .ok (.aload_n 0, 1) := by decide +kernel
theorem dX7_formula_20 : decode cX7_formula 20 = .ok (.getfield 29, 3) := by decide +kernel
