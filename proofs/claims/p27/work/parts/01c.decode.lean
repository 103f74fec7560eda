theorem dL_cell_0 : decode cL_cell 0 = .ok (.iload_n 1, 1) := by decide +kernel
theorem dL_cell_1 : decode cL_cell 1 = .ok (.aload_n 0, 1) := by decide +kernel
theorem dL_cell_2 : decode cL_cell 2 = .ok (.arraylength, 1) := by decide +kernel
theorem dL_cell_3 : decode cL_cell 3 = .ok (.if_icmp .ge 9, 3) := by decide +kernel
theorem dL_cell_6 : decode cL_cell 6 = .ok (.aload_n 0, 1) := by decide +kernel
theorem dL_cell_7 : decode cL_cell 7 = .ok (.iload_n 1, 1) := by decide +kernel
theorem dL_cell_8 : decode cL_cell 8 = .ok (.iaload, 1) := by decide +kernel
theorem dL_cell_9 : decode cL_cell 9 = .ok (.goto 9, 3) := by decide +kernel
theorem dL_cell_12 : decode cL_cell 12 = .ok (.ldc 7, 2) := by decide +kernel
theorem dL_cell_14 : decode cL_cell 14 = .ok (.iload_n 1, 1) := by decide +kernel
theorem dL_cell_15 : decode cL_cell 15 = .ok (.iconst 3, 1) := by decide +kernel
theorem dL_cell_16 : decode cL_cell 16 = .ok (.iadd, 1) := by decide +kernel
theorem dL_cell_17 : decode cL_cell 17 = .ok (.imul, 1) := by decide +kernel
theorem dL_cell_18 : decode cL_cell 18 = .ok (.ireturn, 1) := by decide +kernel
theorem dL_low_0 : decode cL_low 0 = .ok (.iload_n 0, 1) := by decide +kernel
theorem dL_low_1 : decode cL_low 1 = .ok (.ldc 8, 2) := by decide +kernel
theorem dL_low_3 : decode cL_low 3 = .ok (.iand, 1) := by decide +kernel
theorem dL_low_4 : decode cL_low 4 = .ok (.iload_n 1, 1) := by decide +kernel
theorem dL_low_5 : decode cL_low 5 = .ok (.irem, 1) := by decide +kernel
theorem dL_low_6 : decode cL_low 6 = .ok (.ireturn, 1) := by decide +kernel
theorem dL_of_0 : decode cL_of 0 = .ok (.aload_n 0, 1) := by decide +kernel
theorem dL_of_1 : decode cL_of 1 = .ok (.iload_n 1, 1) := by decide +kernel
theorem dL_of_2 : decode cL_of 2 = .ok (.iaload, 1) := by decide +kernel
theorem dL_of_3 : decode cL_of 3 = .ok (.iconst 5, 1) := by decide +kernel
theorem dL_of_4 : decode cL_of 4 = .ok (.iload_n 2, 1) := by decide +kernel
theorem dL_of_5 : decode cL_of 5 = .ok (.imul, 1) := by decide +kernel
theorem dL_of_6 : decode cL_of 6 = .ok (.ishr, 1) := by decide +kernel
theorem dL_of_7 : decode cL_of 7 = .ok (.bipush 31, 2) := by decide +kernel
theorem dL_of_9 : decode cL_of 9 = .ok (.iand, 1) := by decide +kernel
theorem dL_of_10 : decode cL_of 10 = .ok (.ireturn, 1) := by decide +kernel
theorem dL_weight_0 : decode cL_weight 0 = .ok (.aload_n 0, 1) := by decide +kernel
theorem dL_weight_1 : decode cL_weight 1 = .ok (.iload_n 1, 1) := by decide +kernel
theorem dL_weight_2 : decode cL_weight 2 = .ok (.iaload, 1) := by decide +kernel
theorem dL_weight_3 : decode cL_weight 3 = .ok (.bipush 20, 2) := by decide +kernel
theorem dL_weight_5 : decode cL_weight 5 = .ok (.ishr, 1) := by decide +kernel
theorem dL_weight_6 : decode cL_weight 6 = .ok (.ireturn, 1) := by decide +kernel
theorem dL_known_0 : decode cL_known 0 = .ok (.aload_n 0, 1) := by decide +kernel
theorem dL_known_1 : decode cL_known 1 = .ok (.bipush 16, 2) := by decide +kernel
theorem dL_known_3 : decode cL_known 3 = .ok (.iload_n 1, 1) := by decide +kernel
theorem dL_known_4 : decode cL_known 4 = .ok (.imul, 1) := by decide +kernel
theorem dL_known_5 : decode cL_known 5 = .ok (.iload_n 2, 1) := by decide +kernel
theorem dL_known_6 : decode cL_known 6 = .ok (.iconst 2, 1) := by decide +kernel
theorem dL_known_7 : decode cL_known 7 = .ok (.idiv, 1) := by decide +kernel
theorem dL_known_8 : decode cL_known 8 = .ok (.iadd, 1) := by decide +kernel
theorem dL_known_9 : decode cL_known 9 = .ok (.laload, 1) := by decide +kernel
theorem dL_known_10 : decode cL_known 10 = .ok (.bipush 32, 2) := by decide +kernel
theorem dL_known_12 : decode cL_known 12 = .ok (.iload_n 2, 1) := by decide +kernel
theorem dL_known_13 : decode cL_known 13 = .ok (.iconst 2, 1) := by decide +kernel
theorem dL_known_14 : decode cL_known 14 = .ok (.irem, 1) := by decide +kernel
theorem dL_known_15 : decode cL_known 15 = .ok (.imul, 1) := by decide +kernel
theorem dL_known_16 : decode cL_known 16 = .ok (.lshr, 1) := by decide +kernel
theorem dL_known_17 : decode cL_known 17 = .ok (.ldc2_w 9, 3) := by decide +kernel
theorem dL_known_20 : decode cL_known 20 = .ok (.land, 1) := by decide +kernel
theorem dL_known_21 : decode cL_known 21 = .ok (.l2i, 1) := by decide +kernel
theorem dL_known_22 : decode cL_known 22 = .ok (.ireturn, 1) := by decide +kernel
theorem dL_many_0 : decode cL_many 0 = .ok (.aload_n 0, 1) := by decide +kernel
theorem dL_many_1 : decode cL_many 1 = .ok (.iconst 2, 1) := by decide +kernel
theorem dL_many_2 : decode cL_many 2 = .ok (.iload_n 1, 1) := by decide +kernel
theorem dL_many_3 : decode cL_many 3 = .ok (.imul, 1) := by decide +kernel
theorem dL_many_4 : decode cL_many 4 = .ok (.iaload, 1) := by decide +kernel
theorem dL_many_5 : decode cL_many 5 = .ok (.bipush 10, 2) := by decide +kernel
theorem dL_many_7 : decode cL_many 7 = .ok (.irem, 1) := by decide +kernel
theorem dL_many_8 : decode cL_many 8 = .ok (.ireturn, 1) := by decide +kernel
theorem dL_condition_0 : decode cL_condition 0 = .ok (.aload_n 0, 1) := by decide +kernel
theorem dL_condition_1 : decode cL_condition 1 = .ok (.iconst 2, 1) := by decide +kernel
theorem dL_condition_2 : decode cL_condition 2 = .ok (.iload_n 1, 1) := by decide +kernel
theorem dL_condition_3 : decode cL_condition 3 = .ok (.imul, 1) := by decide +kernel
theorem dL_condition_4 : decode cL_condition 4 = .ok (.iaload, 1) := by decide +kernel
theorem dL_condition_5 : decode cL_condition 5 = .ok (.bipush 10, 2) := by decide +kernel
theorem dL_condition_7 : decode cL_condition 7 = .ok (.idiv, 1) := by decide +kernel
theorem dL_condition_8 : decode cL_condition 8 = .ok (.istore_n 3, 1) := by decide +kernel
theorem dL_condition_9 : decode cL_condition 9 = .ok (.iconst 0, 1) := by decide +kernel
theorem dL_condition_10 : decode cL_condition 10 = .ok (.istore 4, 2) := by decide +kernel
theorem dL_condition_12 : decode cL_condition 12 = .ok (.iload 4, 2) := by decide +kernel
theorem dL_condition_14 : decode cL_condition 14 = .ok (.iload_n 2, 1) := by decide +kernel
theorem dL_condition_15 : decode cL_condition 15 = .ok (.if_icmp .ge 14, 3) := by decide +kernel
theorem dL_condition_18 : decode cL_condition 18 = .ok (.iload_n 3, 1) := by decide +kernel
theorem dL_condition_19 : decode cL_condition 19 = .ok (.bipush 12, 2) := by decide +kernel
theorem dL_condition_21 : decode cL_condition 21 = .ok (.idiv, 1) := by decide +kernel
theorem dL_condition_22 : decode cL_condition 22 = .ok (.istore_n 3, 1) := by decide +kernel
theorem dL_condition_23 : decode cL_condition 23 = .ok (.iinc 4 1, 3) := by decide +kernel
theorem dL_condition_26 : decode cL_condition 26 = .ok (.goto (-14), 3) := by decide +kernel
theorem dL_condition_29 : decode cL_condition 29 = .ok (.iload_n 3, 1) := by decide +kernel
theorem dL_condition_30 : decode cL_condition 30 = .ok (.bipush 12, 2) := by decide +kernel
theorem dL_condition_32 : decode cL_condition 32 = .ok (.irem, 1) := by decide +kernel
theorem dL_condition_33 : decode cL_condition 33 = .ok (.ireturn, 1) := by decide +kernel
theorem dL_holds_0 : decode cL_holds 0 = .ok (.iload_n 0, 1) := by decide +kernel
theorem dL_holds_1 : decode cL_holds 1 = .ok (.iconst 3, 1) := by decide +kernel
theorem dL_holds_2 : decode cL_holds 2 = .ok (.irem, 1) := by decide +kernel
theorem dL_holds_3 : decode cL_holds 3 = .ok (.ifCond .ne 16, 3) := by decide +kernel
theorem dL_holds_6 : decode cL_holds 6 = .ok (.iload_n 1, 1) := by decide +kernel
theorem dL_holds_7 : decode cL_holds 7 = .ok (.iload_n 2, 1) := by decide +kernel
theorem dL_holds_8 : decode cL_holds 8 = .ok (.if_icmp .ne 7, 3) := by decide +kernel
theorem dL_holds_11 : decode cL_holds 11 = .ok (.iconst 1, 1) := by decide +kernel
theorem dL_holds_12 : decode cL_holds 12 = .ok (.goto 37, 3) := by decide +kernel
theorem dL_holds_15 : decode cL_holds 15 = .ok (.iconst 0, 1) := by decide +kernel
theorem dL_holds_16 : decode cL_holds 16 = .ok (.goto 33, 3) := by decide +kernel
theorem dL_holds_19 : decode cL_holds 19 = .ok (.iload_n 0, 1) := by decide +kernel
theorem dL_holds_20 : decode cL_holds 20 = .ok (.iconst 3, 1) := by decide +kernel
theorem dL_holds_21 : decode cL_holds 21 = .ok (.irem, 1) := by decide +kernel
theorem dL_holds_22 : decode cL_holds 22 = .ok (.iconst 1, 1) := by decide +kernel
theorem dL_holds_23 : decode cL_holds 23 = .ok (.if_icmp .ne 16, 3) := by decide +kernel
theorem dL_holds_26 : decode cL_holds 26 = .ok (.iload_n 1, 1) := by decide +kernel
theorem dL_holds_27 : decode cL_holds 27 = .ok (.iload_n 2, 1) := by decide +kernel
theorem dL_holds_28 : decode cL_holds 28 = .ok (.if_icmp .ge 7, 3) := by decide +kernel
theorem dL_holds_31 : decode cL_holds 31 = .ok (.iconst 1, 1) := by decide +kernel
theorem dL_holds_32 : decode cL_holds 32 = .ok (.goto 17, 3) := by decide +kernel
theorem dL_holds_35 : decode cL_holds 35 = .ok (.iconst 0, 1) := by decide +kernel
theorem dL_holds_36 : decode cL_holds 36 = .ok (.goto 13, 3) := by decide +kernel
theorem dL_holds_39 : decode cL_holds 39 = .ok (.iload_n 1, 1) := by decide +kernel
theorem dL_holds_40 : decode cL_holds 40 = .ok (.iload_n 2, 1) := by decide +kernel
theorem dL_holds_41 : decode cL_holds 41 = .ok (.if_icmp .le 7, 3) := by decide +kernel
theorem dL_holds_44 : decode cL_holds 44 = .ok (.iconst 1, 1) := by decide +kernel
theorem dL_holds_45 : decode cL_holds 45 = .ok (.goto 4, 3) := by decide +kernel
theorem dL_holds_48 : decode cL_holds 48 = .ok (.iconst 0, 1) := by decide +kernel
theorem dL_holds_49 : decode cL_holds 49 = .ok (.ireturn, 1) := by decide +kernel
theorem dL_size_0 : decode cL_size 0 = .ok (.iconst 0, 1) := by decide +kernel
theorem dL_size_1 : decode cL_size 1 = .ok (.istore_n 2, 1) := by decide +kernel
theorem dL_size_2 : decode cL_size 2 = .ok (.iconst 0, 1) := by decide +kernel
theorem dL_size_3 : decode cL_size 3 = .ok (.istore_n 3, 1) := by decide +kernel
theorem dL_size_4 : decode cL_size 4 = .ok (.iload_n 3, 1) := by decide +kernel
theorem dL_size_5 : decode cL_size 5 = .ok (.aload_n 0, 1) := by decide +kernel
theorem dL_size_6 : decode cL_size 6 = .ok (.iconst 0, 1) := by decide +kernel
theorem dL_size_7 : decode cL_size 7 = .ok (.iaload, 1) := by decide +kernel
theorem dL_size_8 : decode cL_size 8 = .ok (.if_icmp .ge 17, 3) := by decide +kernel
theorem dL_size_11 : decode cL_size 11 = .ok (.iload_n 2, 1) := by decide +kernel
theorem dL_size_12 : decode cL_size 12 = .ok (.aload_n 1, 1) := by decide +kernel
theorem dL_size_13 : decode cL_size 13 = .ok (.iload_n 3, 1) := by decide +kernel
theorem dL_size_14 : decode cL_size 14 = .ok (.invokestatic 11, 3) := by decide +kernel
theorem dL_size_17 : decode cL_size 17 = .ok (.iadd, 1) := by decide +kernel
theorem dL_size_18 : decode cL_size 18 = .ok (.istore_n 2, 1) := by decide +kernel
theorem dL_size_19 : decode cL_size 19 = .ok (.iinc 3 1, 3) := by decide +kernel
theorem dL_size_22 : decode cL_size 22 = .ok (.goto (-18), 3) := by decide +kernel
theorem dL_size_25 : decode cL_size 25 = .ok (.iload_n 2, 1) := by decide +kernel
theorem dL_size_26 : decode cL_size 26 = .ok (.ireturn, 1) := by decide +kernel
theorem dL_weights_0 : decode cL_weights 0 = .ok (.iconst 0, 1) := by decide +kernel
theorem dL_weights_1 : decode cL_weights 1 = .ok (.istore 6, 2) := by decide +kernel
theorem dL_weights_3 : decode cL_weights 3 = .ok (.iconst 0, 1) := by decide +kernel
theorem dL_weights_4 : decode cL_weights 4 = .ok (.istore 7, 2) := by decide +kernel
theorem dL_weights_6 : decode cL_weights 6 = .ok (.iload 7, 2) := by decide +kernel
theorem dL_weights_8 : decode cL_weights 8 = .ok (.bipush 32, 2) := by decide +kernel
theorem dL_weights_10 : decode cL_weights 10 = .ok (.if_icmp .ge 43, 3) := by decide +kernel
theorem dL_weights_13 : decode cL_weights 13 = .ok (.iload 5, 2) := by decide +kernel
theorem dL_weights_15 : decode cL_weights 15 = .ok (.ifCond .ne 38, 3) := by decide +kernel
theorem dL_weights_18 : decode cL_weights 18 = .ok (.iload 6, 2) := by decide +kernel
theorem dL_weights_20 : decode cL_weights 20 = .ok (.iload_n 3, 1) := by decide +kernel
theorem dL_weights_21 : decode cL_weights 21 = .ok (.iload 7, 2) := by decide +kernel
theorem dL_weights_23 : decode cL_weights 23 = .ok (.iload 4, 2) := by decide +kernel
theorem dL_weights_25 : decode cL_weights 25 = .ok (.invokestatic 17, 3) := by decide +kernel
theorem dL_weights_28 : decode cL_weights 28 = .ok (.ifCond .eq 15, 3) := by decide +kernel
theorem dL_weights_31 : decode cL_weights 31 = .ok (.aload_n 2, 1) := by decide +kernel
theorem dL_weights_32 : decode cL_weights 32 = .ok (.iload_n 3, 1) := by decide +kernel
theorem dL_weights_33 : decode cL_weights 33 = .ok (.iconst 3, 1) := by decide +kernel
theorem dL_weights_34 : decode cL_weights 34 = .ok (.idiv, 1) := by decide +kernel
theorem dL_weights_35 : decode cL_weights 35 = .ok (.iload 7, 2) := by decide +kernel
theorem dL_weights_37 : decode cL_weights 37 = .ok (.invokestatic 21, 3) := by decide +kernel
theorem dL_weights_40 : decode cL_weights 40 = .ok (.goto 4, 3) := by decide +kernel
theorem dL_weights_43 : decode cL_weights 43 = .ok (.iconst 0, 1) := by decide +kernel
theorem dL_weights_44 : decode cL_weights 44 = .ok (.iadd, 1) := by decide +kernel
theorem dL_weights_45 : decode cL_weights 45 = .ok (.istore 6, 2) := by decide +kernel
theorem dL_weights_47 : decode cL_weights 47 = .ok (.iinc 7 1, 3) := by decide +kernel
theorem dL_weights_50 : decode cL_weights 50 = .ok (.goto (-44), 3) := by decide +kernel
theorem dL_weights_53 : decode cL_weights 53 = .ok (.iconst 0, 1) := by decide +kernel
theorem dL_weights_54 : decode cL_weights 54 = .ok (.istore 7, 2) := by decide +kernel
theorem dL_weights_56 : decode cL_weights 56 = .ok (.iload 7, 2) := by decide +kernel
theorem dL_weights_58 : decode cL_weights 58 = .ok (.aload_n 0, 1) := by decide +kernel
theorem dL_weights_59 : decode cL_weights 59 = .ok (.iconst 0, 1) := by decide +kernel
theorem dL_weights_60 : decode cL_weights 60 = .ok (.iaload, 1) := by decide +kernel
theorem dL_weights_61 : decode cL_weights 61 = .ok (.if_icmp .ge 47, 3) := by decide +kernel
theorem dL_weights_64 : decode cL_weights 64 = .ok (.iload 5, 2) := by decide +kernel
theorem dL_weights_66 : decode cL_weights 66 = .ok (.ifCond .eq 42, 3) := by decide +kernel
theorem dL_weights_69 : decode cL_weights 69 = .ok (.iload 6, 2) := by decide +kernel
theorem dL_weights_71 : decode cL_weights 71 = .ok (.iload_n 3, 1) := by decide +kernel
theorem dL_weights_72 : decode cL_weights 72 = .ok (.aload_n 1, 1) := by decide +kernel
theorem dL_weights_73 : decode cL_weights 73 = .ok (.iload 7, 2) := by decide +kernel
theorem dL_weights_75 : decode cL_weights 75 = .ok (.iload_n 3, 1) := by decide +kernel
theorem dL_weights_76 : decode cL_weights 76 = .ok (.iconst 3, 1) := by decide +kernel
theorem dL_weights_77 : decode cL_weights 77 = .ok (.idiv, 1) := by decide +kernel
theorem dL_weights_78 : decode cL_weights 78 = .ok (.invokestatic 25, 3) := by decide +kernel
theorem dL_weights_81 : decode cL_weights 81 = .ok (.iload 4, 2) := by decide +kernel
theorem dL_weights_83 : decode cL_weights 83 = .ok (.invokestatic 17, 3) := by decide +kernel
theorem dL_weights_86 : decode cL_weights 86 = .ok (.ifCond .eq 12, 3) := by decide +kernel
theorem dL_weights_89 : decode cL_weights 89 = .ok (.aload_n 1, 1) := by decide +kernel
theorem dL_weights_90 : decode cL_weights 90 = .ok (.iload 7, 2) := by decide +kernel
theorem dL_weights_92 : decode cL_weights 92 = .ok (.invokestatic 11, 3) := by decide +kernel
theorem dL_weights_95 : decode cL_weights 95 = .ok (.goto 4, 3) := by decide +kernel
theorem dL_weights_98 : decode cL_weights 98 = .ok (.iconst 0, 1) := by decide +kernel
theorem dL_weights_99 : decode cL_weights 99 = .ok (.iadd, 1) := by decide +kernel
theorem dL_weights_100 : decode cL_weights 100 = .ok (.istore 6, 2) := by decide +kernel
theorem dL_weights_102 : decode cL_weights 102 = .ok (.iinc 7 1, 3) := by decide +kernel
theorem dL_weights_105 : decode cL_weights 105 = .ok (.goto (-49), 3) := by decide +kernel
theorem dL_weights_108 : decode cL_weights 108 = .ok (.iload 6, 2) := by decide +kernel
theorem dL_weights_110 : decode cL_weights 110 = .ok (.ireturn, 1) := by decide +kernel
theorem dL_cost_0 : decode cL_cost 0 = .ok (.iload 6, 2) := by decide +kernel
theorem dL_cost_2 : decode cL_cost 2 = .ok (.bipush 9, 2) := by decide +kernel
theorem dL_cost_4 : decode cL_cost 4 = .ok (.if_icmp .ne 22, 3) := by decide +kernel
theorem dL_cost_7 : decode cL_cost 7 = .ok (.iload 7, 2) := by decide +kernel
theorem dL_cost_9 : decode cL_cost 9 = .ok (.ifCond .eq 11, 3) := by decide +kernel
theorem dL_cost_12 : decode cL_cost 12 = .ok (.aload_n 0, 1) := by decide +kernel
theorem dL_cost_13 : decode cL_cost 13 = .ok (.aload_n 1, 1) := by decide +kernel
theorem dL_cost_14 : decode cL_cost 14 = .ok (.invokestatic 29, 3) := by decide +kernel
theorem dL_cost_17 : decode cL_cost 17 = .ok (.goto 33, 3) := by decide +kernel
theorem dL_cost_20 : decode cL_cost 20 = .ok (.aload_n 0, 1) := by decide +kernel
theorem dL_cost_21 : decode cL_cost 21 = .ok (.iconst 2, 1) := by decide +kernel
theorem dL_cost_22 : decode cL_cost 22 = .ok (.iaload, 1) := by decide +kernel
theorem dL_cost_23 : decode cL_cost 23 = .ok (.goto 27, 3) := by decide +kernel
theorem dL_cost_26 : decode cL_cost 26 = .ok (.bipush 10, 2) := by decide +kernel
theorem dL_cost_28 : decode cL_cost 28 = .ok (.aload_n 0, 1) := by decide +kernel
theorem dL_cost_29 : decode cL_cost 29 = .ok (.aload_n 1, 1) := by decide +kernel
theorem dL_cost_30 : decode cL_cost 30 = .ok (.aload_n 2, 1) := by decide +kernel
theorem dL_cost_31 : decode cL_cost 31 = .ok (.aload_n 3, 1) := by decide +kernel
theorem dL_cost_32 : decode cL_cost 32 = .ok (.iload 4, 2) := by decide +kernel
theorem dL_cost_34 : decode cL_cost 34 = .ok (.iload 6, 2) := by decide +kernel
theorem dL_cost_36 : decode cL_cost 36 = .ok (.invokestatic 33, 3) := by decide +kernel
theorem dL_cost_39 : decode cL_cost 39 = .ok (.aload 5, 2) := by decide +kernel
theorem dL_cost_41 : decode cL_cost 41 = .ok (.iload 6, 2) := by decide +kernel
theorem dL_cost_43 : decode cL_cost 43 = .ok (.iaload, 1) := by decide +kernel
theorem dL_cost_44 : decode cL_cost 44 = .ok (.iload 7, 2) := by decide +kernel
theorem dL_cost_46 : decode cL_cost 46 = .ok (.invokestatic 36, 3) := by decide +kernel
theorem dL_cost_49 : decode cL_cost 49 = .ok (.iadd, 1) := by decide +kernel
theorem dL_cost_50 : decode cL_cost 50 = .ok (.ireturn, 1) := by decide +kernel
theorem dL_way_0 : decode cL_way 0 = .ok (.bipush 9, 2) := by decide +kernel
theorem dL_way_2 : decode cL_way 2 = .ok (.istore 7, 2) := by decide +kernel
theorem dL_way_4 : decode cL_way 4 = .ok (.iconst 3, 1) := by decide +kernel
theorem dL_way_5 : decode cL_way 5 = .ok (.istore 8, 2) := by decide +kernel
theorem dL_way_7 : decode cL_way 7 = .ok (.iload 8, 2) := by decide +kernel
theorem dL_way_9 : decode cL_way 9 = .ok (.ifCond .lt 82, 3) := by decide +kernel
theorem dL_way_12 : decode cL_way 12 = .ok (.iload 8, 2) := by decide +kernel
theorem dL_way_14 : decode cL_way 14 = .ok (.aload_n 3, 1) := by decide +kernel
theorem dL_way_15 : decode cL_way 15 = .ok (.iload 4, 2) := by decide +kernel
theorem dL_way_17 : decode cL_way 17 = .ok (.invokestatic 40, 3) := by decide +kernel
theorem dL_way_20 : decode cL_way 20 = .ok (.if_icmp .ge 65, 3) := by decide +kernel
theorem dL_way_23 : decode cL_way 23 = .ok (.aload_n 0, 1) := by decide +kernel
theorem dL_way_24 : decode cL_way 24 = .ok (.iconst 1, 1) := by decide +kernel
theorem dL_way_25 : decode cL_way 25 = .ok (.iaload, 1) := by decide +kernel
theorem dL_way_26 : decode cL_way 26 = .ok (.aload_n 3, 1) := by decide +kernel
theorem dL_way_27 : decode cL_way 27 = .ok (.iload 4, 2) := by decide +kernel
theorem dL_way_29 : decode cL_way 29 = .ok (.iload 8, 2) := by decide +kernel
theorem dL_way_31 : decode cL_way 31 = .ok (.invokestatic 33, 3) := by decide +kernel
theorem dL_way_34 : decode cL_way 34 = .ok (.iconst 3, 1) := by decide +kernel
theorem dL_way_35 : decode cL_way 35 = .ok (.idiv, 1) := by decide +kernel
theorem dL_way_36 : decode cL_way 36 = .ok (.ishr, 1) := by decide +kernel
theorem dL_way_37 : decode cL_way 37 = .ok (.iconst 1, 1) := by decide +kernel
theorem dL_way_38 : decode cL_way 38 = .ok (.iand, 1) := by decide +kernel
theorem dL_way_39 : decode cL_way 39 = .ok (.iconst 1, 1) := by decide +kernel
theorem dL_way_40 : decode cL_way 40 = .ok (.if_icmp .ne 45, 3) := by decide +kernel
theorem dL_way_43 : decode cL_way 43 = .ok (.aload_n 0, 1) := by decide +kernel
theorem dL_way_44 : decode cL_way 44 = .ok (.aload_n 1, 1) := by decide +kernel
theorem dL_way_45 : decode cL_way 45 = .ok (.aload_n 2, 1) := by decide +kernel
theorem dL_way_46 : decode cL_way 46 = .ok (.aload_n 3, 1) := by decide +kernel
theorem dL_way_47 : decode cL_way 47 = .ok (.iload 4, 2) := by decide +kernel
theorem dL_way_49 : decode cL_way 49 = .ok (.aload 5, 2) := by decide +kernel
theorem dL_way_51 : decode cL_way 51 = .ok (.iload 8, 2) := by decide +kernel
theorem dL_way_53 : decode cL_way 53 = .ok (.iload 6, 2) := by decide +kernel
theorem dL_way_55 : decode cL_way 55 = .ok (.invokestatic 43, 3) := by decide +kernel
theorem dL_way_58 : decode cL_way 58 = .ok (.aload_n 0, 1) := by decide +kernel
theorem dL_way_59 : decode cL_way 59 = .ok (.aload_n 1, 1) := by decide +kernel
theorem dL_way_60 : decode cL_way 60 = .ok (.aload_n 2, 1) := by decide +kernel
theorem dL_way_61 : decode cL_way 61 = .ok (.aload_n 3, 1) := by decide +kernel
theorem dL_way_62 : decode cL_way 62 = .ok (.iload 4, 2) := by decide +kernel
theorem dL_way_64 : decode cL_way 64 = .ok (.aload 5, 2) := by decide +kernel
theorem dL_way_66 : decode cL_way 66 = .ok (.iload 7, 2) := by decide +kernel
theorem dL_way_68 : decode cL_way 68 = .ok (.iload 6, 2) := by decide +kernel
theorem dL_way_70 : decode cL_way 70 = .ok (.invokestatic 43, 3) := by decide +kernel
theorem dL_way_73 : decode cL_way 73 = .ok (.if_icmp .le 8, 3) := by decide +kernel
theorem dL_way_76 : decode cL_way 76 = .ok (.iload 7, 2) := by decide +kernel
theorem dL_way_78 : decode cL_way 78 = .ok (.goto 5, 3) := by decide +kernel
theorem dL_way_81 : decode cL_way 81 = .ok (.iload 8, 2) := by decide +kernel
theorem dL_way_83 : decode cL_way 83 = .ok (.istore 7, 2) := by decide +kernel
theorem dL_way_85 : decode cL_way 85 = .ok (.iinc 8 (-1), 3) := by decide +kernel
theorem dL_way_88 : decode cL_way 88 = .ok (.goto (-81), 3) := by decide +kernel
theorem dL_way_91 : decode cL_way 91 = .ok (.iload 7, 2) := by decide +kernel
theorem dL_way_93 : decode cL_way 93 = .ok (.ireturn, 1) := by decide +kernel
theorem dL_sort_0 : decode cL_sort 0 = .ok (.iconst 0, 1) := by decide +kernel
theorem dL_sort_1 : decode cL_sort 1 = .ok (.istore 6, 2) := by decide +kernel
theorem dL_sort_3 : decode cL_sort 3 = .ok (.iconst 1, 1) := by decide +kernel
theorem dL_sort_4 : decode cL_sort 4 = .ok (.istore 7, 2) := by decide +kernel
theorem dL_sort_6 : decode cL_sort 6 = .ok (.iconst 0, 1) := by decide +kernel
theorem dL_sort_7 : decode cL_sort 7 = .ok (.istore 8, 2) := by decide +kernel
theorem dL_sort_9 : decode cL_sort 9 = .ok (.iload 8, 2) := by decide +kernel
theorem dL_sort_11 : decode cL_sort 11 = .ok (.aload_n 3, 1) := by decide +kernel
theorem dL_sort_12 : decode cL_sort 12 = .ok (.iload 4, 2) := by decide +kernel
theorem dL_sort_14 : decode cL_sort 14 = .ok (.invokestatic 40, 3) := by decide +kernel
theorem dL_sort_17 : decode cL_sort 17 = .ok (.if_icmp .ge 90, 3) := by decide +kernel
theorem dL_sort_20 : decode cL_sort 20 = .ok (.aload_n 0, 1) := by decide +kernel
theorem dL_sort_21 : decode cL_sort 21 = .ok (.iconst 2, 1) := by decide +kernel
theorem dL_sort_22 : decode cL_sort 22 = .ok (.iaload, 1) := by decide +kernel
theorem dL_sort_23 : decode cL_sort 23 = .ok (.ifCond .ne 7, 3) := by decide +kernel
theorem dL_sort_26 : decode cL_sort 26 = .ok (.iconst 0, 1) := by decide +kernel
theorem dL_sort_27 : decode cL_sort 27 = .ok (.goto 31, 3) := by decide +kernel
theorem dL_sort_30 : decode cL_sort 30 = .ok (.sipush 1000, 3) := by decide +kernel
theorem dL_sort_33 : decode cL_sort 33 = .ok (.aload_n 0, 1) := by decide +kernel
theorem dL_sort_34 : decode cL_sort 34 = .ok (.aload_n 1, 1) := by decide +kernel
theorem dL_sort_35 : decode cL_sort 35 = .ok (.aload_n 2, 1) := by decide +kernel
theorem dL_sort_36 : decode cL_sort 36 = .ok (.aload_n 3, 1) := by decide +kernel
theorem dL_sort_37 : decode cL_sort 37 = .ok (.iload 4, 2) := by decide +kernel
theorem dL_sort_39 : decode cL_sort 39 = .ok (.iload 8, 2) := by decide +kernel
theorem dL_sort_41 : decode cL_sort 41 = .ok (.invokestatic 33, 3) := by decide +kernel
theorem dL_sort_44 : decode cL_sort 44 = .ok (.aload 5, 2) := by decide +kernel
theorem dL_sort_46 : decode cL_sort 46 = .ok (.iload 8, 2) := by decide +kernel
theorem dL_sort_48 : decode cL_sort 48 = .ok (.iaload, 1) := by decide +kernel
theorem dL_sort_49 : decode cL_sort 49 = .ok (.iconst 0, 1) := by decide +kernel
theorem dL_sort_50 : decode cL_sort 50 = .ok (.invokestatic 36, 3) := by decide +kernel
theorem dL_sort_53 : decode cL_sort 53 = .ok (.imul, 1) := by decide +kernel
theorem dL_sort_54 : decode cL_sort 54 = .ok (.aload_n 0, 1) := by decide +kernel
theorem dL_sort_55 : decode cL_sort 55 = .ok (.iconst 2, 1) := by decide +kernel
theorem dL_sort_56 : decode cL_sort 56 = .ok (.iaload, 1) := by decide +kernel
theorem dL_sort_57 : decode cL_sort 57 = .ok (.idiv, 1) := by decide +kernel
theorem dL_sort_58 : decode cL_sort 58 = .ok (.istore 9, 2) := by decide +kernel
theorem dL_sort_60 : decode cL_sort 60 = .ok (.iload 6, 2) := by decide +kernel
theorem dL_sort_62 : decode cL_sort 62 = .ok (.iload 7, 2) := by decide +kernel
theorem dL_sort_64 : decode cL_sort 64 = .ok (.iload 9, 2) := by decide +kernel
theorem dL_sort_66 : decode cL_sort 66 = .ok (.aload_n 0, 1) := by decide +kernel
theorem dL_sort_67 : decode cL_sort 67 = .ok (.bipush 11, 2) := by decide +kernel
theorem dL_sort_69 : decode cL_sort 69 = .ok (.iaload, 1) := by decide +kernel
theorem dL_sort_70 : decode cL_sort 70 = .ok (.if_icmp .ge 7, 3) := by decide +kernel
theorem dL_sort_73 : decode cL_sort 73 = .ok (.iconst 0, 1) := by decide +kernel
theorem dL_sort_74 : decode cL_sort 74 = .ok (.goto 17, 3) := by decide +kernel
theorem dL_sort_77 : decode cL_sort 77 = .ok (.iload 9, 2) := by decide +kernel
theorem dL_sort_79 : decode cL_sort 79 = .ok (.aload_n 0, 1) := by decide +kernel
theorem dL_sort_80 : decode cL_sort 80 = .ok (.bipush 12, 2) := by decide +kernel
theorem dL_sort_82 : decode cL_sort 82 = .ok (.iaload, 1) := by decide +kernel
theorem dL_sort_83 : decode cL_sort 83 = .ok (.if_icmp .ge 7, 3) := by decide +kernel
theorem dL_sort_86 : decode cL_sort 86 = .ok (.iconst 1, 1) := by decide +kernel
theorem dL_sort_87 : decode cL_sort 87 = .ok (.goto 4, 3) := by decide +kernel
theorem dL_sort_90 : decode cL_sort 90 = .ok (.iconst 2, 1) := by decide +kernel
theorem dL_sort_91 : decode cL_sort 91 = .ok (.imul, 1) := by decide +kernel
theorem dL_sort_92 : decode cL_sort 92 = .ok (.iadd, 1) := by decide +kernel
theorem dL_sort_93 : decode cL_sort 93 = .ok (.istore 6, 2) := by decide +kernel
theorem dL_sort_95 : decode cL_sort 95 = .ok (.iload 7, 2) := by decide +kernel
theorem dL_sort_97 : decode cL_sort 97 = .ok (.iconst 3, 1) := by decide +kernel
theorem dL_sort_98 : decode cL_sort 98 = .ok (.imul, 1) := by decide +kernel
theorem dL_sort_99 : decode cL_sort 99 = .ok (.istore 7, 2) := by decide +kernel
theorem dL_sort_101 : decode cL_sort 101 = .ok (.iinc 8 1, 3) := by decide +kernel
theorem dL_sort_104 : decode cL_sort 104 = .ok (.goto (-95), 3) := by decide +kernel
theorem dL_sort_107 : decode cL_sort 107 = .ok (.iload 6, 2) := by decide +kernel
theorem dL_sort_109 : decode cL_sort 109 = .ok (.ireturn, 1) := by decide +kernel
theorem dL_plan_0 : decode cL_plan 0 = .ok (.iconst (-1), 1) := by decide +kernel
theorem dL_plan_1 : decode cL_plan 1 = .ok (.istore_n 3, 1) := by decide +kernel
theorem dL_plan_2 : decode cL_plan 2 = .ok (.iconst 0, 1) := by decide +kernel
theorem dL_plan_3 : decode cL_plan 3 = .ok (.istore 4, 2) := by decide +kernel
theorem dL_plan_5 : decode cL_plan 5 = .ok (.iload 4, 2) := by decide +kernel
theorem dL_plan_7 : decode cL_plan 7 = .ok (.aload_n 0, 1) := by decide +kernel
theorem dL_plan_8 : decode cL_plan 8 = .ok (.iconst 4, 1) := by decide +kernel
theorem dL_plan_9 : decode cL_plan 9 = .ok (.iaload, 1) := by decide +kernel
theorem dL_plan_10 : decode cL_plan 10 = .ok (.if_icmp .ge 27, 3) := by decide +kernel
theorem dL_plan_13 : decode cL_plan 13 = .ok (.aload_n 1, 1) := by decide +kernel
theorem dL_plan_14 : decode cL_plan 14 = .ok (.bipush 8, 2) := by decide +kernel
theorem dL_plan_16 : decode cL_plan 16 = .ok (.iload 4, 2) := by decide +kernel
theorem dL_plan_18 : decode cL_plan 18 = .ok (.imul, 1) := by decide +kernel
theorem dL_plan_19 : decode cL_plan 19 = .ok (.iaload, 1) := by decide +kernel
theorem dL_plan_20 : decode cL_plan 20 = .ok (.iload_n 2, 1) := by decide +kernel
theorem dL_plan_21 : decode cL_plan 21 = .ok (.if_icmp .ne 8, 3) := by decide +kernel
theorem dL_plan_24 : decode cL_plan 24 = .ok (.iload 4, 2) := by decide +kernel
theorem dL_plan_26 : decode cL_plan 26 = .ok (.goto 4, 3) := by decide +kernel
theorem dL_plan_29 : decode cL_plan 29 = .ok (.iload_n 3, 1) := by decide +kernel
theorem dL_plan_30 : decode cL_plan 30 = .ok (.istore_n 3, 1) := by decide +kernel
theorem dL_plan_31 : decode cL_plan 31 = .ok (.iinc 4 1, 3) := by decide +kernel
theorem dL_plan_34 : decode cL_plan 34 = .ok (.goto (-29), 3) := by decide +kernel
theorem dL_plan_37 : decode cL_plan 37 = .ok (.iload_n 3, 1) := by decide +kernel
theorem dL_plan_38 : decode cL_plan 38 = .ok (.ireturn, 1) := by decide +kernel
theorem dL_takeOut_0 : decode cL_takeOut 0 = .ok (.aload_n 0, 1) := by decide +kernel
theorem dL_takeOut_1 : decode cL_takeOut 1 = .ok (.iconst 4, 1) := by decide +kernel
theorem dL_takeOut_2 : decode cL_takeOut 2 = .ok (.dup2, 1) := by decide +kernel
theorem dL_takeOut_3 : decode cL_takeOut 3 = .ok (.iaload, 1) := by decide +kernel
theorem dL_takeOut_4 : decode cL_takeOut 4 = .ok (.iconst 1, 1) := by decide +kernel
theorem dL_takeOut_5 : decode cL_takeOut 5 = .ok (.isub, 1) := by decide +kernel
theorem dL_takeOut_6 : decode cL_takeOut 6 = .ok (.iastore, 1) := by decide +kernel
theorem dL_takeOut_7 : decode cL_takeOut 7 = .ok (.bipush 8, 2) := by decide +kernel
theorem dL_takeOut_9 : decode cL_takeOut 9 = .ok (.iload_n 2, 1) := by decide +kernel
theorem dL_takeOut_10 : decode cL_takeOut 10 = .ok (.imul, 1) := by decide +kernel
theorem dL_takeOut_11 : decode cL_takeOut 11 = .ok (.istore_n 3, 1) := by decide +kernel
theorem dL_takeOut_12 : decode cL_takeOut 12 = .ok (.iload_n 3, 1) := by decide +kernel
theorem dL_takeOut_13 : decode cL_takeOut 13 = .ok (.bipush 8, 2) := by decide +kernel
theorem dL_takeOut_15 : decode cL_takeOut 15 = .ok (.aload_n 0, 1) := by decide +kernel
theorem dL_takeOut_16 : decode cL_takeOut 16 = .ok (.iconst 4, 1) := by decide +kernel
theorem dL_takeOut_17 : decode cL_takeOut 17 = .ok (.iaload, 1) := by decide +kernel
theorem dL_takeOut_18 : decode cL_takeOut 18 = .ok (.imul, 1) := by decide +kernel
theorem dL_takeOut_19 : decode cL_takeOut 19 = .ok (.if_icmp .ge 18, 3) := by decide +kernel
theorem dL_takeOut_22 : decode cL_takeOut 22 = .ok (.aload_n 1, 1) := by decide +kernel
theorem dL_takeOut_23 : decode cL_takeOut 23 = .ok (.iload_n 3, 1) := by decide +kernel
theorem dL_takeOut_24 : decode cL_takeOut 24 = .ok (.aload_n 1, 1) := by decide +kernel
theorem dL_takeOut_25 : decode cL_takeOut 25 = .ok (.iload_n 3, 1) := by decide +kernel
theorem dL_takeOut_26 : decode cL_takeOut 26 = .ok (.bipush 8, 2) := by decide +kernel
theorem dL_takeOut_28 : decode cL_takeOut 28 = .ok (.iadd, 1) := by decide +kernel
theorem dL_takeOut_29 : decode cL_takeOut 29 = .ok (.iaload, 1) := by decide +kernel
theorem dL_takeOut_30 : decode cL_takeOut 30 = .ok (.iastore, 1) := by decide +kernel
theorem dL_takeOut_31 : decode cL_takeOut 31 = .ok (.iinc 3 1, 3) := by decide +kernel
theorem dL_takeOut_34 : decode cL_takeOut 34 = .ok (.goto (-22), 3) := by decide +kernel
theorem dL_takeOut_37 : decode cL_takeOut 37 = .ok (.return_, 1) := by decide +kernel
theorem dL_drops_0 : decode cL_drops 0 = .ok (.iconst (-1), 1) := by decide +kernel
theorem dL_drops_1 : decode cL_drops 1 = .ok (.istore_n 2, 1) := by decide +kernel
theorem dL_drops_2 : decode cL_drops 2 = .ok (.iconst 0, 1) := by decide +kernel
theorem dL_drops_3 : decode cL_drops 3 = .ok (.istore_n 3, 1) := by decide +kernel
theorem dL_drops_4 : decode cL_drops 4 = .ok (.iload_n 3, 1) := by decide +kernel
theorem dL_drops_5 : decode cL_drops 5 = .ok (.aload_n 0, 1) := by decide +kernel
theorem dL_drops_6 : decode cL_drops 6 = .ok (.iconst 4, 1) := by decide +kernel
theorem dL_drops_7 : decode cL_drops 7 = .ok (.iaload, 1) := by decide +kernel
theorem dL_drops_8 : decode cL_drops 8 = .ok (.if_icmp .ge 104, 3) := by decide +kernel
theorem dL_drops_11 : decode cL_drops 11 = .ok (.iload_n 2, 1) := by decide +kernel
theorem dL_drops_12 : decode cL_drops 12 = .ok (.ifCond .lt 62, 3) := by decide +kernel
theorem dL_drops_15 : decode cL_drops 15 = .ok (.aload_n 1, 1) := by decide +kernel
theorem dL_drops_16 : decode cL_drops 16 = .ok (.bipush 8, 2) := by decide +kernel
theorem dL_drops_18 : decode cL_drops 18 = .ok (.iload_n 3, 1) := by decide +kernel
theorem dL_drops_19 : decode cL_drops 19 = .ok (.imul, 1) := by decide +kernel
theorem dL_drops_20 : decode cL_drops 20 = .ok (.iconst 5, 1) := by decide +kernel
theorem dL_drops_21 : decode cL_drops 21 = .ok (.iadd, 1) := by decide +kernel
theorem dL_drops_22 : decode cL_drops 22 = .ok (.iaload, 1) := by decide +kernel
theorem dL_drops_23 : decode cL_drops 23 = .ok (.aload_n 1, 1) := by decide +kernel
theorem dL_drops_24 : decode cL_drops 24 = .ok (.bipush 8, 2) := by decide +kernel
theorem dL_drops_26 : decode cL_drops 26 = .ok (.iload_n 2, 1) := by decide +kernel
theorem dL_drops_27 : decode cL_drops 27 = .ok (.imul, 1) := by decide +kernel
theorem dL_drops_28 : decode cL_drops 28 = .ok (.iconst 5, 1) := by decide +kernel
theorem dL_drops_29 : decode cL_drops 29 = .ok (.iadd, 1) := by decide +kernel
theorem dL_drops_30 : decode cL_drops 30 = .ok (.iaload, 1) := by decide +kernel
theorem dL_drops_31 : decode cL_drops 31 = .ok (.if_icmp .lt 43, 3) := by decide +kernel
theorem dL_drops_34 : decode cL_drops 34 = .ok (.aload_n 1, 1) := by decide +kernel
theorem dL_drops_35 : decode cL_drops 35 = .ok (.bipush 8, 2) := by decide +kernel
theorem dL_drops_37 : decode cL_drops 37 = .ok (.iload_n 3, 1) := by decide +kernel
theorem dL_drops_38 : decode cL_drops 38 = .ok (.imul, 1) := by decide +kernel
theorem dL_drops_39 : decode cL_drops 39 = .ok (.iconst 5, 1) := by decide +kernel
theorem dL_drops_40 : decode cL_drops 40 = .ok (.iadd, 1) := by decide +kernel
theorem dL_drops_41 : decode cL_drops 41 = .ok (.iaload, 1) := by decide +kernel
theorem dL_drops_42 : decode cL_drops 42 = .ok (.aload_n 1, 1) := by decide +kernel
theorem dL_drops_43 : decode cL_drops 43 = .ok (.bipush 8, 2) := by decide +kernel
theorem dL_drops_45 : decode cL_drops 45 = .ok (.iload_n 2, 1) := by decide +kernel
theorem dL_drops_46 : decode cL_drops 46 = .ok (.imul, 1) := by decide +kernel
theorem dL_drops_47 : decode cL_drops 47 = .ok (.iconst 5, 1) := by decide +kernel
theorem dL_drops_48 : decode cL_drops 48 = .ok (.iadd, 1) := by decide +kernel
theorem dL_drops_49 : decode cL_drops 49 = .ok (.iaload, 1) := by decide +kernel
theorem dL_drops_50 : decode cL_drops 50 = .ok (.if_icmp .ne 28, 3) := by decide +kernel
theorem dL_drops_53 : decode cL_drops 53 = .ok (.aload_n 1, 1) := by decide +kernel
theorem dL_drops_54 : decode cL_drops 54 = .ok (.bipush 8, 2) := by decide +kernel
theorem dL_drops_56 : decode cL_drops 56 = .ok (.iload_n 3, 1) := by decide +kernel
theorem dL_drops_57 : decode cL_drops 57 = .ok (.imul, 1) := by decide +kernel
theorem dL_drops_58 : decode cL_drops 58 = .ok (.bipush 7, 2) := by decide +kernel
theorem dL_drops_60 : decode cL_drops 60 = .ok (.iadd, 1) := by decide +kernel
theorem dL_drops_61 : decode cL_drops 61 = .ok (.iaload, 1) := by decide +kernel
theorem dL_drops_62 : decode cL_drops 62 = .ok (.aload_n 1, 1) := by decide +kernel
theorem dL_drops_63 : decode cL_drops 63 = .ok (.bipush 8, 2) := by decide +kernel
theorem dL_drops_65 : decode cL_drops 65 = .ok (.iload_n 2, 1) := by decide +kernel
theorem dL_drops_66 : decode cL_drops 66 = .ok (.imul, 1) := by decide +kernel
theorem dL_drops_67 : decode cL_drops 67 = .ok (.bipush 7, 2) := by decide +kernel
theorem dL_drops_69 : decode cL_drops 69 = .ok (.iadd, 1) := by decide +kernel
theorem dL_drops_70 : decode cL_drops 70 = .ok (.iaload, 1) := by decide +kernel
theorem dL_drops_71 : decode cL_drops 71 = .ok (.if_icmp .ge 7, 3) := by decide +kernel
theorem dL_drops_74 : decode cL_drops 74 = .ok (.iconst 1, 1) := by decide +kernel
theorem dL_drops_75 : decode cL_drops 75 = .ok (.goto 4, 3) := by decide +kernel
theorem dL_drops_78 : decode cL_drops 78 = .ok (.iconst 0, 1) := by decide +kernel
theorem dL_drops_79 : decode cL_drops 79 = .ok (.istore 4, 2) := by decide +kernel
theorem dL_drops_81 : decode cL_drops 81 = .ok (.aload_n 1, 1) := by decide +kernel
theorem dL_drops_82 : decode cL_drops 82 = .ok (.bipush 8, 2) := by decide +kernel
theorem dL_drops_84 : decode cL_drops 84 = .ok (.iload_n 3, 1) := by decide +kernel
theorem dL_drops_85 : decode cL_drops 85 = .ok (.imul, 1) := by decide +kernel
theorem dL_drops_86 : decode cL_drops 86 = .ok (.bipush 6, 2) := by decide +kernel
theorem dL_drops_88 : decode cL_drops 88 = .ok (.iadd, 1) := by decide +kernel
theorem dL_drops_89 : decode cL_drops 89 = .ok (.iaload, 1) := by decide +kernel
theorem dL_drops_90 : decode cL_drops 90 = .ok (.iconst 2, 1) := by decide +kernel
theorem dL_drops_91 : decode cL_drops 91 = .ok (.irem, 1) := by decide +kernel
theorem dL_drops_92 : decode cL_drops 92 = .ok (.ifCond .ne 12, 3) := by decide +kernel
theorem dL_drops_95 : decode cL_drops 95 = .ok (.iload 4, 2) := by decide +kernel
theorem dL_drops_97 : decode cL_drops 97 = .ok (.ifCond .eq 7, 3) := by decide +kernel
theorem dL_drops_100 : decode cL_drops 100 = .ok (.iload_n 3, 1) := by decide +kernel
theorem dL_drops_101 : decode cL_drops 101 = .ok (.goto 4, 3) := by decide +kernel
theorem dL_drops_104 : decode cL_drops 104 = .ok (.iload_n 2, 1) := by decide +kernel
theorem dL_drops_105 : decode cL_drops 105 = .ok (.istore_n 2, 1) := by decide +kernel
theorem dL_drops_106 : decode cL_drops 106 = .ok (.iinc 3 1, 3) := by decide +kernel
theorem dL_drops_109 : decode cL_drops 109 = .ok (.goto (-105), 3) := by decide +kernel
theorem dL_drops_112 : decode cL_drops 112 = .ok (.iload_n 2, 1) := by decide +kernel
theorem dL_drops_113 : decode cL_drops 113 = .ok (.ireturn, 1) := by decide +kernel
theorem dL_runs_0 : decode cL_runs 0 = .ok (.aload_n 0, 1) := by decide +kernel
theorem dL_runs_1 : decode cL_runs 1 = .ok (.aload_n 1, 1) := by decide +kernel
theorem dL_runs_2 : decode cL_runs 2 = .ok (.aload_n 2, 1) := by decide +kernel
theorem dL_runs_3 : decode cL_runs 3 = .ok (.aload_n 3, 1) := by decide +kernel
theorem dL_runs_4 : decode cL_runs 4 = .ok (.iload 6, 2) := by decide +kernel
theorem dL_runs_6 : decode cL_runs 6 = .ok (.aload 7, 2) := by decide +kernel
theorem dL_runs_8 : decode cL_runs 8 = .ok (.invokestatic 47, 3) := by decide +kernel
theorem dL_runs_11 : decode cL_runs 11 = .ok (.istore 8, 2) := by decide +kernel
theorem dL_runs_13 : decode cL_runs 13 = .ok (.iconst (-1), 1) := by decide +kernel
theorem dL_runs_14 : decode cL_runs 14 = .ok (.istore 9, 2) := by decide +kernel
theorem dL_runs_16 : decode cL_runs 16 = .ok (.iconst 0, 1) := by decide +kernel
theorem dL_runs_17 : decode cL_runs 17 = .ok (.istore 10, 2) := by decide +kernel
theorem dL_runs_19 : decode cL_runs 19 = .ok (.iload 10, 2) := by decide +kernel
theorem dL_runs_21 : decode cL_runs 21 = .ok (.aload_n 0, 1) := by decide +kernel
theorem dL_runs_22 : decode cL_runs 22 = .ok (.iconst 4, 1) := by decide +kernel
theorem dL_runs_23 : decode cL_runs 23 = .ok (.iaload, 1) := by decide +kernel
theorem dL_runs_24 : decode cL_runs 24 = .ok (.if_icmp .ge 48, 3) := by decide +kernel
theorem dL_runs_27 : decode cL_runs 27 = .ok (.aload 4, 2) := by decide +kernel
theorem dL_runs_29 : decode cL_runs 29 = .ok (.bipush 8, 2) := by decide +kernel
theorem dL_runs_31 : decode cL_runs 31 = .ok (.iload 10, 2) := by decide +kernel
theorem dL_runs_33 : decode cL_runs 33 = .ok (.imul, 1) := by decide +kernel
theorem dL_runs_34 : decode cL_runs 34 = .ok (.iconst 1, 1) := by decide +kernel
theorem dL_runs_35 : decode cL_runs 35 = .ok (.iadd, 1) := by decide +kernel
theorem dL_runs_36 : decode cL_runs 36 = .ok (.iaload, 1) := by decide +kernel
theorem dL_runs_37 : decode cL_runs 37 = .ok (.iload 6, 2) := by decide +kernel
theorem dL_runs_39 : decode cL_runs 39 = .ok (.if_icmp .ne 23, 3) := by decide +kernel
theorem dL_runs_42 : decode cL_runs 42 = .ok (.aload 4, 2) := by decide +kernel
theorem dL_runs_44 : decode cL_runs 44 = .ok (.bipush 8, 2) := by decide +kernel
theorem dL_runs_46 : decode cL_runs 46 = .ok (.iload 10, 2) := by decide +kernel
theorem dL_runs_48 : decode cL_runs 48 = .ok (.imul, 1) := by decide +kernel
theorem dL_runs_49 : decode cL_runs 49 = .ok (.iconst 2, 1) := by decide +kernel
theorem dL_runs_50 : decode cL_runs 50 = .ok (.iadd, 1) := by decide +kernel
theorem dL_runs_51 : decode cL_runs 51 = .ok (.iaload, 1) := by decide +kernel
theorem dL_runs_52 : decode cL_runs 52 = .ok (.iload 8, 2) := by decide +kernel
theorem dL_runs_54 : decode cL_runs 54 = .ok (.if_icmp .ne 8, 3) := by decide +kernel
theorem dL_runs_57 : decode cL_runs 57 = .ok (.iload 10, 2) := by decide +kernel
theorem dL_runs_59 : decode cL_runs 59 = .ok (.goto 5, 3) := by decide +kernel
theorem dL_runs_62 : decode cL_runs 62 = .ok (.iload 9, 2) := by decide +kernel
theorem dL_runs_64 : decode cL_runs 64 = .ok (.istore 9, 2) := by decide +kernel
theorem dL_runs_66 : decode cL_runs 66 = .ok (.iinc 10 1, 3) := by decide +kernel
theorem dL_runs_69 : decode cL_runs 69 = .ok (.goto (-50), 3) := by decide +kernel
theorem dL_runs_72 : decode cL_runs 72 = .ok (.aload 5, 2) := by decide +kernel
theorem dL_runs_74 : decode cL_runs 74 = .ok (.iconst 0, 1) := by decide +kernel
theorem dL_runs_75 : decode cL_runs 75 = .ok (.iload 6, 2) := by decide +kernel
theorem dL_runs_77 : decode cL_runs 77 = .ok (.iastore, 1) := by decide +kernel
theorem dL_runs_78 : decode cL_runs 78 = .ok (.aload 5, 2) := by decide +kernel
theorem dL_runs_80 : decode cL_runs 80 = .ok (.iconst 5, 1) := by decide +kernel
theorem dL_runs_81 : decode cL_runs 81 = .ok (.iload 8, 2) := by decide +kernel
theorem dL_runs_83 : decode cL_runs 83 = .ok (.iastore, 1) := by decide +kernel
theorem dL_runs_84 : decode cL_runs 84 = .ok (.aload 5, 2) := by decide +kernel
theorem dL_runs_86 : decode cL_runs 86 = .ok (.bipush 10, 2) := by decide +kernel
theorem dL_runs_88 : decode cL_runs 88 = .ok (.iload 9, 2) := by decide +kernel
theorem dL_runs_90 : decode cL_runs 90 = .ok (.ifCond .ge 7, 3) := by decide +kernel
theorem dL_runs_93 : decode cL_runs 93 = .ok (.iconst 2, 1) := by decide +kernel
theorem dL_runs_94 : decode cL_runs 94 = .ok (.goto 4, 3) := by decide +kernel
theorem dL_runs_97 : decode cL_runs 97 = .ok (.iconst 0, 1) := by decide +kernel
theorem dL_runs_98 : decode cL_runs 98 = .ok (.iastore, 1) := by decide +kernel
theorem dL_runs_99 : decode cL_runs 99 = .ok (.aload 5, 2) := by decide +kernel
theorem dL_runs_101 : decode cL_runs 101 = .ok (.bipush 12, 2) := by decide +kernel
theorem dL_runs_103 : decode cL_runs 103 = .ok (.bipush (-4), 2) := by decide +kernel
theorem dL_runs_105 : decode cL_runs 105 = .ok (.iastore, 1) := by decide +kernel
theorem dL_runs_106 : decode cL_runs 106 = .ok (.iload 9, 2) := by decide +kernel
theorem dL_runs_108 : decode cL_runs 108 = .ok (.ifCond .ge 18, 3) := by decide +kernel
theorem dL_runs_111 : decode cL_runs 111 = .ok (.aload_n 0, 1) := by decide +kernel
theorem dL_runs_112 : decode cL_runs 112 = .ok (.aload_n 1, 1) := by decide +kernel
theorem dL_runs_113 : decode cL_runs 113 = .ok (.aload_n 2, 1) := by decide +kernel
theorem dL_runs_114 : decode cL_runs 114 = .ok (.aload_n 3, 1) := by decide +kernel
theorem dL_runs_115 : decode cL_runs 115 = .ok (.iload 6, 2) := by decide +kernel
theorem dL_runs_117 : decode cL_runs 117 = .ok (.aload 7, 2) := by decide +kernel
theorem dL_runs_119 : decode cL_runs 119 = .ok (.iconst 0, 1) := by decide +kernel
theorem dL_runs_120 : decode cL_runs 120 = .ok (.invokestatic 51, 3) := by decide +kernel
theorem dL_runs_123 : decode cL_runs 123 = .ok (.goto 13, 3) := by decide +kernel
theorem dL_runs_126 : decode cL_runs 126 = .ok (.aload 4, 2) := by decide +kernel
theorem dL_runs_128 : decode cL_runs 128 = .ok (.bipush 8, 2) := by decide +kernel
theorem dL_runs_130 : decode cL_runs 130 = .ok (.iload 9, 2) := by decide +kernel
theorem dL_runs_132 : decode cL_runs 132 = .ok (.imul, 1) := by decide +kernel
theorem dL_runs_133 : decode cL_runs 133 = .ok (.iconst 3, 1) := by decide +kernel
theorem dL_runs_134 : decode cL_runs 134 = .ok (.iadd, 1) := by decide +kernel
theorem dL_runs_135 : decode cL_runs 135 = .ok (.iaload, 1) := by decide +kernel
theorem dL_runs_136 : decode cL_runs 136 = .ok (.istore 10, 2) := by decide +kernel
theorem dL_runs_138 : decode cL_runs 138 = .ok (.iload 9, 2) := by decide +kernel
theorem dL_runs_140 : decode cL_runs 140 = .ok (.ifCond .ge 20, 3) := by decide +kernel
theorem dL_runs_143 : decode cL_runs 143 = .ok (.aload_n 0, 1) := by decide +kernel
theorem dL_runs_144 : decode cL_runs 144 = .ok (.aload_n 1, 1) := by decide +kernel
theorem dL_runs_145 : decode cL_runs 145 = .ok (.aload_n 2, 1) := by decide +kernel
theorem dL_runs_146 : decode cL_runs 146 = .ok (.aload_n 3, 1) := by decide +kernel
theorem dL_runs_147 : decode cL_runs 147 = .ok (.iload 6, 2) := by decide +kernel
theorem dL_runs_149 : decode cL_runs 149 = .ok (.aload 7, 2) := by decide +kernel
theorem dL_runs_151 : decode cL_runs 151 = .ok (.iload 10, 2) := by decide +kernel
theorem dL_runs_153 : decode cL_runs 153 = .ok (.iconst 0, 1) := by decide +kernel
theorem dL_runs_154 : decode cL_runs 154 = .ok (.invokestatic 43, 3) := by decide +kernel
theorem dL_runs_157 : decode cL_runs 157 = .ok (.goto 13, 3) := by decide +kernel
theorem dL_runs_160 : decode cL_runs 160 = .ok (.aload 4, 2) := by decide +kernel
theorem dL_runs_162 : decode cL_runs 162 = .ok (.bipush 8, 2) := by decide +kernel
theorem dL_runs_164 : decode cL_runs 164 = .ok (.iload 9, 2) := by decide +kernel
theorem dL_runs_166 : decode cL_runs 166 = .ok (.imul, 1) := by decide +kernel
theorem dL_runs_167 : decode cL_runs 167 = .ok (.iconst 4, 1) := by decide +kernel
theorem dL_runs_168 : decode cL_runs 168 = .ok (.iadd, 1) := by decide +kernel
theorem dL_runs_169 : decode cL_runs 169 = .ok (.iaload, 1) := by decide +kernel
theorem dL_runs_170 : decode cL_runs 170 = .ok (.istore 11, 2) := by decide +kernel
theorem dL_runs_172 : decode cL_runs 172 = .ok (.iload 9, 2) := by decide +kernel
theorem dL_runs_174 : decode cL_runs 174 = .ok (.ifCond .ge 207, 3) := by decide +kernel
theorem dL_runs_177 : decode cL_runs 177 = .ok (.aload_n 0, 1) := by decide +kernel
theorem dL_runs_178 : decode cL_runs 178 = .ok (.aload 4, 2) := by decide +kernel
theorem dL_runs_180 : decode cL_runs 180 = .ok (.invokestatic 55, 3) := by decide +kernel
theorem dL_runs_183 : decode cL_runs 183 = .ok (.istore 12, 2) := by decide +kernel
theorem dL_runs_185 : decode cL_runs 185 = .ok (.iload 12, 2) := by decide +kernel
theorem dL_runs_187 : decode cL_runs 187 = .ok (.ifCond .lt 69, 3) := by decide +kernel
theorem dL_runs_190 : decode cL_runs 190 = .ok (.aload_n 0, 1) := by decide +kernel
theorem dL_runs_191 : decode cL_runs 191 = .ok (.iconst 4, 1) := by decide +kernel
theorem dL_runs_192 : decode cL_runs 192 = .ok (.iaload, 1) := by decide +kernel
theorem dL_runs_193 : decode cL_runs 193 = .ok (.aload_n 0, 1) := by decide +kernel
theorem dL_runs_194 : decode cL_runs 194 = .ok (.bipush 15, 2) := by decide +kernel
theorem dL_runs_196 : decode cL_runs 196 = .ok (.iaload, 1) := by decide +kernel
theorem dL_runs_197 : decode cL_runs 197 = .ok (.if_icmp .lt 59, 3) := by decide +kernel
theorem dL_runs_200 : decode cL_runs 200 = .ok (.aload 5, 2) := by decide +kernel
theorem dL_runs_202 : decode cL_runs 202 = .ok (.bipush 12, 2) := by decide +kernel
theorem dL_runs_204 : decode cL_runs 204 = .ok (.aload 5, 2) := by decide +kernel
theorem dL_runs_206 : decode cL_runs 206 = .ok (.bipush 12, 2) := by decide +kernel
theorem dL_runs_208 : decode cL_runs 208 = .ok (.iaload, 1) := by decide +kernel
theorem dL_runs_209 : decode cL_runs 209 = .ok (.ifCond .ge 14, 3) := by decide +kernel
theorem dL_runs_212 : decode cL_runs 212 = .ok (.aload 4, 2) := by decide +kernel
theorem dL_runs_214 : decode cL_runs 214 = .ok (.bipush 8, 2) := by decide +kernel
theorem dL_runs_216 : decode cL_runs 216 = .ok (.iload 12, 2) := by decide +kernel
theorem dL_runs_218 : decode cL_runs 218 = .ok (.imul, 1) := by decide +kernel
theorem dL_runs_219 : decode cL_runs 219 = .ok (.iaload, 1) := by decide +kernel
theorem dL_runs_220 : decode cL_runs 220 = .ok (.goto 8, 3) := by decide +kernel
theorem dL_runs_223 : decode cL_runs 223 = .ok (.aload 5, 2) := by decide +kernel
theorem dL_runs_225 : decode cL_runs 225 = .ok (.bipush 12, 2) := by decide +kernel
theorem dL_runs_227 : decode cL_runs 227 = .ok (.iaload, 1) := by decide +kernel
theorem dL_runs_228 : decode cL_runs 228 = .ok (.iastore, 1) := by decide +kernel
theorem dL_runs_229 : decode cL_runs 229 = .ok (.aload_n 0, 1) := by decide +kernel
theorem dL_runs_230 : decode cL_runs 230 = .ok (.aload 4, 2) := by decide +kernel
theorem dL_runs_232 : decode cL_runs 232 = .ok (.iload 12, 2) := by decide +kernel
theorem dL_runs_234 : decode cL_runs 234 = .ok (.invokestatic 58, 3) := by decide +kernel
theorem dL_runs_237 : decode cL_runs 237 = .ok (.aload_n 0, 1) := by decide +kernel
theorem dL_runs_238 : decode cL_runs 238 = .ok (.bipush 8, 2) := by decide +kernel
theorem dL_runs_240 : decode cL_runs 240 = .ok (.dup2, 1) := by decide +kernel
theorem dL_runs_241 : decode cL_runs 241 = .ok (.iaload, 1) := by decide +kernel
theorem dL_runs_242 : decode cL_runs 242 = .ok (.iconst 1, 1) := by decide +kernel
theorem dL_runs_243 : decode cL_runs 243 = .ok (.iadd, 1) := by decide +kernel
theorem dL_runs_244 : decode cL_runs 244 = .ok (.iastore, 1) := by decide +kernel
theorem dL_runs_245 : decode cL_runs 245 = .ok (.aload_n 0, 1) := by decide +kernel
theorem dL_runs_246 : decode cL_runs 246 = .ok (.aload 4, 2) := by decide +kernel
theorem dL_runs_248 : decode cL_runs 248 = .ok (.invokestatic 55, 3) := by decide +kernel
theorem dL_runs_251 : decode cL_runs 251 = .ok (.istore 12, 2) := by decide +kernel
theorem dL_runs_253 : decode cL_runs 253 = .ok (.goto (-68), 3) := by decide +kernel
theorem dL_runs_256 : decode cL_runs 256 = .ok (.aload_n 0, 1) := by decide +kernel
theorem dL_runs_257 : decode cL_runs 257 = .ok (.iconst 4, 1) := by decide +kernel
theorem dL_runs_258 : decode cL_runs 258 = .ok (.iaload, 1) := by decide +kernel
theorem dL_runs_259 : decode cL_runs 259 = .ok (.aload_n 0, 1) := by decide +kernel
theorem dL_runs_260 : decode cL_runs 260 = .ok (.bipush 15, 2) := by decide +kernel
theorem dL_runs_262 : decode cL_runs 262 = .ok (.iaload, 1) := by decide +kernel
theorem dL_runs_263 : decode cL_runs 263 = .ok (.if_icmp .ge 115, 3) := by decide +kernel
theorem dL_runs_266 : decode cL_runs 266 = .ok (.aload_n 0, 1) := by decide +kernel
theorem dL_runs_267 : decode cL_runs 267 = .ok (.iconst 4, 1) := by decide +kernel
theorem dL_runs_268 : decode cL_runs 268 = .ok (.iaload, 1) := by decide +kernel
theorem dL_runs_269 : decode cL_runs 269 = .ok (.istore 9, 2) := by decide +kernel
theorem dL_runs_271 : decode cL_runs 271 = .ok (.aload_n 0, 1) := by decide +kernel
theorem dL_runs_272 : decode cL_runs 272 = .ok (.iconst 4, 1) := by decide +kernel
theorem dL_runs_273 : decode cL_runs 273 = .ok (.dup2, 1) := by decide +kernel
theorem dL_runs_274 : decode cL_runs 274 = .ok (.iaload, 1) := by decide +kernel
theorem dL_runs_275 : decode cL_runs 275 = .ok (.iconst 1, 1) := by decide +kernel
theorem dL_runs_276 : decode cL_runs 276 = .ok (.iadd, 1) := by decide +kernel
theorem dL_runs_277 : decode cL_runs 277 = .ok (.iastore, 1) := by decide +kernel
theorem dL_runs_278 : decode cL_runs 278 = .ok (.aload 4, 2) := by decide +kernel
theorem dL_runs_280 : decode cL_runs 280 = .ok (.bipush 8, 2) := by decide +kernel
theorem dL_runs_282 : decode cL_runs 282 = .ok (.iload 9, 2) := by decide +kernel
theorem dL_runs_284 : decode cL_runs 284 = .ok (.imul, 1) := by decide +kernel
theorem dL_runs_285 : decode cL_runs 285 = .ok (.aload_n 0, 1) := by decide +kernel
theorem dL_runs_286 : decode cL_runs 286 = .ok (.iconst 5, 1) := by decide +kernel
theorem dL_runs_287 : decode cL_runs 287 = .ok (.iaload, 1) := by decide +kernel
theorem dL_runs_288 : decode cL_runs 288 = .ok (.iastore, 1) := by decide +kernel
theorem dL_runs_289 : decode cL_runs 289 = .ok (.aload 4, 2) := by decide +kernel
theorem dL_runs_291 : decode cL_runs 291 = .ok (.bipush 8, 2) := by decide +kernel
theorem dL_runs_293 : decode cL_runs 293 = .ok (.iload 9, 2) := by decide +kernel
theorem dL_runs_295 : decode cL_runs 295 = .ok (.imul, 1) := by decide +kernel
theorem dL_runs_296 : decode cL_runs 296 = .ok (.iconst 1, 1) := by decide +kernel
theorem dL_runs_297 : decode cL_runs 297 = .ok (.iadd, 1) := by decide +kernel
theorem dL_runs_298 : decode cL_runs 298 = .ok (.iload 6, 2) := by decide +kernel
theorem dL_runs_300 : decode cL_runs 300 = .ok (.iastore, 1) := by decide +kernel
theorem dL_runs_301 : decode cL_runs 301 = .ok (.aload 4, 2) := by decide +kernel
theorem dL_runs_303 : decode cL_runs 303 = .ok (.bipush 8, 2) := by decide +kernel
theorem dL_runs_305 : decode cL_runs 305 = .ok (.iload 9, 2) := by decide +kernel
theorem dL_runs_307 : decode cL_runs 307 = .ok (.imul, 1) := by decide +kernel
theorem dL_runs_308 : decode cL_runs 308 = .ok (.iconst 2, 1) := by decide +kernel
theorem dL_runs_309 : decode cL_runs 309 = .ok (.iadd, 1) := by decide +kernel
theorem dL_runs_310 : decode cL_runs 310 = .ok (.iload 8, 2) := by decide +kernel
theorem dL_runs_312 : decode cL_runs 312 = .ok (.iastore, 1) := by decide +kernel
theorem dL_runs_313 : decode cL_runs 313 = .ok (.aload 4, 2) := by decide +kernel
theorem dL_runs_315 : decode cL_runs 315 = .ok (.bipush 8, 2) := by decide +kernel
theorem dL_runs_317 : decode cL_runs 317 = .ok (.iload 9, 2) := by decide +kernel
theorem dL_runs_319 : decode cL_runs 319 = .ok (.imul, 1) := by decide +kernel
theorem dL_runs_320 : decode cL_runs 320 = .ok (.iconst 3, 1) := by decide +kernel
theorem dL_runs_321 : decode cL_runs 321 = .ok (.iadd, 1) := by decide +kernel
theorem dL_runs_322 : decode cL_runs 322 = .ok (.iload 10, 2) := by decide +kernel
theorem dL_runs_324 : decode cL_runs 324 = .ok (.iastore, 1) := by decide +kernel
theorem dL_runs_325 : decode cL_runs 325 = .ok (.aload 4, 2) := by decide +kernel
theorem dL_runs_327 : decode cL_runs 327 = .ok (.bipush 8, 2) := by decide +kernel
theorem dL_runs_329 : decode cL_runs 329 = .ok (.iload 9, 2) := by decide +kernel
theorem dL_runs_331 : decode cL_runs 331 = .ok (.imul, 1) := by decide +kernel
theorem dL_runs_332 : decode cL_runs 332 = .ok (.iconst 4, 1) := by decide +kernel
theorem dL_runs_333 : decode cL_runs 333 = .ok (.iadd, 1) := by decide +kernel
theorem dL_runs_334 : decode cL_runs 334 = .ok (.iload 11, 2) := by decide +kernel
theorem dL_runs_336 : decode cL_runs 336 = .ok (.iastore, 1) := by decide +kernel
theorem dL_runs_337 : decode cL_runs 337 = .ok (.iconst 5, 1) := by decide +kernel
theorem dL_runs_338 : decode cL_runs 338 = .ok (.istore 13, 2) := by decide +kernel
theorem dL_runs_340 : decode cL_runs 340 = .ok (.iload 13, 2) := by decide +kernel
theorem dL_runs_342 : decode cL_runs 342 = .ok (.bipush 8, 2) := by decide +kernel
theorem dL_runs_344 : decode cL_runs 344 = .ok (.if_icmp .ge 21, 3) := by decide +kernel
theorem dL_runs_347 : decode cL_runs 347 = .ok (.aload 4, 2) := by decide +kernel
theorem dL_runs_349 : decode cL_runs 349 = .ok (.bipush 8, 2) := by decide +kernel
theorem dL_runs_351 : decode cL_runs 351 = .ok (.iload 9, 2) := by decide +kernel
theorem dL_runs_353 : decode cL_runs 353 = .ok (.imul, 1) := by decide +kernel
theorem dL_runs_354 : decode cL_runs 354 = .ok (.iload 13, 2) := by decide +kernel
theorem dL_runs_356 : decode cL_runs 356 = .ok (.iadd, 1) := by decide +kernel
theorem dL_runs_357 : decode cL_runs 357 = .ok (.iconst 0, 1) := by decide +kernel
theorem dL_runs_358 : decode cL_runs 358 = .ok (.iastore, 1) := by decide +kernel
theorem dL_runs_359 : decode cL_runs 359 = .ok (.iinc 13 1, 3) := by decide +kernel
theorem dL_runs_362 : decode cL_runs 362 = .ok (.goto (-22), 3) := by decide +kernel
theorem dL_runs_365 : decode cL_runs 365 = .ok (.aload_n 0, 1) := by decide +kernel
theorem dL_runs_366 : decode cL_runs 366 = .ok (.iconst 5, 1) := by decide +kernel
theorem dL_runs_367 : decode cL_runs 367 = .ok (.dup2, 1) := by decide +kernel
theorem dL_runs_368 : decode cL_runs 368 = .ok (.iaload, 1) := by decide +kernel
theorem dL_runs_369 : decode cL_runs 369 = .ok (.iconst 1, 1) := by decide +kernel
theorem dL_runs_370 : decode cL_runs 370 = .ok (.iadd, 1) := by decide +kernel
theorem dL_runs_371 : decode cL_runs 371 = .ok (.iastore, 1) := by decide +kernel
theorem dL_runs_372 : decode cL_runs 372 = .ok (.aload 5, 2) := by decide +kernel
theorem dL_runs_374 : decode cL_runs 374 = .ok (.bipush 10, 2) := by decide +kernel
theorem dL_runs_376 : decode cL_runs 376 = .ok (.iconst 1, 1) := by decide +kernel
theorem dL_runs_377 : decode cL_runs 377 = .ok (.iastore, 1) := by decide +kernel
theorem dL_runs_378 : decode cL_runs 378 = .ok (.goto 11, 3) := by decide +kernel
theorem dL_runs_381 : decode cL_runs 381 = .ok (.aload_n 0, 1) := by decide +kernel
theorem dL_runs_382 : decode cL_runs 382 = .ok (.bipush 7, 2) := by decide +kernel
theorem dL_runs_384 : decode cL_runs 384 = .ok (.dup2, 1) := by decide +kernel
theorem dL_runs_385 : decode cL_runs 385 = .ok (.iaload, 1) := by decide +kernel
theorem dL_runs_386 : decode cL_runs 386 = .ok (.iconst 1, 1) := by decide +kernel
theorem dL_runs_387 : decode cL_runs 387 = .ok (.iadd, 1) := by decide +kernel
theorem dL_runs_388 : decode cL_runs 388 = .ok (.iastore, 1) := by decide +kernel
theorem dL_runs_389 : decode cL_runs 389 = .ok (.aload_n 0, 1) := by decide +kernel
theorem dL_runs_390 : decode cL_runs 390 = .ok (.bipush 6, 2) := by decide +kernel
theorem dL_runs_392 : decode cL_runs 392 = .ok (.dup2, 1) := by decide +kernel
theorem dL_runs_393 : decode cL_runs 393 = .ok (.iaload, 1) := by decide +kernel
theorem dL_runs_394 : decode cL_runs 394 = .ok (.iconst 1, 1) := by decide +kernel
theorem dL_runs_395 : decode cL_runs 395 = .ok (.iadd, 1) := by decide +kernel
theorem dL_runs_396 : decode cL_runs 396 = .ok (.iastore, 1) := by decide +kernel
theorem dL_runs_397 : decode cL_runs 397 = .ok (.aload_n 3, 1) := by decide +kernel
theorem dL_runs_398 : decode cL_runs 398 = .ok (.iconst 2, 1) := by decide +kernel
theorem dL_runs_399 : decode cL_runs 399 = .ok (.iload 6, 2) := by decide +kernel
theorem dL_runs_401 : decode cL_runs 401 = .ok (.imul, 1) := by decide +kernel
theorem dL_runs_402 : decode cL_runs 402 = .ok (.iconst 1, 1) := by decide +kernel
theorem dL_runs_403 : decode cL_runs 403 = .ok (.iadd, 1) := by decide +kernel
theorem dL_runs_404 : decode cL_runs 404 = .ok (.dup2, 1) := by decide +kernel
theorem dL_runs_405 : decode cL_runs 405 = .ok (.iaload, 1) := by decide +kernel
theorem dL_runs_406 : decode cL_runs 406 = .ok (.iconst 1, 1) := by decide +kernel
theorem dL_runs_407 : decode cL_runs 407 = .ok (.iadd, 1) := by decide +kernel
theorem dL_runs_408 : decode cL_runs 408 = .ok (.iastore, 1) := by decide +kernel
theorem dL_runs_409 : decode cL_runs 409 = .ok (.aload_n 0, 1) := by decide +kernel
theorem dL_runs_410 : decode cL_runs 410 = .ok (.aload_n 1, 1) := by decide +kernel
theorem dL_runs_411 : decode cL_runs 411 = .ok (.aload_n 2, 1) := by decide +kernel
theorem dL_runs_412 : decode cL_runs 412 = .ok (.aload_n 3, 1) := by decide +kernel
theorem dL_runs_413 : decode cL_runs 413 = .ok (.iload 6, 2) := by decide +kernel
theorem dL_runs_415 : decode cL_runs 415 = .ok (.aload 7, 2) := by decide +kernel
theorem dL_runs_417 : decode cL_runs 417 = .ok (.iload 10, 2) := by decide +kernel
theorem dL_runs_419 : decode cL_runs 419 = .ok (.iconst 1, 1) := by decide +kernel
theorem dL_runs_420 : decode cL_runs 420 = .ok (.invokestatic 43, 3) := by decide +kernel
theorem dL_runs_423 : decode cL_runs 423 = .ok (.istore 12, 2) := by decide +kernel
theorem dL_runs_425 : decode cL_runs 425 = .ok (.iload 12, 2) := by decide +kernel
theorem dL_runs_427 : decode cL_runs 427 = .ok (.aload_n 0, 1) := by decide +kernel
theorem dL_runs_428 : decode cL_runs 428 = .ok (.bipush 13, 2) := by decide +kernel
theorem dL_runs_430 : decode cL_runs 430 = .ok (.iaload, 1) := by decide +kernel
theorem dL_runs_431 : decode cL_runs 431 = .ok (.iload 11, 2) := by decide +kernel
theorem dL_runs_433 : decode cL_runs 433 = .ok (.imul, 1) := by decide +kernel
theorem dL_runs_434 : decode cL_runs 434 = .ok (.if_icmp .le 7, 3) := by decide +kernel
theorem dL_runs_437 : decode cL_runs 437 = .ok (.iconst 1, 1) := by decide +kernel
theorem dL_runs_438 : decode cL_runs 438 = .ok (.goto 4, 3) := by decide +kernel
theorem dL_runs_441 : decode cL_runs 441 = .ok (.iconst 0, 1) := by decide +kernel
theorem dL_runs_442 : decode cL_runs 442 = .ok (.istore 13, 2) := by decide +kernel
theorem dL_runs_444 : decode cL_runs 444 = .ok (.aload 5, 2) := by decide +kernel
theorem dL_runs_446 : decode cL_runs 446 = .ok (.bipush 6, 2) := by decide +kernel
theorem dL_runs_448 : decode cL_runs 448 = .ok (.iload 9, 2) := by decide +kernel
theorem dL_runs_450 : decode cL_runs 450 = .ok (.ifCond .ge 8, 3) := by decide +kernel
theorem dL_runs_453 : decode cL_runs 453 = .ok (.bipush (-4), 2) := by decide +kernel
theorem dL_runs_455 : decode cL_runs 455 = .ok (.goto 11, 3) := by decide +kernel
theorem dL_runs_458 : decode cL_runs 458 = .ok (.aload 4, 2) := by decide +kernel
theorem dL_runs_460 : decode cL_runs 460 = .ok (.bipush 8, 2) := by decide +kernel
theorem dL_runs_462 : decode cL_runs 462 = .ok (.iload 9, 2) := by decide +kernel
theorem dL_runs_464 : decode cL_runs 464 = .ok (.imul, 1) := by decide +kernel
theorem dL_runs_465 : decode cL_runs 465 = .ok (.iaload, 1) := by decide +kernel
theorem dL_runs_466 : decode cL_runs 466 = .ok (.iastore, 1) := by decide +kernel
theorem dL_runs_467 : decode cL_runs 467 = .ok (.aload 5, 2) := by decide +kernel
theorem dL_runs_469 : decode cL_runs 469 = .ok (.bipush 7, 2) := by decide +kernel
theorem dL_runs_471 : decode cL_runs 471 = .ok (.iload 10, 2) := by decide +kernel
theorem dL_runs_473 : decode cL_runs 473 = .ok (.iastore, 1) := by decide +kernel
theorem dL_runs_474 : decode cL_runs 474 = .ok (.aload 5, 2) := by decide +kernel
theorem dL_runs_476 : decode cL_runs 476 = .ok (.bipush 8, 2) := by decide +kernel
theorem dL_runs_478 : decode cL_runs 478 = .ok (.iload 11, 2) := by decide +kernel
theorem dL_runs_480 : decode cL_runs 480 = .ok (.iastore, 1) := by decide +kernel
theorem dL_runs_481 : decode cL_runs 481 = .ok (.aload 5, 2) := by decide +kernel
theorem dL_runs_483 : decode cL_runs 483 = .ok (.bipush 9, 2) := by decide +kernel
theorem dL_runs_485 : decode cL_runs 485 = .ok (.iload 12, 2) := by decide +kernel
theorem dL_runs_487 : decode cL_runs 487 = .ok (.iastore, 1) := by decide +kernel
theorem dL_runs_488 : decode cL_runs 488 = .ok (.aload 5, 2) := by decide +kernel
theorem dL_runs_490 : decode cL_runs 490 = .ok (.bipush 11, 2) := by decide +kernel
theorem dL_runs_492 : decode cL_runs 492 = .ok (.iload 13, 2) := by decide +kernel
theorem dL_runs_494 : decode cL_runs 494 = .ok (.ifCond .eq 7, 3) := by decide +kernel
theorem dL_runs_497 : decode cL_runs 497 = .ok (.iconst 1, 1) := by decide +kernel
theorem dL_runs_498 : decode cL_runs 498 = .ok (.goto 4, 3) := by decide +kernel
theorem dL_runs_501 : decode cL_runs 501 = .ok (.iconst 0, 1) := by decide +kernel
theorem dL_runs_502 : decode cL_runs 502 = .ok (.iastore, 1) := by decide +kernel
theorem dL_runs_503 : decode cL_runs 503 = .ok (.aload_n 0, 1) := by decide +kernel
theorem dL_runs_504 : decode cL_runs 504 = .ok (.bipush 9, 2) := by decide +kernel
theorem dL_runs_506 : decode cL_runs 506 = .ok (.dup2, 1) := by decide +kernel
theorem dL_runs_507 : decode cL_runs 507 = .ok (.iaload, 1) := by decide +kernel
theorem dL_runs_508 : decode cL_runs 508 = .ok (.iload 13, 2) := by decide +kernel
theorem dL_runs_510 : decode cL_runs 510 = .ok (.ifCond .eq 7, 3) := by decide +kernel
theorem dL_runs_513 : decode cL_runs 513 = .ok (.iconst 1, 1) := by decide +kernel
theorem dL_runs_514 : decode cL_runs 514 = .ok (.goto 4, 3) := by decide +kernel
theorem dL_runs_517 : decode cL_runs 517 = .ok (.iconst 0, 1) := by decide +kernel
theorem dL_runs_518 : decode cL_runs 518 = .ok (.iadd, 1) := by decide +kernel
theorem dL_runs_519 : decode cL_runs 519 = .ok (.iastore, 1) := by decide +kernel
theorem dL_runs_520 : decode cL_runs 520 = .ok (.iload 9, 2) := by decide +kernel
theorem dL_runs_522 : decode cL_runs 522 = .ok (.ifCond .lt 97, 3) := by decide +kernel
theorem dL_runs_525 : decode cL_runs 525 = .ok (.aload 4, 2) := by decide +kernel
theorem dL_runs_527 : decode cL_runs 527 = .ok (.bipush 8, 2) := by decide +kernel
theorem dL_runs_529 : decode cL_runs 529 = .ok (.iload 9, 2) := by decide +kernel
theorem dL_runs_531 : decode cL_runs 531 = .ok (.imul, 1) := by decide +kernel
theorem dL_runs_532 : decode cL_runs 532 = .ok (.iconst 5, 1) := by decide +kernel
theorem dL_runs_533 : decode cL_runs 533 = .ok (.iadd, 1) := by decide +kernel
theorem dL_runs_534 : decode cL_runs 534 = .ok (.dup2, 1) := by decide +kernel
theorem dL_runs_535 : decode cL_runs 535 = .ok (.iaload, 1) := by decide +kernel
theorem dL_runs_536 : decode cL_runs 536 = .ok (.iconst 1, 1) := by decide +kernel
theorem dL_runs_537 : decode cL_runs 537 = .ok (.iadd, 1) := by decide +kernel
theorem dL_runs_538 : decode cL_runs 538 = .ok (.iastore, 1) := by decide +kernel
theorem dL_runs_539 : decode cL_runs 539 = .ok (.aload 4, 2) := by decide +kernel
theorem dL_runs_541 : decode cL_runs 541 = .ok (.bipush 8, 2) := by decide +kernel
theorem dL_runs_543 : decode cL_runs 543 = .ok (.iload 9, 2) := by decide +kernel
theorem dL_runs_545 : decode cL_runs 545 = .ok (.imul, 1) := by decide +kernel
theorem dL_runs_546 : decode cL_runs 546 = .ok (.bipush 6, 2) := by decide +kernel
theorem dL_runs_548 : decode cL_runs 548 = .ok (.iadd, 1) := by decide +kernel
theorem dL_runs_549 : decode cL_runs 549 = .ok (.dup2, 1) := by decide +kernel
theorem dL_runs_550 : decode cL_runs 550 = .ok (.iaload, 1) := by decide +kernel
theorem dL_runs_551 : decode cL_runs 551 = .ok (.iload 13, 2) := by decide +kernel
theorem dL_runs_553 : decode cL_runs 553 = .ok (.ifCond .eq 7, 3) := by decide +kernel
theorem dL_runs_556 : decode cL_runs 556 = .ok (.iconst 2, 1) := by decide +kernel
theorem dL_runs_557 : decode cL_runs 557 = .ok (.goto 4, 3) := by decide +kernel
theorem dL_runs_560 : decode cL_runs 560 = .ok (.iconst 0, 1) := by decide +kernel
theorem dL_runs_561 : decode cL_runs 561 = .ok (.iadd, 1) := by decide +kernel
theorem dL_runs_562 : decode cL_runs 562 = .ok (.iastore, 1) := by decide +kernel
theorem dL_runs_563 : decode cL_runs 563 = .ok (.aload 4, 2) := by decide +kernel
theorem dL_runs_565 : decode cL_runs 565 = .ok (.bipush 8, 2) := by decide +kernel
theorem dL_runs_567 : decode cL_runs 567 = .ok (.iload 9, 2) := by decide +kernel
theorem dL_runs_569 : decode cL_runs 569 = .ok (.imul, 1) := by decide +kernel
theorem dL_runs_570 : decode cL_runs 570 = .ok (.bipush 7, 2) := by decide +kernel
theorem dL_runs_572 : decode cL_runs 572 = .ok (.iadd, 1) := by decide +kernel
theorem dL_runs_573 : decode cL_runs 573 = .ok (.aload_n 0, 1) := by decide +kernel
theorem dL_runs_574 : decode cL_runs 574 = .ok (.bipush 6, 2) := by decide +kernel
theorem dL_runs_576 : decode cL_runs 576 = .ok (.iaload, 1) := by decide +kernel
theorem dL_runs_577 : decode cL_runs 577 = .ok (.iastore, 1) := by decide +kernel
theorem dL_runs_578 : decode cL_runs 578 = .ok (.iload 13, 2) := by decide +kernel
theorem dL_runs_580 : decode cL_runs 580 = .ok (.ifCond .eq 39, 3) := by decide +kernel
theorem dL_runs_583 : decode cL_runs 583 = .ok (.aload 4, 2) := by decide +kernel
theorem dL_runs_585 : decode cL_runs 585 = .ok (.bipush 8, 2) := by decide +kernel
theorem dL_runs_587 : decode cL_runs 587 = .ok (.iload 9, 2) := by decide +kernel
theorem dL_runs_589 : decode cL_runs 589 = .ok (.imul, 1) := by decide +kernel
theorem dL_runs_590 : decode cL_runs 590 = .ok (.bipush 6, 2) := by decide +kernel
theorem dL_runs_592 : decode cL_runs 592 = .ok (.iadd, 1) := by decide +kernel
theorem dL_runs_593 : decode cL_runs 593 = .ok (.iaload, 1) := by decide +kernel
theorem dL_runs_594 : decode cL_runs 594 = .ok (.iconst 2, 1) := by decide +kernel
theorem dL_runs_595 : decode cL_runs 595 = .ok (.idiv, 1) := by decide +kernel
theorem dL_runs_596 : decode cL_runs 596 = .ok (.aload_n 0, 1) := by decide +kernel
theorem dL_runs_597 : decode cL_runs 597 = .ok (.bipush 14, 2) := by decide +kernel
theorem dL_runs_599 : decode cL_runs 599 = .ok (.iaload, 1) := by decide +kernel
theorem dL_runs_600 : decode cL_runs 600 = .ok (.if_icmp .lt 19, 3) := by decide +kernel
theorem dL_runs_603 : decode cL_runs 603 = .ok (.aload_n 0, 1) := by decide +kernel
theorem dL_runs_604 : decode cL_runs 604 = .ok (.aload 4, 2) := by decide +kernel
theorem dL_runs_606 : decode cL_runs 606 = .ok (.iload 9, 2) := by decide +kernel
theorem dL_runs_608 : decode cL_runs 608 = .ok (.invokestatic 58, 3) := by decide +kernel
theorem dL_runs_611 : decode cL_runs 611 = .ok (.aload_n 0, 1) := by decide +kernel
theorem dL_runs_612 : decode cL_runs 612 = .ok (.bipush 10, 2) := by decide +kernel
theorem dL_runs_614 : decode cL_runs 614 = .ok (.dup2, 1) := by decide +kernel
theorem dL_runs_615 : decode cL_runs 615 = .ok (.iaload, 1) := by decide +kernel
theorem dL_runs_616 : decode cL_runs 616 = .ok (.iconst 1, 1) := by decide +kernel
theorem dL_runs_617 : decode cL_runs 617 = .ok (.iadd, 1) := by decide +kernel
theorem dL_runs_618 : decode cL_runs 618 = .ok (.iastore, 1) := by decide +kernel
theorem dL_runs_619 : decode cL_runs 619 = .ok (.iconst 0, 1) := by decide +kernel
theorem dL_runs_620 : decode cL_runs 620 = .ok (.istore 14, 2) := by decide +kernel
theorem dL_runs_622 : decode cL_runs 622 = .ok (.iconst 0, 1) := by decide +kernel
theorem dL_runs_623 : decode cL_runs 623 = .ok (.istore 15, 2) := by decide +kernel
theorem dL_runs_625 : decode cL_runs 625 = .ok (.iload 15, 2) := by decide +kernel
theorem dL_runs_627 : decode cL_runs 627 = .ok (.aload_n 0, 1) := by decide +kernel
theorem dL_runs_628 : decode cL_runs 628 = .ok (.iconst 0, 1) := by decide +kernel
theorem dL_runs_629 : decode cL_runs 629 = .ok (.iaload, 1) := by decide +kernel
theorem dL_runs_630 : decode cL_runs 630 = .ok (.if_icmp .ge 97, 3) := by decide +kernel
theorem dL_runs_633 : decode cL_runs 633 = .ok (.iconst 1, 1) := by decide +kernel
theorem dL_runs_634 : decode cL_runs 634 = .ok (.istore 16, 2) := by decide +kernel
theorem dL_runs_636 : decode cL_runs 636 = .ok (.iconst 0, 1) := by decide +kernel
theorem dL_runs_637 : decode cL_runs 637 = .ok (.istore 17, 2) := by decide +kernel
theorem dL_runs_639 : decode cL_runs 639 = .ok (.iload 17, 2) := by decide +kernel
theorem dL_runs_641 : decode cL_runs 641 = .ok (.aload_n 3, 1) := by decide +kernel
theorem dL_runs_642 : decode cL_runs 642 = .ok (.iload 6, 2) := by decide +kernel
theorem dL_runs_644 : decode cL_runs 644 = .ok (.invokestatic 40, 3) := by decide +kernel
theorem dL_runs_647 : decode cL_runs 647 = .ok (.if_icmp .ge 54, 3) := by decide +kernel
theorem dL_runs_650 : decode cL_runs 650 = .ok (.aload_n 3, 1) := by decide +kernel
theorem dL_runs_651 : decode cL_runs 651 = .ok (.iload 6, 2) := by decide +kernel
theorem dL_runs_653 : decode cL_runs 653 = .ok (.iload 17, 2) := by decide +kernel
theorem dL_runs_655 : decode cL_runs 655 = .ok (.invokestatic 33, 3) := by decide +kernel
theorem dL_runs_658 : decode cL_runs 658 = .ok (.istore 18, 2) := by decide +kernel
theorem dL_runs_660 : decode cL_runs 660 = .ok (.iload 16, 2) := by decide +kernel
theorem dL_runs_662 : decode cL_runs 662 = .ok (.ifCond .eq 30, 3) := by decide +kernel
theorem dL_runs_665 : decode cL_runs 665 = .ok (.iload 18, 2) := by decide +kernel
theorem dL_runs_667 : decode cL_runs 667 = .ok (.aload_n 1, 1) := by decide +kernel
theorem dL_runs_668 : decode cL_runs 668 = .ok (.iload 15, 2) := by decide +kernel
theorem dL_runs_670 : decode cL_runs 670 = .ok (.iload 18, 2) := by decide +kernel
theorem dL_runs_672 : decode cL_runs 672 = .ok (.iconst 3, 1) := by decide +kernel
theorem dL_runs_673 : decode cL_runs 673 = .ok (.idiv, 1) := by decide +kernel
theorem dL_runs_674 : decode cL_runs 674 = .ok (.invokestatic 25, 3) := by decide +kernel
theorem dL_runs_677 : decode cL_runs 677 = .ok (.aload 7, 2) := by decide +kernel
theorem dL_runs_679 : decode cL_runs 679 = .ok (.iload 17, 2) := by decide +kernel
theorem dL_runs_681 : decode cL_runs 681 = .ok (.iaload, 1) := by decide +kernel
theorem dL_runs_682 : decode cL_runs 682 = .ok (.invokestatic 17, 3) := by decide +kernel
theorem dL_runs_685 : decode cL_runs 685 = .ok (.ifCond .eq 7, 3) := by decide +kernel
theorem dL_runs_688 : decode cL_runs 688 = .ok (.iconst 1, 1) := by decide +kernel
theorem dL_runs_689 : decode cL_runs 689 = .ok (.goto 4, 3) := by decide +kernel
theorem dL_runs_692 : decode cL_runs 692 = .ok (.iconst 0, 1) := by decide +kernel
theorem dL_runs_693 : decode cL_runs 693 = .ok (.istore 16, 2) := by decide +kernel
theorem dL_runs_695 : decode cL_runs 695 = .ok (.iinc 17 1, 3) := by decide +kernel
theorem dL_runs_698 : decode cL_runs 698 = .ok (.goto (-59), 3) := by decide +kernel
theorem dL_runs_701 : decode cL_runs 701 = .ok (.iload 14, 2) := by decide +kernel
theorem dL_runs_703 : decode cL_runs 703 = .ok (.iload 16, 2) := by decide +kernel
theorem dL_runs_705 : decode cL_runs 705 = .ok (.ifCond .eq 12, 3) := by decide +kernel
theorem dL_runs_708 : decode cL_runs 708 = .ok (.aload_n 1, 1) := by decide +kernel
theorem dL_runs_709 : decode cL_runs 709 = .ok (.iload 15, 2) := by decide +kernel
theorem dL_runs_711 : decode cL_runs 711 = .ok (.invokestatic 11, 3) := by decide +kernel
theorem dL_runs_714 : decode cL_runs 714 = .ok (.goto 4, 3) := by decide +kernel
theorem dL_runs_717 : decode cL_runs 717 = .ok (.iconst 0, 1) := by decide +kernel
theorem dL_runs_718 : decode cL_runs 718 = .ok (.iadd, 1) := by decide +kernel
theorem dL_runs_719 : decode cL_runs 719 = .ok (.istore 14, 2) := by decide +kernel
theorem dL_runs_721 : decode cL_runs 721 = .ok (.iinc 15 1, 3) := by decide +kernel
theorem dL_runs_724 : decode cL_runs 724 = .ok (.goto (-99), 3) := by decide +kernel
theorem dL_runs_727 : decode cL_runs 727 = .ok (.iload 14, 2) := by decide +kernel
theorem dL_runs_729 : decode cL_runs 729 = .ok (.ireturn, 1) := by decide +kernel
theorem dL_tells_0 : decode cL_tells 0 = .ok (.iconst 1, 1) := by decide +kernel
theorem dL_tells_1 : decode cL_tells 1 = .ok (.iload_n 3, 1) := by decide +kernel
theorem dL_tells_2 : decode cL_tells 2 = .ok (.iconst 4, 1) := by decide +kernel
theorem dL_tells_3 : decode cL_tells 3 = .ok (.irem, 1) := by decide +kernel
theorem dL_tells_4 : decode cL_tells 4 = .ok (.iadd, 1) := by decide +kernel
theorem dL_tells_5 : decode cL_tells 5 = .ok (.istore 4, 2) := by decide +kernel
theorem dL_tells_7 : decode cL_tells 7 = .ok (.iload_n 3, 1) := by decide +kernel
theorem dL_tells_8 : decode cL_tells 8 = .ok (.iconst 4, 1) := by decide +kernel
theorem dL_tells_9 : decode cL_tells 9 = .ok (.idiv, 1) := by decide +kernel
theorem dL_tells_10 : decode cL_tells 10 = .ok (.istore 5, 2) := by decide +kernel
theorem dL_tells_12 : decode cL_tells 12 = .ok (.aload_n 0, 1) := by decide +kernel
theorem dL_tells_13 : decode cL_tells 13 = .ok (.invokevirtual 62, 3) := by decide +kernel
theorem dL_tells_16 : decode cL_tells 16 = .ok (.ifCond .lt 7, 3) := by decide +kernel
theorem dL_tells_19 : decode cL_tells 19 = .ok (.iconst 1, 1) := by decide +kernel
theorem dL_tells_20 : decode cL_tells 20 = .ok (.goto 4, 3) := by decide +kernel
theorem dL_tells_23 : decode cL_tells 23 = .ok (.iconst 0, 1) := by decide +kernel
theorem dL_tells_24 : decode cL_tells 24 = .ok (.istore 6, 2) := by decide +kernel
theorem dL_tells_26 : decode cL_tells 26 = .ok (.iconst 0, 1) := by decide +kernel
theorem dL_tells_27 : decode cL_tells 27 = .ok (.istore 7, 2) := by decide +kernel
theorem dL_tells_29 : decode cL_tells 29 = .ok (.iload 7, 2) := by decide +kernel
theorem dL_tells_31 : decode cL_tells 31 = .ok (.iload 4, 2) := by decide +kernel
theorem dL_tells_33 : decode cL_tells 33 = .ok (.if_icmp .ge 112, 3) := by decide +kernel
theorem dL_tells_36 : decode cL_tells 36 = .ok (.iload 5, 2) := by decide +kernel
theorem dL_tells_38 : decode cL_tells 38 = .ok (.bipush 12, 2) := by decide +kernel
theorem dL_tells_40 : decode cL_tells 40 = .ok (.irem, 1) := by decide +kernel
theorem dL_tells_41 : decode cL_tells 41 = .ok (.istore 8, 2) := by decide +kernel
theorem dL_tells_43 : decode cL_tells 43 = .ok (.iload 5, 2) := by decide +kernel
theorem dL_tells_45 : decode cL_tells 45 = .ok (.bipush 12, 2) := by decide +kernel
theorem dL_tells_47 : decode cL_tells 47 = .ok (.idiv, 1) := by decide +kernel
theorem dL_tells_48 : decode cL_tells 48 = .ok (.istore 5, 2) := by decide +kernel
theorem dL_tells_50 : decode cL_tells 50 = .ok (.iload 6, 2) := by decide +kernel
theorem dL_tells_52 : decode cL_tells 52 = .ok (.ifCond .eq 84, 3) := by decide +kernel
theorem dL_tells_55 : decode cL_tells 55 = .ok (.iload 7, 2) := by decide +kernel
theorem dL_tells_57 : decode cL_tells 57 = .ok (.ifCond .eq 12, 3) := by decide +kernel
theorem dL_tells_60 : decode cL_tells 60 = .ok (.aload_n 0, 1) := by decide +kernel
theorem dL_tells_61 : decode cL_tells 61 = .ok (.bipush 38, 2) := by decide +kernel
theorem dL_tells_63 : decode cL_tells 63 = .ok (.invokevirtual 68, 3) := by decide +kernel
theorem dL_tells_66 : decode cL_tells 66 = .ok (.ifCond .le 70, 3) := by decide +kernel
theorem dL_tells_69 : decode cL_tells 69 = .ok (.aload_n 0, 1) := by decide +kernel
theorem dL_tells_70 : decode cL_tells 70 = .ok (.bipush 97, 2) := by decide +kernel
theorem dL_tells_72 : decode cL_tells 72 = .ok (.iload 8, 2) := by decide +kernel
theorem dL_tells_74 : decode cL_tells 74 = .ok (.iconst 3, 1) := by decide +kernel
theorem dL_tells_75 : decode cL_tells 75 = .ok (.idiv, 1) := by decide +kernel
theorem dL_tells_76 : decode cL_tells 76 = .ok (.iadd, 1) := by decide +kernel
theorem dL_tells_77 : decode cL_tells 77 = .ok (.invokevirtual 68, 3) := by decide +kernel
theorem dL_tells_80 : decode cL_tells 80 = .ok (.ifCond .le 56, 3) := by decide +kernel
theorem dL_tells_83 : decode cL_tells 83 = .ok (.aload_n 0, 1) := by decide +kernel
theorem dL_tells_84 : decode cL_tells 84 = .ok (.iload 8, 2) := by decide +kernel
theorem dL_tells_86 : decode cL_tells 86 = .ok (.iconst 3, 1) := by decide +kernel
theorem dL_tells_87 : decode cL_tells 87 = .ok (.irem, 1) := by decide +kernel
theorem dL_tells_88 : decode cL_tells 88 = .ok (.ifCond .ne 8, 3) := by decide +kernel
theorem dL_tells_91 : decode cL_tells 91 = .ok (.bipush 61, 2) := by decide +kernel
theorem dL_tells_93 : decode cL_tells 93 = .ok (.goto 18, 3) := by decide +kernel
theorem dL_tells_96 : decode cL_tells 96 = .ok (.iload 8, 2) := by decide +kernel
theorem dL_tells_98 : decode cL_tells 98 = .ok (.iconst 3, 1) := by decide +kernel
theorem dL_tells_99 : decode cL_tells 99 = .ok (.irem, 1) := by decide +kernel
theorem dL_tells_100 : decode cL_tells 100 = .ok (.iconst 1, 1) := by decide +kernel
theorem dL_tells_101 : decode cL_tells 101 = .ok (.if_icmp .ne 8, 3) := by decide +kernel
theorem dL_tells_104 : decode cL_tells 104 = .ok (.bipush 60, 2) := by decide +kernel
theorem dL_tells_106 : decode cL_tells 106 = .ok (.goto 5, 3) := by decide +kernel
theorem dL_tells_109 : decode cL_tells 109 = .ok (.bipush 62, 2) := by decide +kernel
theorem dL_tells_111 : decode cL_tells 111 = .ok (.invokevirtual 68, 3) := by decide +kernel
theorem dL_tells_114 : decode cL_tells 114 = .ok (.ifCond .le 22, 3) := by decide +kernel
theorem dL_tells_117 : decode cL_tells 117 = .ok (.aload_n 0, 1) := by decide +kernel
theorem dL_tells_118 : decode cL_tells 118 = .ok (.bipush 63, 2) := by decide +kernel
theorem dL_tells_120 : decode cL_tells 120 = .ok (.invokevirtual 68, 3) := by decide +kernel
theorem dL_tells_123 : decode cL_tells 123 = .ok (.iconst 4, 1) := by decide +kernel
theorem dL_tells_124 : decode cL_tells 124 = .ok (.iload 7, 2) := by decide +kernel
theorem dL_tells_126 : decode cL_tells 126 = .ok (.imul, 1) := by decide +kernel
theorem dL_tells_127 : decode cL_tells 127 = .ok (.iconst 3, 1) := by decide +kernel
theorem dL_tells_128 : decode cL_tells 128 = .ok (.iadd, 1) := by decide +kernel
theorem dL_tells_129 : decode cL_tells 129 = .ok (.if_icmp .ne 7, 3) := by decide +kernel
theorem dL_tells_132 : decode cL_tells 132 = .ok (.iconst 1, 1) := by decide +kernel
theorem dL_tells_133 : decode cL_tells 133 = .ok (.goto 4, 3) := by decide +kernel
theorem dL_tells_136 : decode cL_tells 136 = .ok (.iconst 0, 1) := by decide +kernel
theorem dL_tells_137 : decode cL_tells 137 = .ok (.istore 6, 2) := by decide +kernel
theorem dL_tells_139 : decode cL_tells 139 = .ok (.iinc 7 1, 3) := by decide +kernel
theorem dL_tells_142 : decode cL_tells 142 = .ok (.goto (-113), 3) := by decide +kernel
theorem dL_tells_145 : decode cL_tells 145 = .ok (.iload 4, 2) := by decide +kernel
theorem dL_tells_147 : decode cL_tells 147 = .ok (.istore 7, 2) := by decide +kernel
theorem dL_tells_149 : decode cL_tells 149 = .ok (.bipush 10, 2) := by decide +kernel
theorem dL_tells_151 : decode cL_tells 151 = .ok (.istore 8, 2) := by decide +kernel
theorem dL_tells_153 : decode cL_tells 153 = .ok (.iconst 0, 1) := by decide +kernel
theorem dL_tells_154 : decode cL_tells 154 = .ok (.istore 9, 2) := by decide +kernel
theorem dL_tells_156 : decode cL_tells 156 = .ok (.iload 9, 2) := by decide +kernel
theorem dL_tells_158 : decode cL_tells 158 = .ok (.iload 4, 2) := by decide +kernel
theorem dL_tells_160 : decode cL_tells 160 = .ok (.if_icmp .ge 57, 3) := by decide +kernel
theorem dL_tells_163 : decode cL_tells 163 = .ok (.iload_n 3, 1) := by decide +kernel
theorem dL_tells_164 : decode cL_tells 164 = .ok (.iconst 4, 1) := by decide +kernel
theorem dL_tells_165 : decode cL_tells 165 = .ok (.idiv, 1) := by decide +kernel
theorem dL_tells_166 : decode cL_tells 166 = .ok (.istore 10, 2) := by decide +kernel
theorem dL_tells_168 : decode cL_tells 168 = .ok (.iconst 0, 1) := by decide +kernel
theorem dL_tells_169 : decode cL_tells 169 = .ok (.istore 11, 2) := by decide +kernel
theorem dL_tells_171 : decode cL_tells 171 = .ok (.iload 11, 2) := by decide +kernel
theorem dL_tells_173 : decode cL_tells 173 = .ok (.iload 9, 2) := by decide +kernel
theorem dL_tells_175 : decode cL_tells 175 = .ok (.if_icmp .ge 16, 3) := by decide +kernel
theorem dL_tells_178 : decode cL_tells 178 = .ok (.iload 10, 2) := by decide +kernel
theorem dL_tells_180 : decode cL_tells 180 = .ok (.bipush 12, 2) := by decide +kernel
theorem dL_tells_182 : decode cL_tells 182 = .ok (.idiv, 1) := by decide +kernel
theorem dL_tells_183 : decode cL_tells 183 = .ok (.istore 10, 2) := by decide +kernel
theorem dL_tells_185 : decode cL_tells 185 = .ok (.iinc 11 1, 3) := by decide +kernel
theorem dL_tells_188 : decode cL_tells 188 = .ok (.goto (-17), 3) := by decide +kernel
theorem dL_tells_191 : decode cL_tells 191 = .ok (.iload 7, 2) := by decide +kernel
theorem dL_tells_193 : decode cL_tells 193 = .ok (.iload 8, 2) := by decide +kernel
theorem dL_tells_195 : decode cL_tells 195 = .ok (.iload 10, 2) := by decide +kernel
theorem dL_tells_197 : decode cL_tells 197 = .ok (.bipush 12, 2) := by decide +kernel
theorem dL_tells_199 : decode cL_tells 199 = .ok (.irem, 1) := by decide +kernel
theorem dL_tells_200 : decode cL_tells 200 = .ok (.imul, 1) := by decide +kernel
theorem dL_tells_201 : decode cL_tells 201 = .ok (.iadd, 1) := by decide +kernel
theorem dL_tells_202 : decode cL_tells 202 = .ok (.istore 7, 2) := by decide +kernel
theorem dL_tells_204 : decode cL_tells 204 = .ok (.iload 8, 2) := by decide +kernel
theorem dL_tells_206 : decode cL_tells 206 = .ok (.bipush 12, 2) := by decide +kernel
theorem dL_tells_208 : decode cL_tells 208 = .ok (.imul, 1) := by decide +kernel
theorem dL_tells_209 : decode cL_tells 209 = .ok (.istore 8, 2) := by decide +kernel
theorem dL_tells_211 : decode cL_tells 211 = .ok (.iinc 9 1, 3) := by decide +kernel
theorem dL_tells_214 : decode cL_tells 214 = .ok (.goto (-58), 3) := by decide +kernel
theorem dL_tells_217 : decode cL_tells 217 = .ok (.iconst 0, 1) := by decide +kernel
theorem dL_tells_218 : decode cL_tells 218 = .ok (.istore 9, 2) := by decide +kernel
theorem dL_tells_220 : decode cL_tells 220 = .ok (.iload 9, 2) := by decide +kernel
theorem dL_tells_222 : decode cL_tells 222 = .ok (.aload_n 1, 1) := by decide +kernel
theorem dL_tells_223 : decode cL_tells 223 = .ok (.iconst 3, 1) := by decide +kernel
theorem dL_tells_224 : decode cL_tells 224 = .ok (.iaload, 1) := by decide +kernel
theorem dL_tells_225 : decode cL_tells 225 = .ok (.if_icmp .ge 20, 3) := by decide +kernel
theorem dL_tells_228 : decode cL_tells 228 = .ok (.aload_n 2, 1) := by decide +kernel
theorem dL_tells_229 : decode cL_tells 229 = .ok (.iconst 2, 1) := by decide +kernel
theorem dL_tells_230 : decode cL_tells 230 = .ok (.iload 9, 2) := by decide +kernel
theorem dL_tells_232 : decode cL_tells 232 = .ok (.imul, 1) := by decide +kernel
theorem dL_tells_233 : decode cL_tells 233 = .ok (.iaload, 1) := by decide +kernel
theorem dL_tells_234 : decode cL_tells 234 = .ok (.iload 7, 2) := by decide +kernel
theorem dL_tells_236 : decode cL_tells 236 = .ok (.if_icmp .eq 9, 3) := by decide +kernel
theorem dL_tells_239 : decode cL_tells 239 = .ok (.iinc 9 1, 3) := by decide +kernel
theorem dL_tells_242 : decode cL_tells 242 = .ok (.goto (-22), 3) := by decide +kernel
theorem dL_tells_245 : decode cL_tells 245 = .ok (.iload 9, 2) := by decide +kernel
theorem dL_tells_247 : decode cL_tells 247 = .ok (.aload_n 1, 1) := by decide +kernel
theorem dL_tells_248 : decode cL_tells 248 = .ok (.iconst 3, 1) := by decide +kernel
theorem dL_tells_249 : decode cL_tells 249 = .ok (.iaload, 1) := by decide +kernel
theorem dL_tells_250 : decode cL_tells 250 = .ok (.if_icmp .ne 34, 3) := by decide +kernel
theorem dL_tells_253 : decode cL_tells 253 = .ok (.iload 9, 2) := by decide +kernel
theorem dL_tells_255 : decode cL_tells 255 = .ok (.bipush 6, 2) := by decide +kernel
theorem dL_tells_257 : decode cL_tells 257 = .ok (.if_icmp .ge 27, 3) := by decide +kernel
theorem dL_tells_260 : decode cL_tells 260 = .ok (.aload_n 2, 1) := by decide +kernel
theorem dL_tells_261 : decode cL_tells 261 = .ok (.iconst 2, 1) := by decide +kernel
theorem dL_tells_262 : decode cL_tells 262 = .ok (.iload 9, 2) := by decide +kernel
theorem dL_tells_264 : decode cL_tells 264 = .ok (.imul, 1) := by decide +kernel
theorem dL_tells_265 : decode cL_tells 265 = .ok (.iload 7, 2) := by decide +kernel
theorem dL_tells_267 : decode cL_tells 267 = .ok (.iastore, 1) := by decide +kernel
theorem dL_tells_268 : decode cL_tells 268 = .ok (.aload_n 2, 1) := by decide +kernel
theorem dL_tells_269 : decode cL_tells 269 = .ok (.iconst 2, 1) := by decide +kernel
theorem dL_tells_270 : decode cL_tells 270 = .ok (.iload 9, 2) := by decide +kernel
theorem dL_tells_272 : decode cL_tells 272 = .ok (.imul, 1) := by decide +kernel
theorem dL_tells_273 : decode cL_tells 273 = .ok (.iconst 1, 1) := by decide +kernel
theorem dL_tells_274 : decode cL_tells 274 = .ok (.iadd, 1) := by decide +kernel
theorem dL_tells_275 : decode cL_tells 275 = .ok (.iconst 0, 1) := by decide +kernel
theorem dL_tells_276 : decode cL_tells 276 = .ok (.iastore, 1) := by decide +kernel
theorem dL_tells_277 : decode cL_tells 277 = .ok (.aload_n 1, 1) := by decide +kernel
theorem dL_tells_278 : decode cL_tells 278 = .ok (.iconst 3, 1) := by decide +kernel
theorem dL_tells_279 : decode cL_tells 279 = .ok (.dup2, 1) := by decide +kernel
theorem dL_tells_280 : decode cL_tells 280 = .ok (.iaload, 1) := by decide +kernel
theorem dL_tells_281 : decode cL_tells 281 = .ok (.iconst 1, 1) := by decide +kernel
theorem dL_tells_282 : decode cL_tells 282 = .ok (.iadd, 1) := by decide +kernel
theorem dL_tells_283 : decode cL_tells 283 = .ok (.iastore, 1) := by decide +kernel
theorem dL_tells_284 : decode cL_tells 284 = .ok (.iload 6, 2) := by decide +kernel
theorem dL_tells_286 : decode cL_tells 286 = .ok (.ifCond .eq 51, 3) := by decide +kernel
theorem dL_tells_289 : decode cL_tells 289 = .ok (.aload_n 0, 1) := by decide +kernel
theorem dL_tells_290 : decode cL_tells 290 = .ok (.iconst 0, 1) := by decide +kernel
theorem dL_tells_291 : decode cL_tells 291 = .ok (.invokevirtual 72, 3) := by decide +kernel
theorem dL_tells_294 : decode cL_tells 294 = .ok (.bipush (-4), 2) := by decide +kernel
theorem dL_tells_296 : decode cL_tells 296 = .ok (.if_icmp .ne 41, 3) := by decide +kernel
theorem dL_tells_299 : decode cL_tells 299 = .ok (.aload_n 0, 1) := by decide +kernel
theorem dL_tells_300 : decode cL_tells 300 = .ok (.invokevirtual 75, 3) := by decide +kernel
theorem dL_tells_303 : decode cL_tells 303 = .ok (.iload 9, 2) := by decide +kernel
theorem dL_tells_305 : decode cL_tells 305 = .ok (.bipush 6, 2) := by decide +kernel
theorem dL_tells_307 : decode cL_tells 307 = .ok (.if_icmp .ne 8, 3) := by decide +kernel
theorem dL_tells_310 : decode cL_tells 310 = .ok (.bipush (-3), 2) := by decide +kernel
theorem dL_tells_312 : decode cL_tells 312 = .ok (.goto 5, 3) := by decide +kernel
theorem dL_tells_315 : decode cL_tells 315 = .ok (.iload 9, 2) := by decide +kernel
theorem dL_tells_317 : decode cL_tells 317 = .ok (.if_icmp .ne 20, 3) := by decide +kernel
theorem dL_tells_320 : decode cL_tells 320 = .ok (.aload_n 0, 1) := by decide +kernel
theorem dL_tells_321 : decode cL_tells 321 = .ok (.invokevirtual 62, 3) := by decide +kernel
theorem dL_tells_324 : decode cL_tells 324 = .ok (.iconst 4, 1) := by decide +kernel
theorem dL_tells_325 : decode cL_tells 325 = .ok (.iload 4, 2) := by decide +kernel
theorem dL_tells_327 : decode cL_tells 327 = .ok (.imul, 1) := by decide +kernel
theorem dL_tells_328 : decode cL_tells 328 = .ok (.iconst 1, 1) := by decide +kernel
theorem dL_tells_329 : decode cL_tells 329 = .ok (.isub, 1) := by decide +kernel
theorem dL_tells_330 : decode cL_tells 330 = .ok (.if_icmp .ne 7, 3) := by decide +kernel
theorem dL_tells_333 : decode cL_tells 333 = .ok (.iconst 1, 1) := by decide +kernel
theorem dL_tells_334 : decode cL_tells 334 = .ok (.goto 4, 3) := by decide +kernel
theorem dL_tells_337 : decode cL_tells 337 = .ok (.iconst 0, 1) := by decide +kernel
theorem dL_tells_338 : decode cL_tells 338 = .ok (.ireturn, 1) := by decide +kernel
theorem dL_changes_0 : decode cL_changes 0 = .ok (.iload 6, 2) := by decide +kernel
theorem dL_changes_2 : decode cL_changes 2 = .ok (.iconst 3, 1) := by decide +kernel
theorem dL_changes_3 : decode cL_changes 3 = .ok (.if_icmp .ge 164, 3) := by decide +kernel
theorem dL_changes_6 : decode cL_changes 6 = .ok (.iconst 1, 1) := by decide +kernel
theorem dL_changes_7 : decode cL_changes 7 = .ok (.iload 7, 2) := by decide +kernel
theorem dL_changes_9 : decode cL_changes 9 = .ok (.bipush 7, 2) := by decide +kernel
theorem dL_changes_11 : decode cL_changes 11 = .ok (.idiv, 1) := by decide +kernel
theorem dL_changes_12 : decode cL_changes 12 = .ok (.iload 7, 2) := by decide +kernel
theorem dL_changes_14 : decode cL_changes 14 = .ok (.iconst 4, 1) := by decide +kernel
theorem dL_changes_15 : decode cL_changes 15 = .ok (.irem, 1) := by decide +kernel
theorem dL_changes_16 : decode cL_changes 16 = .ok (.ifCond .ne 9, 3) := by decide +kernel
theorem dL_changes_19 : decode cL_changes 19 = .ok (.sipush 999, 3) := by decide +kernel
theorem dL_changes_22 : decode cL_changes 22 = .ok (.goto 5, 3) := by decide +kernel
theorem dL_changes_25 : decode cL_changes 25 = .ok (.bipush 40, 2) := by decide +kernel
theorem dL_changes_27 : decode cL_changes 27 = .ok (.irem, 1) := by decide +kernel
theorem dL_changes_28 : decode cL_changes 28 = .ok (.iadd, 1) := by decide +kernel
theorem dL_changes_29 : decode cL_changes 29 = .ok (.istore 8, 2) := by decide +kernel
theorem dL_changes_31 : decode cL_changes 31 = .ok (.iload 7, 2) := by decide +kernel
theorem dL_changes_33 : decode cL_changes 33 = .ok (.bipush 32, 2) := by decide +kernel
theorem dL_changes_35 : decode cL_changes 35 = .ok (.irem, 1) := by decide +kernel
theorem dL_changes_36 : decode cL_changes 36 = .ok (.bipush 32, 2) := by decide +kernel
theorem dL_changes_38 : decode cL_changes 38 = .ok (.iload 7, 2) := by decide +kernel
theorem dL_changes_40 : decode cL_changes 40 = .ok (.iconst 5, 1) := by decide +kernel
theorem dL_changes_41 : decode cL_changes 41 = .ok (.idiv, 1) := by decide +kernel
theorem dL_changes_42 : decode cL_changes 42 = .ok (.bipush 32, 2) := by decide +kernel
theorem dL_changes_44 : decode cL_changes 44 = .ok (.irem, 1) := by decide +kernel
theorem dL_changes_45 : decode cL_changes 45 = .ok (.imul, 1) := by decide +kernel
theorem dL_changes_46 : decode cL_changes 46 = .ok (.iadd, 1) := by decide +kernel
theorem dL_changes_47 : decode cL_changes 47 = .ok (.sipush 1024, 3) := by decide +kernel
theorem dL_changes_50 : decode cL_changes 50 = .ok (.iload 7, 2) := by decide +kernel
theorem dL_changes_52 : decode cL_changes 52 = .ok (.sipush 160, 3) := by decide +kernel
theorem dL_changes_55 : decode cL_changes 55 = .ok (.idiv, 1) := by decide +kernel
theorem dL_changes_56 : decode cL_changes 56 = .ok (.bipush 8, 2) := by decide +kernel
theorem dL_changes_58 : decode cL_changes 58 = .ok (.irem, 1) := by decide +kernel
theorem dL_changes_59 : decode cL_changes 59 = .ok (.imul, 1) := by decide +kernel
theorem dL_changes_60 : decode cL_changes 60 = .ok (.iadd, 1) := by decide +kernel
theorem dL_changes_61 : decode cL_changes 61 = .ok (.ldc 78, 2) := by decide +kernel
theorem dL_changes_63 : decode cL_changes 63 = .ok (.iload 7, 2) := by decide +kernel
theorem dL_changes_65 : decode cL_changes 65 = .ok (.iconst 3, 1) := by decide +kernel
theorem dL_changes_66 : decode cL_changes 66 = .ok (.idiv, 1) := by decide +kernel
theorem dL_changes_67 : decode cL_changes 67 = .ok (.iconst 4, 1) := by decide +kernel
theorem dL_changes_68 : decode cL_changes 68 = .ok (.irem, 1) := by decide +kernel
theorem dL_changes_69 : decode cL_changes 69 = .ok (.imul, 1) := by decide +kernel
theorem dL_changes_70 : decode cL_changes 70 = .ok (.iadd, 1) := by decide +kernel
theorem dL_changes_71 : decode cL_changes 71 = .ok (.istore 9, 2) := by decide +kernel
theorem dL_changes_73 : decode cL_changes 73 = .ok (.aload_n 1, 1) := by decide +kernel
theorem dL_changes_74 : decode cL_changes 74 = .ok (.iconst 0, 1) := by decide +kernel
theorem dL_changes_75 : decode cL_changes 75 = .ok (.iaload, 1) := by decide +kernel
theorem dL_changes_76 : decode cL_changes 76 = .ok (.bipush 30, 2) := by decide +kernel
theorem dL_changes_78 : decode cL_changes 78 = .ok (.if_icmp .ge 23, 3) := by decide +kernel
theorem dL_changes_81 : decode cL_changes 81 = .ok (.aload_n 2, 1) := by decide +kernel
theorem dL_changes_82 : decode cL_changes 82 = .ok (.aload_n 1, 1) := by decide +kernel
theorem dL_changes_83 : decode cL_changes 83 = .ok (.iconst 0, 1) := by decide +kernel
theorem dL_changes_84 : decode cL_changes 84 = .ok (.iaload, 1) := by decide +kernel
theorem dL_changes_85 : decode cL_changes 85 = .ok (.iload 9, 2) := by decide +kernel
theorem dL_changes_87 : decode cL_changes 87 = .ok (.ldc 79, 2) := by decide +kernel
theorem dL_changes_89 : decode cL_changes 89 = .ok (.iload 8, 2) := by decide +kernel
theorem dL_changes_91 : decode cL_changes 91 = .ok (.imul, 1) := by decide +kernel
theorem dL_changes_92 : decode cL_changes 92 = .ok (.iadd, 1) := by decide +kernel
theorem dL_changes_93 : decode cL_changes 93 = .ok (.iastore, 1) := by decide +kernel
theorem dL_changes_94 : decode cL_changes 94 = .ok (.aload_n 1, 1) := by decide +kernel
theorem dL_changes_95 : decode cL_changes 95 = .ok (.iconst 0, 1) := by decide +kernel
theorem dL_changes_96 : decode cL_changes 96 = .ok (.dup2, 1) := by decide +kernel
theorem dL_changes_97 : decode cL_changes 97 = .ok (.iaload, 1) := by decide +kernel
theorem dL_changes_98 : decode cL_changes 98 = .ok (.iconst 1, 1) := by decide +kernel
theorem dL_changes_99 : decode cL_changes 99 = .ok (.iadd, 1) := by decide +kernel
theorem dL_changes_100 : decode cL_changes 100 = .ok (.iastore, 1) := by decide +kernel
theorem dL_changes_101 : decode cL_changes 101 = .ok (.aload_n 0, 1) := by decide +kernel
theorem dL_changes_102 : decode cL_changes 102 = .ok (.iload 9, 2) := by decide +kernel
theorem dL_changes_104 : decode cL_changes 104 = .ok (.bipush 32, 2) := by decide +kernel
theorem dL_changes_106 : decode cL_changes 106 = .ok (.irem, 1) := by decide +kernel
theorem dL_changes_107 : decode cL_changes 107 = .ok (.iload 9, 2) := by decide +kernel
theorem dL_changes_109 : decode cL_changes 109 = .ok (.bipush 32, 2) := by decide +kernel
theorem dL_changes_111 : decode cL_changes 111 = .ok (.idiv, 1) := by decide +kernel
theorem dL_changes_112 : decode cL_changes 112 = .ok (.bipush 32, 2) := by decide +kernel
theorem dL_changes_114 : decode cL_changes 114 = .ok (.irem, 1) := by decide +kernel
theorem dL_changes_115 : decode cL_changes 115 = .ok (.iload 9, 2) := by decide +kernel
theorem dL_changes_117 : decode cL_changes 117 = .ok (.sipush 1024, 3) := by decide +kernel
theorem dL_changes_120 : decode cL_changes 120 = .ok (.idiv, 1) := by decide +kernel
theorem dL_changes_121 : decode cL_changes 121 = .ok (.bipush 32, 2) := by decide +kernel
theorem dL_changes_123 : decode cL_changes 123 = .ok (.irem, 1) := by decide +kernel
theorem dL_changes_124 : decode cL_changes 124 = .ok (.iload 9, 2) := by decide +kernel
theorem dL_changes_126 : decode cL_changes 126 = .ok (.ldc 78, 2) := by decide +kernel
theorem dL_changes_128 : decode cL_changes 128 = .ok (.idiv, 1) := by decide +kernel
theorem dL_changes_129 : decode cL_changes 129 = .ok (.iload 8, 2) := by decide +kernel
theorem dL_changes_131 : decode cL_changes 131 = .ok (.invokevirtual 80, 3) := by decide +kernel
theorem dL_changes_134 : decode cL_changes 134 = .ok (.istore 10, 2) := by decide +kernel
theorem dL_changes_136 : decode cL_changes 136 = .ok (.iload 10, 2) := by decide +kernel
theorem dL_changes_138 : decode cL_changes 138 = .ok (.aload_n 1, 1) := by decide +kernel
theorem dL_changes_139 : decode cL_changes 139 = .ok (.iconst 0, 1) := by decide +kernel
theorem dL_changes_140 : decode cL_changes 140 = .ok (.iaload, 1) := by decide +kernel
theorem dL_changes_141 : decode cL_changes 141 = .ok (.iconst 1, 1) := by decide +kernel
theorem dL_changes_142 : decode cL_changes 142 = .ok (.isub, 1) := by decide +kernel
theorem dL_changes_143 : decode cL_changes 143 = .ok (.if_icmp .eq 18, 3) := by decide +kernel
theorem dL_changes_146 : decode cL_changes 146 = .ok (.iload 10, 2) := by decide +kernel
theorem dL_changes_148 : decode cL_changes 148 = .ok (.bipush (-3), 2) := by decide +kernel
theorem dL_changes_150 : decode cL_changes 150 = .ok (.if_icmp .ne 15, 3) := by decide +kernel
theorem dL_changes_153 : decode cL_changes 153 = .ok (.aload_n 1, 1) := by decide +kernel
theorem dL_changes_154 : decode cL_changes 154 = .ok (.iconst 0, 1) := by decide +kernel
theorem dL_changes_155 : decode cL_changes 155 = .ok (.iaload, 1) := by decide +kernel
theorem dL_changes_156 : decode cL_changes 156 = .ok (.bipush 30, 2) := by decide +kernel
theorem dL_changes_158 : decode cL_changes 158 = .ok (.if_icmp .ne 7, 3) := by decide +kernel
theorem dL_changes_161 : decode cL_changes 161 = .ok (.iconst 1, 1) := by decide +kernel
theorem dL_changes_162 : decode cL_changes 162 = .ok (.goto 4, 3) := by decide +kernel
theorem dL_changes_165 : decode cL_changes 165 = .ok (.iconst 0, 1) := by decide +kernel
theorem dL_changes_166 : decode cL_changes 166 = .ok (.ireturn, 1) := by decide +kernel
theorem dL_changes_167 : decode cL_changes 167 = .ok (.iload 6, 2) := by decide +kernel
theorem dL_changes_169 : decode cL_changes 169 = .ok (.iconst 3, 1) := by decide +kernel
theorem dL_changes_170 : decode cL_changes 170 = .ok (.if_icmp .ne 94, 3) := by decide +kernel
theorem dL_changes_173 : decode cL_changes 173 = .ok (.iload 7, 2) := by decide +kernel
theorem dL_changes_175 : decode cL_changes 175 = .ok (.bipush 8, 2) := by decide +kernel
theorem dL_changes_177 : decode cL_changes 177 = .ok (.irem, 1) := by decide +kernel
theorem dL_changes_178 : decode cL_changes 178 = .ok (.istore 8, 2) := by decide +kernel
theorem dL_changes_180 : decode cL_changes 180 = .ok (.iload 8, 2) := by decide +kernel
theorem dL_changes_182 : decode cL_changes 182 = .ok (.aload_n 1, 1) := by decide +kernel
theorem dL_changes_183 : decode cL_changes 183 = .ok (.iconst 0, 1) := by decide +kernel
theorem dL_changes_184 : decode cL_changes 184 = .ok (.iaload, 1) := by decide +kernel
theorem dL_changes_185 : decode cL_changes 185 = .ok (.if_icmp .lt 19, 3) := by decide +kernel
theorem dL_changes_188 : decode cL_changes 188 = .ok (.aload_n 0, 1) := by decide +kernel
theorem dL_changes_189 : decode cL_changes 189 = .ok (.iload 8, 2) := by decide +kernel
theorem dL_changes_191 : decode cL_changes 191 = .ok (.invokevirtual 84, 3) := by decide +kernel
theorem dL_changes_194 : decode cL_changes 194 = .ok (.iconst (-1), 1) := by decide +kernel
theorem dL_changes_195 : decode cL_changes 195 = .ok (.if_icmp .ne 7, 3) := by decide +kernel
theorem dL_changes_198 : decode cL_changes 198 = .ok (.iconst 1, 1) := by decide +kernel
theorem dL_changes_199 : decode cL_changes 199 = .ok (.goto 4, 3) := by decide +kernel
theorem dL_changes_202 : decode cL_changes 202 = .ok (.iconst 0, 1) := by decide +kernel
theorem dL_changes_203 : decode cL_changes 203 = .ok (.ireturn, 1) := by decide +kernel
theorem dL_changes_204 : decode cL_changes 204 = .ok (.aload_n 2, 1) := by decide +kernel
theorem dL_changes_205 : decode cL_changes 205 = .ok (.iload 8, 2) := by decide +kernel
theorem dL_changes_207 : decode cL_changes 207 = .ok (.invokestatic 11, 3) := by decide +kernel
theorem dL_changes_210 : decode cL_changes 210 = .ok (.istore 9, 2) := by decide +kernel
theorem dL_changes_212 : decode cL_changes 212 = .ok (.aload_n 1, 1) := by decide +kernel
theorem dL_changes_213 : decode cL_changes 213 = .ok (.iconst 0, 1) := by decide +kernel
theorem dL_changes_214 : decode cL_changes 214 = .ok (.dup2, 1) := by decide +kernel
theorem dL_changes_215 : decode cL_changes 215 = .ok (.iaload, 1) := by decide +kernel
theorem dL_changes_216 : decode cL_changes 216 = .ok (.iconst 1, 1) := by decide +kernel
theorem dL_changes_217 : decode cL_changes 217 = .ok (.isub, 1) := by decide +kernel
theorem dL_changes_218 : decode cL_changes 218 = .ok (.iastore, 1) := by decide +kernel
theorem dL_changes_219 : decode cL_changes 219 = .ok (.iload 8, 2) := by decide +kernel
theorem dL_changes_221 : decode cL_changes 221 = .ok (.istore 10, 2) := by decide +kernel
theorem dL_changes_223 : decode cL_changes 223 = .ok (.iload 10, 2) := by decide +kernel
theorem dL_changes_225 : decode cL_changes 225 = .ok (.aload_n 1, 1) := by decide +kernel
theorem dL_changes_226 : decode cL_changes 226 = .ok (.iconst 0, 1) := by decide +kernel
theorem dL_changes_227 : decode cL_changes 227 = .ok (.iaload, 1) := by decide +kernel
theorem dL_changes_228 : decode cL_changes 228 = .ok (.if_icmp .ge 19, 3) := by decide +kernel
theorem dL_changes_231 : decode cL_changes 231 = .ok (.aload_n 2, 1) := by decide +kernel
theorem dL_changes_232 : decode cL_changes 232 = .ok (.iload 10, 2) := by decide +kernel
theorem dL_changes_234 : decode cL_changes 234 = .ok (.aload_n 2, 1) := by decide +kernel
theorem dL_changes_235 : decode cL_changes 235 = .ok (.iload 10, 2) := by decide +kernel
theorem dL_changes_237 : decode cL_changes 237 = .ok (.iconst 1, 1) := by decide +kernel
theorem dL_changes_238 : decode cL_changes 238 = .ok (.iadd, 1) := by decide +kernel
theorem dL_changes_239 : decode cL_changes 239 = .ok (.iaload, 1) := by decide +kernel
theorem dL_changes_240 : decode cL_changes 240 = .ok (.iastore, 1) := by decide +kernel
theorem dL_changes_241 : decode cL_changes 241 = .ok (.iinc 10 1, 3) := by decide +kernel
theorem dL_changes_244 : decode cL_changes 244 = .ok (.goto (-21), 3) := by decide +kernel
theorem dL_changes_247 : decode cL_changes 247 = .ok (.aload_n 0, 1) := by decide +kernel
theorem dL_changes_248 : decode cL_changes 248 = .ok (.iload 8, 2) := by decide +kernel
theorem dL_changes_250 : decode cL_changes 250 = .ok (.invokevirtual 84, 3) := by decide +kernel
theorem dL_changes_253 : decode cL_changes 253 = .ok (.iload 9, 2) := by decide +kernel
theorem dL_changes_255 : decode cL_changes 255 = .ok (.if_icmp .ne 7, 3) := by decide +kernel
theorem dL_changes_258 : decode cL_changes 258 = .ok (.iconst 1, 1) := by decide +kernel
theorem dL_changes_259 : decode cL_changes 259 = .ok (.goto 4, 3) := by decide +kernel
theorem dL_changes_262 : decode cL_changes 262 = .ok (.iconst 0, 1) := by decide +kernel
theorem dL_changes_263 : decode cL_changes 263 = .ok (.ireturn, 1) := by decide +kernel
theorem dL_changes_264 : decode cL_changes 264 = .ok (.iload 6, 2) := by decide +kernel
theorem dL_changes_266 : decode cL_changes 266 = .ok (.bipush 6, 2) := by decide +kernel
theorem dL_changes_268 : decode cL_changes 268 = .ok (.if_icmp .ge 193, 3) := by decide +kernel
theorem dL_changes_271 : decode cL_changes 271 = .ok (.iload 7, 2) := by decide +kernel
theorem dL_changes_273 : decode cL_changes 273 = .ok (.iconst 4, 1) := by decide +kernel
theorem dL_changes_274 : decode cL_changes 274 = .ok (.irem, 1) := by decide +kernel
theorem dL_changes_275 : decode cL_changes 275 = .ok (.istore 8, 2) := by decide +kernel
theorem dL_changes_277 : decode cL_changes 277 = .ok (.iload 7, 2) := by decide +kernel
theorem dL_changes_279 : decode cL_changes 279 = .ok (.iconst 4, 1) := by decide +kernel
theorem dL_changes_280 : decode cL_changes 280 = .ok (.idiv, 1) := by decide +kernel
theorem dL_changes_281 : decode cL_changes 281 = .ok (.iconst 3, 1) := by decide +kernel
theorem dL_changes_282 : decode cL_changes 282 = .ok (.irem, 1) := by decide +kernel
theorem dL_changes_283 : decode cL_changes 283 = .ok (.ifCond .le 7, 3) := by decide +kernel
theorem dL_changes_286 : decode cL_changes 286 = .ok (.iconst 1, 1) := by decide +kernel
theorem dL_changes_287 : decode cL_changes 287 = .ok (.goto 4, 3) := by decide +kernel
theorem dL_changes_290 : decode cL_changes 290 = .ok (.iconst 0, 1) := by decide +kernel
theorem dL_changes_291 : decode cL_changes 291 = .ok (.istore 9, 2) := by decide +kernel
theorem dL_changes_293 : decode cL_changes 293 = .ok (.aload_n 1, 1) := by decide +kernel
theorem dL_changes_294 : decode cL_changes 294 = .ok (.iconst 1, 1) := by decide +kernel
theorem dL_changes_295 : decode cL_changes 295 = .ok (.iaload, 1) := by decide +kernel
theorem dL_changes_296 : decode cL_changes 296 = .ok (.iload 8, 2) := by decide +kernel
theorem dL_changes_298 : decode cL_changes 298 = .ok (.ishr, 1) := by decide +kernel
theorem dL_changes_299 : decode cL_changes 299 = .ok (.iconst 1, 1) := by decide +kernel
theorem dL_changes_300 : decode cL_changes 300 = .ok (.iand, 1) := by decide +kernel
theorem dL_changes_301 : decode cL_changes 301 = .ok (.iload 9, 2) := by decide +kernel
theorem dL_changes_303 : decode cL_changes 303 = .ok (.if_icmp .ne 22, 3) := by decide +kernel
theorem dL_changes_306 : decode cL_changes 306 = .ok (.aload_n 0, 1) := by decide +kernel
theorem dL_changes_307 : decode cL_changes 307 = .ok (.iload 8, 2) := by decide +kernel
theorem dL_changes_309 : decode cL_changes 309 = .ok (.iload 9, 2) := by decide +kernel
theorem dL_changes_311 : decode cL_changes 311 = .ok (.invokevirtual 87, 3) := by decide +kernel
theorem dL_changes_314 : decode cL_changes 314 = .ok (.bipush (-2), 2) := by decide +kernel
theorem dL_changes_316 : decode cL_changes 316 = .ok (.if_icmp .ne 7, 3) := by decide +kernel
theorem dL_changes_319 : decode cL_changes 319 = .ok (.iconst 1, 1) := by decide +kernel
theorem dL_changes_320 : decode cL_changes 320 = .ok (.goto 4, 3) := by decide +kernel
theorem dL_changes_323 : decode cL_changes 323 = .ok (.iconst 0, 1) := by decide +kernel
theorem dL_changes_324 : decode cL_changes 324 = .ok (.ireturn, 1) := by decide +kernel
theorem dL_changes_325 : decode cL_changes 325 = .ok (.aload_n 1, 1) := by decide +kernel
theorem dL_changes_326 : decode cL_changes 326 = .ok (.iconst 1, 1) := by decide +kernel
theorem dL_changes_327 : decode cL_changes 327 = .ok (.dup2, 1) := by decide +kernel
theorem dL_changes_328 : decode cL_changes 328 = .ok (.iaload, 1) := by decide +kernel
theorem dL_changes_329 : decode cL_changes 329 = .ok (.iload 9, 2) := by decide +kernel
theorem dL_changes_331 : decode cL_changes 331 = .ok (.iconst 1, 1) := by decide +kernel
theorem dL_changes_332 : decode cL_changes 332 = .ok (.if_icmp .ne 10, 3) := by decide +kernel
theorem dL_changes_335 : decode cL_changes 335 = .ok (.iconst 1, 1) := by decide +kernel
theorem dL_changes_336 : decode cL_changes 336 = .ok (.iload 8, 2) := by decide +kernel
theorem dL_changes_338 : decode cL_changes 338 = .ok (.ishl, 1) := by decide +kernel
theorem dL_changes_339 : decode cL_changes 339 = .ok (.goto 8, 3) := by decide +kernel
theorem dL_changes_342 : decode cL_changes 342 = .ok (.iconst 1, 1) := by decide +kernel
theorem dL_changes_343 : decode cL_changes 343 = .ok (.iload 8, 2) := by decide +kernel
theorem dL_changes_345 : decode cL_changes 345 = .ok (.ishl, 1) := by decide +kernel
theorem dL_changes_346 : decode cL_changes 346 = .ok (.ineg, 1) := by decide +kernel
theorem dL_changes_347 : decode cL_changes 347 = .ok (.iadd, 1) := by decide +kernel
theorem dL_changes_348 : decode cL_changes 348 = .ok (.iastore, 1) := by decide +kernel
theorem dL_changes_349 : decode cL_changes 349 = .ok (.iconst 0, 1) := by decide +kernel
theorem dL_changes_350 : decode cL_changes 350 = .ok (.istore 10, 2) := by decide +kernel
theorem dL_changes_352 : decode cL_changes 352 = .ok (.aload_n 1, 1) := by decide +kernel
theorem dL_changes_353 : decode cL_changes 353 = .ok (.iconst 4, 1) := by decide +kernel
theorem dL_changes_354 : decode cL_changes 354 = .ok (.iaload, 1) := by decide +kernel
theorem dL_changes_355 : decode cL_changes 355 = .ok (.iconst 1, 1) := by decide +kernel
theorem dL_changes_356 : decode cL_changes 356 = .ok (.isub, 1) := by decide +kernel
theorem dL_changes_357 : decode cL_changes 357 = .ok (.istore 11, 2) := by decide +kernel
theorem dL_changes_359 : decode cL_changes 359 = .ok (.iload 11, 2) := by decide +kernel
theorem dL_changes_361 : decode cL_changes 361 = .ok (.ifCond .lt 72, 3) := by decide +kernel
theorem dL_changes_364 : decode cL_changes 364 = .ok (.iload 9, 2) := by decide +kernel
theorem dL_changes_366 : decode cL_changes 366 = .ok (.ifCond .ne 67, 3) := by decide +kernel
theorem dL_changes_369 : decode cL_changes 369 = .ok (.aload 5, 2) := by decide +kernel
theorem dL_changes_371 : decode cL_changes 371 = .ok (.bipush 8, 2) := by decide +kernel
theorem dL_changes_373 : decode cL_changes 373 = .ok (.iload 11, 2) := by decide +kernel
theorem dL_changes_375 : decode cL_changes 375 = .ok (.imul, 1) := by decide +kernel
theorem dL_changes_376 : decode cL_changes 376 = .ok (.iconst 3, 1) := by decide +kernel
theorem dL_changes_377 : decode cL_changes 377 = .ok (.iadd, 1) := by decide +kernel
theorem dL_changes_378 : decode cL_changes 378 = .ok (.iaload, 1) := by decide +kernel
theorem dL_changes_379 : decode cL_changes 379 = .ok (.bipush 9, 2) := by decide +kernel
theorem dL_changes_381 : decode cL_changes 381 = .ok (.if_icmp .ge 46, 3) := by decide +kernel
theorem dL_changes_384 : decode cL_changes 384 = .ok (.aload 4, 2) := by decide +kernel
theorem dL_changes_386 : decode cL_changes 386 = .ok (.aload 5, 2) := by decide +kernel
theorem dL_changes_388 : decode cL_changes 388 = .ok (.bipush 8, 2) := by decide +kernel
theorem dL_changes_390 : decode cL_changes 390 = .ok (.iload 11, 2) := by decide +kernel
theorem dL_changes_392 : decode cL_changes 392 = .ok (.imul, 1) := by decide +kernel
theorem dL_changes_393 : decode cL_changes 393 = .ok (.iconst 1, 1) := by decide +kernel
theorem dL_changes_394 : decode cL_changes 394 = .ok (.iadd, 1) := by decide +kernel
theorem dL_changes_395 : decode cL_changes 395 = .ok (.iaload, 1) := by decide +kernel
theorem dL_changes_396 : decode cL_changes 396 = .ok (.aload 5, 2) := by decide +kernel
theorem dL_changes_398 : decode cL_changes 398 = .ok (.bipush 8, 2) := by decide +kernel
theorem dL_changes_400 : decode cL_changes 400 = .ok (.iload 11, 2) := by decide +kernel
theorem dL_changes_402 : decode cL_changes 402 = .ok (.imul, 1) := by decide +kernel
theorem dL_changes_403 : decode cL_changes 403 = .ok (.iconst 3, 1) := by decide +kernel
theorem dL_changes_404 : decode cL_changes 404 = .ok (.iadd, 1) := by decide +kernel
theorem dL_changes_405 : decode cL_changes 405 = .ok (.iaload, 1) := by decide +kernel
theorem dL_changes_406 : decode cL_changes 406 = .ok (.invokestatic 33, 3) := by decide +kernel
theorem dL_changes_409 : decode cL_changes 409 = .ok (.iconst 3, 1) := by decide +kernel
theorem dL_changes_410 : decode cL_changes 410 = .ok (.idiv, 1) := by decide +kernel
theorem dL_changes_411 : decode cL_changes 411 = .ok (.iload 8, 2) := by decide +kernel
theorem dL_changes_413 : decode cL_changes 413 = .ok (.if_icmp .ne 14, 3) := by decide +kernel
theorem dL_changes_416 : decode cL_changes 416 = .ok (.aload_n 1, 1) := by decide +kernel
theorem dL_changes_417 : decode cL_changes 417 = .ok (.aload 5, 2) := by decide +kernel
theorem dL_changes_419 : decode cL_changes 419 = .ok (.iload 11, 2) := by decide +kernel
theorem dL_changes_421 : decode cL_changes 421 = .ok (.invokestatic 58, 3) := by decide +kernel
theorem dL_changes_424 : decode cL_changes 424 = .ok (.iinc 10 1, 3) := by decide +kernel
theorem dL_changes_427 : decode cL_changes 427 = .ok (.iinc 11 (-1), 3) := by decide +kernel
theorem dL_changes_430 : decode cL_changes 430 = .ok (.goto (-71), 3) := by decide +kernel
theorem dL_changes_433 : decode cL_changes 433 = .ok (.aload_n 1, 1) := by decide +kernel
theorem dL_changes_434 : decode cL_changes 434 = .ok (.bipush 10, 2) := by decide +kernel
theorem dL_changes_436 : decode cL_changes 436 = .ok (.dup2, 1) := by decide +kernel
theorem dL_changes_437 : decode cL_changes 437 = .ok (.iaload, 1) := by decide +kernel
theorem dL_changes_438 : decode cL_changes 438 = .ok (.iload 10, 2) := by decide +kernel
theorem dL_changes_440 : decode cL_changes 440 = .ok (.iadd, 1) := by decide +kernel
theorem dL_changes_441 : decode cL_changes 441 = .ok (.iastore, 1) := by decide +kernel
theorem dL_changes_442 : decode cL_changes 442 = .ok (.aload_n 0, 1) := by decide +kernel
theorem dL_changes_443 : decode cL_changes 443 = .ok (.iload 8, 2) := by decide +kernel
theorem dL_changes_445 : decode cL_changes 445 = .ok (.iload 9, 2) := by decide +kernel
theorem dL_changes_447 : decode cL_changes 447 = .ok (.invokevirtual 87, 3) := by decide +kernel
theorem dL_changes_450 : decode cL_changes 450 = .ok (.iload 10, 2) := by decide +kernel
theorem dL_changes_452 : decode cL_changes 452 = .ok (.if_icmp .ne 7, 3) := by decide +kernel
theorem dL_changes_455 : decode cL_changes 455 = .ok (.iconst 1, 1) := by decide +kernel
theorem dL_changes_456 : decode cL_changes 456 = .ok (.goto 4, 3) := by decide +kernel
theorem dL_changes_459 : decode cL_changes 459 = .ok (.iconst 0, 1) := by decide +kernel
theorem dL_changes_460 : decode cL_changes 460 = .ok (.ireturn, 1) := by decide +kernel
theorem dL_changes_461 : decode cL_changes 461 = .ok (.iload 6, 2) := by decide +kernel
theorem dL_changes_463 : decode cL_changes 463 = .ok (.bipush 8, 2) := by decide +kernel
theorem dL_changes_465 : decode cL_changes 465 = .ok (.if_icmp .ge 115, 3) := by decide +kernel
theorem dL_changes_468 : decode cL_changes 468 = .ok (.iconst 0, 1) := by decide +kernel
theorem dL_changes_469 : decode cL_changes 469 = .ok (.istore 8, 2) := by decide +kernel
theorem dL_changes_471 : decode cL_changes 471 = .ok (.iload 8, 2) := by decide +kernel
theorem dL_changes_473 : decode cL_changes 473 = .ok (.bipush 64, 2) := by decide +kernel
theorem dL_changes_475 : decode cL_changes 475 = .ok (.if_icmp .ge 14, 3) := by decide +kernel
theorem dL_changes_478 : decode cL_changes 478 = .ok (.aload_n 3, 1) := by decide +kernel
theorem dL_changes_479 : decode cL_changes 479 = .ok (.iload 8, 2) := by decide +kernel
theorem dL_changes_481 : decode cL_changes 481 = .ok (.lconst 0, 1) := by decide +kernel
theorem dL_changes_482 : decode cL_changes 482 = .ok (.lastore, 1) := by decide +kernel
theorem dL_changes_483 : decode cL_changes 483 = .ok (.iinc 8 1, 3) := by decide +kernel
theorem dL_changes_486 : decode cL_changes 486 = .ok (.goto (-15), 3) := by decide +kernel
theorem dL_changes_489 : decode cL_changes 489 = .ok (.iconst 0, 1) := by decide +kernel
theorem dL_changes_490 : decode cL_changes 490 = .ok (.istore 8, 2) := by decide +kernel
theorem dL_changes_492 : decode cL_changes 492 = .ok (.iload 8, 2) := by decide +kernel
theorem dL_changes_494 : decode cL_changes 494 = .ok (.iconst 4, 1) := by decide +kernel
theorem dL_changes_495 : decode cL_changes 495 = .ok (.aload_n 1, 1) := by decide +kernel
theorem dL_changes_496 : decode cL_changes 496 = .ok (.iconst 0, 1) := by decide +kernel
theorem dL_changes_497 : decode cL_changes 497 = .ok (.iaload, 1) := by decide +kernel
theorem dL_changes_498 : decode cL_changes 498 = .ok (.imul, 1) := by decide +kernel
theorem dL_changes_499 : decode cL_changes 499 = .ok (.if_icmp .ge 57, 3) := by decide +kernel
theorem dL_changes_502 : decode cL_changes 502 = .ok (.aload_n 2, 1) := by decide +kernel
theorem dL_changes_503 : decode cL_changes 503 = .ok (.iload 8, 2) := by decide +kernel
theorem dL_changes_505 : decode cL_changes 505 = .ok (.iconst 4, 1) := by decide +kernel
theorem dL_changes_506 : decode cL_changes 506 = .ok (.idiv, 1) := by decide +kernel
theorem dL_changes_507 : decode cL_changes 507 = .ok (.iload 8, 2) := by decide +kernel
theorem dL_changes_509 : decode cL_changes 509 = .ok (.iconst 4, 1) := by decide +kernel
theorem dL_changes_510 : decode cL_changes 510 = .ok (.irem, 1) := by decide +kernel
theorem dL_changes_511 : decode cL_changes 511 = .ok (.invokestatic 25, 3) := by decide +kernel
theorem dL_changes_514 : decode cL_changes 514 = .ok (.istore 9, 2) := by decide +kernel
theorem dL_changes_516 : decode cL_changes 516 = .ok (.aload_n 3, 1) := by decide +kernel
theorem dL_changes_517 : decode cL_changes 517 = .ok (.bipush 16, 2) := by decide +kernel
theorem dL_changes_519 : decode cL_changes 519 = .ok (.iload 8, 2) := by decide +kernel
theorem dL_changes_521 : decode cL_changes 521 = .ok (.iconst 4, 1) := by decide +kernel
theorem dL_changes_522 : decode cL_changes 522 = .ok (.irem, 1) := by decide +kernel
theorem dL_changes_523 : decode cL_changes 523 = .ok (.imul, 1) := by decide +kernel
theorem dL_changes_524 : decode cL_changes 524 = .ok (.iload 9, 2) := by decide +kernel
theorem dL_changes_526 : decode cL_changes 526 = .ok (.iconst 2, 1) := by decide +kernel
theorem dL_changes_527 : decode cL_changes 527 = .ok (.idiv, 1) := by decide +kernel
theorem dL_changes_528 : decode cL_changes 528 = .ok (.iadd, 1) := by decide +kernel
theorem dL_changes_529 : decode cL_changes 529 = .ok (.dup2, 1) := by decide +kernel
theorem dL_changes_530 : decode cL_changes 530 = .ok (.laload, 1) := by decide +kernel
theorem dL_changes_531 : decode cL_changes 531 = .ok (.aload_n 2, 1) := by decide +kernel
theorem dL_changes_532 : decode cL_changes 532 = .ok (.iload 8, 2) := by decide +kernel
theorem dL_changes_534 : decode cL_changes 534 = .ok (.iconst 4, 1) := by decide +kernel
theorem dL_changes_535 : decode cL_changes 535 = .ok (.idiv, 1) := by decide +kernel
theorem dL_changes_536 : decode cL_changes 536 = .ok (.invokestatic 11, 3) := by decide +kernel
theorem dL_changes_539 : decode cL_changes 539 = .ok (.i2l, 1) := by decide +kernel
theorem dL_changes_540 : decode cL_changes 540 = .ok (.bipush 32, 2) := by decide +kernel
theorem dL_changes_542 : decode cL_changes 542 = .ok (.iload 9, 2) := by decide +kernel
theorem dL_changes_544 : decode cL_changes 544 = .ok (.iconst 2, 1) := by decide +kernel
theorem dL_changes_545 : decode cL_changes 545 = .ok (.irem, 1) := by decide +kernel
theorem dL_changes_546 : decode cL_changes 546 = .ok (.imul, 1) := by decide +kernel
theorem dL_changes_547 : decode cL_changes 547 = .ok (.lshl, 1) := by decide +kernel
theorem dL_changes_548 : decode cL_changes 548 = .ok (.ladd, 1) := by decide +kernel
theorem dL_changes_549 : decode cL_changes 549 = .ok (.lastore, 1) := by decide +kernel
theorem dL_changes_550 : decode cL_changes 550 = .ok (.iinc 8 1, 3) := by decide +kernel
theorem dL_changes_553 : decode cL_changes 553 = .ok (.goto (-61), 3) := by decide +kernel
theorem dL_changes_556 : decode cL_changes 556 = .ok (.aload_n 1, 1) := by decide +kernel
theorem dL_changes_557 : decode cL_changes 557 = .ok (.iconst 2, 1) := by decide +kernel
theorem dL_changes_558 : decode cL_changes 558 = .ok (.aload_n 1, 1) := by decide +kernel
theorem dL_changes_559 : decode cL_changes 559 = .ok (.aload_n 2, 1) := by decide +kernel
theorem dL_changes_560 : decode cL_changes 560 = .ok (.invokestatic 29, 3) := by decide +kernel
theorem dL_changes_563 : decode cL_changes 563 = .ok (.iastore, 1) := by decide +kernel
theorem dL_changes_564 : decode cL_changes 564 = .ok (.aload_n 0, 1) := by decide +kernel
theorem dL_changes_565 : decode cL_changes 565 = .ok (.invokevirtual 91, 3) := by decide +kernel
theorem dL_changes_568 : decode cL_changes 568 = .ok (.aload_n 1, 1) := by decide +kernel
theorem dL_changes_569 : decode cL_changes 569 = .ok (.iconst 2, 1) := by decide +kernel
theorem dL_changes_570 : decode cL_changes 570 = .ok (.iaload, 1) := by decide +kernel
theorem dL_changes_571 : decode cL_changes 571 = .ok (.if_icmp .ne 7, 3) := by decide +kernel
theorem dL_changes_574 : decode cL_changes 574 = .ok (.iconst 1, 1) := by decide +kernel
theorem dL_changes_575 : decode cL_changes 575 = .ok (.goto 4, 3) := by decide +kernel
theorem dL_changes_578 : decode cL_changes 578 = .ok (.iconst 0, 1) := by decide +kernel
theorem dL_changes_579 : decode cL_changes 579 = .ok (.ireturn, 1) := by decide +kernel
theorem dL_changes_580 : decode cL_changes 580 = .ok (.iload 7, 2) := by decide +kernel
theorem dL_changes_582 : decode cL_changes 582 = .ok (.iconst 5, 1) := by decide +kernel
theorem dL_changes_583 : decode cL_changes 583 = .ok (.irem, 1) := by decide +kernel
theorem dL_changes_584 : decode cL_changes 584 = .ok (.istore 8, 2) := by decide +kernel
theorem dL_changes_586 : decode cL_changes 586 = .ok (.aload_n 1, 1) := by decide +kernel
theorem dL_changes_587 : decode cL_changes 587 = .ok (.bipush 11, 2) := by decide +kernel
theorem dL_changes_589 : decode cL_changes 589 = .ok (.iload 8, 2) := by decide +kernel
theorem dL_changes_591 : decode cL_changes 591 = .ok (.iadd, 1) := by decide +kernel
theorem dL_changes_592 : decode cL_changes 592 = .ok (.iaload, 1) := by decide +kernel
theorem dL_changes_593 : decode cL_changes 593 = .ok (.istore 9, 2) := by decide +kernel
theorem dL_changes_595 : decode cL_changes 595 = .ok (.aload_n 1, 1) := by decide +kernel
theorem dL_changes_596 : decode cL_changes 596 = .ok (.bipush 11, 2) := by decide +kernel
theorem dL_changes_598 : decode cL_changes 598 = .ok (.iload 8, 2) := by decide +kernel
theorem dL_changes_600 : decode cL_changes 600 = .ok (.iadd, 1) := by decide +kernel
theorem dL_changes_601 : decode cL_changes 601 = .ok (.iload 8, 2) := by decide +kernel
theorem dL_changes_603 : decode cL_changes 603 = .ok (.iconst 2, 1) := by decide +kernel
theorem dL_changes_604 : decode cL_changes 604 = .ok (.if_icmp .ge 27, 3) := by decide +kernel
theorem dL_changes_607 : decode cL_changes 607 = .ok (.iload 7, 2) := by decide +kernel
theorem dL_changes_609 : decode cL_changes 609 = .ok (.iconst 5, 1) := by decide +kernel
theorem dL_changes_610 : decode cL_changes 610 = .ok (.idiv, 1) := by decide +kernel
theorem dL_changes_611 : decode cL_changes 611 = .ok (.iload 7, 2) := by decide +kernel
theorem dL_changes_613 : decode cL_changes 613 = .ok (.iconst 3, 1) := by decide +kernel
theorem dL_changes_614 : decode cL_changes 614 = .ok (.irem, 1) := by decide +kernel
theorem dL_changes_615 : decode cL_changes 615 = .ok (.ifCond .ne 9, 3) := by decide +kernel
theorem dL_changes_618 : decode cL_changes 618 = .ok (.sipush 1001, 3) := by decide +kernel
theorem dL_changes_621 : decode cL_changes 621 = .ok (.goto 6, 3) := by decide +kernel
theorem dL_changes_624 : decode cL_changes 624 = .ok (.sipush 500, 3) := by decide +kernel
theorem dL_changes_627 : decode cL_changes 627 = .ok (.irem, 1) := by decide +kernel
theorem dL_changes_628 : decode cL_changes 628 = .ok (.goto 47, 3) := by decide +kernel
theorem dL_changes_631 : decode cL_changes 631 = .ok (.iload 8, 2) := by decide +kernel
theorem dL_changes_633 : decode cL_changes 633 = .ok (.iconst 2, 1) := by decide +kernel
theorem dL_changes_634 : decode cL_changes 634 = .ok (.if_icmp .ne 15, 3) := by decide +kernel
theorem dL_changes_637 : decode cL_changes 637 = .ok (.iconst 1, 1) := by decide +kernel
theorem dL_changes_638 : decode cL_changes 638 = .ok (.iload 7, 2) := by decide +kernel
theorem dL_changes_640 : decode cL_changes 640 = .ok (.iconst 5, 1) := by decide +kernel
theorem dL_changes_641 : decode cL_changes 641 = .ok (.idiv, 1) := by decide +kernel
theorem dL_changes_642 : decode cL_changes 642 = .ok (.bipush 9, 2) := by decide +kernel
theorem dL_changes_644 : decode cL_changes 644 = .ok (.irem, 1) := by decide +kernel
theorem dL_changes_645 : decode cL_changes 645 = .ok (.iadd, 1) := by decide +kernel
theorem dL_changes_646 : decode cL_changes 646 = .ok (.goto 29, 3) := by decide +kernel
theorem dL_changes_649 : decode cL_changes 649 = .ok (.iload 8, 2) := by decide +kernel
theorem dL_changes_651 : decode cL_changes 651 = .ok (.iconst 3, 1) := by decide +kernel
theorem dL_changes_652 : decode cL_changes 652 = .ok (.if_icmp .ne 14, 3) := by decide +kernel
theorem dL_changes_655 : decode cL_changes 655 = .ok (.iconst 1, 1) := by decide +kernel
theorem dL_changes_656 : decode cL_changes 656 = .ok (.iload 7, 2) := by decide +kernel
theorem dL_changes_658 : decode cL_changes 658 = .ok (.iconst 5, 1) := by decide +kernel
theorem dL_changes_659 : decode cL_changes 659 = .ok (.idiv, 1) := by decide +kernel
theorem dL_changes_660 : decode cL_changes 660 = .ok (.iconst 4, 1) := by decide +kernel
theorem dL_changes_661 : decode cL_changes 661 = .ok (.irem, 1) := by decide +kernel
theorem dL_changes_662 : decode cL_changes 662 = .ok (.iadd, 1) := by decide +kernel
theorem dL_changes_663 : decode cL_changes 663 = .ok (.goto 12, 3) := by decide +kernel
theorem dL_changes_666 : decode cL_changes 666 = .ok (.iconst 1, 1) := by decide +kernel
theorem dL_changes_667 : decode cL_changes 667 = .ok (.iload 7, 2) := by decide +kernel
theorem dL_changes_669 : decode cL_changes 669 = .ok (.iconst 5, 1) := by decide +kernel
theorem dL_changes_670 : decode cL_changes 670 = .ok (.idiv, 1) := by decide +kernel
theorem dL_changes_671 : decode cL_changes 671 = .ok (.bipush 8, 2) := by decide +kernel
theorem dL_changes_673 : decode cL_changes 673 = .ok (.irem, 1) := by decide +kernel
theorem dL_changes_674 : decode cL_changes 674 = .ok (.iadd, 1) := by decide +kernel
theorem dL_changes_675 : decode cL_changes 675 = .ok (.iastore, 1) := by decide +kernel
theorem dL_changes_676 : decode cL_changes 676 = .ok (.aload_n 0, 1) := by decide +kernel
theorem dL_changes_677 : decode cL_changes 677 = .ok (.iload 8, 2) := by decide +kernel
theorem dL_changes_679 : decode cL_changes 679 = .ok (.aload_n 1, 1) := by decide +kernel
theorem dL_changes_680 : decode cL_changes 680 = .ok (.bipush 11, 2) := by decide +kernel
theorem dL_changes_682 : decode cL_changes 682 = .ok (.iload 8, 2) := by decide +kernel
theorem dL_changes_684 : decode cL_changes 684 = .ok (.iadd, 1) := by decide +kernel
theorem dL_changes_685 : decode cL_changes 685 = .ok (.iaload, 1) := by decide +kernel
theorem dL_changes_686 : decode cL_changes 686 = .ok (.invokevirtual 94, 3) := by decide +kernel
theorem dL_changes_689 : decode cL_changes 689 = .ok (.iload 9, 2) := by decide +kernel
theorem dL_changes_691 : decode cL_changes 691 = .ok (.if_icmp .ne 7, 3) := by decide +kernel
theorem dL_changes_694 : decode cL_changes 694 = .ok (.iconst 1, 1) := by decide +kernel
theorem dL_changes_695 : decode cL_changes 695 = .ok (.goto 4, 3) := by decide +kernel
theorem dL_changes_698 : decode cL_changes 698 = .ok (.iconst 0, 1) := by decide +kernel
theorem dL_changes_699 : decode cL_changes 699 = .ok (.ireturn, 1) := by decide +kernel
theorem dL_acts_0 : decode cL_acts 0 = .ok (.iload 7, 2) := by decide +kernel
theorem dL_acts_2 : decode cL_acts 2 = .ok (.iconst 5, 1) := by decide +kernel
theorem dL_acts_3 : decode cL_acts 3 = .ok (.ishr, 1) := by decide +kernel
theorem dL_acts_4 : decode cL_acts 4 = .ok (.ldc 97, 2) := by decide +kernel
theorem dL_acts_6 : decode cL_acts 6 = .ok (.invokestatic 98, 3) := by decide +kernel
theorem dL_acts_9 : decode cL_acts 9 = .ok (.istore 8, 2) := by decide +kernel
theorem dL_acts_11 : decode cL_acts 11 = .ok (.iload 7, 2) := by decide +kernel
theorem dL_acts_13 : decode cL_acts 13 = .ok (.bipush 26, 2) := by decide +kernel
theorem dL_acts_15 : decode cL_acts 15 = .ok (.invokestatic 98, 3) := by decide +kernel
theorem dL_acts_18 : decode cL_acts 18 = .ok (.istore 9, 2) := by decide +kernel
theorem dL_acts_20 : decode cL_acts 20 = .ok (.iload 9, 2) := by decide +kernel
theorem dL_acts_22 : decode cL_acts 22 = .ok (.bipush 9, 2) := by decide +kernel
theorem dL_acts_24 : decode cL_acts 24 = .ok (.if_icmp .ge 19, 3) := by decide +kernel
theorem dL_acts_27 : decode cL_acts 27 = .ok (.aload_n 0, 1) := by decide +kernel
theorem dL_acts_28 : decode cL_acts 28 = .ok (.aload_n 1, 1) := by decide +kernel
theorem dL_acts_29 : decode cL_acts 29 = .ok (.aload_n 2, 1) := by decide +kernel
theorem dL_acts_30 : decode cL_acts 30 = .ok (.aload_n 3, 1) := by decide +kernel
theorem dL_acts_31 : decode cL_acts 31 = .ok (.aload 4, 2) := by decide +kernel
theorem dL_acts_33 : decode cL_acts 33 = .ok (.aload 5, 2) := by decide +kernel
theorem dL_acts_35 : decode cL_acts 35 = .ok (.iload 9, 2) := by decide +kernel
theorem dL_acts_37 : decode cL_acts 37 = .ok (.iload 8, 2) := by decide +kernel
theorem dL_acts_39 : decode cL_acts 39 = .ok (.invokestatic 101, 3) := by decide +kernel
theorem dL_acts_42 : decode cL_acts 42 = .ok (.ireturn, 1) := by decide +kernel
theorem dL_acts_43 : decode cL_acts 43 = .ok (.iload 9, 2) := by decide +kernel
theorem dL_acts_45 : decode cL_acts 45 = .ok (.bipush 12, 2) := by decide +kernel
theorem dL_acts_47 : decode cL_acts 47 = .ok (.if_icmp .lt 9, 3) := by decide +kernel
theorem dL_acts_50 : decode cL_acts 50 = .ok (.aload_n 1, 1) := by decide +kernel
theorem dL_acts_51 : decode cL_acts 51 = .ok (.iconst 3, 1) := by decide +kernel
theorem dL_acts_52 : decode cL_acts 52 = .ok (.iaload, 1) := by decide +kernel
theorem dL_acts_53 : decode cL_acts 53 = .ok (.ifCond .ne 13, 3) := by decide +kernel
theorem dL_acts_56 : decode cL_acts 56 = .ok (.aload_n 0, 1) := by decide +kernel
theorem dL_acts_57 : decode cL_acts 57 = .ok (.aload_n 1, 1) := by decide +kernel
theorem dL_acts_58 : decode cL_acts 58 = .ok (.aload 4, 2) := by decide +kernel
theorem dL_acts_60 : decode cL_acts 60 = .ok (.iload 8, 2) := by decide +kernel
theorem dL_acts_62 : decode cL_acts 62 = .ok (.invokestatic 105, 3) := by decide +kernel
theorem dL_acts_65 : decode cL_acts 65 = .ok (.ireturn, 1) := by decide +kernel
theorem dL_acts_66 : decode cL_acts 66 = .ok (.iload 9, 2) := by decide +kernel
theorem dL_acts_68 : decode cL_acts 68 = .ok (.bipush 23, 2) := by decide +kernel
theorem dL_acts_70 : decode cL_acts 70 = .ok (.if_icmp .ge 170, 3) := by decide +kernel
theorem dL_acts_73 : decode cL_acts 73 = .ok (.iload 8, 2) := by decide +kernel
theorem dL_acts_75 : decode cL_acts 75 = .ok (.aload_n 1, 1) := by decide +kernel
theorem dL_acts_76 : decode cL_acts 76 = .ok (.iconst 3, 1) := by decide +kernel
theorem dL_acts_77 : decode cL_acts 77 = .ok (.iaload, 1) := by decide +kernel
theorem dL_acts_78 : decode cL_acts 78 = .ok (.irem, 1) := by decide +kernel
theorem dL_acts_79 : decode cL_acts 79 = .ok (.istore 10, 2) := by decide +kernel
theorem dL_acts_81 : decode cL_acts 81 = .ok (.iconst 4, 1) := by decide +kernel
theorem dL_acts_82 : decode cL_acts 82 = .ok (.newarray .int, 2) := by decide +kernel
theorem dL_acts_84 : decode cL_acts 84 = .ok (.astore 11, 2) := by decide +kernel
theorem dL_acts_86 : decode cL_acts 86 = .ok (.iconst 0, 1) := by decide +kernel
theorem dL_acts_87 : decode cL_acts 87 = .ok (.istore 12, 2) := by decide +kernel
theorem dL_acts_89 : decode cL_acts 89 = .ok (.iload 12, 2) := by decide +kernel
theorem dL_acts_91 : decode cL_acts 91 = .ok (.aload 4, 2) := by decide +kernel
theorem dL_acts_93 : decode cL_acts 93 = .ok (.iload 10, 2) := by decide +kernel
theorem dL_acts_95 : decode cL_acts 95 = .ok (.invokestatic 40, 3) := by decide +kernel
theorem dL_acts_98 : decode cL_acts 98 = .ok (.if_icmp .ge 64, 3) := by decide +kernel
theorem dL_acts_101 : decode cL_acts 101 = .ok (.aload 11, 2) := by decide +kernel
theorem dL_acts_103 : decode cL_acts 103 = .ok (.iload 12, 2) := by decide +kernel
theorem dL_acts_105 : decode cL_acts 105 = .ok (.iload 12, 2) := by decide +kernel
theorem dL_acts_107 : decode cL_acts 107 = .ok (.ifCond .ne 11, 3) := by decide +kernel
theorem dL_acts_110 : decode cL_acts 110 = .ok (.iload 8, 2) := by decide +kernel
theorem dL_acts_112 : decode cL_acts 112 = .ok (.bipush 6, 2) := by decide +kernel
theorem dL_acts_114 : decode cL_acts 114 = .ok (.idiv, 1) := by decide +kernel
theorem dL_acts_115 : decode cL_acts 115 = .ok (.goto 37, 3) := by decide +kernel
theorem dL_acts_118 : decode cL_acts 118 = .ok (.iload 12, 2) := by decide +kernel
theorem dL_acts_120 : decode cL_acts 120 = .ok (.iconst 1, 1) := by decide +kernel
theorem dL_acts_121 : decode cL_acts 121 = .ok (.if_icmp .ne 12, 3) := by decide +kernel
theorem dL_acts_124 : decode cL_acts 124 = .ok (.iload 8, 2) := by decide +kernel
theorem dL_acts_126 : decode cL_acts 126 = .ok (.sipush 192, 3) := by decide +kernel
theorem dL_acts_129 : decode cL_acts 129 = .ok (.idiv, 1) := by decide +kernel
theorem dL_acts_130 : decode cL_acts 130 = .ok (.goto 22, 3) := by decide +kernel
theorem dL_acts_133 : decode cL_acts 133 = .ok (.iload 12, 2) := by decide +kernel
theorem dL_acts_135 : decode cL_acts 135 = .ok (.iconst 2, 1) := by decide +kernel
theorem dL_acts_136 : decode cL_acts 136 = .ok (.if_icmp .ne 11, 3) := by decide +kernel
theorem dL_acts_139 : decode cL_acts 139 = .ok (.iload 8, 2) := by decide +kernel
theorem dL_acts_141 : decode cL_acts 141 = .ok (.bipush 11, 2) := by decide +kernel
theorem dL_acts_143 : decode cL_acts 143 = .ok (.idiv, 1) := by decide +kernel
theorem dL_acts_144 : decode cL_acts 144 = .ok (.goto 8, 3) := by decide +kernel
theorem dL_acts_147 : decode cL_acts 147 = .ok (.iload 8, 2) := by decide +kernel
theorem dL_acts_149 : decode cL_acts 149 = .ok (.bipush 31, 2) := by decide +kernel
theorem dL_acts_151 : decode cL_acts 151 = .ok (.idiv, 1) := by decide +kernel
theorem dL_acts_152 : decode cL_acts 152 = .ok (.bipush 32, 2) := by decide +kernel
theorem dL_acts_154 : decode cL_acts 154 = .ok (.irem, 1) := by decide +kernel
theorem dL_acts_155 : decode cL_acts 155 = .ok (.iastore, 1) := by decide +kernel
theorem dL_acts_156 : decode cL_acts 156 = .ok (.iinc 12 1, 3) := by decide +kernel
theorem dL_acts_159 : decode cL_acts 159 = .ok (.goto (-70), 3) := by decide +kernel
theorem dL_acts_162 : decode cL_acts 162 = .ok (.aload_n 1, 1) := by decide +kernel
theorem dL_acts_163 : decode cL_acts 163 = .ok (.aload_n 2, 1) := by decide +kernel
theorem dL_acts_164 : decode cL_acts 164 = .ok (.aload_n 3, 1) := by decide +kernel
theorem dL_acts_165 : decode cL_acts 165 = .ok (.aload 4, 2) := by decide +kernel
theorem dL_acts_167 : decode cL_acts 167 = .ok (.aload 5, 2) := by decide +kernel
theorem dL_acts_169 : decode cL_acts 169 = .ok (.aload 6, 2) := by decide +kernel
theorem dL_acts_171 : decode cL_acts 171 = .ok (.iload 10, 2) := by decide +kernel
theorem dL_acts_173 : decode cL_acts 173 = .ok (.aload 11, 2) := by decide +kernel
theorem dL_acts_175 : decode cL_acts 175 = .ok (.invokestatic 109, 3) := by decide +kernel
theorem dL_acts_178 : decode cL_acts 178 = .ok (.istore 12, 2) := by decide +kernel
theorem dL_acts_180 : decode cL_acts 180 = .ok (.iconst 0, 1) := by decide +kernel
theorem dL_acts_181 : decode cL_acts 181 = .ok (.istore 13, 2) := by decide +kernel
theorem dL_acts_183 : decode cL_acts 183 = .ok (.iload 13, 2) := by decide +kernel
theorem dL_acts_185 : decode cL_acts 185 = .ok (.iconst 4, 1) := by decide +kernel
theorem dL_acts_186 : decode cL_acts 186 = .ok (.if_icmp .ge 21, 3) := by decide +kernel
theorem dL_acts_189 : decode cL_acts 189 = .ok (.aload 6, 2) := by decide +kernel
theorem dL_acts_191 : decode cL_acts 191 = .ok (.iconst 1, 1) := by decide +kernel
theorem dL_acts_192 : decode cL_acts 192 = .ok (.iload 13, 2) := by decide +kernel
theorem dL_acts_194 : decode cL_acts 194 = .ok (.iadd, 1) := by decide +kernel
theorem dL_acts_195 : decode cL_acts 195 = .ok (.aload 11, 2) := by decide +kernel
theorem dL_acts_197 : decode cL_acts 197 = .ok (.iload 13, 2) := by decide +kernel
theorem dL_acts_199 : decode cL_acts 199 = .ok (.iaload, 1) := by decide +kernel
theorem dL_acts_200 : decode cL_acts 200 = .ok (.iastore, 1) := by decide +kernel
theorem dL_acts_201 : decode cL_acts 201 = .ok (.iinc 13 1, 3) := by decide +kernel
theorem dL_acts_204 : decode cL_acts 204 = .ok (.goto (-21), 3) := by decide +kernel
theorem dL_acts_207 : decode cL_acts 207 = .ok (.aload_n 0, 1) := by decide +kernel
theorem dL_acts_208 : decode cL_acts 208 = .ok (.iload 10, 2) := by decide +kernel
theorem dL_acts_210 : decode cL_acts 210 = .ok (.aload 11, 2) := by decide +kernel
theorem dL_acts_212 : decode cL_acts 212 = .ok (.iconst 0, 1) := by decide +kernel
theorem dL_acts_213 : decode cL_acts 213 = .ok (.iaload, 1) := by decide +kernel
theorem dL_acts_214 : decode cL_acts 214 = .ok (.aload 11, 2) := by decide +kernel
theorem dL_acts_216 : decode cL_acts 216 = .ok (.iconst 1, 1) := by decide +kernel
theorem dL_acts_217 : decode cL_acts 217 = .ok (.iaload, 1) := by decide +kernel
theorem dL_acts_218 : decode cL_acts 218 = .ok (.aload 11, 2) := by decide +kernel
theorem dL_acts_220 : decode cL_acts 220 = .ok (.iconst 2, 1) := by decide +kernel
theorem dL_acts_221 : decode cL_acts 221 = .ok (.iaload, 1) := by decide +kernel
theorem dL_acts_222 : decode cL_acts 222 = .ok (.aload 11, 2) := by decide +kernel
theorem dL_acts_224 : decode cL_acts 224 = .ok (.iconst 3, 1) := by decide +kernel
theorem dL_acts_225 : decode cL_acts 225 = .ok (.iaload, 1) := by decide +kernel
theorem dL_acts_226 : decode cL_acts 226 = .ok (.invokevirtual 113, 3) := by decide +kernel
theorem dL_acts_229 : decode cL_acts 229 = .ok (.iload 12, 2) := by decide +kernel
theorem dL_acts_231 : decode cL_acts 231 = .ok (.if_icmp .ne 7, 3) := by decide +kernel
theorem dL_acts_234 : decode cL_acts 234 = .ok (.iconst 1, 1) := by decide +kernel
theorem dL_acts_235 : decode cL_acts 235 = .ok (.goto 4, 3) := by decide +kernel
theorem dL_acts_238 : decode cL_acts 238 = .ok (.iconst 0, 1) := by decide +kernel
theorem dL_acts_239 : decode cL_acts 239 = .ok (.ireturn, 1) := by decide +kernel
theorem dL_acts_240 : decode cL_acts 240 = .ok (.aload_n 1, 1) := by decide +kernel
theorem dL_acts_241 : decode cL_acts 241 = .ok (.iconst 4, 1) := by decide +kernel
theorem dL_acts_242 : decode cL_acts 242 = .ok (.iaload, 1) := by decide +kernel
theorem dL_acts_243 : decode cL_acts 243 = .ok (.ifCond .eq 11, 3) := by decide +kernel
theorem dL_acts_246 : decode cL_acts 246 = .ok (.iload 8, 2) := by decide +kernel
theorem dL_acts_248 : decode cL_acts 248 = .ok (.bipush 7, 2) := by decide +kernel
theorem dL_acts_250 : decode cL_acts 250 = .ok (.irem, 1) := by decide +kernel
theorem dL_acts_251 : decode cL_acts 251 = .ok (.ifCond .ne 9, 3) := by decide +kernel
theorem dL_acts_254 : decode cL_acts 254 = .ok (.aload_n 1, 1) := by decide +kernel
theorem dL_acts_255 : decode cL_acts 255 = .ok (.iconst 5, 1) := by decide +kernel
theorem dL_acts_256 : decode cL_acts 256 = .ok (.iaload, 1) := by decide +kernel
theorem dL_acts_257 : decode cL_acts 257 = .ok (.goto 15, 3) := by decide +kernel
theorem dL_acts_260 : decode cL_acts 260 = .ok (.aload 5, 2) := by decide +kernel
theorem dL_acts_262 : decode cL_acts 262 = .ok (.bipush 8, 2) := by decide +kernel
theorem dL_acts_264 : decode cL_acts 264 = .ok (.iload 8, 2) := by decide +kernel
theorem dL_acts_266 : decode cL_acts 266 = .ok (.aload_n 1, 1) := by decide +kernel
theorem dL_acts_267 : decode cL_acts 267 = .ok (.iconst 4, 1) := by decide +kernel
theorem dL_acts_268 : decode cL_acts 268 = .ok (.iaload, 1) := by decide +kernel
theorem dL_acts_269 : decode cL_acts 269 = .ok (.irem, 1) := by decide +kernel
theorem dL_acts_270 : decode cL_acts 270 = .ok (.imul, 1) := by decide +kernel
theorem dL_acts_271 : decode cL_acts 271 = .ok (.iaload, 1) := by decide +kernel
theorem dL_acts_272 : decode cL_acts 272 = .ok (.istore 10, 2) := by decide +kernel
theorem dL_acts_274 : decode cL_acts 274 = .ok (.aload_n 1, 1) := by decide +kernel
theorem dL_acts_275 : decode cL_acts 275 = .ok (.aload 5, 2) := by decide +kernel
theorem dL_acts_277 : decode cL_acts 277 = .ok (.iload 10, 2) := by decide +kernel
theorem dL_acts_279 : decode cL_acts 279 = .ok (.invokestatic 116, 3) := by decide +kernel
theorem dL_acts_282 : decode cL_acts 282 = .ok (.istore 11, 2) := by decide +kernel
theorem dL_acts_284 : decode cL_acts 284 = .ok (.iload 11, 2) := by decide +kernel
theorem dL_acts_286 : decode cL_acts 286 = .ok (.ifCond .ge 30, 3) := by decide +kernel
theorem dL_acts_289 : decode cL_acts 289 = .ok (.aload_n 0, 1) := by decide +kernel
theorem dL_acts_290 : decode cL_acts 290 = .ok (.iload 10, 2) := by decide +kernel
theorem dL_acts_292 : decode cL_acts 292 = .ok (.iconst 1, 1) := by decide +kernel
theorem dL_acts_293 : decode cL_acts 293 = .ok (.invokevirtual 120, 3) := by decide +kernel
theorem dL_acts_296 : decode cL_acts 296 = .ok (.iconst (-1), 1) := by decide +kernel
theorem dL_acts_297 : decode cL_acts 297 = .ok (.if_icmp .ne 17, 3) := by decide +kernel
theorem dL_acts_300 : decode cL_acts 300 = .ok (.aload_n 0, 1) := by decide +kernel
theorem dL_acts_301 : decode cL_acts 301 = .ok (.iload 10, 2) := by decide +kernel
theorem dL_acts_303 : decode cL_acts 303 = .ok (.invokevirtual 123, 3) := by decide +kernel
theorem dL_acts_306 : decode cL_acts 306 = .ok (.iconst (-1), 1) := by decide +kernel
theorem dL_acts_307 : decode cL_acts 307 = .ok (.if_icmp .ne 7, 3) := by decide +kernel
theorem dL_acts_310 : decode cL_acts 310 = .ok (.iconst 1, 1) := by decide +kernel
theorem dL_acts_311 : decode cL_acts 311 = .ok (.goto 4, 3) := by decide +kernel
theorem dL_acts_314 : decode cL_acts 314 = .ok (.iconst 0, 1) := by decide +kernel
theorem dL_acts_315 : decode cL_acts 315 = .ok (.ireturn, 1) := by decide +kernel
theorem dL_acts_316 : decode cL_acts 316 = .ok (.iload 9, 2) := by decide +kernel
theorem dL_acts_318 : decode cL_acts 318 = .ok (.bipush 25, 2) := by decide +kernel
theorem dL_acts_320 : decode cL_acts 320 = .ok (.if_icmp .ge 99, 3) := by decide +kernel
theorem dL_acts_323 : decode cL_acts 323 = .ok (.aload 5, 2) := by decide +kernel
theorem dL_acts_325 : decode cL_acts 325 = .ok (.bipush 8, 2) := by decide +kernel
theorem dL_acts_327 : decode cL_acts 327 = .ok (.iload 11, 2) := by decide +kernel
theorem dL_acts_329 : decode cL_acts 329 = .ok (.imul, 1) := by decide +kernel
theorem dL_acts_330 : decode cL_acts 330 = .ok (.bipush 6, 2) := by decide +kernel
theorem dL_acts_332 : decode cL_acts 332 = .ok (.iadd, 1) := by decide +kernel
theorem dL_acts_333 : decode cL_acts 333 = .ok (.aload 5, 2) := by decide +kernel
theorem dL_acts_335 : decode cL_acts 335 = .ok (.bipush 8, 2) := by decide +kernel
theorem dL_acts_337 : decode cL_acts 337 = .ok (.iload 11, 2) := by decide +kernel
theorem dL_acts_339 : decode cL_acts 339 = .ok (.imul, 1) := by decide +kernel
theorem dL_acts_340 : decode cL_acts 340 = .ok (.bipush 6, 2) := by decide +kernel
theorem dL_acts_342 : decode cL_acts 342 = .ok (.iadd, 1) := by decide +kernel
theorem dL_acts_343 : decode cL_acts 343 = .ok (.iaload, 1) := by decide +kernel
theorem dL_acts_344 : decode cL_acts 344 = .ok (.iconst 2, 1) := by decide +kernel
theorem dL_acts_345 : decode cL_acts 345 = .ok (.idiv, 1) := by decide +kernel
theorem dL_acts_346 : decode cL_acts 346 = .ok (.iconst 2, 1) := by decide +kernel
theorem dL_acts_347 : decode cL_acts 347 = .ok (.imul, 1) := by decide +kernel
theorem dL_acts_348 : decode cL_acts 348 = .ok (.iload 8, 2) := by decide +kernel
theorem dL_acts_350 : decode cL_acts 350 = .ok (.bipush 8, 2) := by decide +kernel
theorem dL_acts_352 : decode cL_acts 352 = .ok (.idiv, 1) := by decide +kernel
theorem dL_acts_353 : decode cL_acts 353 = .ok (.iconst 2, 1) := by decide +kernel
theorem dL_acts_354 : decode cL_acts 354 = .ok (.irem, 1) := by decide +kernel
theorem dL_acts_355 : decode cL_acts 355 = .ok (.iadd, 1) := by decide +kernel
theorem dL_acts_356 : decode cL_acts 356 = .ok (.iastore, 1) := by decide +kernel
theorem dL_acts_357 : decode cL_acts 357 = .ok (.iconst 0, 1) := by decide +kernel
theorem dL_acts_358 : decode cL_acts 358 = .ok (.istore 12, 2) := by decide +kernel
theorem dL_acts_360 : decode cL_acts 360 = .ok (.iconst 0, 1) := by decide +kernel
theorem dL_acts_361 : decode cL_acts 361 = .ok (.istore 13, 2) := by decide +kernel
theorem dL_acts_363 : decode cL_acts 363 = .ok (.iload 13, 2) := by decide +kernel
theorem dL_acts_365 : decode cL_acts 365 = .ok (.aload_n 1, 1) := by decide +kernel
theorem dL_acts_366 : decode cL_acts 366 = .ok (.iconst 4, 1) := by decide +kernel
theorem dL_acts_367 : decode cL_acts 367 = .ok (.iaload, 1) := by decide +kernel
theorem dL_acts_368 : decode cL_acts 368 = .ok (.if_icmp .ge 27, 3) := by decide +kernel
theorem dL_acts_371 : decode cL_acts 371 = .ok (.iload 12, 2) := by decide +kernel
theorem dL_acts_373 : decode cL_acts 373 = .ok (.aload 5, 2) := by decide +kernel
theorem dL_acts_375 : decode cL_acts 375 = .ok (.bipush 8, 2) := by decide +kernel
theorem dL_acts_377 : decode cL_acts 377 = .ok (.iload 13, 2) := by decide +kernel
theorem dL_acts_379 : decode cL_acts 379 = .ok (.imul, 1) := by decide +kernel
theorem dL_acts_380 : decode cL_acts 380 = .ok (.bipush 6, 2) := by decide +kernel
theorem dL_acts_382 : decode cL_acts 382 = .ok (.iadd, 1) := by decide +kernel
theorem dL_acts_383 : decode cL_acts 383 = .ok (.iaload, 1) := by decide +kernel
theorem dL_acts_384 : decode cL_acts 384 = .ok (.iconst 2, 1) := by decide +kernel
theorem dL_acts_385 : decode cL_acts 385 = .ok (.irem, 1) := by decide +kernel
theorem dL_acts_386 : decode cL_acts 386 = .ok (.iadd, 1) := by decide +kernel
theorem dL_acts_387 : decode cL_acts 387 = .ok (.istore 12, 2) := by decide +kernel
theorem dL_acts_389 : decode cL_acts 389 = .ok (.iinc 13 1, 3) := by decide +kernel
theorem dL_acts_392 : decode cL_acts 392 = .ok (.goto (-29), 3) := by decide +kernel
theorem dL_acts_395 : decode cL_acts 395 = .ok (.aload_n 0, 1) := by decide +kernel
theorem dL_acts_396 : decode cL_acts 396 = .ok (.iload 10, 2) := by decide +kernel
theorem dL_acts_398 : decode cL_acts 398 = .ok (.iload 8, 2) := by decide +kernel
theorem dL_acts_400 : decode cL_acts 400 = .ok (.bipush 8, 2) := by decide +kernel
theorem dL_acts_402 : decode cL_acts 402 = .ok (.idiv, 1) := by decide +kernel
theorem dL_acts_403 : decode cL_acts 403 = .ok (.iconst 2, 1) := by decide +kernel
theorem dL_acts_404 : decode cL_acts 404 = .ok (.irem, 1) := by decide +kernel
theorem dL_acts_405 : decode cL_acts 405 = .ok (.invokevirtual 120, 3) := by decide +kernel
theorem dL_acts_408 : decode cL_acts 408 = .ok (.iload 12, 2) := by decide +kernel
theorem dL_acts_410 : decode cL_acts 410 = .ok (.if_icmp .ne 7, 3) := by decide +kernel
theorem dL_acts_413 : decode cL_acts 413 = .ok (.iconst 1, 1) := by decide +kernel
theorem dL_acts_414 : decode cL_acts 414 = .ok (.goto 4, 3) := by decide +kernel
theorem dL_acts_417 : decode cL_acts 417 = .ok (.iconst 0, 1) := by decide +kernel
theorem dL_acts_418 : decode cL_acts 418 = .ok (.ireturn, 1) := by decide +kernel
theorem dL_acts_419 : decode cL_acts 419 = .ok (.aload 5, 2) := by decide +kernel
theorem dL_acts_421 : decode cL_acts 421 = .ok (.bipush 8, 2) := by decide +kernel
theorem dL_acts_423 : decode cL_acts 423 = .ok (.iload 11, 2) := by decide +kernel
theorem dL_acts_425 : decode cL_acts 425 = .ok (.imul, 1) := by decide +kernel
theorem dL_acts_426 : decode cL_acts 426 = .ok (.bipush 6, 2) := by decide +kernel
theorem dL_acts_428 : decode cL_acts 428 = .ok (.iadd, 1) := by decide +kernel
theorem dL_acts_429 : decode cL_acts 429 = .ok (.iaload, 1) := by decide +kernel
theorem dL_acts_430 : decode cL_acts 430 = .ok (.iconst 2, 1) := by decide +kernel
theorem dL_acts_431 : decode cL_acts 431 = .ok (.irem, 1) := by decide +kernel
theorem dL_acts_432 : decode cL_acts 432 = .ok (.iconst 1, 1) := by decide +kernel
theorem dL_acts_433 : decode cL_acts 433 = .ok (.if_icmp .ne 20, 3) := by decide +kernel
theorem dL_acts_436 : decode cL_acts 436 = .ok (.aload_n 0, 1) := by decide +kernel
theorem dL_acts_437 : decode cL_acts 437 = .ok (.iload 10, 2) := by decide +kernel
theorem dL_acts_439 : decode cL_acts 439 = .ok (.invokevirtual 123, 3) := by decide +kernel
theorem dL_acts_442 : decode cL_acts 442 = .ok (.bipush (-2), 2) := by decide +kernel
theorem dL_acts_444 : decode cL_acts 444 = .ok (.if_icmp .ne 7, 3) := by decide +kernel
theorem dL_acts_447 : decode cL_acts 447 = .ok (.iconst 1, 1) := by decide +kernel
theorem dL_acts_448 : decode cL_acts 448 = .ok (.goto 4, 3) := by decide +kernel
theorem dL_acts_451 : decode cL_acts 451 = .ok (.iconst 0, 1) := by decide +kernel
theorem dL_acts_452 : decode cL_acts 452 = .ok (.ireturn, 1) := by decide +kernel
theorem dL_acts_453 : decode cL_acts 453 = .ok (.aload_n 1, 1) := by decide +kernel
theorem dL_acts_454 : decode cL_acts 454 = .ok (.aload 5, 2) := by decide +kernel
theorem dL_acts_456 : decode cL_acts 456 = .ok (.iload 11, 2) := by decide +kernel
theorem dL_acts_458 : decode cL_acts 458 = .ok (.invokestatic 58, 3) := by decide +kernel
theorem dL_acts_461 : decode cL_acts 461 = .ok (.aload_n 1, 1) := by decide +kernel
theorem dL_acts_462 : decode cL_acts 462 = .ok (.bipush 10, 2) := by decide +kernel
theorem dL_acts_464 : decode cL_acts 464 = .ok (.dup2, 1) := by decide +kernel
theorem dL_acts_465 : decode cL_acts 465 = .ok (.iaload, 1) := by decide +kernel
theorem dL_acts_466 : decode cL_acts 466 = .ok (.iconst 1, 1) := by decide +kernel
theorem dL_acts_467 : decode cL_acts 467 = .ok (.iadd, 1) := by decide +kernel
theorem dL_acts_468 : decode cL_acts 468 = .ok (.iastore, 1) := by decide +kernel
theorem dL_acts_469 : decode cL_acts 469 = .ok (.aload_n 0, 1) := by decide +kernel
theorem dL_acts_470 : decode cL_acts 470 = .ok (.iload 10, 2) := by decide +kernel
theorem dL_acts_472 : decode cL_acts 472 = .ok (.invokevirtual 123, 3) := by decide +kernel
theorem dL_acts_475 : decode cL_acts 475 = .ok (.aload_n 1, 1) := by decide +kernel
theorem dL_acts_476 : decode cL_acts 476 = .ok (.iconst 4, 1) := by decide +kernel
theorem dL_acts_477 : decode cL_acts 477 = .ok (.iaload, 1) := by decide +kernel
theorem dL_acts_478 : decode cL_acts 478 = .ok (.if_icmp .ne 7, 3) := by decide +kernel
theorem dL_acts_481 : decode cL_acts 481 = .ok (.iconst 1, 1) := by decide +kernel
theorem dL_acts_482 : decode cL_acts 482 = .ok (.goto 4, 3) := by decide +kernel
theorem dL_acts_485 : decode cL_acts 485 = .ok (.iconst 0, 1) := by decide +kernel
theorem dL_acts_486 : decode cL_acts 486 = .ok (.ireturn, 1) := by decide +kernel
theorem dL_areRows_0 : decode cL_areRows 0 = .ok (.iconst 1, 1) := by decide +kernel
theorem dL_areRows_1 : decode cL_areRows 1 = .ok (.istore 4, 2) := by decide +kernel
theorem dL_areRows_3 : decode cL_areRows 3 = .ok (.iconst 0, 1) := by decide +kernel
theorem dL_areRows_4 : decode cL_areRows 4 = .ok (.istore 5, 2) := by decide +kernel
theorem dL_areRows_6 : decode cL_areRows 6 = .ok (.iload 5, 2) := by decide +kernel
theorem dL_areRows_8 : decode cL_areRows 8 = .ok (.aload_n 1, 1) := by decide +kernel
theorem dL_areRows_9 : decode cL_areRows 9 = .ok (.iconst 0, 1) := by decide +kernel
theorem dL_areRows_10 : decode cL_areRows 10 = .ok (.iaload, 1) := by decide +kernel
theorem dL_areRows_11 : decode cL_areRows 11 = .ok (.if_icmp .ge 99, 3) := by decide +kernel
theorem dL_areRows_14 : decode cL_areRows 14 = .ok (.iload 4, 2) := by decide +kernel
theorem dL_areRows_16 : decode cL_areRows 16 = .ok (.ifCond .eq 94, 3) := by decide +kernel
theorem dL_areRows_19 : decode cL_areRows 19 = .ok (.iconst 0, 1) := by decide +kernel
theorem dL_areRows_20 : decode cL_areRows 20 = .ok (.istore 6, 2) := by decide +kernel
theorem dL_areRows_22 : decode cL_areRows 22 = .ok (.iload 6, 2) := by decide +kernel
theorem dL_areRows_24 : decode cL_areRows 24 = .ok (.iconst 4, 1) := by decide +kernel
theorem dL_areRows_25 : decode cL_areRows 25 = .ok (.if_icmp .ge 40, 3) := by decide +kernel
theorem dL_areRows_28 : decode cL_areRows 28 = .ok (.iload 4, 2) := by decide +kernel
theorem dL_areRows_30 : decode cL_areRows 30 = .ok (.ifCond .eq 26, 3) := by decide +kernel
theorem dL_areRows_33 : decode cL_areRows 33 = .ok (.aload_n 0, 1) := by decide +kernel
theorem dL_areRows_34 : decode cL_areRows 34 = .ok (.iload 5, 2) := by decide +kernel
theorem dL_areRows_36 : decode cL_areRows 36 = .ok (.iload 6, 2) := by decide +kernel
theorem dL_areRows_38 : decode cL_areRows 38 = .ok (.invokevirtual 126, 3) := by decide +kernel
theorem dL_areRows_41 : decode cL_areRows 41 = .ok (.aload_n 2, 1) := by decide +kernel
theorem dL_areRows_42 : decode cL_areRows 42 = .ok (.iload 5, 2) := by decide +kernel
theorem dL_areRows_44 : decode cL_areRows 44 = .ok (.iload 6, 2) := by decide +kernel
theorem dL_areRows_46 : decode cL_areRows 46 = .ok (.invokestatic 25, 3) := by decide +kernel
theorem dL_areRows_49 : decode cL_areRows 49 = .ok (.if_icmp .ne 7, 3) := by decide +kernel
theorem dL_areRows_52 : decode cL_areRows 52 = .ok (.iconst 1, 1) := by decide +kernel
theorem dL_areRows_53 : decode cL_areRows 53 = .ok (.goto 4, 3) := by decide +kernel
theorem dL_areRows_56 : decode cL_areRows 56 = .ok (.iconst 0, 1) := by decide +kernel
theorem dL_areRows_57 : decode cL_areRows 57 = .ok (.istore 4, 2) := by decide +kernel
theorem dL_areRows_59 : decode cL_areRows 59 = .ok (.iinc 6 1, 3) := by decide +kernel
theorem dL_areRows_62 : decode cL_areRows 62 = .ok (.goto (-40), 3) := by decide +kernel
theorem dL_areRows_65 : decode cL_areRows 65 = .ok (.iload 4, 2) := by decide +kernel
theorem dL_areRows_67 : decode cL_areRows 67 = .ok (.ifCond .eq 34, 3) := by decide +kernel
theorem dL_areRows_70 : decode cL_areRows 70 = .ok (.aload_n 0, 1) := by decide +kernel
theorem dL_areRows_71 : decode cL_areRows 71 = .ok (.iload 5, 2) := by decide +kernel
theorem dL_areRows_73 : decode cL_areRows 73 = .ok (.iconst 4, 1) := by decide +kernel
theorem dL_areRows_74 : decode cL_areRows 74 = .ok (.invokevirtual 126, 3) := by decide +kernel
theorem dL_areRows_77 : decode cL_areRows 77 = .ok (.aload_n 2, 1) := by decide +kernel
theorem dL_areRows_78 : decode cL_areRows 78 = .ok (.iload 5, 2) := by decide +kernel
theorem dL_areRows_80 : decode cL_areRows 80 = .ok (.invokestatic 11, 3) := by decide +kernel
theorem dL_areRows_83 : decode cL_areRows 83 = .ok (.if_icmp .ne 18, 3) := by decide +kernel
theorem dL_areRows_86 : decode cL_areRows 86 = .ok (.aload_n 0, 1) := by decide +kernel
theorem dL_areRows_87 : decode cL_areRows 87 = .ok (.iload 5, 2) := by decide +kernel
theorem dL_areRows_89 : decode cL_areRows 89 = .ok (.iconst 5, 1) := by decide +kernel
theorem dL_areRows_90 : decode cL_areRows 90 = .ok (.invokevirtual 126, 3) := by decide +kernel
theorem dL_areRows_93 : decode cL_areRows 93 = .ok (.iconst (-1), 1) := by decide +kernel
theorem dL_areRows_94 : decode cL_areRows 94 = .ok (.if_icmp .ne 7, 3) := by decide +kernel
theorem dL_areRows_97 : decode cL_areRows 97 = .ok (.iconst 1, 1) := by decide +kernel
theorem dL_areRows_98 : decode cL_areRows 98 = .ok (.goto 4, 3) := by decide +kernel
theorem dL_areRows_101 : decode cL_areRows 101 = .ok (.iconst 0, 1) := by decide +kernel
theorem dL_areRows_102 : decode cL_areRows 102 = .ok (.istore 4, 2) := by decide +kernel
theorem dL_areRows_104 : decode cL_areRows 104 = .ok (.iinc 5 1, 3) := by decide +kernel
theorem dL_areRows_107 : decode cL_areRows 107 = .ok (.goto (-101), 3) := by decide +kernel
theorem dL_areRows_110 : decode cL_areRows 110 = .ok (.iconst 0, 1) := by decide +kernel
theorem dL_areRows_111 : decode cL_areRows 111 = .ok (.istore 5, 2) := by decide +kernel
theorem dL_areRows_113 : decode cL_areRows 113 = .ok (.iconst 0, 1) := by decide +kernel
theorem dL_areRows_114 : decode cL_areRows 114 = .ok (.istore 6, 2) := by decide +kernel
theorem dL_areRows_116 : decode cL_areRows 116 = .ok (.iload 6, 2) := by decide +kernel
theorem dL_areRows_118 : decode cL_areRows 118 = .ok (.sipush 128, 3) := by decide +kernel
theorem dL_areRows_121 : decode cL_areRows 121 = .ok (.if_icmp .ge 71, 3) := by decide +kernel
theorem dL_areRows_124 : decode cL_areRows 124 = .ok (.iload 4, 2) := by decide +kernel
theorem dL_areRows_126 : decode cL_areRows 126 = .ok (.ifCond .eq 66, 3) := by decide +kernel
theorem dL_areRows_129 : decode cL_areRows 129 = .ok (.iload 5, 2) := by decide +kernel
theorem dL_areRows_131 : decode cL_areRows 131 = .ok (.aload_n 3, 1) := by decide +kernel
theorem dL_areRows_132 : decode cL_areRows 132 = .ok (.iload 6, 2) := by decide +kernel
theorem dL_areRows_134 : decode cL_areRows 134 = .ok (.bipush 32, 2) := by decide +kernel
theorem dL_areRows_136 : decode cL_areRows 136 = .ok (.idiv, 1) := by decide +kernel
theorem dL_areRows_137 : decode cL_areRows 137 = .ok (.iload 6, 2) := by decide +kernel
theorem dL_areRows_139 : decode cL_areRows 139 = .ok (.bipush 32, 2) := by decide +kernel
theorem dL_areRows_141 : decode cL_areRows 141 = .ok (.irem, 1) := by decide +kernel
theorem dL_areRows_142 : decode cL_areRows 142 = .ok (.invokestatic 21, 3) := by decide +kernel
theorem dL_areRows_145 : decode cL_areRows 145 = .ok (.iadd, 1) := by decide +kernel
theorem dL_areRows_146 : decode cL_areRows 146 = .ok (.istore 5, 2) := by decide +kernel
theorem dL_areRows_148 : decode cL_areRows 148 = .ok (.aload_n 0, 1) := by decide +kernel
theorem dL_areRows_149 : decode cL_areRows 149 = .ok (.iload 6, 2) := by decide +kernel
theorem dL_areRows_151 : decode cL_areRows 151 = .ok (.bipush 32, 2) := by decide +kernel
theorem dL_areRows_153 : decode cL_areRows 153 = .ok (.idiv, 1) := by decide +kernel
theorem dL_areRows_154 : decode cL_areRows 154 = .ok (.iload 6, 2) := by decide +kernel
theorem dL_areRows_156 : decode cL_areRows 156 = .ok (.bipush 32, 2) := by decide +kernel
theorem dL_areRows_158 : decode cL_areRows 158 = .ok (.irem, 1) := by decide +kernel
theorem dL_areRows_159 : decode cL_areRows 159 = .ok (.invokevirtual 129, 3) := by decide +kernel
theorem dL_areRows_162 : decode cL_areRows 162 = .ok (.aload_n 3, 1) := by decide +kernel
theorem dL_areRows_163 : decode cL_areRows 163 = .ok (.iload 6, 2) := by decide +kernel
theorem dL_areRows_165 : decode cL_areRows 165 = .ok (.bipush 32, 2) := by decide +kernel
theorem dL_areRows_167 : decode cL_areRows 167 = .ok (.idiv, 1) := by decide +kernel
theorem dL_areRows_168 : decode cL_areRows 168 = .ok (.iload 6, 2) := by decide +kernel
theorem dL_areRows_170 : decode cL_areRows 170 = .ok (.bipush 32, 2) := by decide +kernel
theorem dL_areRows_172 : decode cL_areRows 172 = .ok (.irem, 1) := by decide +kernel
theorem dL_areRows_173 : decode cL_areRows 173 = .ok (.invokestatic 21, 3) := by decide +kernel
theorem dL_areRows_176 : decode cL_areRows 176 = .ok (.if_icmp .ne 7, 3) := by decide +kernel
theorem dL_areRows_179 : decode cL_areRows 179 = .ok (.iconst 1, 1) := by decide +kernel
theorem dL_areRows_180 : decode cL_areRows 180 = .ok (.goto 4, 3) := by decide +kernel
theorem dL_areRows_183 : decode cL_areRows 183 = .ok (.iconst 0, 1) := by decide +kernel
theorem dL_areRows_184 : decode cL_areRows 184 = .ok (.istore 4, 2) := by decide +kernel
theorem dL_areRows_186 : decode cL_areRows 186 = .ok (.iinc 6 1, 3) := by decide +kernel
theorem dL_areRows_189 : decode cL_areRows 189 = .ok (.goto (-73), 3) := by decide +kernel
theorem dL_areRows_192 : decode cL_areRows 192 = .ok (.iload 4, 2) := by decide +kernel
theorem dL_areRows_194 : decode cL_areRows 194 = .ok (.ifCond .eq 50, 3) := by decide +kernel
theorem dL_areRows_197 : decode cL_areRows 197 = .ok (.iload 5, 2) := by decide +kernel
theorem dL_areRows_199 : decode cL_areRows 199 = .ok (.iconst 4, 1) := by decide +kernel
theorem dL_areRows_200 : decode cL_areRows 200 = .ok (.aload_n 1, 1) := by decide +kernel
theorem dL_areRows_201 : decode cL_areRows 201 = .ok (.iconst 2, 1) := by decide +kernel
theorem dL_areRows_202 : decode cL_areRows 202 = .ok (.iaload, 1) := by decide +kernel
theorem dL_areRows_203 : decode cL_areRows 203 = .ok (.imul, 1) := by decide +kernel
theorem dL_areRows_204 : decode cL_areRows 204 = .ok (.if_icmp .ne 40, 3) := by decide +kernel
theorem dL_areRows_207 : decode cL_areRows 207 = .ok (.aload_n 0, 1) := by decide +kernel
theorem dL_areRows_208 : decode cL_areRows 208 = .ok (.aload_n 1, 1) := by decide +kernel
theorem dL_areRows_209 : decode cL_areRows 209 = .ok (.iconst 0, 1) := by decide +kernel
theorem dL_areRows_210 : decode cL_areRows 210 = .ok (.iaload, 1) := by decide +kernel
theorem dL_areRows_211 : decode cL_areRows 211 = .ok (.iconst 0, 1) := by decide +kernel
theorem dL_areRows_212 : decode cL_areRows 212 = .ok (.invokevirtual 126, 3) := by decide +kernel
theorem dL_areRows_215 : decode cL_areRows 215 = .ok (.iconst (-1), 1) := by decide +kernel
theorem dL_areRows_216 : decode cL_areRows 216 = .ok (.if_icmp .ne 28, 3) := by decide +kernel
theorem dL_areRows_219 : decode cL_areRows 219 = .ok (.aload_n 0, 1) := by decide +kernel
theorem dL_areRows_220 : decode cL_areRows 220 = .ok (.iconst 4, 1) := by decide +kernel
theorem dL_areRows_221 : decode cL_areRows 221 = .ok (.iconst 0, 1) := by decide +kernel
theorem dL_areRows_222 : decode cL_areRows 222 = .ok (.invokevirtual 129, 3) := by decide +kernel
theorem dL_areRows_225 : decode cL_areRows 225 = .ok (.iconst (-1), 1) := by decide +kernel
theorem dL_areRows_226 : decode cL_areRows 226 = .ok (.if_icmp .ne 18, 3) := by decide +kernel
theorem dL_areRows_229 : decode cL_areRows 229 = .ok (.aload_n 0, 1) := by decide +kernel
theorem dL_areRows_230 : decode cL_areRows 230 = .ok (.iconst 0, 1) := by decide +kernel
theorem dL_areRows_231 : decode cL_areRows 231 = .ok (.bipush 32, 2) := by decide +kernel
theorem dL_areRows_233 : decode cL_areRows 233 = .ok (.invokevirtual 129, 3) := by decide +kernel
theorem dL_areRows_236 : decode cL_areRows 236 = .ok (.iconst (-1), 1) := by decide +kernel
theorem dL_areRows_237 : decode cL_areRows 237 = .ok (.if_icmp .ne 7, 3) := by decide +kernel
theorem dL_areRows_240 : decode cL_areRows 240 = .ok (.iconst 1, 1) := by decide +kernel
theorem dL_areRows_241 : decode cL_areRows 241 = .ok (.goto 4, 3) := by decide +kernel
theorem dL_areRows_244 : decode cL_areRows 244 = .ok (.iconst 0, 1) := by decide +kernel
theorem dL_areRows_245 : decode cL_areRows 245 = .ok (.ireturn, 1) := by decide +kernel
theorem dL_areStatements_0 : decode cL_areStatements 0 = .ok (.aload_n 0, 1) := by decide +kernel
theorem dL_areStatements_1 : decode cL_areStatements 1 = .ok (.aload_n 1, 1) := by decide +kernel
theorem dL_areStatements_2 : decode cL_areStatements 2 = .ok (.iconst 3, 1) := by decide +kernel
theorem dL_areStatements_3 : decode cL_areStatements 3 = .ok (.iaload, 1) := by decide +kernel
theorem dL_areStatements_4 : decode cL_areStatements 4 = .ok (.iconst 0, 1) := by decide +kernel
theorem dL_areStatements_5 : decode cL_areStatements 5 = .ok (.invokevirtual 131, 3) := by decide +kernel
theorem dL_areStatements_8 : decode cL_areStatements 8 = .ok (.iconst (-1), 1) := by decide +kernel
theorem dL_areStatements_9 : decode cL_areStatements 9 = .ok (.if_icmp .ne 7, 3) := by decide +kernel
theorem dL_areStatements_12 : decode cL_areStatements 12 = .ok (.iconst 1, 1) := by decide +kernel
theorem dL_areStatements_13 : decode cL_areStatements 13 = .ok (.goto 4, 3) := by decide +kernel
theorem dL_areStatements_16 : decode cL_areStatements 16 = .ok (.iconst 0, 1) := by decide +kernel
theorem dL_areStatements_17 : decode cL_areStatements 17 = .ok (.istore 4, 2) := by decide +kernel
theorem dL_areStatements_19 : decode cL_areStatements 19 = .ok (.iconst 0, 1) := by decide +kernel
theorem dL_areStatements_20 : decode cL_areStatements 20 = .ok (.istore 5, 2) := by decide +kernel
theorem dL_areStatements_22 : decode cL_areStatements 22 = .ok (.iconst 0, 1) := by decide +kernel
theorem dL_areStatements_23 : decode cL_areStatements 23 = .ok (.istore 6, 2) := by decide +kernel
theorem dL_areStatements_25 : decode cL_areStatements 25 = .ok (.iload 6, 2) := by decide +kernel
theorem dL_areStatements_27 : decode cL_areStatements 27 = .ok (.aload_n 1, 1) := by decide +kernel
theorem dL_areStatements_28 : decode cL_areStatements 28 = .ok (.iconst 3, 1) := by decide +kernel
theorem dL_areStatements_29 : decode cL_areStatements 29 = .ok (.iaload, 1) := by decide +kernel
theorem dL_areStatements_30 : decode cL_areStatements 30 = .ok (.if_icmp .ge 252, 3) := by decide +kernel
theorem dL_areStatements_33 : decode cL_areStatements 33 = .ok (.iload 4, 2) := by decide +kernel
theorem dL_areStatements_35 : decode cL_areStatements 35 = .ok (.ifCond .eq 247, 3) := by decide +kernel
theorem dL_areStatements_38 : decode cL_areStatements 38 = .ok (.iconst 0, 1) := by decide +kernel
theorem dL_areStatements_39 : decode cL_areStatements 39 = .ok (.istore 7, 2) := by decide +kernel
theorem dL_areStatements_41 : decode cL_areStatements 41 = .ok (.iconst 0, 1) := by decide +kernel
theorem dL_areStatements_42 : decode cL_areStatements 42 = .ok (.istore 8, 2) := by decide +kernel
theorem dL_areStatements_44 : decode cL_areStatements 44 = .ok (.iload 8, 2) := by decide +kernel
theorem dL_areStatements_46 : decode cL_areStatements 46 = .ok (.aload_n 1, 1) := by decide +kernel
theorem dL_areStatements_47 : decode cL_areStatements 47 = .ok (.iconst 4, 1) := by decide +kernel
theorem dL_areStatements_48 : decode cL_areStatements 48 = .ok (.iaload, 1) := by decide +kernel
theorem dL_areStatements_49 : decode cL_areStatements 49 = .ok (.if_icmp .ge 33, 3) := by decide +kernel
theorem dL_areStatements_52 : decode cL_areStatements 52 = .ok (.iload 7, 2) := by decide +kernel
theorem dL_areStatements_54 : decode cL_areStatements 54 = .ok (.aload_n 3, 1) := by decide +kernel
theorem dL_areStatements_55 : decode cL_areStatements 55 = .ok (.bipush 8, 2) := by decide +kernel
theorem dL_areStatements_57 : decode cL_areStatements 57 = .ok (.iload 8, 2) := by decide +kernel
theorem dL_areStatements_59 : decode cL_areStatements 59 = .ok (.imul, 1) := by decide +kernel
theorem dL_areStatements_60 : decode cL_areStatements 60 = .ok (.iconst 1, 1) := by decide +kernel
theorem dL_areStatements_61 : decode cL_areStatements 61 = .ok (.iadd, 1) := by decide +kernel
theorem dL_areStatements_62 : decode cL_areStatements 62 = .ok (.iaload, 1) := by decide +kernel
theorem dL_areStatements_63 : decode cL_areStatements 63 = .ok (.iload 6, 2) := by decide +kernel
theorem dL_areStatements_65 : decode cL_areStatements 65 = .ok (.if_icmp .ne 7, 3) := by decide +kernel
theorem dL_areStatements_68 : decode cL_areStatements 68 = .ok (.iconst 1, 1) := by decide +kernel
theorem dL_areStatements_69 : decode cL_areStatements 69 = .ok (.goto 4, 3) := by decide +kernel
theorem dL_areStatements_72 : decode cL_areStatements 72 = .ok (.iconst 0, 1) := by decide +kernel
theorem dL_areStatements_73 : decode cL_areStatements 73 = .ok (.iadd, 1) := by decide +kernel
theorem dL_areStatements_74 : decode cL_areStatements 74 = .ok (.istore 7, 2) := by decide +kernel
theorem dL_areStatements_76 : decode cL_areStatements 76 = .ok (.iinc 8 1, 3) := by decide +kernel
theorem dL_areStatements_79 : decode cL_areStatements 79 = .ok (.goto (-35), 3) := by decide +kernel
theorem dL_areStatements_82 : decode cL_areStatements 82 = .ok (.iload 5, 2) := by decide +kernel
theorem dL_areStatements_84 : decode cL_areStatements 84 = .ok (.aload_n 2, 1) := by decide +kernel
theorem dL_areStatements_85 : decode cL_areStatements 85 = .ok (.iconst 2, 1) := by decide +kernel
theorem dL_areStatements_86 : decode cL_areStatements 86 = .ok (.iload 6, 2) := by decide +kernel
theorem dL_areStatements_88 : decode cL_areStatements 88 = .ok (.imul, 1) := by decide +kernel
theorem dL_areStatements_89 : decode cL_areStatements 89 = .ok (.iconst 1, 1) := by decide +kernel
theorem dL_areStatements_90 : decode cL_areStatements 90 = .ok (.iadd, 1) := by decide +kernel
theorem dL_areStatements_91 : decode cL_areStatements 91 = .ok (.iaload, 1) := by decide +kernel
theorem dL_areStatements_92 : decode cL_areStatements 92 = .ok (.iadd, 1) := by decide +kernel
theorem dL_areStatements_93 : decode cL_areStatements 93 = .ok (.istore 5, 2) := by decide +kernel
theorem dL_areStatements_95 : decode cL_areStatements 95 = .ok (.aload_n 0, 1) := by decide +kernel
theorem dL_areStatements_96 : decode cL_areStatements 96 = .ok (.iload 6, 2) := by decide +kernel
theorem dL_areStatements_98 : decode cL_areStatements 98 = .ok (.iconst 0, 1) := by decide +kernel
theorem dL_areStatements_99 : decode cL_areStatements 99 = .ok (.invokevirtual 131, 3) := by decide +kernel
theorem dL_areStatements_102 : decode cL_areStatements 102 = .ok (.aload_n 2, 1) := by decide +kernel
theorem dL_areStatements_103 : decode cL_areStatements 103 = .ok (.iload 6, 2) := by decide +kernel
theorem dL_areStatements_105 : decode cL_areStatements 105 = .ok (.invokestatic 40, 3) := by decide +kernel
theorem dL_areStatements_108 : decode cL_areStatements 108 = .ok (.if_icmp .ne 60, 3) := by decide +kernel
theorem dL_areStatements_111 : decode cL_areStatements 111 = .ok (.aload_n 0, 1) := by decide +kernel
theorem dL_areStatements_112 : decode cL_areStatements 112 = .ok (.iload 6, 2) := by decide +kernel
theorem dL_areStatements_114 : decode cL_areStatements 114 = .ok (.iconst 1, 1) := by decide +kernel
theorem dL_areStatements_115 : decode cL_areStatements 115 = .ok (.invokevirtual 131, 3) := by decide +kernel
theorem dL_areStatements_118 : decode cL_areStatements 118 = .ok (.iload 7, 2) := by decide +kernel
theorem dL_areStatements_120 : decode cL_areStatements 120 = .ok (.if_icmp .ne 48, 3) := by decide +kernel
theorem dL_areStatements_123 : decode cL_areStatements 123 = .ok (.aload_n 0, 1) := by decide +kernel
theorem dL_areStatements_124 : decode cL_areStatements 124 = .ok (.iload 6, 2) := by decide +kernel
theorem dL_areStatements_126 : decode cL_areStatements 126 = .ok (.iconst 2, 1) := by decide +kernel
theorem dL_areStatements_127 : decode cL_areStatements 127 = .ok (.invokevirtual 131, 3) := by decide +kernel
theorem dL_areStatements_130 : decode cL_areStatements 130 = .ok (.aload_n 2, 1) := by decide +kernel
theorem dL_areStatements_131 : decode cL_areStatements 131 = .ok (.iconst 2, 1) := by decide +kernel
theorem dL_areStatements_132 : decode cL_areStatements 132 = .ok (.iload 6, 2) := by decide +kernel
theorem dL_areStatements_134 : decode cL_areStatements 134 = .ok (.imul, 1) := by decide +kernel
theorem dL_areStatements_135 : decode cL_areStatements 135 = .ok (.iconst 1, 1) := by decide +kernel
theorem dL_areStatements_136 : decode cL_areStatements 136 = .ok (.iadd, 1) := by decide +kernel
theorem dL_areStatements_137 : decode cL_areStatements 137 = .ok (.iaload, 1) := by decide +kernel
theorem dL_areStatements_138 : decode cL_areStatements 138 = .ok (.if_icmp .ne 30, 3) := by decide +kernel
theorem dL_areStatements_141 : decode cL_areStatements 141 = .ok (.aload_n 0, 1) := by decide +kernel
theorem dL_areStatements_142 : decode cL_areStatements 142 = .ok (.iload 6, 2) := by decide +kernel
theorem dL_areStatements_144 : decode cL_areStatements 144 = .ok (.iconst 3, 1) := by decide +kernel
theorem dL_areStatements_145 : decode cL_areStatements 145 = .ok (.invokevirtual 131, 3) := by decide +kernel
theorem dL_areStatements_148 : decode cL_areStatements 148 = .ok (.iconst (-1), 1) := by decide +kernel
theorem dL_areStatements_149 : decode cL_areStatements 149 = .ok (.if_icmp .ne 19, 3) := by decide +kernel
theorem dL_areStatements_152 : decode cL_areStatements 152 = .ok (.aload_n 0, 1) := by decide +kernel
theorem dL_areStatements_153 : decode cL_areStatements 153 = .ok (.iload 6, 2) := by decide +kernel
theorem dL_areStatements_155 : decode cL_areStatements 155 = .ok (.bipush 14, 2) := by decide +kernel
theorem dL_areStatements_157 : decode cL_areStatements 157 = .ok (.invokevirtual 131, 3) := by decide +kernel
theorem dL_areStatements_160 : decode cL_areStatements 160 = .ok (.iconst (-1), 1) := by decide +kernel
theorem dL_areStatements_161 : decode cL_areStatements 161 = .ok (.if_icmp .ne 7, 3) := by decide +kernel
theorem dL_areStatements_164 : decode cL_areStatements 164 = .ok (.iconst 1, 1) := by decide +kernel
theorem dL_areStatements_165 : decode cL_areStatements 165 = .ok (.goto 4, 3) := by decide +kernel
theorem dL_areStatements_168 : decode cL_areStatements 168 = .ok (.iconst 0, 1) := by decide +kernel
theorem dL_areStatements_169 : decode cL_areStatements 169 = .ok (.istore 4, 2) := by decide +kernel
theorem dL_areStatements_171 : decode cL_areStatements 171 = .ok (.iconst 0, 1) := by decide +kernel
theorem dL_areStatements_172 : decode cL_areStatements 172 = .ok (.istore 8, 2) := by decide +kernel
theorem dL_areStatements_174 : decode cL_areStatements 174 = .ok (.iload 8, 2) := by decide +kernel
theorem dL_areStatements_176 : decode cL_areStatements 176 = .ok (.iconst 4, 1) := by decide +kernel
theorem dL_areStatements_177 : decode cL_areStatements 177 = .ok (.if_icmp .ge 99, 3) := by decide +kernel
theorem dL_areStatements_180 : decode cL_areStatements 180 = .ok (.iload 4, 2) := by decide +kernel
theorem dL_areStatements_182 : decode cL_areStatements 182 = .ok (.ifCond .eq 94, 3) := by decide +kernel
theorem dL_areStatements_185 : decode cL_areStatements 185 = .ok (.aload_n 2, 1) := by decide +kernel
theorem dL_areStatements_186 : decode cL_areStatements 186 = .ok (.iload 6, 2) := by decide +kernel
theorem dL_areStatements_188 : decode cL_areStatements 188 = .ok (.iload 8, 2) := by decide +kernel
theorem dL_areStatements_190 : decode cL_areStatements 190 = .ok (.invokestatic 33, 3) := by decide +kernel
theorem dL_areStatements_193 : decode cL_areStatements 193 = .ok (.istore 9, 2) := by decide +kernel
theorem dL_areStatements_195 : decode cL_areStatements 195 = .ok (.aload_n 0, 1) := by decide +kernel
theorem dL_areStatements_196 : decode cL_areStatements 196 = .ok (.iload 6, 2) := by decide +kernel
theorem dL_areStatements_198 : decode cL_areStatements 198 = .ok (.bipush 10, 2) := by decide +kernel
theorem dL_areStatements_200 : decode cL_areStatements 200 = .ok (.iload 8, 2) := by decide +kernel
theorem dL_areStatements_202 : decode cL_areStatements 202 = .ok (.iadd, 1) := by decide +kernel
theorem dL_areStatements_203 : decode cL_areStatements 203 = .ok (.invokevirtual 131, 3) := by decide +kernel
theorem dL_areStatements_206 : decode cL_areStatements 206 = .ok (.iload 8, 2) := by decide +kernel
theorem dL_areStatements_208 : decode cL_areStatements 208 = .ok (.aload_n 2, 1) := by decide +kernel
theorem dL_areStatements_209 : decode cL_areStatements 209 = .ok (.iload 6, 2) := by decide +kernel
theorem dL_areStatements_211 : decode cL_areStatements 211 = .ok (.invokestatic 40, 3) := by decide +kernel
theorem dL_areStatements_214 : decode cL_areStatements 214 = .ok (.if_icmp .ge 10, 3) := by decide +kernel
theorem dL_areStatements_217 : decode cL_areStatements 217 = .ok (.iload 9, 2) := by decide +kernel
theorem dL_areStatements_219 : decode cL_areStatements 219 = .ok (.iconst 3, 1) := by decide +kernel
theorem dL_areStatements_220 : decode cL_areStatements 220 = .ok (.idiv, 1) := by decide +kernel
theorem dL_areStatements_221 : decode cL_areStatements 221 = .ok (.goto 5, 3) := by decide +kernel
theorem dL_areStatements_224 : decode cL_areStatements 224 = .ok (.bipush (-4), 2) := by decide +kernel
theorem dL_areStatements_226 : decode cL_areStatements 226 = .ok (.if_icmp .ne 41, 3) := by decide +kernel
theorem dL_areStatements_229 : decode cL_areStatements 229 = .ok (.aload_n 0, 1) := by decide +kernel
theorem dL_areStatements_230 : decode cL_areStatements 230 = .ok (.iload 6, 2) := by decide +kernel
theorem dL_areStatements_232 : decode cL_areStatements 232 = .ok (.bipush 20, 2) := by decide +kernel
theorem dL_areStatements_234 : decode cL_areStatements 234 = .ok (.iload 8, 2) := by decide +kernel
theorem dL_areStatements_236 : decode cL_areStatements 236 = .ok (.iadd, 1) := by decide +kernel
theorem dL_areStatements_237 : decode cL_areStatements 237 = .ok (.invokevirtual 131, 3) := by decide +kernel
theorem dL_areStatements_240 : decode cL_areStatements 240 = .ok (.iload 8, 2) := by decide +kernel
theorem dL_areStatements_242 : decode cL_areStatements 242 = .ok (.aload_n 2, 1) := by decide +kernel
theorem dL_areStatements_243 : decode cL_areStatements 243 = .ok (.iload 6, 2) := by decide +kernel
theorem dL_areStatements_245 : decode cL_areStatements 245 = .ok (.invokestatic 40, 3) := by decide +kernel
theorem dL_areStatements_248 : decode cL_areStatements 248 = .ok (.if_icmp .ge 10, 3) := by decide +kernel
theorem dL_areStatements_251 : decode cL_areStatements 251 = .ok (.iload 9, 2) := by decide +kernel
theorem dL_areStatements_253 : decode cL_areStatements 253 = .ok (.iconst 3, 1) := by decide +kernel
theorem dL_areStatements_254 : decode cL_areStatements 254 = .ok (.irem, 1) := by decide +kernel
theorem dL_areStatements_255 : decode cL_areStatements 255 = .ok (.goto 5, 3) := by decide +kernel
theorem dL_areStatements_258 : decode cL_areStatements 258 = .ok (.bipush (-4), 2) := by decide +kernel
theorem dL_areStatements_260 : decode cL_areStatements 260 = .ok (.if_icmp .ne 7, 3) := by decide +kernel
theorem dL_areStatements_263 : decode cL_areStatements 263 = .ok (.iconst 1, 1) := by decide +kernel
theorem dL_areStatements_264 : decode cL_areStatements 264 = .ok (.goto 4, 3) := by decide +kernel
theorem dL_areStatements_267 : decode cL_areStatements 267 = .ok (.iconst 0, 1) := by decide +kernel
theorem dL_areStatements_268 : decode cL_areStatements 268 = .ok (.istore 4, 2) := by decide +kernel
theorem dL_areStatements_270 : decode cL_areStatements 270 = .ok (.iinc 8 1, 3) := by decide +kernel
theorem dL_areStatements_273 : decode cL_areStatements 273 = .ok (.goto (-99), 3) := by decide +kernel
theorem dL_areStatements_276 : decode cL_areStatements 276 = .ok (.iinc 6 1, 3) := by decide +kernel
theorem dL_areStatements_279 : decode cL_areStatements 279 = .ok (.goto (-254), 3) := by decide +kernel
theorem dL_areStatements_282 : decode cL_areStatements 282 = .ok (.iload 4, 2) := by decide +kernel
theorem dL_areStatements_284 : decode cL_areStatements 284 = .ok (.ifCond .eq 18, 3) := by decide +kernel
theorem dL_areStatements_287 : decode cL_areStatements 287 = .ok (.iload 5, 2) := by decide +kernel
theorem dL_areStatements_289 : decode cL_areStatements 289 = .ok (.aload_n 0, 1) := by decide +kernel
theorem dL_areStatements_290 : decode cL_areStatements 290 = .ok (.bipush 7, 2) := by decide +kernel
theorem dL_areStatements_292 : decode cL_areStatements 292 = .ok (.invokevirtual 134, 3) := by decide +kernel
theorem dL_areStatements_295 : decode cL_areStatements 295 = .ok (.if_icmp .ne 7, 3) := by decide +kernel
theorem dL_areStatements_298 : decode cL_areStatements 298 = .ok (.iconst 1, 1) := by decide +kernel
theorem dL_areStatements_299 : decode cL_areStatements 299 = .ok (.goto 4, 3) := by decide +kernel
theorem dL_areStatements_302 : decode cL_areStatements 302 = .ok (.iconst 0, 1) := by decide +kernel
theorem dL_areStatements_303 : decode cL_areStatements 303 = .ok (.ireturn, 1) := by decide +kernel
theorem dL_arePlans_0 : decode cL_arePlans 0 = .ok (.aload_n 0, 1) := by decide +kernel
theorem dL_arePlans_1 : decode cL_arePlans 1 = .ok (.aload_n 1, 1) := by decide +kernel
theorem dL_arePlans_2 : decode cL_arePlans 2 = .ok (.iconst 5, 1) := by decide +kernel
theorem dL_arePlans_3 : decode cL_arePlans 3 = .ok (.iaload, 1) := by decide +kernel
theorem dL_arePlans_4 : decode cL_arePlans 4 = .ok (.iconst 0, 1) := by decide +kernel
theorem dL_arePlans_5 : decode cL_arePlans 5 = .ok (.invokevirtual 137, 3) := by decide +kernel
theorem dL_arePlans_8 : decode cL_arePlans 8 = .ok (.iconst (-1), 1) := by decide +kernel
theorem dL_arePlans_9 : decode cL_arePlans 9 = .ok (.if_icmp .ne 7, 3) := by decide +kernel
theorem dL_arePlans_12 : decode cL_arePlans 12 = .ok (.iconst 1, 1) := by decide +kernel
theorem dL_arePlans_13 : decode cL_arePlans 13 = .ok (.goto 4, 3) := by decide +kernel
theorem dL_arePlans_16 : decode cL_arePlans 16 = .ok (.iconst 0, 1) := by decide +kernel
theorem dL_arePlans_17 : decode cL_arePlans 17 = .ok (.istore_n 3, 1) := by decide +kernel
theorem dL_arePlans_18 : decode cL_arePlans 18 = .ok (.iconst 0, 1) := by decide +kernel
theorem dL_arePlans_19 : decode cL_arePlans 19 = .ok (.istore 4, 2) := by decide +kernel
theorem dL_arePlans_21 : decode cL_arePlans 21 = .ok (.iconst 0, 1) := by decide +kernel
theorem dL_arePlans_22 : decode cL_arePlans 22 = .ok (.istore 5, 2) := by decide +kernel
theorem dL_arePlans_24 : decode cL_arePlans 24 = .ok (.iload 5, 2) := by decide +kernel
theorem dL_arePlans_26 : decode cL_arePlans 26 = .ok (.aload_n 1, 1) := by decide +kernel
theorem dL_arePlans_27 : decode cL_arePlans 27 = .ok (.iconst 4, 1) := by decide +kernel
theorem dL_arePlans_28 : decode cL_arePlans 28 = .ok (.iaload, 1) := by decide +kernel
theorem dL_arePlans_29 : decode cL_arePlans 29 = .ok (.if_icmp .ge 207, 3) := by decide +kernel
theorem dL_arePlans_32 : decode cL_arePlans 32 = .ok (.iload_n 3, 1) := by decide +kernel
theorem dL_arePlans_33 : decode cL_arePlans 33 = .ok (.ifCond .eq 203, 3) := by decide +kernel
theorem dL_arePlans_36 : decode cL_arePlans 36 = .ok (.aload_n 2, 1) := by decide +kernel
theorem dL_arePlans_37 : decode cL_arePlans 37 = .ok (.bipush 8, 2) := by decide +kernel
theorem dL_arePlans_39 : decode cL_arePlans 39 = .ok (.iload 5, 2) := by decide +kernel
theorem dL_arePlans_41 : decode cL_arePlans 41 = .ok (.imul, 1) := by decide +kernel
theorem dL_arePlans_42 : decode cL_arePlans 42 = .ok (.iaload, 1) := by decide +kernel
theorem dL_arePlans_43 : decode cL_arePlans 43 = .ok (.istore 6, 2) := by decide +kernel
theorem dL_arePlans_45 : decode cL_arePlans 45 = .ok (.iload 4, 2) := by decide +kernel
theorem dL_arePlans_47 : decode cL_arePlans 47 = .ok (.aload_n 2, 1) := by decide +kernel
theorem dL_arePlans_48 : decode cL_arePlans 48 = .ok (.bipush 8, 2) := by decide +kernel
theorem dL_arePlans_50 : decode cL_arePlans 50 = .ok (.iload 5, 2) := by decide +kernel
theorem dL_arePlans_52 : decode cL_arePlans 52 = .ok (.imul, 1) := by decide +kernel
theorem dL_arePlans_53 : decode cL_arePlans 53 = .ok (.bipush 6, 2) := by decide +kernel
theorem dL_arePlans_55 : decode cL_arePlans 55 = .ok (.iadd, 1) := by decide +kernel
theorem dL_arePlans_56 : decode cL_arePlans 56 = .ok (.iaload, 1) := by decide +kernel
theorem dL_arePlans_57 : decode cL_arePlans 57 = .ok (.iconst 2, 1) := by decide +kernel
theorem dL_arePlans_58 : decode cL_arePlans 58 = .ok (.irem, 1) := by decide +kernel
theorem dL_arePlans_59 : decode cL_arePlans 59 = .ok (.iadd, 1) := by decide +kernel
theorem dL_arePlans_60 : decode cL_arePlans 60 = .ok (.istore 4, 2) := by decide +kernel
theorem dL_arePlans_62 : decode cL_arePlans 62 = .ok (.iconst 0, 1) := by decide +kernel
theorem dL_arePlans_63 : decode cL_arePlans 63 = .ok (.istore 7, 2) := by decide +kernel
theorem dL_arePlans_65 : decode cL_arePlans 65 = .ok (.iload 7, 2) := by decide +kernel
theorem dL_arePlans_67 : decode cL_arePlans 67 = .ok (.iconst 5, 1) := by decide +kernel
theorem dL_arePlans_68 : decode cL_arePlans 68 = .ok (.if_icmp .ge 42, 3) := by decide +kernel
theorem dL_arePlans_71 : decode cL_arePlans 71 = .ok (.iload_n 3, 1) := by decide +kernel
theorem dL_arePlans_72 : decode cL_arePlans 72 = .ok (.ifCond .eq 30, 3) := by decide +kernel
theorem dL_arePlans_75 : decode cL_arePlans 75 = .ok (.aload_n 0, 1) := by decide +kernel
theorem dL_arePlans_76 : decode cL_arePlans 76 = .ok (.iload 6, 2) := by decide +kernel
theorem dL_arePlans_78 : decode cL_arePlans 78 = .ok (.iload 7, 2) := by decide +kernel
theorem dL_arePlans_80 : decode cL_arePlans 80 = .ok (.invokevirtual 137, 3) := by decide +kernel
theorem dL_arePlans_83 : decode cL_arePlans 83 = .ok (.aload_n 2, 1) := by decide +kernel
theorem dL_arePlans_84 : decode cL_arePlans 84 = .ok (.bipush 8, 2) := by decide +kernel
theorem dL_arePlans_86 : decode cL_arePlans 86 = .ok (.iload 5, 2) := by decide +kernel
theorem dL_arePlans_88 : decode cL_arePlans 88 = .ok (.imul, 1) := by decide +kernel
theorem dL_arePlans_89 : decode cL_arePlans 89 = .ok (.iconst 1, 1) := by decide +kernel
theorem dL_arePlans_90 : decode cL_arePlans 90 = .ok (.iadd, 1) := by decide +kernel
theorem dL_arePlans_91 : decode cL_arePlans 91 = .ok (.iload 7, 2) := by decide +kernel
theorem dL_arePlans_93 : decode cL_arePlans 93 = .ok (.iadd, 1) := by decide +kernel
theorem dL_arePlans_94 : decode cL_arePlans 94 = .ok (.iaload, 1) := by decide +kernel
theorem dL_arePlans_95 : decode cL_arePlans 95 = .ok (.if_icmp .ne 7, 3) := by decide +kernel
theorem dL_arePlans_98 : decode cL_arePlans 98 = .ok (.iconst 1, 1) := by decide +kernel
theorem dL_arePlans_99 : decode cL_arePlans 99 = .ok (.goto 4, 3) := by decide +kernel
theorem dL_arePlans_102 : decode cL_arePlans 102 = .ok (.iconst 0, 1) := by decide +kernel
theorem dL_arePlans_103 : decode cL_arePlans 103 = .ok (.istore_n 3, 1) := by decide +kernel
theorem dL_arePlans_104 : decode cL_arePlans 104 = .ok (.iinc 7 1, 3) := by decide +kernel
theorem dL_arePlans_107 : decode cL_arePlans 107 = .ok (.goto (-42), 3) := by decide +kernel
theorem dL_arePlans_110 : decode cL_arePlans 110 = .ok (.iload_n 3, 1) := by decide +kernel
theorem dL_arePlans_111 : decode cL_arePlans 111 = .ok (.ifCond .eq 117, 3) := by decide +kernel
theorem dL_arePlans_114 : decode cL_arePlans 114 = .ok (.aload_n 0, 1) := by decide +kernel
theorem dL_arePlans_115 : decode cL_arePlans 115 = .ok (.iload 6, 2) := by decide +kernel
theorem dL_arePlans_117 : decode cL_arePlans 117 = .ok (.iconst 5, 1) := by decide +kernel
theorem dL_arePlans_118 : decode cL_arePlans 118 = .ok (.invokevirtual 137, 3) := by decide +kernel
theorem dL_arePlans_121 : decode cL_arePlans 121 = .ok (.aload_n 2, 1) := by decide +kernel
theorem dL_arePlans_122 : decode cL_arePlans 122 = .ok (.bipush 8, 2) := by decide +kernel
theorem dL_arePlans_124 : decode cL_arePlans 124 = .ok (.iload 5, 2) := by decide +kernel
theorem dL_arePlans_126 : decode cL_arePlans 126 = .ok (.imul, 1) := by decide +kernel
theorem dL_arePlans_127 : decode cL_arePlans 127 = .ok (.bipush 6, 2) := by decide +kernel
theorem dL_arePlans_129 : decode cL_arePlans 129 = .ok (.iadd, 1) := by decide +kernel
theorem dL_arePlans_130 : decode cL_arePlans 130 = .ok (.iaload, 1) := by decide +kernel
theorem dL_arePlans_131 : decode cL_arePlans 131 = .ok (.iconst 2, 1) := by decide +kernel
theorem dL_arePlans_132 : decode cL_arePlans 132 = .ok (.idiv, 1) := by decide +kernel
theorem dL_arePlans_133 : decode cL_arePlans 133 = .ok (.if_icmp .ne 95, 3) := by decide +kernel
theorem dL_arePlans_136 : decode cL_arePlans 136 = .ok (.aload_n 0, 1) := by decide +kernel
theorem dL_arePlans_137 : decode cL_arePlans 137 = .ok (.iload 6, 2) := by decide +kernel
theorem dL_arePlans_139 : decode cL_arePlans 139 = .ok (.bipush 6, 2) := by decide +kernel
theorem dL_arePlans_141 : decode cL_arePlans 141 = .ok (.invokevirtual 137, 3) := by decide +kernel
theorem dL_arePlans_144 : decode cL_arePlans 144 = .ok (.aload_n 2, 1) := by decide +kernel
theorem dL_arePlans_145 : decode cL_arePlans 145 = .ok (.bipush 8, 2) := by decide +kernel
theorem dL_arePlans_147 : decode cL_arePlans 147 = .ok (.iload 5, 2) := by decide +kernel
theorem dL_arePlans_149 : decode cL_arePlans 149 = .ok (.imul, 1) := by decide +kernel
theorem dL_arePlans_150 : decode cL_arePlans 150 = .ok (.bipush 6, 2) := by decide +kernel
theorem dL_arePlans_152 : decode cL_arePlans 152 = .ok (.iadd, 1) := by decide +kernel
theorem dL_arePlans_153 : decode cL_arePlans 153 = .ok (.iaload, 1) := by decide +kernel
theorem dL_arePlans_154 : decode cL_arePlans 154 = .ok (.iconst 2, 1) := by decide +kernel
theorem dL_arePlans_155 : decode cL_arePlans 155 = .ok (.irem, 1) := by decide +kernel
theorem dL_arePlans_156 : decode cL_arePlans 156 = .ok (.if_icmp .ne 72, 3) := by decide +kernel
theorem dL_arePlans_159 : decode cL_arePlans 159 = .ok (.aload_n 0, 1) := by decide +kernel
theorem dL_arePlans_160 : decode cL_arePlans 160 = .ok (.iload 6, 2) := by decide +kernel
theorem dL_arePlans_162 : decode cL_arePlans 162 = .ok (.bipush 7, 2) := by decide +kernel
theorem dL_arePlans_164 : decode cL_arePlans 164 = .ok (.invokevirtual 137, 3) := by decide +kernel
theorem dL_arePlans_167 : decode cL_arePlans 167 = .ok (.aload_n 1, 1) := by decide +kernel
theorem dL_arePlans_168 : decode cL_arePlans 168 = .ok (.bipush 6, 2) := by decide +kernel
theorem dL_arePlans_170 : decode cL_arePlans 170 = .ok (.iaload, 1) := by decide +kernel
theorem dL_arePlans_171 : decode cL_arePlans 171 = .ok (.aload_n 2, 1) := by decide +kernel
theorem dL_arePlans_172 : decode cL_arePlans 172 = .ok (.bipush 8, 2) := by decide +kernel
theorem dL_arePlans_174 : decode cL_arePlans 174 = .ok (.iload 5, 2) := by decide +kernel
theorem dL_arePlans_176 : decode cL_arePlans 176 = .ok (.imul, 1) := by decide +kernel
theorem dL_arePlans_177 : decode cL_arePlans 177 = .ok (.bipush 7, 2) := by decide +kernel
theorem dL_arePlans_179 : decode cL_arePlans 179 = .ok (.iadd, 1) := by decide +kernel
theorem dL_arePlans_180 : decode cL_arePlans 180 = .ok (.iaload, 1) := by decide +kernel
theorem dL_arePlans_181 : decode cL_arePlans 181 = .ok (.isub, 1) := by decide +kernel
theorem dL_arePlans_182 : decode cL_arePlans 182 = .ok (.if_icmp .ne 46, 3) := by decide +kernel
theorem dL_arePlans_185 : decode cL_arePlans 185 = .ok (.aload_n 0, 1) := by decide +kernel
theorem dL_arePlans_186 : decode cL_arePlans 186 = .ok (.iload 6, 2) := by decide +kernel
theorem dL_arePlans_188 : decode cL_arePlans 188 = .ok (.bipush 8, 2) := by decide +kernel
theorem dL_arePlans_190 : decode cL_arePlans 190 = .ok (.invokevirtual 137, 3) := by decide +kernel
theorem dL_arePlans_193 : decode cL_arePlans 193 = .ok (.iconst (-1), 1) := by decide +kernel
theorem dL_arePlans_194 : decode cL_arePlans 194 = .ok (.if_icmp .ne 34, 3) := by decide +kernel
theorem dL_arePlans_197 : decode cL_arePlans 197 = .ok (.aload_n 0, 1) := by decide +kernel
theorem dL_arePlans_198 : decode cL_arePlans 198 = .ok (.aload_n 2, 1) := by decide +kernel
theorem dL_arePlans_199 : decode cL_arePlans 199 = .ok (.bipush 8, 2) := by decide +kernel
theorem dL_arePlans_201 : decode cL_arePlans 201 = .ok (.iload 5, 2) := by decide +kernel
theorem dL_arePlans_203 : decode cL_arePlans 203 = .ok (.imul, 1) := by decide +kernel
theorem dL_arePlans_204 : decode cL_arePlans 204 = .ok (.iconst 1, 1) := by decide +kernel
theorem dL_arePlans_205 : decode cL_arePlans 205 = .ok (.iadd, 1) := by decide +kernel
theorem dL_arePlans_206 : decode cL_arePlans 206 = .ok (.iaload, 1) := by decide +kernel
theorem dL_arePlans_207 : decode cL_arePlans 207 = .ok (.aload_n 2, 1) := by decide +kernel
theorem dL_arePlans_208 : decode cL_arePlans 208 = .ok (.bipush 8, 2) := by decide +kernel
theorem dL_arePlans_210 : decode cL_arePlans 210 = .ok (.iload 5, 2) := by decide +kernel
theorem dL_arePlans_212 : decode cL_arePlans 212 = .ok (.imul, 1) := by decide +kernel
theorem dL_arePlans_213 : decode cL_arePlans 213 = .ok (.iconst 2, 1) := by decide +kernel
theorem dL_arePlans_214 : decode cL_arePlans 214 = .ok (.iadd, 1) := by decide +kernel
theorem dL_arePlans_215 : decode cL_arePlans 215 = .ok (.iaload, 1) := by decide +kernel
theorem dL_arePlans_216 : decode cL_arePlans 216 = .ok (.invokevirtual 140, 3) := by decide +kernel
theorem dL_arePlans_219 : decode cL_arePlans 219 = .ok (.iload 6, 2) := by decide +kernel
theorem dL_arePlans_221 : decode cL_arePlans 221 = .ok (.if_icmp .ne 7, 3) := by decide +kernel
theorem dL_arePlans_224 : decode cL_arePlans 224 = .ok (.iconst 1, 1) := by decide +kernel
theorem dL_arePlans_225 : decode cL_arePlans 225 = .ok (.goto 4, 3) := by decide +kernel
theorem dL_arePlans_228 : decode cL_arePlans 228 = .ok (.iconst 0, 1) := by decide +kernel
theorem dL_arePlans_229 : decode cL_arePlans 229 = .ok (.istore_n 3, 1) := by decide +kernel
theorem dL_arePlans_230 : decode cL_arePlans 230 = .ok (.iinc 5 1, 3) := by decide +kernel
theorem dL_arePlans_233 : decode cL_arePlans 233 = .ok (.goto (-209), 3) := by decide +kernel
theorem dL_arePlans_236 : decode cL_arePlans 236 = .ok (.iload_n 3, 1) := by decide +kernel
theorem dL_arePlans_237 : decode cL_arePlans 237 = .ok (.ifCond .eq 29, 3) := by decide +kernel
theorem dL_arePlans_240 : decode cL_arePlans 240 = .ok (.aload_n 0, 1) := by decide +kernel
theorem dL_arePlans_241 : decode cL_arePlans 241 = .ok (.iconst 5, 1) := by decide +kernel
theorem dL_arePlans_242 : decode cL_arePlans 242 = .ok (.invokevirtual 134, 3) := by decide +kernel
theorem dL_arePlans_245 : decode cL_arePlans 245 = .ok (.aload_n 1, 1) := by decide +kernel
theorem dL_arePlans_246 : decode cL_arePlans 246 = .ok (.iconst 4, 1) := by decide +kernel
theorem dL_arePlans_247 : decode cL_arePlans 247 = .ok (.iaload, 1) := by decide +kernel
theorem dL_arePlans_248 : decode cL_arePlans 248 = .ok (.if_icmp .ne 18, 3) := by decide +kernel
theorem dL_arePlans_251 : decode cL_arePlans 251 = .ok (.aload_n 0, 1) := by decide +kernel
theorem dL_arePlans_252 : decode cL_arePlans 252 = .ok (.bipush 6, 2) := by decide +kernel
theorem dL_arePlans_254 : decode cL_arePlans 254 = .ok (.invokevirtual 134, 3) := by decide +kernel
theorem dL_arePlans_257 : decode cL_arePlans 257 = .ok (.iload 4, 2) := by decide +kernel
theorem dL_arePlans_259 : decode cL_arePlans 259 = .ok (.if_icmp .ne 7, 3) := by decide +kernel
theorem dL_arePlans_262 : decode cL_arePlans 262 = .ok (.iconst 1, 1) := by decide +kernel
theorem dL_arePlans_263 : decode cL_arePlans 263 = .ok (.goto 4, 3) := by decide +kernel
theorem dL_arePlans_266 : decode cL_arePlans 266 = .ok (.iconst 0, 1) := by decide +kernel
theorem dL_arePlans_267 : decode cL_arePlans 267 = .ok (.ireturn, 1) := by decide +kernel
theorem dL_isSo_0 : decode cL_isSo 0 = .ok (.aload_n 0, 1) := by decide +kernel
theorem dL_isSo_1 : decode cL_isSo 1 = .ok (.aload_n 1, 1) := by decide +kernel
theorem dL_isSo_2 : decode cL_isSo 2 = .ok (.aload_n 2, 1) := by decide +kernel
theorem dL_isSo_3 : decode cL_isSo 3 = .ok (.aload_n 3, 1) := by decide +kernel
theorem dL_isSo_4 : decode cL_isSo 4 = .ok (.invokestatic 143, 3) := by decide +kernel
theorem dL_isSo_7 : decode cL_isSo 7 = .ok (.ifCond .eq 29, 3) := by decide +kernel
theorem dL_isSo_10 : decode cL_isSo 10 = .ok (.aload_n 0, 1) := by decide +kernel
theorem dL_isSo_11 : decode cL_isSo 11 = .ok (.aload_n 1, 1) := by decide +kernel
theorem dL_isSo_12 : decode cL_isSo 12 = .ok (.aload 4, 2) := by decide +kernel
theorem dL_isSo_14 : decode cL_isSo 14 = .ok (.aload 5, 2) := by decide +kernel
theorem dL_isSo_16 : decode cL_isSo 16 = .ok (.invokestatic 147, 3) := by decide +kernel
theorem dL_isSo_19 : decode cL_isSo 19 = .ok (.ifCond .eq 17, 3) := by decide +kernel
theorem dL_isSo_22 : decode cL_isSo 22 = .ok (.aload_n 0, 1) := by decide +kernel
theorem dL_isSo_23 : decode cL_isSo 23 = .ok (.aload_n 1, 1) := by decide +kernel
theorem dL_isSo_24 : decode cL_isSo 24 = .ok (.aload 5, 2) := by decide +kernel
theorem dL_isSo_26 : decode cL_isSo 26 = .ok (.invokestatic 151, 3) := by decide +kernel
theorem dL_isSo_29 : decode cL_isSo 29 = .ok (.ifCond .eq 7, 3) := by decide +kernel
theorem dL_isSo_32 : decode cL_isSo 32 = .ok (.iconst 1, 1) := by decide +kernel
theorem dL_isSo_33 : decode cL_isSo 33 = .ok (.goto 4, 3) := by decide +kernel
theorem dL_isSo_36 : decode cL_isSo 36 = .ok (.iconst 0, 1) := by decide +kernel
theorem dL_isSo_37 : decode cL_isSo 37 = .ok (.istore 7, 2) := by decide +kernel
theorem dL_isSo_39 : decode cL_isSo 39 = .ok (.iload 7, 2) := by decide +kernel
theorem dL_isSo_41 : decode cL_isSo 41 = .ok (.ifCond .eq 138, 3) := by decide +kernel
theorem dL_isSo_44 : decode cL_isSo 44 = .ok (.aload_n 0, 1) := by decide +kernel
theorem dL_isSo_45 : decode cL_isSo 45 = .ok (.iconst 0, 1) := by decide +kernel
theorem dL_isSo_46 : decode cL_isSo 46 = .ok (.invokevirtual 134, 3) := by decide +kernel
theorem dL_isSo_49 : decode cL_isSo 49 = .ok (.aload_n 1, 1) := by decide +kernel
theorem dL_isSo_50 : decode cL_isSo 50 = .ok (.iconst 0, 1) := by decide +kernel
theorem dL_isSo_51 : decode cL_isSo 51 = .ok (.iaload, 1) := by decide +kernel
theorem dL_isSo_52 : decode cL_isSo 52 = .ok (.if_icmp .ne 127, 3) := by decide +kernel
theorem dL_isSo_55 : decode cL_isSo 55 = .ok (.aload_n 0, 1) := by decide +kernel
theorem dL_isSo_56 : decode cL_isSo 56 = .ok (.iconst 1, 1) := by decide +kernel
theorem dL_isSo_57 : decode cL_isSo 57 = .ok (.invokevirtual 134, 3) := by decide +kernel
theorem dL_isSo_60 : decode cL_isSo 60 = .ok (.aload_n 1, 1) := by decide +kernel
theorem dL_isSo_61 : decode cL_isSo 61 = .ok (.aload_n 2, 1) := by decide +kernel
theorem dL_isSo_62 : decode cL_isSo 62 = .ok (.invokestatic 29, 3) := by decide +kernel
theorem dL_isSo_65 : decode cL_isSo 65 = .ok (.if_icmp .ne 114, 3) := by decide +kernel
theorem dL_isSo_68 : decode cL_isSo 68 = .ok (.aload_n 0, 1) := by decide +kernel
theorem dL_isSo_69 : decode cL_isSo 69 = .ok (.iconst 2, 1) := by decide +kernel
theorem dL_isSo_70 : decode cL_isSo 70 = .ok (.invokevirtual 134, 3) := by decide +kernel
theorem dL_isSo_73 : decode cL_isSo 73 = .ok (.aload_n 1, 1) := by decide +kernel
theorem dL_isSo_74 : decode cL_isSo 74 = .ok (.iconst 2, 1) := by decide +kernel
theorem dL_isSo_75 : decode cL_isSo 75 = .ok (.iaload, 1) := by decide +kernel
theorem dL_isSo_76 : decode cL_isSo 76 = .ok (.if_icmp .ne 103, 3) := by decide +kernel
theorem dL_isSo_79 : decode cL_isSo 79 = .ok (.aload_n 0, 1) := by decide +kernel
theorem dL_isSo_80 : decode cL_isSo 80 = .ok (.iconst 3, 1) := by decide +kernel
theorem dL_isSo_81 : decode cL_isSo 81 = .ok (.invokevirtual 134, 3) := by decide +kernel
theorem dL_isSo_84 : decode cL_isSo 84 = .ok (.aload_n 1, 1) := by decide +kernel
theorem dL_isSo_85 : decode cL_isSo 85 = .ok (.iconst 1, 1) := by decide +kernel
theorem dL_isSo_86 : decode cL_isSo 86 = .ok (.iaload, 1) := by decide +kernel
theorem dL_isSo_87 : decode cL_isSo 87 = .ok (.if_icmp .ne 92, 3) := by decide +kernel
theorem dL_isSo_90 : decode cL_isSo 90 = .ok (.aload_n 0, 1) := by decide +kernel
theorem dL_isSo_91 : decode cL_isSo 91 = .ok (.iconst 4, 1) := by decide +kernel
theorem dL_isSo_92 : decode cL_isSo 92 = .ok (.invokevirtual 134, 3) := by decide +kernel
theorem dL_isSo_95 : decode cL_isSo 95 = .ok (.aload_n 1, 1) := by decide +kernel
theorem dL_isSo_96 : decode cL_isSo 96 = .ok (.iconst 3, 1) := by decide +kernel
theorem dL_isSo_97 : decode cL_isSo 97 = .ok (.iaload, 1) := by decide +kernel
theorem dL_isSo_98 : decode cL_isSo 98 = .ok (.if_icmp .ne 81, 3) := by decide +kernel
theorem dL_isSo_101 : decode cL_isSo 101 = .ok (.aload_n 0, 1) := by decide +kernel
theorem dL_isSo_102 : decode cL_isSo 102 = .ok (.bipush 7, 2) := by decide +kernel
theorem dL_isSo_104 : decode cL_isSo 104 = .ok (.invokevirtual 134, 3) := by decide +kernel
theorem dL_isSo_107 : decode cL_isSo 107 = .ok (.aload_n 1, 1) := by decide +kernel
theorem dL_isSo_108 : decode cL_isSo 108 = .ok (.bipush 6, 2) := by decide +kernel
theorem dL_isSo_110 : decode cL_isSo 110 = .ok (.iaload, 1) := by decide +kernel
theorem dL_isSo_111 : decode cL_isSo 111 = .ok (.if_icmp .ne 68, 3) := by decide +kernel
theorem dL_isSo_114 : decode cL_isSo 114 = .ok (.aload_n 0, 1) := by decide +kernel
theorem dL_isSo_115 : decode cL_isSo 115 = .ok (.bipush 8, 2) := by decide +kernel
theorem dL_isSo_117 : decode cL_isSo 117 = .ok (.invokevirtual 134, 3) := by decide +kernel
theorem dL_isSo_120 : decode cL_isSo 120 = .ok (.aload_n 1, 1) := by decide +kernel
theorem dL_isSo_121 : decode cL_isSo 121 = .ok (.bipush 7, 2) := by decide +kernel
theorem dL_isSo_123 : decode cL_isSo 123 = .ok (.iaload, 1) := by decide +kernel
theorem dL_isSo_124 : decode cL_isSo 124 = .ok (.if_icmp .ne 55, 3) := by decide +kernel
theorem dL_isSo_127 : decode cL_isSo 127 = .ok (.aload_n 0, 1) := by decide +kernel
theorem dL_isSo_128 : decode cL_isSo 128 = .ok (.bipush 9, 2) := by decide +kernel
theorem dL_isSo_130 : decode cL_isSo 130 = .ok (.invokevirtual 134, 3) := by decide +kernel
theorem dL_isSo_133 : decode cL_isSo 133 = .ok (.aload_n 1, 1) := by decide +kernel
theorem dL_isSo_134 : decode cL_isSo 134 = .ok (.bipush 8, 2) := by decide +kernel
theorem dL_isSo_136 : decode cL_isSo 136 = .ok (.iaload, 1) := by decide +kernel
theorem dL_isSo_137 : decode cL_isSo 137 = .ok (.if_icmp .ne 42, 3) := by decide +kernel
theorem dL_isSo_140 : decode cL_isSo 140 = .ok (.aload_n 0, 1) := by decide +kernel
theorem dL_isSo_141 : decode cL_isSo 141 = .ok (.bipush 10, 2) := by decide +kernel
theorem dL_isSo_143 : decode cL_isSo 143 = .ok (.invokevirtual 134, 3) := by decide +kernel
theorem dL_isSo_146 : decode cL_isSo 146 = .ok (.aload_n 1, 1) := by decide +kernel
theorem dL_isSo_147 : decode cL_isSo 147 = .ok (.bipush 9, 2) := by decide +kernel
theorem dL_isSo_149 : decode cL_isSo 149 = .ok (.iaload, 1) := by decide +kernel
theorem dL_isSo_150 : decode cL_isSo 150 = .ok (.if_icmp .ne 29, 3) := by decide +kernel
theorem dL_isSo_153 : decode cL_isSo 153 = .ok (.aload_n 0, 1) := by decide +kernel
theorem dL_isSo_154 : decode cL_isSo 154 = .ok (.bipush 11, 2) := by decide +kernel
theorem dL_isSo_156 : decode cL_isSo 156 = .ok (.invokevirtual 134, 3) := by decide +kernel
theorem dL_isSo_159 : decode cL_isSo 159 = .ok (.aload_n 1, 1) := by decide +kernel
theorem dL_isSo_160 : decode cL_isSo 160 = .ok (.bipush 10, 2) := by decide +kernel
theorem dL_isSo_162 : decode cL_isSo 162 = .ok (.iaload, 1) := by decide +kernel
theorem dL_isSo_163 : decode cL_isSo 163 = .ok (.if_icmp .ne 16, 3) := by decide +kernel
theorem dL_isSo_166 : decode cL_isSo 166 = .ok (.aload_n 0, 1) := by decide +kernel
theorem dL_isSo_167 : decode cL_isSo 167 = .ok (.bipush 13, 2) := by decide +kernel
theorem dL_isSo_169 : decode cL_isSo 169 = .ok (.invokevirtual 134, 3) := by decide +kernel
theorem dL_isSo_172 : decode cL_isSo 172 = .ok (.ifCond .ne 7, 3) := by decide +kernel
theorem dL_isSo_175 : decode cL_isSo 175 = .ok (.iconst 1, 1) := by decide +kernel
theorem dL_isSo_176 : decode cL_isSo 176 = .ok (.goto 4, 3) := by decide +kernel
theorem dL_isSo_179 : decode cL_isSo 179 = .ok (.iconst 0, 1) := by decide +kernel
theorem dL_isSo_180 : decode cL_isSo 180 = .ok (.istore 7, 2) := by decide +kernel
theorem dL_isSo_182 : decode cL_isSo 182 = .ok (.iconst 0, 1) := by decide +kernel
theorem dL_isSo_183 : decode cL_isSo 183 = .ok (.istore 8, 2) := by decide +kernel
theorem dL_isSo_185 : decode cL_isSo 185 = .ok (.iload 8, 2) := by decide +kernel
theorem dL_isSo_187 : decode cL_isSo 187 = .ok (.iconst 5, 1) := by decide +kernel
theorem dL_isSo_188 : decode cL_isSo 188 = .ok (.if_icmp .ge 40, 3) := by decide +kernel
theorem dL_isSo_191 : decode cL_isSo 191 = .ok (.iload 7, 2) := by decide +kernel
theorem dL_isSo_193 : decode cL_isSo 193 = .ok (.ifCond .eq 35, 3) := by decide +kernel
theorem dL_isSo_196 : decode cL_isSo 196 = .ok (.aload_n 0, 1) := by decide +kernel
theorem dL_isSo_197 : decode cL_isSo 197 = .ok (.bipush 20, 2) := by decide +kernel
theorem dL_isSo_199 : decode cL_isSo 199 = .ok (.iload 8, 2) := by decide +kernel
theorem dL_isSo_201 : decode cL_isSo 201 = .ok (.iadd, 1) := by decide +kernel
theorem dL_isSo_202 : decode cL_isSo 202 = .ok (.invokevirtual 134, 3) := by decide +kernel
theorem dL_isSo_205 : decode cL_isSo 205 = .ok (.aload_n 1, 1) := by decide +kernel
theorem dL_isSo_206 : decode cL_isSo 206 = .ok (.bipush 11, 2) := by decide +kernel
theorem dL_isSo_208 : decode cL_isSo 208 = .ok (.iload 8, 2) := by decide +kernel
theorem dL_isSo_210 : decode cL_isSo 210 = .ok (.iadd, 1) := by decide +kernel
theorem dL_isSo_211 : decode cL_isSo 211 = .ok (.iaload, 1) := by decide +kernel
theorem dL_isSo_212 : decode cL_isSo 212 = .ok (.if_icmp .ne 7, 3) := by decide +kernel
theorem dL_isSo_215 : decode cL_isSo 215 = .ok (.iconst 1, 1) := by decide +kernel
theorem dL_isSo_216 : decode cL_isSo 216 = .ok (.goto 4, 3) := by decide +kernel
theorem dL_isSo_219 : decode cL_isSo 219 = .ok (.iconst 0, 1) := by decide +kernel
theorem dL_isSo_220 : decode cL_isSo 220 = .ok (.istore 7, 2) := by decide +kernel
theorem dL_isSo_222 : decode cL_isSo 222 = .ok (.iinc 8 1, 3) := by decide +kernel
theorem dL_isSo_225 : decode cL_isSo 225 = .ok (.goto (-40), 3) := by decide +kernel
theorem dL_isSo_228 : decode cL_isSo 228 = .ok (.iconst 0, 1) := by decide +kernel
theorem dL_isSo_229 : decode cL_isSo 229 = .ok (.istore 8, 2) := by decide +kernel
theorem dL_isSo_231 : decode cL_isSo 231 = .ok (.iload 8, 2) := by decide +kernel
theorem dL_isSo_233 : decode cL_isSo 233 = .ok (.bipush 8, 2) := by decide +kernel
theorem dL_isSo_235 : decode cL_isSo 235 = .ok (.if_icmp .ge 49, 3) := by decide +kernel
theorem dL_isSo_238 : decode cL_isSo 238 = .ok (.iload 7, 2) := by decide +kernel
theorem dL_isSo_240 : decode cL_isSo 240 = .ok (.ifCond .eq 44, 3) := by decide +kernel
theorem dL_isSo_243 : decode cL_isSo 243 = .ok (.aload_n 0, 1) := by decide +kernel
theorem dL_isSo_244 : decode cL_isSo 244 = .ok (.iload 8, 2) := by decide +kernel
theorem dL_isSo_246 : decode cL_isSo 246 = .ok (.invokevirtual 155, 3) := by decide +kernel
theorem dL_isSo_249 : decode cL_isSo 249 = .ok (.aload 6, 2) := by decide +kernel
theorem dL_isSo_251 : decode cL_isSo 251 = .ok (.iconst 0, 1) := by decide +kernel
theorem dL_isSo_252 : decode cL_isSo 252 = .ok (.iaload, 1) := by decide +kernel
theorem dL_isSo_253 : decode cL_isSo 253 = .ok (.ifCond .ge 8, 3) := by decide +kernel
theorem dL_isSo_256 : decode cL_isSo 256 = .ok (.bipush (-4), 2) := by decide +kernel
theorem dL_isSo_258 : decode cL_isSo 258 = .ok (.goto 10, 3) := by decide +kernel
theorem dL_isSo_261 : decode cL_isSo 261 = .ok (.aload 6, 2) := by decide +kernel
theorem dL_isSo_263 : decode cL_isSo 263 = .ok (.iconst 5, 1) := by decide +kernel
theorem dL_isSo_264 : decode cL_isSo 264 = .ok (.iload 8, 2) := by decide +kernel
theorem dL_isSo_266 : decode cL_isSo 266 = .ok (.iadd, 1) := by decide +kernel
theorem dL_isSo_267 : decode cL_isSo 267 = .ok (.iaload, 1) := by decide +kernel
theorem dL_isSo_268 : decode cL_isSo 268 = .ok (.if_icmp .ne 7, 3) := by decide +kernel
theorem dL_isSo_271 : decode cL_isSo 271 = .ok (.iconst 1, 1) := by decide +kernel
theorem dL_isSo_272 : decode cL_isSo 272 = .ok (.goto 4, 3) := by decide +kernel
theorem dL_isSo_275 : decode cL_isSo 275 = .ok (.iconst 0, 1) := by decide +kernel
theorem dL_isSo_276 : decode cL_isSo 276 = .ok (.istore 7, 2) := by decide +kernel
theorem dL_isSo_278 : decode cL_isSo 278 = .ok (.iinc 8 1, 3) := by decide +kernel
theorem dL_isSo_281 : decode cL_isSo 281 = .ok (.goto (-50), 3) := by decide +kernel
theorem dL_isSo_284 : decode cL_isSo 284 = .ok (.iload 7, 2) := by decide +kernel
theorem dL_isSo_286 : decode cL_isSo 286 = .ok (.ifCond .eq 37, 3) := by decide +kernel
theorem dL_isSo_289 : decode cL_isSo 289 = .ok (.aload_n 0, 1) := by decide +kernel
theorem dL_isSo_290 : decode cL_isSo 290 = .ok (.bipush 8, 2) := by decide +kernel
theorem dL_isSo_292 : decode cL_isSo 292 = .ok (.invokevirtual 155, 3) := by decide +kernel
theorem dL_isSo_295 : decode cL_isSo 295 = .ok (.iconst (-1), 1) := by decide +kernel
theorem dL_isSo_296 : decode cL_isSo 296 = .ok (.if_icmp .ne 27, 3) := by decide +kernel
theorem dL_isSo_299 : decode cL_isSo 299 = .ok (.aload_n 0, 1) := by decide +kernel
theorem dL_isSo_300 : decode cL_isSo 300 = .ok (.bipush 14, 2) := by decide +kernel
theorem dL_isSo_302 : decode cL_isSo 302 = .ok (.invokevirtual 134, 3) := by decide +kernel
theorem dL_isSo_305 : decode cL_isSo 305 = .ok (.iconst (-1), 1) := by decide +kernel
theorem dL_isSo_306 : decode cL_isSo 306 = .ok (.if_icmp .ne 17, 3) := by decide +kernel
theorem dL_isSo_309 : decode cL_isSo 309 = .ok (.aload_n 0, 1) := by decide +kernel
theorem dL_isSo_310 : decode cL_isSo 310 = .ok (.bipush 25, 2) := by decide +kernel
theorem dL_isSo_312 : decode cL_isSo 312 = .ok (.invokevirtual 134, 3) := by decide +kernel
theorem dL_isSo_315 : decode cL_isSo 315 = .ok (.iconst (-1), 1) := by decide +kernel
theorem dL_isSo_316 : decode cL_isSo 316 = .ok (.if_icmp .ne 7, 3) := by decide +kernel
theorem dL_isSo_319 : decode cL_isSo 319 = .ok (.iconst 1, 1) := by decide +kernel
theorem dL_isSo_320 : decode cL_isSo 320 = .ok (.goto 4, 3) := by decide +kernel
theorem dL_isSo_323 : decode cL_isSo 323 = .ok (.iconst 0, 1) := by decide +kernel
theorem dL_isSo_324 : decode cL_isSo 324 = .ok (.ireturn, 1) := by decide +kernel
theorem dL_law_0 : decode cL_law 0 = .ok (.new 63, 3) := by decide +kernel
theorem dL_law_3 : decode cL_law 3 = .ok (.dup, 1) := by decide +kernel
theorem dL_law_4 : decode cL_law 4 = .ok (.invokespecial 158, 3) := by decide +kernel
theorem dL_law_7 : decode cL_law 7 = .ok (.astore_n 1, 1) := by decide +kernel
theorem dL_law_8 : decode cL_law 8 = .ok (.bipush 16, 2) := by decide +kernel
theorem dL_law_10 : decode cL_law 10 = .ok (.newarray .int, 2) := by decide +kernel
theorem dL_law_12 : decode cL_law 12 = .ok (.astore_n 2, 1) := by decide +kernel
theorem dL_law_13 : decode cL_law 13 = .ok (.bipush 30, 2) := by decide +kernel
theorem dL_law_15 : decode cL_law 15 = .ok (.newarray .int, 2) := by decide +kernel
theorem dL_law_17 : decode cL_law 17 = .ok (.astore_n 3, 1) := by decide +kernel
theorem dL_law_18 : decode cL_law 18 = .ok (.bipush 64, 2) := by decide +kernel
theorem dL_law_20 : decode cL_law 20 = .ok (.newarray .long, 2) := by decide +kernel
theorem dL_law_22 : decode cL_law 22 = .ok (.astore 4, 2) := by decide +kernel
theorem dL_law_24 : decode cL_law 24 = .ok (.bipush 12, 2) := by decide +kernel
theorem dL_law_26 : decode cL_law 26 = .ok (.newarray .int, 2) := by decide +kernel
theorem dL_law_28 : decode cL_law 28 = .ok (.astore 5, 2) := by decide +kernel
theorem dL_law_30 : decode cL_law 30 = .ok (.bipush 64, 2) := by decide +kernel
theorem dL_law_32 : decode cL_law 32 = .ok (.newarray .int, 2) := by decide +kernel
theorem dL_law_34 : decode cL_law 34 = .ok (.astore 6, 2) := by decide +kernel
theorem dL_law_36 : decode cL_law 36 = .ok (.bipush 13, 2) := by decide +kernel
theorem dL_law_38 : decode cL_law 38 = .ok (.newarray .int, 2) := by decide +kernel
theorem dL_law_40 : decode cL_law 40 = .ok (.astore 7, 2) := by decide +kernel
theorem dL_law_42 : decode cL_law 42 = .ok (.aload_n 2, 1) := by decide +kernel
theorem dL_law_43 : decode cL_law 43 = .ok (.bipush 11, 2) := by decide +kernel
theorem dL_law_45 : decode cL_law 45 = .ok (.bipush 50, 2) := by decide +kernel
theorem dL_law_47 : decode cL_law 47 = .ok (.iastore, 1) := by decide +kernel
theorem dL_law_48 : decode cL_law 48 = .ok (.aload_n 2, 1) := by decide +kernel
theorem dL_law_49 : decode cL_law 49 = .ok (.bipush 12, 2) := by decide +kernel
theorem dL_law_51 : decode cL_law 51 = .ok (.sipush 300, 3) := by decide +kernel
theorem dL_law_54 : decode cL_law 54 = .ok (.iastore, 1) := by decide +kernel
theorem dL_law_55 : decode cL_law 55 = .ok (.aload_n 2, 1) := by decide +kernel
theorem dL_law_56 : decode cL_law 56 = .ok (.bipush 13, 2) := by decide +kernel
theorem dL_law_58 : decode cL_law 58 = .ok (.iconst 4, 1) := by decide +kernel
theorem dL_law_59 : decode cL_law 59 = .ok (.iastore, 1) := by decide +kernel
theorem dL_law_60 : decode cL_law 60 = .ok (.aload_n 2, 1) := by decide +kernel
theorem dL_law_61 : decode cL_law 61 = .ok (.bipush 14, 2) := by decide +kernel
theorem dL_law_63 : decode cL_law 63 = .ok (.iconst 2, 1) := by decide +kernel
theorem dL_law_64 : decode cL_law 64 = .ok (.iastore, 1) := by decide +kernel
theorem dL_law_65 : decode cL_law 65 = .ok (.aload_n 2, 1) := by decide +kernel
theorem dL_law_66 : decode cL_law 66 = .ok (.bipush 15, 2) := by decide +kernel
theorem dL_law_68 : decode cL_law 68 = .ok (.iconst 4, 1) := by decide +kernel
theorem dL_law_69 : decode cL_law 69 = .ok (.iastore, 1) := by decide +kernel
theorem dL_law_70 : decode cL_law 70 = .ok (.aload 7, 2) := by decide +kernel
theorem dL_law_72 : decode cL_law 72 = .ok (.iconst 0, 1) := by decide +kernel
theorem dL_law_73 : decode cL_law 73 = .ok (.bipush (-4), 2) := by decide +kernel
theorem dL_law_75 : decode cL_law 75 = .ok (.iastore, 1) := by decide +kernel
theorem dL_law_76 : decode cL_law 76 = .ok (.aload_n 1, 1) := by decide +kernel
theorem dL_law_77 : decode cL_law 77 = .ok (.aload_n 2, 1) := by decide +kernel
theorem dL_law_78 : decode cL_law 78 = .ok (.aload_n 3, 1) := by decide +kernel
theorem dL_law_79 : decode cL_law 79 = .ok (.aload 4, 2) := by decide +kernel
theorem dL_law_81 : decode cL_law 81 = .ok (.aload 5, 2) := by decide +kernel
theorem dL_law_83 : decode cL_law 83 = .ok (.aload 6, 2) := by decide +kernel
theorem dL_law_85 : decode cL_law 85 = .ok (.aload 7, 2) := by decide +kernel
theorem dL_law_87 : decode cL_law 87 = .ok (.invokestatic 159, 3) := by decide +kernel
theorem dL_law_90 : decode cL_law 90 = .ok (.istore 8, 2) := by decide +kernel
theorem dL_law_92 : decode cL_law 92 = .ok (.iconst 0, 1) := by decide +kernel
theorem dL_law_93 : decode cL_law 93 = .ok (.istore 9, 2) := by decide +kernel
theorem dL_law_95 : decode cL_law 95 = .ok (.iload 9, 2) := by decide +kernel
theorem dL_law_97 : decode cL_law 97 = .ok (.iconst 3, 1) := by decide +kernel
theorem dL_law_98 : decode cL_law 98 = .ok (.if_icmp .ge 72, 3) := by decide +kernel
theorem dL_law_101 : decode cL_law 101 = .ok (.iload 8, 2) := by decide +kernel
theorem dL_law_103 : decode cL_law 103 = .ok (.ifCond .eq 67, 3) := by decide +kernel
theorem dL_law_106 : decode cL_law 106 = .ok (.aload_n 1, 1) := by decide +kernel
theorem dL_law_107 : decode cL_law 107 = .ok (.aload_n 2, 1) := by decide +kernel
theorem dL_law_108 : decode cL_law 108 = .ok (.aload_n 3, 1) := by decide +kernel
theorem dL_law_109 : decode cL_law 109 = .ok (.aload 4, 2) := by decide +kernel
theorem dL_law_111 : decode cL_law 111 = .ok (.aload 5, 2) := by decide +kernel
theorem dL_law_113 : decode cL_law 113 = .ok (.aload 6, 2) := by decide +kernel
theorem dL_law_115 : decode cL_law 115 = .ok (.aload 7, 2) := by decide +kernel
theorem dL_law_117 : decode cL_law 117 = .ok (.aload_n 0, 1) := by decide +kernel
theorem dL_law_118 : decode cL_law 118 = .ok (.iconst 1, 1) := by decide +kernel
theorem dL_law_119 : decode cL_law 119 = .ok (.iload 9, 2) := by decide +kernel
theorem dL_law_121 : decode cL_law 121 = .ok (.iadd, 1) := by decide +kernel
theorem dL_law_122 : decode cL_law 122 = .ok (.invokestatic 163, 3) := by decide +kernel
theorem dL_law_125 : decode cL_law 125 = .ok (.ldc 8, 2) := by decide +kernel
theorem dL_law_127 : decode cL_law 127 = .ok (.iand, 1) := by decide +kernel
theorem dL_law_128 : decode cL_law 128 = .ok (.sipush 832, 3) := by decide +kernel
theorem dL_law_131 : decode cL_law 131 = .ok (.idiv, 1) := by decide +kernel
theorem dL_law_132 : decode cL_law 132 = .ok (.sipush 832, 3) := by decide +kernel
theorem dL_law_135 : decode cL_law 135 = .ok (.imul, 1) := by decide +kernel
theorem dL_law_136 : decode cL_law 136 = .ok (.iload 9, 2) := by decide +kernel
theorem dL_law_138 : decode cL_law 138 = .ok (.ifCond .ne 7, 3) := by decide +kernel
theorem dL_law_141 : decode cL_law 141 = .ok (.iconst 1, 1) := by decide +kernel
theorem dL_law_142 : decode cL_law 142 = .ok (.goto 16, 3) := by decide +kernel
theorem dL_law_145 : decode cL_law 145 = .ok (.iload 9, 2) := by decide +kernel
theorem dL_law_147 : decode cL_law 147 = .ok (.iconst 1, 1) := by decide +kernel
theorem dL_law_148 : decode cL_law 148 = .ok (.if_icmp .ne 8, 3) := by decide +kernel
theorem dL_law_151 : decode cL_law 151 = .ok (.bipush 10, 2) := by decide +kernel
theorem dL_law_153 : decode cL_law 153 = .ok (.goto 5, 3) := by decide +kernel
theorem dL_law_156 : decode cL_law 156 = .ok (.bipush 6, 2) := by decide +kernel
theorem dL_law_158 : decode cL_law 158 = .ok (.iadd, 1) := by decide +kernel
theorem dL_law_159 : decode cL_law 159 = .ok (.invokestatic 166, 3) := by decide +kernel
theorem dL_law_162 : decode cL_law 162 = .ok (.istore 8, 2) := by decide +kernel
theorem dL_law_164 : decode cL_law 164 = .ok (.iinc 9 1, 3) := by decide +kernel
theorem dL_law_167 : decode cL_law 167 = .ok (.goto (-72), 3) := by decide +kernel
theorem dL_law_170 : decode cL_law 170 = .ok (.bipush 12, 2) := by decide +kernel
theorem dL_law_172 : decode cL_law 172 = .ok (.aload_n 0, 1) := by decide +kernel
theorem dL_law_173 : decode cL_law 173 = .ok (.iconst 0, 1) := by decide +kernel
theorem dL_law_174 : decode cL_law 174 = .ok (.invokestatic 163, 3) := by decide +kernel
theorem dL_law_177 : decode cL_law 177 = .ok (.bipush 50, 2) := by decide +kernel
theorem dL_law_179 : decode cL_law 179 = .ok (.invokestatic 98, 3) := by decide +kernel
theorem dL_law_182 : decode cL_law 182 = .ok (.iadd, 1) := by decide +kernel
theorem dL_law_183 : decode cL_law 183 = .ok (.istore 9, 2) := by decide +kernel
theorem dL_law_185 : decode cL_law 185 = .ok (.iconst 0, 1) := by decide +kernel
theorem dL_law_186 : decode cL_law 186 = .ok (.istore 10, 2) := by decide +kernel
theorem dL_law_188 : decode cL_law 188 = .ok (.iload 10, 2) := by decide +kernel
theorem dL_law_190 : decode cL_law 190 = .ok (.iload 9, 2) := by decide +kernel
theorem dL_law_192 : decode cL_law 192 = .ok (.if_icmp .ge 70, 3) := by decide +kernel
theorem dL_law_195 : decode cL_law 195 = .ok (.iload 8, 2) := by decide +kernel
theorem dL_law_197 : decode cL_law 197 = .ok (.ifCond .eq 65, 3) := by decide +kernel
theorem dL_law_200 : decode cL_law 200 = .ok (.aload_n 1, 1) := by decide +kernel
theorem dL_law_201 : decode cL_law 201 = .ok (.aload_n 2, 1) := by decide +kernel
theorem dL_law_202 : decode cL_law 202 = .ok (.aload_n 3, 1) := by decide +kernel
theorem dL_law_203 : decode cL_law 203 = .ok (.aload 4, 2) := by decide +kernel
theorem dL_law_205 : decode cL_law 205 = .ok (.aload 5, 2) := by decide +kernel
theorem dL_law_207 : decode cL_law 207 = .ok (.aload 6, 2) := by decide +kernel
theorem dL_law_209 : decode cL_law 209 = .ok (.aload 7, 2) := by decide +kernel
theorem dL_law_211 : decode cL_law 211 = .ok (.aload_n 0, 1) := by decide +kernel
theorem dL_law_212 : decode cL_law 212 = .ok (.iconst 4, 1) := by decide +kernel
theorem dL_law_213 : decode cL_law 213 = .ok (.iload 10, 2) := by decide +kernel
theorem dL_law_215 : decode cL_law 215 = .ok (.iadd, 1) := by decide +kernel
theorem dL_law_216 : decode cL_law 216 = .ok (.invokestatic 163, 3) := by decide +kernel
theorem dL_law_219 : decode cL_law 219 = .ok (.sipush 7919, 3) := by decide +kernel
theorem dL_law_222 : decode cL_law 222 = .ok (.iload 10, 2) := by decide +kernel
theorem dL_law_224 : decode cL_law 224 = .ok (.imul, 1) := by decide +kernel
theorem dL_law_225 : decode cL_law 225 = .ok (.ixor, 1) := by decide +kernel
theorem dL_law_226 : decode cL_law 226 = .ok (.invokestatic 166, 3) := by decide +kernel
theorem dL_law_229 : decode cL_law 229 = .ok (.ifCond .eq 24, 3) := by decide +kernel
theorem dL_law_232 : decode cL_law 232 = .ok (.aload_n 1, 1) := by decide +kernel
theorem dL_law_233 : decode cL_law 233 = .ok (.aload_n 2, 1) := by decide +kernel
theorem dL_law_234 : decode cL_law 234 = .ok (.aload_n 3, 1) := by decide +kernel
theorem dL_law_235 : decode cL_law 235 = .ok (.aload 4, 2) := by decide +kernel
theorem dL_law_237 : decode cL_law 237 = .ok (.aload 5, 2) := by decide +kernel
theorem dL_law_239 : decode cL_law 239 = .ok (.aload 6, 2) := by decide +kernel
theorem dL_law_241 : decode cL_law 241 = .ok (.aload 7, 2) := by decide +kernel
theorem dL_law_243 : decode cL_law 243 = .ok (.invokestatic 159, 3) := by decide +kernel
theorem dL_law_246 : decode cL_law 246 = .ok (.ifCond .eq 7, 3) := by decide +kernel
theorem dL_law_249 : decode cL_law 249 = .ok (.iconst 1, 1) := by decide +kernel
theorem dL_law_250 : decode cL_law 250 = .ok (.goto 4, 3) := by decide +kernel
theorem dL_law_253 : decode cL_law 253 = .ok (.iconst 0, 1) := by decide +kernel
theorem dL_law_254 : decode cL_law 254 = .ok (.istore 8, 2) := by decide +kernel
theorem dL_law_256 : decode cL_law 256 = .ok (.iinc 10 1, 3) := by decide +kernel
theorem dL_law_259 : decode cL_law 259 = .ok (.goto (-71), 3) := by decide +kernel
theorem dL_law_262 : decode cL_law 262 = .ok (.iload 8, 2) := by decide +kernel
theorem dL_law_264 : decode cL_law 264 = .ok (.ireturn, 1) := by decide +kernel
