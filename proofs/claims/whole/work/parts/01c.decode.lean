theorem dX10_init_0 : decode cX10_init 0 = .ok (.aload_n 0, 1) := by decide +kernel
theorem dX10_init_1 : decode cX10_init 1 = .ok (.invokespecial 1, 3) := by decide +kernel
theorem dX10_init_4 : decode cX10_init 4 = .ok (.aload_n 0, 1) := by decide +kernel
theorem dX10_init_5 : decode cX10_init 5 = .ok (.sipush 439, 3) := by decide +kernel
theorem dX10_init_8 : decode cX10_init 8 = .ok (.newarray .int, 2) := by decide +kernel
theorem dX10_init_10 : decode cX10_init 10 = .ok (.putfield 7, 3) := by decide +kernel
theorem dX10_init_13 : decode cX10_init 13 = .ok (.aload_n 0, 1) := by decide +kernel
theorem dX10_init_14 : decode cX10_init 14 = .ok (.sipush 1756, 3) := by decide +kernel
theorem dX10_init_17 : decode cX10_init 17 = .ok (.newarray .int, 2) := by decide +kernel
theorem dX10_init_19 : decode cX10_init 19 = .ok (.putfield 13, 3) := by decide +kernel
theorem dX10_init_22 : decode cX10_init 22 = .ok (.aload_n 0, 1) := by decide +kernel
theorem dX10_init_23 : decode cX10_init 23 = .ok (.bipush 30, 2) := by decide +kernel
theorem dX10_init_25 : decode cX10_init 25 = .ok (.newarray .int, 2) := by decide +kernel
theorem dX10_init_27 : decode cX10_init 27 = .ok (.putfield 16, 3) := by decide +kernel
theorem dX10_init_30 : decode cX10_init 30 = .ok (.aload_n 0, 1) := by decide +kernel
theorem dX10_init_31 : decode cX10_init 31 = .ok (.iconst 4, 1) := by decide +kernel
theorem dX10_init_32 : decode cX10_init 32 = .ok (.newarray .int, 2) := by decide +kernel
theorem dX10_init_34 : decode cX10_init 34 = .ok (.putfield 19, 3) := by decide +kernel
theorem dX10_init_37 : decode cX10_init 37 = .ok (.aload_n 0, 1) := by decide +kernel
theorem dX10_init_38 : decode cX10_init 38 = .ok (.getfield 7, 3) := by decide +kernel
theorem dX10_init_41 : decode cX10_init 41 = .ok (.bipush 11, 2) := by decide +kernel
theorem dX10_init_43 : decode cX10_init 43 = .ok (.bipush 50, 2) := by decide +kernel
theorem dX10_init_45 : decode cX10_init 45 = .ok (.iastore, 1) := by decide +kernel
theorem dX10_init_46 : decode cX10_init 46 = .ok (.aload_n 0, 1) := by decide +kernel
theorem dX10_init_47 : decode cX10_init 47 = .ok (.getfield 7, 3) := by decide +kernel
theorem dX10_init_50 : decode cX10_init 50 = .ok (.bipush 12, 2) := by decide +kernel
theorem dX10_init_52 : decode cX10_init 52 = .ok (.sipush 300, 3) := by decide +kernel
theorem dX10_init_55 : decode cX10_init 55 = .ok (.iastore, 1) := by decide +kernel
theorem dX10_init_56 : decode cX10_init 56 = .ok (.aload_n 0, 1) := by decide +kernel
theorem dX10_init_57 : decode cX10_init 57 = .ok (.getfield 7, 3) := by decide +kernel
theorem dX10_init_60 : decode cX10_init 60 = .ok (.bipush 13, 2) := by decide +kernel
theorem dX10_init_62 : decode cX10_init 62 = .ok (.iconst 4, 1) := by decide +kernel
theorem dX10_init_63 : decode cX10_init 63 = .ok (.iastore, 1) := by decide +kernel
theorem dX10_init_64 : decode cX10_init 64 = .ok (.aload_n 0, 1) := by decide +kernel
theorem dX10_init_65 : decode cX10_init 65 = .ok (.getfield 7, 3) := by decide +kernel
theorem dX10_init_68 : decode cX10_init 68 = .ok (.bipush 14, 2) := by decide +kernel
theorem dX10_init_70 : decode cX10_init 70 = .ok (.iconst 2, 1) := by decide +kernel
theorem dX10_init_71 : decode cX10_init 71 = .ok (.iastore, 1) := by decide +kernel
theorem dX10_init_72 : decode cX10_init 72 = .ok (.aload_n 0, 1) := by decide +kernel
theorem dX10_init_73 : decode cX10_init 73 = .ok (.getfield 7, 3) := by decide +kernel
theorem dX10_init_76 : decode cX10_init 76 = .ok (.bipush 15, 2) := by decide +kernel
theorem dX10_init_78 : decode cX10_init 78 = .ok (.iconst 4, 1) := by decide +kernel
theorem dX10_init_79 : decode cX10_init 79 = .ok (.iastore, 1) := by decide +kernel
theorem dX10_init_80 : decode cX10_init 80 = .ok (.aload_n 0, 1) := by decide +kernel
theorem dX10_init_81 : decode cX10_init 81 = .ok (.getfield 7, 3) := by decide +kernel
theorem dX10_init_84 : decode cX10_init 84 = .ok (.bipush 16, 2) := by decide +kernel
theorem dX10_init_86 : decode cX10_init 86 = .ok (.bipush (-4), 2) := by decide +kernel
theorem dX10_init_88 : decode cX10_init 88 = .ok (.iastore, 1) := by decide +kernel
theorem dX10_init_89 : decode cX10_init 89 = .ok (.return_, 1) := by decide +kernel
theorem dX10_in_0 : decode cX10_in 0 = .ok (.iload_n 0, 1) := by decide +kernel
theorem dX10_in_1 : decode cX10_in 1 = .ok (.iload_n 1, 1) := by decide +kernel
theorem dX10_in_2 : decode cX10_in 2 = .ok (.if_icmp .lt 12, 3) := by decide +kernel
theorem dX10_in_5 : decode cX10_in 5 = .ok (.iload_n 0, 1) := by decide +kernel
theorem dX10_in_6 : decode cX10_in 6 = .ok (.iload_n 2, 1) := by decide +kernel
theorem dX10_in_7 : decode cX10_in 7 = .ok (.if_icmp .gt 7, 3) := by decide +kernel
theorem dX10_in_10 : decode cX10_in 10 = .ok (.iconst 1, 1) := by decide +kernel
theorem dX10_in_11 : decode cX10_in 11 = .ok (.goto 4, 3) := by decide +kernel
theorem dX10_in_14 : decode cX10_in 14 = .ok (.iconst 0, 1) := by decide +kernel
theorem dX10_in_15 : decode cX10_in 15 = .ok (.ireturn, 1) := by decide +kernel
theorem dX10_changes_0 : decode cX10_changes 0 = .ok (.aload_n 0, 1) := by decide +kernel
theorem dX10_changes_1 : decode cX10_changes 1 = .ok (.getfield 22, 3) := by decide +kernel
theorem dX10_changes_4 : decode cX10_changes 4 = .ok (.iconst 4, 1) := by decide +kernel
theorem dX10_changes_5 : decode cX10_changes 5 = .ok (.if_icmp .ne 44, 3) := by decide +kernel
theorem dX10_changes_8 : decode cX10_changes 8 = .ok (.iconst 0, 1) := by decide +kernel
theorem dX10_changes_9 : decode cX10_changes 9 = .ok (.istore_n 1, 1) := by decide +kernel
theorem dX10_changes_10 : decode cX10_changes 10 = .ok (.iload_n 1, 1) := by decide +kernel
theorem dX10_changes_11 : decode cX10_changes 11 = .ok (.sipush 1317, 3) := by decide +kernel
theorem dX10_changes_14 : decode cX10_changes 14 = .ok (.if_icmp .ge 25, 3) := by decide +kernel
theorem dX10_changes_17 : decode cX10_changes 17 = .ok (.aload_n 0, 1) := by decide +kernel
theorem dX10_changes_18 : decode cX10_changes 18 = .ok (.getfield 13, 3) := by decide +kernel
theorem dX10_changes_21 : decode cX10_changes 21 = .ok (.iload_n 1, 1) := by decide +kernel
theorem dX10_changes_22 : decode cX10_changes 22 = .ok (.aload_n 0, 1) := by decide +kernel
theorem dX10_changes_23 : decode cX10_changes 23 = .ok (.getfield 13, 3) := by decide +kernel
theorem dX10_changes_26 : decode cX10_changes 26 = .ok (.iload_n 1, 1) := by decide +kernel
theorem dX10_changes_27 : decode cX10_changes 27 = .ok (.sipush 439, 3) := by decide +kernel
theorem dX10_changes_30 : decode cX10_changes 30 = .ok (.iadd, 1) := by decide +kernel
theorem dX10_changes_31 : decode cX10_changes 31 = .ok (.iaload, 1) := by decide +kernel
theorem dX10_changes_32 : decode cX10_changes 32 = .ok (.iastore, 1) := by decide +kernel
theorem dX10_changes_33 : decode cX10_changes 33 = .ok (.iinc 1 1, 3) := by decide +kernel
theorem dX10_changes_36 : decode cX10_changes 36 = .ok (.goto (-26), 3) := by decide +kernel
theorem dX10_changes_39 : decode cX10_changes 39 = .ok (.aload_n 0, 1) := by decide +kernel
theorem dX10_changes_40 : decode cX10_changes 40 = .ok (.dup, 1) := by decide +kernel
theorem dX10_changes_41 : decode cX10_changes 41 = .ok (.getfield 22, 3) := by decide +kernel
theorem dX10_changes_44 : decode cX10_changes 44 = .ok (.iconst 1, 1) := by decide +kernel
theorem dX10_changes_45 : decode cX10_changes 45 = .ok (.isub, 1) := by decide +kernel
theorem dX10_changes_46 : decode cX10_changes 46 = .ok (.putfield 22, 3) := by decide +kernel
theorem dX10_changes_49 : decode cX10_changes 49 = .ok (.iconst 0, 1) := by decide +kernel
theorem dX10_changes_50 : decode cX10_changes 50 = .ok (.istore_n 1, 1) := by decide +kernel
theorem dX10_changes_51 : decode cX10_changes 51 = .ok (.iload_n 1, 1) := by decide +kernel
theorem dX10_changes_52 : decode cX10_changes 52 = .ok (.sipush 439, 3) := by decide +kernel
theorem dX10_changes_55 : decode cX10_changes 55 = .ok (.if_icmp .ge 30, 3) := by decide +kernel
theorem dX10_changes_58 : decode cX10_changes 58 = .ok (.aload_n 0, 1) := by decide +kernel
theorem dX10_changes_59 : decode cX10_changes 59 = .ok (.getfield 13, 3) := by decide +kernel
theorem dX10_changes_62 : decode cX10_changes 62 = .ok (.sipush 439, 3) := by decide +kernel
theorem dX10_changes_65 : decode cX10_changes 65 = .ok (.aload_n 0, 1) := by decide +kernel
theorem dX10_changes_66 : decode cX10_changes 66 = .ok (.getfield 22, 3) := by decide +kernel
theorem dX10_changes_69 : decode cX10_changes 69 = .ok (.imul, 1) := by decide +kernel
theorem dX10_changes_70 : decode cX10_changes 70 = .ok (.iload_n 1, 1) := by decide +kernel
theorem dX10_changes_71 : decode cX10_changes 71 = .ok (.iadd, 1) := by decide +kernel
theorem dX10_changes_72 : decode cX10_changes 72 = .ok (.aload_n 0, 1) := by decide +kernel
theorem dX10_changes_73 : decode cX10_changes 73 = .ok (.getfield 7, 3) := by decide +kernel
theorem dX10_changes_76 : decode cX10_changes 76 = .ok (.iload_n 1, 1) := by decide +kernel
theorem dX10_changes_77 : decode cX10_changes 77 = .ok (.iaload, 1) := by decide +kernel
theorem dX10_changes_78 : decode cX10_changes 78 = .ok (.iastore, 1) := by decide +kernel
theorem dX10_changes_79 : decode cX10_changes 79 = .ok (.iinc 1 1, 3) := by decide +kernel
theorem dX10_changes_82 : decode cX10_changes 82 = .ok (.goto (-31), 3) := by decide +kernel
theorem dX10_changes_85 : decode cX10_changes 85 = .ok (.aload_n 0, 1) := by decide +kernel
theorem dX10_changes_86 : decode cX10_changes 86 = .ok (.dup, 1) := by decide +kernel
theorem dX10_changes_87 : decode cX10_changes 87 = .ok (.getfield 22, 3) := by decide +kernel
theorem dX10_changes_90 : decode cX10_changes 90 = .ok (.iconst 1, 1) := by decide +kernel
theorem dX10_changes_91 : decode cX10_changes 91 = .ok (.iadd, 1) := by decide +kernel
theorem dX10_changes_92 : decode cX10_changes 92 = .ok (.putfield 22, 3) := by decide +kernel
theorem dX10_changes_95 : decode cX10_changes 95 = .ok (.return_, 1) := by decide +kernel
theorem dX10_isValue_0 : decode cX10_isValue 0 = .ok (.iload_n 0, 1) := by decide +kernel
theorem dX10_isValue_1 : decode cX10_isValue 1 = .ok (.iconst 0, 1) := by decide +kernel
theorem dX10_isValue_2 : decode cX10_isValue 2 = .ok (.bipush 31, 2) := by decide +kernel
theorem dX10_isValue_4 : decode cX10_isValue 4 = .ok (.invokestatic 26, 3) := by decide +kernel
theorem dX10_isValue_7 : decode cX10_isValue 7 = .ok (.ireturn, 1) := by decide +kernel
theorem dX10_isRow_0 : decode cX10_isRow 0 = .ok (.iload_n 1, 1) := by decide +kernel
theorem dX10_isRow_1 : decode cX10_isRow 1 = .ok (.ifCond .lt 17, 3) := by decide +kernel
theorem dX10_isRow_4 : decode cX10_isRow 4 = .ok (.iload_n 1, 1) := by decide +kernel
theorem dX10_isRow_5 : decode cX10_isRow 5 = .ok (.aload_n 0, 1) := by decide +kernel
theorem dX10_isRow_6 : decode cX10_isRow 6 = .ok (.getfield 7, 3) := by decide +kernel
theorem dX10_isRow_9 : decode cX10_isRow 9 = .ok (.iconst 0, 1) := by decide +kernel
theorem dX10_isRow_10 : decode cX10_isRow 10 = .ok (.iaload, 1) := by decide +kernel
theorem dX10_isRow_11 : decode cX10_isRow 11 = .ok (.if_icmp .ge 7, 3) := by decide +kernel
theorem dX10_isRow_14 : decode cX10_isRow 14 = .ok (.iconst 1, 1) := by decide +kernel
theorem dX10_isRow_15 : decode cX10_isRow 15 = .ok (.goto 4, 3) := by decide +kernel
theorem dX10_isRow_18 : decode cX10_isRow 18 = .ok (.iconst 0, 1) := by decide +kernel
theorem dX10_isRow_19 : decode cX10_isRow 19 = .ok (.ireturn, 1) := by decide +kernel
theorem dX10_ofRow_0 : decode cX10_ofRow 0 = .ok (.aload_n 0, 1) := by decide +kernel
theorem dX10_ofRow_1 : decode cX10_ofRow 1 = .ok (.getfield 7, 3) := by decide +kernel
theorem dX10_ofRow_4 : decode cX10_ofRow 4 = .ok (.bipush 29, 2) := by decide +kernel
theorem dX10_ofRow_6 : decode cX10_ofRow 6 = .ok (.iconst 5, 1) := by decide +kernel
theorem dX10_ofRow_7 : decode cX10_ofRow 7 = .ok (.iload_n 1, 1) := by decide +kernel
theorem dX10_ofRow_8 : decode cX10_ofRow 8 = .ok (.imul, 1) := by decide +kernel
theorem dX10_ofRow_9 : decode cX10_ofRow 9 = .ok (.iadd, 1) := by decide +kernel
theorem dX10_ofRow_10 : decode cX10_ofRow 10 = .ok (.iload_n 2, 1) := by decide +kernel
theorem dX10_ofRow_11 : decode cX10_ofRow 11 = .ok (.iadd, 1) := by decide +kernel
theorem dX10_ofRow_12 : decode cX10_ofRow 12 = .ok (.iaload, 1) := by decide +kernel
theorem dX10_ofRow_13 : decode cX10_ofRow 13 = .ok (.ireturn, 1) := by decide +kernel
theorem dX10_row_0 : decode cX10_row 0 = .ok (.iload_n 1, 1) := by decide +kernel
theorem dX10_row_1 : decode cX10_row 1 = .ok (.invokestatic 30, 3) := by decide +kernel
theorem dX10_row_4 : decode cX10_row 4 = .ok (.ifCond .eq 37, 3) := by decide +kernel
theorem dX10_row_7 : decode cX10_row 7 = .ok (.iload_n 2, 1) := by decide +kernel
theorem dX10_row_8 : decode cX10_row 8 = .ok (.invokestatic 30, 3) := by decide +kernel
theorem dX10_row_11 : decode cX10_row 11 = .ok (.ifCond .eq 30, 3) := by decide +kernel
theorem dX10_row_14 : decode cX10_row 14 = .ok (.iload_n 3, 1) := by decide +kernel
theorem dX10_row_15 : decode cX10_row 15 = .ok (.invokestatic 30, 3) := by decide +kernel
theorem dX10_row_18 : decode cX10_row 18 = .ok (.ifCond .eq 23, 3) := by decide +kernel
theorem dX10_row_21 : decode cX10_row 21 = .ok (.iload 4, 2) := by decide +kernel
theorem dX10_row_23 : decode cX10_row 23 = .ok (.invokestatic 30, 3) := by decide +kernel
theorem dX10_row_26 : decode cX10_row 26 = .ok (.ifCond .eq 15, 3) := by decide +kernel
theorem dX10_row_29 : decode cX10_row 29 = .ok (.iload 5, 2) := by decide +kernel
theorem dX10_row_31 : decode cX10_row 31 = .ok (.iconst 1, 1) := by decide +kernel
theorem dX10_row_32 : decode cX10_row 32 = .ok (.sipush 999, 3) := by decide +kernel
theorem dX10_row_35 : decode cX10_row 35 = .ok (.invokestatic 26, 3) := by decide +kernel
theorem dX10_row_38 : decode cX10_row 38 = .ok (.ifCond .ne 5, 3) := by decide +kernel
theorem dX10_row_41 : decode cX10_row 41 = .ok (.iconst (-1), 1) := by decide +kernel
theorem dX10_row_42 : decode cX10_row 42 = .ok (.ireturn, 1) := by decide +kernel
theorem dX10_row_43 : decode cX10_row 43 = .ok (.aload_n 0, 1) := by decide +kernel
theorem dX10_row_44 : decode cX10_row 44 = .ok (.getfield 7, 3) := by decide +kernel
theorem dX10_row_47 : decode cX10_row 47 = .ok (.iconst 0, 1) := by decide +kernel
theorem dX10_row_48 : decode cX10_row 48 = .ok (.iaload, 1) := by decide +kernel
theorem dX10_row_49 : decode cX10_row 49 = .ok (.istore 6, 2) := by decide +kernel
theorem dX10_row_51 : decode cX10_row 51 = .ok (.iload 6, 2) := by decide +kernel
theorem dX10_row_53 : decode cX10_row 53 = .ok (.bipush 30, 2) := by decide +kernel
theorem dX10_row_55 : decode cX10_row 55 = .ok (.if_icmp .ne 6, 3) := by decide +kernel
theorem dX10_row_58 : decode cX10_row 58 = .ok (.bipush (-3), 2) := by decide +kernel
theorem dX10_row_60 : decode cX10_row 60 = .ok (.ireturn, 1) := by decide +kernel
theorem dX10_row_61 : decode cX10_row 61 = .ok (.aload_n 0, 1) := by decide +kernel
theorem dX10_row_62 : decode cX10_row 62 = .ok (.invokevirtual 34, 3) := by decide +kernel
theorem dX10_row_65 : decode cX10_row 65 = .ok (.aload_n 0, 1) := by decide +kernel
theorem dX10_row_66 : decode cX10_row 66 = .ok (.getfield 7, 3) := by decide +kernel
theorem dX10_row_69 : decode cX10_row 69 = .ok (.bipush 29, 2) := by decide +kernel
theorem dX10_row_71 : decode cX10_row 71 = .ok (.iconst 5, 1) := by decide +kernel
theorem dX10_row_72 : decode cX10_row 72 = .ok (.iload 6, 2) := by decide +kernel
theorem dX10_row_74 : decode cX10_row 74 = .ok (.imul, 1) := by decide +kernel
theorem dX10_row_75 : decode cX10_row 75 = .ok (.iadd, 1) := by decide +kernel
theorem dX10_row_76 : decode cX10_row 76 = .ok (.iload_n 1, 1) := by decide +kernel
theorem dX10_row_77 : decode cX10_row 77 = .ok (.iastore, 1) := by decide +kernel
theorem dX10_row_78 : decode cX10_row 78 = .ok (.aload_n 0, 1) := by decide +kernel
theorem dX10_row_79 : decode cX10_row 79 = .ok (.getfield 7, 3) := by decide +kernel
theorem dX10_row_82 : decode cX10_row 82 = .ok (.bipush 29, 2) := by decide +kernel
theorem dX10_row_84 : decode cX10_row 84 = .ok (.iconst 5, 1) := by decide +kernel
theorem dX10_row_85 : decode cX10_row 85 = .ok (.iload 6, 2) := by decide +kernel
theorem dX10_row_87 : decode cX10_row 87 = .ok (.imul, 1) := by decide +kernel
theorem dX10_row_88 : decode cX10_row 88 = .ok (.iadd, 1) := by decide +kernel
theorem dX10_row_89 : decode cX10_row 89 = .ok (.iconst 1, 1) := by decide +kernel
theorem dX10_row_90 : decode cX10_row 90 = .ok (.iadd, 1) := by decide +kernel
theorem dX10_row_91 : decode cX10_row 91 = .ok (.iload_n 2, 1) := by decide +kernel
theorem dX10_row_92 : decode cX10_row 92 = .ok (.iastore, 1) := by decide +kernel
theorem dX10_row_93 : decode cX10_row 93 = .ok (.aload_n 0, 1) := by decide +kernel
theorem dX10_row_94 : decode cX10_row 94 = .ok (.getfield 7, 3) := by decide +kernel
theorem dX10_row_97 : decode cX10_row 97 = .ok (.bipush 29, 2) := by decide +kernel
theorem dX10_row_99 : decode cX10_row 99 = .ok (.iconst 5, 1) := by decide +kernel
theorem dX10_row_100 : decode cX10_row 100 = .ok (.iload 6, 2) := by decide +kernel
theorem dX10_row_102 : decode cX10_row 102 = .ok (.imul, 1) := by decide +kernel
theorem dX10_row_103 : decode cX10_row 103 = .ok (.iadd, 1) := by decide +kernel
theorem dX10_row_104 : decode cX10_row 104 = .ok (.iconst 2, 1) := by decide +kernel
theorem dX10_row_105 : decode cX10_row 105 = .ok (.iadd, 1) := by decide +kernel
theorem dX10_row_106 : decode cX10_row 106 = .ok (.iload_n 3, 1) := by decide +kernel
theorem dX10_row_107 : decode cX10_row 107 = .ok (.iastore, 1) := by decide +kernel
theorem dX10_row_108 : decode cX10_row 108 = .ok (.aload_n 0, 1) := by decide +kernel
theorem dX10_row_109 : decode cX10_row 109 = .ok (.getfield 7, 3) := by decide +kernel
theorem dX10_row_112 : decode cX10_row 112 = .ok (.bipush 29, 2) := by decide +kernel
theorem dX10_row_114 : decode cX10_row 114 = .ok (.iconst 5, 1) := by decide +kernel
theorem dX10_row_115 : decode cX10_row 115 = .ok (.iload 6, 2) := by decide +kernel
theorem dX10_row_117 : decode cX10_row 117 = .ok (.imul, 1) := by decide +kernel
theorem dX10_row_118 : decode cX10_row 118 = .ok (.iadd, 1) := by decide +kernel
theorem dX10_row_119 : decode cX10_row 119 = .ok (.iconst 3, 1) := by decide +kernel
theorem dX10_row_120 : decode cX10_row 120 = .ok (.iadd, 1) := by decide +kernel
theorem dX10_row_121 : decode cX10_row 121 = .ok (.iload 4, 2) := by decide +kernel
theorem dX10_row_123 : decode cX10_row 123 = .ok (.iastore, 1) := by decide +kernel
theorem dX10_row_124 : decode cX10_row 124 = .ok (.aload_n 0, 1) := by decide +kernel
theorem dX10_row_125 : decode cX10_row 125 = .ok (.getfield 7, 3) := by decide +kernel
theorem dX10_row_128 : decode cX10_row 128 = .ok (.bipush 29, 2) := by decide +kernel
theorem dX10_row_130 : decode cX10_row 130 = .ok (.iconst 5, 1) := by decide +kernel
theorem dX10_row_131 : decode cX10_row 131 = .ok (.iload 6, 2) := by decide +kernel
theorem dX10_row_133 : decode cX10_row 133 = .ok (.imul, 1) := by decide +kernel
theorem dX10_row_134 : decode cX10_row 134 = .ok (.iadd, 1) := by decide +kernel
theorem dX10_row_135 : decode cX10_row 135 = .ok (.iconst 4, 1) := by decide +kernel
theorem dX10_row_136 : decode cX10_row 136 = .ok (.iadd, 1) := by decide +kernel
theorem dX10_row_137 : decode cX10_row 137 = .ok (.iload 5, 2) := by decide +kernel
theorem dX10_row_139 : decode cX10_row 139 = .ok (.iastore, 1) := by decide +kernel
theorem dX10_row_140 : decode cX10_row 140 = .ok (.aload_n 0, 1) := by decide +kernel
theorem dX10_row_141 : decode cX10_row 141 = .ok (.getfield 7, 3) := by decide +kernel
theorem dX10_row_144 : decode cX10_row 144 = .ok (.iconst 0, 1) := by decide +kernel
theorem dX10_row_145 : decode cX10_row 145 = .ok (.dup2, 1) := by decide +kernel
theorem dX10_row_146 : decode cX10_row 146 = .ok (.iaload, 1) := by decide +kernel
theorem dX10_row_147 : decode cX10_row 147 = .ok (.iconst 1, 1) := by decide +kernel
theorem dX10_row_148 : decode cX10_row 148 = .ok (.iadd, 1) := by decide +kernel
theorem dX10_row_149 : decode cX10_row 149 = .ok (.iastore, 1) := by decide +kernel
theorem dX10_row_150 : decode cX10_row 150 = .ok (.iload 6, 2) := by decide +kernel
theorem dX10_row_152 : decode cX10_row 152 = .ok (.ireturn, 1) := by decide +kernel
theorem dX10_dropRow_0 : decode cX10_dropRow 0 = .ok (.aload_n 0, 1) := by decide +kernel
theorem dX10_dropRow_1 : decode cX10_dropRow 1 = .ok (.iload_n 1, 1) := by decide +kernel
theorem dX10_dropRow_2 : decode cX10_dropRow 2 = .ok (.invokevirtual 37, 3) := by decide +kernel
theorem dX10_dropRow_5 : decode cX10_dropRow 5 = .ok (.ifCond .ne 5, 3) := by decide +kernel
theorem dX10_dropRow_8 : decode cX10_dropRow 8 = .ok (.iconst (-1), 1) := by decide +kernel
theorem dX10_dropRow_9 : decode cX10_dropRow 9 = .ok (.ireturn, 1) := by decide +kernel
theorem dX10_dropRow_10 : decode cX10_dropRow 10 = .ok (.aload_n 0, 1) := by decide +kernel
theorem dX10_dropRow_11 : decode cX10_dropRow 11 = .ok (.invokevirtual 34, 3) := by decide +kernel
theorem dX10_dropRow_14 : decode cX10_dropRow 14 = .ok (.aload_n 0, 1) := by decide +kernel
theorem dX10_dropRow_15 : decode cX10_dropRow 15 = .ok (.iload_n 1, 1) := by decide +kernel
theorem dX10_dropRow_16 : decode cX10_dropRow 16 = .ok (.iconst 4, 1) := by decide +kernel
theorem dX10_dropRow_17 : decode cX10_dropRow 17 = .ok (.invokevirtual 40, 3) := by decide +kernel
theorem dX10_dropRow_20 : decode cX10_dropRow 20 = .ok (.istore_n 2, 1) := by decide +kernel
theorem dX10_dropRow_21 : decode cX10_dropRow 21 = .ok (.aload_n 0, 1) := by decide +kernel
theorem dX10_dropRow_22 : decode cX10_dropRow 22 = .ok (.getfield 7, 3) := by decide +kernel
theorem dX10_dropRow_25 : decode cX10_dropRow 25 = .ok (.iconst 0, 1) := by decide +kernel
theorem dX10_dropRow_26 : decode cX10_dropRow 26 = .ok (.dup2, 1) := by decide +kernel
theorem dX10_dropRow_27 : decode cX10_dropRow 27 = .ok (.iaload, 1) := by decide +kernel
theorem dX10_dropRow_28 : decode cX10_dropRow 28 = .ok (.iconst 1, 1) := by decide +kernel
theorem dX10_dropRow_29 : decode cX10_dropRow 29 = .ok (.isub, 1) := by decide +kernel
theorem dX10_dropRow_30 : decode cX10_dropRow 30 = .ok (.iastore, 1) := by decide +kernel
theorem dX10_dropRow_31 : decode cX10_dropRow 31 = .ok (.bipush 29, 2) := by decide +kernel
theorem dX10_dropRow_33 : decode cX10_dropRow 33 = .ok (.iconst 5, 1) := by decide +kernel
theorem dX10_dropRow_34 : decode cX10_dropRow 34 = .ok (.iload_n 1, 1) := by decide +kernel
theorem dX10_dropRow_35 : decode cX10_dropRow 35 = .ok (.imul, 1) := by decide +kernel
theorem dX10_dropRow_36 : decode cX10_dropRow 36 = .ok (.iadd, 1) := by decide +kernel
theorem dX10_dropRow_37 : decode cX10_dropRow 37 = .ok (.istore_n 3, 1) := by decide +kernel
theorem dX10_dropRow_38 : decode cX10_dropRow 38 = .ok (.iload_n 3, 1) := by decide +kernel
theorem dX10_dropRow_39 : decode cX10_dropRow 39 = .ok (.bipush 29, 2) := by decide +kernel
theorem dX10_dropRow_41 : decode cX10_dropRow 41 = .ok (.iconst 5, 1) := by decide +kernel
theorem dX10_dropRow_42 : decode cX10_dropRow 42 = .ok (.aload_n 0, 1) := by decide +kernel
theorem dX10_dropRow_43 : decode cX10_dropRow 43 = .ok (.getfield 7, 3) := by decide +kernel
theorem dX10_dropRow_46 : decode cX10_dropRow 46 = .ok (.iconst 0, 1) := by decide +kernel
theorem dX10_dropRow_47 : decode cX10_dropRow 47 = .ok (.iaload, 1) := by decide +kernel
theorem dX10_dropRow_48 : decode cX10_dropRow 48 = .ok (.imul, 1) := by decide +kernel
theorem dX10_dropRow_49 : decode cX10_dropRow 49 = .ok (.iadd, 1) := by decide +kernel
theorem dX10_dropRow_50 : decode cX10_dropRow 50 = .ok (.if_icmp .ge 23, 3) := by decide +kernel
theorem dX10_dropRow_53 : decode cX10_dropRow 53 = .ok (.aload_n 0, 1) := by decide +kernel
theorem dX10_dropRow_54 : decode cX10_dropRow 54 = .ok (.getfield 7, 3) := by decide +kernel
theorem dX10_dropRow_57 : decode cX10_dropRow 57 = .ok (.iload_n 3, 1) := by decide +kernel
theorem dX10_dropRow_58 : decode cX10_dropRow 58 = .ok (.aload_n 0, 1) := by decide +kernel
theorem dX10_dropRow_59 : decode cX10_dropRow 59 = .ok (.getfield 7, 3) := by decide +kernel
theorem dX10_dropRow_62 : decode cX10_dropRow 62 = .ok (.iload_n 3, 1) := by decide +kernel
theorem dX10_dropRow_63 : decode cX10_dropRow 63 = .ok (.iconst 5, 1) := by decide +kernel
theorem dX10_dropRow_64 : decode cX10_dropRow 64 = .ok (.iadd, 1) := by decide +kernel
theorem dX10_dropRow_65 : decode cX10_dropRow 65 = .ok (.iaload, 1) := by decide +kernel
theorem dX10_dropRow_66 : decode cX10_dropRow 66 = .ok (.iastore, 1) := by decide +kernel
theorem dX10_dropRow_67 : decode cX10_dropRow 67 = .ok (.iinc 3 1, 3) := by decide +kernel
theorem dX10_dropRow_70 : decode cX10_dropRow 70 = .ok (.goto (-32), 3) := by decide +kernel
theorem dX10_dropRow_73 : decode cX10_dropRow 73 = .ok (.iload_n 2, 1) := by decide +kernel
theorem dX10_dropRow_74 : decode cX10_dropRow 74 = .ok (.ireturn, 1) := by decide +kernel
theorem dX10_hasIndex_0 : decode cX10_hasIndex 0 = .ok (.aload_n 0, 1) := by decide +kernel
theorem dX10_hasIndex_1 : decode cX10_hasIndex 1 = .ok (.getfield 7, 3) := by decide +kernel
theorem dX10_hasIndex_4 : decode cX10_hasIndex 4 = .ok (.iconst 1, 1) := by decide +kernel
theorem dX10_hasIndex_5 : decode cX10_hasIndex 5 = .ok (.iaload, 1) := by decide +kernel
theorem dX10_hasIndex_6 : decode cX10_hasIndex 6 = .ok (.iload_n 1, 1) := by decide +kernel
theorem dX10_hasIndex_7 : decode cX10_hasIndex 7 = .ok (.ishr, 1) := by decide +kernel
theorem dX10_hasIndex_8 : decode cX10_hasIndex 8 = .ok (.iconst 1, 1) := by decide +kernel
theorem dX10_hasIndex_9 : decode cX10_hasIndex 9 = .ok (.iand, 1) := by decide +kernel
theorem dX10_hasIndex_10 : decode cX10_hasIndex 10 = .ok (.iconst 1, 1) := by decide +kernel
theorem dX10_hasIndex_11 : decode cX10_hasIndex 11 = .ok (.if_icmp .ne 7, 3) := by decide +kernel
theorem dX10_hasIndex_14 : decode cX10_hasIndex 14 = .ok (.iconst 1, 1) := by decide +kernel
theorem dX10_hasIndex_15 : decode cX10_hasIndex 15 = .ok (.goto 4, 3) := by decide +kernel
theorem dX10_hasIndex_18 : decode cX10_hasIndex 18 = .ok (.iconst 0, 1) := by decide +kernel
theorem dX10_hasIndex_19 : decode cX10_hasIndex 19 = .ok (.ireturn, 1) := by decide +kernel
theorem dX10_index_0 : decode cX10_index 0 = .ok (.iload_n 1, 1) := by decide +kernel
theorem dX10_index_1 : decode cX10_index 1 = .ok (.iconst 0, 1) := by decide +kernel
theorem dX10_index_2 : decode cX10_index 2 = .ok (.iconst 3, 1) := by decide +kernel
theorem dX10_index_3 : decode cX10_index 3 = .ok (.invokestatic 26, 3) := by decide +kernel
theorem dX10_index_6 : decode cX10_index 6 = .ok (.ifCond .eq 12, 3) := by decide +kernel
theorem dX10_index_9 : decode cX10_index 9 = .ok (.iload_n 2, 1) := by decide +kernel
theorem dX10_index_10 : decode cX10_index 10 = .ok (.iconst 0, 1) := by decide +kernel
theorem dX10_index_11 : decode cX10_index 11 = .ok (.iconst 1, 1) := by decide +kernel
theorem dX10_index_12 : decode cX10_index 12 = .ok (.invokestatic 26, 3) := by decide +kernel
theorem dX10_index_15 : decode cX10_index 15 = .ok (.ifCond .ne 5, 3) := by decide +kernel
theorem dX10_index_18 : decode cX10_index 18 = .ok (.iconst (-1), 1) := by decide +kernel
theorem dX10_index_19 : decode cX10_index 19 = .ok (.ireturn, 1) := by decide +kernel
theorem dX10_index_20 : decode cX10_index 20 = .ok (.aload_n 0, 1) := by decide +kernel
theorem dX10_index_21 : decode cX10_index 21 = .ok (.iload_n 1, 1) := by decide +kernel
theorem dX10_index_22 : decode cX10_index 22 = .ok (.invokevirtual 44, 3) := by decide +kernel
theorem dX10_index_25 : decode cX10_index 25 = .ok (.iload_n 2, 1) := by decide +kernel
theorem dX10_index_26 : decode cX10_index 26 = .ok (.iconst 1, 1) := by decide +kernel
theorem dX10_index_27 : decode cX10_index 27 = .ok (.if_icmp .ne 7, 3) := by decide +kernel
theorem dX10_index_30 : decode cX10_index 30 = .ok (.iconst 1, 1) := by decide +kernel
theorem dX10_index_31 : decode cX10_index 31 = .ok (.goto 4, 3) := by decide +kernel
theorem dX10_index_34 : decode cX10_index 34 = .ok (.iconst 0, 1) := by decide +kernel
theorem dX10_index_35 : decode cX10_index 35 = .ok (.if_icmp .ne 6, 3) := by decide +kernel
theorem dX10_index_38 : decode cX10_index 38 = .ok (.bipush (-2), 2) := by decide +kernel
theorem dX10_index_40 : decode cX10_index 40 = .ok (.ireturn, 1) := by decide +kernel
theorem dX10_index_41 : decode cX10_index 41 = .ok (.aload_n 0, 1) := by decide +kernel
theorem dX10_index_42 : decode cX10_index 42 = .ok (.invokevirtual 34, 3) := by decide +kernel
theorem dX10_index_45 : decode cX10_index 45 = .ok (.aload_n 0, 1) := by decide +kernel
theorem dX10_index_46 : decode cX10_index 46 = .ok (.getfield 7, 3) := by decide +kernel
theorem dX10_index_49 : decode cX10_index 49 = .ok (.iconst 1, 1) := by decide +kernel
theorem dX10_index_50 : decode cX10_index 50 = .ok (.dup2, 1) := by decide +kernel
theorem dX10_index_51 : decode cX10_index 51 = .ok (.iaload, 1) := by decide +kernel
theorem dX10_index_52 : decode cX10_index 52 = .ok (.iconst 1, 1) := by decide +kernel
theorem dX10_index_53 : decode cX10_index 53 = .ok (.iload_n 1, 1) := by decide +kernel
theorem dX10_index_54 : decode cX10_index 54 = .ok (.ishl, 1) := by decide +kernel
theorem dX10_index_55 : decode cX10_index 55 = .ok (.ixor, 1) := by decide +kernel
theorem dX10_index_56 : decode cX10_index 56 = .ok (.iastore, 1) := by decide +kernel
theorem dX10_index_57 : decode cX10_index 57 = .ok (.iconst 0, 1) := by decide +kernel
theorem dX10_index_58 : decode cX10_index 58 = .ok (.istore_n 3, 1) := by decide +kernel
theorem dX10_index_59 : decode cX10_index 59 = .ok (.aload_n 0, 1) := by decide +kernel
theorem dX10_index_60 : decode cX10_index 60 = .ok (.getfield 7, 3) := by decide +kernel
theorem dX10_index_63 : decode cX10_index 63 = .ok (.iconst 4, 1) := by decide +kernel
theorem dX10_index_64 : decode cX10_index 64 = .ok (.iaload, 1) := by decide +kernel
theorem dX10_index_65 : decode cX10_index 65 = .ok (.iconst 1, 1) := by decide +kernel
theorem dX10_index_66 : decode cX10_index 66 = .ok (.isub, 1) := by decide +kernel
theorem dX10_index_67 : decode cX10_index 67 = .ok (.istore 4, 2) := by decide +kernel
theorem dX10_index_69 : decode cX10_index 69 = .ok (.iload 4, 2) := by decide +kernel
theorem dX10_index_71 : decode cX10_index 71 = .ok (.ifCond .lt 68, 3) := by decide +kernel
theorem dX10_index_74 : decode cX10_index 74 = .ok (.aload_n 0, 1) := by decide +kernel
theorem dX10_index_75 : decode cX10_index 75 = .ok (.iload 4, 2) := by decide +kernel
theorem dX10_index_77 : decode cX10_index 77 = .ok (.iconst 3, 1) := by decide +kernel
theorem dX10_index_78 : decode cX10_index 78 = .ok (.invokevirtual 47, 3) := by decide +kernel
theorem dX10_index_81 : decode cX10_index 81 = .ok (.bipush 9, 2) := by decide +kernel
theorem dX10_index_83 : decode cX10_index 83 = .ok (.if_icmp .eq 29, 3) := by decide +kernel
theorem dX10_index_86 : decode cX10_index 86 = .ok (.aload_n 0, 1) := by decide +kernel
theorem dX10_index_87 : decode cX10_index 87 = .ok (.aload_n 0, 1) := by decide +kernel
theorem dX10_index_88 : decode cX10_index 88 = .ok (.iload 4, 2) := by decide +kernel
theorem dX10_index_90 : decode cX10_index 90 = .ok (.iconst 1, 1) := by decide +kernel
theorem dX10_index_91 : decode cX10_index 91 = .ok (.invokevirtual 47, 3) := by decide +kernel
theorem dX10_index_94 : decode cX10_index 94 = .ok (.aload_n 0, 1) := by decide +kernel
theorem dX10_index_95 : decode cX10_index 95 = .ok (.iload 4, 2) := by decide +kernel
theorem dX10_index_97 : decode cX10_index 97 = .ok (.iconst 3, 1) := by decide +kernel
theorem dX10_index_98 : decode cX10_index 98 = .ok (.invokevirtual 47, 3) := by decide +kernel
theorem dX10_index_101 : decode cX10_index 101 = .ok (.invokevirtual 50, 3) := by decide +kernel
theorem dX10_index_104 : decode cX10_index 104 = .ok (.iload_n 1, 1) := by decide +kernel
theorem dX10_index_105 : decode cX10_index 105 = .ok (.if_icmp .ne 7, 3) := by decide +kernel
theorem dX10_index_108 : decode cX10_index 108 = .ok (.iconst 1, 1) := by decide +kernel
theorem dX10_index_109 : decode cX10_index 109 = .ok (.goto 4, 3) := by decide +kernel
theorem dX10_index_112 : decode cX10_index 112 = .ok (.iconst 0, 1) := by decide +kernel
theorem dX10_index_113 : decode cX10_index 113 = .ok (.istore 5, 2) := by decide +kernel
theorem dX10_index_115 : decode cX10_index 115 = .ok (.iload 5, 2) := by decide +kernel
theorem dX10_index_117 : decode cX10_index 117 = .ok (.ifCond .eq 16, 3) := by decide +kernel
theorem dX10_index_120 : decode cX10_index 120 = .ok (.iload_n 2, 1) := by decide +kernel
theorem dX10_index_121 : decode cX10_index 121 = .ok (.ifCond .ne 12, 3) := by decide +kernel
theorem dX10_index_124 : decode cX10_index 124 = .ok (.aload_n 0, 1) := by decide +kernel
theorem dX10_index_125 : decode cX10_index 125 = .ok (.iload 4, 2) := by decide +kernel
theorem dX10_index_127 : decode cX10_index 127 = .ok (.invokevirtual 53, 3) := by decide +kernel
theorem dX10_index_130 : decode cX10_index 130 = .ok (.iinc 3 1, 3) := by decide +kernel
theorem dX10_index_133 : decode cX10_index 133 = .ok (.iinc 4 (-1), 3) := by decide +kernel
theorem dX10_index_136 : decode cX10_index 136 = .ok (.goto (-67), 3) := by decide +kernel
theorem dX10_index_139 : decode cX10_index 139 = .ok (.aload_n 0, 1) := by decide +kernel
theorem dX10_index_140 : decode cX10_index 140 = .ok (.getfield 7, 3) := by decide +kernel
theorem dX10_index_143 : decode cX10_index 143 = .ok (.bipush 10, 2) := by decide +kernel
theorem dX10_index_145 : decode cX10_index 145 = .ok (.dup2, 1) := by decide +kernel
theorem dX10_index_146 : decode cX10_index 146 = .ok (.iaload, 1) := by decide +kernel
theorem dX10_index_147 : decode cX10_index 147 = .ok (.iload_n 3, 1) := by decide +kernel
theorem dX10_index_148 : decode cX10_index 148 = .ok (.iadd, 1) := by decide +kernel
theorem dX10_index_149 : decode cX10_index 149 = .ok (.iastore, 1) := by decide +kernel
theorem dX10_index_150 : decode cX10_index 150 = .ok (.iload_n 3, 1) := by decide +kernel
theorem dX10_index_151 : decode cX10_index 151 = .ok (.ireturn, 1) := by decide +kernel
theorem dX10_size_0 : decode cX10_size 0 = .ok (.iconst 0, 1) := by decide +kernel
theorem dX10_size_1 : decode cX10_size 1 = .ok (.istore_n 1, 1) := by decide +kernel
theorem dX10_size_2 : decode cX10_size 2 = .ok (.iconst 0, 1) := by decide +kernel
theorem dX10_size_3 : decode cX10_size 3 = .ok (.istore_n 2, 1) := by decide +kernel
theorem dX10_size_4 : decode cX10_size 4 = .ok (.iload_n 2, 1) := by decide +kernel
theorem dX10_size_5 : decode cX10_size 5 = .ok (.aload_n 0, 1) := by decide +kernel
theorem dX10_size_6 : decode cX10_size 6 = .ok (.getfield 7, 3) := by decide +kernel
theorem dX10_size_9 : decode cX10_size 9 = .ok (.iconst 0, 1) := by decide +kernel
theorem dX10_size_10 : decode cX10_size 10 = .ok (.iaload, 1) := by decide +kernel
theorem dX10_size_11 : decode cX10_size 11 = .ok (.if_icmp .ge 18, 3) := by decide +kernel
theorem dX10_size_14 : decode cX10_size 14 = .ok (.iload_n 1, 1) := by decide +kernel
theorem dX10_size_15 : decode cX10_size 15 = .ok (.aload_n 0, 1) := by decide +kernel
theorem dX10_size_16 : decode cX10_size 16 = .ok (.iload_n 2, 1) := by decide +kernel
theorem dX10_size_17 : decode cX10_size 17 = .ok (.iconst 4, 1) := by decide +kernel
theorem dX10_size_18 : decode cX10_size 18 = .ok (.invokevirtual 40, 3) := by decide +kernel
theorem dX10_size_21 : decode cX10_size 21 = .ok (.iadd, 1) := by decide +kernel
theorem dX10_size_22 : decode cX10_size 22 = .ok (.istore_n 1, 1) := by decide +kernel
theorem dX10_size_23 : decode cX10_size 23 = .ok (.iinc 2 1, 3) := by decide +kernel
theorem dX10_size_26 : decode cX10_size 26 = .ok (.goto (-22), 3) := by decide +kernel
theorem dX10_size_29 : decode cX10_size 29 = .ok (.iload_n 1, 1) := by decide +kernel
theorem dX10_size_30 : decode cX10_size 30 = .ok (.ireturn, 1) := by decide +kernel
theorem dX10_analyse_0 : decode cX10_analyse 0 = .ok (.aload_n 0, 1) := by decide +kernel
theorem dX10_analyse_1 : decode cX10_analyse 1 = .ok (.invokevirtual 34, 3) := by decide +kernel
theorem dX10_analyse_4 : decode cX10_analyse 4 = .ok (.iconst 0, 1) := by decide +kernel
theorem dX10_analyse_5 : decode cX10_analyse 5 = .ok (.istore_n 1, 1) := by decide +kernel
theorem dX10_analyse_6 : decode cX10_analyse 6 = .ok (.iload_n 1, 1) := by decide +kernel
theorem dX10_analyse_7 : decode cX10_analyse 7 = .ok (.sipush 128, 3) := by decide +kernel
theorem dX10_analyse_10 : decode cX10_analyse 10 = .ok (.if_icmp .ge 20, 3) := by decide +kernel
theorem dX10_analyse_13 : decode cX10_analyse 13 = .ok (.aload_n 0, 1) := by decide +kernel
theorem dX10_analyse_14 : decode cX10_analyse 14 = .ok (.getfield 7, 3) := by decide +kernel
theorem dX10_analyse_17 : decode cX10_analyse 17 = .ok (.sipush 179, 3) := by decide +kernel
theorem dX10_analyse_20 : decode cX10_analyse 20 = .ok (.iload_n 1, 1) := by decide +kernel
theorem dX10_analyse_21 : decode cX10_analyse 21 = .ok (.iadd, 1) := by decide +kernel
theorem dX10_analyse_22 : decode cX10_analyse 22 = .ok (.iconst 0, 1) := by decide +kernel
theorem dX10_analyse_23 : decode cX10_analyse 23 = .ok (.iastore, 1) := by decide +kernel
theorem dX10_analyse_24 : decode cX10_analyse 24 = .ok (.iinc 1 1, 3) := by decide +kernel
theorem dX10_analyse_27 : decode cX10_analyse 27 = .ok (.goto (-21), 3) := by decide +kernel
theorem dX10_analyse_30 : decode cX10_analyse 30 = .ok (.iconst 0, 1) := by decide +kernel
theorem dX10_analyse_31 : decode cX10_analyse 31 = .ok (.istore_n 1, 1) := by decide +kernel
theorem dX10_analyse_32 : decode cX10_analyse 32 = .ok (.iload_n 1, 1) := by decide +kernel
theorem dX10_analyse_33 : decode cX10_analyse 33 = .ok (.aload_n 0, 1) := by decide +kernel
theorem dX10_analyse_34 : decode cX10_analyse 34 = .ok (.getfield 7, 3) := by decide +kernel
theorem dX10_analyse_37 : decode cX10_analyse 37 = .ok (.iconst 0, 1) := by decide +kernel
theorem dX10_analyse_38 : decode cX10_analyse 38 = .ok (.iaload, 1) := by decide +kernel
theorem dX10_analyse_39 : decode cX10_analyse 39 = .ok (.if_icmp .ge 51, 3) := by decide +kernel
theorem dX10_analyse_42 : decode cX10_analyse 42 = .ok (.iconst 0, 1) := by decide +kernel
theorem dX10_analyse_43 : decode cX10_analyse 43 = .ok (.istore_n 2, 1) := by decide +kernel
theorem dX10_analyse_44 : decode cX10_analyse 44 = .ok (.iload_n 2, 1) := by decide +kernel
theorem dX10_analyse_45 : decode cX10_analyse 45 = .ok (.iconst 4, 1) := by decide +kernel
theorem dX10_analyse_46 : decode cX10_analyse 46 = .ok (.if_icmp .ge 38, 3) := by decide +kernel
theorem dX10_analyse_49 : decode cX10_analyse 49 = .ok (.aload_n 0, 1) := by decide +kernel
theorem dX10_analyse_50 : decode cX10_analyse 50 = .ok (.getfield 7, 3) := by decide +kernel
theorem dX10_analyse_53 : decode cX10_analyse 53 = .ok (.sipush 179, 3) := by decide +kernel
theorem dX10_analyse_56 : decode cX10_analyse 56 = .ok (.bipush 32, 2) := by decide +kernel
theorem dX10_analyse_58 : decode cX10_analyse 58 = .ok (.iload_n 2, 1) := by decide +kernel
theorem dX10_analyse_59 : decode cX10_analyse 59 = .ok (.imul, 1) := by decide +kernel
theorem dX10_analyse_60 : decode cX10_analyse 60 = .ok (.iadd, 1) := by decide +kernel
theorem dX10_analyse_61 : decode cX10_analyse 61 = .ok (.aload_n 0, 1) := by decide +kernel
theorem dX10_analyse_62 : decode cX10_analyse 62 = .ok (.iload_n 1, 1) := by decide +kernel
theorem dX10_analyse_63 : decode cX10_analyse 63 = .ok (.iload_n 2, 1) := by decide +kernel
theorem dX10_analyse_64 : decode cX10_analyse 64 = .ok (.invokevirtual 40, 3) := by decide +kernel
theorem dX10_analyse_67 : decode cX10_analyse 67 = .ok (.iadd, 1) := by decide +kernel
theorem dX10_analyse_68 : decode cX10_analyse 68 = .ok (.dup2, 1) := by decide +kernel
theorem dX10_analyse_69 : decode cX10_analyse 69 = .ok (.iaload, 1) := by decide +kernel
theorem dX10_analyse_70 : decode cX10_analyse 70 = .ok (.aload_n 0, 1) := by decide +kernel
theorem dX10_analyse_71 : decode cX10_analyse 71 = .ok (.iload_n 1, 1) := by decide +kernel
theorem dX10_analyse_72 : decode cX10_analyse 72 = .ok (.iconst 4, 1) := by decide +kernel
theorem dX10_analyse_73 : decode cX10_analyse 73 = .ok (.invokevirtual 40, 3) := by decide +kernel
theorem dX10_analyse_76 : decode cX10_analyse 76 = .ok (.iadd, 1) := by decide +kernel
theorem dX10_analyse_77 : decode cX10_analyse 77 = .ok (.iastore, 1) := by decide +kernel
theorem dX10_analyse_78 : decode cX10_analyse 78 = .ok (.iinc 2 1, 3) := by decide +kernel
theorem dX10_analyse_81 : decode cX10_analyse 81 = .ok (.goto (-37), 3) := by decide +kernel
theorem dX10_analyse_84 : decode cX10_analyse 84 = .ok (.iinc 1 1, 3) := by decide +kernel
theorem dX10_analyse_87 : decode cX10_analyse 87 = .ok (.goto (-55), 3) := by decide +kernel
theorem dX10_analyse_90 : decode cX10_analyse 90 = .ok (.aload_n 0, 1) := by decide +kernel
theorem dX10_analyse_91 : decode cX10_analyse 91 = .ok (.getfield 7, 3) := by decide +kernel
theorem dX10_analyse_94 : decode cX10_analyse 94 = .ok (.iconst 2, 1) := by decide +kernel
theorem dX10_analyse_95 : decode cX10_analyse 95 = .ok (.aload_n 0, 1) := by decide +kernel
theorem dX10_analyse_96 : decode cX10_analyse 96 = .ok (.invokevirtual 57, 3) := by decide +kernel
theorem dX10_analyse_99 : decode cX10_analyse 99 = .ok (.iastore, 1) := by decide +kernel
theorem dX10_analyse_100 : decode cX10_analyse 100 = .ok (.aload_n 0, 1) := by decide +kernel
theorem dX10_analyse_101 : decode cX10_analyse 101 = .ok (.getfield 7, 3) := by decide +kernel
theorem dX10_analyse_104 : decode cX10_analyse 104 = .ok (.iconst 2, 1) := by decide +kernel
theorem dX10_analyse_105 : decode cX10_analyse 105 = .ok (.iaload, 1) := by decide +kernel
theorem dX10_analyse_106 : decode cX10_analyse 106 = .ok (.ireturn, 1) := by decide +kernel
theorem dX10_rowOf_0 : decode cX10_rowOf 0 = .ok (.aload_n 0, 1) := by decide +kernel
theorem dX10_rowOf_1 : decode cX10_rowOf 1 = .ok (.iload_n 1, 1) := by decide +kernel
theorem dX10_rowOf_2 : decode cX10_rowOf 2 = .ok (.invokevirtual 37, 3) := by decide +kernel
theorem dX10_rowOf_5 : decode cX10_rowOf 5 = .ok (.ifCond .eq 21, 3) := by decide +kernel
theorem dX10_rowOf_8 : decode cX10_rowOf 8 = .ok (.iload_n 2, 1) := by decide +kernel
theorem dX10_rowOf_9 : decode cX10_rowOf 9 = .ok (.iconst 0, 1) := by decide +kernel
theorem dX10_rowOf_10 : decode cX10_rowOf 10 = .ok (.iconst 4, 1) := by decide +kernel
theorem dX10_rowOf_11 : decode cX10_rowOf 11 = .ok (.invokestatic 26, 3) := by decide +kernel
theorem dX10_rowOf_14 : decode cX10_rowOf 14 = .ok (.ifCond .eq 12, 3) := by decide +kernel
theorem dX10_rowOf_17 : decode cX10_rowOf 17 = .ok (.aload_n 0, 1) := by decide +kernel
theorem dX10_rowOf_18 : decode cX10_rowOf 18 = .ok (.iload_n 1, 1) := by decide +kernel
theorem dX10_rowOf_19 : decode cX10_rowOf 19 = .ok (.iload_n 2, 1) := by decide +kernel
theorem dX10_rowOf_20 : decode cX10_rowOf 20 = .ok (.invokevirtual 40, 3) := by decide +kernel
theorem dX10_rowOf_23 : decode cX10_rowOf 23 = .ok (.goto 4, 3) := by decide +kernel
theorem dX10_rowOf_26 : decode cX10_rowOf 26 = .ok (.iconst (-1), 1) := by decide +kernel
theorem dX10_rowOf_27 : decode cX10_rowOf 27 = .ok (.ireturn, 1) := by decide +kernel
theorem dX10_known_0 : decode cX10_known 0 = .ok (.iload_n 1, 1) := by decide +kernel
theorem dX10_known_1 : decode cX10_known 1 = .ok (.iconst 0, 1) := by decide +kernel
theorem dX10_known_2 : decode cX10_known 2 = .ok (.iconst 3, 1) := by decide +kernel
theorem dX10_known_3 : decode cX10_known 3 = .ok (.invokestatic 26, 3) := by decide +kernel
theorem dX10_known_6 : decode cX10_known 6 = .ok (.ifCond .eq 28, 3) := by decide +kernel
theorem dX10_known_9 : decode cX10_known 9 = .ok (.iload_n 2, 1) := by decide +kernel
theorem dX10_known_10 : decode cX10_known 10 = .ok (.invokestatic 30, 3) := by decide +kernel
theorem dX10_known_13 : decode cX10_known 13 = .ok (.ifCond .eq 21, 3) := by decide +kernel
theorem dX10_known_16 : decode cX10_known 16 = .ok (.aload_n 0, 1) := by decide +kernel
theorem dX10_known_17 : decode cX10_known 17 = .ok (.getfield 7, 3) := by decide +kernel
theorem dX10_known_20 : decode cX10_known 20 = .ok (.sipush 179, 3) := by decide +kernel
theorem dX10_known_23 : decode cX10_known 23 = .ok (.bipush 32, 2) := by decide +kernel
theorem dX10_known_25 : decode cX10_known 25 = .ok (.iload_n 1, 1) := by decide +kernel
theorem dX10_known_26 : decode cX10_known 26 = .ok (.imul, 1) := by decide +kernel
theorem dX10_known_27 : decode cX10_known 27 = .ok (.iadd, 1) := by decide +kernel
theorem dX10_known_28 : decode cX10_known 28 = .ok (.iload_n 2, 1) := by decide +kernel
theorem dX10_known_29 : decode cX10_known 29 = .ok (.iadd, 1) := by decide +kernel
theorem dX10_known_30 : decode cX10_known 30 = .ok (.iaload, 1) := by decide +kernel
theorem dX10_known_31 : decode cX10_known 31 = .ok (.goto 4, 3) := by decide +kernel
theorem dX10_known_34 : decode cX10_known 34 = .ok (.iconst (-1), 1) := by decide +kernel
theorem dX10_known_35 : decode cX10_known 35 = .ok (.ireturn, 1) := by decide +kernel
theorem dX10_isStatement_0 : decode cX10_isStatement 0 = .ok (.iload_n 1, 1) := by decide +kernel
theorem dX10_isStatement_1 : decode cX10_isStatement 1 = .ok (.ifCond .lt 17, 3) := by decide +kernel
theorem dX10_isStatement_4 : decode cX10_isStatement 4 = .ok (.iload_n 1, 1) := by decide +kernel
theorem dX10_isStatement_5 : decode cX10_isStatement 5 = .ok (.aload_n 0, 1) := by decide +kernel
theorem dX10_isStatement_6 : decode cX10_isStatement 6 = .ok (.getfield 7, 3) := by decide +kernel
theorem dX10_isStatement_9 : decode cX10_isStatement 9 = .ok (.iconst 3, 1) := by decide +kernel
theorem dX10_isStatement_10 : decode cX10_isStatement 10 = .ok (.iaload, 1) := by decide +kernel
theorem dX10_isStatement_11 : decode cX10_isStatement 11 = .ok (.if_icmp .ge 7, 3) := by decide +kernel
theorem dX10_isStatement_14 : decode cX10_isStatement 14 = .ok (.iconst 1, 1) := by decide +kernel
theorem dX10_isStatement_15 : decode cX10_isStatement 15 = .ok (.goto 4, 3) := by decide +kernel
theorem dX10_isStatement_18 : decode cX10_isStatement 18 = .ok (.iconst 0, 1) := by decide +kernel
theorem dX10_isStatement_19 : decode cX10_isStatement 19 = .ok (.ireturn, 1) := by decide +kernel
theorem dX10_conditions_0 : decode cX10_conditions 0 = .ok (.aload_n 0, 1) := by decide +kernel
theorem dX10_conditions_1 : decode cX10_conditions 1 = .ok (.getfield 7, 3) := by decide +kernel
theorem dX10_conditions_4 : decode cX10_conditions 4 = .ok (.sipush 307, 3) := by decide +kernel
theorem dX10_conditions_7 : decode cX10_conditions 7 = .ok (.bipush 10, 2) := by decide +kernel
theorem dX10_conditions_9 : decode cX10_conditions 9 = .ok (.iload_n 1, 1) := by decide +kernel
theorem dX10_conditions_10 : decode cX10_conditions 10 = .ok (.imul, 1) := by decide +kernel
theorem dX10_conditions_11 : decode cX10_conditions 11 = .ok (.iadd, 1) := by decide +kernel
theorem dX10_conditions_12 : decode cX10_conditions 12 = .ok (.iaload, 1) := by decide +kernel
theorem dX10_conditions_13 : decode cX10_conditions 13 = .ok (.ireturn, 1) := by decide +kernel
theorem dX10_columnOf_0 : decode cX10_columnOf 0 = .ok (.aload_n 0, 1) := by decide +kernel
theorem dX10_columnOf_1 : decode cX10_columnOf 1 = .ok (.getfield 7, 3) := by decide +kernel
theorem dX10_columnOf_4 : decode cX10_columnOf 4 = .ok (.sipush 307, 3) := by decide +kernel
theorem dX10_columnOf_7 : decode cX10_columnOf 7 = .ok (.bipush 10, 2) := by decide +kernel
theorem dX10_columnOf_9 : decode cX10_columnOf 9 = .ok (.iload_n 1, 1) := by decide +kernel
theorem dX10_columnOf_10 : decode cX10_columnOf 10 = .ok (.imul, 1) := by decide +kernel
theorem dX10_columnOf_11 : decode cX10_columnOf 11 = .ok (.iadd, 1) := by decide +kernel
theorem dX10_columnOf_12 : decode cX10_columnOf 12 = .ok (.iconst 1, 1) := by decide +kernel
theorem dX10_columnOf_13 : decode cX10_columnOf 13 = .ok (.iadd, 1) := by decide +kernel
theorem dX10_columnOf_14 : decode cX10_columnOf 14 = .ok (.iload_n 2, 1) := by decide +kernel
theorem dX10_columnOf_15 : decode cX10_columnOf 15 = .ok (.iadd, 1) := by decide +kernel
theorem dX10_columnOf_16 : decode cX10_columnOf 16 = .ok (.iaload, 1) := by decide +kernel
theorem dX10_columnOf_17 : decode cX10_columnOf 17 = .ok (.ireturn, 1) := by decide +kernel
theorem dX10_operatorOf_0 : decode cX10_operatorOf 0 = .ok (.aload_n 0, 1) := by decide +kernel
theorem dX10_operatorOf_1 : decode cX10_operatorOf 1 = .ok (.getfield 7, 3) := by decide +kernel
theorem dX10_operatorOf_4 : decode cX10_operatorOf 4 = .ok (.sipush 307, 3) := by decide +kernel
theorem dX10_operatorOf_7 : decode cX10_operatorOf 7 = .ok (.bipush 10, 2) := by decide +kernel
theorem dX10_operatorOf_9 : decode cX10_operatorOf 9 = .ok (.iload_n 1, 1) := by decide +kernel
theorem dX10_operatorOf_10 : decode cX10_operatorOf 10 = .ok (.imul, 1) := by decide +kernel
theorem dX10_operatorOf_11 : decode cX10_operatorOf 11 = .ok (.iadd, 1) := by decide +kernel
theorem dX10_operatorOf_12 : decode cX10_operatorOf 12 = .ok (.iconst 5, 1) := by decide +kernel
theorem dX10_operatorOf_13 : decode cX10_operatorOf 13 = .ok (.iadd, 1) := by decide +kernel
theorem dX10_operatorOf_14 : decode cX10_operatorOf 14 = .ok (.iload_n 2, 1) := by decide +kernel
theorem dX10_operatorOf_15 : decode cX10_operatorOf 15 = .ok (.iadd, 1) := by decide +kernel
theorem dX10_operatorOf_16 : decode cX10_operatorOf 16 = .ok (.iaload, 1) := by decide +kernel
theorem dX10_operatorOf_17 : decode cX10_operatorOf 17 = .ok (.ireturn, 1) := by decide +kernel
theorem dX10_isRight_0 : decode cX10_isRight 0 = .ok (.aload_n 0, 1) := by decide +kernel
theorem dX10_isRight_1 : decode cX10_isRight 1 = .ok (.iconst 0, 1) := by decide +kernel
theorem dX10_isRight_2 : decode cX10_isRight 2 = .ok (.putfield 61, 3) := by decide +kernel
theorem dX10_isRight_5 : decode cX10_isRight 5 = .ok (.aload_n 0, 1) := by decide +kernel
theorem dX10_isRight_6 : decode cX10_isRight 6 = .ok (.getfield 61, 3) := by decide +kernel
theorem dX10_isRight_9 : decode cX10_isRight 9 = .ok (.aload_n 0, 1) := by decide +kernel
theorem dX10_isRight_10 : decode cX10_isRight 10 = .ok (.getfield 64, 3) := by decide +kernel
theorem dX10_isRight_13 : decode cX10_isRight 13 = .ok (.if_icmp .ge 122, 3) := by decide +kernel
theorem dX10_isRight_16 : decode cX10_isRight 16 = .ok (.aload_n 0, 1) := by decide +kernel
theorem dX10_isRight_17 : decode cX10_isRight 17 = .ok (.getfield 16, 3) := by decide +kernel
theorem dX10_isRight_20 : decode cX10_isRight 20 = .ok (.aload_n 0, 1) := by decide +kernel
theorem dX10_isRight_21 : decode cX10_isRight 21 = .ok (.getfield 61, 3) := by decide +kernel
theorem dX10_isRight_24 : decode cX10_isRight 24 = .ok (.iaload, 1) := by decide +kernel
theorem dX10_isRight_25 : decode cX10_isRight 25 = .ok (.istore_n 1, 1) := by decide +kernel
theorem dX10_isRight_26 : decode cX10_isRight 26 = .ok (.aload_n 0, 1) := by decide +kernel
theorem dX10_isRight_27 : decode cX10_isRight 27 = .ok (.getfield 61, 3) := by decide +kernel
theorem dX10_isRight_30 : decode cX10_isRight 30 = .ok (.iconst 4, 1) := by decide +kernel
theorem dX10_isRight_31 : decode cX10_isRight 31 = .ok (.irem, 1) := by decide +kernel
theorem dX10_isRight_32 : decode cX10_isRight 32 = .ok (.ifCond .ne 14, 3) := by decide +kernel
theorem dX10_isRight_35 : decode cX10_isRight 35 = .ok (.iload_n 1, 1) := by decide +kernel
theorem dX10_isRight_36 : decode cX10_isRight 36 = .ok (.bipush 97, 2) := by decide +kernel
theorem dX10_isRight_38 : decode cX10_isRight 38 = .ok (.bipush 100, 2) := by decide +kernel
theorem dX10_isRight_40 : decode cX10_isRight 40 = .ok (.invokestatic 26, 3) := by decide +kernel
theorem dX10_isRight_43 : decode cX10_isRight 43 = .ok (.goto 50, 3) := by decide +kernel
theorem dX10_isRight_46 : decode cX10_isRight 46 = .ok (.aload_n 0, 1) := by decide +kernel
theorem dX10_isRight_47 : decode cX10_isRight 47 = .ok (.getfield 61, 3) := by decide +kernel
theorem dX10_isRight_50 : decode cX10_isRight 50 = .ok (.iconst 4, 1) := by decide +kernel
theorem dX10_isRight_51 : decode cX10_isRight 51 = .ok (.irem, 1) := by decide +kernel
theorem dX10_isRight_52 : decode cX10_isRight 52 = .ok (.iconst 1, 1) := by decide +kernel
theorem dX10_isRight_53 : decode cX10_isRight 53 = .ok (.if_icmp .ne 14, 3) := by decide +kernel
theorem dX10_isRight_56 : decode cX10_isRight 56 = .ok (.iload_n 1, 1) := by decide +kernel
theorem dX10_isRight_57 : decode cX10_isRight 57 = .ok (.bipush 60, 2) := by decide +kernel
theorem dX10_isRight_59 : decode cX10_isRight 59 = .ok (.bipush 62, 2) := by decide +kernel
theorem dX10_isRight_61 : decode cX10_isRight 61 = .ok (.invokestatic 26, 3) := by decide +kernel
theorem dX10_isRight_64 : decode cX10_isRight 64 = .ok (.goto 29, 3) := by decide +kernel
theorem dX10_isRight_67 : decode cX10_isRight 67 = .ok (.iload_n 1, 1) := by decide +kernel
theorem dX10_isRight_68 : decode cX10_isRight 68 = .ok (.aload_n 0, 1) := by decide +kernel
theorem dX10_isRight_69 : decode cX10_isRight 69 = .ok (.getfield 61, 3) := by decide +kernel
theorem dX10_isRight_72 : decode cX10_isRight 72 = .ok (.iconst 4, 1) := by decide +kernel
theorem dX10_isRight_73 : decode cX10_isRight 73 = .ok (.irem, 1) := by decide +kernel
theorem dX10_isRight_74 : decode cX10_isRight 74 = .ok (.iconst 2, 1) := by decide +kernel
theorem dX10_isRight_75 : decode cX10_isRight 75 = .ok (.if_icmp .ne 8, 3) := by decide +kernel
theorem dX10_isRight_78 : decode cX10_isRight 78 = .ok (.bipush 63, 2) := by decide +kernel
theorem dX10_isRight_80 : decode cX10_isRight 80 = .ok (.goto 5, 3) := by decide +kernel
theorem dX10_isRight_83 : decode cX10_isRight 83 = .ok (.bipush 38, 2) := by decide +kernel
theorem dX10_isRight_85 : decode cX10_isRight 85 = .ok (.if_icmp .ne 7, 3) := by decide +kernel
theorem dX10_isRight_88 : decode cX10_isRight 88 = .ok (.iconst 1, 1) := by decide +kernel
theorem dX10_isRight_89 : decode cX10_isRight 89 = .ok (.goto 4, 3) := by decide +kernel
theorem dX10_isRight_92 : decode cX10_isRight 92 = .ok (.iconst 0, 1) := by decide +kernel
theorem dX10_isRight_93 : decode cX10_isRight 93 = .ok (.istore_n 2, 1) := by decide +kernel
theorem dX10_isRight_94 : decode cX10_isRight 94 = .ok (.aload_n 0, 1) := by decide +kernel
theorem dX10_isRight_95 : decode cX10_isRight 95 = .ok (.iload_n 2, 1) := by decide +kernel
theorem dX10_isRight_96 : decode cX10_isRight 96 = .ok (.ifCond .eq 7, 3) := by decide +kernel
theorem dX10_isRight_99 : decode cX10_isRight 99 = .ok (.iconst 2, 1) := by decide +kernel
theorem dX10_isRight_100 : decode cX10_isRight 100 = .ok (.goto 4, 3) := by decide +kernel
theorem dX10_isRight_103 : decode cX10_isRight 103 = .ok (.iconst 1, 1) := by decide +kernel
theorem dX10_isRight_104 : decode cX10_isRight 104 = .ok (.putfield 67, 3) := by decide +kernel
theorem dX10_isRight_107 : decode cX10_isRight 107 = .ok (.iload_n 2, 1) := by decide +kernel
theorem dX10_isRight_108 : decode cX10_isRight 108 = .ok (.ifCond .eq 12, 3) := by decide +kernel
theorem dX10_isRight_111 : decode cX10_isRight 111 = .ok (.aload_n 0, 1) := by decide +kernel
theorem dX10_isRight_112 : decode cX10_isRight 112 = .ok (.getfield 61, 3) := by decide +kernel
theorem dX10_isRight_115 : decode cX10_isRight 115 = .ok (.bipush 15, 2) := by decide +kernel
theorem dX10_isRight_117 : decode cX10_isRight 117 = .ok (.if_icmp .ne 5, 3) := by decide +kernel
theorem dX10_isRight_120 : decode cX10_isRight 120 = .ok (.iconst 0, 1) := by decide +kernel
theorem dX10_isRight_121 : decode cX10_isRight 121 = .ok (.ireturn, 1) := by decide +kernel
theorem dX10_isRight_122 : decode cX10_isRight 122 = .ok (.aload_n 0, 1) := by decide +kernel
theorem dX10_isRight_123 : decode cX10_isRight 123 = .ok (.dup, 1) := by decide +kernel
theorem dX10_isRight_124 : decode cX10_isRight 124 = .ok (.getfield 61, 3) := by decide +kernel
theorem dX10_isRight_127 : decode cX10_isRight 127 = .ok (.iconst 1, 1) := by decide +kernel
theorem dX10_isRight_128 : decode cX10_isRight 128 = .ok (.iadd, 1) := by decide +kernel
theorem dX10_isRight_129 : decode cX10_isRight 129 = .ok (.putfield 61, 3) := by decide +kernel
theorem dX10_isRight_132 : decode cX10_isRight 132 = .ok (.goto (-127), 3) := by decide +kernel
theorem dX10_isRight_135 : decode cX10_isRight 135 = .ok (.aload_n 0, 1) := by decide +kernel
theorem dX10_isRight_136 : decode cX10_isRight 136 = .ok (.iconst 1, 1) := by decide +kernel
theorem dX10_isRight_137 : decode cX10_isRight 137 = .ok (.putfield 67, 3) := by decide +kernel
theorem dX10_isRight_140 : decode cX10_isRight 140 = .ok (.aload_n 0, 1) := by decide +kernel
theorem dX10_isRight_141 : decode cX10_isRight 141 = .ok (.getfield 64, 3) := by decide +kernel
theorem dX10_isRight_144 : decode cX10_isRight 144 = .ok (.iconst 4, 1) := by decide +kernel
theorem dX10_isRight_145 : decode cX10_isRight 145 = .ok (.irem, 1) := by decide +kernel
theorem dX10_isRight_146 : decode cX10_isRight 146 = .ok (.iconst 3, 1) := by decide +kernel
theorem dX10_isRight_147 : decode cX10_isRight 147 = .ok (.if_icmp .ne 7, 3) := by decide +kernel
theorem dX10_isRight_150 : decode cX10_isRight 150 = .ok (.iconst 1, 1) := by decide +kernel
theorem dX10_isRight_151 : decode cX10_isRight 151 = .ok (.goto 4, 3) := by decide +kernel
theorem dX10_isRight_154 : decode cX10_isRight 154 = .ok (.iconst 0, 1) := by decide +kernel
theorem dX10_isRight_155 : decode cX10_isRight 155 = .ok (.ireturn, 1) := by decide +kernel
theorem dX10_meant_0 : decode cX10_meant 0 = .ok (.iload_n 2, 1) := by decide +kernel
theorem dX10_meant_1 : decode cX10_meant 1 = .ok (.ifCond .eq 17, 3) := by decide +kernel
theorem dX10_meant_4 : decode cX10_meant 4 = .ok (.aload_n 0, 1) := by decide +kernel
theorem dX10_meant_5 : decode cX10_meant 5 = .ok (.getfield 16, 3) := by decide +kernel
theorem dX10_meant_8 : decode cX10_meant 8 = .ok (.iconst 4, 1) := by decide +kernel
theorem dX10_meant_9 : decode cX10_meant 9 = .ok (.iload_n 1, 1) := by decide +kernel
theorem dX10_meant_10 : decode cX10_meant 10 = .ok (.imul, 1) := by decide +kernel
theorem dX10_meant_11 : decode cX10_meant 11 = .ok (.iaload, 1) := by decide +kernel
theorem dX10_meant_12 : decode cX10_meant 12 = .ok (.bipush 97, 2) := by decide +kernel
theorem dX10_meant_14 : decode cX10_meant 14 = .ok (.isub, 1) := by decide +kernel
theorem dX10_meant_15 : decode cX10_meant 15 = .ok (.goto 42, 3) := by decide +kernel
theorem dX10_meant_18 : decode cX10_meant 18 = .ok (.aload_n 0, 1) := by decide +kernel
theorem dX10_meant_19 : decode cX10_meant 19 = .ok (.getfield 16, 3) := by decide +kernel
theorem dX10_meant_22 : decode cX10_meant 22 = .ok (.iconst 4, 1) := by decide +kernel
theorem dX10_meant_23 : decode cX10_meant 23 = .ok (.iload_n 1, 1) := by decide +kernel
theorem dX10_meant_24 : decode cX10_meant 24 = .ok (.imul, 1) := by decide +kernel
theorem dX10_meant_25 : decode cX10_meant 25 = .ok (.iconst 1, 1) := by decide +kernel
theorem dX10_meant_26 : decode cX10_meant 26 = .ok (.iadd, 1) := by decide +kernel
theorem dX10_meant_27 : decode cX10_meant 27 = .ok (.iaload, 1) := by decide +kernel
theorem dX10_meant_28 : decode cX10_meant 28 = .ok (.bipush 61, 2) := by decide +kernel
theorem dX10_meant_30 : decode cX10_meant 30 = .ok (.if_icmp .ne 7, 3) := by decide +kernel
theorem dX10_meant_33 : decode cX10_meant 33 = .ok (.iconst 0, 1) := by decide +kernel
theorem dX10_meant_34 : decode cX10_meant 34 = .ok (.goto 23, 3) := by decide +kernel
theorem dX10_meant_37 : decode cX10_meant 37 = .ok (.aload_n 0, 1) := by decide +kernel
theorem dX10_meant_38 : decode cX10_meant 38 = .ok (.getfield 16, 3) := by decide +kernel
theorem dX10_meant_41 : decode cX10_meant 41 = .ok (.iconst 4, 1) := by decide +kernel
theorem dX10_meant_42 : decode cX10_meant 42 = .ok (.iload_n 1, 1) := by decide +kernel
theorem dX10_meant_43 : decode cX10_meant 43 = .ok (.imul, 1) := by decide +kernel
theorem dX10_meant_44 : decode cX10_meant 44 = .ok (.iconst 1, 1) := by decide +kernel
theorem dX10_meant_45 : decode cX10_meant 45 = .ok (.iadd, 1) := by decide +kernel
theorem dX10_meant_46 : decode cX10_meant 46 = .ok (.iaload, 1) := by decide +kernel
theorem dX10_meant_47 : decode cX10_meant 47 = .ok (.bipush 60, 2) := by decide +kernel
theorem dX10_meant_49 : decode cX10_meant 49 = .ok (.if_icmp .ne 7, 3) := by decide +kernel
theorem dX10_meant_52 : decode cX10_meant 52 = .ok (.iconst 1, 1) := by decide +kernel
theorem dX10_meant_53 : decode cX10_meant 53 = .ok (.goto 4, 3) := by decide +kernel
theorem dX10_meant_56 : decode cX10_meant 56 = .ok (.iconst 2, 1) := by decide +kernel
theorem dX10_meant_57 : decode cX10_meant 57 = .ok (.ireturn, 1) := by decide +kernel
theorem dX10_isText_0 : decode cX10_isText 0 = .ok (.aload_n 0, 1) := by decide +kernel
theorem dX10_isText_1 : decode cX10_isText 1 = .ok (.iload_n 1, 1) := by decide +kernel
theorem dX10_isText_2 : decode cX10_isText 2 = .ok (.invokevirtual 70, 3) := by decide +kernel
theorem dX10_isText_5 : decode cX10_isText 5 = .ok (.aload_n 0, 1) := by decide +kernel
theorem dX10_isText_6 : decode cX10_isText 6 = .ok (.getfield 64, 3) := by decide +kernel
theorem dX10_isText_9 : decode cX10_isText 9 = .ok (.iconst 1, 1) := by decide +kernel
theorem dX10_isText_10 : decode cX10_isText 10 = .ok (.iadd, 1) := by decide +kernel
theorem dX10_isText_11 : decode cX10_isText 11 = .ok (.iconst 4, 1) := by decide +kernel
theorem dX10_isText_12 : decode cX10_isText 12 = .ok (.idiv, 1) := by decide +kernel
theorem dX10_isText_13 : decode cX10_isText 13 = .ok (.if_icmp .ne 7, 3) := by decide +kernel
theorem dX10_isText_16 : decode cX10_isText 16 = .ok (.iconst 1, 1) := by decide +kernel
theorem dX10_isText_17 : decode cX10_isText 17 = .ok (.goto 4, 3) := by decide +kernel
theorem dX10_isText_20 : decode cX10_isText 20 = .ok (.iconst 0, 1) := by decide +kernel
theorem dX10_isText_21 : decode cX10_isText 21 = .ok (.istore_n 2, 1) := by decide +kernel
theorem dX10_isText_22 : decode cX10_isText 22 = .ok (.iconst 0, 1) := by decide +kernel
theorem dX10_isText_23 : decode cX10_isText 23 = .ok (.istore_n 3, 1) := by decide +kernel
theorem dX10_isText_24 : decode cX10_isText 24 = .ok (.iload_n 3, 1) := by decide +kernel
theorem dX10_isText_25 : decode cX10_isText 25 = .ok (.aload_n 0, 1) := by decide +kernel
theorem dX10_isText_26 : decode cX10_isText 26 = .ok (.iload_n 1, 1) := by decide +kernel
theorem dX10_isText_27 : decode cX10_isText 27 = .ok (.invokevirtual 70, 3) := by decide +kernel
theorem dX10_isText_30 : decode cX10_isText 30 = .ok (.if_icmp .ge 49, 3) := by decide +kernel
theorem dX10_isText_33 : decode cX10_isText 33 = .ok (.iload_n 2, 1) := by decide +kernel
theorem dX10_isText_34 : decode cX10_isText 34 = .ok (.ifCond .eq 45, 3) := by decide +kernel
theorem dX10_isText_37 : decode cX10_isText 37 = .ok (.aload_n 0, 1) := by decide +kernel
theorem dX10_isText_38 : decode cX10_isText 38 = .ok (.iload_n 1, 1) := by decide +kernel
theorem dX10_isText_39 : decode cX10_isText 39 = .ok (.iload_n 3, 1) := by decide +kernel
theorem dX10_isText_40 : decode cX10_isText 40 = .ok (.invokevirtual 50, 3) := by decide +kernel
theorem dX10_isText_43 : decode cX10_isText 43 = .ok (.aload_n 0, 1) := by decide +kernel
theorem dX10_isText_44 : decode cX10_isText 44 = .ok (.iload_n 3, 1) := by decide +kernel
theorem dX10_isText_45 : decode cX10_isText 45 = .ok (.iconst 1, 1) := by decide +kernel
theorem dX10_isText_46 : decode cX10_isText 46 = .ok (.invokevirtual 74, 3) := by decide +kernel
theorem dX10_isText_49 : decode cX10_isText 49 = .ok (.if_icmp .ne 22, 3) := by decide +kernel
theorem dX10_isText_52 : decode cX10_isText 52 = .ok (.aload_n 0, 1) := by decide +kernel
theorem dX10_isText_53 : decode cX10_isText 53 = .ok (.iload_n 1, 1) := by decide +kernel
theorem dX10_isText_54 : decode cX10_isText 54 = .ok (.iload_n 3, 1) := by decide +kernel
theorem dX10_isText_55 : decode cX10_isText 55 = .ok (.invokevirtual 78, 3) := by decide +kernel
theorem dX10_isText_58 : decode cX10_isText 58 = .ok (.aload_n 0, 1) := by decide +kernel
theorem dX10_isText_59 : decode cX10_isText 59 = .ok (.iload_n 3, 1) := by decide +kernel
theorem dX10_isText_60 : decode cX10_isText 60 = .ok (.iconst 0, 1) := by decide +kernel
theorem dX10_isText_61 : decode cX10_isText 61 = .ok (.invokevirtual 74, 3) := by decide +kernel
theorem dX10_isText_64 : decode cX10_isText 64 = .ok (.if_icmp .ne 7, 3) := by decide +kernel
theorem dX10_isText_67 : decode cX10_isText 67 = .ok (.iconst 1, 1) := by decide +kernel
theorem dX10_isText_68 : decode cX10_isText 68 = .ok (.goto 4, 3) := by decide +kernel
theorem dX10_isText_71 : decode cX10_isText 71 = .ok (.iconst 0, 1) := by decide +kernel
theorem dX10_isText_72 : decode cX10_isText 72 = .ok (.istore_n 2, 1) := by decide +kernel
theorem dX10_isText_73 : decode cX10_isText 73 = .ok (.iinc 3 1, 3) := by decide +kernel
theorem dX10_isText_76 : decode cX10_isText 76 = .ok (.goto (-52), 3) := by decide +kernel
theorem dX10_isText_79 : decode cX10_isText 79 = .ok (.iload_n 2, 1) := by decide +kernel
theorem dX10_isText_80 : decode cX10_isText 80 = .ok (.ireturn, 1) := by decide +kernel
theorem dX10_statement_0 : decode cX10_statement 0 = .ok (.aload_n 0, 1) := by decide +kernel
theorem dX10_statement_1 : decode cX10_statement 1 = .ok (.invokevirtual 81, 3) := by decide +kernel
theorem dX10_statement_4 : decode cX10_statement 4 = .ok (.ifCond .ne 6, 3) := by decide +kernel
theorem dX10_statement_7 : decode cX10_statement 7 = .ok (.bipush (-2), 2) := by decide +kernel
theorem dX10_statement_9 : decode cX10_statement 9 = .ok (.ireturn, 1) := by decide +kernel
theorem dX10_statement_10 : decode cX10_statement 10 = .ok (.iconst 0, 1) := by decide +kernel
theorem dX10_statement_11 : decode cX10_statement 11 = .ok (.istore_n 1, 1) := by decide +kernel
theorem dX10_statement_12 : decode cX10_statement 12 = .ok (.iload_n 1, 1) := by decide +kernel
theorem dX10_statement_13 : decode cX10_statement 13 = .ok (.aload_n 0, 1) := by decide +kernel
theorem dX10_statement_14 : decode cX10_statement 14 = .ok (.getfield 7, 3) := by decide +kernel
theorem dX10_statement_17 : decode cX10_statement 17 = .ok (.iconst 3, 1) := by decide +kernel
theorem dX10_statement_18 : decode cX10_statement 18 = .ok (.iaload, 1) := by decide +kernel
theorem dX10_statement_19 : decode cX10_statement 19 = .ok (.if_icmp .ge 23, 3) := by decide +kernel
theorem dX10_statement_22 : decode cX10_statement 22 = .ok (.aload_n 0, 1) := by decide +kernel
theorem dX10_statement_23 : decode cX10_statement 23 = .ok (.iload_n 1, 1) := by decide +kernel
theorem dX10_statement_24 : decode cX10_statement 24 = .ok (.invokevirtual 85, 3) := by decide +kernel
theorem dX10_statement_27 : decode cX10_statement 27 = .ok (.ifCond .eq 9, 3) := by decide +kernel
theorem dX10_statement_30 : decode cX10_statement 30 = .ok (.aload_n 0, 1) := by decide +kernel
theorem dX10_statement_31 : decode cX10_statement 31 = .ok (.invokevirtual 34, 3) := by decide +kernel
theorem dX10_statement_34 : decode cX10_statement 34 = .ok (.iload_n 1, 1) := by decide +kernel
theorem dX10_statement_35 : decode cX10_statement 35 = .ok (.ireturn, 1) := by decide +kernel
theorem dX10_statement_36 : decode cX10_statement 36 = .ok (.iinc 1 1, 3) := by decide +kernel
theorem dX10_statement_39 : decode cX10_statement 39 = .ok (.goto (-27), 3) := by decide +kernel
theorem dX10_statement_42 : decode cX10_statement 42 = .ok (.aload_n 0, 1) := by decide +kernel
theorem dX10_statement_43 : decode cX10_statement 43 = .ok (.getfield 7, 3) := by decide +kernel
theorem dX10_statement_46 : decode cX10_statement 46 = .ok (.iconst 3, 1) := by decide +kernel
theorem dX10_statement_47 : decode cX10_statement 47 = .ok (.iaload, 1) := by decide +kernel
theorem dX10_statement_48 : decode cX10_statement 48 = .ok (.istore_n 1, 1) := by decide +kernel
theorem dX10_statement_49 : decode cX10_statement 49 = .ok (.iload_n 1, 1) := by decide +kernel
theorem dX10_statement_50 : decode cX10_statement 50 = .ok (.bipush 6, 2) := by decide +kernel
theorem dX10_statement_52 : decode cX10_statement 52 = .ok (.if_icmp .ne 6, 3) := by decide +kernel
theorem dX10_statement_55 : decode cX10_statement 55 = .ok (.bipush (-3), 2) := by decide +kernel
theorem dX10_statement_57 : decode cX10_statement 57 = .ok (.ireturn, 1) := by decide +kernel
theorem dX10_statement_58 : decode cX10_statement 58 = .ok (.aload_n 0, 1) := by decide +kernel
theorem dX10_statement_59 : decode cX10_statement 59 = .ok (.invokevirtual 34, 3) := by decide +kernel
theorem dX10_statement_62 : decode cX10_statement 62 = .ok (.sipush 307, 3) := by decide +kernel
theorem dX10_statement_65 : decode cX10_statement 65 = .ok (.bipush 10, 2) := by decide +kernel
theorem dX10_statement_67 : decode cX10_statement 67 = .ok (.iload_n 1, 1) := by decide +kernel
theorem dX10_statement_68 : decode cX10_statement 68 = .ok (.imul, 1) := by decide +kernel
theorem dX10_statement_69 : decode cX10_statement 69 = .ok (.iadd, 1) := by decide +kernel
theorem dX10_statement_70 : decode cX10_statement 70 = .ok (.istore_n 2, 1) := by decide +kernel
theorem dX10_statement_71 : decode cX10_statement 71 = .ok (.aload_n 0, 1) := by decide +kernel
theorem dX10_statement_72 : decode cX10_statement 72 = .ok (.getfield 7, 3) := by decide +kernel
theorem dX10_statement_75 : decode cX10_statement 75 = .ok (.iload_n 2, 1) := by decide +kernel
theorem dX10_statement_76 : decode cX10_statement 76 = .ok (.aload_n 0, 1) := by decide +kernel
theorem dX10_statement_77 : decode cX10_statement 77 = .ok (.getfield 64, 3) := by decide +kernel
theorem dX10_statement_80 : decode cX10_statement 80 = .ok (.iconst 1, 1) := by decide +kernel
theorem dX10_statement_81 : decode cX10_statement 81 = .ok (.iadd, 1) := by decide +kernel
theorem dX10_statement_82 : decode cX10_statement 82 = .ok (.iconst 4, 1) := by decide +kernel
theorem dX10_statement_83 : decode cX10_statement 83 = .ok (.idiv, 1) := by decide +kernel
theorem dX10_statement_84 : decode cX10_statement 84 = .ok (.iastore, 1) := by decide +kernel
theorem dX10_statement_85 : decode cX10_statement 85 = .ok (.iconst 0, 1) := by decide +kernel
theorem dX10_statement_86 : decode cX10_statement 86 = .ok (.istore_n 3, 1) := by decide +kernel
theorem dX10_statement_87 : decode cX10_statement 87 = .ok (.iload_n 3, 1) := by decide +kernel
theorem dX10_statement_88 : decode cX10_statement 88 = .ok (.iconst 4, 1) := by decide +kernel
theorem dX10_statement_89 : decode cX10_statement 89 = .ok (.if_icmp .ge 69, 3) := by decide +kernel
theorem dX10_statement_92 : decode cX10_statement 92 = .ok (.aload_n 0, 1) := by decide +kernel
theorem dX10_statement_93 : decode cX10_statement 93 = .ok (.getfield 7, 3) := by decide +kernel
theorem dX10_statement_96 : decode cX10_statement 96 = .ok (.iload_n 2, 1) := by decide +kernel
theorem dX10_statement_97 : decode cX10_statement 97 = .ok (.iconst 1, 1) := by decide +kernel
theorem dX10_statement_98 : decode cX10_statement 98 = .ok (.iadd, 1) := by decide +kernel
theorem dX10_statement_99 : decode cX10_statement 99 = .ok (.iload_n 3, 1) := by decide +kernel
theorem dX10_statement_100 : decode cX10_statement 100 = .ok (.iadd, 1) := by decide +kernel
theorem dX10_statement_101 : decode cX10_statement 101 = .ok (.iload_n 3, 1) := by decide +kernel
theorem dX10_statement_102 : decode cX10_statement 102 = .ok (.aload_n 0, 1) := by decide +kernel
theorem dX10_statement_103 : decode cX10_statement 103 = .ok (.getfield 7, 3) := by decide +kernel
theorem dX10_statement_106 : decode cX10_statement 106 = .ok (.iload_n 2, 1) := by decide +kernel
theorem dX10_statement_107 : decode cX10_statement 107 = .ok (.iaload, 1) := by decide +kernel
theorem dX10_statement_108 : decode cX10_statement 108 = .ok (.if_icmp .ge 12, 3) := by decide +kernel
theorem dX10_statement_111 : decode cX10_statement 111 = .ok (.aload_n 0, 1) := by decide +kernel
theorem dX10_statement_112 : decode cX10_statement 112 = .ok (.iload_n 3, 1) := by decide +kernel
theorem dX10_statement_113 : decode cX10_statement 113 = .ok (.iconst 1, 1) := by decide +kernel
theorem dX10_statement_114 : decode cX10_statement 114 = .ok (.invokevirtual 74, 3) := by decide +kernel
theorem dX10_statement_117 : decode cX10_statement 117 = .ok (.goto 4, 3) := by decide +kernel
theorem dX10_statement_120 : decode cX10_statement 120 = .ok (.iconst 0, 1) := by decide +kernel
theorem dX10_statement_121 : decode cX10_statement 121 = .ok (.iastore, 1) := by decide +kernel
theorem dX10_statement_122 : decode cX10_statement 122 = .ok (.aload_n 0, 1) := by decide +kernel
theorem dX10_statement_123 : decode cX10_statement 123 = .ok (.getfield 7, 3) := by decide +kernel
theorem dX10_statement_126 : decode cX10_statement 126 = .ok (.iload_n 2, 1) := by decide +kernel
theorem dX10_statement_127 : decode cX10_statement 127 = .ok (.iconst 5, 1) := by decide +kernel
theorem dX10_statement_128 : decode cX10_statement 128 = .ok (.iadd, 1) := by decide +kernel
theorem dX10_statement_129 : decode cX10_statement 129 = .ok (.iload_n 3, 1) := by decide +kernel
theorem dX10_statement_130 : decode cX10_statement 130 = .ok (.iadd, 1) := by decide +kernel
theorem dX10_statement_131 : decode cX10_statement 131 = .ok (.iload_n 3, 1) := by decide +kernel
theorem dX10_statement_132 : decode cX10_statement 132 = .ok (.aload_n 0, 1) := by decide +kernel
theorem dX10_statement_133 : decode cX10_statement 133 = .ok (.getfield 7, 3) := by decide +kernel
theorem dX10_statement_136 : decode cX10_statement 136 = .ok (.iload_n 2, 1) := by decide +kernel
theorem dX10_statement_137 : decode cX10_statement 137 = .ok (.iaload, 1) := by decide +kernel
theorem dX10_statement_138 : decode cX10_statement 138 = .ok (.if_icmp .ge 12, 3) := by decide +kernel
theorem dX10_statement_141 : decode cX10_statement 141 = .ok (.aload_n 0, 1) := by decide +kernel
theorem dX10_statement_142 : decode cX10_statement 142 = .ok (.iload_n 3, 1) := by decide +kernel
theorem dX10_statement_143 : decode cX10_statement 143 = .ok (.iconst 0, 1) := by decide +kernel
theorem dX10_statement_144 : decode cX10_statement 144 = .ok (.invokevirtual 74, 3) := by decide +kernel
theorem dX10_statement_147 : decode cX10_statement 147 = .ok (.goto 4, 3) := by decide +kernel
theorem dX10_statement_150 : decode cX10_statement 150 = .ok (.iconst 0, 1) := by decide +kernel
theorem dX10_statement_151 : decode cX10_statement 151 = .ok (.iastore, 1) := by decide +kernel
theorem dX10_statement_152 : decode cX10_statement 152 = .ok (.iinc 3 1, 3) := by decide +kernel
theorem dX10_statement_155 : decode cX10_statement 155 = .ok (.goto (-68), 3) := by decide +kernel
theorem dX10_statement_158 : decode cX10_statement 158 = .ok (.aload_n 0, 1) := by decide +kernel
theorem dX10_statement_159 : decode cX10_statement 159 = .ok (.getfield 7, 3) := by decide +kernel
theorem dX10_statement_162 : decode cX10_statement 162 = .ok (.iload_n 2, 1) := by decide +kernel
theorem dX10_statement_163 : decode cX10_statement 163 = .ok (.bipush 9, 2) := by decide +kernel
theorem dX10_statement_165 : decode cX10_statement 165 = .ok (.iadd, 1) := by decide +kernel
theorem dX10_statement_166 : decode cX10_statement 166 = .ok (.iconst 0, 1) := by decide +kernel
theorem dX10_statement_167 : decode cX10_statement 167 = .ok (.iastore, 1) := by decide +kernel
theorem dX10_statement_168 : decode cX10_statement 168 = .ok (.aload_n 0, 1) := by decide +kernel
theorem dX10_statement_169 : decode cX10_statement 169 = .ok (.getfield 7, 3) := by decide +kernel
theorem dX10_statement_172 : decode cX10_statement 172 = .ok (.iconst 3, 1) := by decide +kernel
theorem dX10_statement_173 : decode cX10_statement 173 = .ok (.dup2, 1) := by decide +kernel
theorem dX10_statement_174 : decode cX10_statement 174 = .ok (.iaload, 1) := by decide +kernel
theorem dX10_statement_175 : decode cX10_statement 175 = .ok (.iconst 1, 1) := by decide +kernel
theorem dX10_statement_176 : decode cX10_statement 176 = .ok (.iadd, 1) := by decide +kernel
theorem dX10_statement_177 : decode cX10_statement 177 = .ok (.iastore, 1) := by decide +kernel
theorem dX10_statement_178 : decode cX10_statement 178 = .ok (.iload_n 1, 1) := by decide +kernel
theorem dX10_statement_179 : decode cX10_statement 179 = .ok (.ireturn, 1) := by decide +kernel
theorem dX10_plansOf_0 : decode cX10_plansOf 0 = .ok (.iconst 0, 1) := by decide +kernel
theorem dX10_plansOf_1 : decode cX10_plansOf 1 = .ok (.istore_n 2, 1) := by decide +kernel
theorem dX10_plansOf_2 : decode cX10_plansOf 2 = .ok (.iconst 0, 1) := by decide +kernel
theorem dX10_plansOf_3 : decode cX10_plansOf 3 = .ok (.istore_n 3, 1) := by decide +kernel
theorem dX10_plansOf_4 : decode cX10_plansOf 4 = .ok (.iload_n 3, 1) := by decide +kernel
theorem dX10_plansOf_5 : decode cX10_plansOf 5 = .ok (.aload_n 0, 1) := by decide +kernel
theorem dX10_plansOf_6 : decode cX10_plansOf 6 = .ok (.getfield 7, 3) := by decide +kernel
theorem dX10_plansOf_9 : decode cX10_plansOf 9 = .ok (.iconst 4, 1) := by decide +kernel
theorem dX10_plansOf_10 : decode cX10_plansOf 10 = .ok (.iaload, 1) := by decide +kernel
theorem dX10_plansOf_11 : decode cX10_plansOf 11 = .ok (.if_icmp .ge 27, 3) := by decide +kernel
theorem dX10_plansOf_14 : decode cX10_plansOf 14 = .ok (.iload_n 2, 1) := by decide +kernel
theorem dX10_plansOf_15 : decode cX10_plansOf 15 = .ok (.aload_n 0, 1) := by decide +kernel
theorem dX10_plansOf_16 : decode cX10_plansOf 16 = .ok (.iload_n 3, 1) := by decide +kernel
theorem dX10_plansOf_17 : decode cX10_plansOf 17 = .ok (.iconst 1, 1) := by decide +kernel
theorem dX10_plansOf_18 : decode cX10_plansOf 18 = .ok (.invokevirtual 47, 3) := by decide +kernel
theorem dX10_plansOf_21 : decode cX10_plansOf 21 = .ok (.iload_n 1, 1) := by decide +kernel
theorem dX10_plansOf_22 : decode cX10_plansOf 22 = .ok (.if_icmp .ne 7, 3) := by decide +kernel
theorem dX10_plansOf_25 : decode cX10_plansOf 25 = .ok (.iconst 1, 1) := by decide +kernel
theorem dX10_plansOf_26 : decode cX10_plansOf 26 = .ok (.goto 4, 3) := by decide +kernel
theorem dX10_plansOf_29 : decode cX10_plansOf 29 = .ok (.iconst 0, 1) := by decide +kernel
theorem dX10_plansOf_30 : decode cX10_plansOf 30 = .ok (.iadd, 1) := by decide +kernel
theorem dX10_plansOf_31 : decode cX10_plansOf 31 = .ok (.istore_n 2, 1) := by decide +kernel
theorem dX10_plansOf_32 : decode cX10_plansOf 32 = .ok (.iinc 3 1, 3) := by decide +kernel
theorem dX10_plansOf_35 : decode cX10_plansOf 35 = .ok (.goto (-31), 3) := by decide +kernel
theorem dX10_plansOf_38 : decode cX10_plansOf 38 = .ok (.iload_n 2, 1) := by decide +kernel
theorem dX10_plansOf_39 : decode cX10_plansOf 39 = .ok (.ireturn, 1) := by decide +kernel
theorem dX10_statementOf_0 : decode cX10_statementOf 0 = .ok (.aload_n 0, 1) := by decide +kernel
theorem dX10_statementOf_1 : decode cX10_statementOf 1 = .ok (.iload_n 1, 1) := by decide +kernel
theorem dX10_statementOf_2 : decode cX10_statementOf 2 = .ok (.invokevirtual 88, 3) := by decide +kernel
theorem dX10_statementOf_5 : decode cX10_statementOf 5 = .ok (.ifCond .ne 5, 3) := by decide +kernel
theorem dX10_statementOf_8 : decode cX10_statementOf 8 = .ok (.iconst (-1), 1) := by decide +kernel
theorem dX10_statementOf_9 : decode cX10_statementOf 9 = .ok (.ireturn, 1) := by decide +kernel
theorem dX10_statementOf_10 : decode cX10_statementOf 10 = .ok (.iload_n 2, 1) := by decide +kernel
theorem dX10_statementOf_11 : decode cX10_statementOf 11 = .ok (.iconst 0, 1) := by decide +kernel
theorem dX10_statementOf_12 : decode cX10_statementOf 12 = .ok (.iconst 2, 1) := by decide +kernel
theorem dX10_statementOf_13 : decode cX10_statementOf 13 = .ok (.invokestatic 26, 3) := by decide +kernel
theorem dX10_statementOf_16 : decode cX10_statementOf 16 = .ok (.ifCond .eq 45, 3) := by decide +kernel
theorem dX10_statementOf_19 : decode cX10_statementOf 19 = .ok (.iload_n 2, 1) := by decide +kernel
theorem dX10_statementOf_20 : decode cX10_statementOf 20 = .ok (.ifCond .ne 11, 3) := by decide +kernel
theorem dX10_statementOf_23 : decode cX10_statementOf 23 = .ok (.aload_n 0, 1) := by decide +kernel
theorem dX10_statementOf_24 : decode cX10_statementOf 24 = .ok (.iload_n 1, 1) := by decide +kernel
theorem dX10_statementOf_25 : decode cX10_statementOf 25 = .ok (.invokevirtual 70, 3) := by decide +kernel
theorem dX10_statementOf_28 : decode cX10_statementOf 28 = .ok (.goto 32, 3) := by decide +kernel
theorem dX10_statementOf_31 : decode cX10_statementOf 31 = .ok (.iload_n 2, 1) := by decide +kernel
theorem dX10_statementOf_32 : decode cX10_statementOf 32 = .ok (.iconst 1, 1) := by decide +kernel
theorem dX10_statementOf_33 : decode cX10_statementOf 33 = .ok (.if_icmp .ne 11, 3) := by decide +kernel
theorem dX10_statementOf_36 : decode cX10_statementOf 36 = .ok (.aload_n 0, 1) := by decide +kernel
theorem dX10_statementOf_37 : decode cX10_statementOf 37 = .ok (.iload_n 1, 1) := by decide +kernel
theorem dX10_statementOf_38 : decode cX10_statementOf 38 = .ok (.invokevirtual 91, 3) := by decide +kernel
theorem dX10_statementOf_41 : decode cX10_statementOf 41 = .ok (.goto 19, 3) := by decide +kernel
theorem dX10_statementOf_44 : decode cX10_statementOf 44 = .ok (.aload_n 0, 1) := by decide +kernel
theorem dX10_statementOf_45 : decode cX10_statementOf 45 = .ok (.getfield 7, 3) := by decide +kernel
theorem dX10_statementOf_48 : decode cX10_statementOf 48 = .ok (.sipush 307, 3) := by decide +kernel
theorem dX10_statementOf_51 : decode cX10_statementOf 51 = .ok (.bipush 10, 2) := by decide +kernel
theorem dX10_statementOf_53 : decode cX10_statementOf 53 = .ok (.iload_n 1, 1) := by decide +kernel
theorem dX10_statementOf_54 : decode cX10_statementOf 54 = .ok (.imul, 1) := by decide +kernel
theorem dX10_statementOf_55 : decode cX10_statementOf 55 = .ok (.iadd, 1) := by decide +kernel
theorem dX10_statementOf_56 : decode cX10_statementOf 56 = .ok (.bipush 9, 2) := by decide +kernel
theorem dX10_statementOf_58 : decode cX10_statementOf 58 = .ok (.iadd, 1) := by decide +kernel
theorem dX10_statementOf_59 : decode cX10_statementOf 59 = .ok (.iaload, 1) := by decide +kernel
theorem dX10_statementOf_60 : decode cX10_statementOf 60 = .ok (.ireturn, 1) := by decide +kernel
theorem dX10_statementOf_61 : decode cX10_statementOf 61 = .ok (.iload_n 2, 1) := by decide +kernel
theorem dX10_statementOf_62 : decode cX10_statementOf 62 = .ok (.bipush 10, 2) := by decide +kernel
theorem dX10_statementOf_64 : decode cX10_statementOf 64 = .ok (.irem, 1) := by decide +kernel
theorem dX10_statementOf_65 : decode cX10_statementOf 65 = .ok (.istore_n 3, 1) := by decide +kernel
theorem dX10_statementOf_66 : decode cX10_statementOf 66 = .ok (.iload_n 2, 1) := by decide +kernel
theorem dX10_statementOf_67 : decode cX10_statementOf 67 = .ok (.bipush 10, 2) := by decide +kernel
theorem dX10_statementOf_69 : decode cX10_statementOf 69 = .ok (.bipush 29, 2) := by decide +kernel
theorem dX10_statementOf_71 : decode cX10_statementOf 71 = .ok (.invokestatic 26, 3) := by decide +kernel
theorem dX10_statementOf_74 : decode cX10_statementOf 74 = .ok (.ifCond .eq 8, 3) := by decide +kernel
theorem dX10_statementOf_77 : decode cX10_statementOf 77 = .ok (.iload_n 3, 1) := by decide +kernel
theorem dX10_statementOf_78 : decode cX10_statementOf 78 = .ok (.iconst 3, 1) := by decide +kernel
theorem dX10_statementOf_79 : decode cX10_statementOf 79 = .ok (.if_icmp .le 5, 3) := by decide +kernel
theorem dX10_statementOf_82 : decode cX10_statementOf 82 = .ok (.iconst (-1), 1) := by decide +kernel
theorem dX10_statementOf_83 : decode cX10_statementOf 83 = .ok (.ireturn, 1) := by decide +kernel
theorem dX10_statementOf_84 : decode cX10_statementOf 84 = .ok (.iload_n 3, 1) := by decide +kernel
theorem dX10_statementOf_85 : decode cX10_statementOf 85 = .ok (.aload_n 0, 1) := by decide +kernel
theorem dX10_statementOf_86 : decode cX10_statementOf 86 = .ok (.iload_n 1, 1) := by decide +kernel
theorem dX10_statementOf_87 : decode cX10_statementOf 87 = .ok (.invokevirtual 70, 3) := by decide +kernel
theorem dX10_statementOf_90 : decode cX10_statementOf 90 = .ok (.if_icmp .lt 8, 3) := by decide +kernel
theorem dX10_statementOf_93 : decode cX10_statementOf 93 = .ok (.bipush (-4), 2) := by decide +kernel
theorem dX10_statementOf_95 : decode cX10_statementOf 95 = .ok (.goto 24, 3) := by decide +kernel
theorem dX10_statementOf_98 : decode cX10_statementOf 98 = .ok (.iload_n 2, 1) := by decide +kernel
theorem dX10_statementOf_99 : decode cX10_statementOf 99 = .ok (.bipush 20, 2) := by decide +kernel
theorem dX10_statementOf_101 : decode cX10_statementOf 101 = .ok (.if_icmp .ge 12, 3) := by decide +kernel
theorem dX10_statementOf_104 : decode cX10_statementOf 104 = .ok (.aload_n 0, 1) := by decide +kernel
theorem dX10_statementOf_105 : decode cX10_statementOf 105 = .ok (.iload_n 1, 1) := by decide +kernel
theorem dX10_statementOf_106 : decode cX10_statementOf 106 = .ok (.iload_n 3, 1) := by decide +kernel
theorem dX10_statementOf_107 : decode cX10_statementOf 107 = .ok (.invokevirtual 50, 3) := by decide +kernel
theorem dX10_statementOf_110 : decode cX10_statementOf 110 = .ok (.goto 9, 3) := by decide +kernel
theorem dX10_statementOf_113 : decode cX10_statementOf 113 = .ok (.aload_n 0, 1) := by decide +kernel
theorem dX10_statementOf_114 : decode cX10_statementOf 114 = .ok (.iload_n 1, 1) := by decide +kernel
theorem dX10_statementOf_115 : decode cX10_statementOf 115 = .ok (.iload_n 3, 1) := by decide +kernel
theorem dX10_statementOf_116 : decode cX10_statementOf 116 = .ok (.invokevirtual 78, 3) := by decide +kernel
theorem dX10_statementOf_119 : decode cX10_statementOf 119 = .ok (.ireturn, 1) := by decide +kernel
theorem dX10_takes_0 : decode cX10_takes 0 = .ok (.aload_n 0, 1) := by decide +kernel
theorem dX10_takes_1 : decode cX10_takes 1 = .ok (.getfield 19, 3) := by decide +kernel
theorem dX10_takes_4 : decode cX10_takes 4 = .ok (.iconst 0, 1) := by decide +kernel
theorem dX10_takes_5 : decode cX10_takes 5 = .ok (.iload_n 2, 1) := by decide +kernel
theorem dX10_takes_6 : decode cX10_takes 6 = .ok (.iastore, 1) := by decide +kernel
theorem dX10_takes_7 : decode cX10_takes 7 = .ok (.aload_n 0, 1) := by decide +kernel
theorem dX10_takes_8 : decode cX10_takes 8 = .ok (.getfield 19, 3) := by decide +kernel
theorem dX10_takes_11 : decode cX10_takes 11 = .ok (.iconst 1, 1) := by decide +kernel
theorem dX10_takes_12 : decode cX10_takes 12 = .ok (.iload_n 3, 1) := by decide +kernel
theorem dX10_takes_13 : decode cX10_takes 13 = .ok (.iastore, 1) := by decide +kernel
theorem dX10_takes_14 : decode cX10_takes 14 = .ok (.aload_n 0, 1) := by decide +kernel
theorem dX10_takes_15 : decode cX10_takes 15 = .ok (.getfield 19, 3) := by decide +kernel
theorem dX10_takes_18 : decode cX10_takes 18 = .ok (.iconst 2, 1) := by decide +kernel
theorem dX10_takes_19 : decode cX10_takes 19 = .ok (.iload 4, 2) := by decide +kernel
theorem dX10_takes_21 : decode cX10_takes 21 = .ok (.iastore, 1) := by decide +kernel
theorem dX10_takes_22 : decode cX10_takes 22 = .ok (.aload_n 0, 1) := by decide +kernel
theorem dX10_takes_23 : decode cX10_takes 23 = .ok (.getfield 19, 3) := by decide +kernel
theorem dX10_takes_26 : decode cX10_takes 26 = .ok (.iconst 3, 1) := by decide +kernel
theorem dX10_takes_27 : decode cX10_takes 27 = .ok (.iload 5, 2) := by decide +kernel
theorem dX10_takes_29 : decode cX10_takes 29 = .ok (.iastore, 1) := by decide +kernel
theorem dX10_takes_30 : decode cX10_takes 30 = .ok (.aload_n 0, 1) := by decide +kernel
theorem dX10_takes_31 : decode cX10_takes 31 = .ok (.iload_n 1, 1) := by decide +kernel
theorem dX10_takes_32 : decode cX10_takes 32 = .ok (.invokevirtual 88, 3) := by decide +kernel
theorem dX10_takes_35 : decode cX10_takes 35 = .ok (.istore 6, 2) := by decide +kernel
theorem dX10_takes_37 : decode cX10_takes 37 = .ok (.iconst 0, 1) := by decide +kernel
theorem dX10_takes_38 : decode cX10_takes 38 = .ok (.istore 7, 2) := by decide +kernel
theorem dX10_takes_40 : decode cX10_takes 40 = .ok (.iload 7, 2) := by decide +kernel
theorem dX10_takes_42 : decode cX10_takes 42 = .ok (.iconst 4, 1) := by decide +kernel
theorem dX10_takes_43 : decode cX10_takes 43 = .ok (.if_icmp .ge 54, 3) := by decide +kernel
theorem dX10_takes_46 : decode cX10_takes 46 = .ok (.iload 6, 2) := by decide +kernel
theorem dX10_takes_48 : decode cX10_takes 48 = .ok (.ifCond .eq 49, 3) := by decide +kernel
theorem dX10_takes_51 : decode cX10_takes 51 = .ok (.iload 7, 2) := by decide +kernel
theorem dX10_takes_53 : decode cX10_takes 53 = .ok (.aload_n 0, 1) := by decide +kernel
theorem dX10_takes_54 : decode cX10_takes 54 = .ok (.iload_n 1, 1) := by decide +kernel
theorem dX10_takes_55 : decode cX10_takes 55 = .ok (.invokevirtual 70, 3) := by decide +kernel
theorem dX10_takes_58 : decode cX10_takes 58 = .ok (.if_icmp .ge 16, 3) := by decide +kernel
theorem dX10_takes_61 : decode cX10_takes 61 = .ok (.aload_n 0, 1) := by decide +kernel
theorem dX10_takes_62 : decode cX10_takes 62 = .ok (.getfield 19, 3) := by decide +kernel
theorem dX10_takes_65 : decode cX10_takes 65 = .ok (.iload 7, 2) := by decide +kernel
theorem dX10_takes_67 : decode cX10_takes 67 = .ok (.iaload, 1) := by decide +kernel
theorem dX10_takes_68 : decode cX10_takes 68 = .ok (.invokestatic 30, 3) := by decide +kernel
theorem dX10_takes_71 : decode cX10_takes 71 = .ok (.goto 18, 3) := by decide +kernel
theorem dX10_takes_74 : decode cX10_takes 74 = .ok (.aload_n 0, 1) := by decide +kernel
theorem dX10_takes_75 : decode cX10_takes 75 = .ok (.getfield 19, 3) := by decide +kernel
theorem dX10_takes_78 : decode cX10_takes 78 = .ok (.iload 7, 2) := by decide +kernel
theorem dX10_takes_80 : decode cX10_takes 80 = .ok (.iaload, 1) := by decide +kernel
theorem dX10_takes_81 : decode cX10_takes 81 = .ok (.ifCond .ne 7, 3) := by decide +kernel
theorem dX10_takes_84 : decode cX10_takes 84 = .ok (.iconst 1, 1) := by decide +kernel
theorem dX10_takes_85 : decode cX10_takes 85 = .ok (.goto 4, 3) := by decide +kernel
theorem dX10_takes_88 : decode cX10_takes 88 = .ok (.iconst 0, 1) := by decide +kernel
theorem dX10_takes_89 : decode cX10_takes 89 = .ok (.istore 6, 2) := by decide +kernel
theorem dX10_takes_91 : decode cX10_takes 91 = .ok (.iinc 7 1, 3) := by decide +kernel
theorem dX10_takes_94 : decode cX10_takes 94 = .ok (.goto (-54), 3) := by decide +kernel
theorem dX10_takes_97 : decode cX10_takes 97 = .ok (.iload 6, 2) := by decide +kernel
theorem dX10_takes_99 : decode cX10_takes 99 = .ok (.ireturn, 1) := by decide +kernel
theorem dX10_holds_0 : decode cX10_holds 0 = .ok (.aload_n 0, 1) := by decide +kernel
theorem dX10_holds_1 : decode cX10_holds 1 = .ok (.iload_n 1, 1) := by decide +kernel
theorem dX10_holds_2 : decode cX10_holds 2 = .ok (.iload_n 2, 1) := by decide +kernel
theorem dX10_holds_3 : decode cX10_holds 3 = .ok (.invokevirtual 78, 3) := by decide +kernel
theorem dX10_holds_6 : decode cX10_holds 6 = .ok (.istore 4, 2) := by decide +kernel
theorem dX10_holds_8 : decode cX10_holds 8 = .ok (.iload 4, 2) := by decide +kernel
theorem dX10_holds_10 : decode cX10_holds 10 = .ok (.ifCond .ne 21, 3) := by decide +kernel
theorem dX10_holds_13 : decode cX10_holds 13 = .ok (.iload_n 3, 1) := by decide +kernel
theorem dX10_holds_14 : decode cX10_holds 14 = .ok (.aload_n 0, 1) := by decide +kernel
theorem dX10_holds_15 : decode cX10_holds 15 = .ok (.getfield 19, 3) := by decide +kernel
theorem dX10_holds_18 : decode cX10_holds 18 = .ok (.iload_n 2, 1) := by decide +kernel
theorem dX10_holds_19 : decode cX10_holds 19 = .ok (.iaload, 1) := by decide +kernel
theorem dX10_holds_20 : decode cX10_holds 20 = .ok (.if_icmp .ne 7, 3) := by decide +kernel
theorem dX10_holds_23 : decode cX10_holds 23 = .ok (.iconst 1, 1) := by decide +kernel
theorem dX10_holds_24 : decode cX10_holds 24 = .ok (.goto 46, 3) := by decide +kernel
theorem dX10_holds_27 : decode cX10_holds 27 = .ok (.iconst 0, 1) := by decide +kernel
theorem dX10_holds_28 : decode cX10_holds 28 = .ok (.goto 42, 3) := by decide +kernel
theorem dX10_holds_31 : decode cX10_holds 31 = .ok (.iload 4, 2) := by decide +kernel
theorem dX10_holds_33 : decode cX10_holds 33 = .ok (.iconst 1, 1) := by decide +kernel
theorem dX10_holds_34 : decode cX10_holds 34 = .ok (.if_icmp .ne 21, 3) := by decide +kernel
theorem dX10_holds_37 : decode cX10_holds 37 = .ok (.iload_n 3, 1) := by decide +kernel
theorem dX10_holds_38 : decode cX10_holds 38 = .ok (.aload_n 0, 1) := by decide +kernel
theorem dX10_holds_39 : decode cX10_holds 39 = .ok (.getfield 19, 3) := by decide +kernel
theorem dX10_holds_42 : decode cX10_holds 42 = .ok (.iload_n 2, 1) := by decide +kernel
theorem dX10_holds_43 : decode cX10_holds 43 = .ok (.iaload, 1) := by decide +kernel
theorem dX10_holds_44 : decode cX10_holds 44 = .ok (.if_icmp .ge 7, 3) := by decide +kernel
theorem dX10_holds_47 : decode cX10_holds 47 = .ok (.iconst 1, 1) := by decide +kernel
theorem dX10_holds_48 : decode cX10_holds 48 = .ok (.goto 22, 3) := by decide +kernel
theorem dX10_holds_51 : decode cX10_holds 51 = .ok (.iconst 0, 1) := by decide +kernel
theorem dX10_holds_52 : decode cX10_holds 52 = .ok (.goto 18, 3) := by decide +kernel
theorem dX10_holds_55 : decode cX10_holds 55 = .ok (.iload_n 3, 1) := by decide +kernel
theorem dX10_holds_56 : decode cX10_holds 56 = .ok (.aload_n 0, 1) := by decide +kernel
theorem dX10_holds_57 : decode cX10_holds 57 = .ok (.getfield 19, 3) := by decide +kernel
theorem dX10_holds_60 : decode cX10_holds 60 = .ok (.iload_n 2, 1) := by decide +kernel
theorem dX10_holds_61 : decode cX10_holds 61 = .ok (.iaload, 1) := by decide +kernel
theorem dX10_holds_62 : decode cX10_holds 62 = .ok (.if_icmp .le 7, 3) := by decide +kernel
theorem dX10_holds_65 : decode cX10_holds 65 = .ok (.iconst 1, 1) := by decide +kernel
theorem dX10_holds_66 : decode cX10_holds 66 = .ok (.goto 4, 3) := by decide +kernel
theorem dX10_holds_69 : decode cX10_holds 69 = .ok (.iconst 0, 1) := by decide +kernel
theorem dX10_holds_70 : decode cX10_holds 70 = .ok (.ireturn, 1) := by decide +kernel
theorem dX10_weights_0 : decode cX10_weights 0 = .ok (.iconst 0, 1) := by decide +kernel
theorem dX10_weights_1 : decode cX10_weights 1 = .ok (.istore 4, 2) := by decide +kernel
theorem dX10_weights_3 : decode cX10_weights 3 = .ok (.aload_n 0, 1) := by decide +kernel
theorem dX10_weights_4 : decode cX10_weights 4 = .ok (.iload_n 1, 1) := by decide +kernel
theorem dX10_weights_5 : decode cX10_weights 5 = .ok (.iload_n 2, 1) := by decide +kernel
theorem dX10_weights_6 : decode cX10_weights 6 = .ok (.invokevirtual 50, 3) := by decide +kernel
theorem dX10_weights_9 : decode cX10_weights 9 = .ok (.istore 5, 2) := by decide +kernel
theorem dX10_weights_11 : decode cX10_weights 11 = .ok (.iconst 0, 1) := by decide +kernel
theorem dX10_weights_12 : decode cX10_weights 12 = .ok (.istore 6, 2) := by decide +kernel
theorem dX10_weights_14 : decode cX10_weights 14 = .ok (.iload 6, 2) := by decide +kernel
theorem dX10_weights_16 : decode cX10_weights 16 = .ok (.bipush 32, 2) := by decide +kernel
theorem dX10_weights_18 : decode cX10_weights 18 = .ok (.if_icmp .ge 50, 3) := by decide +kernel
theorem dX10_weights_21 : decode cX10_weights 21 = .ok (.iload_n 3, 1) := by decide +kernel
theorem dX10_weights_22 : decode cX10_weights 22 = .ok (.ifCond .ne 46, 3) := by decide +kernel
theorem dX10_weights_25 : decode cX10_weights 25 = .ok (.iload 4, 2) := by decide +kernel
theorem dX10_weights_27 : decode cX10_weights 27 = .ok (.aload_n 0, 1) := by decide +kernel
theorem dX10_weights_28 : decode cX10_weights 28 = .ok (.iload_n 1, 1) := by decide +kernel
theorem dX10_weights_29 : decode cX10_weights 29 = .ok (.iload_n 2, 1) := by decide +kernel
theorem dX10_weights_30 : decode cX10_weights 30 = .ok (.iload 6, 2) := by decide +kernel
theorem dX10_weights_32 : decode cX10_weights 32 = .ok (.invokevirtual 94, 3) := by decide +kernel
theorem dX10_weights_35 : decode cX10_weights 35 = .ok (.ifCond .eq 23, 3) := by decide +kernel
theorem dX10_weights_38 : decode cX10_weights 38 = .ok (.aload_n 0, 1) := by decide +kernel
theorem dX10_weights_39 : decode cX10_weights 39 = .ok (.getfield 7, 3) := by decide +kernel
theorem dX10_weights_42 : decode cX10_weights 42 = .ok (.sipush 179, 3) := by decide +kernel
theorem dX10_weights_45 : decode cX10_weights 45 = .ok (.bipush 32, 2) := by decide +kernel
theorem dX10_weights_47 : decode cX10_weights 47 = .ok (.iload 5, 2) := by decide +kernel
theorem dX10_weights_49 : decode cX10_weights 49 = .ok (.imul, 1) := by decide +kernel
theorem dX10_weights_50 : decode cX10_weights 50 = .ok (.iadd, 1) := by decide +kernel
theorem dX10_weights_51 : decode cX10_weights 51 = .ok (.iload 6, 2) := by decide +kernel
theorem dX10_weights_53 : decode cX10_weights 53 = .ok (.iadd, 1) := by decide +kernel
theorem dX10_weights_54 : decode cX10_weights 54 = .ok (.iaload, 1) := by decide +kernel
theorem dX10_weights_55 : decode cX10_weights 55 = .ok (.goto 4, 3) := by decide +kernel
theorem dX10_weights_58 : decode cX10_weights 58 = .ok (.iconst 0, 1) := by decide +kernel
theorem dX10_weights_59 : decode cX10_weights 59 = .ok (.iadd, 1) := by decide +kernel
theorem dX10_weights_60 : decode cX10_weights 60 = .ok (.istore 4, 2) := by decide +kernel
theorem dX10_weights_62 : decode cX10_weights 62 = .ok (.iinc 6 1, 3) := by decide +kernel
theorem dX10_weights_65 : decode cX10_weights 65 = .ok (.goto (-51), 3) := by decide +kernel
theorem dX10_weights_68 : decode cX10_weights 68 = .ok (.iconst 0, 1) := by decide +kernel
theorem dX10_weights_69 : decode cX10_weights 69 = .ok (.istore 6, 2) := by decide +kernel
theorem dX10_weights_71 : decode cX10_weights 71 = .ok (.iload 6, 2) := by decide +kernel
theorem dX10_weights_73 : decode cX10_weights 73 = .ok (.aload_n 0, 1) := by decide +kernel
theorem dX10_weights_74 : decode cX10_weights 74 = .ok (.getfield 7, 3) := by decide +kernel
theorem dX10_weights_77 : decode cX10_weights 77 = .ok (.iconst 0, 1) := by decide +kernel
theorem dX10_weights_78 : decode cX10_weights 78 = .ok (.iaload, 1) := by decide +kernel
theorem dX10_weights_79 : decode cX10_weights 79 = .ok (.if_icmp .ge 46, 3) := by decide +kernel
theorem dX10_weights_82 : decode cX10_weights 82 = .ok (.iload_n 3, 1) := by decide +kernel
theorem dX10_weights_83 : decode cX10_weights 83 = .ok (.ifCond .eq 42, 3) := by decide +kernel
theorem dX10_weights_86 : decode cX10_weights 86 = .ok (.iload 4, 2) := by decide +kernel
theorem dX10_weights_88 : decode cX10_weights 88 = .ok (.aload_n 0, 1) := by decide +kernel
theorem dX10_weights_89 : decode cX10_weights 89 = .ok (.iload_n 1, 1) := by decide +kernel
theorem dX10_weights_90 : decode cX10_weights 90 = .ok (.iload_n 2, 1) := by decide +kernel
theorem dX10_weights_91 : decode cX10_weights 91 = .ok (.aload_n 0, 1) := by decide +kernel
theorem dX10_weights_92 : decode cX10_weights 92 = .ok (.iload 6, 2) := by decide +kernel
theorem dX10_weights_94 : decode cX10_weights 94 = .ok (.iload 5, 2) := by decide +kernel
theorem dX10_weights_96 : decode cX10_weights 96 = .ok (.invokevirtual 40, 3) := by decide +kernel
theorem dX10_weights_99 : decode cX10_weights 99 = .ok (.invokevirtual 94, 3) := by decide +kernel
theorem dX10_weights_102 : decode cX10_weights 102 = .ok (.ifCond .eq 13, 3) := by decide +kernel
theorem dX10_weights_105 : decode cX10_weights 105 = .ok (.aload_n 0, 1) := by decide +kernel
theorem dX10_weights_106 : decode cX10_weights 106 = .ok (.iload 6, 2) := by decide +kernel
theorem dX10_weights_108 : decode cX10_weights 108 = .ok (.iconst 4, 1) := by decide +kernel
theorem dX10_weights_109 : decode cX10_weights 109 = .ok (.invokevirtual 40, 3) := by decide +kernel
theorem dX10_weights_112 : decode cX10_weights 112 = .ok (.goto 4, 3) := by decide +kernel
theorem dX10_weights_115 : decode cX10_weights 115 = .ok (.iconst 0, 1) := by decide +kernel
theorem dX10_weights_116 : decode cX10_weights 116 = .ok (.iadd, 1) := by decide +kernel
theorem dX10_weights_117 : decode cX10_weights 117 = .ok (.istore 4, 2) := by decide +kernel
theorem dX10_weights_119 : decode cX10_weights 119 = .ok (.iinc 6 1, 3) := by decide +kernel
theorem dX10_weights_122 : decode cX10_weights 122 = .ok (.goto (-51), 3) := by decide +kernel
theorem dX10_weights_125 : decode cX10_weights 125 = .ok (.iload 4, 2) := by decide +kernel
theorem dX10_weights_127 : decode cX10_weights 127 = .ok (.ireturn, 1) := by decide +kernel
theorem dX10_cost_0 : decode cX10_cost 0 = .ok (.iload_n 2, 1) := by decide +kernel
theorem dX10_cost_1 : decode cX10_cost 1 = .ok (.bipush 9, 2) := by decide +kernel
theorem dX10_cost_3 : decode cX10_cost 3 = .ok (.if_icmp .ne 23, 3) := by decide +kernel
theorem dX10_cost_6 : decode cX10_cost 6 = .ok (.iload_n 3, 1) := by decide +kernel
theorem dX10_cost_7 : decode cX10_cost 7 = .ok (.ifCond .eq 10, 3) := by decide +kernel
theorem dX10_cost_10 : decode cX10_cost 10 = .ok (.aload_n 0, 1) := by decide +kernel
theorem dX10_cost_11 : decode cX10_cost 11 = .ok (.invokevirtual 57, 3) := by decide +kernel
theorem dX10_cost_14 : decode cX10_cost 14 = .ok (.goto 22, 3) := by decide +kernel
theorem dX10_cost_17 : decode cX10_cost 17 = .ok (.aload_n 0, 1) := by decide +kernel
theorem dX10_cost_18 : decode cX10_cost 18 = .ok (.getfield 7, 3) := by decide +kernel
theorem dX10_cost_21 : decode cX10_cost 21 = .ok (.iconst 2, 1) := by decide +kernel
theorem dX10_cost_22 : decode cX10_cost 22 = .ok (.iaload, 1) := by decide +kernel
theorem dX10_cost_23 : decode cX10_cost 23 = .ok (.goto 13, 3) := by decide +kernel
theorem dX10_cost_26 : decode cX10_cost 26 = .ok (.bipush 10, 2) := by decide +kernel
theorem dX10_cost_28 : decode cX10_cost 28 = .ok (.aload_n 0, 1) := by decide +kernel
theorem dX10_cost_29 : decode cX10_cost 29 = .ok (.iload_n 1, 1) := by decide +kernel
theorem dX10_cost_30 : decode cX10_cost 30 = .ok (.iload_n 2, 1) := by decide +kernel
theorem dX10_cost_31 : decode cX10_cost 31 = .ok (.iload_n 3, 1) := by decide +kernel
theorem dX10_cost_32 : decode cX10_cost 32 = .ok (.invokevirtual 97, 3) := by decide +kernel
theorem dX10_cost_35 : decode cX10_cost 35 = .ok (.iadd, 1) := by decide +kernel
theorem dX10_cost_36 : decode cX10_cost 36 = .ok (.ireturn, 1) := by decide +kernel
theorem dX10_bestWay_0 : decode cX10_bestWay 0 = .ok (.bipush 9, 2) := by decide +kernel
theorem dX10_bestWay_2 : decode cX10_bestWay 2 = .ok (.istore_n 3, 1) := by decide +kernel
theorem dX10_bestWay_3 : decode cX10_bestWay 3 = .ok (.aload_n 0, 1) := by decide +kernel
theorem dX10_bestWay_4 : decode cX10_bestWay 4 = .ok (.iload_n 1, 1) := by decide +kernel
theorem dX10_bestWay_5 : decode cX10_bestWay 5 = .ok (.invokevirtual 70, 3) := by decide +kernel
theorem dX10_bestWay_8 : decode cX10_bestWay 8 = .ok (.iconst 1, 1) := by decide +kernel
theorem dX10_bestWay_9 : decode cX10_bestWay 9 = .ok (.isub, 1) := by decide +kernel
theorem dX10_bestWay_10 : decode cX10_bestWay 10 = .ok (.istore 4, 2) := by decide +kernel
theorem dX10_bestWay_12 : decode cX10_bestWay 12 = .ok (.iload 4, 2) := by decide +kernel
theorem dX10_bestWay_14 : decode cX10_bestWay 14 = .ok (.ifCond .lt 48, 3) := by decide +kernel
theorem dX10_bestWay_17 : decode cX10_bestWay 17 = .ok (.aload_n 0, 1) := by decide +kernel
theorem dX10_bestWay_18 : decode cX10_bestWay 18 = .ok (.aload_n 0, 1) := by decide +kernel
theorem dX10_bestWay_19 : decode cX10_bestWay 19 = .ok (.iload_n 1, 1) := by decide +kernel
theorem dX10_bestWay_20 : decode cX10_bestWay 20 = .ok (.iload 4, 2) := by decide +kernel
theorem dX10_bestWay_22 : decode cX10_bestWay 22 = .ok (.invokevirtual 50, 3) := by decide +kernel
theorem dX10_bestWay_25 : decode cX10_bestWay 25 = .ok (.invokevirtual 44, 3) := by decide +kernel
theorem dX10_bestWay_28 : decode cX10_bestWay 28 = .ok (.ifCond .eq 26, 3) := by decide +kernel
theorem dX10_bestWay_31 : decode cX10_bestWay 31 = .ok (.aload_n 0, 1) := by decide +kernel
theorem dX10_bestWay_32 : decode cX10_bestWay 32 = .ok (.iload_n 1, 1) := by decide +kernel
theorem dX10_bestWay_33 : decode cX10_bestWay 33 = .ok (.iload 4, 2) := by decide +kernel
theorem dX10_bestWay_35 : decode cX10_bestWay 35 = .ok (.iload_n 2, 1) := by decide +kernel
theorem dX10_bestWay_36 : decode cX10_bestWay 36 = .ok (.invokevirtual 101, 3) := by decide +kernel
theorem dX10_bestWay_39 : decode cX10_bestWay 39 = .ok (.aload_n 0, 1) := by decide +kernel
theorem dX10_bestWay_40 : decode cX10_bestWay 40 = .ok (.iload_n 1, 1) := by decide +kernel
theorem dX10_bestWay_41 : decode cX10_bestWay 41 = .ok (.iload_n 3, 1) := by decide +kernel
theorem dX10_bestWay_42 : decode cX10_bestWay 42 = .ok (.iload_n 2, 1) := by decide +kernel
theorem dX10_bestWay_43 : decode cX10_bestWay 43 = .ok (.invokevirtual 101, 3) := by decide +kernel
theorem dX10_bestWay_46 : decode cX10_bestWay 46 = .ok (.if_icmp .gt 8, 3) := by decide +kernel
theorem dX10_bestWay_49 : decode cX10_bestWay 49 = .ok (.iload 4, 2) := by decide +kernel
theorem dX10_bestWay_51 : decode cX10_bestWay 51 = .ok (.goto 4, 3) := by decide +kernel
theorem dX10_bestWay_54 : decode cX10_bestWay 54 = .ok (.iload_n 3, 1) := by decide +kernel
theorem dX10_bestWay_55 : decode cX10_bestWay 55 = .ok (.istore_n 3, 1) := by decide +kernel
theorem dX10_bestWay_56 : decode cX10_bestWay 56 = .ok (.iinc 4 (-1), 3) := by decide +kernel
theorem dX10_bestWay_59 : decode cX10_bestWay 59 = .ok (.goto (-47), 3) := by decide +kernel
theorem dX10_bestWay_62 : decode cX10_bestWay 62 = .ok (.iload_n 3, 1) := by decide +kernel
theorem dX10_bestWay_63 : decode cX10_bestWay 63 = .ok (.ireturn, 1) := by decide +kernel
theorem dX10_ownClass_0 : decode cX10_ownClass 0 = .ok (.iconst 0, 1) := by decide +kernel
theorem dX10_ownClass_1 : decode cX10_ownClass 1 = .ok (.istore_n 2, 1) := by decide +kernel
theorem dX10_ownClass_2 : decode cX10_ownClass 2 = .ok (.aload_n 0, 1) := by decide +kernel
theorem dX10_ownClass_3 : decode cX10_ownClass 3 = .ok (.iload_n 1, 1) := by decide +kernel
theorem dX10_ownClass_4 : decode cX10_ownClass 4 = .ok (.invokevirtual 70, 3) := by decide +kernel
theorem dX10_ownClass_7 : decode cX10_ownClass 7 = .ok (.iconst 1, 1) := by decide +kernel
theorem dX10_ownClass_8 : decode cX10_ownClass 8 = .ok (.isub, 1) := by decide +kernel
theorem dX10_ownClass_9 : decode cX10_ownClass 9 = .ok (.istore_n 3, 1) := by decide +kernel
theorem dX10_ownClass_10 : decode cX10_ownClass 10 = .ok (.iload_n 3, 1) := by decide +kernel
theorem dX10_ownClass_11 : decode cX10_ownClass 11 = .ok (.ifCond .lt 80, 3) := by decide +kernel
theorem dX10_ownClass_14 : decode cX10_ownClass 14 = .ok (.aload_n 0, 1) := by decide +kernel
theorem dX10_ownClass_15 : decode cX10_ownClass 15 = .ok (.getfield 7, 3) := by decide +kernel
theorem dX10_ownClass_18 : decode cX10_ownClass 18 = .ok (.iconst 2, 1) := by decide +kernel
theorem dX10_ownClass_19 : decode cX10_ownClass 19 = .ok (.iaload, 1) := by decide +kernel
theorem dX10_ownClass_20 : decode cX10_ownClass 20 = .ok (.ifCond .ne 7, 3) := by decide +kernel
theorem dX10_ownClass_23 : decode cX10_ownClass 23 = .ok (.iconst 0, 1) := by decide +kernel
theorem dX10_ownClass_24 : decode cX10_ownClass 24 = .ok (.goto 21, 3) := by decide +kernel
theorem dX10_ownClass_27 : decode cX10_ownClass 27 = .ok (.sipush 1000, 3) := by decide +kernel
theorem dX10_ownClass_30 : decode cX10_ownClass 30 = .ok (.aload_n 0, 1) := by decide +kernel
theorem dX10_ownClass_31 : decode cX10_ownClass 31 = .ok (.iload_n 1, 1) := by decide +kernel
theorem dX10_ownClass_32 : decode cX10_ownClass 32 = .ok (.iload_n 3, 1) := by decide +kernel
theorem dX10_ownClass_33 : decode cX10_ownClass 33 = .ok (.iconst 0, 1) := by decide +kernel
theorem dX10_ownClass_34 : decode cX10_ownClass 34 = .ok (.invokevirtual 97, 3) := by decide +kernel
theorem dX10_ownClass_37 : decode cX10_ownClass 37 = .ok (.imul, 1) := by decide +kernel
theorem dX10_ownClass_38 : decode cX10_ownClass 38 = .ok (.aload_n 0, 1) := by decide +kernel
theorem dX10_ownClass_39 : decode cX10_ownClass 39 = .ok (.getfield 7, 3) := by decide +kernel
theorem dX10_ownClass_42 : decode cX10_ownClass 42 = .ok (.iconst 2, 1) := by decide +kernel
theorem dX10_ownClass_43 : decode cX10_ownClass 43 = .ok (.iaload, 1) := by decide +kernel
theorem dX10_ownClass_44 : decode cX10_ownClass 44 = .ok (.idiv, 1) := by decide +kernel
theorem dX10_ownClass_45 : decode cX10_ownClass 45 = .ok (.istore 4, 2) := by decide +kernel
theorem dX10_ownClass_47 : decode cX10_ownClass 47 = .ok (.iconst 3, 1) := by decide +kernel
theorem dX10_ownClass_48 : decode cX10_ownClass 48 = .ok (.iload_n 2, 1) := by decide +kernel
theorem dX10_ownClass_49 : decode cX10_ownClass 49 = .ok (.imul, 1) := by decide +kernel
theorem dX10_ownClass_50 : decode cX10_ownClass 50 = .ok (.iload 4, 2) := by decide +kernel
theorem dX10_ownClass_52 : decode cX10_ownClass 52 = .ok (.aload_n 0, 1) := by decide +kernel
theorem dX10_ownClass_53 : decode cX10_ownClass 53 = .ok (.getfield 7, 3) := by decide +kernel
theorem dX10_ownClass_56 : decode cX10_ownClass 56 = .ok (.bipush 11, 2) := by decide +kernel
theorem dX10_ownClass_58 : decode cX10_ownClass 58 = .ok (.iaload, 1) := by decide +kernel
theorem dX10_ownClass_59 : decode cX10_ownClass 59 = .ok (.if_icmp .ge 7, 3) := by decide +kernel
theorem dX10_ownClass_62 : decode cX10_ownClass 62 = .ok (.iconst 0, 1) := by decide +kernel
theorem dX10_ownClass_63 : decode cX10_ownClass 63 = .ok (.goto 20, 3) := by decide +kernel
theorem dX10_ownClass_66 : decode cX10_ownClass 66 = .ok (.iload 4, 2) := by decide +kernel
theorem dX10_ownClass_68 : decode cX10_ownClass 68 = .ok (.aload_n 0, 1) := by decide +kernel
theorem dX10_ownClass_69 : decode cX10_ownClass 69 = .ok (.getfield 7, 3) := by decide +kernel
theorem dX10_ownClass_72 : decode cX10_ownClass 72 = .ok (.bipush 12, 2) := by decide +kernel
theorem dX10_ownClass_74 : decode cX10_ownClass 74 = .ok (.iaload, 1) := by decide +kernel
theorem dX10_ownClass_75 : decode cX10_ownClass 75 = .ok (.if_icmp .ge 7, 3) := by decide +kernel
theorem dX10_ownClass_78 : decode cX10_ownClass 78 = .ok (.iconst 1, 1) := by decide +kernel
theorem dX10_ownClass_79 : decode cX10_ownClass 79 = .ok (.goto 4, 3) := by decide +kernel
theorem dX10_ownClass_82 : decode cX10_ownClass 82 = .ok (.iconst 2, 1) := by decide +kernel
theorem dX10_ownClass_83 : decode cX10_ownClass 83 = .ok (.iadd, 1) := by decide +kernel
theorem dX10_ownClass_84 : decode cX10_ownClass 84 = .ok (.istore_n 2, 1) := by decide +kernel
theorem dX10_ownClass_85 : decode cX10_ownClass 85 = .ok (.iinc 3 (-1), 3) := by decide +kernel
theorem dX10_ownClass_88 : decode cX10_ownClass 88 = .ok (.goto (-78), 3) := by decide +kernel
theorem dX10_ownClass_91 : decode cX10_ownClass 91 = .ok (.iload_n 2, 1) := by decide +kernel
theorem dX10_ownClass_92 : decode cX10_ownClass 92 = .ok (.ireturn, 1) := by decide +kernel
theorem dX10_ofPlan_0 : decode cX10_ofPlan 0 = .ok (.aload_n 0, 1) := by decide +kernel
theorem dX10_ofPlan_1 : decode cX10_ofPlan 1 = .ok (.getfield 7, 3) := by decide +kernel
theorem dX10_ofPlan_4 : decode cX10_ofPlan 4 = .ok (.sipush 367, 3) := by decide +kernel
theorem dX10_ofPlan_7 : decode cX10_ofPlan 7 = .ok (.bipush 9, 2) := by decide +kernel
theorem dX10_ofPlan_9 : decode cX10_ofPlan 9 = .ok (.iload_n 1, 1) := by decide +kernel
theorem dX10_ofPlan_10 : decode cX10_ofPlan 10 = .ok (.imul, 1) := by decide +kernel
theorem dX10_ofPlan_11 : decode cX10_ofPlan 11 = .ok (.iadd, 1) := by decide +kernel
theorem dX10_ofPlan_12 : decode cX10_ofPlan 12 = .ok (.iload_n 2, 1) := by decide +kernel
theorem dX10_ofPlan_13 : decode cX10_ofPlan 13 = .ok (.iadd, 1) := by decide +kernel
theorem dX10_ofPlan_14 : decode cX10_ofPlan 14 = .ok (.iaload, 1) := by decide +kernel
theorem dX10_ofPlan_15 : decode cX10_ofPlan 15 = .ok (.ireturn, 1) := by decide +kernel
theorem dX10_takesOut_0 : decode cX10_takesOut 0 = .ok (.aload_n 0, 1) := by decide +kernel
theorem dX10_takesOut_1 : decode cX10_takesOut 1 = .ok (.getfield 7, 3) := by decide +kernel
theorem dX10_takesOut_4 : decode cX10_takesOut 4 = .ok (.iconst 4, 1) := by decide +kernel
theorem dX10_takesOut_5 : decode cX10_takesOut 5 = .ok (.dup2, 1) := by decide +kernel
theorem dX10_takesOut_6 : decode cX10_takesOut 6 = .ok (.iaload, 1) := by decide +kernel
theorem dX10_takesOut_7 : decode cX10_takesOut 7 = .ok (.iconst 1, 1) := by decide +kernel
theorem dX10_takesOut_8 : decode cX10_takesOut 8 = .ok (.isub, 1) := by decide +kernel
theorem dX10_takesOut_9 : decode cX10_takesOut 9 = .ok (.iastore, 1) := by decide +kernel
theorem dX10_takesOut_10 : decode cX10_takesOut 10 = .ok (.sipush 367, 3) := by decide +kernel
theorem dX10_takesOut_13 : decode cX10_takesOut 13 = .ok (.bipush 9, 2) := by decide +kernel
theorem dX10_takesOut_15 : decode cX10_takesOut 15 = .ok (.iload_n 1, 1) := by decide +kernel
theorem dX10_takesOut_16 : decode cX10_takesOut 16 = .ok (.imul, 1) := by decide +kernel
theorem dX10_takesOut_17 : decode cX10_takesOut 17 = .ok (.iadd, 1) := by decide +kernel
theorem dX10_takesOut_18 : decode cX10_takesOut 18 = .ok (.istore_n 2, 1) := by decide +kernel
theorem dX10_takesOut_19 : decode cX10_takesOut 19 = .ok (.iload_n 2, 1) := by decide +kernel
theorem dX10_takesOut_20 : decode cX10_takesOut 20 = .ok (.sipush 367, 3) := by decide +kernel
theorem dX10_takesOut_23 : decode cX10_takesOut 23 = .ok (.bipush 9, 2) := by decide +kernel
theorem dX10_takesOut_25 : decode cX10_takesOut 25 = .ok (.aload_n 0, 1) := by decide +kernel
theorem dX10_takesOut_26 : decode cX10_takesOut 26 = .ok (.getfield 7, 3) := by decide +kernel
theorem dX10_takesOut_29 : decode cX10_takesOut 29 = .ok (.iconst 4, 1) := by decide +kernel
theorem dX10_takesOut_30 : decode cX10_takesOut 30 = .ok (.iaload, 1) := by decide +kernel
theorem dX10_takesOut_31 : decode cX10_takesOut 31 = .ok (.imul, 1) := by decide +kernel
theorem dX10_takesOut_32 : decode cX10_takesOut 32 = .ok (.iadd, 1) := by decide +kernel
theorem dX10_takesOut_33 : decode cX10_takesOut 33 = .ok (.if_icmp .ge 24, 3) := by decide +kernel
theorem dX10_takesOut_36 : decode cX10_takesOut 36 = .ok (.aload_n 0, 1) := by decide +kernel
theorem dX10_takesOut_37 : decode cX10_takesOut 37 = .ok (.getfield 7, 3) := by decide +kernel
theorem dX10_takesOut_40 : decode cX10_takesOut 40 = .ok (.iload_n 2, 1) := by decide +kernel
theorem dX10_takesOut_41 : decode cX10_takesOut 41 = .ok (.aload_n 0, 1) := by decide +kernel
theorem dX10_takesOut_42 : decode cX10_takesOut 42 = .ok (.getfield 7, 3) := by decide +kernel
theorem dX10_takesOut_45 : decode cX10_takesOut 45 = .ok (.iload_n 2, 1) := by decide +kernel
theorem dX10_takesOut_46 : decode cX10_takesOut 46 = .ok (.bipush 9, 2) := by decide +kernel
theorem dX10_takesOut_48 : decode cX10_takesOut 48 = .ok (.iadd, 1) := by decide +kernel
theorem dX10_takesOut_49 : decode cX10_takesOut 49 = .ok (.iaload, 1) := by decide +kernel
theorem dX10_takesOut_50 : decode cX10_takesOut 50 = .ok (.iastore, 1) := by decide +kernel
theorem dX10_takesOut_51 : decode cX10_takesOut 51 = .ok (.iinc 2 1, 3) := by decide +kernel
theorem dX10_takesOut_54 : decode cX10_takesOut 54 = .ok (.goto (-35), 3) := by decide +kernel
theorem dX10_takesOut_57 : decode cX10_takesOut 57 = .ok (.return_, 1) := by decide +kernel
theorem dX10_placeOf_0 : decode cX10_placeOf 0 = .ok (.bipush (-4), 2) := by decide +kernel
theorem dX10_placeOf_2 : decode cX10_placeOf 2 = .ok (.istore_n 2, 1) := by decide +kernel
theorem dX10_placeOf_3 : decode cX10_placeOf 3 = .ok (.iconst 0, 1) := by decide +kernel
theorem dX10_placeOf_4 : decode cX10_placeOf 4 = .ok (.istore_n 3, 1) := by decide +kernel
theorem dX10_placeOf_5 : decode cX10_placeOf 5 = .ok (.iload_n 3, 1) := by decide +kernel
theorem dX10_placeOf_6 : decode cX10_placeOf 6 = .ok (.aload_n 0, 1) := by decide +kernel
theorem dX10_placeOf_7 : decode cX10_placeOf 7 = .ok (.getfield 7, 3) := by decide +kernel
theorem dX10_placeOf_10 : decode cX10_placeOf 10 = .ok (.iconst 4, 1) := by decide +kernel
theorem dX10_placeOf_11 : decode cX10_placeOf 11 = .ok (.iaload, 1) := by decide +kernel
theorem dX10_placeOf_12 : decode cX10_placeOf 12 = .ok (.if_icmp .ge 25, 3) := by decide +kernel
theorem dX10_placeOf_15 : decode cX10_placeOf 15 = .ok (.aload_n 0, 1) := by decide +kernel
theorem dX10_placeOf_16 : decode cX10_placeOf 16 = .ok (.iload_n 3, 1) := by decide +kernel
theorem dX10_placeOf_17 : decode cX10_placeOf 17 = .ok (.iconst 0, 1) := by decide +kernel
theorem dX10_placeOf_18 : decode cX10_placeOf 18 = .ok (.invokevirtual 47, 3) := by decide +kernel
theorem dX10_placeOf_21 : decode cX10_placeOf 21 = .ok (.iload_n 1, 1) := by decide +kernel
theorem dX10_placeOf_22 : decode cX10_placeOf 22 = .ok (.if_icmp .ne 7, 3) := by decide +kernel
theorem dX10_placeOf_25 : decode cX10_placeOf 25 = .ok (.iload_n 3, 1) := by decide +kernel
theorem dX10_placeOf_26 : decode cX10_placeOf 26 = .ok (.goto 4, 3) := by decide +kernel
theorem dX10_placeOf_29 : decode cX10_placeOf 29 = .ok (.iload_n 2, 1) := by decide +kernel
theorem dX10_placeOf_30 : decode cX10_placeOf 30 = .ok (.istore_n 2, 1) := by decide +kernel
theorem dX10_placeOf_31 : decode cX10_placeOf 31 = .ok (.iinc 3 1, 3) := by decide +kernel
theorem dX10_placeOf_34 : decode cX10_placeOf 34 = .ok (.goto (-29), 3) := by decide +kernel
theorem dX10_placeOf_37 : decode cX10_placeOf 37 = .ok (.iload_n 2, 1) := by decide +kernel
theorem dX10_placeOf_38 : decode cX10_placeOf 38 = .ok (.ireturn, 1) := by decide +kernel
theorem dX10_placeFor_0 : decode cX10_placeFor 0 = .ok (.bipush (-4), 2) := by decide +kernel
theorem dX10_placeFor_2 : decode cX10_placeFor 2 = .ok (.istore_n 3, 1) := by decide +kernel
theorem dX10_placeFor_3 : decode cX10_placeFor 3 = .ok (.iconst 0, 1) := by decide +kernel
theorem dX10_placeFor_4 : decode cX10_placeFor 4 = .ok (.istore 4, 2) := by decide +kernel
theorem dX10_placeFor_6 : decode cX10_placeFor 6 = .ok (.iload 4, 2) := by decide +kernel
theorem dX10_placeFor_8 : decode cX10_placeFor 8 = .ok (.aload_n 0, 1) := by decide +kernel
theorem dX10_placeFor_9 : decode cX10_placeFor 9 = .ok (.getfield 7, 3) := by decide +kernel
theorem dX10_placeFor_12 : decode cX10_placeFor 12 = .ok (.iconst 4, 1) := by decide +kernel
theorem dX10_placeFor_13 : decode cX10_placeFor 13 = .ok (.iaload, 1) := by decide +kernel
theorem dX10_placeFor_14 : decode cX10_placeFor 14 = .ok (.if_icmp .ge 38, 3) := by decide +kernel
theorem dX10_placeFor_17 : decode cX10_placeFor 17 = .ok (.aload_n 0, 1) := by decide +kernel
theorem dX10_placeFor_18 : decode cX10_placeFor 18 = .ok (.iload 4, 2) := by decide +kernel
theorem dX10_placeFor_20 : decode cX10_placeFor 20 = .ok (.iconst 1, 1) := by decide +kernel
theorem dX10_placeFor_21 : decode cX10_placeFor 21 = .ok (.invokevirtual 47, 3) := by decide +kernel
theorem dX10_placeFor_24 : decode cX10_placeFor 24 = .ok (.iload_n 1, 1) := by decide +kernel
theorem dX10_placeFor_25 : decode cX10_placeFor 25 = .ok (.if_icmp .ne 19, 3) := by decide +kernel
theorem dX10_placeFor_28 : decode cX10_placeFor 28 = .ok (.aload_n 0, 1) := by decide +kernel
theorem dX10_placeFor_29 : decode cX10_placeFor 29 = .ok (.iload 4, 2) := by decide +kernel
theorem dX10_placeFor_31 : decode cX10_placeFor 31 = .ok (.iconst 2, 1) := by decide +kernel
theorem dX10_placeFor_32 : decode cX10_placeFor 32 = .ok (.invokevirtual 47, 3) := by decide +kernel
theorem dX10_placeFor_35 : decode cX10_placeFor 35 = .ok (.iload_n 2, 1) := by decide +kernel
theorem dX10_placeFor_36 : decode cX10_placeFor 36 = .ok (.if_icmp .ne 8, 3) := by decide +kernel
theorem dX10_placeFor_39 : decode cX10_placeFor 39 = .ok (.iload 4, 2) := by decide +kernel
theorem dX10_placeFor_41 : decode cX10_placeFor 41 = .ok (.goto 4, 3) := by decide +kernel
theorem dX10_placeFor_44 : decode cX10_placeFor 44 = .ok (.iload_n 3, 1) := by decide +kernel
theorem dX10_placeFor_45 : decode cX10_placeFor 45 = .ok (.istore_n 3, 1) := by decide +kernel
theorem dX10_placeFor_46 : decode cX10_placeFor 46 = .ok (.iinc 4 1, 3) := by decide +kernel
theorem dX10_placeFor_49 : decode cX10_placeFor 49 = .ok (.goto (-43), 3) := by decide +kernel
theorem dX10_placeFor_52 : decode cX10_placeFor 52 = .ok (.iload_n 3, 1) := by decide +kernel
theorem dX10_placeFor_53 : decode cX10_placeFor 53 = .ok (.ireturn, 1) := by decide +kernel
theorem dX10_isAhead_0 : decode cX10_isAhead 0 = .ok (.aload_n 0, 1) := by decide +kernel
theorem dX10_isAhead_1 : decode cX10_isAhead 1 = .ok (.iload_n 1, 1) := by decide +kernel
theorem dX10_isAhead_2 : decode cX10_isAhead 2 = .ok (.iconst 5, 1) := by decide +kernel
theorem dX10_isAhead_3 : decode cX10_isAhead 3 = .ok (.invokevirtual 47, 3) := by decide +kernel
theorem dX10_isAhead_6 : decode cX10_isAhead 6 = .ok (.aload_n 0, 1) := by decide +kernel
theorem dX10_isAhead_7 : decode cX10_isAhead 7 = .ok (.iload_n 2, 1) := by decide +kernel
theorem dX10_isAhead_8 : decode cX10_isAhead 8 = .ok (.iconst 5, 1) := by decide +kernel
theorem dX10_isAhead_9 : decode cX10_isAhead 9 = .ok (.invokevirtual 47, 3) := by decide +kernel
theorem dX10_isAhead_12 : decode cX10_isAhead 12 = .ok (.isub, 1) := by decide +kernel
theorem dX10_isAhead_13 : decode cX10_isAhead 13 = .ok (.istore_n 3, 1) := by decide +kernel
theorem dX10_isAhead_14 : decode cX10_isAhead 14 = .ok (.iload_n 3, 1) := by decide +kernel
theorem dX10_isAhead_15 : decode cX10_isAhead 15 = .ok (.ifCond .lt 24, 3) := by decide +kernel
theorem dX10_isAhead_18 : decode cX10_isAhead 18 = .ok (.iload_n 3, 1) := by decide +kernel
theorem dX10_isAhead_19 : decode cX10_isAhead 19 = .ok (.ifCond .ne 24, 3) := by decide +kernel
theorem dX10_isAhead_22 : decode cX10_isAhead 22 = .ok (.aload_n 0, 1) := by decide +kernel
theorem dX10_isAhead_23 : decode cX10_isAhead 23 = .ok (.iload_n 1, 1) := by decide +kernel
theorem dX10_isAhead_24 : decode cX10_isAhead 24 = .ok (.bipush 8, 2) := by decide +kernel
theorem dX10_isAhead_26 : decode cX10_isAhead 26 = .ok (.invokevirtual 47, 3) := by decide +kernel
theorem dX10_isAhead_29 : decode cX10_isAhead 29 = .ok (.aload_n 0, 1) := by decide +kernel
theorem dX10_isAhead_30 : decode cX10_isAhead 30 = .ok (.iload_n 2, 1) := by decide +kernel
theorem dX10_isAhead_31 : decode cX10_isAhead 31 = .ok (.bipush 8, 2) := by decide +kernel
theorem dX10_isAhead_33 : decode cX10_isAhead 33 = .ok (.invokevirtual 47, 3) := by decide +kernel
theorem dX10_isAhead_36 : decode cX10_isAhead 36 = .ok (.if_icmp .ge 7, 3) := by decide +kernel
theorem dX10_isAhead_39 : decode cX10_isAhead 39 = .ok (.iconst 1, 1) := by decide +kernel
theorem dX10_isAhead_40 : decode cX10_isAhead 40 = .ok (.goto 4, 3) := by decide +kernel
theorem dX10_isAhead_43 : decode cX10_isAhead 43 = .ok (.iconst 0, 1) := by decide +kernel
theorem dX10_isAhead_44 : decode cX10_isAhead 44 = .ok (.ireturn, 1) := by decide +kernel
theorem dX10_dropsAt_0 : decode cX10_dropsAt 0 = .ok (.bipush (-4), 2) := by decide +kernel
theorem dX10_dropsAt_2 : decode cX10_dropsAt 2 = .ok (.istore_n 2, 1) := by decide +kernel
theorem dX10_dropsAt_3 : decode cX10_dropsAt 3 = .ok (.iconst 0, 1) := by decide +kernel
theorem dX10_dropsAt_4 : decode cX10_dropsAt 4 = .ok (.istore_n 3, 1) := by decide +kernel
theorem dX10_dropsAt_5 : decode cX10_dropsAt 5 = .ok (.iload_n 3, 1) := by decide +kernel
theorem dX10_dropsAt_6 : decode cX10_dropsAt 6 = .ok (.aload_n 0, 1) := by decide +kernel
theorem dX10_dropsAt_7 : decode cX10_dropsAt 7 = .ok (.getfield 7, 3) := by decide +kernel
theorem dX10_dropsAt_10 : decode cX10_dropsAt 10 = .ok (.iconst 4, 1) := by decide +kernel
theorem dX10_dropsAt_11 : decode cX10_dropsAt 11 = .ok (.iaload, 1) := by decide +kernel
theorem dX10_dropsAt_12 : decode cX10_dropsAt 12 = .ok (.if_icmp .ge 85, 3) := by decide +kernel
theorem dX10_dropsAt_15 : decode cX10_dropsAt 15 = .ok (.iconst 0, 1) := by decide +kernel
theorem dX10_dropsAt_16 : decode cX10_dropsAt 16 = .ok (.istore 4, 2) := by decide +kernel
theorem dX10_dropsAt_18 : decode cX10_dropsAt 18 = .ok (.iconst 0, 1) := by decide +kernel
theorem dX10_dropsAt_19 : decode cX10_dropsAt 19 = .ok (.istore 5, 2) := by decide +kernel
theorem dX10_dropsAt_21 : decode cX10_dropsAt 21 = .ok (.iload 5, 2) := by decide +kernel
theorem dX10_dropsAt_23 : decode cX10_dropsAt 23 = .ok (.aload_n 0, 1) := by decide +kernel
theorem dX10_dropsAt_24 : decode cX10_dropsAt 24 = .ok (.getfield 7, 3) := by decide +kernel
theorem dX10_dropsAt_27 : decode cX10_dropsAt 27 = .ok (.iconst 4, 1) := by decide +kernel
theorem dX10_dropsAt_28 : decode cX10_dropsAt 28 = .ok (.iaload, 1) := by decide +kernel
theorem dX10_dropsAt_29 : decode cX10_dropsAt 29 = .ok (.if_icmp .ge 40, 3) := by decide +kernel
theorem dX10_dropsAt_32 : decode cX10_dropsAt 32 = .ok (.iload 4, 2) := by decide +kernel
theorem dX10_dropsAt_34 : decode cX10_dropsAt 34 = .ok (.aload_n 0, 1) := by decide +kernel
theorem dX10_dropsAt_35 : decode cX10_dropsAt 35 = .ok (.iload 5, 2) := by decide +kernel
theorem dX10_dropsAt_37 : decode cX10_dropsAt 37 = .ok (.bipush 7, 2) := by decide +kernel
theorem dX10_dropsAt_39 : decode cX10_dropsAt 39 = .ok (.invokevirtual 47, 3) := by decide +kernel
theorem dX10_dropsAt_42 : decode cX10_dropsAt 42 = .ok (.ifCond .ne 17, 3) := by decide +kernel
theorem dX10_dropsAt_45 : decode cX10_dropsAt 45 = .ok (.aload_n 0, 1) := by decide +kernel
theorem dX10_dropsAt_46 : decode cX10_dropsAt 46 = .ok (.iload 5, 2) := by decide +kernel
theorem dX10_dropsAt_48 : decode cX10_dropsAt 48 = .ok (.iload_n 3, 1) := by decide +kernel
theorem dX10_dropsAt_49 : decode cX10_dropsAt 49 = .ok (.invokevirtual 104, 3) := by decide +kernel
theorem dX10_dropsAt_52 : decode cX10_dropsAt 52 = .ok (.ifCond .eq 7, 3) := by decide +kernel
theorem dX10_dropsAt_55 : decode cX10_dropsAt 55 = .ok (.iconst 1, 1) := by decide +kernel
theorem dX10_dropsAt_56 : decode cX10_dropsAt 56 = .ok (.goto 4, 3) := by decide +kernel
theorem dX10_dropsAt_59 : decode cX10_dropsAt 59 = .ok (.iconst 0, 1) := by decide +kernel
theorem dX10_dropsAt_60 : decode cX10_dropsAt 60 = .ok (.iadd, 1) := by decide +kernel
theorem dX10_dropsAt_61 : decode cX10_dropsAt 61 = .ok (.istore 4, 2) := by decide +kernel
theorem dX10_dropsAt_63 : decode cX10_dropsAt 63 = .ok (.iinc 5 1, 3) := by decide +kernel
theorem dX10_dropsAt_66 : decode cX10_dropsAt 66 = .ok (.goto (-45), 3) := by decide +kernel
theorem dX10_dropsAt_69 : decode cX10_dropsAt 69 = .ok (.aload_n 0, 1) := by decide +kernel
theorem dX10_dropsAt_70 : decode cX10_dropsAt 70 = .ok (.iload_n 3, 1) := by decide +kernel
theorem dX10_dropsAt_71 : decode cX10_dropsAt 71 = .ok (.bipush 7, 2) := by decide +kernel
theorem dX10_dropsAt_73 : decode cX10_dropsAt 73 = .ok (.invokevirtual 47, 3) := by decide +kernel
theorem dX10_dropsAt_76 : decode cX10_dropsAt 76 = .ok (.ifCond .ne 13, 3) := by decide +kernel
theorem dX10_dropsAt_79 : decode cX10_dropsAt 79 = .ok (.iload 4, 2) := by decide +kernel
theorem dX10_dropsAt_81 : decode cX10_dropsAt 81 = .ok (.iload_n 1, 1) := by decide +kernel
theorem dX10_dropsAt_82 : decode cX10_dropsAt 82 = .ok (.if_icmp .ne 7, 3) := by decide +kernel
theorem dX10_dropsAt_85 : decode cX10_dropsAt 85 = .ok (.iload_n 3, 1) := by decide +kernel
theorem dX10_dropsAt_86 : decode cX10_dropsAt 86 = .ok (.goto 4, 3) := by decide +kernel
theorem dX10_dropsAt_89 : decode cX10_dropsAt 89 = .ok (.iload_n 2, 1) := by decide +kernel
theorem dX10_dropsAt_90 : decode cX10_dropsAt 90 = .ok (.istore_n 2, 1) := by decide +kernel
theorem dX10_dropsAt_91 : decode cX10_dropsAt 91 = .ok (.iinc 3 1, 3) := by decide +kernel
theorem dX10_dropsAt_94 : decode cX10_dropsAt 94 = .ok (.goto (-89), 3) := by decide +kernel
theorem dX10_dropsAt_97 : decode cX10_dropsAt 97 = .ok (.iload_n 2, 1) := by decide +kernel
theorem dX10_dropsAt_98 : decode cX10_dropsAt 98 = .ok (.ireturn, 1) := by decide +kernel
theorem dX10_clears_0 : decode cX10_clears 0 = .ok (.bipush (-4), 2) := by decide +kernel
theorem dX10_clears_2 : decode cX10_clears 2 = .ok (.istore_n 1, 1) := by decide +kernel
theorem dX10_clears_3 : decode cX10_clears 3 = .ok (.aload_n 0, 1) := by decide +kernel
theorem dX10_clears_4 : decode cX10_clears 4 = .ok (.iconst 0, 1) := by decide +kernel
theorem dX10_clears_5 : decode cX10_clears 5 = .ok (.invokevirtual 108, 3) := by decide +kernel
theorem dX10_clears_8 : decode cX10_clears 8 = .ok (.istore_n 2, 1) := by decide +kernel
theorem dX10_clears_9 : decode cX10_clears 9 = .ok (.aload_n 0, 1) := by decide +kernel
theorem dX10_clears_10 : decode cX10_clears 10 = .ok (.getfield 7, 3) := by decide +kernel
theorem dX10_clears_13 : decode cX10_clears 13 = .ok (.iconst 4, 1) := by decide +kernel
theorem dX10_clears_14 : decode cX10_clears 14 = .ok (.iaload, 1) := by decide +kernel
theorem dX10_clears_15 : decode cX10_clears 15 = .ok (.aload_n 0, 1) := by decide +kernel
theorem dX10_clears_16 : decode cX10_clears 16 = .ok (.getfield 7, 3) := by decide +kernel
theorem dX10_clears_19 : decode cX10_clears 19 = .ok (.bipush 15, 2) := by decide +kernel
theorem dX10_clears_21 : decode cX10_clears 21 = .ok (.iaload, 1) := by decide +kernel
theorem dX10_clears_22 : decode cX10_clears 22 = .ok (.if_icmp .lt 47, 3) := by decide +kernel
theorem dX10_clears_25 : decode cX10_clears 25 = .ok (.iload_n 2, 1) := by decide +kernel
theorem dX10_clears_26 : decode cX10_clears 26 = .ok (.ifCond .lt 43, 3) := by decide +kernel
theorem dX10_clears_29 : decode cX10_clears 29 = .ok (.iload_n 1, 1) := by decide +kernel
theorem dX10_clears_30 : decode cX10_clears 30 = .ok (.ifCond .ge 12, 3) := by decide +kernel
theorem dX10_clears_33 : decode cX10_clears 33 = .ok (.aload_n 0, 1) := by decide +kernel
theorem dX10_clears_34 : decode cX10_clears 34 = .ok (.iload_n 2, 1) := by decide +kernel
theorem dX10_clears_35 : decode cX10_clears 35 = .ok (.iconst 0, 1) := by decide +kernel
theorem dX10_clears_36 : decode cX10_clears 36 = .ok (.invokevirtual 47, 3) := by decide +kernel
theorem dX10_clears_39 : decode cX10_clears 39 = .ok (.goto 4, 3) := by decide +kernel
theorem dX10_clears_42 : decode cX10_clears 42 = .ok (.iload_n 1, 1) := by decide +kernel
theorem dX10_clears_43 : decode cX10_clears 43 = .ok (.istore_n 1, 1) := by decide +kernel
theorem dX10_clears_44 : decode cX10_clears 44 = .ok (.aload_n 0, 1) := by decide +kernel
theorem dX10_clears_45 : decode cX10_clears 45 = .ok (.iload_n 2, 1) := by decide +kernel
theorem dX10_clears_46 : decode cX10_clears 46 = .ok (.invokevirtual 53, 3) := by decide +kernel
theorem dX10_clears_49 : decode cX10_clears 49 = .ok (.aload_n 0, 1) := by decide +kernel
theorem dX10_clears_50 : decode cX10_clears 50 = .ok (.getfield 7, 3) := by decide +kernel
theorem dX10_clears_53 : decode cX10_clears 53 = .ok (.bipush 8, 2) := by decide +kernel
theorem dX10_clears_55 : decode cX10_clears 55 = .ok (.dup2, 1) := by decide +kernel
theorem dX10_clears_56 : decode cX10_clears 56 = .ok (.iaload, 1) := by decide +kernel
theorem dX10_clears_57 : decode cX10_clears 57 = .ok (.iconst 1, 1) := by decide +kernel
theorem dX10_clears_58 : decode cX10_clears 58 = .ok (.iadd, 1) := by decide +kernel
theorem dX10_clears_59 : decode cX10_clears 59 = .ok (.iastore, 1) := by decide +kernel
theorem dX10_clears_60 : decode cX10_clears 60 = .ok (.aload_n 0, 1) := by decide +kernel
theorem dX10_clears_61 : decode cX10_clears 61 = .ok (.iconst 0, 1) := by decide +kernel
theorem dX10_clears_62 : decode cX10_clears 62 = .ok (.invokevirtual 108, 3) := by decide +kernel
theorem dX10_clears_65 : decode cX10_clears 65 = .ok (.istore_n 2, 1) := by decide +kernel
theorem dX10_clears_66 : decode cX10_clears 66 = .ok (.goto (-57), 3) := by decide +kernel
theorem dX10_clears_69 : decode cX10_clears 69 = .ok (.iload_n 1, 1) := by decide +kernel
theorem dX10_clears_70 : decode cX10_clears 70 = .ok (.ireturn, 1) := by decide +kernel
theorem dX10_tells_0 : decode cX10_tells 0 = .ok (.aload_n 0, 1) := by decide +kernel
theorem dX10_tells_1 : decode cX10_tells 1 = .ok (.getfield 7, 3) := by decide +kernel
theorem dX10_tells_4 : decode cX10_tells 4 = .ok (.bipush 21, 2) := by decide +kernel
theorem dX10_tells_6 : decode cX10_tells 6 = .ok (.iload_n 1, 1) := by decide +kernel
theorem dX10_tells_7 : decode cX10_tells 7 = .ok (.iastore, 1) := by decide +kernel
theorem dX10_tells_8 : decode cX10_tells 8 = .ok (.aload_n 0, 1) := by decide +kernel
theorem dX10_tells_9 : decode cX10_tells 9 = .ok (.getfield 7, 3) := by decide +kernel
theorem dX10_tells_12 : decode cX10_tells 12 = .ok (.bipush 22, 2) := by decide +kernel
theorem dX10_tells_14 : decode cX10_tells 14 = .ok (.iload_n 2, 1) := by decide +kernel
theorem dX10_tells_15 : decode cX10_tells 15 = .ok (.iastore, 1) := by decide +kernel
theorem dX10_tells_16 : decode cX10_tells 16 = .ok (.aload_n 0, 1) := by decide +kernel
theorem dX10_tells_17 : decode cX10_tells 17 = .ok (.getfield 7, 3) := by decide +kernel
theorem dX10_tells_20 : decode cX10_tells 20 = .ok (.bipush 23, 2) := by decide +kernel
theorem dX10_tells_22 : decode cX10_tells 22 = .ok (.iload_n 3, 1) := by decide +kernel
theorem dX10_tells_23 : decode cX10_tells 23 = .ok (.iastore, 1) := by decide +kernel
theorem dX10_tells_24 : decode cX10_tells 24 = .ok (.aload_n 0, 1) := by decide +kernel
theorem dX10_tells_25 : decode cX10_tells 25 = .ok (.getfield 7, 3) := by decide +kernel
theorem dX10_tells_28 : decode cX10_tells 28 = .ok (.bipush 24, 2) := by decide +kernel
theorem dX10_tells_30 : decode cX10_tells 30 = .ok (.iload 4, 2) := by decide +kernel
theorem dX10_tells_32 : decode cX10_tells 32 = .ok (.iastore, 1) := by decide +kernel
theorem dX10_tells_33 : decode cX10_tells 33 = .ok (.aload_n 0, 1) := by decide +kernel
theorem dX10_tells_34 : decode cX10_tells 34 = .ok (.getfield 7, 3) := by decide +kernel
theorem dX10_tells_37 : decode cX10_tells 37 = .ok (.bipush 25, 2) := by decide +kernel
theorem dX10_tells_39 : decode cX10_tells 39 = .ok (.iload 5, 2) := by decide +kernel
theorem dX10_tells_41 : decode cX10_tells 41 = .ok (.iastore, 1) := by decide +kernel
theorem dX10_tells_42 : decode cX10_tells 42 = .ok (.aload_n 0, 1) := by decide +kernel
theorem dX10_tells_43 : decode cX10_tells 43 = .ok (.getfield 7, 3) := by decide +kernel
theorem dX10_tells_46 : decode cX10_tells 46 = .ok (.bipush 26, 2) := by decide +kernel
theorem dX10_tells_48 : decode cX10_tells 48 = .ok (.iload 6, 2) := by decide +kernel
theorem dX10_tells_50 : decode cX10_tells 50 = .ok (.iastore, 1) := by decide +kernel
theorem dX10_tells_51 : decode cX10_tells 51 = .ok (.return_, 1) := by decide +kernel
theorem dX10_keeps_0 : decode cX10_keeps 0 = .ok (.aload_n 0, 1) := by decide +kernel
theorem dX10_keeps_1 : decode cX10_keeps 1 = .ok (.getfield 7, 3) := by decide +kernel
theorem dX10_keeps_4 : decode cX10_keeps 4 = .ok (.iconst 4, 1) := by decide +kernel
theorem dX10_keeps_5 : decode cX10_keeps 5 = .ok (.iaload, 1) := by decide +kernel
theorem dX10_keeps_6 : decode cX10_keeps 6 = .ok (.aload_n 0, 1) := by decide +kernel
theorem dX10_keeps_7 : decode cX10_keeps 7 = .ok (.getfield 7, 3) := by decide +kernel
theorem dX10_keeps_10 : decode cX10_keeps 10 = .ok (.bipush 15, 2) := by decide +kernel
theorem dX10_keeps_12 : decode cX10_keeps 12 = .ok (.iaload, 1) := by decide +kernel
theorem dX10_keeps_13 : decode cX10_keeps 13 = .ok (.if_icmp .lt 6, 3) := by decide +kernel
theorem dX10_keeps_16 : decode cX10_keeps 16 = .ok (.bipush (-4), 2) := by decide +kernel
theorem dX10_keeps_18 : decode cX10_keeps 18 = .ok (.ireturn, 1) := by decide +kernel
theorem dX10_keeps_19 : decode cX10_keeps 19 = .ok (.sipush 367, 3) := by decide +kernel
theorem dX10_keeps_22 : decode cX10_keeps 22 = .ok (.bipush 9, 2) := by decide +kernel
theorem dX10_keeps_24 : decode cX10_keeps 24 = .ok (.aload_n 0, 1) := by decide +kernel
theorem dX10_keeps_25 : decode cX10_keeps 25 = .ok (.getfield 7, 3) := by decide +kernel
theorem dX10_keeps_28 : decode cX10_keeps 28 = .ok (.iconst 4, 1) := by decide +kernel
theorem dX10_keeps_29 : decode cX10_keeps 29 = .ok (.iaload, 1) := by decide +kernel
theorem dX10_keeps_30 : decode cX10_keeps 30 = .ok (.imul, 1) := by decide +kernel
theorem dX10_keeps_31 : decode cX10_keeps 31 = .ok (.iadd, 1) := by decide +kernel
theorem dX10_keeps_32 : decode cX10_keeps 32 = .ok (.istore 5, 2) := by decide +kernel
theorem dX10_keeps_34 : decode cX10_keeps 34 = .ok (.aload_n 0, 1) := by decide +kernel
theorem dX10_keeps_35 : decode cX10_keeps 35 = .ok (.getfield 7, 3) := by decide +kernel
theorem dX10_keeps_38 : decode cX10_keeps 38 = .ok (.iload 5, 2) := by decide +kernel
theorem dX10_keeps_40 : decode cX10_keeps 40 = .ok (.iconst 0, 1) := by decide +kernel
theorem dX10_keeps_41 : decode cX10_keeps 41 = .ok (.iadd, 1) := by decide +kernel
theorem dX10_keeps_42 : decode cX10_keeps 42 = .ok (.aload_n 0, 1) := by decide +kernel
theorem dX10_keeps_43 : decode cX10_keeps 43 = .ok (.getfield 7, 3) := by decide +kernel
theorem dX10_keeps_46 : decode cX10_keeps 46 = .ok (.iconst 5, 1) := by decide +kernel
theorem dX10_keeps_47 : decode cX10_keeps 47 = .ok (.iaload, 1) := by decide +kernel
theorem dX10_keeps_48 : decode cX10_keeps 48 = .ok (.iastore, 1) := by decide +kernel
theorem dX10_keeps_49 : decode cX10_keeps 49 = .ok (.aload_n 0, 1) := by decide +kernel
theorem dX10_keeps_50 : decode cX10_keeps 50 = .ok (.getfield 7, 3) := by decide +kernel
theorem dX10_keeps_53 : decode cX10_keeps 53 = .ok (.iload 5, 2) := by decide +kernel
theorem dX10_keeps_55 : decode cX10_keeps 55 = .ok (.iconst 1, 1) := by decide +kernel
theorem dX10_keeps_56 : decode cX10_keeps 56 = .ok (.iadd, 1) := by decide +kernel
theorem dX10_keeps_57 : decode cX10_keeps 57 = .ok (.iload_n 1, 1) := by decide +kernel
theorem dX10_keeps_58 : decode cX10_keeps 58 = .ok (.iastore, 1) := by decide +kernel
theorem dX10_keeps_59 : decode cX10_keeps 59 = .ok (.aload_n 0, 1) := by decide +kernel
theorem dX10_keeps_60 : decode cX10_keeps 60 = .ok (.getfield 7, 3) := by decide +kernel
theorem dX10_keeps_63 : decode cX10_keeps 63 = .ok (.iload 5, 2) := by decide +kernel
theorem dX10_keeps_65 : decode cX10_keeps 65 = .ok (.iconst 2, 1) := by decide +kernel
theorem dX10_keeps_66 : decode cX10_keeps 66 = .ok (.iadd, 1) := by decide +kernel
theorem dX10_keeps_67 : decode cX10_keeps 67 = .ok (.iload_n 2, 1) := by decide +kernel
theorem dX10_keeps_68 : decode cX10_keeps 68 = .ok (.iastore, 1) := by decide +kernel
theorem dX10_keeps_69 : decode cX10_keeps 69 = .ok (.aload_n 0, 1) := by decide +kernel
theorem dX10_keeps_70 : decode cX10_keeps 70 = .ok (.getfield 7, 3) := by decide +kernel
theorem dX10_keeps_73 : decode cX10_keeps 73 = .ok (.iload 5, 2) := by decide +kernel
theorem dX10_keeps_75 : decode cX10_keeps 75 = .ok (.iconst 3, 1) := by decide +kernel
theorem dX10_keeps_76 : decode cX10_keeps 76 = .ok (.iadd, 1) := by decide +kernel
theorem dX10_keeps_77 : decode cX10_keeps 77 = .ok (.iload_n 3, 1) := by decide +kernel
theorem dX10_keeps_78 : decode cX10_keeps 78 = .ok (.iastore, 1) := by decide +kernel
theorem dX10_keeps_79 : decode cX10_keeps 79 = .ok (.aload_n 0, 1) := by decide +kernel
theorem dX10_keeps_80 : decode cX10_keeps 80 = .ok (.getfield 7, 3) := by decide +kernel
theorem dX10_keeps_83 : decode cX10_keeps 83 = .ok (.iload 5, 2) := by decide +kernel
theorem dX10_keeps_85 : decode cX10_keeps 85 = .ok (.iconst 4, 1) := by decide +kernel
theorem dX10_keeps_86 : decode cX10_keeps 86 = .ok (.iadd, 1) := by decide +kernel
theorem dX10_keeps_87 : decode cX10_keeps 87 = .ok (.iload 4, 2) := by decide +kernel
theorem dX10_keeps_89 : decode cX10_keeps 89 = .ok (.iastore, 1) := by decide +kernel
theorem dX10_keeps_90 : decode cX10_keeps 90 = .ok (.aload_n 0, 1) := by decide +kernel
theorem dX10_keeps_91 : decode cX10_keeps 91 = .ok (.getfield 7, 3) := by decide +kernel
theorem dX10_keeps_94 : decode cX10_keeps 94 = .ok (.iload 5, 2) := by decide +kernel
theorem dX10_keeps_96 : decode cX10_keeps 96 = .ok (.iconst 5, 1) := by decide +kernel
theorem dX10_keeps_97 : decode cX10_keeps 97 = .ok (.iadd, 1) := by decide +kernel
theorem dX10_keeps_98 : decode cX10_keeps 98 = .ok (.iconst 0, 1) := by decide +kernel
theorem dX10_keeps_99 : decode cX10_keeps 99 = .ok (.iastore, 1) := by decide +kernel
theorem dX10_keeps_100 : decode cX10_keeps 100 = .ok (.aload_n 0, 1) := by decide +kernel
theorem dX10_keeps_101 : decode cX10_keeps 101 = .ok (.getfield 7, 3) := by decide +kernel
theorem dX10_keeps_104 : decode cX10_keeps 104 = .ok (.iload 5, 2) := by decide +kernel
theorem dX10_keeps_106 : decode cX10_keeps 106 = .ok (.bipush 6, 2) := by decide +kernel
theorem dX10_keeps_108 : decode cX10_keeps 108 = .ok (.iadd, 1) := by decide +kernel
theorem dX10_keeps_109 : decode cX10_keeps 109 = .ok (.iconst 0, 1) := by decide +kernel
theorem dX10_keeps_110 : decode cX10_keeps 110 = .ok (.iastore, 1) := by decide +kernel
theorem dX10_keeps_111 : decode cX10_keeps 111 = .ok (.aload_n 0, 1) := by decide +kernel
theorem dX10_keeps_112 : decode cX10_keeps 112 = .ok (.getfield 7, 3) := by decide +kernel
theorem dX10_keeps_115 : decode cX10_keeps 115 = .ok (.iload 5, 2) := by decide +kernel
theorem dX10_keeps_117 : decode cX10_keeps 117 = .ok (.bipush 7, 2) := by decide +kernel
theorem dX10_keeps_119 : decode cX10_keeps 119 = .ok (.iadd, 1) := by decide +kernel
theorem dX10_keeps_120 : decode cX10_keeps 120 = .ok (.iconst 0, 1) := by decide +kernel
theorem dX10_keeps_121 : decode cX10_keeps 121 = .ok (.iastore, 1) := by decide +kernel
theorem dX10_keeps_122 : decode cX10_keeps 122 = .ok (.aload_n 0, 1) := by decide +kernel
theorem dX10_keeps_123 : decode cX10_keeps 123 = .ok (.getfield 7, 3) := by decide +kernel
theorem dX10_keeps_126 : decode cX10_keeps 126 = .ok (.iload 5, 2) := by decide +kernel
theorem dX10_keeps_128 : decode cX10_keeps 128 = .ok (.bipush 8, 2) := by decide +kernel
theorem dX10_keeps_130 : decode cX10_keeps 130 = .ok (.iadd, 1) := by decide +kernel
theorem dX10_keeps_131 : decode cX10_keeps 131 = .ok (.iconst 0, 1) := by decide +kernel
theorem dX10_keeps_132 : decode cX10_keeps 132 = .ok (.iastore, 1) := by decide +kernel
theorem dX10_keeps_133 : decode cX10_keeps 133 = .ok (.aload_n 0, 1) := by decide +kernel
theorem dX10_keeps_134 : decode cX10_keeps 134 = .ok (.getfield 7, 3) := by decide +kernel
theorem dX10_keeps_137 : decode cX10_keeps 137 = .ok (.iconst 5, 1) := by decide +kernel
theorem dX10_keeps_138 : decode cX10_keeps 138 = .ok (.dup2, 1) := by decide +kernel
theorem dX10_keeps_139 : decode cX10_keeps 139 = .ok (.iaload, 1) := by decide +kernel
theorem dX10_keeps_140 : decode cX10_keeps 140 = .ok (.iconst 1, 1) := by decide +kernel
theorem dX10_keeps_141 : decode cX10_keeps 141 = .ok (.iadd, 1) := by decide +kernel
theorem dX10_keeps_142 : decode cX10_keeps 142 = .ok (.iastore, 1) := by decide +kernel
theorem dX10_keeps_143 : decode cX10_keeps 143 = .ok (.aload_n 0, 1) := by decide +kernel
theorem dX10_keeps_144 : decode cX10_keeps 144 = .ok (.getfield 7, 3) := by decide +kernel
theorem dX10_keeps_147 : decode cX10_keeps 147 = .ok (.iconst 4, 1) := by decide +kernel
theorem dX10_keeps_148 : decode cX10_keeps 148 = .ok (.dup2, 1) := by decide +kernel
theorem dX10_keeps_149 : decode cX10_keeps 149 = .ok (.iaload, 1) := by decide +kernel
theorem dX10_keeps_150 : decode cX10_keeps 150 = .ok (.iconst 1, 1) := by decide +kernel
theorem dX10_keeps_151 : decode cX10_keeps 151 = .ok (.iadd, 1) := by decide +kernel
theorem dX10_keeps_152 : decode cX10_keeps 152 = .ok (.iastore, 1) := by decide +kernel
theorem dX10_keeps_153 : decode cX10_keeps 153 = .ok (.aload_n 0, 1) := by decide +kernel
theorem dX10_keeps_154 : decode cX10_keeps 154 = .ok (.getfield 7, 3) := by decide +kernel
theorem dX10_keeps_157 : decode cX10_keeps 157 = .ok (.iconst 4, 1) := by decide +kernel
theorem dX10_keeps_158 : decode cX10_keeps 158 = .ok (.iaload, 1) := by decide +kernel
theorem dX10_keeps_159 : decode cX10_keeps 159 = .ok (.iconst 1, 1) := by decide +kernel
theorem dX10_keeps_160 : decode cX10_keeps 160 = .ok (.isub, 1) := by decide +kernel
theorem dX10_keeps_161 : decode cX10_keeps 161 = .ok (.ireturn, 1) := by decide +kernel
theorem dX10_goes_0 : decode cX10_goes 0 = .ok (.aload_n 0, 1) := by decide +kernel
theorem dX10_goes_1 : decode cX10_goes 1 = .ok (.iload_n 1, 1) := by decide +kernel
theorem dX10_goes_2 : decode cX10_goes 2 = .ok (.invokevirtual 111, 3) := by decide +kernel
theorem dX10_goes_5 : decode cX10_goes 5 = .ok (.istore_n 2, 1) := by decide +kernel
theorem dX10_goes_6 : decode cX10_goes 6 = .ok (.aload_n 0, 1) := by decide +kernel
theorem dX10_goes_7 : decode cX10_goes 7 = .ok (.iload_n 1, 1) := by decide +kernel
theorem dX10_goes_8 : decode cX10_goes 8 = .ok (.iload_n 2, 1) := by decide +kernel
theorem dX10_goes_9 : decode cX10_goes 9 = .ok (.invokevirtual 114, 3) := by decide +kernel
theorem dX10_goes_12 : decode cX10_goes 12 = .ok (.istore_n 3, 1) := by decide +kernel
theorem dX10_goes_13 : decode cX10_goes 13 = .ok (.iload_n 3, 1) := by decide +kernel
theorem dX10_goes_14 : decode cX10_goes 14 = .ok (.ifCond .lt 7, 3) := by decide +kernel
theorem dX10_goes_17 : decode cX10_goes 17 = .ok (.iconst 1, 1) := by decide +kernel
theorem dX10_goes_18 : decode cX10_goes 18 = .ok (.goto 4, 3) := by decide +kernel
theorem dX10_goes_21 : decode cX10_goes 21 = .ok (.iconst 0, 1) := by decide +kernel
theorem dX10_goes_22 : decode cX10_goes 22 = .ok (.istore 4, 2) := by decide +kernel
theorem dX10_goes_24 : decode cX10_goes 24 = .ok (.iload 4, 2) := by decide +kernel
theorem dX10_goes_26 : decode cX10_goes 26 = .ok (.ifCond .eq 12, 3) := by decide +kernel
theorem dX10_goes_29 : decode cX10_goes 29 = .ok (.aload_n 0, 1) := by decide +kernel
theorem dX10_goes_30 : decode cX10_goes 30 = .ok (.iload_n 3, 1) := by decide +kernel
theorem dX10_goes_31 : decode cX10_goes 31 = .ok (.iconst 3, 1) := by decide +kernel
theorem dX10_goes_32 : decode cX10_goes 32 = .ok (.invokevirtual 47, 3) := by decide +kernel
theorem dX10_goes_35 : decode cX10_goes 35 = .ok (.goto 9, 3) := by decide +kernel
theorem dX10_goes_38 : decode cX10_goes 38 = .ok (.aload_n 0, 1) := by decide +kernel
theorem dX10_goes_39 : decode cX10_goes 39 = .ok (.iload_n 1, 1) := by decide +kernel
theorem dX10_goes_40 : decode cX10_goes 40 = .ok (.iconst 0, 1) := by decide +kernel
theorem dX10_goes_41 : decode cX10_goes 41 = .ok (.invokevirtual 117, 3) := by decide +kernel
theorem dX10_goes_44 : decode cX10_goes 44 = .ok (.istore 5, 2) := by decide +kernel
theorem dX10_goes_46 : decode cX10_goes 46 = .ok (.iload 4, 2) := by decide +kernel
theorem dX10_goes_48 : decode cX10_goes 48 = .ok (.ifCond .eq 12, 3) := by decide +kernel
theorem dX10_goes_51 : decode cX10_goes 51 = .ok (.aload_n 0, 1) := by decide +kernel
theorem dX10_goes_52 : decode cX10_goes 52 = .ok (.iload_n 3, 1) := by decide +kernel
theorem dX10_goes_53 : decode cX10_goes 53 = .ok (.iconst 4, 1) := by decide +kernel
theorem dX10_goes_54 : decode cX10_goes 54 = .ok (.invokevirtual 47, 3) := by decide +kernel
theorem dX10_goes_57 : decode cX10_goes 57 = .ok (.goto 11, 3) := by decide +kernel
theorem dX10_goes_60 : decode cX10_goes 60 = .ok (.aload_n 0, 1) := by decide +kernel
theorem dX10_goes_61 : decode cX10_goes 61 = .ok (.iload_n 1, 1) := by decide +kernel
theorem dX10_goes_62 : decode cX10_goes 62 = .ok (.iload 5, 2) := by decide +kernel
theorem dX10_goes_64 : decode cX10_goes 64 = .ok (.iconst 0, 1) := by decide +kernel
theorem dX10_goes_65 : decode cX10_goes 65 = .ok (.invokevirtual 101, 3) := by decide +kernel
theorem dX10_goes_68 : decode cX10_goes 68 = .ok (.istore 6, 2) := by decide +kernel
theorem dX10_goes_70 : decode cX10_goes 70 = .ok (.aload_n 0, 1) := by decide +kernel
theorem dX10_goes_71 : decode cX10_goes 71 = .ok (.getfield 7, 3) := by decide +kernel
theorem dX10_goes_74 : decode cX10_goes 74 = .ok (.bipush 28, 2) := by decide +kernel
theorem dX10_goes_76 : decode cX10_goes 76 = .ok (.iload 4, 2) := by decide +kernel
theorem dX10_goes_78 : decode cX10_goes 78 = .ok (.ifCond .eq 8, 3) := by decide +kernel
theorem dX10_goes_81 : decode cX10_goes 81 = .ok (.bipush (-4), 2) := by decide +kernel
theorem dX10_goes_83 : decode cX10_goes 83 = .ok (.goto 7, 3) := by decide +kernel
theorem dX10_goes_86 : decode cX10_goes 86 = .ok (.aload_n 0, 1) := by decide +kernel
theorem dX10_goes_87 : decode cX10_goes 87 = .ok (.invokevirtual 120, 3) := by decide +kernel
theorem dX10_goes_90 : decode cX10_goes 90 = .ok (.iastore, 1) := by decide +kernel
theorem dX10_goes_91 : decode cX10_goes 91 = .ok (.iload 4, 2) := by decide +kernel
theorem dX10_goes_93 : decode cX10_goes 93 = .ok (.ifCond .eq 7, 3) := by decide +kernel
theorem dX10_goes_96 : decode cX10_goes 96 = .ok (.iload_n 3, 1) := by decide +kernel
theorem dX10_goes_97 : decode cX10_goes 97 = .ok (.goto 13, 3) := by decide +kernel
theorem dX10_goes_100 : decode cX10_goes 100 = .ok (.aload_n 0, 1) := by decide +kernel
theorem dX10_goes_101 : decode cX10_goes 101 = .ok (.iload_n 1, 1) := by decide +kernel
theorem dX10_goes_102 : decode cX10_goes 102 = .ok (.iload_n 2, 1) := by decide +kernel
theorem dX10_goes_103 : decode cX10_goes 103 = .ok (.iload 5, 2) := by decide +kernel
theorem dX10_goes_105 : decode cX10_goes 105 = .ok (.iload 6, 2) := by decide +kernel
theorem dX10_goes_107 : decode cX10_goes 107 = .ok (.invokevirtual 123, 3) := by decide +kernel
theorem dX10_goes_110 : decode cX10_goes 110 = .ok (.istore_n 3, 1) := by decide +kernel
theorem dX10_goes_111 : decode cX10_goes 111 = .ok (.aload_n 0, 1) := by decide +kernel
theorem dX10_goes_112 : decode cX10_goes 112 = .ok (.getfield 7, 3) := by decide +kernel
theorem dX10_goes_115 : decode cX10_goes 115 = .ok (.bipush 6, 2) := by decide +kernel
theorem dX10_goes_117 : decode cX10_goes 117 = .ok (.dup2, 1) := by decide +kernel
theorem dX10_goes_118 : decode cX10_goes 118 = .ok (.iaload, 1) := by decide +kernel
theorem dX10_goes_119 : decode cX10_goes 119 = .ok (.iconst 1, 1) := by decide +kernel
theorem dX10_goes_120 : decode cX10_goes 120 = .ok (.iadd, 1) := by decide +kernel
theorem dX10_goes_121 : decode cX10_goes 121 = .ok (.iastore, 1) := by decide +kernel
theorem dX10_goes_122 : decode cX10_goes 122 = .ok (.aload_n 0, 1) := by decide +kernel
theorem dX10_goes_123 : decode cX10_goes 123 = .ok (.getfield 7, 3) := by decide +kernel
theorem dX10_goes_126 : decode cX10_goes 126 = .ok (.sipush 307, 3) := by decide +kernel
theorem dX10_goes_129 : decode cX10_goes 129 = .ok (.bipush 10, 2) := by decide +kernel
theorem dX10_goes_131 : decode cX10_goes 131 = .ok (.iload_n 1, 1) := by decide +kernel
theorem dX10_goes_132 : decode cX10_goes 132 = .ok (.imul, 1) := by decide +kernel
theorem dX10_goes_133 : decode cX10_goes 133 = .ok (.iadd, 1) := by decide +kernel
theorem dX10_goes_134 : decode cX10_goes 134 = .ok (.bipush 9, 2) := by decide +kernel
theorem dX10_goes_136 : decode cX10_goes 136 = .ok (.iadd, 1) := by decide +kernel
theorem dX10_goes_137 : decode cX10_goes 137 = .ok (.dup2, 1) := by decide +kernel
theorem dX10_goes_138 : decode cX10_goes 138 = .ok (.iaload, 1) := by decide +kernel
theorem dX10_goes_139 : decode cX10_goes 139 = .ok (.iconst 1, 1) := by decide +kernel
theorem dX10_goes_140 : decode cX10_goes 140 = .ok (.iadd, 1) := by decide +kernel
theorem dX10_goes_141 : decode cX10_goes 141 = .ok (.iastore, 1) := by decide +kernel
theorem dX10_goes_142 : decode cX10_goes 142 = .ok (.aload_n 0, 1) := by decide +kernel
theorem dX10_goes_143 : decode cX10_goes 143 = .ok (.getfield 7, 3) := by decide +kernel
theorem dX10_goes_146 : decode cX10_goes 146 = .ok (.bipush 7, 2) := by decide +kernel
theorem dX10_goes_148 : decode cX10_goes 148 = .ok (.dup2, 1) := by decide +kernel
theorem dX10_goes_149 : decode cX10_goes 149 = .ok (.iaload, 1) := by decide +kernel
theorem dX10_goes_150 : decode cX10_goes 150 = .ok (.iload 4, 2) := by decide +kernel
theorem dX10_goes_152 : decode cX10_goes 152 = .ok (.ifCond .eq 7, 3) := by decide +kernel
theorem dX10_goes_155 : decode cX10_goes 155 = .ok (.iconst 1, 1) := by decide +kernel
theorem dX10_goes_156 : decode cX10_goes 156 = .ok (.goto 4, 3) := by decide +kernel
theorem dX10_goes_159 : decode cX10_goes 159 = .ok (.iconst 0, 1) := by decide +kernel
theorem dX10_goes_160 : decode cX10_goes 160 = .ok (.iadd, 1) := by decide +kernel
theorem dX10_goes_161 : decode cX10_goes 161 = .ok (.iastore, 1) := by decide +kernel
theorem dX10_goes_162 : decode cX10_goes 162 = .ok (.aload_n 0, 1) := by decide +kernel
theorem dX10_goes_163 : decode cX10_goes 163 = .ok (.iload_n 1, 1) := by decide +kernel
theorem dX10_goes_164 : decode cX10_goes 164 = .ok (.iload 5, 2) := by decide +kernel
theorem dX10_goes_166 : decode cX10_goes 166 = .ok (.iconst 1, 1) := by decide +kernel
theorem dX10_goes_167 : decode cX10_goes 167 = .ok (.invokevirtual 101, 3) := by decide +kernel
theorem dX10_goes_170 : decode cX10_goes 170 = .ok (.istore 7, 2) := by decide +kernel
theorem dX10_goes_172 : decode cX10_goes 172 = .ok (.aload_n 0, 1) := by decide +kernel
theorem dX10_goes_173 : decode cX10_goes 173 = .ok (.iload_n 2, 1) := by decide +kernel
theorem dX10_goes_174 : decode cX10_goes 174 = .ok (.iload_n 3, 1) := by decide +kernel
theorem dX10_goes_175 : decode cX10_goes 175 = .ok (.ifCond .ge 8, 3) := by decide +kernel
theorem dX10_goes_178 : decode cX10_goes 178 = .ok (.bipush (-4), 2) := by decide +kernel
theorem dX10_goes_180 : decode cX10_goes 180 = .ok (.goto 9, 3) := by decide +kernel
theorem dX10_goes_183 : decode cX10_goes 183 = .ok (.aload_n 0, 1) := by decide +kernel
theorem dX10_goes_184 : decode cX10_goes 184 = .ok (.iload_n 3, 1) := by decide +kernel
theorem dX10_goes_185 : decode cX10_goes 185 = .ok (.iconst 0, 1) := by decide +kernel
theorem dX10_goes_186 : decode cX10_goes 186 = .ok (.invokevirtual 47, 3) := by decide +kernel
theorem dX10_goes_189 : decode cX10_goes 189 = .ok (.iload 5, 2) := by decide +kernel
theorem dX10_goes_191 : decode cX10_goes 191 = .ok (.iload 6, 2) := by decide +kernel
theorem dX10_goes_193 : decode cX10_goes 193 = .ok (.iload 7, 2) := by decide +kernel
theorem dX10_goes_195 : decode cX10_goes 195 = .ok (.iload 4, 2) := by decide +kernel
theorem dX10_goes_197 : decode cX10_goes 197 = .ok (.ifCond .eq 7, 3) := by decide +kernel
theorem dX10_goes_200 : decode cX10_goes 200 = .ok (.iconst 0, 1) := by decide +kernel
theorem dX10_goes_201 : decode cX10_goes 201 = .ok (.goto 12, 3) := by decide +kernel
theorem dX10_goes_204 : decode cX10_goes 204 = .ok (.iload_n 3, 1) := by decide +kernel
theorem dX10_goes_205 : decode cX10_goes 205 = .ok (.ifCond .ge 7, 3) := by decide +kernel
theorem dX10_goes_208 : decode cX10_goes 208 = .ok (.iconst 2, 1) := by decide +kernel
theorem dX10_goes_209 : decode cX10_goes 209 = .ok (.goto 4, 3) := by decide +kernel
theorem dX10_goes_212 : decode cX10_goes 212 = .ok (.iconst 1, 1) := by decide +kernel
theorem dX10_goes_213 : decode cX10_goes 213 = .ok (.invokevirtual 127, 3) := by decide +kernel
theorem dX10_goes_216 : decode cX10_goes 216 = .ok (.iload 7, 2) := by decide +kernel
theorem dX10_goes_218 : decode cX10_goes 218 = .ok (.aload_n 0, 1) := by decide +kernel
theorem dX10_goes_219 : decode cX10_goes 219 = .ok (.getfield 7, 3) := by decide +kernel
theorem dX10_goes_222 : decode cX10_goes 222 = .ok (.bipush 13, 2) := by decide +kernel
theorem dX10_goes_224 : decode cX10_goes 224 = .ok (.iaload, 1) := by decide +kernel
theorem dX10_goes_225 : decode cX10_goes 225 = .ok (.iload 6, 2) := by decide +kernel
theorem dX10_goes_227 : decode cX10_goes 227 = .ok (.imul, 1) := by decide +kernel
theorem dX10_goes_228 : decode cX10_goes 228 = .ok (.if_icmp .le 7, 3) := by decide +kernel
theorem dX10_goes_231 : decode cX10_goes 231 = .ok (.iconst 1, 1) := by decide +kernel
theorem dX10_goes_232 : decode cX10_goes 232 = .ok (.goto 4, 3) := by decide +kernel
theorem dX10_goes_235 : decode cX10_goes 235 = .ok (.iconst 0, 1) := by decide +kernel
theorem dX10_goes_236 : decode cX10_goes 236 = .ok (.istore 8, 2) := by decide +kernel
theorem dX10_goes_238 : decode cX10_goes 238 = .ok (.aload_n 0, 1) := by decide +kernel
theorem dX10_goes_239 : decode cX10_goes 239 = .ok (.getfield 7, 3) := by decide +kernel
theorem dX10_goes_242 : decode cX10_goes 242 = .ok (.bipush 27, 2) := by decide +kernel
theorem dX10_goes_244 : decode cX10_goes 244 = .ok (.iload 8, 2) := by decide +kernel
theorem dX10_goes_246 : decode cX10_goes 246 = .ok (.ifCond .eq 7, 3) := by decide +kernel
theorem dX10_goes_249 : decode cX10_goes 249 = .ok (.iconst 1, 1) := by decide +kernel
theorem dX10_goes_250 : decode cX10_goes 250 = .ok (.goto 4, 3) := by decide +kernel
theorem dX10_goes_253 : decode cX10_goes 253 = .ok (.iconst 0, 1) := by decide +kernel
theorem dX10_goes_254 : decode cX10_goes 254 = .ok (.iastore, 1) := by decide +kernel
theorem dX10_goes_255 : decode cX10_goes 255 = .ok (.aload_n 0, 1) := by decide +kernel
theorem dX10_goes_256 : decode cX10_goes 256 = .ok (.getfield 7, 3) := by decide +kernel
theorem dX10_goes_259 : decode cX10_goes 259 = .ok (.bipush 9, 2) := by decide +kernel
theorem dX10_goes_261 : decode cX10_goes 261 = .ok (.dup2, 1) := by decide +kernel
theorem dX10_goes_262 : decode cX10_goes 262 = .ok (.iaload, 1) := by decide +kernel
theorem dX10_goes_263 : decode cX10_goes 263 = .ok (.iload 8, 2) := by decide +kernel
theorem dX10_goes_265 : decode cX10_goes 265 = .ok (.ifCond .eq 7, 3) := by decide +kernel
theorem dX10_goes_268 : decode cX10_goes 268 = .ok (.iconst 1, 1) := by decide +kernel
theorem dX10_goes_269 : decode cX10_goes 269 = .ok (.goto 4, 3) := by decide +kernel
theorem dX10_goes_272 : decode cX10_goes 272 = .ok (.iconst 0, 1) := by decide +kernel
theorem dX10_goes_273 : decode cX10_goes 273 = .ok (.iadd, 1) := by decide +kernel
theorem dX10_goes_274 : decode cX10_goes 274 = .ok (.iastore, 1) := by decide +kernel
theorem dX10_goes_275 : decode cX10_goes 275 = .ok (.iload_n 3, 1) := by decide +kernel
theorem dX10_goes_276 : decode cX10_goes 276 = .ok (.ifCond .lt 112, 3) := by decide +kernel
theorem dX10_goes_279 : decode cX10_goes 279 = .ok (.aload_n 0, 1) := by decide +kernel
theorem dX10_goes_280 : decode cX10_goes 280 = .ok (.getfield 7, 3) := by decide +kernel
theorem dX10_goes_283 : decode cX10_goes 283 = .ok (.sipush 367, 3) := by decide +kernel
theorem dX10_goes_286 : decode cX10_goes 286 = .ok (.bipush 9, 2) := by decide +kernel
theorem dX10_goes_288 : decode cX10_goes 288 = .ok (.iload_n 3, 1) := by decide +kernel
theorem dX10_goes_289 : decode cX10_goes 289 = .ok (.imul, 1) := by decide +kernel
theorem dX10_goes_290 : decode cX10_goes 290 = .ok (.iadd, 1) := by decide +kernel
theorem dX10_goes_291 : decode cX10_goes 291 = .ok (.iconst 5, 1) := by decide +kernel
theorem dX10_goes_292 : decode cX10_goes 292 = .ok (.iadd, 1) := by decide +kernel
theorem dX10_goes_293 : decode cX10_goes 293 = .ok (.dup2, 1) := by decide +kernel
theorem dX10_goes_294 : decode cX10_goes 294 = .ok (.iaload, 1) := by decide +kernel
theorem dX10_goes_295 : decode cX10_goes 295 = .ok (.iconst 1, 1) := by decide +kernel
theorem dX10_goes_296 : decode cX10_goes 296 = .ok (.iadd, 1) := by decide +kernel
theorem dX10_goes_297 : decode cX10_goes 297 = .ok (.iastore, 1) := by decide +kernel
theorem dX10_goes_298 : decode cX10_goes 298 = .ok (.aload_n 0, 1) := by decide +kernel
theorem dX10_goes_299 : decode cX10_goes 299 = .ok (.getfield 7, 3) := by decide +kernel
theorem dX10_goes_302 : decode cX10_goes 302 = .ok (.sipush 367, 3) := by decide +kernel
theorem dX10_goes_305 : decode cX10_goes 305 = .ok (.bipush 9, 2) := by decide +kernel
theorem dX10_goes_307 : decode cX10_goes 307 = .ok (.iload_n 3, 1) := by decide +kernel
theorem dX10_goes_308 : decode cX10_goes 308 = .ok (.imul, 1) := by decide +kernel
theorem dX10_goes_309 : decode cX10_goes 309 = .ok (.iadd, 1) := by decide +kernel
theorem dX10_goes_310 : decode cX10_goes 310 = .ok (.bipush 8, 2) := by decide +kernel
theorem dX10_goes_312 : decode cX10_goes 312 = .ok (.iadd, 1) := by decide +kernel
theorem dX10_goes_313 : decode cX10_goes 313 = .ok (.aload_n 0, 1) := by decide +kernel
theorem dX10_goes_314 : decode cX10_goes 314 = .ok (.getfield 7, 3) := by decide +kernel
theorem dX10_goes_317 : decode cX10_goes 317 = .ok (.bipush 6, 2) := by decide +kernel
theorem dX10_goes_319 : decode cX10_goes 319 = .ok (.iaload, 1) := by decide +kernel
theorem dX10_goes_320 : decode cX10_goes 320 = .ok (.iastore, 1) := by decide +kernel
theorem dX10_goes_321 : decode cX10_goes 321 = .ok (.aload_n 0, 1) := by decide +kernel
theorem dX10_goes_322 : decode cX10_goes 322 = .ok (.getfield 7, 3) := by decide +kernel
theorem dX10_goes_325 : decode cX10_goes 325 = .ok (.sipush 367, 3) := by decide +kernel
theorem dX10_goes_328 : decode cX10_goes 328 = .ok (.bipush 9, 2) := by decide +kernel
theorem dX10_goes_330 : decode cX10_goes 330 = .ok (.iload_n 3, 1) := by decide +kernel
theorem dX10_goes_331 : decode cX10_goes 331 = .ok (.imul, 1) := by decide +kernel
theorem dX10_goes_332 : decode cX10_goes 332 = .ok (.iadd, 1) := by decide +kernel
theorem dX10_goes_333 : decode cX10_goes 333 = .ok (.bipush 6, 2) := by decide +kernel
theorem dX10_goes_335 : decode cX10_goes 335 = .ok (.iadd, 1) := by decide +kernel
theorem dX10_goes_336 : decode cX10_goes 336 = .ok (.dup2, 1) := by decide +kernel
theorem dX10_goes_337 : decode cX10_goes 337 = .ok (.iaload, 1) := by decide +kernel
theorem dX10_goes_338 : decode cX10_goes 338 = .ok (.iload 8, 2) := by decide +kernel
theorem dX10_goes_340 : decode cX10_goes 340 = .ok (.ifCond .eq 7, 3) := by decide +kernel
theorem dX10_goes_343 : decode cX10_goes 343 = .ok (.iconst 1, 1) := by decide +kernel
theorem dX10_goes_344 : decode cX10_goes 344 = .ok (.goto 4, 3) := by decide +kernel
theorem dX10_goes_347 : decode cX10_goes 347 = .ok (.iconst 0, 1) := by decide +kernel
theorem dX10_goes_348 : decode cX10_goes 348 = .ok (.iadd, 1) := by decide +kernel
theorem dX10_goes_349 : decode cX10_goes 349 = .ok (.iastore, 1) := by decide +kernel
theorem dX10_goes_350 : decode cX10_goes 350 = .ok (.iload 8, 2) := by decide +kernel
theorem dX10_goes_352 : decode cX10_goes 352 = .ok (.ifCond .eq 36, 3) := by decide +kernel
theorem dX10_goes_355 : decode cX10_goes 355 = .ok (.aload_n 0, 1) := by decide +kernel
theorem dX10_goes_356 : decode cX10_goes 356 = .ok (.iload_n 3, 1) := by decide +kernel
theorem dX10_goes_357 : decode cX10_goes 357 = .ok (.bipush 6, 2) := by decide +kernel
theorem dX10_goes_359 : decode cX10_goes 359 = .ok (.invokevirtual 47, 3) := by decide +kernel
theorem dX10_goes_362 : decode cX10_goes 362 = .ok (.aload_n 0, 1) := by decide +kernel
theorem dX10_goes_363 : decode cX10_goes 363 = .ok (.getfield 7, 3) := by decide +kernel
theorem dX10_goes_366 : decode cX10_goes 366 = .ok (.bipush 14, 2) := by decide +kernel
theorem dX10_goes_368 : decode cX10_goes 368 = .ok (.iaload, 1) := by decide +kernel
theorem dX10_goes_369 : decode cX10_goes 369 = .ok (.if_icmp .lt 19, 3) := by decide +kernel
theorem dX10_goes_372 : decode cX10_goes 372 = .ok (.aload_n 0, 1) := by decide +kernel
theorem dX10_goes_373 : decode cX10_goes 373 = .ok (.iload_n 3, 1) := by decide +kernel
theorem dX10_goes_374 : decode cX10_goes 374 = .ok (.invokevirtual 53, 3) := by decide +kernel
theorem dX10_goes_377 : decode cX10_goes 377 = .ok (.aload_n 0, 1) := by decide +kernel
theorem dX10_goes_378 : decode cX10_goes 378 = .ok (.getfield 7, 3) := by decide +kernel
theorem dX10_goes_381 : decode cX10_goes 381 = .ok (.bipush 10, 2) := by decide +kernel
theorem dX10_goes_383 : decode cX10_goes 383 = .ok (.dup2, 1) := by decide +kernel
theorem dX10_goes_384 : decode cX10_goes 384 = .ok (.iaload, 1) := by decide +kernel
theorem dX10_goes_385 : decode cX10_goes 385 = .ok (.iconst 1, 1) := by decide +kernel
theorem dX10_goes_386 : decode cX10_goes 386 = .ok (.iadd, 1) := by decide +kernel
theorem dX10_goes_387 : decode cX10_goes 387 = .ok (.iastore, 1) := by decide +kernel
theorem dX10_goes_388 : decode cX10_goes 388 = .ok (.return_, 1) := by decide +kernel
theorem dX10_run_0 : decode cX10_run 0 = .ok (.aload_n 0, 1) := by decide +kernel
theorem dX10_run_1 : decode cX10_run 1 = .ok (.iload_n 1, 1) := by decide +kernel
theorem dX10_run_2 : decode cX10_run 2 = .ok (.iload_n 2, 1) := by decide +kernel
theorem dX10_run_3 : decode cX10_run 3 = .ok (.iload_n 3, 1) := by decide +kernel
theorem dX10_run_4 : decode cX10_run 4 = .ok (.iload 4, 2) := by decide +kernel
theorem dX10_run_6 : decode cX10_run 6 = .ok (.iload 5, 2) := by decide +kernel
theorem dX10_run_8 : decode cX10_run 8 = .ok (.invokevirtual 131, 3) := by decide +kernel
theorem dX10_run_11 : decode cX10_run 11 = .ok (.ifCond .ne 5, 3) := by decide +kernel
theorem dX10_run_14 : decode cX10_run 14 = .ok (.iconst (-1), 1) := by decide +kernel
theorem dX10_run_15 : decode cX10_run 15 = .ok (.ireturn, 1) := by decide +kernel
theorem dX10_run_16 : decode cX10_run 16 = .ok (.aload_n 0, 1) := by decide +kernel
theorem dX10_run_17 : decode cX10_run 17 = .ok (.invokevirtual 34, 3) := by decide +kernel
theorem dX10_run_20 : decode cX10_run 20 = .ok (.aload_n 0, 1) := by decide +kernel
theorem dX10_run_21 : decode cX10_run 21 = .ok (.getfield 7, 3) := by decide +kernel
theorem dX10_run_24 : decode cX10_run 24 = .ok (.bipush 16, 2) := by decide +kernel
theorem dX10_run_26 : decode cX10_run 26 = .ok (.iload_n 1, 1) := by decide +kernel
theorem dX10_run_27 : decode cX10_run 27 = .ok (.iastore, 1) := by decide +kernel
theorem dX10_run_28 : decode cX10_run 28 = .ok (.iconst 0, 1) := by decide +kernel
theorem dX10_run_29 : decode cX10_run 29 = .ok (.istore 6, 2) := by decide +kernel
theorem dX10_run_31 : decode cX10_run 31 = .ok (.iload 6, 2) := by decide +kernel
theorem dX10_run_33 : decode cX10_run 33 = .ok (.iconst 4, 1) := by decide +kernel
theorem dX10_run_34 : decode cX10_run 34 = .ok (.if_icmp .ge 26, 3) := by decide +kernel
theorem dX10_run_37 : decode cX10_run 37 = .ok (.aload_n 0, 1) := by decide +kernel
theorem dX10_run_38 : decode cX10_run 38 = .ok (.getfield 7, 3) := by decide +kernel
theorem dX10_run_41 : decode cX10_run 41 = .ok (.bipush 17, 2) := by decide +kernel
theorem dX10_run_43 : decode cX10_run 43 = .ok (.iload 6, 2) := by decide +kernel
theorem dX10_run_45 : decode cX10_run 45 = .ok (.iadd, 1) := by decide +kernel
theorem dX10_run_46 : decode cX10_run 46 = .ok (.aload_n 0, 1) := by decide +kernel
theorem dX10_run_47 : decode cX10_run 47 = .ok (.getfield 19, 3) := by decide +kernel
theorem dX10_run_50 : decode cX10_run 50 = .ok (.iload 6, 2) := by decide +kernel
theorem dX10_run_52 : decode cX10_run 52 = .ok (.iaload, 1) := by decide +kernel
theorem dX10_run_53 : decode cX10_run 53 = .ok (.iastore, 1) := by decide +kernel
theorem dX10_run_54 : decode cX10_run 54 = .ok (.iinc 6 1, 3) := by decide +kernel
theorem dX10_run_57 : decode cX10_run 57 = .ok (.goto (-26), 3) := by decide +kernel
theorem dX10_run_60 : decode cX10_run 60 = .ok (.aload_n 0, 1) := by decide +kernel
theorem dX10_run_61 : decode cX10_run 61 = .ok (.iload_n 1, 1) := by decide +kernel
theorem dX10_run_62 : decode cX10_run 62 = .ok (.invokevirtual 135, 3) := by decide +kernel
theorem dX10_run_65 : decode cX10_run 65 = .ok (.iconst 0, 1) := by decide +kernel
theorem dX10_run_66 : decode cX10_run 66 = .ok (.istore 6, 2) := by decide +kernel
theorem dX10_run_68 : decode cX10_run 68 = .ok (.iconst 0, 1) := by decide +kernel
theorem dX10_run_69 : decode cX10_run 69 = .ok (.istore 7, 2) := by decide +kernel
theorem dX10_run_71 : decode cX10_run 71 = .ok (.iload 7, 2) := by decide +kernel
theorem dX10_run_73 : decode cX10_run 73 = .ok (.aload_n 0, 1) := by decide +kernel
theorem dX10_run_74 : decode cX10_run 74 = .ok (.getfield 7, 3) := by decide +kernel
theorem dX10_run_77 : decode cX10_run 77 = .ok (.iconst 0, 1) := by decide +kernel
theorem dX10_run_78 : decode cX10_run 78 = .ok (.iaload, 1) := by decide +kernel
theorem dX10_run_79 : decode cX10_run 79 = .ok (.if_icmp .ge 87, 3) := by decide +kernel
theorem dX10_run_82 : decode cX10_run 82 = .ok (.iconst 1, 1) := by decide +kernel
theorem dX10_run_83 : decode cX10_run 83 = .ok (.istore 8, 2) := by decide +kernel
theorem dX10_run_85 : decode cX10_run 85 = .ok (.iconst 0, 1) := by decide +kernel
theorem dX10_run_86 : decode cX10_run 86 = .ok (.istore 9, 2) := by decide +kernel
theorem dX10_run_88 : decode cX10_run 88 = .ok (.iload 9, 2) := by decide +kernel
theorem dX10_run_90 : decode cX10_run 90 = .ok (.aload_n 0, 1) := by decide +kernel
theorem dX10_run_91 : decode cX10_run 91 = .ok (.iload_n 1, 1) := by decide +kernel
theorem dX10_run_92 : decode cX10_run 92 = .ok (.invokevirtual 70, 3) := by decide +kernel
theorem dX10_run_95 : decode cX10_run 95 = .ok (.if_icmp .ge 44, 3) := by decide +kernel
theorem dX10_run_98 : decode cX10_run 98 = .ok (.iload 8, 2) := by decide +kernel
theorem dX10_run_100 : decode cX10_run 100 = .ok (.ifCond .eq 30, 3) := by decide +kernel
theorem dX10_run_103 : decode cX10_run 103 = .ok (.aload_n 0, 1) := by decide +kernel
theorem dX10_run_104 : decode cX10_run 104 = .ok (.iload_n 1, 1) := by decide +kernel
theorem dX10_run_105 : decode cX10_run 105 = .ok (.iload 9, 2) := by decide +kernel
theorem dX10_run_107 : decode cX10_run 107 = .ok (.aload_n 0, 1) := by decide +kernel
theorem dX10_run_108 : decode cX10_run 108 = .ok (.iload 7, 2) := by decide +kernel
theorem dX10_run_110 : decode cX10_run 110 = .ok (.aload_n 0, 1) := by decide +kernel
theorem dX10_run_111 : decode cX10_run 111 = .ok (.iload_n 1, 1) := by decide +kernel
theorem dX10_run_112 : decode cX10_run 112 = .ok (.iload 9, 2) := by decide +kernel
theorem dX10_run_114 : decode cX10_run 114 = .ok (.invokevirtual 50, 3) := by decide +kernel
theorem dX10_run_117 : decode cX10_run 117 = .ok (.invokevirtual 40, 3) := by decide +kernel
theorem dX10_run_120 : decode cX10_run 120 = .ok (.invokevirtual 94, 3) := by decide +kernel
theorem dX10_run_123 : decode cX10_run 123 = .ok (.ifCond .eq 7, 3) := by decide +kernel
theorem dX10_run_126 : decode cX10_run 126 = .ok (.iconst 1, 1) := by decide +kernel
theorem dX10_run_127 : decode cX10_run 127 = .ok (.goto 4, 3) := by decide +kernel
theorem dX10_run_130 : decode cX10_run 130 = .ok (.iconst 0, 1) := by decide +kernel
theorem dX10_run_131 : decode cX10_run 131 = .ok (.istore 8, 2) := by decide +kernel
theorem dX10_run_133 : decode cX10_run 133 = .ok (.iinc 9 1, 3) := by decide +kernel
theorem dX10_run_136 : decode cX10_run 136 = .ok (.goto (-48), 3) := by decide +kernel
theorem dX10_run_139 : decode cX10_run 139 = .ok (.iload 6, 2) := by decide +kernel
theorem dX10_run_141 : decode cX10_run 141 = .ok (.iload 8, 2) := by decide +kernel
theorem dX10_run_143 : decode cX10_run 143 = .ok (.ifCond .eq 13, 3) := by decide +kernel
theorem dX10_run_146 : decode cX10_run 146 = .ok (.aload_n 0, 1) := by decide +kernel
theorem dX10_run_147 : decode cX10_run 147 = .ok (.iload 7, 2) := by decide +kernel
theorem dX10_run_149 : decode cX10_run 149 = .ok (.iconst 4, 1) := by decide +kernel
theorem dX10_run_150 : decode cX10_run 150 = .ok (.invokevirtual 40, 3) := by decide +kernel
theorem dX10_run_153 : decode cX10_run 153 = .ok (.goto 4, 3) := by decide +kernel
theorem dX10_run_156 : decode cX10_run 156 = .ok (.iconst 0, 1) := by decide +kernel
theorem dX10_run_157 : decode cX10_run 157 = .ok (.iadd, 1) := by decide +kernel
theorem dX10_run_158 : decode cX10_run 158 = .ok (.istore 6, 2) := by decide +kernel
theorem dX10_run_160 : decode cX10_run 160 = .ok (.iinc 7 1, 3) := by decide +kernel
theorem dX10_run_163 : decode cX10_run 163 = .ok (.goto (-92), 3) := by decide +kernel
theorem dX10_run_166 : decode cX10_run 166 = .ok (.iload 6, 2) := by decide +kernel
theorem dX10_run_168 : decode cX10_run 168 = .ok (.ireturn, 1) := by decide +kernel
theorem dX10_latest_0 : decode cX10_latest 0 = .ok (.iload_n 1, 1) := by decide +kernel
theorem dX10_latest_1 : decode cX10_latest 1 = .ok (.iconst 0, 1) := by decide +kernel
theorem dX10_latest_2 : decode cX10_latest 2 = .ok (.bipush 7, 2) := by decide +kernel
theorem dX10_latest_4 : decode cX10_latest 4 = .ok (.invokestatic 26, 3) := by decide +kernel
theorem dX10_latest_7 : decode cX10_latest 7 = .ok (.ifCond .ne 5, 3) := by decide +kernel
theorem dX10_latest_10 : decode cX10_latest 10 = .ok (.iconst (-1), 1) := by decide +kernel
theorem dX10_latest_11 : decode cX10_latest 11 = .ok (.ireturn, 1) := by decide +kernel
theorem dX10_latest_12 : decode cX10_latest 12 = .ok (.aload_n 0, 1) := by decide +kernel
theorem dX10_latest_13 : decode cX10_latest 13 = .ok (.getfield 7, 3) := by decide +kernel
theorem dX10_latest_16 : decode cX10_latest 16 = .ok (.bipush 16, 2) := by decide +kernel
theorem dX10_latest_18 : decode cX10_latest 18 = .ok (.iaload, 1) := by decide +kernel
theorem dX10_latest_19 : decode cX10_latest 19 = .ok (.ifCond .ge 8, 3) := by decide +kernel
theorem dX10_latest_22 : decode cX10_latest 22 = .ok (.bipush (-4), 2) := by decide +kernel
theorem dX10_latest_24 : decode cX10_latest 24 = .ok (.goto 12, 3) := by decide +kernel
theorem dX10_latest_27 : decode cX10_latest 27 = .ok (.aload_n 0, 1) := by decide +kernel
theorem dX10_latest_28 : decode cX10_latest 28 = .ok (.getfield 7, 3) := by decide +kernel
theorem dX10_latest_31 : decode cX10_latest 31 = .ok (.bipush 21, 2) := by decide +kernel
theorem dX10_latest_33 : decode cX10_latest 33 = .ok (.iload_n 1, 1) := by decide +kernel
theorem dX10_latest_34 : decode cX10_latest 34 = .ok (.iadd, 1) := by decide +kernel
theorem dX10_latest_35 : decode cX10_latest 35 = .ok (.iaload, 1) := by decide +kernel
theorem dX10_latest_36 : decode cX10_latest 36 = .ok (.ireturn, 1) := by decide +kernel
theorem dX10_pinned_0 : decode cX10_pinned 0 = .ok (.iconst 0, 1) := by decide +kernel
theorem dX10_pinned_1 : decode cX10_pinned 1 = .ok (.istore_n 1, 1) := by decide +kernel
theorem dX10_pinned_2 : decode cX10_pinned 2 = .ok (.iconst 0, 1) := by decide +kernel
theorem dX10_pinned_3 : decode cX10_pinned 3 = .ok (.istore_n 2, 1) := by decide +kernel
theorem dX10_pinned_4 : decode cX10_pinned 4 = .ok (.iload_n 2, 1) := by decide +kernel
theorem dX10_pinned_5 : decode cX10_pinned 5 = .ok (.aload_n 0, 1) := by decide +kernel
theorem dX10_pinned_6 : decode cX10_pinned 6 = .ok (.getfield 7, 3) := by decide +kernel
theorem dX10_pinned_9 : decode cX10_pinned 9 = .ok (.iconst 4, 1) := by decide +kernel
theorem dX10_pinned_10 : decode cX10_pinned 10 = .ok (.iaload, 1) := by decide +kernel
theorem dX10_pinned_11 : decode cX10_pinned 11 = .ok (.if_icmp .ge 19, 3) := by decide +kernel
theorem dX10_pinned_14 : decode cX10_pinned 14 = .ok (.iload_n 1, 1) := by decide +kernel
theorem dX10_pinned_15 : decode cX10_pinned 15 = .ok (.aload_n 0, 1) := by decide +kernel
theorem dX10_pinned_16 : decode cX10_pinned 16 = .ok (.iload_n 2, 1) := by decide +kernel
theorem dX10_pinned_17 : decode cX10_pinned 17 = .ok (.bipush 7, 2) := by decide +kernel
theorem dX10_pinned_19 : decode cX10_pinned 19 = .ok (.invokevirtual 47, 3) := by decide +kernel
theorem dX10_pinned_22 : decode cX10_pinned 22 = .ok (.iadd, 1) := by decide +kernel
theorem dX10_pinned_23 : decode cX10_pinned 23 = .ok (.istore_n 1, 1) := by decide +kernel
theorem dX10_pinned_24 : decode cX10_pinned 24 = .ok (.iinc 2 1, 3) := by decide +kernel
theorem dX10_pinned_27 : decode cX10_pinned 27 = .ok (.goto (-23), 3) := by decide +kernel
theorem dX10_pinned_30 : decode cX10_pinned 30 = .ok (.iload_n 1, 1) := by decide +kernel
theorem dX10_pinned_31 : decode cX10_pinned 31 = .ok (.ireturn, 1) := by decide +kernel
theorem dX10_pin_0 : decode cX10_pin 0 = .ok (.aload_n 0, 1) := by decide +kernel
theorem dX10_pin_1 : decode cX10_pin 1 = .ok (.iload_n 1, 1) := by decide +kernel
theorem dX10_pin_2 : decode cX10_pin 2 = .ok (.invokevirtual 138, 3) := by decide +kernel
theorem dX10_pin_5 : decode cX10_pin 5 = .ok (.istore_n 3, 1) := by decide +kernel
theorem dX10_pin_6 : decode cX10_pin 6 = .ok (.iload_n 3, 1) := by decide +kernel
theorem dX10_pin_7 : decode cX10_pin 7 = .ok (.ifCond .lt 12, 3) := by decide +kernel
theorem dX10_pin_10 : decode cX10_pin 10 = .ok (.iload_n 2, 1) := by decide +kernel
theorem dX10_pin_11 : decode cX10_pin 11 = .ok (.iconst 0, 1) := by decide +kernel
theorem dX10_pin_12 : decode cX10_pin 12 = .ok (.iconst 1, 1) := by decide +kernel
theorem dX10_pin_13 : decode cX10_pin 13 = .ok (.invokestatic 26, 3) := by decide +kernel
theorem dX10_pin_16 : decode cX10_pin 16 = .ok (.ifCond .ne 5, 3) := by decide +kernel
theorem dX10_pin_19 : decode cX10_pin 19 = .ok (.iconst (-1), 1) := by decide +kernel
theorem dX10_pin_20 : decode cX10_pin 20 = .ok (.ireturn, 1) := by decide +kernel
theorem dX10_pin_21 : decode cX10_pin 21 = .ok (.aload_n 0, 1) := by decide +kernel
theorem dX10_pin_22 : decode cX10_pin 22 = .ok (.invokevirtual 34, 3) := by decide +kernel
theorem dX10_pin_25 : decode cX10_pin 25 = .ok (.aload_n 0, 1) := by decide +kernel
theorem dX10_pin_26 : decode cX10_pin 26 = .ok (.getfield 7, 3) := by decide +kernel
theorem dX10_pin_29 : decode cX10_pin 29 = .ok (.sipush 367, 3) := by decide +kernel
theorem dX10_pin_32 : decode cX10_pin 32 = .ok (.bipush 9, 2) := by decide +kernel
theorem dX10_pin_34 : decode cX10_pin 34 = .ok (.iload_n 3, 1) := by decide +kernel
theorem dX10_pin_35 : decode cX10_pin 35 = .ok (.imul, 1) := by decide +kernel
theorem dX10_pin_36 : decode cX10_pin 36 = .ok (.iadd, 1) := by decide +kernel
theorem dX10_pin_37 : decode cX10_pin 37 = .ok (.bipush 7, 2) := by decide +kernel
theorem dX10_pin_39 : decode cX10_pin 39 = .ok (.iadd, 1) := by decide +kernel
theorem dX10_pin_40 : decode cX10_pin 40 = .ok (.iload_n 2, 1) := by decide +kernel
theorem dX10_pin_41 : decode cX10_pin 41 = .ok (.iastore, 1) := by decide +kernel
theorem dX10_pin_42 : decode cX10_pin 42 = .ok (.aload_n 0, 1) := by decide +kernel
theorem dX10_pin_43 : decode cX10_pin 43 = .ok (.invokevirtual 141, 3) := by decide +kernel
theorem dX10_pin_46 : decode cX10_pin 46 = .ok (.ireturn, 1) := by decide +kernel
theorem dX10_drop_0 : decode cX10_drop 0 = .ok (.aload_n 0, 1) := by decide +kernel
theorem dX10_drop_1 : decode cX10_drop 1 = .ok (.iload_n 1, 1) := by decide +kernel
theorem dX10_drop_2 : decode cX10_drop 2 = .ok (.invokevirtual 138, 3) := by decide +kernel
theorem dX10_drop_5 : decode cX10_drop 5 = .ok (.istore_n 2, 1) := by decide +kernel
theorem dX10_drop_6 : decode cX10_drop 6 = .ok (.iload_n 2, 1) := by decide +kernel
theorem dX10_drop_7 : decode cX10_drop 7 = .ok (.ifCond .ge 5, 3) := by decide +kernel
theorem dX10_drop_10 : decode cX10_drop 10 = .ok (.iconst (-1), 1) := by decide +kernel
theorem dX10_drop_11 : decode cX10_drop 11 = .ok (.ireturn, 1) := by decide +kernel
theorem dX10_drop_12 : decode cX10_drop 12 = .ok (.aload_n 0, 1) := by decide +kernel
theorem dX10_drop_13 : decode cX10_drop 13 = .ok (.iload_n 2, 1) := by decide +kernel
theorem dX10_drop_14 : decode cX10_drop 14 = .ok (.bipush 7, 2) := by decide +kernel
theorem dX10_drop_16 : decode cX10_drop 16 = .ok (.invokevirtual 47, 3) := by decide +kernel
theorem dX10_drop_19 : decode cX10_drop 19 = .ok (.iconst 1, 1) := by decide +kernel
theorem dX10_drop_20 : decode cX10_drop 20 = .ok (.if_icmp .ne 6, 3) := by decide +kernel
theorem dX10_drop_23 : decode cX10_drop 23 = .ok (.bipush (-2), 2) := by decide +kernel
theorem dX10_drop_25 : decode cX10_drop 25 = .ok (.ireturn, 1) := by decide +kernel
theorem dX10_drop_26 : decode cX10_drop 26 = .ok (.aload_n 0, 1) := by decide +kernel
theorem dX10_drop_27 : decode cX10_drop 27 = .ok (.invokevirtual 34, 3) := by decide +kernel
theorem dX10_drop_30 : decode cX10_drop 30 = .ok (.aload_n 0, 1) := by decide +kernel
theorem dX10_drop_31 : decode cX10_drop 31 = .ok (.iload_n 2, 1) := by decide +kernel
theorem dX10_drop_32 : decode cX10_drop 32 = .ok (.invokevirtual 53, 3) := by decide +kernel
theorem dX10_drop_35 : decode cX10_drop 35 = .ok (.aload_n 0, 1) := by decide +kernel
theorem dX10_drop_36 : decode cX10_drop 36 = .ok (.getfield 7, 3) := by decide +kernel
theorem dX10_drop_39 : decode cX10_drop 39 = .ok (.bipush 10, 2) := by decide +kernel
theorem dX10_drop_41 : decode cX10_drop 41 = .ok (.dup2, 1) := by decide +kernel
theorem dX10_drop_42 : decode cX10_drop 42 = .ok (.iaload, 1) := by decide +kernel
theorem dX10_drop_43 : decode cX10_drop 43 = .ok (.iconst 1, 1) := by decide +kernel
theorem dX10_drop_44 : decode cX10_drop 44 = .ok (.iadd, 1) := by decide +kernel
theorem dX10_drop_45 : decode cX10_drop 45 = .ok (.iastore, 1) := by decide +kernel
theorem dX10_drop_46 : decode cX10_drop 46 = .ok (.aload_n 0, 1) := by decide +kernel
theorem dX10_drop_47 : decode cX10_drop 47 = .ok (.getfield 7, 3) := by decide +kernel
theorem dX10_drop_50 : decode cX10_drop 50 = .ok (.iconst 4, 1) := by decide +kernel
theorem dX10_drop_51 : decode cX10_drop 51 = .ok (.iaload, 1) := by decide +kernel
theorem dX10_drop_52 : decode cX10_drop 52 = .ok (.ireturn, 1) := by decide +kernel
theorem dX10_set_0 : decode cX10_set 0 = .ok (.iload_n 1, 1) := by decide +kernel
theorem dX10_set_1 : decode cX10_set 1 = .ok (.iconst 0, 1) := by decide +kernel
theorem dX10_set_2 : decode cX10_set 2 = .ok (.iconst 4, 1) := by decide +kernel
theorem dX10_set_3 : decode cX10_set 3 = .ok (.invokestatic 26, 3) := by decide +kernel
theorem dX10_set_6 : decode cX10_set 6 = .ok (.ifCond .eq 53, 3) := by decide +kernel
theorem dX10_set_9 : decode cX10_set 9 = .ok (.iload_n 2, 1) := by decide +kernel
theorem dX10_set_10 : decode cX10_set 10 = .ok (.iload_n 1, 1) := by decide +kernel
theorem dX10_set_11 : decode cX10_set 11 = .ok (.iconst 2, 1) := by decide +kernel
theorem dX10_set_12 : decode cX10_set 12 = .ok (.if_icmp .ge 7, 3) := by decide +kernel
theorem dX10_set_15 : decode cX10_set 15 = .ok (.iconst 0, 1) := by decide +kernel
theorem dX10_set_16 : decode cX10_set 16 = .ok (.goto 4, 3) := by decide +kernel
theorem dX10_set_19 : decode cX10_set 19 = .ok (.iconst 1, 1) := by decide +kernel
theorem dX10_set_20 : decode cX10_set 20 = .ok (.iload_n 1, 1) := by decide +kernel
theorem dX10_set_21 : decode cX10_set 21 = .ok (.iconst 2, 1) := by decide +kernel
theorem dX10_set_22 : decode cX10_set 22 = .ok (.if_icmp .ge 9, 3) := by decide +kernel
theorem dX10_set_25 : decode cX10_set 25 = .ok (.sipush 1000, 3) := by decide +kernel
theorem dX10_set_28 : decode cX10_set 28 = .ok (.goto 25, 3) := by decide +kernel
theorem dX10_set_31 : decode cX10_set 31 = .ok (.iload_n 1, 1) := by decide +kernel
theorem dX10_set_32 : decode cX10_set 32 = .ok (.iconst 2, 1) := by decide +kernel
theorem dX10_set_33 : decode cX10_set 33 = .ok (.if_icmp .ne 8, 3) := by decide +kernel
theorem dX10_set_36 : decode cX10_set 36 = .ok (.bipush 99, 2) := by decide +kernel
theorem dX10_set_38 : decode cX10_set 38 = .ok (.goto 15, 3) := by decide +kernel
theorem dX10_set_41 : decode cX10_set 41 = .ok (.iload_n 1, 1) := by decide +kernel
theorem dX10_set_42 : decode cX10_set 42 = .ok (.iconst 3, 1) := by decide +kernel
theorem dX10_set_43 : decode cX10_set 43 = .ok (.if_icmp .ne 8, 3) := by decide +kernel
theorem dX10_set_46 : decode cX10_set 46 = .ok (.bipush 9, 2) := by decide +kernel
theorem dX10_set_48 : decode cX10_set 48 = .ok (.goto 5, 3) := by decide +kernel
theorem dX10_set_51 : decode cX10_set 51 = .ok (.bipush 8, 2) := by decide +kernel
theorem dX10_set_53 : decode cX10_set 53 = .ok (.invokestatic 26, 3) := by decide +kernel
theorem dX10_set_56 : decode cX10_set 56 = .ok (.ifCond .ne 5, 3) := by decide +kernel
theorem dX10_set_59 : decode cX10_set 59 = .ok (.iconst (-1), 1) := by decide +kernel
theorem dX10_set_60 : decode cX10_set 60 = .ok (.ireturn, 1) := by decide +kernel
theorem dX10_set_61 : decode cX10_set 61 = .ok (.aload_n 0, 1) := by decide +kernel
theorem dX10_set_62 : decode cX10_set 62 = .ok (.invokevirtual 34, 3) := by decide +kernel
theorem dX10_set_65 : decode cX10_set 65 = .ok (.aload_n 0, 1) := by decide +kernel
theorem dX10_set_66 : decode cX10_set 66 = .ok (.getfield 7, 3) := by decide +kernel
theorem dX10_set_69 : decode cX10_set 69 = .ok (.bipush 11, 2) := by decide +kernel
theorem dX10_set_71 : decode cX10_set 71 = .ok (.iload_n 1, 1) := by decide +kernel
theorem dX10_set_72 : decode cX10_set 72 = .ok (.iadd, 1) := by decide +kernel
theorem dX10_set_73 : decode cX10_set 73 = .ok (.iaload, 1) := by decide +kernel
theorem dX10_set_74 : decode cX10_set 74 = .ok (.istore_n 3, 1) := by decide +kernel
theorem dX10_set_75 : decode cX10_set 75 = .ok (.aload_n 0, 1) := by decide +kernel
theorem dX10_set_76 : decode cX10_set 76 = .ok (.getfield 7, 3) := by decide +kernel
theorem dX10_set_79 : decode cX10_set 79 = .ok (.bipush 11, 2) := by decide +kernel
theorem dX10_set_81 : decode cX10_set 81 = .ok (.iload_n 1, 1) := by decide +kernel
theorem dX10_set_82 : decode cX10_set 82 = .ok (.iadd, 1) := by decide +kernel
theorem dX10_set_83 : decode cX10_set 83 = .ok (.iload_n 2, 1) := by decide +kernel
theorem dX10_set_84 : decode cX10_set 84 = .ok (.iastore, 1) := by decide +kernel
theorem dX10_set_85 : decode cX10_set 85 = .ok (.iload_n 3, 1) := by decide +kernel
theorem dX10_set_86 : decode cX10_set 86 = .ok (.ireturn, 1) := by decide +kernel
theorem dX10_planOf_0 : decode cX10_planOf 0 = .ok (.aload_n 0, 1) := by decide +kernel
theorem dX10_planOf_1 : decode cX10_planOf 1 = .ok (.iload_n 1, 1) := by decide +kernel
theorem dX10_planOf_2 : decode cX10_planOf 2 = .ok (.invokevirtual 138, 3) := by decide +kernel
theorem dX10_planOf_5 : decode cX10_planOf 5 = .ok (.istore_n 3, 1) := by decide +kernel
theorem dX10_planOf_6 : decode cX10_planOf 6 = .ok (.iload_n 3, 1) := by decide +kernel
theorem dX10_planOf_7 : decode cX10_planOf 7 = .ok (.ifCond .lt 13, 3) := by decide +kernel
theorem dX10_planOf_10 : decode cX10_planOf 10 = .ok (.iload_n 2, 1) := by decide +kernel
theorem dX10_planOf_11 : decode cX10_planOf 11 = .ok (.iconst 0, 1) := by decide +kernel
theorem dX10_planOf_12 : decode cX10_planOf 12 = .ok (.bipush 7, 2) := by decide +kernel
theorem dX10_planOf_14 : decode cX10_planOf 14 = .ok (.invokestatic 26, 3) := by decide +kernel
theorem dX10_planOf_17 : decode cX10_planOf 17 = .ok (.ifCond .ne 5, 3) := by decide +kernel
theorem dX10_planOf_20 : decode cX10_planOf 20 = .ok (.iconst (-1), 1) := by decide +kernel
theorem dX10_planOf_21 : decode cX10_planOf 21 = .ok (.ireturn, 1) := by decide +kernel
theorem dX10_planOf_22 : decode cX10_planOf 22 = .ok (.iload_n 2, 1) := by decide +kernel
theorem dX10_planOf_23 : decode cX10_planOf 23 = .ok (.bipush 7, 2) := by decide +kernel
theorem dX10_planOf_25 : decode cX10_planOf 25 = .ok (.if_icmp .ge 14, 3) := by decide +kernel
theorem dX10_planOf_28 : decode cX10_planOf 28 = .ok (.aload_n 0, 1) := by decide +kernel
theorem dX10_planOf_29 : decode cX10_planOf 29 = .ok (.iload_n 3, 1) := by decide +kernel
theorem dX10_planOf_30 : decode cX10_planOf 30 = .ok (.iload_n 2, 1) := by decide +kernel
theorem dX10_planOf_31 : decode cX10_planOf 31 = .ok (.iconst 1, 1) := by decide +kernel
theorem dX10_planOf_32 : decode cX10_planOf 32 = .ok (.iadd, 1) := by decide +kernel
theorem dX10_planOf_33 : decode cX10_planOf 33 = .ok (.invokevirtual 47, 3) := by decide +kernel
theorem dX10_planOf_36 : decode cX10_planOf 36 = .ok (.goto 18, 3) := by decide +kernel
theorem dX10_planOf_39 : decode cX10_planOf 39 = .ok (.aload_n 0, 1) := by decide +kernel
theorem dX10_planOf_40 : decode cX10_planOf 40 = .ok (.getfield 7, 3) := by decide +kernel
theorem dX10_planOf_43 : decode cX10_planOf 43 = .ok (.bipush 6, 2) := by decide +kernel
theorem dX10_planOf_45 : decode cX10_planOf 45 = .ok (.iaload, 1) := by decide +kernel
theorem dX10_planOf_46 : decode cX10_planOf 46 = .ok (.aload_n 0, 1) := by decide +kernel
theorem dX10_planOf_47 : decode cX10_planOf 47 = .ok (.iload_n 3, 1) := by decide +kernel
theorem dX10_planOf_48 : decode cX10_planOf 48 = .ok (.bipush 8, 2) := by decide +kernel
theorem dX10_planOf_50 : decode cX10_planOf 50 = .ok (.invokevirtual 47, 3) := by decide +kernel
theorem dX10_planOf_53 : decode cX10_planOf 53 = .ok (.isub, 1) := by decide +kernel
theorem dX10_planOf_54 : decode cX10_planOf 54 = .ok (.ireturn, 1) := by decide +kernel
theorem dX10_planFor_0 : decode cX10_planFor 0 = .ok (.aload_n 0, 1) := by decide +kernel
theorem dX10_planFor_1 : decode cX10_planFor 1 = .ok (.iload_n 1, 1) := by decide +kernel
theorem dX10_planFor_2 : decode cX10_planFor 2 = .ok (.invokevirtual 88, 3) := by decide +kernel
theorem dX10_planFor_5 : decode cX10_planFor 5 = .ok (.ifCond .eq 13, 3) := by decide +kernel
theorem dX10_planFor_8 : decode cX10_planFor 8 = .ok (.iload_n 2, 1) := by decide +kernel
theorem dX10_planFor_9 : decode cX10_planFor 9 = .ok (.iconst 0, 1) := by decide +kernel
theorem dX10_planFor_10 : decode cX10_planFor 10 = .ok (.bipush 80, 2) := by decide +kernel
theorem dX10_planFor_12 : decode cX10_planFor 12 = .ok (.invokestatic 26, 3) := by decide +kernel
theorem dX10_planFor_15 : decode cX10_planFor 15 = .ok (.ifCond .ne 5, 3) := by decide +kernel
theorem dX10_planFor_18 : decode cX10_planFor 18 = .ok (.iconst (-1), 1) := by decide +kernel
theorem dX10_planFor_19 : decode cX10_planFor 19 = .ok (.ireturn, 1) := by decide +kernel
theorem dX10_planFor_20 : decode cX10_planFor 20 = .ok (.aload_n 0, 1) := by decide +kernel
theorem dX10_planFor_21 : decode cX10_planFor 21 = .ok (.iload_n 1, 1) := by decide +kernel
theorem dX10_planFor_22 : decode cX10_planFor 22 = .ok (.iload_n 2, 1) := by decide +kernel
theorem dX10_planFor_23 : decode cX10_planFor 23 = .ok (.invokevirtual 114, 3) := by decide +kernel
theorem dX10_planFor_26 : decode cX10_planFor 26 = .ok (.istore_n 3, 1) := by decide +kernel
theorem dX10_planFor_27 : decode cX10_planFor 27 = .ok (.iload_n 3, 1) := by decide +kernel
theorem dX10_planFor_28 : decode cX10_planFor 28 = .ok (.ifCond .ge 8, 3) := by decide +kernel
theorem dX10_planFor_31 : decode cX10_planFor 31 = .ok (.bipush (-4), 2) := by decide +kernel
theorem dX10_planFor_33 : decode cX10_planFor 33 = .ok (.goto 9, 3) := by decide +kernel
theorem dX10_planFor_36 : decode cX10_planFor 36 = .ok (.aload_n 0, 1) := by decide +kernel
theorem dX10_planFor_37 : decode cX10_planFor 37 = .ok (.iload_n 3, 1) := by decide +kernel
theorem dX10_planFor_38 : decode cX10_planFor 38 = .ok (.iconst 0, 1) := by decide +kernel
theorem dX10_planFor_39 : decode cX10_planFor 39 = .ok (.invokevirtual 47, 3) := by decide +kernel
theorem dX10_planFor_42 : decode cX10_planFor 42 = .ok (.ireturn, 1) := by decide +kernel
theorem dX10_dropsNext_0 : decode cX10_dropsNext 0 = .ok (.iload_n 1, 1) := by decide +kernel
theorem dX10_dropsNext_1 : decode cX10_dropsNext 1 = .ok (.ifCond .ge 5, 3) := by decide +kernel
theorem dX10_dropsNext_4 : decode cX10_dropsNext 4 = .ok (.iconst (-1), 1) := by decide +kernel
theorem dX10_dropsNext_5 : decode cX10_dropsNext 5 = .ok (.ireturn, 1) := by decide +kernel
theorem dX10_dropsNext_6 : decode cX10_dropsNext 6 = .ok (.aload_n 0, 1) := by decide +kernel
theorem dX10_dropsNext_7 : decode cX10_dropsNext 7 = .ok (.iload_n 1, 1) := by decide +kernel
theorem dX10_dropsNext_8 : decode cX10_dropsNext 8 = .ok (.invokevirtual 108, 3) := by decide +kernel
theorem dX10_dropsNext_11 : decode cX10_dropsNext 11 = .ok (.istore_n 2, 1) := by decide +kernel
theorem dX10_dropsNext_12 : decode cX10_dropsNext 12 = .ok (.iload_n 2, 1) := by decide +kernel
theorem dX10_dropsNext_13 : decode cX10_dropsNext 13 = .ok (.ifCond .ge 8, 3) := by decide +kernel
theorem dX10_dropsNext_16 : decode cX10_dropsNext 16 = .ok (.bipush (-4), 2) := by decide +kernel
theorem dX10_dropsNext_18 : decode cX10_dropsNext 18 = .ok (.goto 9, 3) := by decide +kernel
theorem dX10_dropsNext_21 : decode cX10_dropsNext 21 = .ok (.aload_n 0, 1) := by decide +kernel
theorem dX10_dropsNext_22 : decode cX10_dropsNext 22 = .ok (.iload_n 2, 1) := by decide +kernel
theorem dX10_dropsNext_23 : decode cX10_dropsNext 23 = .ok (.iconst 0, 1) := by decide +kernel
theorem dX10_dropsNext_24 : decode cX10_dropsNext 24 = .ok (.invokevirtual 47, 3) := by decide +kernel
theorem dX10_dropsNext_27 : decode cX10_dropsNext 27 = .ok (.ireturn, 1) := by decide +kernel
theorem dX10_count_0 : decode cX10_count 0 = .ok (.iload_n 1, 1) := by decide +kernel
theorem dX10_count_1 : decode cX10_count 1 = .ok (.tableswitch 139 0 13 #[71, 78, 83, 90, 97, 104, 111, 116, 116, 116, 116, 116, 129, 134], 71) := by decide +kernel
theorem dX10_count_72 : decode cX10_count 72 = .ok (.aload_n 0, 1) := by decide +kernel
theorem dX10_count_73 : decode cX10_count 73 = .ok (.getfield 7, 3) := by decide +kernel
theorem dX10_count_76 : decode cX10_count 76 = .ok (.iconst 0, 1) := by decide +kernel
theorem dX10_count_77 : decode cX10_count 77 = .ok (.iaload, 1) := by decide +kernel
theorem dX10_count_78 : decode cX10_count 78 = .ok (.ireturn, 1) := by decide +kernel
theorem dX10_count_79 : decode cX10_count 79 = .ok (.aload_n 0, 1) := by decide +kernel
theorem dX10_count_80 : decode cX10_count 80 = .ok (.invokevirtual 57, 3) := by decide +kernel
theorem dX10_count_83 : decode cX10_count 83 = .ok (.ireturn, 1) := by decide +kernel
theorem dX10_count_84 : decode cX10_count 84 = .ok (.aload_n 0, 1) := by decide +kernel
theorem dX10_count_85 : decode cX10_count 85 = .ok (.getfield 7, 3) := by decide +kernel
theorem dX10_count_88 : decode cX10_count 88 = .ok (.iconst 2, 1) := by decide +kernel
theorem dX10_count_89 : decode cX10_count 89 = .ok (.iaload, 1) := by decide +kernel
theorem dX10_count_90 : decode cX10_count 90 = .ok (.ireturn, 1) := by decide +kernel
theorem dX10_count_91 : decode cX10_count 91 = .ok (.aload_n 0, 1) := by decide +kernel
theorem dX10_count_92 : decode cX10_count 92 = .ok (.getfield 7, 3) := by decide +kernel
theorem dX10_count_95 : decode cX10_count 95 = .ok (.iconst 1, 1) := by decide +kernel
theorem dX10_count_96 : decode cX10_count 96 = .ok (.iaload, 1) := by decide +kernel
theorem dX10_count_97 : decode cX10_count 97 = .ok (.ireturn, 1) := by decide +kernel
theorem dX10_count_98 : decode cX10_count 98 = .ok (.aload_n 0, 1) := by decide +kernel
theorem dX10_count_99 : decode cX10_count 99 = .ok (.getfield 7, 3) := by decide +kernel
theorem dX10_count_102 : decode cX10_count 102 = .ok (.iconst 3, 1) := by decide +kernel
theorem dX10_count_103 : decode cX10_count 103 = .ok (.iaload, 1) := by decide +kernel
theorem dX10_count_104 : decode cX10_count 104 = .ok (.ireturn, 1) := by decide +kernel
theorem dX10_count_105 : decode cX10_count 105 = .ok (.aload_n 0, 1) := by decide +kernel
theorem dX10_count_106 : decode cX10_count 106 = .ok (.getfield 7, 3) := by decide +kernel
theorem dX10_count_109 : decode cX10_count 109 = .ok (.iconst 4, 1) := by decide +kernel
theorem dX10_count_110 : decode cX10_count 110 = .ok (.iaload, 1) := by decide +kernel
theorem dX10_count_111 : decode cX10_count 111 = .ok (.ireturn, 1) := by decide +kernel
theorem dX10_count_112 : decode cX10_count 112 = .ok (.aload_n 0, 1) := by decide +kernel
theorem dX10_count_113 : decode cX10_count 113 = .ok (.invokevirtual 141, 3) := by decide +kernel
theorem dX10_count_116 : decode cX10_count 116 = .ok (.ireturn, 1) := by decide +kernel
theorem dX10_count_117 : decode cX10_count 117 = .ok (.aload_n 0, 1) := by decide +kernel
theorem dX10_count_118 : decode cX10_count 118 = .ok (.getfield 7, 3) := by decide +kernel
theorem dX10_count_121 : decode cX10_count 121 = .ok (.bipush 6, 2) := by decide +kernel
theorem dX10_count_123 : decode cX10_count 123 = .ok (.iload_n 1, 1) := by decide +kernel
theorem dX10_count_124 : decode cX10_count 124 = .ok (.iadd, 1) := by decide +kernel
theorem dX10_count_125 : decode cX10_count 125 = .ok (.bipush 7, 2) := by decide +kernel
theorem dX10_count_127 : decode cX10_count 127 = .ok (.isub, 1) := by decide +kernel
theorem dX10_count_128 : decode cX10_count 128 = .ok (.iaload, 1) := by decide +kernel
theorem dX10_count_129 : decode cX10_count 129 = .ok (.ireturn, 1) := by decide +kernel
theorem dX10_count_130 : decode cX10_count 130 = .ok (.aload_n 0, 1) := by decide +kernel
theorem dX10_count_131 : decode cX10_count 131 = .ok (.getfield 22, 3) := by decide +kernel
theorem dX10_count_134 : decode cX10_count 134 = .ok (.ireturn, 1) := by decide +kernel
theorem dX10_count_135 : decode cX10_count 135 = .ok (.aload_n 0, 1) := by decide +kernel
theorem dX10_count_136 : decode cX10_count 136 = .ok (.getfield 64, 3) := by decide +kernel
theorem dX10_count_139 : decode cX10_count 139 = .ok (.ireturn, 1) := by decide +kernel
theorem dX10_count_140 : decode cX10_count 140 = .ok (.iload_n 1, 1) := by decide +kernel
theorem dX10_count_141 : decode cX10_count 141 = .ok (.bipush 20, 2) := by decide +kernel
theorem dX10_count_143 : decode cX10_count 143 = .ok (.bipush 24, 2) := by decide +kernel
theorem dX10_count_145 : decode cX10_count 145 = .ok (.invokestatic 26, 3) := by decide +kernel
theorem dX10_count_148 : decode cX10_count 148 = .ok (.ifCond .eq 18, 3) := by decide +kernel
theorem dX10_count_151 : decode cX10_count 151 = .ok (.aload_n 0, 1) := by decide +kernel
theorem dX10_count_152 : decode cX10_count 152 = .ok (.getfield 7, 3) := by decide +kernel
theorem dX10_count_155 : decode cX10_count 155 = .ok (.bipush 11, 2) := by decide +kernel
theorem dX10_count_157 : decode cX10_count 157 = .ok (.iload_n 1, 1) := by decide +kernel
theorem dX10_count_158 : decode cX10_count 158 = .ok (.iadd, 1) := by decide +kernel
theorem dX10_count_159 : decode cX10_count 159 = .ok (.bipush 20, 2) := by decide +kernel
theorem dX10_count_161 : decode cX10_count 161 = .ok (.isub, 1) := by decide +kernel
theorem dX10_count_162 : decode cX10_count 162 = .ok (.iaload, 1) := by decide +kernel
theorem dX10_count_163 : decode cX10_count 163 = .ok (.goto 4, 3) := by decide +kernel
theorem dX10_count_166 : decode cX10_count 166 = .ok (.iconst (-1), 1) := by decide +kernel
theorem dX10_count_167 : decode cX10_count 167 = .ok (.ireturn, 1) := by decide +kernel
theorem dX10_classOf_0 : decode cX10_classOf 0 = .ok (.aload_n 0, 1) := by decide +kernel
theorem dX10_classOf_1 : decode cX10_classOf 1 = .ok (.iload_n 1, 1) := by decide +kernel
theorem dX10_classOf_2 : decode cX10_classOf 2 = .ok (.iload_n 2, 1) := by decide +kernel
theorem dX10_classOf_3 : decode cX10_classOf 3 = .ok (.iload_n 3, 1) := by decide +kernel
theorem dX10_classOf_4 : decode cX10_classOf 4 = .ok (.iload 4, 2) := by decide +kernel
theorem dX10_classOf_6 : decode cX10_classOf 6 = .ok (.iload 5, 2) := by decide +kernel
theorem dX10_classOf_8 : decode cX10_classOf 8 = .ok (.invokevirtual 131, 3) := by decide +kernel
theorem dX10_classOf_11 : decode cX10_classOf 11 = .ok (.ifCond .eq 11, 3) := by decide +kernel
theorem dX10_classOf_14 : decode cX10_classOf 14 = .ok (.aload_n 0, 1) := by decide +kernel
theorem dX10_classOf_15 : decode cX10_classOf 15 = .ok (.iload_n 1, 1) := by decide +kernel
theorem dX10_classOf_16 : decode cX10_classOf 16 = .ok (.invokevirtual 111, 3) := by decide +kernel
theorem dX10_classOf_19 : decode cX10_classOf 19 = .ok (.goto 4, 3) := by decide +kernel
theorem dX10_classOf_22 : decode cX10_classOf 22 = .ok (.iconst (-1), 1) := by decide +kernel
theorem dX10_classOf_23 : decode cX10_classOf 23 = .ok (.ireturn, 1) := by decide +kernel
theorem dX10_way_0 : decode cX10_way 0 = .ok (.aload_n 0, 1) := by decide +kernel
theorem dX10_way_1 : decode cX10_way 1 = .ok (.iload_n 1, 1) := by decide +kernel
theorem dX10_way_2 : decode cX10_way 2 = .ok (.iload_n 2, 1) := by decide +kernel
theorem dX10_way_3 : decode cX10_way 3 = .ok (.iload_n 3, 1) := by decide +kernel
theorem dX10_way_4 : decode cX10_way 4 = .ok (.iload 4, 2) := by decide +kernel
theorem dX10_way_6 : decode cX10_way 6 = .ok (.iload 5, 2) := by decide +kernel
theorem dX10_way_8 : decode cX10_way 8 = .ok (.invokevirtual 131, 3) := by decide +kernel
theorem dX10_way_11 : decode cX10_way 11 = .ok (.ifCond .eq 12, 3) := by decide +kernel
theorem dX10_way_14 : decode cX10_way 14 = .ok (.aload_n 0, 1) := by decide +kernel
theorem dX10_way_15 : decode cX10_way 15 = .ok (.iload_n 1, 1) := by decide +kernel
theorem dX10_way_16 : decode cX10_way 16 = .ok (.iconst 0, 1) := by decide +kernel
theorem dX10_way_17 : decode cX10_way 17 = .ok (.invokevirtual 117, 3) := by decide +kernel
theorem dX10_way_20 : decode cX10_way 20 = .ok (.goto 4, 3) := by decide +kernel
theorem dX10_way_23 : decode cX10_way 23 = .ok (.iconst (-1), 1) := by decide +kernel
theorem dX10_way_24 : decode cX10_way 24 = .ok (.ireturn, 1) := by decide +kernel
theorem dX10_bestCost_0 : decode cX10_bestCost 0 = .ok (.aload_n 0, 1) := by decide +kernel
theorem dX10_bestCost_1 : decode cX10_bestCost 1 = .ok (.getfield 7, 3) := by decide +kernel
theorem dX10_bestCost_4 : decode cX10_bestCost 4 = .ok (.bipush 16, 2) := by decide +kernel
theorem dX10_bestCost_6 : decode cX10_bestCost 6 = .ok (.iaload, 1) := by decide +kernel
theorem dX10_bestCost_7 : decode cX10_bestCost 7 = .ok (.istore_n 1, 1) := by decide +kernel
theorem dX10_bestCost_8 : decode cX10_bestCost 8 = .ok (.iload_n 1, 1) := by decide +kernel
theorem dX10_bestCost_9 : decode cX10_bestCost 9 = .ok (.ifCond .ge 6, 3) := by decide +kernel
theorem dX10_bestCost_12 : decode cX10_bestCost 12 = .ok (.bipush (-4), 2) := by decide +kernel
theorem dX10_bestCost_14 : decode cX10_bestCost 14 = .ok (.ireturn, 1) := by decide +kernel
theorem dX10_bestCost_15 : decode cX10_bestCost 15 = .ok (.aload_n 0, 1) := by decide +kernel
theorem dX10_bestCost_16 : decode cX10_bestCost 16 = .ok (.iload_n 1, 1) := by decide +kernel
theorem dX10_bestCost_17 : decode cX10_bestCost 17 = .ok (.aload_n 0, 1) := by decide +kernel
theorem dX10_bestCost_18 : decode cX10_bestCost 18 = .ok (.getfield 7, 3) := by decide +kernel
theorem dX10_bestCost_21 : decode cX10_bestCost 21 = .ok (.bipush 17, 2) := by decide +kernel
theorem dX10_bestCost_23 : decode cX10_bestCost 23 = .ok (.iaload, 1) := by decide +kernel
theorem dX10_bestCost_24 : decode cX10_bestCost 24 = .ok (.aload_n 0, 1) := by decide +kernel
theorem dX10_bestCost_25 : decode cX10_bestCost 25 = .ok (.getfield 7, 3) := by decide +kernel
theorem dX10_bestCost_28 : decode cX10_bestCost 28 = .ok (.bipush 18, 2) := by decide +kernel
theorem dX10_bestCost_30 : decode cX10_bestCost 30 = .ok (.iaload, 1) := by decide +kernel
theorem dX10_bestCost_31 : decode cX10_bestCost 31 = .ok (.aload_n 0, 1) := by decide +kernel
theorem dX10_bestCost_32 : decode cX10_bestCost 32 = .ok (.getfield 7, 3) := by decide +kernel
theorem dX10_bestCost_35 : decode cX10_bestCost 35 = .ok (.bipush 19, 2) := by decide +kernel
theorem dX10_bestCost_37 : decode cX10_bestCost 37 = .ok (.iaload, 1) := by decide +kernel
theorem dX10_bestCost_38 : decode cX10_bestCost 38 = .ok (.aload_n 0, 1) := by decide +kernel
theorem dX10_bestCost_39 : decode cX10_bestCost 39 = .ok (.getfield 7, 3) := by decide +kernel
theorem dX10_bestCost_42 : decode cX10_bestCost 42 = .ok (.bipush 20, 2) := by decide +kernel
theorem dX10_bestCost_44 : decode cX10_bestCost 44 = .ok (.iaload, 1) := by decide +kernel
theorem dX10_bestCost_45 : decode cX10_bestCost 45 = .ok (.invokevirtual 131, 3) := by decide +kernel
theorem dX10_bestCost_48 : decode cX10_bestCost 48 = .ok (.istore_n 2, 1) := by decide +kernel
theorem dX10_bestCost_49 : decode cX10_bestCost 49 = .ok (.iload_n 2, 1) := by decide +kernel
theorem dX10_bestCost_50 : decode cX10_bestCost 50 = .ok (.ifCond .eq 18, 3) := by decide +kernel
theorem dX10_bestCost_53 : decode cX10_bestCost 53 = .ok (.aload_n 0, 1) := by decide +kernel
theorem dX10_bestCost_54 : decode cX10_bestCost 54 = .ok (.iload_n 1, 1) := by decide +kernel
theorem dX10_bestCost_55 : decode cX10_bestCost 55 = .ok (.aload_n 0, 1) := by decide +kernel
theorem dX10_bestCost_56 : decode cX10_bestCost 56 = .ok (.iload_n 1, 1) := by decide +kernel
theorem dX10_bestCost_57 : decode cX10_bestCost 57 = .ok (.iconst 1, 1) := by decide +kernel
theorem dX10_bestCost_58 : decode cX10_bestCost 58 = .ok (.invokevirtual 117, 3) := by decide +kernel
theorem dX10_bestCost_61 : decode cX10_bestCost 61 = .ok (.iconst 1, 1) := by decide +kernel
theorem dX10_bestCost_62 : decode cX10_bestCost 62 = .ok (.invokevirtual 101, 3) := by decide +kernel
theorem dX10_bestCost_65 : decode cX10_bestCost 65 = .ok (.goto 5, 3) := by decide +kernel
theorem dX10_bestCost_68 : decode cX10_bestCost 68 = .ok (.bipush (-4), 2) := by decide +kernel
theorem dX10_bestCost_70 : decode cX10_bestCost 70 = .ok (.ireturn, 1) := by decide +kernel
theorem dX10_undo_0 : decode cX10_undo 0 = .ok (.aload_n 0, 1) := by decide +kernel
theorem dX10_undo_1 : decode cX10_undo 1 = .ok (.getfield 22, 3) := by decide +kernel
theorem dX10_undo_4 : decode cX10_undo 4 = .ok (.ifCond .ne 6, 3) := by decide +kernel
theorem dX10_undo_7 : decode cX10_undo 7 = .ok (.bipush (-2), 2) := by decide +kernel
theorem dX10_undo_9 : decode cX10_undo 9 = .ok (.ireturn, 1) := by decide +kernel
theorem dX10_undo_10 : decode cX10_undo 10 = .ok (.aload_n 0, 1) := by decide +kernel
theorem dX10_undo_11 : decode cX10_undo 11 = .ok (.dup, 1) := by decide +kernel
theorem dX10_undo_12 : decode cX10_undo 12 = .ok (.getfield 22, 3) := by decide +kernel
theorem dX10_undo_15 : decode cX10_undo 15 = .ok (.iconst 1, 1) := by decide +kernel
theorem dX10_undo_16 : decode cX10_undo 16 = .ok (.isub, 1) := by decide +kernel
theorem dX10_undo_17 : decode cX10_undo 17 = .ok (.putfield 22, 3) := by decide +kernel
theorem dX10_undo_20 : decode cX10_undo 20 = .ok (.iconst 0, 1) := by decide +kernel
theorem dX10_undo_21 : decode cX10_undo 21 = .ok (.istore_n 1, 1) := by decide +kernel
theorem dX10_undo_22 : decode cX10_undo 22 = .ok (.iload_n 1, 1) := by decide +kernel
theorem dX10_undo_23 : decode cX10_undo 23 = .ok (.sipush 439, 3) := by decide +kernel
theorem dX10_undo_26 : decode cX10_undo 26 = .ok (.if_icmp .ge 30, 3) := by decide +kernel
theorem dX10_undo_29 : decode cX10_undo 29 = .ok (.aload_n 0, 1) := by decide +kernel
theorem dX10_undo_30 : decode cX10_undo 30 = .ok (.getfield 7, 3) := by decide +kernel
theorem dX10_undo_33 : decode cX10_undo 33 = .ok (.iload_n 1, 1) := by decide +kernel
theorem dX10_undo_34 : decode cX10_undo 34 = .ok (.aload_n 0, 1) := by decide +kernel
theorem dX10_undo_35 : decode cX10_undo 35 = .ok (.getfield 13, 3) := by decide +kernel
theorem dX10_undo_38 : decode cX10_undo 38 = .ok (.sipush 439, 3) := by decide +kernel
theorem dX10_undo_41 : decode cX10_undo 41 = .ok (.aload_n 0, 1) := by decide +kernel
theorem dX10_undo_42 : decode cX10_undo 42 = .ok (.getfield 22, 3) := by decide +kernel
theorem dX10_undo_45 : decode cX10_undo 45 = .ok (.imul, 1) := by decide +kernel
theorem dX10_undo_46 : decode cX10_undo 46 = .ok (.iload_n 1, 1) := by decide +kernel
theorem dX10_undo_47 : decode cX10_undo 47 = .ok (.iadd, 1) := by decide +kernel
theorem dX10_undo_48 : decode cX10_undo 48 = .ok (.iaload, 1) := by decide +kernel
theorem dX10_undo_49 : decode cX10_undo 49 = .ok (.iastore, 1) := by decide +kernel
theorem dX10_undo_50 : decode cX10_undo 50 = .ok (.iinc 1 1, 3) := by decide +kernel
theorem dX10_undo_53 : decode cX10_undo 53 = .ok (.goto (-31), 3) := by decide +kernel
theorem dX10_undo_56 : decode cX10_undo 56 = .ok (.aload_n 0, 1) := by decide +kernel
theorem dX10_undo_57 : decode cX10_undo 57 = .ok (.getfield 22, 3) := by decide +kernel
theorem dX10_undo_60 : decode cX10_undo 60 = .ok (.ireturn, 1) := by decide +kernel
theorem dX10_type_0 : decode cX10_type 0 = .ok (.iload_n 1, 1) := by decide +kernel
theorem dX10_type_1 : decode cX10_type 1 = .ok (.bipush 32, 2) := by decide +kernel
theorem dX10_type_3 : decode cX10_type 3 = .ok (.bipush 126, 2) := by decide +kernel
theorem dX10_type_5 : decode cX10_type 5 = .ok (.invokestatic 26, 3) := by decide +kernel
theorem dX10_type_8 : decode cX10_type 8 = .ok (.ifCond .ne 5, 3) := by decide +kernel
theorem dX10_type_11 : decode cX10_type 11 = .ok (.iconst (-1), 1) := by decide +kernel
theorem dX10_type_12 : decode cX10_type 12 = .ok (.ireturn, 1) := by decide +kernel
theorem dX10_type_13 : decode cX10_type 13 = .ok (.aload_n 0, 1) := by decide +kernel
theorem dX10_type_14 : decode cX10_type 14 = .ok (.getfield 64, 3) := by decide +kernel
theorem dX10_type_17 : decode cX10_type 17 = .ok (.bipush 30, 2) := by decide +kernel
theorem dX10_type_19 : decode cX10_type 19 = .ok (.if_icmp .ne 6, 3) := by decide +kernel
theorem dX10_type_22 : decode cX10_type 22 = .ok (.bipush (-3), 2) := by decide +kernel
theorem dX10_type_24 : decode cX10_type 24 = .ok (.ireturn, 1) := by decide +kernel
theorem dX10_type_25 : decode cX10_type 25 = .ok (.aload_n 0, 1) := by decide +kernel
theorem dX10_type_26 : decode cX10_type 26 = .ok (.getfield 16, 3) := by decide +kernel
theorem dX10_type_29 : decode cX10_type 29 = .ok (.aload_n 0, 1) := by decide +kernel
theorem dX10_type_30 : decode cX10_type 30 = .ok (.getfield 64, 3) := by decide +kernel
theorem dX10_type_33 : decode cX10_type 33 = .ok (.iload_n 1, 1) := by decide +kernel
theorem dX10_type_34 : decode cX10_type 34 = .ok (.iastore, 1) := by decide +kernel
theorem dX10_type_35 : decode cX10_type 35 = .ok (.aload_n 0, 1) := by decide +kernel
theorem dX10_type_36 : decode cX10_type 36 = .ok (.dup, 1) := by decide +kernel
theorem dX10_type_37 : decode cX10_type 37 = .ok (.getfield 64, 3) := by decide +kernel
theorem dX10_type_40 : decode cX10_type 40 = .ok (.iconst 1, 1) := by decide +kernel
theorem dX10_type_41 : decode cX10_type 41 = .ok (.iadd, 1) := by decide +kernel
theorem dX10_type_42 : decode cX10_type 42 = .ok (.putfield 64, 3) := by decide +kernel
theorem dX10_type_45 : decode cX10_type 45 = .ok (.aload_n 0, 1) := by decide +kernel
theorem dX10_type_46 : decode cX10_type 46 = .ok (.getfield 64, 3) := by decide +kernel
theorem dX10_type_49 : decode cX10_type 49 = .ok (.ireturn, 1) := by decide +kernel
theorem dX10_clearText_0 : decode cX10_clearText 0 = .ok (.aload_n 0, 1) := by decide +kernel
theorem dX10_clearText_1 : decode cX10_clearText 1 = .ok (.getfield 64, 3) := by decide +kernel
theorem dX10_clearText_4 : decode cX10_clearText 4 = .ok (.istore_n 1, 1) := by decide +kernel
theorem dX10_clearText_5 : decode cX10_clearText 5 = .ok (.aload_n 0, 1) := by decide +kernel
theorem dX10_clearText_6 : decode cX10_clearText 6 = .ok (.iconst 0, 1) := by decide +kernel
theorem dX10_clearText_7 : decode cX10_clearText 7 = .ok (.putfield 64, 3) := by decide +kernel
theorem dX10_clearText_10 : decode cX10_clearText 10 = .ok (.iload_n 1, 1) := by decide +kernel
theorem dX10_clearText_11 : decode cX10_clearText 11 = .ok (.ireturn, 1) := by decide +kernel
theorem dX10_fault_0 : decode cX10_fault 0 = .ok (.iload_n 1, 1) := by decide +kernel
theorem dX10_fault_1 : decode cX10_fault 1 = .ok (.iconst 0, 1) := by decide +kernel
theorem dX10_fault_2 : decode cX10_fault 2 = .ok (.iconst 1, 1) := by decide +kernel
theorem dX10_fault_3 : decode cX10_fault 3 = .ok (.invokestatic 26, 3) := by decide +kernel
theorem dX10_fault_6 : decode cX10_fault 6 = .ok (.ifCond .ne 5, 3) := by decide +kernel
theorem dX10_fault_9 : decode cX10_fault 9 = .ok (.iconst (-1), 1) := by decide +kernel
theorem dX10_fault_10 : decode cX10_fault 10 = .ok (.ireturn, 1) := by decide +kernel
theorem dX10_fault_11 : decode cX10_fault 11 = .ok (.aload_n 0, 1) := by decide +kernel
theorem dX10_fault_12 : decode cX10_fault 12 = .ok (.invokevirtual 81, 3) := by decide +kernel
theorem dX10_fault_15 : decode cX10_fault 15 = .ok (.ifCond .eq 8, 3) := by decide +kernel
theorem dX10_fault_18 : decode cX10_fault 18 = .ok (.bipush (-4), 2) := by decide +kernel
theorem dX10_fault_20 : decode cX10_fault 20 = .ok (.goto 18, 3) := by decide +kernel
theorem dX10_fault_23 : decode cX10_fault 23 = .ok (.iload_n 1, 1) := by decide +kernel
theorem dX10_fault_24 : decode cX10_fault 24 = .ok (.ifCond .ne 10, 3) := by decide +kernel
theorem dX10_fault_27 : decode cX10_fault 27 = .ok (.aload_n 0, 1) := by decide +kernel
theorem dX10_fault_28 : decode cX10_fault 28 = .ok (.getfield 61, 3) := by decide +kernel
theorem dX10_fault_31 : decode cX10_fault 31 = .ok (.goto 7, 3) := by decide +kernel
theorem dX10_fault_34 : decode cX10_fault 34 = .ok (.aload_n 0, 1) := by decide +kernel
theorem dX10_fault_35 : decode cX10_fault 35 = .ok (.getfield 67, 3) := by decide +kernel
theorem dX10_fault_38 : decode cX10_fault 38 = .ok (.ireturn, 1) := by decide +kernel
theorem dL_law_0 : decode cL_law 0 = .ok (.new 7, 3) := by decide +kernel
theorem dL_law_3 : decode cL_law 3 = .ok (.dup, 1) := by decide +kernel
theorem dL_law_4 : decode cL_law 4 = .ok (.invokespecial 9, 3) := by decide +kernel
theorem dL_law_7 : decode cL_law 7 = .ok (.astore_n 1, 1) := by decide +kernel
theorem dL_law_8 : decode cL_law 8 = .ok (.new 10, 3) := by decide +kernel
theorem dL_law_11 : decode cL_law 11 = .ok (.dup, 1) := by decide +kernel
theorem dL_law_12 : decode cL_law 12 = .ok (.invokespecial 12, 3) := by decide +kernel
theorem dL_law_15 : decode cL_law 15 = .ok (.astore_n 2, 1) := by decide +kernel
theorem dL_law_16 : decode cL_law 16 = .ok (.iconst 0, 1) := by decide +kernel
theorem dL_law_17 : decode cL_law 17 = .ok (.istore_n 3, 1) := by decide +kernel
theorem dL_law_18 : decode cL_law 18 = .ok (.iload_n 3, 1) := by decide +kernel
theorem dL_law_19 : decode cL_law 19 = .ok (.aload_n 0, 1) := by decide +kernel
theorem dL_law_20 : decode cL_law 20 = .ok (.arraylength, 1) := by decide +kernel
theorem dL_law_21 : decode cL_law 21 = .ok (.bipush 6, 2) := by decide +kernel
theorem dL_law_23 : decode cL_law 23 = .ok (.isub, 1) := by decide +kernel
theorem dL_law_24 : decode cL_law 24 = .ok (.if_icmp .gt 868, 3) := by decide +kernel
theorem dL_law_27 : decode cL_law 27 = .ok (.aload_n 0, 1) := by decide +kernel
theorem dL_law_28 : decode cL_law 28 = .ok (.iload_n 3, 1) := by decide +kernel
theorem dL_law_29 : decode cL_law 29 = .ok (.iaload, 1) := by decide +kernel
theorem dL_law_30 : decode cL_law 30 = .ok (.bipush 31, 2) := by decide +kernel
theorem dL_law_32 : decode cL_law 32 = .ok (.iand, 1) := by decide +kernel
theorem dL_law_33 : decode cL_law 33 = .ok (.tableswitch 853 0 23 #[111, 174, 197, 230, 243, 276, 309, 322, 355, 418, 441, 474, 497, 530, 563, 596, 619, 642, 705, 768, 781, 794, 817, 830], 111) := by decide +kernel
theorem dL_law_144 : decode cL_law 144 = .ok (.aload_n 1, 1) := by decide +kernel
theorem dL_law_145 : decode cL_law 145 = .ok (.aload_n 0, 1) := by decide +kernel
theorem dL_law_146 : decode cL_law 146 = .ok (.iload_n 3, 1) := by decide +kernel
theorem dL_law_147 : decode cL_law 147 = .ok (.iconst 1, 1) := by decide +kernel
theorem dL_law_148 : decode cL_law 148 = .ok (.iadd, 1) := by decide +kernel
theorem dL_law_149 : decode cL_law 149 = .ok (.iaload, 1) := by decide +kernel
theorem dL_law_150 : decode cL_law 150 = .ok (.aload_n 0, 1) := by decide +kernel
theorem dL_law_151 : decode cL_law 151 = .ok (.iload_n 3, 1) := by decide +kernel
theorem dL_law_152 : decode cL_law 152 = .ok (.iconst 2, 1) := by decide +kernel
theorem dL_law_153 : decode cL_law 153 = .ok (.iadd, 1) := by decide +kernel
theorem dL_law_154 : decode cL_law 154 = .ok (.iaload, 1) := by decide +kernel
theorem dL_law_155 : decode cL_law 155 = .ok (.aload_n 0, 1) := by decide +kernel
theorem dL_law_156 : decode cL_law 156 = .ok (.iload_n 3, 1) := by decide +kernel
theorem dL_law_157 : decode cL_law 157 = .ok (.iconst 3, 1) := by decide +kernel
theorem dL_law_158 : decode cL_law 158 = .ok (.iadd, 1) := by decide +kernel
theorem dL_law_159 : decode cL_law 159 = .ok (.iaload, 1) := by decide +kernel
theorem dL_law_160 : decode cL_law 160 = .ok (.aload_n 0, 1) := by decide +kernel
theorem dL_law_161 : decode cL_law 161 = .ok (.iload_n 3, 1) := by decide +kernel
theorem dL_law_162 : decode cL_law 162 = .ok (.iconst 4, 1) := by decide +kernel
theorem dL_law_163 : decode cL_law 163 = .ok (.iadd, 1) := by decide +kernel
theorem dL_law_164 : decode cL_law 164 = .ok (.iaload, 1) := by decide +kernel
theorem dL_law_165 : decode cL_law 165 = .ok (.aload_n 0, 1) := by decide +kernel
theorem dL_law_166 : decode cL_law 166 = .ok (.iload_n 3, 1) := by decide +kernel
theorem dL_law_167 : decode cL_law 167 = .ok (.iconst 5, 1) := by decide +kernel
theorem dL_law_168 : decode cL_law 168 = .ok (.iadd, 1) := by decide +kernel
theorem dL_law_169 : decode cL_law 169 = .ok (.iaload, 1) := by decide +kernel
theorem dL_law_170 : decode cL_law 170 = .ok (.invokevirtual 13, 3) := by decide +kernel
theorem dL_law_173 : decode cL_law 173 = .ok (.aload_n 2, 1) := by decide +kernel
theorem dL_law_174 : decode cL_law 174 = .ok (.aload_n 0, 1) := by decide +kernel
theorem dL_law_175 : decode cL_law 175 = .ok (.iload_n 3, 1) := by decide +kernel
theorem dL_law_176 : decode cL_law 176 = .ok (.iconst 1, 1) := by decide +kernel
theorem dL_law_177 : decode cL_law 177 = .ok (.iadd, 1) := by decide +kernel
theorem dL_law_178 : decode cL_law 178 = .ok (.iaload, 1) := by decide +kernel
theorem dL_law_179 : decode cL_law 179 = .ok (.aload_n 0, 1) := by decide +kernel
theorem dL_law_180 : decode cL_law 180 = .ok (.iload_n 3, 1) := by decide +kernel
theorem dL_law_181 : decode cL_law 181 = .ok (.iconst 2, 1) := by decide +kernel
theorem dL_law_182 : decode cL_law 182 = .ok (.iadd, 1) := by decide +kernel
theorem dL_law_183 : decode cL_law 183 = .ok (.iaload, 1) := by decide +kernel
theorem dL_law_184 : decode cL_law 184 = .ok (.aload_n 0, 1) := by decide +kernel
theorem dL_law_185 : decode cL_law 185 = .ok (.iload_n 3, 1) := by decide +kernel
theorem dL_law_186 : decode cL_law 186 = .ok (.iconst 3, 1) := by decide +kernel
theorem dL_law_187 : decode cL_law 187 = .ok (.iadd, 1) := by decide +kernel
theorem dL_law_188 : decode cL_law 188 = .ok (.iaload, 1) := by decide +kernel
theorem dL_law_189 : decode cL_law 189 = .ok (.aload_n 0, 1) := by decide +kernel
theorem dL_law_190 : decode cL_law 190 = .ok (.iload_n 3, 1) := by decide +kernel
theorem dL_law_191 : decode cL_law 191 = .ok (.iconst 4, 1) := by decide +kernel
theorem dL_law_192 : decode cL_law 192 = .ok (.iadd, 1) := by decide +kernel
theorem dL_law_193 : decode cL_law 193 = .ok (.iaload, 1) := by decide +kernel
theorem dL_law_194 : decode cL_law 194 = .ok (.aload_n 0, 1) := by decide +kernel
theorem dL_law_195 : decode cL_law 195 = .ok (.iload_n 3, 1) := by decide +kernel
theorem dL_law_196 : decode cL_law 196 = .ok (.iconst 5, 1) := by decide +kernel
theorem dL_law_197 : decode cL_law 197 = .ok (.iadd, 1) := by decide +kernel
theorem dL_law_198 : decode cL_law 198 = .ok (.iaload, 1) := by decide +kernel
theorem dL_law_199 : decode cL_law 199 = .ok (.invokevirtual 17, 3) := by decide +kernel
theorem dL_law_202 : decode cL_law 202 = .ok (.if_icmp .eq 684, 3) := by decide +kernel
theorem dL_law_205 : decode cL_law 205 = .ok (.iconst 0, 1) := by decide +kernel
theorem dL_law_206 : decode cL_law 206 = .ok (.ireturn, 1) := by decide +kernel
theorem dL_law_207 : decode cL_law 207 = .ok (.aload_n 1, 1) := by decide +kernel
theorem dL_law_208 : decode cL_law 208 = .ok (.aload_n 0, 1) := by decide +kernel
theorem dL_law_209 : decode cL_law 209 = .ok (.iload_n 3, 1) := by decide +kernel
theorem dL_law_210 : decode cL_law 210 = .ok (.iconst 1, 1) := by decide +kernel
theorem dL_law_211 : decode cL_law 211 = .ok (.iadd, 1) := by decide +kernel
theorem dL_law_212 : decode cL_law 212 = .ok (.iaload, 1) := by decide +kernel
theorem dL_law_213 : decode cL_law 213 = .ok (.invokevirtual 18, 3) := by decide +kernel
theorem dL_law_216 : decode cL_law 216 = .ok (.aload_n 2, 1) := by decide +kernel
theorem dL_law_217 : decode cL_law 217 = .ok (.aload_n 0, 1) := by decide +kernel
theorem dL_law_218 : decode cL_law 218 = .ok (.iload_n 3, 1) := by decide +kernel
theorem dL_law_219 : decode cL_law 219 = .ok (.iconst 1, 1) := by decide +kernel
theorem dL_law_220 : decode cL_law 220 = .ok (.iadd, 1) := by decide +kernel
theorem dL_law_221 : decode cL_law 221 = .ok (.iaload, 1) := by decide +kernel
theorem dL_law_222 : decode cL_law 222 = .ok (.invokevirtual 22, 3) := by decide +kernel
theorem dL_law_225 : decode cL_law 225 = .ok (.if_icmp .eq 661, 3) := by decide +kernel
theorem dL_law_228 : decode cL_law 228 = .ok (.iconst 0, 1) := by decide +kernel
theorem dL_law_229 : decode cL_law 229 = .ok (.ireturn, 1) := by decide +kernel
theorem dL_law_230 : decode cL_law 230 = .ok (.aload_n 1, 1) := by decide +kernel
theorem dL_law_231 : decode cL_law 231 = .ok (.aload_n 0, 1) := by decide +kernel
theorem dL_law_232 : decode cL_law 232 = .ok (.iload_n 3, 1) := by decide +kernel
theorem dL_law_233 : decode cL_law 233 = .ok (.iconst 1, 1) := by decide +kernel
theorem dL_law_234 : decode cL_law 234 = .ok (.iadd, 1) := by decide +kernel
theorem dL_law_235 : decode cL_law 235 = .ok (.iaload, 1) := by decide +kernel
theorem dL_law_236 : decode cL_law 236 = .ok (.aload_n 0, 1) := by decide +kernel
theorem dL_law_237 : decode cL_law 237 = .ok (.iload_n 3, 1) := by decide +kernel
theorem dL_law_238 : decode cL_law 238 = .ok (.iconst 2, 1) := by decide +kernel
theorem dL_law_239 : decode cL_law 239 = .ok (.iadd, 1) := by decide +kernel
theorem dL_law_240 : decode cL_law 240 = .ok (.iaload, 1) := by decide +kernel
theorem dL_law_241 : decode cL_law 241 = .ok (.invokevirtual 23, 3) := by decide +kernel
theorem dL_law_244 : decode cL_law 244 = .ok (.aload_n 2, 1) := by decide +kernel
theorem dL_law_245 : decode cL_law 245 = .ok (.aload_n 0, 1) := by decide +kernel
theorem dL_law_246 : decode cL_law 246 = .ok (.iload_n 3, 1) := by decide +kernel
theorem dL_law_247 : decode cL_law 247 = .ok (.iconst 1, 1) := by decide +kernel
theorem dL_law_248 : decode cL_law 248 = .ok (.iadd, 1) := by decide +kernel
theorem dL_law_249 : decode cL_law 249 = .ok (.iaload, 1) := by decide +kernel
theorem dL_law_250 : decode cL_law 250 = .ok (.aload_n 0, 1) := by decide +kernel
theorem dL_law_251 : decode cL_law 251 = .ok (.iload_n 3, 1) := by decide +kernel
theorem dL_law_252 : decode cL_law 252 = .ok (.iconst 2, 1) := by decide +kernel
theorem dL_law_253 : decode cL_law 253 = .ok (.iadd, 1) := by decide +kernel
theorem dL_law_254 : decode cL_law 254 = .ok (.iaload, 1) := by decide +kernel
theorem dL_law_255 : decode cL_law 255 = .ok (.invokevirtual 27, 3) := by decide +kernel
theorem dL_law_258 : decode cL_law 258 = .ok (.if_icmp .eq 628, 3) := by decide +kernel
theorem dL_law_261 : decode cL_law 261 = .ok (.iconst 0, 1) := by decide +kernel
theorem dL_law_262 : decode cL_law 262 = .ok (.ireturn, 1) := by decide +kernel
theorem dL_law_263 : decode cL_law 263 = .ok (.aload_n 1, 1) := by decide +kernel
theorem dL_law_264 : decode cL_law 264 = .ok (.invokevirtual 28, 3) := by decide +kernel
theorem dL_law_267 : decode cL_law 267 = .ok (.aload_n 2, 1) := by decide +kernel
theorem dL_law_268 : decode cL_law 268 = .ok (.invokevirtual 32, 3) := by decide +kernel
theorem dL_law_271 : decode cL_law 271 = .ok (.if_icmp .eq 615, 3) := by decide +kernel
theorem dL_law_274 : decode cL_law 274 = .ok (.iconst 0, 1) := by decide +kernel
theorem dL_law_275 : decode cL_law 275 = .ok (.ireturn, 1) := by decide +kernel
theorem dL_law_276 : decode cL_law 276 = .ok (.aload_n 1, 1) := by decide +kernel
theorem dL_law_277 : decode cL_law 277 = .ok (.aload_n 0, 1) := by decide +kernel
theorem dL_law_278 : decode cL_law 278 = .ok (.iload_n 3, 1) := by decide +kernel
theorem dL_law_279 : decode cL_law 279 = .ok (.iconst 1, 1) := by decide +kernel
theorem dL_law_280 : decode cL_law 280 = .ok (.iadd, 1) := by decide +kernel
theorem dL_law_281 : decode cL_law 281 = .ok (.iaload, 1) := by decide +kernel
theorem dL_law_282 : decode cL_law 282 = .ok (.aload_n 0, 1) := by decide +kernel
theorem dL_law_283 : decode cL_law 283 = .ok (.iload_n 3, 1) := by decide +kernel
theorem dL_law_284 : decode cL_law 284 = .ok (.iconst 2, 1) := by decide +kernel
theorem dL_law_285 : decode cL_law 285 = .ok (.iadd, 1) := by decide +kernel
theorem dL_law_286 : decode cL_law 286 = .ok (.iaload, 1) := by decide +kernel
theorem dL_law_287 : decode cL_law 287 = .ok (.invokevirtual 33, 3) := by decide +kernel
theorem dL_law_290 : decode cL_law 290 = .ok (.aload_n 2, 1) := by decide +kernel
theorem dL_law_291 : decode cL_law 291 = .ok (.aload_n 0, 1) := by decide +kernel
theorem dL_law_292 : decode cL_law 292 = .ok (.iload_n 3, 1) := by decide +kernel
theorem dL_law_293 : decode cL_law 293 = .ok (.iconst 1, 1) := by decide +kernel
theorem dL_law_294 : decode cL_law 294 = .ok (.iadd, 1) := by decide +kernel
theorem dL_law_295 : decode cL_law 295 = .ok (.iaload, 1) := by decide +kernel
theorem dL_law_296 : decode cL_law 296 = .ok (.aload_n 0, 1) := by decide +kernel
theorem dL_law_297 : decode cL_law 297 = .ok (.iload_n 3, 1) := by decide +kernel
theorem dL_law_298 : decode cL_law 298 = .ok (.iconst 2, 1) := by decide +kernel
theorem dL_law_299 : decode cL_law 299 = .ok (.iadd, 1) := by decide +kernel
theorem dL_law_300 : decode cL_law 300 = .ok (.iaload, 1) := by decide +kernel
theorem dL_law_301 : decode cL_law 301 = .ok (.invokevirtual 36, 3) := by decide +kernel
theorem dL_law_304 : decode cL_law 304 = .ok (.if_icmp .eq 582, 3) := by decide +kernel
theorem dL_law_307 : decode cL_law 307 = .ok (.iconst 0, 1) := by decide +kernel
theorem dL_law_308 : decode cL_law 308 = .ok (.ireturn, 1) := by decide +kernel
theorem dL_law_309 : decode cL_law 309 = .ok (.aload_n 1, 1) := by decide +kernel
theorem dL_law_310 : decode cL_law 310 = .ok (.aload_n 0, 1) := by decide +kernel
theorem dL_law_311 : decode cL_law 311 = .ok (.iload_n 3, 1) := by decide +kernel
theorem dL_law_312 : decode cL_law 312 = .ok (.iconst 1, 1) := by decide +kernel
theorem dL_law_313 : decode cL_law 313 = .ok (.iadd, 1) := by decide +kernel
theorem dL_law_314 : decode cL_law 314 = .ok (.iaload, 1) := by decide +kernel
theorem dL_law_315 : decode cL_law 315 = .ok (.aload_n 0, 1) := by decide +kernel
theorem dL_law_316 : decode cL_law 316 = .ok (.iload_n 3, 1) := by decide +kernel
theorem dL_law_317 : decode cL_law 317 = .ok (.iconst 2, 1) := by decide +kernel
theorem dL_law_318 : decode cL_law 318 = .ok (.iadd, 1) := by decide +kernel
theorem dL_law_319 : decode cL_law 319 = .ok (.iaload, 1) := by decide +kernel
theorem dL_law_320 : decode cL_law 320 = .ok (.invokevirtual 37, 3) := by decide +kernel
theorem dL_law_323 : decode cL_law 323 = .ok (.aload_n 2, 1) := by decide +kernel
theorem dL_law_324 : decode cL_law 324 = .ok (.aload_n 0, 1) := by decide +kernel
theorem dL_law_325 : decode cL_law 325 = .ok (.iload_n 3, 1) := by decide +kernel
theorem dL_law_326 : decode cL_law 326 = .ok (.iconst 1, 1) := by decide +kernel
theorem dL_law_327 : decode cL_law 327 = .ok (.iadd, 1) := by decide +kernel
theorem dL_law_328 : decode cL_law 328 = .ok (.iaload, 1) := by decide +kernel
theorem dL_law_329 : decode cL_law 329 = .ok (.aload_n 0, 1) := by decide +kernel
theorem dL_law_330 : decode cL_law 330 = .ok (.iload_n 3, 1) := by decide +kernel
theorem dL_law_331 : decode cL_law 331 = .ok (.iconst 2, 1) := by decide +kernel
theorem dL_law_332 : decode cL_law 332 = .ok (.iadd, 1) := by decide +kernel
theorem dL_law_333 : decode cL_law 333 = .ok (.iaload, 1) := by decide +kernel
theorem dL_law_334 : decode cL_law 334 = .ok (.invokevirtual 40, 3) := by decide +kernel
theorem dL_law_337 : decode cL_law 337 = .ok (.if_icmp .eq 549, 3) := by decide +kernel
theorem dL_law_340 : decode cL_law 340 = .ok (.iconst 0, 1) := by decide +kernel
theorem dL_law_341 : decode cL_law 341 = .ok (.ireturn, 1) := by decide +kernel
theorem dL_law_342 : decode cL_law 342 = .ok (.aload_n 1, 1) := by decide +kernel
theorem dL_law_343 : decode cL_law 343 = .ok (.invokevirtual 41, 3) := by decide +kernel
theorem dL_law_346 : decode cL_law 346 = .ok (.aload_n 2, 1) := by decide +kernel
theorem dL_law_347 : decode cL_law 347 = .ok (.invokevirtual 44, 3) := by decide +kernel
theorem dL_law_350 : decode cL_law 350 = .ok (.if_icmp .eq 536, 3) := by decide +kernel
theorem dL_law_353 : decode cL_law 353 = .ok (.iconst 0, 1) := by decide +kernel
theorem dL_law_354 : decode cL_law 354 = .ok (.ireturn, 1) := by decide +kernel
theorem dL_law_355 : decode cL_law 355 = .ok (.aload_n 1, 1) := by decide +kernel
theorem dL_law_356 : decode cL_law 356 = .ok (.aload_n 0, 1) := by decide +kernel
theorem dL_law_357 : decode cL_law 357 = .ok (.iload_n 3, 1) := by decide +kernel
theorem dL_law_358 : decode cL_law 358 = .ok (.iconst 1, 1) := by decide +kernel
theorem dL_law_359 : decode cL_law 359 = .ok (.iadd, 1) := by decide +kernel
theorem dL_law_360 : decode cL_law 360 = .ok (.iaload, 1) := by decide +kernel
theorem dL_law_361 : decode cL_law 361 = .ok (.aload_n 0, 1) := by decide +kernel
theorem dL_law_362 : decode cL_law 362 = .ok (.iload_n 3, 1) := by decide +kernel
theorem dL_law_363 : decode cL_law 363 = .ok (.iconst 2, 1) := by decide +kernel
theorem dL_law_364 : decode cL_law 364 = .ok (.iadd, 1) := by decide +kernel
theorem dL_law_365 : decode cL_law 365 = .ok (.iaload, 1) := by decide +kernel
theorem dL_law_366 : decode cL_law 366 = .ok (.invokevirtual 45, 3) := by decide +kernel
theorem dL_law_369 : decode cL_law 369 = .ok (.aload_n 2, 1) := by decide +kernel
theorem dL_law_370 : decode cL_law 370 = .ok (.aload_n 0, 1) := by decide +kernel
theorem dL_law_371 : decode cL_law 371 = .ok (.iload_n 3, 1) := by decide +kernel
theorem dL_law_372 : decode cL_law 372 = .ok (.iconst 1, 1) := by decide +kernel
theorem dL_law_373 : decode cL_law 373 = .ok (.iadd, 1) := by decide +kernel
theorem dL_law_374 : decode cL_law 374 = .ok (.iaload, 1) := by decide +kernel
theorem dL_law_375 : decode cL_law 375 = .ok (.aload_n 0, 1) := by decide +kernel
theorem dL_law_376 : decode cL_law 376 = .ok (.iload_n 3, 1) := by decide +kernel
theorem dL_law_377 : decode cL_law 377 = .ok (.iconst 2, 1) := by decide +kernel
theorem dL_law_378 : decode cL_law 378 = .ok (.iadd, 1) := by decide +kernel
theorem dL_law_379 : decode cL_law 379 = .ok (.iaload, 1) := by decide +kernel
theorem dL_law_380 : decode cL_law 380 = .ok (.invokevirtual 48, 3) := by decide +kernel
theorem dL_law_383 : decode cL_law 383 = .ok (.if_icmp .eq 503, 3) := by decide +kernel
theorem dL_law_386 : decode cL_law 386 = .ok (.iconst 0, 1) := by decide +kernel
theorem dL_law_387 : decode cL_law 387 = .ok (.ireturn, 1) := by decide +kernel
theorem dL_law_388 : decode cL_law 388 = .ok (.aload_n 1, 1) := by decide +kernel
theorem dL_law_389 : decode cL_law 389 = .ok (.aload_n 0, 1) := by decide +kernel
theorem dL_law_390 : decode cL_law 390 = .ok (.iload_n 3, 1) := by decide +kernel
theorem dL_law_391 : decode cL_law 391 = .ok (.iconst 1, 1) := by decide +kernel
theorem dL_law_392 : decode cL_law 392 = .ok (.iadd, 1) := by decide +kernel
theorem dL_law_393 : decode cL_law 393 = .ok (.iaload, 1) := by decide +kernel
theorem dL_law_394 : decode cL_law 394 = .ok (.aload_n 0, 1) := by decide +kernel
theorem dL_law_395 : decode cL_law 395 = .ok (.iload_n 3, 1) := by decide +kernel
theorem dL_law_396 : decode cL_law 396 = .ok (.iconst 2, 1) := by decide +kernel
theorem dL_law_397 : decode cL_law 397 = .ok (.iadd, 1) := by decide +kernel
theorem dL_law_398 : decode cL_law 398 = .ok (.iaload, 1) := by decide +kernel
theorem dL_law_399 : decode cL_law 399 = .ok (.aload_n 0, 1) := by decide +kernel
theorem dL_law_400 : decode cL_law 400 = .ok (.iload_n 3, 1) := by decide +kernel
theorem dL_law_401 : decode cL_law 401 = .ok (.iconst 3, 1) := by decide +kernel
theorem dL_law_402 : decode cL_law 402 = .ok (.iadd, 1) := by decide +kernel
theorem dL_law_403 : decode cL_law 403 = .ok (.iaload, 1) := by decide +kernel
theorem dL_law_404 : decode cL_law 404 = .ok (.aload_n 0, 1) := by decide +kernel
theorem dL_law_405 : decode cL_law 405 = .ok (.iload_n 3, 1) := by decide +kernel
theorem dL_law_406 : decode cL_law 406 = .ok (.iconst 4, 1) := by decide +kernel
theorem dL_law_407 : decode cL_law 407 = .ok (.iadd, 1) := by decide +kernel
theorem dL_law_408 : decode cL_law 408 = .ok (.iaload, 1) := by decide +kernel
theorem dL_law_409 : decode cL_law 409 = .ok (.aload_n 0, 1) := by decide +kernel
theorem dL_law_410 : decode cL_law 410 = .ok (.iload_n 3, 1) := by decide +kernel
theorem dL_law_411 : decode cL_law 411 = .ok (.iconst 5, 1) := by decide +kernel
theorem dL_law_412 : decode cL_law 412 = .ok (.iadd, 1) := by decide +kernel
theorem dL_law_413 : decode cL_law 413 = .ok (.iaload, 1) := by decide +kernel
theorem dL_law_414 : decode cL_law 414 = .ok (.invokevirtual 49, 3) := by decide +kernel
theorem dL_law_417 : decode cL_law 417 = .ok (.aload_n 2, 1) := by decide +kernel
theorem dL_law_418 : decode cL_law 418 = .ok (.aload_n 0, 1) := by decide +kernel
theorem dL_law_419 : decode cL_law 419 = .ok (.iload_n 3, 1) := by decide +kernel
theorem dL_law_420 : decode cL_law 420 = .ok (.iconst 1, 1) := by decide +kernel
theorem dL_law_421 : decode cL_law 421 = .ok (.iadd, 1) := by decide +kernel
theorem dL_law_422 : decode cL_law 422 = .ok (.iaload, 1) := by decide +kernel
theorem dL_law_423 : decode cL_law 423 = .ok (.aload_n 0, 1) := by decide +kernel
theorem dL_law_424 : decode cL_law 424 = .ok (.iload_n 3, 1) := by decide +kernel
theorem dL_law_425 : decode cL_law 425 = .ok (.iconst 2, 1) := by decide +kernel
theorem dL_law_426 : decode cL_law 426 = .ok (.iadd, 1) := by decide +kernel
theorem dL_law_427 : decode cL_law 427 = .ok (.iaload, 1) := by decide +kernel
theorem dL_law_428 : decode cL_law 428 = .ok (.aload_n 0, 1) := by decide +kernel
theorem dL_law_429 : decode cL_law 429 = .ok (.iload_n 3, 1) := by decide +kernel
theorem dL_law_430 : decode cL_law 430 = .ok (.iconst 3, 1) := by decide +kernel
theorem dL_law_431 : decode cL_law 431 = .ok (.iadd, 1) := by decide +kernel
theorem dL_law_432 : decode cL_law 432 = .ok (.iaload, 1) := by decide +kernel
theorem dL_law_433 : decode cL_law 433 = .ok (.aload_n 0, 1) := by decide +kernel
theorem dL_law_434 : decode cL_law 434 = .ok (.iload_n 3, 1) := by decide +kernel
theorem dL_law_435 : decode cL_law 435 = .ok (.iconst 4, 1) := by decide +kernel
theorem dL_law_436 : decode cL_law 436 = .ok (.iadd, 1) := by decide +kernel
theorem dL_law_437 : decode cL_law 437 = .ok (.iaload, 1) := by decide +kernel
theorem dL_law_438 : decode cL_law 438 = .ok (.aload_n 0, 1) := by decide +kernel
theorem dL_law_439 : decode cL_law 439 = .ok (.iload_n 3, 1) := by decide +kernel
theorem dL_law_440 : decode cL_law 440 = .ok (.iconst 5, 1) := by decide +kernel
theorem dL_law_441 : decode cL_law 441 = .ok (.iadd, 1) := by decide +kernel
theorem dL_law_442 : decode cL_law 442 = .ok (.iaload, 1) := by decide +kernel
theorem dL_law_443 : decode cL_law 443 = .ok (.invokevirtual 52, 3) := by decide +kernel
theorem dL_law_446 : decode cL_law 446 = .ok (.if_icmp .eq 440, 3) := by decide +kernel
theorem dL_law_449 : decode cL_law 449 = .ok (.iconst 0, 1) := by decide +kernel
theorem dL_law_450 : decode cL_law 450 = .ok (.ireturn, 1) := by decide +kernel
theorem dL_law_451 : decode cL_law 451 = .ok (.aload_n 1, 1) := by decide +kernel
theorem dL_law_452 : decode cL_law 452 = .ok (.aload_n 0, 1) := by decide +kernel
theorem dL_law_453 : decode cL_law 453 = .ok (.iload_n 3, 1) := by decide +kernel
theorem dL_law_454 : decode cL_law 454 = .ok (.iconst 1, 1) := by decide +kernel
theorem dL_law_455 : decode cL_law 455 = .ok (.iadd, 1) := by decide +kernel
theorem dL_law_456 : decode cL_law 456 = .ok (.iaload, 1) := by decide +kernel
theorem dL_law_457 : decode cL_law 457 = .ok (.invokevirtual 53, 3) := by decide +kernel
theorem dL_law_460 : decode cL_law 460 = .ok (.aload_n 2, 1) := by decide +kernel
theorem dL_law_461 : decode cL_law 461 = .ok (.aload_n 0, 1) := by decide +kernel
theorem dL_law_462 : decode cL_law 462 = .ok (.iload_n 3, 1) := by decide +kernel
theorem dL_law_463 : decode cL_law 463 = .ok (.iconst 1, 1) := by decide +kernel
theorem dL_law_464 : decode cL_law 464 = .ok (.iadd, 1) := by decide +kernel
theorem dL_law_465 : decode cL_law 465 = .ok (.iaload, 1) := by decide +kernel
theorem dL_law_466 : decode cL_law 466 = .ok (.invokevirtual 56, 3) := by decide +kernel
theorem dL_law_469 : decode cL_law 469 = .ok (.if_icmp .eq 417, 3) := by decide +kernel
theorem dL_law_472 : decode cL_law 472 = .ok (.iconst 0, 1) := by decide +kernel
theorem dL_law_473 : decode cL_law 473 = .ok (.ireturn, 1) := by decide +kernel
theorem dL_law_474 : decode cL_law 474 = .ok (.aload_n 1, 1) := by decide +kernel
theorem dL_law_475 : decode cL_law 475 = .ok (.aload_n 0, 1) := by decide +kernel
theorem dL_law_476 : decode cL_law 476 = .ok (.iload_n 3, 1) := by decide +kernel
theorem dL_law_477 : decode cL_law 477 = .ok (.iconst 1, 1) := by decide +kernel
theorem dL_law_478 : decode cL_law 478 = .ok (.iadd, 1) := by decide +kernel
theorem dL_law_479 : decode cL_law 479 = .ok (.iaload, 1) := by decide +kernel
theorem dL_law_480 : decode cL_law 480 = .ok (.aload_n 0, 1) := by decide +kernel
theorem dL_law_481 : decode cL_law 481 = .ok (.iload_n 3, 1) := by decide +kernel
theorem dL_law_482 : decode cL_law 482 = .ok (.iconst 2, 1) := by decide +kernel
theorem dL_law_483 : decode cL_law 483 = .ok (.iadd, 1) := by decide +kernel
theorem dL_law_484 : decode cL_law 484 = .ok (.iaload, 1) := by decide +kernel
theorem dL_law_485 : decode cL_law 485 = .ok (.invokevirtual 57, 3) := by decide +kernel
theorem dL_law_488 : decode cL_law 488 = .ok (.aload_n 2, 1) := by decide +kernel
theorem dL_law_489 : decode cL_law 489 = .ok (.aload_n 0, 1) := by decide +kernel
theorem dL_law_490 : decode cL_law 490 = .ok (.iload_n 3, 1) := by decide +kernel
theorem dL_law_491 : decode cL_law 491 = .ok (.iconst 1, 1) := by decide +kernel
theorem dL_law_492 : decode cL_law 492 = .ok (.iadd, 1) := by decide +kernel
theorem dL_law_493 : decode cL_law 493 = .ok (.iaload, 1) := by decide +kernel
theorem dL_law_494 : decode cL_law 494 = .ok (.aload_n 0, 1) := by decide +kernel
theorem dL_law_495 : decode cL_law 495 = .ok (.iload_n 3, 1) := by decide +kernel
theorem dL_law_496 : decode cL_law 496 = .ok (.iconst 2, 1) := by decide +kernel
theorem dL_law_497 : decode cL_law 497 = .ok (.iadd, 1) := by decide +kernel
theorem dL_law_498 : decode cL_law 498 = .ok (.iaload, 1) := by decide +kernel
theorem dL_law_499 : decode cL_law 499 = .ok (.invokevirtual 60, 3) := by decide +kernel
theorem dL_law_502 : decode cL_law 502 = .ok (.if_icmp .eq 384, 3) := by decide +kernel
theorem dL_law_505 : decode cL_law 505 = .ok (.iconst 0, 1) := by decide +kernel
theorem dL_law_506 : decode cL_law 506 = .ok (.ireturn, 1) := by decide +kernel
theorem dL_law_507 : decode cL_law 507 = .ok (.aload_n 1, 1) := by decide +kernel
theorem dL_law_508 : decode cL_law 508 = .ok (.aload_n 0, 1) := by decide +kernel
theorem dL_law_509 : decode cL_law 509 = .ok (.iload_n 3, 1) := by decide +kernel
theorem dL_law_510 : decode cL_law 510 = .ok (.iconst 1, 1) := by decide +kernel
theorem dL_law_511 : decode cL_law 511 = .ok (.iadd, 1) := by decide +kernel
theorem dL_law_512 : decode cL_law 512 = .ok (.iaload, 1) := by decide +kernel
theorem dL_law_513 : decode cL_law 513 = .ok (.invokevirtual 61, 3) := by decide +kernel
theorem dL_law_516 : decode cL_law 516 = .ok (.aload_n 2, 1) := by decide +kernel
theorem dL_law_517 : decode cL_law 517 = .ok (.aload_n 0, 1) := by decide +kernel
theorem dL_law_518 : decode cL_law 518 = .ok (.iload_n 3, 1) := by decide +kernel
theorem dL_law_519 : decode cL_law 519 = .ok (.iconst 1, 1) := by decide +kernel
theorem dL_law_520 : decode cL_law 520 = .ok (.iadd, 1) := by decide +kernel
theorem dL_law_521 : decode cL_law 521 = .ok (.iaload, 1) := by decide +kernel
theorem dL_law_522 : decode cL_law 522 = .ok (.invokevirtual 64, 3) := by decide +kernel
theorem dL_law_525 : decode cL_law 525 = .ok (.if_icmp .eq 361, 3) := by decide +kernel
theorem dL_law_528 : decode cL_law 528 = .ok (.iconst 0, 1) := by decide +kernel
theorem dL_law_529 : decode cL_law 529 = .ok (.ireturn, 1) := by decide +kernel
theorem dL_law_530 : decode cL_law 530 = .ok (.aload_n 1, 1) := by decide +kernel
theorem dL_law_531 : decode cL_law 531 = .ok (.aload_n 0, 1) := by decide +kernel
theorem dL_law_532 : decode cL_law 532 = .ok (.iload_n 3, 1) := by decide +kernel
theorem dL_law_533 : decode cL_law 533 = .ok (.iconst 1, 1) := by decide +kernel
theorem dL_law_534 : decode cL_law 534 = .ok (.iadd, 1) := by decide +kernel
theorem dL_law_535 : decode cL_law 535 = .ok (.iaload, 1) := by decide +kernel
theorem dL_law_536 : decode cL_law 536 = .ok (.aload_n 0, 1) := by decide +kernel
theorem dL_law_537 : decode cL_law 537 = .ok (.iload_n 3, 1) := by decide +kernel
theorem dL_law_538 : decode cL_law 538 = .ok (.iconst 2, 1) := by decide +kernel
theorem dL_law_539 : decode cL_law 539 = .ok (.iadd, 1) := by decide +kernel
theorem dL_law_540 : decode cL_law 540 = .ok (.iaload, 1) := by decide +kernel
theorem dL_law_541 : decode cL_law 541 = .ok (.invokevirtual 65, 3) := by decide +kernel
theorem dL_law_544 : decode cL_law 544 = .ok (.aload_n 2, 1) := by decide +kernel
theorem dL_law_545 : decode cL_law 545 = .ok (.aload_n 0, 1) := by decide +kernel
theorem dL_law_546 : decode cL_law 546 = .ok (.iload_n 3, 1) := by decide +kernel
theorem dL_law_547 : decode cL_law 547 = .ok (.iconst 1, 1) := by decide +kernel
theorem dL_law_548 : decode cL_law 548 = .ok (.iadd, 1) := by decide +kernel
theorem dL_law_549 : decode cL_law 549 = .ok (.iaload, 1) := by decide +kernel
theorem dL_law_550 : decode cL_law 550 = .ok (.aload_n 0, 1) := by decide +kernel
theorem dL_law_551 : decode cL_law 551 = .ok (.iload_n 3, 1) := by decide +kernel
theorem dL_law_552 : decode cL_law 552 = .ok (.iconst 2, 1) := by decide +kernel
theorem dL_law_553 : decode cL_law 553 = .ok (.iadd, 1) := by decide +kernel
theorem dL_law_554 : decode cL_law 554 = .ok (.iaload, 1) := by decide +kernel
theorem dL_law_555 : decode cL_law 555 = .ok (.invokevirtual 68, 3) := by decide +kernel
theorem dL_law_558 : decode cL_law 558 = .ok (.if_icmp .eq 328, 3) := by decide +kernel
theorem dL_law_561 : decode cL_law 561 = .ok (.iconst 0, 1) := by decide +kernel
theorem dL_law_562 : decode cL_law 562 = .ok (.ireturn, 1) := by decide +kernel
theorem dL_law_563 : decode cL_law 563 = .ok (.aload_n 1, 1) := by decide +kernel
theorem dL_law_564 : decode cL_law 564 = .ok (.aload_n 0, 1) := by decide +kernel
theorem dL_law_565 : decode cL_law 565 = .ok (.iload_n 3, 1) := by decide +kernel
theorem dL_law_566 : decode cL_law 566 = .ok (.iconst 1, 1) := by decide +kernel
theorem dL_law_567 : decode cL_law 567 = .ok (.iadd, 1) := by decide +kernel
theorem dL_law_568 : decode cL_law 568 = .ok (.iaload, 1) := by decide +kernel
theorem dL_law_569 : decode cL_law 569 = .ok (.aload_n 0, 1) := by decide +kernel
theorem dL_law_570 : decode cL_law 570 = .ok (.iload_n 3, 1) := by decide +kernel
theorem dL_law_571 : decode cL_law 571 = .ok (.iconst 2, 1) := by decide +kernel
theorem dL_law_572 : decode cL_law 572 = .ok (.iadd, 1) := by decide +kernel
theorem dL_law_573 : decode cL_law 573 = .ok (.iaload, 1) := by decide +kernel
theorem dL_law_574 : decode cL_law 574 = .ok (.invokevirtual 69, 3) := by decide +kernel
theorem dL_law_577 : decode cL_law 577 = .ok (.aload_n 2, 1) := by decide +kernel
theorem dL_law_578 : decode cL_law 578 = .ok (.aload_n 0, 1) := by decide +kernel
theorem dL_law_579 : decode cL_law 579 = .ok (.iload_n 3, 1) := by decide +kernel
theorem dL_law_580 : decode cL_law 580 = .ok (.iconst 1, 1) := by decide +kernel
theorem dL_law_581 : decode cL_law 581 = .ok (.iadd, 1) := by decide +kernel
theorem dL_law_582 : decode cL_law 582 = .ok (.iaload, 1) := by decide +kernel
theorem dL_law_583 : decode cL_law 583 = .ok (.aload_n 0, 1) := by decide +kernel
theorem dL_law_584 : decode cL_law 584 = .ok (.iload_n 3, 1) := by decide +kernel
theorem dL_law_585 : decode cL_law 585 = .ok (.iconst 2, 1) := by decide +kernel
theorem dL_law_586 : decode cL_law 586 = .ok (.iadd, 1) := by decide +kernel
theorem dL_law_587 : decode cL_law 587 = .ok (.iaload, 1) := by decide +kernel
theorem dL_law_588 : decode cL_law 588 = .ok (.invokevirtual 72, 3) := by decide +kernel
theorem dL_law_591 : decode cL_law 591 = .ok (.if_icmp .eq 295, 3) := by decide +kernel
theorem dL_law_594 : decode cL_law 594 = .ok (.iconst 0, 1) := by decide +kernel
theorem dL_law_595 : decode cL_law 595 = .ok (.ireturn, 1) := by decide +kernel
theorem dL_law_596 : decode cL_law 596 = .ok (.aload_n 1, 1) := by decide +kernel
theorem dL_law_597 : decode cL_law 597 = .ok (.aload_n 0, 1) := by decide +kernel
theorem dL_law_598 : decode cL_law 598 = .ok (.iload_n 3, 1) := by decide +kernel
theorem dL_law_599 : decode cL_law 599 = .ok (.iconst 1, 1) := by decide +kernel
theorem dL_law_600 : decode cL_law 600 = .ok (.iadd, 1) := by decide +kernel
theorem dL_law_601 : decode cL_law 601 = .ok (.iaload, 1) := by decide +kernel
theorem dL_law_602 : decode cL_law 602 = .ok (.aload_n 0, 1) := by decide +kernel
theorem dL_law_603 : decode cL_law 603 = .ok (.iload_n 3, 1) := by decide +kernel
theorem dL_law_604 : decode cL_law 604 = .ok (.iconst 2, 1) := by decide +kernel
theorem dL_law_605 : decode cL_law 605 = .ok (.iadd, 1) := by decide +kernel
theorem dL_law_606 : decode cL_law 606 = .ok (.iaload, 1) := by decide +kernel
theorem dL_law_607 : decode cL_law 607 = .ok (.invokevirtual 73, 3) := by decide +kernel
theorem dL_law_610 : decode cL_law 610 = .ok (.aload_n 2, 1) := by decide +kernel
theorem dL_law_611 : decode cL_law 611 = .ok (.aload_n 0, 1) := by decide +kernel
theorem dL_law_612 : decode cL_law 612 = .ok (.iload_n 3, 1) := by decide +kernel
theorem dL_law_613 : decode cL_law 613 = .ok (.iconst 1, 1) := by decide +kernel
theorem dL_law_614 : decode cL_law 614 = .ok (.iadd, 1) := by decide +kernel
theorem dL_law_615 : decode cL_law 615 = .ok (.iaload, 1) := by decide +kernel
theorem dL_law_616 : decode cL_law 616 = .ok (.aload_n 0, 1) := by decide +kernel
theorem dL_law_617 : decode cL_law 617 = .ok (.iload_n 3, 1) := by decide +kernel
theorem dL_law_618 : decode cL_law 618 = .ok (.iconst 2, 1) := by decide +kernel
theorem dL_law_619 : decode cL_law 619 = .ok (.iadd, 1) := by decide +kernel
theorem dL_law_620 : decode cL_law 620 = .ok (.iaload, 1) := by decide +kernel
theorem dL_law_621 : decode cL_law 621 = .ok (.invokevirtual 76, 3) := by decide +kernel
theorem dL_law_624 : decode cL_law 624 = .ok (.if_icmp .eq 262, 3) := by decide +kernel
theorem dL_law_627 : decode cL_law 627 = .ok (.iconst 0, 1) := by decide +kernel
theorem dL_law_628 : decode cL_law 628 = .ok (.ireturn, 1) := by decide +kernel
theorem dL_law_629 : decode cL_law 629 = .ok (.aload_n 1, 1) := by decide +kernel
theorem dL_law_630 : decode cL_law 630 = .ok (.aload_n 0, 1) := by decide +kernel
theorem dL_law_631 : decode cL_law 631 = .ok (.iload_n 3, 1) := by decide +kernel
theorem dL_law_632 : decode cL_law 632 = .ok (.iconst 1, 1) := by decide +kernel
theorem dL_law_633 : decode cL_law 633 = .ok (.iadd, 1) := by decide +kernel
theorem dL_law_634 : decode cL_law 634 = .ok (.iaload, 1) := by decide +kernel
theorem dL_law_635 : decode cL_law 635 = .ok (.invokevirtual 77, 3) := by decide +kernel
theorem dL_law_638 : decode cL_law 638 = .ok (.aload_n 2, 1) := by decide +kernel
theorem dL_law_639 : decode cL_law 639 = .ok (.aload_n 0, 1) := by decide +kernel
theorem dL_law_640 : decode cL_law 640 = .ok (.iload_n 3, 1) := by decide +kernel
theorem dL_law_641 : decode cL_law 641 = .ok (.iconst 1, 1) := by decide +kernel
theorem dL_law_642 : decode cL_law 642 = .ok (.iadd, 1) := by decide +kernel
theorem dL_law_643 : decode cL_law 643 = .ok (.iaload, 1) := by decide +kernel
theorem dL_law_644 : decode cL_law 644 = .ok (.invokevirtual 80, 3) := by decide +kernel
theorem dL_law_647 : decode cL_law 647 = .ok (.if_icmp .eq 239, 3) := by decide +kernel
theorem dL_law_650 : decode cL_law 650 = .ok (.iconst 0, 1) := by decide +kernel
theorem dL_law_651 : decode cL_law 651 = .ok (.ireturn, 1) := by decide +kernel
theorem dL_law_652 : decode cL_law 652 = .ok (.aload_n 1, 1) := by decide +kernel
theorem dL_law_653 : decode cL_law 653 = .ok (.aload_n 0, 1) := by decide +kernel
theorem dL_law_654 : decode cL_law 654 = .ok (.iload_n 3, 1) := by decide +kernel
theorem dL_law_655 : decode cL_law 655 = .ok (.iconst 1, 1) := by decide +kernel
theorem dL_law_656 : decode cL_law 656 = .ok (.iadd, 1) := by decide +kernel
theorem dL_law_657 : decode cL_law 657 = .ok (.iaload, 1) := by decide +kernel
theorem dL_law_658 : decode cL_law 658 = .ok (.invokevirtual 81, 3) := by decide +kernel
theorem dL_law_661 : decode cL_law 661 = .ok (.aload_n 2, 1) := by decide +kernel
theorem dL_law_662 : decode cL_law 662 = .ok (.aload_n 0, 1) := by decide +kernel
theorem dL_law_663 : decode cL_law 663 = .ok (.iload_n 3, 1) := by decide +kernel
theorem dL_law_664 : decode cL_law 664 = .ok (.iconst 1, 1) := by decide +kernel
theorem dL_law_665 : decode cL_law 665 = .ok (.iadd, 1) := by decide +kernel
theorem dL_law_666 : decode cL_law 666 = .ok (.iaload, 1) := by decide +kernel
theorem dL_law_667 : decode cL_law 667 = .ok (.invokevirtual 84, 3) := by decide +kernel
theorem dL_law_670 : decode cL_law 670 = .ok (.if_icmp .eq 216, 3) := by decide +kernel
theorem dL_law_673 : decode cL_law 673 = .ok (.iconst 0, 1) := by decide +kernel
theorem dL_law_674 : decode cL_law 674 = .ok (.ireturn, 1) := by decide +kernel
theorem dL_law_675 : decode cL_law 675 = .ok (.aload_n 1, 1) := by decide +kernel
theorem dL_law_676 : decode cL_law 676 = .ok (.aload_n 0, 1) := by decide +kernel
theorem dL_law_677 : decode cL_law 677 = .ok (.iload_n 3, 1) := by decide +kernel
theorem dL_law_678 : decode cL_law 678 = .ok (.iconst 1, 1) := by decide +kernel
theorem dL_law_679 : decode cL_law 679 = .ok (.iadd, 1) := by decide +kernel
theorem dL_law_680 : decode cL_law 680 = .ok (.iaload, 1) := by decide +kernel
theorem dL_law_681 : decode cL_law 681 = .ok (.aload_n 0, 1) := by decide +kernel
theorem dL_law_682 : decode cL_law 682 = .ok (.iload_n 3, 1) := by decide +kernel
theorem dL_law_683 : decode cL_law 683 = .ok (.iconst 2, 1) := by decide +kernel
theorem dL_law_684 : decode cL_law 684 = .ok (.iadd, 1) := by decide +kernel
theorem dL_law_685 : decode cL_law 685 = .ok (.iaload, 1) := by decide +kernel
theorem dL_law_686 : decode cL_law 686 = .ok (.aload_n 0, 1) := by decide +kernel
theorem dL_law_687 : decode cL_law 687 = .ok (.iload_n 3, 1) := by decide +kernel
theorem dL_law_688 : decode cL_law 688 = .ok (.iconst 3, 1) := by decide +kernel
theorem dL_law_689 : decode cL_law 689 = .ok (.iadd, 1) := by decide +kernel
theorem dL_law_690 : decode cL_law 690 = .ok (.iaload, 1) := by decide +kernel
theorem dL_law_691 : decode cL_law 691 = .ok (.aload_n 0, 1) := by decide +kernel
theorem dL_law_692 : decode cL_law 692 = .ok (.iload_n 3, 1) := by decide +kernel
theorem dL_law_693 : decode cL_law 693 = .ok (.iconst 4, 1) := by decide +kernel
theorem dL_law_694 : decode cL_law 694 = .ok (.iadd, 1) := by decide +kernel
theorem dL_law_695 : decode cL_law 695 = .ok (.iaload, 1) := by decide +kernel
theorem dL_law_696 : decode cL_law 696 = .ok (.aload_n 0, 1) := by decide +kernel
theorem dL_law_697 : decode cL_law 697 = .ok (.iload_n 3, 1) := by decide +kernel
theorem dL_law_698 : decode cL_law 698 = .ok (.iconst 5, 1) := by decide +kernel
theorem dL_law_699 : decode cL_law 699 = .ok (.iadd, 1) := by decide +kernel
theorem dL_law_700 : decode cL_law 700 = .ok (.iaload, 1) := by decide +kernel
theorem dL_law_701 : decode cL_law 701 = .ok (.invokevirtual 85, 3) := by decide +kernel
theorem dL_law_704 : decode cL_law 704 = .ok (.aload_n 2, 1) := by decide +kernel
theorem dL_law_705 : decode cL_law 705 = .ok (.aload_n 0, 1) := by decide +kernel
theorem dL_law_706 : decode cL_law 706 = .ok (.iload_n 3, 1) := by decide +kernel
theorem dL_law_707 : decode cL_law 707 = .ok (.iconst 1, 1) := by decide +kernel
theorem dL_law_708 : decode cL_law 708 = .ok (.iadd, 1) := by decide +kernel
theorem dL_law_709 : decode cL_law 709 = .ok (.iaload, 1) := by decide +kernel
theorem dL_law_710 : decode cL_law 710 = .ok (.aload_n 0, 1) := by decide +kernel
theorem dL_law_711 : decode cL_law 711 = .ok (.iload_n 3, 1) := by decide +kernel
theorem dL_law_712 : decode cL_law 712 = .ok (.iconst 2, 1) := by decide +kernel
theorem dL_law_713 : decode cL_law 713 = .ok (.iadd, 1) := by decide +kernel
theorem dL_law_714 : decode cL_law 714 = .ok (.iaload, 1) := by decide +kernel
theorem dL_law_715 : decode cL_law 715 = .ok (.aload_n 0, 1) := by decide +kernel
theorem dL_law_716 : decode cL_law 716 = .ok (.iload_n 3, 1) := by decide +kernel
theorem dL_law_717 : decode cL_law 717 = .ok (.iconst 3, 1) := by decide +kernel
theorem dL_law_718 : decode cL_law 718 = .ok (.iadd, 1) := by decide +kernel
theorem dL_law_719 : decode cL_law 719 = .ok (.iaload, 1) := by decide +kernel
theorem dL_law_720 : decode cL_law 720 = .ok (.aload_n 0, 1) := by decide +kernel
theorem dL_law_721 : decode cL_law 721 = .ok (.iload_n 3, 1) := by decide +kernel
theorem dL_law_722 : decode cL_law 722 = .ok (.iconst 4, 1) := by decide +kernel
theorem dL_law_723 : decode cL_law 723 = .ok (.iadd, 1) := by decide +kernel
theorem dL_law_724 : decode cL_law 724 = .ok (.iaload, 1) := by decide +kernel
theorem dL_law_725 : decode cL_law 725 = .ok (.aload_n 0, 1) := by decide +kernel
theorem dL_law_726 : decode cL_law 726 = .ok (.iload_n 3, 1) := by decide +kernel
theorem dL_law_727 : decode cL_law 727 = .ok (.iconst 5, 1) := by decide +kernel
theorem dL_law_728 : decode cL_law 728 = .ok (.iadd, 1) := by decide +kernel
theorem dL_law_729 : decode cL_law 729 = .ok (.iaload, 1) := by decide +kernel
theorem dL_law_730 : decode cL_law 730 = .ok (.invokevirtual 88, 3) := by decide +kernel
theorem dL_law_733 : decode cL_law 733 = .ok (.if_icmp .eq 153, 3) := by decide +kernel
theorem dL_law_736 : decode cL_law 736 = .ok (.iconst 0, 1) := by decide +kernel
theorem dL_law_737 : decode cL_law 737 = .ok (.ireturn, 1) := by decide +kernel
theorem dL_law_738 : decode cL_law 738 = .ok (.aload_n 1, 1) := by decide +kernel
theorem dL_law_739 : decode cL_law 739 = .ok (.aload_n 0, 1) := by decide +kernel
theorem dL_law_740 : decode cL_law 740 = .ok (.iload_n 3, 1) := by decide +kernel
theorem dL_law_741 : decode cL_law 741 = .ok (.iconst 1, 1) := by decide +kernel
theorem dL_law_742 : decode cL_law 742 = .ok (.iadd, 1) := by decide +kernel
theorem dL_law_743 : decode cL_law 743 = .ok (.iaload, 1) := by decide +kernel
theorem dL_law_744 : decode cL_law 744 = .ok (.aload_n 0, 1) := by decide +kernel
theorem dL_law_745 : decode cL_law 745 = .ok (.iload_n 3, 1) := by decide +kernel
theorem dL_law_746 : decode cL_law 746 = .ok (.iconst 2, 1) := by decide +kernel
theorem dL_law_747 : decode cL_law 747 = .ok (.iadd, 1) := by decide +kernel
theorem dL_law_748 : decode cL_law 748 = .ok (.iaload, 1) := by decide +kernel
theorem dL_law_749 : decode cL_law 749 = .ok (.aload_n 0, 1) := by decide +kernel
theorem dL_law_750 : decode cL_law 750 = .ok (.iload_n 3, 1) := by decide +kernel
theorem dL_law_751 : decode cL_law 751 = .ok (.iconst 3, 1) := by decide +kernel
theorem dL_law_752 : decode cL_law 752 = .ok (.iadd, 1) := by decide +kernel
theorem dL_law_753 : decode cL_law 753 = .ok (.iaload, 1) := by decide +kernel
theorem dL_law_754 : decode cL_law 754 = .ok (.aload_n 0, 1) := by decide +kernel
theorem dL_law_755 : decode cL_law 755 = .ok (.iload_n 3, 1) := by decide +kernel
theorem dL_law_756 : decode cL_law 756 = .ok (.iconst 4, 1) := by decide +kernel
theorem dL_law_757 : decode cL_law 757 = .ok (.iadd, 1) := by decide +kernel
theorem dL_law_758 : decode cL_law 758 = .ok (.iaload, 1) := by decide +kernel
theorem dL_law_759 : decode cL_law 759 = .ok (.aload_n 0, 1) := by decide +kernel
theorem dL_law_760 : decode cL_law 760 = .ok (.iload_n 3, 1) := by decide +kernel
theorem dL_law_761 : decode cL_law 761 = .ok (.iconst 5, 1) := by decide +kernel
theorem dL_law_762 : decode cL_law 762 = .ok (.iadd, 1) := by decide +kernel
theorem dL_law_763 : decode cL_law 763 = .ok (.iaload, 1) := by decide +kernel
theorem dL_law_764 : decode cL_law 764 = .ok (.invokevirtual 89, 3) := by decide +kernel
theorem dL_law_767 : decode cL_law 767 = .ok (.aload_n 2, 1) := by decide +kernel
theorem dL_law_768 : decode cL_law 768 = .ok (.aload_n 0, 1) := by decide +kernel
theorem dL_law_769 : decode cL_law 769 = .ok (.iload_n 3, 1) := by decide +kernel
theorem dL_law_770 : decode cL_law 770 = .ok (.iconst 1, 1) := by decide +kernel
theorem dL_law_771 : decode cL_law 771 = .ok (.iadd, 1) := by decide +kernel
theorem dL_law_772 : decode cL_law 772 = .ok (.iaload, 1) := by decide +kernel
theorem dL_law_773 : decode cL_law 773 = .ok (.aload_n 0, 1) := by decide +kernel
theorem dL_law_774 : decode cL_law 774 = .ok (.iload_n 3, 1) := by decide +kernel
theorem dL_law_775 : decode cL_law 775 = .ok (.iconst 2, 1) := by decide +kernel
theorem dL_law_776 : decode cL_law 776 = .ok (.iadd, 1) := by decide +kernel
theorem dL_law_777 : decode cL_law 777 = .ok (.iaload, 1) := by decide +kernel
theorem dL_law_778 : decode cL_law 778 = .ok (.aload_n 0, 1) := by decide +kernel
theorem dL_law_779 : decode cL_law 779 = .ok (.iload_n 3, 1) := by decide +kernel
theorem dL_law_780 : decode cL_law 780 = .ok (.iconst 3, 1) := by decide +kernel
theorem dL_law_781 : decode cL_law 781 = .ok (.iadd, 1) := by decide +kernel
theorem dL_law_782 : decode cL_law 782 = .ok (.iaload, 1) := by decide +kernel
theorem dL_law_783 : decode cL_law 783 = .ok (.aload_n 0, 1) := by decide +kernel
theorem dL_law_784 : decode cL_law 784 = .ok (.iload_n 3, 1) := by decide +kernel
theorem dL_law_785 : decode cL_law 785 = .ok (.iconst 4, 1) := by decide +kernel
theorem dL_law_786 : decode cL_law 786 = .ok (.iadd, 1) := by decide +kernel
theorem dL_law_787 : decode cL_law 787 = .ok (.iaload, 1) := by decide +kernel
theorem dL_law_788 : decode cL_law 788 = .ok (.aload_n 0, 1) := by decide +kernel
theorem dL_law_789 : decode cL_law 789 = .ok (.iload_n 3, 1) := by decide +kernel
theorem dL_law_790 : decode cL_law 790 = .ok (.iconst 5, 1) := by decide +kernel
theorem dL_law_791 : decode cL_law 791 = .ok (.iadd, 1) := by decide +kernel
theorem dL_law_792 : decode cL_law 792 = .ok (.iaload, 1) := by decide +kernel
theorem dL_law_793 : decode cL_law 793 = .ok (.invokevirtual 92, 3) := by decide +kernel
theorem dL_law_796 : decode cL_law 796 = .ok (.if_icmp .eq 90, 3) := by decide +kernel
theorem dL_law_799 : decode cL_law 799 = .ok (.iconst 0, 1) := by decide +kernel
theorem dL_law_800 : decode cL_law 800 = .ok (.ireturn, 1) := by decide +kernel
theorem dL_law_801 : decode cL_law 801 = .ok (.aload_n 1, 1) := by decide +kernel
theorem dL_law_802 : decode cL_law 802 = .ok (.invokevirtual 93, 3) := by decide +kernel
theorem dL_law_805 : decode cL_law 805 = .ok (.aload_n 2, 1) := by decide +kernel
theorem dL_law_806 : decode cL_law 806 = .ok (.invokevirtual 96, 3) := by decide +kernel
theorem dL_law_809 : decode cL_law 809 = .ok (.if_icmp .eq 77, 3) := by decide +kernel
theorem dL_law_812 : decode cL_law 812 = .ok (.iconst 0, 1) := by decide +kernel
theorem dL_law_813 : decode cL_law 813 = .ok (.ireturn, 1) := by decide +kernel
theorem dL_law_814 : decode cL_law 814 = .ok (.aload_n 1, 1) := by decide +kernel
theorem dL_law_815 : decode cL_law 815 = .ok (.invokevirtual 97, 3) := by decide +kernel
theorem dL_law_818 : decode cL_law 818 = .ok (.aload_n 2, 1) := by decide +kernel
theorem dL_law_819 : decode cL_law 819 = .ok (.invokevirtual 100, 3) := by decide +kernel
theorem dL_law_822 : decode cL_law 822 = .ok (.if_icmp .eq 64, 3) := by decide +kernel
theorem dL_law_825 : decode cL_law 825 = .ok (.iconst 0, 1) := by decide +kernel
theorem dL_law_826 : decode cL_law 826 = .ok (.ireturn, 1) := by decide +kernel
theorem dL_law_827 : decode cL_law 827 = .ok (.aload_n 1, 1) := by decide +kernel
theorem dL_law_828 : decode cL_law 828 = .ok (.aload_n 0, 1) := by decide +kernel
theorem dL_law_829 : decode cL_law 829 = .ok (.iload_n 3, 1) := by decide +kernel
theorem dL_law_830 : decode cL_law 830 = .ok (.iconst 1, 1) := by decide +kernel
theorem dL_law_831 : decode cL_law 831 = .ok (.iadd, 1) := by decide +kernel
theorem dL_law_832 : decode cL_law 832 = .ok (.iaload, 1) := by decide +kernel
theorem dL_law_833 : decode cL_law 833 = .ok (.invokevirtual 101, 3) := by decide +kernel
theorem dL_law_836 : decode cL_law 836 = .ok (.aload_n 2, 1) := by decide +kernel
theorem dL_law_837 : decode cL_law 837 = .ok (.aload_n 0, 1) := by decide +kernel
theorem dL_law_838 : decode cL_law 838 = .ok (.iload_n 3, 1) := by decide +kernel
theorem dL_law_839 : decode cL_law 839 = .ok (.iconst 1, 1) := by decide +kernel
theorem dL_law_840 : decode cL_law 840 = .ok (.iadd, 1) := by decide +kernel
theorem dL_law_841 : decode cL_law 841 = .ok (.iaload, 1) := by decide +kernel
theorem dL_law_842 : decode cL_law 842 = .ok (.invokevirtual 104, 3) := by decide +kernel
theorem dL_law_845 : decode cL_law 845 = .ok (.if_icmp .eq 41, 3) := by decide +kernel
theorem dL_law_848 : decode cL_law 848 = .ok (.iconst 0, 1) := by decide +kernel
theorem dL_law_849 : decode cL_law 849 = .ok (.ireturn, 1) := by decide +kernel
theorem dL_law_850 : decode cL_law 850 = .ok (.aload_n 1, 1) := by decide +kernel
theorem dL_law_851 : decode cL_law 851 = .ok (.invokevirtual 105, 3) := by decide +kernel
theorem dL_law_854 : decode cL_law 854 = .ok (.aload_n 2, 1) := by decide +kernel
theorem dL_law_855 : decode cL_law 855 = .ok (.invokevirtual 108, 3) := by decide +kernel
theorem dL_law_858 : decode cL_law 858 = .ok (.if_icmp .eq 28, 3) := by decide +kernel
theorem dL_law_861 : decode cL_law 861 = .ok (.iconst 0, 1) := by decide +kernel
theorem dL_law_862 : decode cL_law 862 = .ok (.ireturn, 1) := by decide +kernel
theorem dL_law_863 : decode cL_law 863 = .ok (.aload_n 1, 1) := by decide +kernel
theorem dL_law_864 : decode cL_law 864 = .ok (.aload_n 0, 1) := by decide +kernel
theorem dL_law_865 : decode cL_law 865 = .ok (.iload_n 3, 1) := by decide +kernel
theorem dL_law_866 : decode cL_law 866 = .ok (.iconst 1, 1) := by decide +kernel
theorem dL_law_867 : decode cL_law 867 = .ok (.iadd, 1) := by decide +kernel
theorem dL_law_868 : decode cL_law 868 = .ok (.iaload, 1) := by decide +kernel
theorem dL_law_869 : decode cL_law 869 = .ok (.invokevirtual 109, 3) := by decide +kernel
theorem dL_law_872 : decode cL_law 872 = .ok (.aload_n 2, 1) := by decide +kernel
theorem dL_law_873 : decode cL_law 873 = .ok (.aload_n 0, 1) := by decide +kernel
theorem dL_law_874 : decode cL_law 874 = .ok (.iload_n 3, 1) := by decide +kernel
theorem dL_law_875 : decode cL_law 875 = .ok (.iconst 1, 1) := by decide +kernel
theorem dL_law_876 : decode cL_law 876 = .ok (.iadd, 1) := by decide +kernel
theorem dL_law_877 : decode cL_law 877 = .ok (.iaload, 1) := by decide +kernel
theorem dL_law_878 : decode cL_law 878 = .ok (.invokevirtual 112, 3) := by decide +kernel
theorem dL_law_881 : decode cL_law 881 = .ok (.if_icmp .eq 5, 3) := by decide +kernel
theorem dL_law_884 : decode cL_law 884 = .ok (.iconst 0, 1) := by decide +kernel
theorem dL_law_885 : decode cL_law 885 = .ok (.ireturn, 1) := by decide +kernel
theorem dL_law_886 : decode cL_law 886 = .ok (.iinc 3 6, 3) := by decide +kernel
theorem dL_law_889 : decode cL_law 889 = .ok (.goto (-871), 3) := by decide +kernel
theorem dL_law_892 : decode cL_law 892 = .ok (.iconst 1, 1) := by decide +kernel
theorem dL_law_893 : decode cL_law 893 = .ok (.ireturn, 1) := by decide +kernel
