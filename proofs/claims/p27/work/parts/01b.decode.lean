theorem dX0_init_0 : decode cX0_init 0 = .ok (.aload_n 0, 1) := by decide +kernel
theorem dX0_init_1 : decode cX0_init 1 = .ok (.invokespecial 3, 3) := by decide +kernel
theorem dX0_init_4 : decode cX0_init 4 = .ok (.aload_n 0, 1) := by decide +kernel
theorem dX0_init_5 : decode cX0_init 5 = .ok (.iconst 4, 1) := by decide +kernel
theorem dX0_init_6 : decode cX0_init 6 = .ok (.anewarray 9, 3) := by decide +kernel
theorem dX0_init_9 : decode cX0_init 9 = .ok (.putfield 11, 3) := by decide +kernel
theorem dX0_init_12 : decode cX0_init 12 = .ok (.iconst 0, 1) := by decide +kernel
theorem dX0_init_13 : decode cX0_init 13 = .ok (.istore_n 1, 1) := by decide +kernel
theorem dX0_init_14 : decode cX0_init 14 = .ok (.iload_n 1, 1) := by decide +kernel
theorem dX0_init_15 : decode cX0_init 15 = .ok (.aload_n 0, 1) := by decide +kernel
theorem dX0_init_16 : decode cX0_init 16 = .ok (.getfield 11, 3) := by decide +kernel
theorem dX0_init_19 : decode cX0_init 19 = .ok (.arraylength, 1) := by decide +kernel
theorem dX0_init_20 : decode cX0_init 20 = .ok (.if_icmp .ge 22, 3) := by decide +kernel
theorem dX0_init_23 : decode cX0_init 23 = .ok (.aload_n 0, 1) := by decide +kernel
theorem dX0_init_24 : decode cX0_init 24 = .ok (.getfield 11, 3) := by decide +kernel
theorem dX0_init_27 : decode cX0_init 27 = .ok (.iload_n 1, 1) := by decide +kernel
theorem dX0_init_28 : decode cX0_init 28 = .ok (.new 9, 3) := by decide +kernel
theorem dX0_init_31 : decode cX0_init 31 = .ok (.dup, 1) := by decide +kernel
theorem dX0_init_32 : decode cX0_init 32 = .ok (.invokespecial 17, 3) := by decide +kernel
theorem dX0_init_35 : decode cX0_init 35 = .ok (.aastore, 1) := by decide +kernel
theorem dX0_init_36 : decode cX0_init 36 = .ok (.iinc 1 1, 3) := by decide +kernel
theorem dX0_init_39 : decode cX0_init 39 = .ok (.goto (-25), 3) := by decide +kernel
theorem dX0_init_42 : decode cX0_init 42 = .ok (.return_, 1) := by decide +kernel
theorem dX0_push_0 : decode cX0_push 0 = .ok (.aload_n 0, 1) := by decide +kernel
theorem dX0_push_1 : decode cX0_push 1 = .ok (.getfield 18, 3) := by decide +kernel
theorem dX0_push_4 : decode cX0_push 4 = .ok (.aload_n 0, 1) := by decide +kernel
theorem dX0_push_5 : decode cX0_push 5 = .ok (.getfield 11, 3) := by decide +kernel
theorem dX0_push_8 : decode cX0_push 8 = .ok (.arraylength, 1) := by decide +kernel
theorem dX0_push_9 : decode cX0_push 9 = .ok (.if_icmp .lt 7, 3) := by decide +kernel
theorem dX0_push_12 : decode cX0_push 12 = .ok (.aload_n 0, 1) := by decide +kernel
theorem dX0_push_13 : decode cX0_push 13 = .ok (.invokevirtual 22, 3) := by decide +kernel
theorem dX0_push_16 : decode cX0_push 16 = .ok (.aload_n 0, 1) := by decide +kernel
theorem dX0_push_17 : decode cX0_push 17 = .ok (.getfield 18, 3) := by decide +kernel
theorem dX0_push_20 : decode cX0_push 20 = .ok (.ifCond .lt 44, 3) := by decide +kernel
theorem dX0_push_23 : decode cX0_push 23 = .ok (.aload_n 0, 1) := by decide +kernel
theorem dX0_push_24 : decode cX0_push 24 = .ok (.getfield 18, 3) := by decide +kernel
theorem dX0_push_27 : decode cX0_push 27 = .ok (.aload_n 0, 1) := by decide +kernel
theorem dX0_push_28 : decode cX0_push 28 = .ok (.getfield 11, 3) := by decide +kernel
theorem dX0_push_31 : decode cX0_push 31 = .ok (.arraylength, 1) := by decide +kernel
theorem dX0_push_32 : decode cX0_push 32 = .ok (.if_icmp .ge 32, 3) := by decide +kernel
theorem dX0_push_35 : decode cX0_push 35 = .ok (.aload_n 0, 1) := by decide +kernel
theorem dX0_push_36 : decode cX0_push 36 = .ok (.getfield 11, 3) := by decide +kernel
theorem dX0_push_39 : decode cX0_push 39 = .ok (.aload_n 0, 1) := by decide +kernel
theorem dX0_push_40 : decode cX0_push 40 = .ok (.getfield 18, 3) := by decide +kernel
theorem dX0_push_43 : decode cX0_push 43 = .ok (.aaload, 1) := by decide +kernel
theorem dX0_push_44 : decode cX0_push 44 = .ok (.astore_n 2, 1) := by decide +kernel
theorem dX0_push_45 : decode cX0_push 45 = .ok (.aload_n 2, 1) := by decide +kernel
theorem dX0_push_46 : decode cX0_push 46 = .ok (.ifnull 18, 3) := by decide +kernel
theorem dX0_push_49 : decode cX0_push 49 = .ok (.aload_n 2, 1) := by decide +kernel
theorem dX0_push_50 : decode cX0_push 50 = .ok (.aload_n 1, 1) := by decide +kernel
theorem dX0_push_51 : decode cX0_push 51 = .ok (.invokevirtual 25, 3) := by decide +kernel
theorem dX0_push_54 : decode cX0_push 54 = .ok (.aload_n 0, 1) := by decide +kernel
theorem dX0_push_55 : decode cX0_push 55 = .ok (.dup, 1) := by decide +kernel
theorem dX0_push_56 : decode cX0_push 56 = .ok (.getfield 18, 3) := by decide +kernel
theorem dX0_push_59 : decode cX0_push 59 = .ok (.iconst 1, 1) := by decide +kernel
theorem dX0_push_60 : decode cX0_push 60 = .ok (.iadd, 1) := by decide +kernel
theorem dX0_push_61 : decode cX0_push 61 = .ok (.putfield 18, 3) := by decide +kernel
theorem dX0_push_64 : decode cX0_push 64 = .ok (.return_, 1) := by decide +kernel
theorem dX0_forgetOldest_0 : decode cX0_forgetOldest 0 = .ok (.iconst 1, 1) := by decide +kernel
theorem dX0_forgetOldest_1 : decode cX0_forgetOldest 1 = .ok (.istore_n 1, 1) := by decide +kernel
theorem dX0_forgetOldest_2 : decode cX0_forgetOldest 2 = .ok (.iload_n 1, 1) := by decide +kernel
theorem dX0_forgetOldest_3 : decode cX0_forgetOldest 3 = .ok (.aload_n 0, 1) := by decide +kernel
theorem dX0_forgetOldest_4 : decode cX0_forgetOldest 4 = .ok (.getfield 11, 3) := by decide +kernel
theorem dX0_forgetOldest_7 : decode cX0_forgetOldest 7 = .ok (.arraylength, 1) := by decide +kernel
theorem dX0_forgetOldest_8 : decode cX0_forgetOldest 8 = .ok (.if_icmp .ge 39, 3) := by decide +kernel
theorem dX0_forgetOldest_11 : decode cX0_forgetOldest 11 = .ok (.aload_n 0, 1) := by decide +kernel
theorem dX0_forgetOldest_12 : decode cX0_forgetOldest 12 = .ok (.getfield 11, 3) := by decide +kernel
theorem dX0_forgetOldest_15 : decode cX0_forgetOldest 15 = .ok (.iload_n 1, 1) := by decide +kernel
theorem dX0_forgetOldest_16 : decode cX0_forgetOldest 16 = .ok (.iconst 1, 1) := by decide +kernel
theorem dX0_forgetOldest_17 : decode cX0_forgetOldest 17 = .ok (.isub, 1) := by decide +kernel
theorem dX0_forgetOldest_18 : decode cX0_forgetOldest 18 = .ok (.aaload, 1) := by decide +kernel
theorem dX0_forgetOldest_19 : decode cX0_forgetOldest 19 = .ok (.astore_n 2, 1) := by decide +kernel
theorem dX0_forgetOldest_20 : decode cX0_forgetOldest 20 = .ok (.aload_n 0, 1) := by decide +kernel
theorem dX0_forgetOldest_21 : decode cX0_forgetOldest 21 = .ok (.getfield 11, 3) := by decide +kernel
theorem dX0_forgetOldest_24 : decode cX0_forgetOldest 24 = .ok (.iload_n 1, 1) := by decide +kernel
theorem dX0_forgetOldest_25 : decode cX0_forgetOldest 25 = .ok (.iconst 1, 1) := by decide +kernel
theorem dX0_forgetOldest_26 : decode cX0_forgetOldest 26 = .ok (.isub, 1) := by decide +kernel
theorem dX0_forgetOldest_27 : decode cX0_forgetOldest 27 = .ok (.aload_n 0, 1) := by decide +kernel
theorem dX0_forgetOldest_28 : decode cX0_forgetOldest 28 = .ok (.getfield 11, 3) := by decide +kernel
theorem dX0_forgetOldest_31 : decode cX0_forgetOldest 31 = .ok (.iload_n 1, 1) := by decide +kernel
theorem dX0_forgetOldest_32 : decode cX0_forgetOldest 32 = .ok (.aaload, 1) := by decide +kernel
theorem dX0_forgetOldest_33 : decode cX0_forgetOldest 33 = .ok (.aastore, 1) := by decide +kernel
theorem dX0_forgetOldest_34 : decode cX0_forgetOldest 34 = .ok (.aload_n 0, 1) := by decide +kernel
theorem dX0_forgetOldest_35 : decode cX0_forgetOldest 35 = .ok (.getfield 11, 3) := by decide +kernel
theorem dX0_forgetOldest_38 : decode cX0_forgetOldest 38 = .ok (.iload_n 1, 1) := by decide +kernel
theorem dX0_forgetOldest_39 : decode cX0_forgetOldest 39 = .ok (.aload_n 2, 1) := by decide +kernel
theorem dX0_forgetOldest_40 : decode cX0_forgetOldest 40 = .ok (.aastore, 1) := by decide +kernel
theorem dX0_forgetOldest_41 : decode cX0_forgetOldest 41 = .ok (.iinc 1 1, 3) := by decide +kernel
theorem dX0_forgetOldest_44 : decode cX0_forgetOldest 44 = .ok (.goto (-42), 3) := by decide +kernel
theorem dX0_forgetOldest_47 : decode cX0_forgetOldest 47 = .ok (.aload_n 0, 1) := by decide +kernel
theorem dX0_forgetOldest_48 : decode cX0_forgetOldest 48 = .ok (.dup, 1) := by decide +kernel
theorem dX0_forgetOldest_49 : decode cX0_forgetOldest 49 = .ok (.getfield 18, 3) := by decide +kernel
theorem dX0_forgetOldest_52 : decode cX0_forgetOldest 52 = .ok (.iconst 1, 1) := by decide +kernel
theorem dX0_forgetOldest_53 : decode cX0_forgetOldest 53 = .ok (.isub, 1) := by decide +kernel
theorem dX0_forgetOldest_54 : decode cX0_forgetOldest 54 = .ok (.putfield 18, 3) := by decide +kernel
theorem dX0_forgetOldest_57 : decode cX0_forgetOldest 57 = .ok (.return_, 1) := by decide +kernel
theorem dX1_init_0 : decode cX1_init 0 = .ok (.aload_n 0, 1) := by decide +kernel
theorem dX1_init_1 : decode cX1_init 1 = .ok (.invokespecial 3, 3) := by decide +kernel
theorem dX1_init_4 : decode cX1_init 4 = .ok (.aload_n 0, 1) := by decide +kernel
theorem dX1_init_5 : decode cX1_init 5 = .ok (.iconst 4, 1) := by decide +kernel
theorem dX1_init_6 : decode cX1_init 6 = .ok (.newarray .int, 2) := by decide +kernel
theorem dX1_init_8 : decode cX1_init 8 = .ok (.putfield 9, 3) := by decide +kernel
theorem dX1_init_11 : decode cX1_init 11 = .ok (.return_, 1) := by decide +kernel
theorem dX1_begin_0 : decode cX1_begin 0 = .ok (.aload_n 0, 1) := by decide +kernel
theorem dX1_begin_1 : decode cX1_begin 1 = .ok (.iconst 1, 1) := by decide +kernel
theorem dX1_begin_2 : decode cX1_begin 2 = .ok (.putfield 15, 3) := by decide +kernel
theorem dX1_begin_5 : decode cX1_begin 5 = .ok (.aload_n 0, 1) := by decide +kernel
theorem dX1_begin_6 : decode cX1_begin 6 = .ok (.iload_n 1, 1) := by decide +kernel
theorem dX1_begin_7 : decode cX1_begin 7 = .ok (.putfield 19, 3) := by decide +kernel
theorem dX1_begin_10 : decode cX1_begin 10 = .ok (.aload_n 2, 1) := by decide +kernel
theorem dX1_begin_11 : decode cX1_begin 11 = .ok (.aload_n 0, 1) := by decide +kernel
theorem dX1_begin_12 : decode cX1_begin 12 = .ok (.getfield 9, 3) := by decide +kernel
theorem dX1_begin_15 : decode cX1_begin 15 = .ok (.invokestatic 23, 3) := by decide +kernel
theorem dX1_begin_18 : decode cX1_begin 18 = .ok (.aload_n 0, 1) := by decide +kernel
theorem dX1_begin_19 : decode cX1_begin 19 = .ok (.iload_n 3, 1) := by decide +kernel
theorem dX1_begin_20 : decode cX1_begin 20 = .ok (.putfield 27, 3) := by decide +kernel
theorem dX1_begin_23 : decode cX1_begin 23 = .ok (.aload_n 0, 1) := by decide +kernel
theorem dX1_begin_24 : decode cX1_begin 24 = .ok (.bipush (-4), 2) := by decide +kernel
theorem dX1_begin_26 : decode cX1_begin 26 = .ok (.putfield 30, 3) := by decide +kernel
theorem dX1_begin_29 : decode cX1_begin 29 = .ok (.return_, 1) := by decide +kernel
theorem dX1_tell_0 : decode cX1_tell 0 = .ok (.aload_n 0, 1) := by decide +kernel
theorem dX1_tell_1 : decode cX1_tell 1 = .ok (.getfield 15, 3) := by decide +kernel
theorem dX1_tell_4 : decode cX1_tell 4 = .ok (.ifCond .ne 6, 3) := by decide +kernel
theorem dX1_tell_7 : decode cX1_tell 7 = .ok (.bipush (-4), 2) := by decide +kernel
theorem dX1_tell_9 : decode cX1_tell 9 = .ok (.ireturn, 1) := by decide +kernel
theorem dX1_tell_10 : decode cX1_tell 10 = .ok (.iload_n 1, 1) := by decide +kernel
theorem dX1_tell_11 : decode cX1_tell 11 = .ok (.tableswitch 84 0 6 #[41, 46, 51, 56, 61, 66, 71], 41) := by decide +kernel
theorem dX1_tell_52 : decode cX1_tell 52 = .ok (.aload_n 0, 1) := by decide +kernel
theorem dX1_tell_53 : decode cX1_tell 53 = .ok (.getfield 27, 3) := by decide +kernel
theorem dX1_tell_56 : decode cX1_tell 56 = .ok (.ireturn, 1) := by decide +kernel
theorem dX1_tell_57 : decode cX1_tell 57 = .ok (.aload_n 0, 1) := by decide +kernel
theorem dX1_tell_58 : decode cX1_tell 58 = .ok (.getfield 33, 3) := by decide +kernel
theorem dX1_tell_61 : decode cX1_tell 61 = .ok (.ireturn, 1) := by decide +kernel
theorem dX1_tell_62 : decode cX1_tell 62 = .ok (.aload_n 0, 1) := by decide +kernel
theorem dX1_tell_63 : decode cX1_tell 63 = .ok (.getfield 36, 3) := by decide +kernel
theorem dX1_tell_66 : decode cX1_tell 66 = .ok (.ireturn, 1) := by decide +kernel
theorem dX1_tell_67 : decode cX1_tell 67 = .ok (.aload_n 0, 1) := by decide +kernel
theorem dX1_tell_68 : decode cX1_tell 68 = .ok (.getfield 39, 3) := by decide +kernel
theorem dX1_tell_71 : decode cX1_tell 71 = .ok (.ireturn, 1) := by decide +kernel
theorem dX1_tell_72 : decode cX1_tell 72 = .ok (.aload_n 0, 1) := by decide +kernel
theorem dX1_tell_73 : decode cX1_tell 73 = .ok (.getfield 42, 3) := by decide +kernel
theorem dX1_tell_76 : decode cX1_tell 76 = .ok (.ireturn, 1) := by decide +kernel
theorem dX1_tell_77 : decode cX1_tell 77 = .ok (.aload_n 0, 1) := by decide +kernel
theorem dX1_tell_78 : decode cX1_tell 78 = .ok (.getfield 45, 3) := by decide +kernel
theorem dX1_tell_81 : decode cX1_tell 81 = .ok (.ireturn, 1) := by decide +kernel
theorem dX1_tell_82 : decode cX1_tell 82 = .ok (.aload_n 0, 1) := by decide +kernel
theorem dX1_tell_83 : decode cX1_tell 83 = .ok (.getfield 48, 3) := by decide +kernel
theorem dX1_tell_86 : decode cX1_tell 86 = .ok (.ifCond .eq 7, 3) := by decide +kernel
theorem dX1_tell_89 : decode cX1_tell 89 = .ok (.iconst 1, 1) := by decide +kernel
theorem dX1_tell_90 : decode cX1_tell 90 = .ok (.goto 4, 3) := by decide +kernel
theorem dX1_tell_93 : decode cX1_tell 93 = .ok (.iconst 0, 1) := by decide +kernel
theorem dX1_tell_94 : decode cX1_tell 94 = .ok (.ireturn, 1) := by decide +kernel
theorem dX1_tell_95 : decode cX1_tell 95 = .ok (.aload_n 0, 1) := by decide +kernel
theorem dX1_tell_96 : decode cX1_tell 96 = .ok (.getfield 30, 3) := by decide +kernel
theorem dX1_tell_99 : decode cX1_tell 99 = .ok (.ireturn, 1) := by decide +kernel
theorem dX1_takeFrom_0 : decode cX1_takeFrom 0 = .ok (.aload_n 1, 1) := by decide +kernel
theorem dX1_takeFrom_1 : decode cX1_takeFrom 1 = .ok (.getfield 9, 3) := by decide +kernel
theorem dX1_takeFrom_4 : decode cX1_takeFrom 4 = .ok (.aload_n 0, 1) := by decide +kernel
theorem dX1_takeFrom_5 : decode cX1_takeFrom 5 = .ok (.getfield 9, 3) := by decide +kernel
theorem dX1_takeFrom_8 : decode cX1_takeFrom 8 = .ok (.invokestatic 23, 3) := by decide +kernel
theorem dX1_takeFrom_11 : decode cX1_takeFrom 11 = .ok (.aload_n 0, 1) := by decide +kernel
theorem dX1_takeFrom_12 : decode cX1_takeFrom 12 = .ok (.aload_n 1, 1) := by decide +kernel
theorem dX1_takeFrom_13 : decode cX1_takeFrom 13 = .ok (.getfield 15, 3) := by decide +kernel
theorem dX1_takeFrom_16 : decode cX1_takeFrom 16 = .ok (.putfield 15, 3) := by decide +kernel
theorem dX1_takeFrom_19 : decode cX1_takeFrom 19 = .ok (.aload_n 0, 1) := by decide +kernel
theorem dX1_takeFrom_20 : decode cX1_takeFrom 20 = .ok (.aload_n 1, 1) := by decide +kernel
theorem dX1_takeFrom_21 : decode cX1_takeFrom 21 = .ok (.getfield 19, 3) := by decide +kernel
theorem dX1_takeFrom_24 : decode cX1_takeFrom 24 = .ok (.putfield 19, 3) := by decide +kernel
theorem dX1_takeFrom_27 : decode cX1_takeFrom 27 = .ok (.aload_n 0, 1) := by decide +kernel
theorem dX1_takeFrom_28 : decode cX1_takeFrom 28 = .ok (.aload_n 1, 1) := by decide +kernel
theorem dX1_takeFrom_29 : decode cX1_takeFrom 29 = .ok (.getfield 27, 3) := by decide +kernel
theorem dX1_takeFrom_32 : decode cX1_takeFrom 32 = .ok (.putfield 27, 3) := by decide +kernel
theorem dX1_takeFrom_35 : decode cX1_takeFrom 35 = .ok (.aload_n 0, 1) := by decide +kernel
theorem dX1_takeFrom_36 : decode cX1_takeFrom 36 = .ok (.aload_n 1, 1) := by decide +kernel
theorem dX1_takeFrom_37 : decode cX1_takeFrom 37 = .ok (.getfield 33, 3) := by decide +kernel
theorem dX1_takeFrom_40 : decode cX1_takeFrom 40 = .ok (.putfield 33, 3) := by decide +kernel
theorem dX1_takeFrom_43 : decode cX1_takeFrom 43 = .ok (.aload_n 0, 1) := by decide +kernel
theorem dX1_takeFrom_44 : decode cX1_takeFrom 44 = .ok (.aload_n 1, 1) := by decide +kernel
theorem dX1_takeFrom_45 : decode cX1_takeFrom 45 = .ok (.getfield 36, 3) := by decide +kernel
theorem dX1_takeFrom_48 : decode cX1_takeFrom 48 = .ok (.putfield 36, 3) := by decide +kernel
theorem dX1_takeFrom_51 : decode cX1_takeFrom 51 = .ok (.aload_n 0, 1) := by decide +kernel
theorem dX1_takeFrom_52 : decode cX1_takeFrom 52 = .ok (.aload_n 1, 1) := by decide +kernel
theorem dX1_takeFrom_53 : decode cX1_takeFrom 53 = .ok (.getfield 39, 3) := by decide +kernel
theorem dX1_takeFrom_56 : decode cX1_takeFrom 56 = .ok (.putfield 39, 3) := by decide +kernel
theorem dX1_takeFrom_59 : decode cX1_takeFrom 59 = .ok (.aload_n 0, 1) := by decide +kernel
theorem dX1_takeFrom_60 : decode cX1_takeFrom 60 = .ok (.aload_n 1, 1) := by decide +kernel
theorem dX1_takeFrom_61 : decode cX1_takeFrom 61 = .ok (.getfield 42, 3) := by decide +kernel
theorem dX1_takeFrom_64 : decode cX1_takeFrom 64 = .ok (.putfield 42, 3) := by decide +kernel
theorem dX1_takeFrom_67 : decode cX1_takeFrom 67 = .ok (.aload_n 0, 1) := by decide +kernel
theorem dX1_takeFrom_68 : decode cX1_takeFrom 68 = .ok (.aload_n 1, 1) := by decide +kernel
theorem dX1_takeFrom_69 : decode cX1_takeFrom 69 = .ok (.getfield 45, 3) := by decide +kernel
theorem dX1_takeFrom_72 : decode cX1_takeFrom 72 = .ok (.putfield 45, 3) := by decide +kernel
theorem dX1_takeFrom_75 : decode cX1_takeFrom 75 = .ok (.aload_n 0, 1) := by decide +kernel
theorem dX1_takeFrom_76 : decode cX1_takeFrom 76 = .ok (.aload_n 1, 1) := by decide +kernel
theorem dX1_takeFrom_77 : decode cX1_takeFrom 77 = .ok (.getfield 48, 3) := by decide +kernel
theorem dX1_takeFrom_80 : decode cX1_takeFrom 80 = .ok (.putfield 48, 3) := by decide +kernel
theorem dX1_takeFrom_83 : decode cX1_takeFrom 83 = .ok (.aload_n 0, 1) := by decide +kernel
theorem dX1_takeFrom_84 : decode cX1_takeFrom 84 = .ok (.aload_n 1, 1) := by decide +kernel
theorem dX1_takeFrom_85 : decode cX1_takeFrom 85 = .ok (.getfield 30, 3) := by decide +kernel
theorem dX1_takeFrom_88 : decode cX1_takeFrom 88 = .ok (.putfield 30, 3) := by decide +kernel
theorem dX1_takeFrom_91 : decode cX1_takeFrom 91 = .ok (.return_, 1) := by decide +kernel
theorem dX2_init_0 : decode cX2_init 0 = .ok (.aload_n 0, 1) := by decide +kernel
theorem dX2_init_1 : decode cX2_init 1 = .ok (.invokespecial 3, 3) := by decide +kernel
theorem dX2_init_4 : decode cX2_init 4 = .ok (.aload_n 0, 1) := by decide +kernel
theorem dX2_init_5 : decode cX2_init 5 = .ok (.bipush (-4), 2) := by decide +kernel
theorem dX2_init_7 : decode cX2_init 7 = .ok (.putfield 9, 3) := by decide +kernel
theorem dX2_init_10 : decode cX2_init 10 = .ok (.return_, 1) := by decide +kernel
theorem dX2_begin_0 : decode cX2_begin 0 = .ok (.aload_n 0, 1) := by decide +kernel
theorem dX2_begin_1 : decode cX2_begin 1 = .ok (.iload_n 1, 1) := by decide +kernel
theorem dX2_begin_2 : decode cX2_begin 2 = .ok (.putfield 9, 3) := by decide +kernel
theorem dX2_begin_5 : decode cX2_begin 5 = .ok (.aload_n 0, 1) := by decide +kernel
theorem dX2_begin_6 : decode cX2_begin 6 = .ok (.iload_n 2, 1) := by decide +kernel
theorem dX2_begin_7 : decode cX2_begin 7 = .ok (.putfield 15, 3) := by decide +kernel
theorem dX2_begin_10 : decode cX2_begin 10 = .ok (.aload_n 0, 1) := by decide +kernel
theorem dX2_begin_11 : decode cX2_begin 11 = .ok (.iload_n 3, 1) := by decide +kernel
theorem dX2_begin_12 : decode cX2_begin 12 = .ok (.putfield 18, 3) := by decide +kernel
theorem dX2_begin_15 : decode cX2_begin 15 = .ok (.aload_n 0, 1) := by decide +kernel
theorem dX2_begin_16 : decode cX2_begin 16 = .ok (.iconst 0, 1) := by decide +kernel
theorem dX2_begin_17 : decode cX2_begin 17 = .ok (.putfield 21, 3) := by decide +kernel
theorem dX2_begin_20 : decode cX2_begin 20 = .ok (.aload_n 0, 1) := by decide +kernel
theorem dX2_begin_21 : decode cX2_begin 21 = .ok (.iconst 0, 1) := by decide +kernel
theorem dX2_begin_22 : decode cX2_begin 22 = .ok (.putfield 24, 3) := by decide +kernel
theorem dX2_begin_25 : decode cX2_begin 25 = .ok (.aload_n 0, 1) := by decide +kernel
theorem dX2_begin_26 : decode cX2_begin 26 = .ok (.iconst 0, 1) := by decide +kernel
theorem dX2_begin_27 : decode cX2_begin 27 = .ok (.putfield 27, 3) := by decide +kernel
theorem dX2_begin_30 : decode cX2_begin 30 = .ok (.return_, 1) := by decide +kernel
theorem dX2_dropsAheadOf_0 : decode cX2_dropsAheadOf 0 = .ok (.aload_n 0, 1) := by decide +kernel
theorem dX2_dropsAheadOf_1 : decode cX2_dropsAheadOf 1 = .ok (.getfield 21, 3) := by decide +kernel
theorem dX2_dropsAheadOf_4 : decode cX2_dropsAheadOf 4 = .ok (.aload_n 1, 1) := by decide +kernel
theorem dX2_dropsAheadOf_5 : decode cX2_dropsAheadOf 5 = .ok (.getfield 21, 3) := by decide +kernel
theorem dX2_dropsAheadOf_8 : decode cX2_dropsAheadOf 8 = .ok (.if_icmp .eq 22, 3) := by decide +kernel
theorem dX2_dropsAheadOf_11 : decode cX2_dropsAheadOf 11 = .ok (.aload_n 0, 1) := by decide +kernel
theorem dX2_dropsAheadOf_12 : decode cX2_dropsAheadOf 12 = .ok (.getfield 21, 3) := by decide +kernel
theorem dX2_dropsAheadOf_15 : decode cX2_dropsAheadOf 15 = .ok (.aload_n 1, 1) := by decide +kernel
theorem dX2_dropsAheadOf_16 : decode cX2_dropsAheadOf 16 = .ok (.getfield 21, 3) := by decide +kernel
theorem dX2_dropsAheadOf_19 : decode cX2_dropsAheadOf 19 = .ok (.if_icmp .ge 7, 3) := by decide +kernel
theorem dX2_dropsAheadOf_22 : decode cX2_dropsAheadOf 22 = .ok (.iconst 1, 1) := by decide +kernel
theorem dX2_dropsAheadOf_23 : decode cX2_dropsAheadOf 23 = .ok (.goto 23, 3) := by decide +kernel
theorem dX2_dropsAheadOf_26 : decode cX2_dropsAheadOf 26 = .ok (.iconst 0, 1) := by decide +kernel
theorem dX2_dropsAheadOf_27 : decode cX2_dropsAheadOf 27 = .ok (.goto 19, 3) := by decide +kernel
theorem dX2_dropsAheadOf_30 : decode cX2_dropsAheadOf 30 = .ok (.aload_n 0, 1) := by decide +kernel
theorem dX2_dropsAheadOf_31 : decode cX2_dropsAheadOf 31 = .ok (.getfield 31, 3) := by decide +kernel
theorem dX2_dropsAheadOf_34 : decode cX2_dropsAheadOf 34 = .ok (.aload_n 1, 1) := by decide +kernel
theorem dX2_dropsAheadOf_35 : decode cX2_dropsAheadOf 35 = .ok (.getfield 31, 3) := by decide +kernel
theorem dX2_dropsAheadOf_38 : decode cX2_dropsAheadOf 38 = .ok (.if_icmp .ge 7, 3) := by decide +kernel
theorem dX2_dropsAheadOf_41 : decode cX2_dropsAheadOf 41 = .ok (.iconst 1, 1) := by decide +kernel
theorem dX2_dropsAheadOf_42 : decode cX2_dropsAheadOf 42 = .ok (.goto 4, 3) := by decide +kernel
theorem dX2_dropsAheadOf_45 : decode cX2_dropsAheadOf 45 = .ok (.iconst 0, 1) := by decide +kernel
theorem dX2_dropsAheadOf_46 : decode cX2_dropsAheadOf 46 = .ok (.ireturn, 1) := by decide +kernel
theorem dX2_tell_0 : decode cX2_tell 0 = .ok (.iload_n 1, 1) := by decide +kernel
theorem dX2_tell_1 : decode cX2_tell 1 = .ok (.tableswitch 86 0 6 #[43, 48, 53, 58, 63, 68, 73], 43) := by decide +kernel
theorem dX2_tell_44 : decode cX2_tell 44 = .ok (.aload_n 0, 1) := by decide +kernel
theorem dX2_tell_45 : decode cX2_tell 45 = .ok (.getfield 15, 3) := by decide +kernel
theorem dX2_tell_48 : decode cX2_tell 48 = .ok (.ireturn, 1) := by decide +kernel
theorem dX2_tell_49 : decode cX2_tell 49 = .ok (.aload_n 0, 1) := by decide +kernel
theorem dX2_tell_50 : decode cX2_tell 50 = .ok (.getfield 18, 3) := by decide +kernel
theorem dX2_tell_53 : decode cX2_tell 53 = .ok (.ireturn, 1) := by decide +kernel
theorem dX2_tell_54 : decode cX2_tell 54 = .ok (.aload_n 0, 1) := by decide +kernel
theorem dX2_tell_55 : decode cX2_tell 55 = .ok (.getfield 34, 3) := by decide +kernel
theorem dX2_tell_58 : decode cX2_tell 58 = .ok (.ireturn, 1) := by decide +kernel
theorem dX2_tell_59 : decode cX2_tell 59 = .ok (.aload_n 0, 1) := by decide +kernel
theorem dX2_tell_60 : decode cX2_tell 60 = .ok (.getfield 37, 3) := by decide +kernel
theorem dX2_tell_63 : decode cX2_tell 63 = .ok (.ireturn, 1) := by decide +kernel
theorem dX2_tell_64 : decode cX2_tell 64 = .ok (.aload_n 0, 1) := by decide +kernel
theorem dX2_tell_65 : decode cX2_tell 65 = .ok (.getfield 21, 3) := by decide +kernel
theorem dX2_tell_68 : decode cX2_tell 68 = .ok (.ireturn, 1) := by decide +kernel
theorem dX2_tell_69 : decode cX2_tell 69 = .ok (.aload_n 0, 1) := by decide +kernel
theorem dX2_tell_70 : decode cX2_tell 70 = .ok (.getfield 24, 3) := by decide +kernel
theorem dX2_tell_73 : decode cX2_tell 73 = .ok (.ireturn, 1) := by decide +kernel
theorem dX2_tell_74 : decode cX2_tell 74 = .ok (.aload_n 0, 1) := by decide +kernel
theorem dX2_tell_75 : decode cX2_tell 75 = .ok (.getfield 27, 3) := by decide +kernel
theorem dX2_tell_78 : decode cX2_tell 78 = .ok (.ifCond .eq 7, 3) := by decide +kernel
theorem dX2_tell_81 : decode cX2_tell 81 = .ok (.iconst 1, 1) := by decide +kernel
theorem dX2_tell_82 : decode cX2_tell 82 = .ok (.goto 4, 3) := by decide +kernel
theorem dX2_tell_85 : decode cX2_tell 85 = .ok (.iconst 0, 1) := by decide +kernel
theorem dX2_tell_86 : decode cX2_tell 86 = .ok (.ireturn, 1) := by decide +kernel
theorem dX2_tell_87 : decode cX2_tell 87 = .ok (.iload_n 2, 1) := by decide +kernel
theorem dX2_tell_88 : decode cX2_tell 88 = .ok (.aload_n 0, 1) := by decide +kernel
theorem dX2_tell_89 : decode cX2_tell 89 = .ok (.getfield 31, 3) := by decide +kernel
theorem dX2_tell_92 : decode cX2_tell 92 = .ok (.isub, 1) := by decide +kernel
theorem dX2_tell_93 : decode cX2_tell 93 = .ok (.ireturn, 1) := by decide +kernel
theorem dX2_takeFrom_0 : decode cX2_takeFrom 0 = .ok (.aload_n 0, 1) := by decide +kernel
theorem dX2_takeFrom_1 : decode cX2_takeFrom 1 = .ok (.aload_n 1, 1) := by decide +kernel
theorem dX2_takeFrom_2 : decode cX2_takeFrom 2 = .ok (.getfield 9, 3) := by decide +kernel
theorem dX2_takeFrom_5 : decode cX2_takeFrom 5 = .ok (.putfield 9, 3) := by decide +kernel
theorem dX2_takeFrom_8 : decode cX2_takeFrom 8 = .ok (.aload_n 0, 1) := by decide +kernel
theorem dX2_takeFrom_9 : decode cX2_takeFrom 9 = .ok (.aload_n 1, 1) := by decide +kernel
theorem dX2_takeFrom_10 : decode cX2_takeFrom 10 = .ok (.getfield 15, 3) := by decide +kernel
theorem dX2_takeFrom_13 : decode cX2_takeFrom 13 = .ok (.putfield 15, 3) := by decide +kernel
theorem dX2_takeFrom_16 : decode cX2_takeFrom 16 = .ok (.aload_n 0, 1) := by decide +kernel
theorem dX2_takeFrom_17 : decode cX2_takeFrom 17 = .ok (.aload_n 1, 1) := by decide +kernel
theorem dX2_takeFrom_18 : decode cX2_takeFrom 18 = .ok (.getfield 18, 3) := by decide +kernel
theorem dX2_takeFrom_21 : decode cX2_takeFrom 21 = .ok (.putfield 18, 3) := by decide +kernel
theorem dX2_takeFrom_24 : decode cX2_takeFrom 24 = .ok (.aload_n 0, 1) := by decide +kernel
theorem dX2_takeFrom_25 : decode cX2_takeFrom 25 = .ok (.aload_n 1, 1) := by decide +kernel
theorem dX2_takeFrom_26 : decode cX2_takeFrom 26 = .ok (.getfield 34, 3) := by decide +kernel
theorem dX2_takeFrom_29 : decode cX2_takeFrom 29 = .ok (.putfield 34, 3) := by decide +kernel
theorem dX2_takeFrom_32 : decode cX2_takeFrom 32 = .ok (.aload_n 0, 1) := by decide +kernel
theorem dX2_takeFrom_33 : decode cX2_takeFrom 33 = .ok (.aload_n 1, 1) := by decide +kernel
theorem dX2_takeFrom_34 : decode cX2_takeFrom 34 = .ok (.getfield 37, 3) := by decide +kernel
theorem dX2_takeFrom_37 : decode cX2_takeFrom 37 = .ok (.putfield 37, 3) := by decide +kernel
theorem dX2_takeFrom_40 : decode cX2_takeFrom 40 = .ok (.aload_n 0, 1) := by decide +kernel
theorem dX2_takeFrom_41 : decode cX2_takeFrom 41 = .ok (.aload_n 1, 1) := by decide +kernel
theorem dX2_takeFrom_42 : decode cX2_takeFrom 42 = .ok (.getfield 21, 3) := by decide +kernel
theorem dX2_takeFrom_45 : decode cX2_takeFrom 45 = .ok (.putfield 21, 3) := by decide +kernel
theorem dX2_takeFrom_48 : decode cX2_takeFrom 48 = .ok (.aload_n 0, 1) := by decide +kernel
theorem dX2_takeFrom_49 : decode cX2_takeFrom 49 = .ok (.aload_n 1, 1) := by decide +kernel
theorem dX2_takeFrom_50 : decode cX2_takeFrom 50 = .ok (.getfield 24, 3) := by decide +kernel
theorem dX2_takeFrom_53 : decode cX2_takeFrom 53 = .ok (.putfield 24, 3) := by decide +kernel
theorem dX2_takeFrom_56 : decode cX2_takeFrom 56 = .ok (.aload_n 0, 1) := by decide +kernel
theorem dX2_takeFrom_57 : decode cX2_takeFrom 57 = .ok (.aload_n 1, 1) := by decide +kernel
theorem dX2_takeFrom_58 : decode cX2_takeFrom 58 = .ok (.getfield 27, 3) := by decide +kernel
theorem dX2_takeFrom_61 : decode cX2_takeFrom 61 = .ok (.putfield 27, 3) := by decide +kernel
theorem dX2_takeFrom_64 : decode cX2_takeFrom 64 = .ok (.aload_n 0, 1) := by decide +kernel
theorem dX2_takeFrom_65 : decode cX2_takeFrom 65 = .ok (.aload_n 1, 1) := by decide +kernel
theorem dX2_takeFrom_66 : decode cX2_takeFrom 66 = .ok (.getfield 31, 3) := by decide +kernel
theorem dX2_takeFrom_69 : decode cX2_takeFrom 69 = .ok (.putfield 31, 3) := by decide +kernel
theorem dX2_takeFrom_72 : decode cX2_takeFrom 72 = .ok (.return_, 1) := by decide +kernel
theorem dX3_init_0 : decode cX3_init 0 = .ok (.aload_n 0, 1) := by decide +kernel
theorem dX3_init_1 : decode cX3_init 1 = .ok (.invokespecial 3, 3) := by decide +kernel
theorem dX3_init_4 : decode cX3_init 4 = .ok (.aload_n 0, 1) := by decide +kernel
theorem dX3_init_5 : decode cX3_init 5 = .ok (.bipush 8, 2) := by decide +kernel
theorem dX3_init_7 : decode cX3_init 7 = .ok (.anewarray 9, 3) := by decide +kernel
theorem dX3_init_10 : decode cX3_init 10 = .ok (.putfield 11, 3) := by decide +kernel
theorem dX3_init_13 : decode cX3_init 13 = .ok (.aload_n 0, 1) := by decide +kernel
theorem dX3_init_14 : decode cX3_init 14 = .ok (.new 9, 3) := by decide +kernel
theorem dX3_init_17 : decode cX3_init 17 = .ok (.dup, 1) := by decide +kernel
theorem dX3_init_18 : decode cX3_init 18 = .ok (.invokespecial 17, 3) := by decide +kernel
theorem dX3_init_21 : decode cX3_init 21 = .ok (.putfield 18, 3) := by decide +kernel
theorem dX3_init_24 : decode cX3_init 24 = .ok (.iconst 0, 1) := by decide +kernel
theorem dX3_init_25 : decode cX3_init 25 = .ok (.istore_n 1, 1) := by decide +kernel
theorem dX3_init_26 : decode cX3_init 26 = .ok (.iload_n 1, 1) := by decide +kernel
theorem dX3_init_27 : decode cX3_init 27 = .ok (.aload_n 0, 1) := by decide +kernel
theorem dX3_init_28 : decode cX3_init 28 = .ok (.getfield 11, 3) := by decide +kernel
theorem dX3_init_31 : decode cX3_init 31 = .ok (.arraylength, 1) := by decide +kernel
theorem dX3_init_32 : decode cX3_init 32 = .ok (.if_icmp .ge 22, 3) := by decide +kernel
theorem dX3_init_35 : decode cX3_init 35 = .ok (.aload_n 0, 1) := by decide +kernel
theorem dX3_init_36 : decode cX3_init 36 = .ok (.getfield 11, 3) := by decide +kernel
theorem dX3_init_39 : decode cX3_init 39 = .ok (.iload_n 1, 1) := by decide +kernel
theorem dX3_init_40 : decode cX3_init 40 = .ok (.new 9, 3) := by decide +kernel
theorem dX3_init_43 : decode cX3_init 43 = .ok (.dup, 1) := by decide +kernel
theorem dX3_init_44 : decode cX3_init 44 = .ok (.invokespecial 17, 3) := by decide +kernel
theorem dX3_init_47 : decode cX3_init 47 = .ok (.aastore, 1) := by decide +kernel
theorem dX3_init_48 : decode cX3_init 48 = .ok (.iinc 1 1, 3) := by decide +kernel
theorem dX3_init_51 : decode cX3_init 51 = .ok (.goto (-25), 3) := by decide +kernel
theorem dX3_init_54 : decode cX3_init 54 = .ok (.return_, 1) := by decide +kernel
theorem dX3_planAt_0 : decode cX3_planAt 0 = .ok (.iload_n 1, 1) := by decide +kernel
theorem dX3_planAt_1 : decode cX3_planAt 1 = .ok (.ifCond .lt 12, 3) := by decide +kernel
theorem dX3_planAt_4 : decode cX3_planAt 4 = .ok (.iload_n 1, 1) := by decide +kernel
theorem dX3_planAt_5 : decode cX3_planAt 5 = .ok (.aload_n 0, 1) := by decide +kernel
theorem dX3_planAt_6 : decode cX3_planAt 6 = .ok (.getfield 11, 3) := by decide +kernel
theorem dX3_planAt_9 : decode cX3_planAt 9 = .ok (.arraylength, 1) := by decide +kernel
theorem dX3_planAt_10 : decode cX3_planAt 10 = .ok (.if_icmp .lt 8, 3) := by decide +kernel
theorem dX3_planAt_13 : decode cX3_planAt 13 = .ok (.aload_n 0, 1) := by decide +kernel
theorem dX3_planAt_14 : decode cX3_planAt 14 = .ok (.getfield 18, 3) := by decide +kernel
theorem dX3_planAt_17 : decode cX3_planAt 17 = .ok (.areturn, 1) := by decide +kernel
theorem dX3_planAt_18 : decode cX3_planAt 18 = .ok (.aload_n 0, 1) := by decide +kernel
theorem dX3_planAt_19 : decode cX3_planAt 19 = .ok (.getfield 11, 3) := by decide +kernel
theorem dX3_planAt_22 : decode cX3_planAt 22 = .ok (.iload_n 1, 1) := by decide +kernel
theorem dX3_planAt_23 : decode cX3_planAt 23 = .ok (.aaload, 1) := by decide +kernel
theorem dX3_planAt_24 : decode cX3_planAt 24 = .ok (.astore_n 2, 1) := by decide +kernel
theorem dX3_planAt_25 : decode cX3_planAt 25 = .ok (.aload_n 2, 1) := by decide +kernel
theorem dX3_planAt_26 : decode cX3_planAt 26 = .ok (.ifnonnull 10, 3) := by decide +kernel
theorem dX3_planAt_29 : decode cX3_planAt 29 = .ok (.aload_n 0, 1) := by decide +kernel
theorem dX3_planAt_30 : decode cX3_planAt 30 = .ok (.getfield 18, 3) := by decide +kernel
theorem dX3_planAt_33 : decode cX3_planAt 33 = .ok (.goto 4, 3) := by decide +kernel
theorem dX3_planAt_36 : decode cX3_planAt 36 = .ok (.aload_n 2, 1) := by decide +kernel
theorem dX3_planAt_37 : decode cX3_planAt 37 = .ok (.areturn, 1) := by decide +kernel
theorem dX3_numberAt_0 : decode cX3_numberAt 0 = .ok (.iload_n 1, 1) := by decide +kernel
theorem dX3_numberAt_1 : decode cX3_numberAt 1 = .ok (.ifCond .lt 11, 3) := by decide +kernel
theorem dX3_numberAt_4 : decode cX3_numberAt 4 = .ok (.iload_n 1, 1) := by decide +kernel
theorem dX3_numberAt_5 : decode cX3_numberAt 5 = .ok (.aload_n 0, 1) := by decide +kernel
theorem dX3_numberAt_6 : decode cX3_numberAt 6 = .ok (.getfield 22, 3) := by decide +kernel
theorem dX3_numberAt_9 : decode cX3_numberAt 9 = .ok (.if_icmp .lt 8, 3) := by decide +kernel
theorem dX3_numberAt_12 : decode cX3_numberAt 12 = .ok (.bipush (-4), 2) := by decide +kernel
theorem dX3_numberAt_14 : decode cX3_numberAt 14 = .ok (.goto 11, 3) := by decide +kernel
theorem dX3_numberAt_17 : decode cX3_numberAt 17 = .ok (.aload_n 0, 1) := by decide +kernel
theorem dX3_numberAt_18 : decode cX3_numberAt 18 = .ok (.iload_n 1, 1) := by decide +kernel
theorem dX3_numberAt_19 : decode cX3_numberAt 19 = .ok (.invokevirtual 26, 3) := by decide +kernel
theorem dX3_numberAt_22 : decode cX3_numberAt 22 = .ok (.getfield 30, 3) := by decide +kernel
theorem dX3_numberAt_25 : decode cX3_numberAt 25 = .ok (.ireturn, 1) := by decide +kernel
theorem dX3_placeOf_0 : decode cX3_placeOf 0 = .ok (.iconst 0, 1) := by decide +kernel
theorem dX3_placeOf_1 : decode cX3_placeOf 1 = .ok (.istore_n 2, 1) := by decide +kernel
theorem dX3_placeOf_2 : decode cX3_placeOf 2 = .ok (.iload_n 2, 1) := by decide +kernel
theorem dX3_placeOf_3 : decode cX3_placeOf 3 = .ok (.aload_n 0, 1) := by decide +kernel
theorem dX3_placeOf_4 : decode cX3_placeOf 4 = .ok (.getfield 22, 3) := by decide +kernel
theorem dX3_placeOf_7 : decode cX3_placeOf 7 = .ok (.if_icmp .ge 23, 3) := by decide +kernel
theorem dX3_placeOf_10 : decode cX3_placeOf 10 = .ok (.aload_n 0, 1) := by decide +kernel
theorem dX3_placeOf_11 : decode cX3_placeOf 11 = .ok (.iload_n 2, 1) := by decide +kernel
theorem dX3_placeOf_12 : decode cX3_placeOf 12 = .ok (.invokevirtual 26, 3) := by decide +kernel
theorem dX3_placeOf_15 : decode cX3_placeOf 15 = .ok (.getfield 30, 3) := by decide +kernel
theorem dX3_placeOf_18 : decode cX3_placeOf 18 = .ok (.iload_n 1, 1) := by decide +kernel
theorem dX3_placeOf_19 : decode cX3_placeOf 19 = .ok (.if_icmp .ne 5, 3) := by decide +kernel
theorem dX3_placeOf_22 : decode cX3_placeOf 22 = .ok (.iload_n 2, 1) := by decide +kernel
theorem dX3_placeOf_23 : decode cX3_placeOf 23 = .ok (.ireturn, 1) := by decide +kernel
theorem dX3_placeOf_24 : decode cX3_placeOf 24 = .ok (.iinc 2 1, 3) := by decide +kernel
theorem dX3_placeOf_27 : decode cX3_placeOf 27 = .ok (.goto (-25), 3) := by decide +kernel
theorem dX3_placeOf_30 : decode cX3_placeOf 30 = .ok (.iconst (-1), 1) := by decide +kernel
theorem dX3_placeOf_31 : decode cX3_placeOf 31 = .ok (.ireturn, 1) := by decide +kernel
theorem dX3_placeFor_0 : decode cX3_placeFor 0 = .ok (.iconst 0, 1) := by decide +kernel
theorem dX3_placeFor_1 : decode cX3_placeFor 1 = .ok (.istore_n 3, 1) := by decide +kernel
theorem dX3_placeFor_2 : decode cX3_placeFor 2 = .ok (.iload_n 3, 1) := by decide +kernel
theorem dX3_placeFor_3 : decode cX3_placeFor 3 = .ok (.aload_n 0, 1) := by decide +kernel
theorem dX3_placeFor_4 : decode cX3_placeFor 4 = .ok (.getfield 22, 3) := by decide +kernel
theorem dX3_placeFor_7 : decode cX3_placeFor 7 = .ok (.if_icmp .ge 36, 3) := by decide +kernel
theorem dX3_placeFor_10 : decode cX3_placeFor 10 = .ok (.aload_n 0, 1) := by decide +kernel
theorem dX3_placeFor_11 : decode cX3_placeFor 11 = .ok (.iload_n 3, 1) := by decide +kernel
theorem dX3_placeFor_12 : decode cX3_placeFor 12 = .ok (.invokevirtual 26, 3) := by decide +kernel
theorem dX3_placeFor_15 : decode cX3_placeFor 15 = .ok (.astore 4, 2) := by decide +kernel
theorem dX3_placeFor_17 : decode cX3_placeFor 17 = .ok (.aload 4, 2) := by decide +kernel
theorem dX3_placeFor_19 : decode cX3_placeFor 19 = .ok (.getfield 33, 3) := by decide +kernel
theorem dX3_placeFor_22 : decode cX3_placeFor 22 = .ok (.iload_n 1, 1) := by decide +kernel
theorem dX3_placeFor_23 : decode cX3_placeFor 23 = .ok (.if_icmp .ne 14, 3) := by decide +kernel
theorem dX3_placeFor_26 : decode cX3_placeFor 26 = .ok (.aload 4, 2) := by decide +kernel
theorem dX3_placeFor_28 : decode cX3_placeFor 28 = .ok (.getfield 36, 3) := by decide +kernel
theorem dX3_placeFor_31 : decode cX3_placeFor 31 = .ok (.iload_n 2, 1) := by decide +kernel
theorem dX3_placeFor_32 : decode cX3_placeFor 32 = .ok (.if_icmp .ne 5, 3) := by decide +kernel
theorem dX3_placeFor_35 : decode cX3_placeFor 35 = .ok (.iload_n 3, 1) := by decide +kernel
theorem dX3_placeFor_36 : decode cX3_placeFor 36 = .ok (.ireturn, 1) := by decide +kernel
theorem dX3_placeFor_37 : decode cX3_placeFor 37 = .ok (.iinc 3 1, 3) := by decide +kernel
theorem dX3_placeFor_40 : decode cX3_placeFor 40 = .ok (.goto (-38), 3) := by decide +kernel
theorem dX3_placeFor_43 : decode cX3_placeFor 43 = .ok (.iconst (-1), 1) := by decide +kernel
theorem dX3_placeFor_44 : decode cX3_placeFor 44 = .ok (.ireturn, 1) := by decide +kernel
theorem dX3_keptFor_0 : decode cX3_keptFor 0 = .ok (.iconst 0, 1) := by decide +kernel
theorem dX3_keptFor_1 : decode cX3_keptFor 1 = .ok (.istore_n 2, 1) := by decide +kernel
theorem dX3_keptFor_2 : decode cX3_keptFor 2 = .ok (.iconst 0, 1) := by decide +kernel
theorem dX3_keptFor_3 : decode cX3_keptFor 3 = .ok (.istore_n 3, 1) := by decide +kernel
theorem dX3_keptFor_4 : decode cX3_keptFor 4 = .ok (.iload_n 3, 1) := by decide +kernel
theorem dX3_keptFor_5 : decode cX3_keptFor 5 = .ok (.aload_n 0, 1) := by decide +kernel
theorem dX3_keptFor_6 : decode cX3_keptFor 6 = .ok (.getfield 22, 3) := by decide +kernel
theorem dX3_keptFor_9 : decode cX3_keptFor 9 = .ok (.if_icmp .ge 24, 3) := by decide +kernel
theorem dX3_keptFor_12 : decode cX3_keptFor 12 = .ok (.aload_n 0, 1) := by decide +kernel
theorem dX3_keptFor_13 : decode cX3_keptFor 13 = .ok (.iload_n 3, 1) := by decide +kernel
theorem dX3_keptFor_14 : decode cX3_keptFor 14 = .ok (.invokevirtual 26, 3) := by decide +kernel
theorem dX3_keptFor_17 : decode cX3_keptFor 17 = .ok (.getfield 33, 3) := by decide +kernel
theorem dX3_keptFor_20 : decode cX3_keptFor 20 = .ok (.iload_n 1, 1) := by decide +kernel
theorem dX3_keptFor_21 : decode cX3_keptFor 21 = .ok (.if_icmp .ne 6, 3) := by decide +kernel
theorem dX3_keptFor_24 : decode cX3_keptFor 24 = .ok (.iinc 2 1, 3) := by decide +kernel
theorem dX3_keptFor_27 : decode cX3_keptFor 27 = .ok (.iinc 3 1, 3) := by decide +kernel
theorem dX3_keptFor_30 : decode cX3_keptFor 30 = .ok (.goto (-26), 3) := by decide +kernel
theorem dX3_keptFor_33 : decode cX3_keptFor 33 = .ok (.iload_n 2, 1) := by decide +kernel
theorem dX3_keptFor_34 : decode cX3_keptFor 34 = .ok (.ireturn, 1) := by decide +kernel
theorem dX3_pinned_0 : decode cX3_pinned 0 = .ok (.iconst 0, 1) := by decide +kernel
theorem dX3_pinned_1 : decode cX3_pinned 1 = .ok (.istore_n 1, 1) := by decide +kernel
theorem dX3_pinned_2 : decode cX3_pinned 2 = .ok (.iconst 0, 1) := by decide +kernel
theorem dX3_pinned_3 : decode cX3_pinned 3 = .ok (.istore_n 2, 1) := by decide +kernel
theorem dX3_pinned_4 : decode cX3_pinned 4 = .ok (.iload_n 2, 1) := by decide +kernel
theorem dX3_pinned_5 : decode cX3_pinned 5 = .ok (.aload_n 0, 1) := by decide +kernel
theorem dX3_pinned_6 : decode cX3_pinned 6 = .ok (.getfield 22, 3) := by decide +kernel
theorem dX3_pinned_9 : decode cX3_pinned 9 = .ok (.if_icmp .ge 23, 3) := by decide +kernel
theorem dX3_pinned_12 : decode cX3_pinned 12 = .ok (.aload_n 0, 1) := by decide +kernel
theorem dX3_pinned_13 : decode cX3_pinned 13 = .ok (.iload_n 2, 1) := by decide +kernel
theorem dX3_pinned_14 : decode cX3_pinned 14 = .ok (.invokevirtual 26, 3) := by decide +kernel
theorem dX3_pinned_17 : decode cX3_pinned 17 = .ok (.getfield 39, 3) := by decide +kernel
theorem dX3_pinned_20 : decode cX3_pinned 20 = .ok (.ifCond .eq 6, 3) := by decide +kernel
theorem dX3_pinned_23 : decode cX3_pinned 23 = .ok (.iinc 1 1, 3) := by decide +kernel
theorem dX3_pinned_26 : decode cX3_pinned 26 = .ok (.iinc 2 1, 3) := by decide +kernel
theorem dX3_pinned_29 : decode cX3_pinned 29 = .ok (.goto (-25), 3) := by decide +kernel
theorem dX3_pinned_32 : decode cX3_pinned 32 = .ok (.iload_n 1, 1) := by decide +kernel
theorem dX3_pinned_33 : decode cX3_pinned 33 = .ok (.ireturn, 1) := by decide +kernel
theorem dX3_placeToDrop_0 : decode cX3_placeToDrop 0 = .ok (.iconst 0, 1) := by decide +kernel
theorem dX3_placeToDrop_1 : decode cX3_placeToDrop 1 = .ok (.istore_n 2, 1) := by decide +kernel
theorem dX3_placeToDrop_2 : decode cX3_placeToDrop 2 = .ok (.iload_n 2, 1) := by decide +kernel
theorem dX3_placeToDrop_3 : decode cX3_placeToDrop 3 = .ok (.aload_n 0, 1) := by decide +kernel
theorem dX3_placeToDrop_4 : decode cX3_placeToDrop 4 = .ok (.getfield 22, 3) := by decide +kernel
theorem dX3_placeToDrop_7 : decode cX3_placeToDrop 7 = .ok (.if_icmp .ge 35, 3) := by decide +kernel
theorem dX3_placeToDrop_10 : decode cX3_placeToDrop 10 = .ok (.aload_n 0, 1) := by decide +kernel
theorem dX3_placeToDrop_11 : decode cX3_placeToDrop 11 = .ok (.iload_n 2, 1) := by decide +kernel
theorem dX3_placeToDrop_12 : decode cX3_placeToDrop 12 = .ok (.invokevirtual 26, 3) := by decide +kernel
theorem dX3_placeToDrop_15 : decode cX3_placeToDrop 15 = .ok (.getfield 39, 3) := by decide +kernel
theorem dX3_placeToDrop_18 : decode cX3_placeToDrop 18 = .ok (.ifCond .ne 18, 3) := by decide +kernel
theorem dX3_placeToDrop_21 : decode cX3_placeToDrop 21 = .ok (.aload_n 0, 1) := by decide +kernel
theorem dX3_placeToDrop_22 : decode cX3_placeToDrop 22 = .ok (.aload_n 0, 1) := by decide +kernel
theorem dX3_placeToDrop_23 : decode cX3_placeToDrop 23 = .ok (.iload_n 2, 1) := by decide +kernel
theorem dX3_placeToDrop_24 : decode cX3_placeToDrop 24 = .ok (.invokevirtual 26, 3) := by decide +kernel
theorem dX3_placeToDrop_27 : decode cX3_placeToDrop 27 = .ok (.invokevirtual 43, 3) := by decide +kernel
theorem dX3_placeToDrop_30 : decode cX3_placeToDrop 30 = .ok (.iload_n 1, 1) := by decide +kernel
theorem dX3_placeToDrop_31 : decode cX3_placeToDrop 31 = .ok (.if_icmp .ne 5, 3) := by decide +kernel
theorem dX3_placeToDrop_34 : decode cX3_placeToDrop 34 = .ok (.iload_n 2, 1) := by decide +kernel
theorem dX3_placeToDrop_35 : decode cX3_placeToDrop 35 = .ok (.ireturn, 1) := by decide +kernel
theorem dX3_placeToDrop_36 : decode cX3_placeToDrop 36 = .ok (.iinc 2 1, 3) := by decide +kernel
theorem dX3_placeToDrop_39 : decode cX3_placeToDrop 39 = .ok (.goto (-37), 3) := by decide +kernel
theorem dX3_placeToDrop_42 : decode cX3_placeToDrop 42 = .ok (.iconst (-1), 1) := by decide +kernel
theorem dX3_placeToDrop_43 : decode cX3_placeToDrop 43 = .ok (.ireturn, 1) := by decide +kernel
theorem dX3_droppedAheadOf_0 : decode cX3_droppedAheadOf 0 = .ok (.iconst 0, 1) := by decide +kernel
theorem dX3_droppedAheadOf_1 : decode cX3_droppedAheadOf 1 = .ok (.istore_n 2, 1) := by decide +kernel
theorem dX3_droppedAheadOf_2 : decode cX3_droppedAheadOf 2 = .ok (.iconst 0, 1) := by decide +kernel
theorem dX3_droppedAheadOf_3 : decode cX3_droppedAheadOf 3 = .ok (.istore_n 3, 1) := by decide +kernel
theorem dX3_droppedAheadOf_4 : decode cX3_droppedAheadOf 4 = .ok (.iload_n 3, 1) := by decide +kernel
theorem dX3_droppedAheadOf_5 : decode cX3_droppedAheadOf 5 = .ok (.aload_n 0, 1) := by decide +kernel
theorem dX3_droppedAheadOf_6 : decode cX3_droppedAheadOf 6 = .ok (.getfield 22, 3) := by decide +kernel
theorem dX3_droppedAheadOf_9 : decode cX3_droppedAheadOf 9 = .ok (.if_icmp .ge 36, 3) := by decide +kernel
theorem dX3_droppedAheadOf_12 : decode cX3_droppedAheadOf 12 = .ok (.aload_n 0, 1) := by decide +kernel
theorem dX3_droppedAheadOf_13 : decode cX3_droppedAheadOf 13 = .ok (.iload_n 3, 1) := by decide +kernel
theorem dX3_droppedAheadOf_14 : decode cX3_droppedAheadOf 14 = .ok (.invokevirtual 26, 3) := by decide +kernel
theorem dX3_droppedAheadOf_17 : decode cX3_droppedAheadOf 17 = .ok (.astore 4, 2) := by decide +kernel
theorem dX3_droppedAheadOf_19 : decode cX3_droppedAheadOf 19 = .ok (.aload 4, 2) := by decide +kernel
theorem dX3_droppedAheadOf_21 : decode cX3_droppedAheadOf 21 = .ok (.getfield 39, 3) := by decide +kernel
theorem dX3_droppedAheadOf_24 : decode cX3_droppedAheadOf 24 = .ok (.ifCond .ne 15, 3) := by decide +kernel
theorem dX3_droppedAheadOf_27 : decode cX3_droppedAheadOf 27 = .ok (.aload 4, 2) := by decide +kernel
theorem dX3_droppedAheadOf_29 : decode cX3_droppedAheadOf 29 = .ok (.aload_n 1, 1) := by decide +kernel
theorem dX3_droppedAheadOf_30 : decode cX3_droppedAheadOf 30 = .ok (.invokevirtual 47, 3) := by decide +kernel
theorem dX3_droppedAheadOf_33 : decode cX3_droppedAheadOf 33 = .ok (.ifCond .eq 6, 3) := by decide +kernel
theorem dX3_droppedAheadOf_36 : decode cX3_droppedAheadOf 36 = .ok (.iinc 2 1, 3) := by decide +kernel
theorem dX3_droppedAheadOf_39 : decode cX3_droppedAheadOf 39 = .ok (.iinc 3 1, 3) := by decide +kernel
theorem dX3_droppedAheadOf_42 : decode cX3_droppedAheadOf 42 = .ok (.goto (-38), 3) := by decide +kernel
theorem dX3_droppedAheadOf_45 : decode cX3_droppedAheadOf 45 = .ok (.iload_n 2, 1) := by decide +kernel
theorem dX3_droppedAheadOf_46 : decode cX3_droppedAheadOf 46 = .ok (.ireturn, 1) := by decide +kernel
theorem dX3_makeRoom_0 : decode cX3_makeRoom 0 = .ok (.bipush (-4), 2) := by decide +kernel
theorem dX3_makeRoom_2 : decode cX3_makeRoom 2 = .ok (.istore_n 2, 1) := by decide +kernel
theorem dX3_makeRoom_3 : decode cX3_makeRoom 3 = .ok (.aload_n 0, 1) := by decide +kernel
theorem dX3_makeRoom_4 : decode cX3_makeRoom 4 = .ok (.iconst 0, 1) := by decide +kernel
theorem dX3_makeRoom_5 : decode cX3_makeRoom 5 = .ok (.invokevirtual 51, 3) := by decide +kernel
theorem dX3_makeRoom_8 : decode cX3_makeRoom 8 = .ok (.istore_n 3, 1) := by decide +kernel
theorem dX3_makeRoom_9 : decode cX3_makeRoom 9 = .ok (.aload_n 0, 1) := by decide +kernel
theorem dX3_makeRoom_10 : decode cX3_makeRoom 10 = .ok (.getfield 22, 3) := by decide +kernel
theorem dX3_makeRoom_13 : decode cX3_makeRoom 13 = .ok (.istore 4, 2) := by decide +kernel
theorem dX3_makeRoom_15 : decode cX3_makeRoom 15 = .ok (.iload 4, 2) := by decide +kernel
theorem dX3_makeRoom_17 : decode cX3_makeRoom 17 = .ok (.iload_n 1, 1) := by decide +kernel
theorem dX3_makeRoom_18 : decode cX3_makeRoom 18 = .ok (.if_icmp .lt 47, 3) := by decide +kernel
theorem dX3_makeRoom_21 : decode cX3_makeRoom 21 = .ok (.iload_n 3, 1) := by decide +kernel
theorem dX3_makeRoom_22 : decode cX3_makeRoom 22 = .ok (.iconst (-1), 1) := by decide +kernel
theorem dX3_makeRoom_23 : decode cX3_makeRoom 23 = .ok (.if_icmp .eq 42, 3) := by decide +kernel
theorem dX3_makeRoom_26 : decode cX3_makeRoom 26 = .ok (.iload_n 2, 1) := by decide +kernel
theorem dX3_makeRoom_27 : decode cX3_makeRoom 27 = .ok (.bipush (-4), 2) := by decide +kernel
theorem dX3_makeRoom_29 : decode cX3_makeRoom 29 = .ok (.if_icmp .ne 9, 3) := by decide +kernel
theorem dX3_makeRoom_32 : decode cX3_makeRoom 32 = .ok (.aload_n 0, 1) := by decide +kernel
theorem dX3_makeRoom_33 : decode cX3_makeRoom 33 = .ok (.iload_n 3, 1) := by decide +kernel
theorem dX3_makeRoom_34 : decode cX3_makeRoom 34 = .ok (.invokevirtual 55, 3) := by decide +kernel
theorem dX3_makeRoom_37 : decode cX3_makeRoom 37 = .ok (.istore_n 2, 1) := by decide +kernel
theorem dX3_makeRoom_38 : decode cX3_makeRoom 38 = .ok (.aload_n 0, 1) := by decide +kernel
theorem dX3_makeRoom_39 : decode cX3_makeRoom 39 = .ok (.iload_n 3, 1) := by decide +kernel
theorem dX3_makeRoom_40 : decode cX3_makeRoom 40 = .ok (.invokevirtual 58, 3) := by decide +kernel
theorem dX3_makeRoom_43 : decode cX3_makeRoom 43 = .ok (.aload_n 0, 1) := by decide +kernel
theorem dX3_makeRoom_44 : decode cX3_makeRoom 44 = .ok (.dup, 1) := by decide +kernel
theorem dX3_makeRoom_45 : decode cX3_makeRoom 45 = .ok (.getfield 62, 3) := by decide +kernel
theorem dX3_makeRoom_48 : decode cX3_makeRoom 48 = .ok (.iconst 1, 1) := by decide +kernel
theorem dX3_makeRoom_49 : decode cX3_makeRoom 49 = .ok (.iadd, 1) := by decide +kernel
theorem dX3_makeRoom_50 : decode cX3_makeRoom 50 = .ok (.putfield 62, 3) := by decide +kernel
theorem dX3_makeRoom_53 : decode cX3_makeRoom 53 = .ok (.aload_n 0, 1) := by decide +kernel
theorem dX3_makeRoom_54 : decode cX3_makeRoom 54 = .ok (.iconst 0, 1) := by decide +kernel
theorem dX3_makeRoom_55 : decode cX3_makeRoom 55 = .ok (.invokevirtual 51, 3) := by decide +kernel
theorem dX3_makeRoom_58 : decode cX3_makeRoom 58 = .ok (.istore_n 3, 1) := by decide +kernel
theorem dX3_makeRoom_59 : decode cX3_makeRoom 59 = .ok (.iinc 4 (-1), 3) := by decide +kernel
theorem dX3_makeRoom_62 : decode cX3_makeRoom 62 = .ok (.goto (-47), 3) := by decide +kernel
theorem dX3_makeRoom_65 : decode cX3_makeRoom 65 = .ok (.iload_n 2, 1) := by decide +kernel
theorem dX3_makeRoom_66 : decode cX3_makeRoom 66 = .ok (.ireturn, 1) := by decide +kernel
theorem dX3_newPlan_0 : decode cX3_newPlan 0 = .ok (.aload_n 0, 1) := by decide +kernel
theorem dX3_newPlan_1 : decode cX3_newPlan 1 = .ok (.getfield 22, 3) := by decide +kernel
theorem dX3_newPlan_4 : decode cX3_newPlan 4 = .ok (.iload_n 3, 1) := by decide +kernel
theorem dX3_newPlan_5 : decode cX3_newPlan 5 = .ok (.if_icmp .ge 15, 3) := by decide +kernel
theorem dX3_newPlan_8 : decode cX3_newPlan 8 = .ok (.aload_n 0, 1) := by decide +kernel
theorem dX3_newPlan_9 : decode cX3_newPlan 9 = .ok (.getfield 22, 3) := by decide +kernel
theorem dX3_newPlan_12 : decode cX3_newPlan 12 = .ok (.aload_n 0, 1) := by decide +kernel
theorem dX3_newPlan_13 : decode cX3_newPlan 13 = .ok (.getfield 11, 3) := by decide +kernel
theorem dX3_newPlan_16 : decode cX3_newPlan 16 = .ok (.arraylength, 1) := by decide +kernel
theorem dX3_newPlan_17 : decode cX3_newPlan 17 = .ok (.if_icmp .lt 19, 3) := by decide +kernel
theorem dX3_newPlan_20 : decode cX3_newPlan 20 = .ok (.aload_n 0, 1) := by decide +kernel
theorem dX3_newPlan_21 : decode cX3_newPlan 21 = .ok (.getfield 18, 3) := by decide +kernel
theorem dX3_newPlan_24 : decode cX3_newPlan 24 = .ok (.bipush (-4), 2) := by decide +kernel
theorem dX3_newPlan_26 : decode cX3_newPlan 26 = .ok (.iload_n 1, 1) := by decide +kernel
theorem dX3_newPlan_27 : decode cX3_newPlan 27 = .ok (.iload_n 2, 1) := by decide +kernel
theorem dX3_newPlan_28 : decode cX3_newPlan 28 = .ok (.invokevirtual 65, 3) := by decide +kernel
theorem dX3_newPlan_31 : decode cX3_newPlan 31 = .ok (.aload_n 0, 1) := by decide +kernel
theorem dX3_newPlan_32 : decode cX3_newPlan 32 = .ok (.getfield 18, 3) := by decide +kernel
theorem dX3_newPlan_35 : decode cX3_newPlan 35 = .ok (.areturn, 1) := by decide +kernel
theorem dX3_newPlan_36 : decode cX3_newPlan 36 = .ok (.aload_n 0, 1) := by decide +kernel
theorem dX3_newPlan_37 : decode cX3_newPlan 37 = .ok (.aload_n 0, 1) := by decide +kernel
theorem dX3_newPlan_38 : decode cX3_newPlan 38 = .ok (.getfield 22, 3) := by decide +kernel
theorem dX3_newPlan_41 : decode cX3_newPlan 41 = .ok (.invokevirtual 26, 3) := by decide +kernel
theorem dX3_newPlan_44 : decode cX3_newPlan 44 = .ok (.astore 4, 2) := by decide +kernel
theorem dX3_newPlan_46 : decode cX3_newPlan 46 = .ok (.aload 4, 2) := by decide +kernel
theorem dX3_newPlan_48 : decode cX3_newPlan 48 = .ok (.aload_n 0, 1) := by decide +kernel
theorem dX3_newPlan_49 : decode cX3_newPlan 49 = .ok (.getfield 69, 3) := by decide +kernel
theorem dX3_newPlan_52 : decode cX3_newPlan 52 = .ok (.iload_n 1, 1) := by decide +kernel
theorem dX3_newPlan_53 : decode cX3_newPlan 53 = .ok (.iload_n 2, 1) := by decide +kernel
theorem dX3_newPlan_54 : decode cX3_newPlan 54 = .ok (.invokevirtual 65, 3) := by decide +kernel
theorem dX3_newPlan_57 : decode cX3_newPlan 57 = .ok (.aload_n 0, 1) := by decide +kernel
theorem dX3_newPlan_58 : decode cX3_newPlan 58 = .ok (.dup, 1) := by decide +kernel
theorem dX3_newPlan_59 : decode cX3_newPlan 59 = .ok (.getfield 22, 3) := by decide +kernel
theorem dX3_newPlan_62 : decode cX3_newPlan 62 = .ok (.iconst 1, 1) := by decide +kernel
theorem dX3_newPlan_63 : decode cX3_newPlan 63 = .ok (.iadd, 1) := by decide +kernel
theorem dX3_newPlan_64 : decode cX3_newPlan 64 = .ok (.putfield 22, 3) := by decide +kernel
theorem dX3_newPlan_67 : decode cX3_newPlan 67 = .ok (.aload_n 0, 1) := by decide +kernel
theorem dX3_newPlan_68 : decode cX3_newPlan 68 = .ok (.dup, 1) := by decide +kernel
theorem dX3_newPlan_69 : decode cX3_newPlan 69 = .ok (.getfield 69, 3) := by decide +kernel
theorem dX3_newPlan_72 : decode cX3_newPlan 72 = .ok (.iconst 1, 1) := by decide +kernel
theorem dX3_newPlan_73 : decode cX3_newPlan 73 = .ok (.iadd, 1) := by decide +kernel
theorem dX3_newPlan_74 : decode cX3_newPlan 74 = .ok (.putfield 69, 3) := by decide +kernel
theorem dX3_newPlan_77 : decode cX3_newPlan 77 = .ok (.aload 4, 2) := by decide +kernel
theorem dX3_newPlan_79 : decode cX3_newPlan 79 = .ok (.areturn, 1) := by decide +kernel
theorem dX3_throwAway_0 : decode cX3_throwAway 0 = .ok (.iload_n 1, 1) := by decide +kernel
theorem dX3_throwAway_1 : decode cX3_throwAway 1 = .ok (.ifCond .lt 26, 3) := by decide +kernel
theorem dX3_throwAway_4 : decode cX3_throwAway 4 = .ok (.iload_n 1, 1) := by decide +kernel
theorem dX3_throwAway_5 : decode cX3_throwAway 5 = .ok (.aload_n 0, 1) := by decide +kernel
theorem dX3_throwAway_6 : decode cX3_throwAway 6 = .ok (.getfield 22, 3) := by decide +kernel
theorem dX3_throwAway_9 : decode cX3_throwAway 9 = .ok (.if_icmp .ge 18, 3) := by decide +kernel
theorem dX3_throwAway_12 : decode cX3_throwAway 12 = .ok (.aload_n 0, 1) := by decide +kernel
theorem dX3_throwAway_13 : decode cX3_throwAway 13 = .ok (.iload_n 1, 1) := by decide +kernel
theorem dX3_throwAway_14 : decode cX3_throwAway 14 = .ok (.invokevirtual 58, 3) := by decide +kernel
theorem dX3_throwAway_17 : decode cX3_throwAway 17 = .ok (.aload_n 0, 1) := by decide +kernel
theorem dX3_throwAway_18 : decode cX3_throwAway 18 = .ok (.dup, 1) := by decide +kernel
theorem dX3_throwAway_19 : decode cX3_throwAway 19 = .ok (.getfield 72, 3) := by decide +kernel
theorem dX3_throwAway_22 : decode cX3_throwAway 22 = .ok (.iconst 1, 1) := by decide +kernel
theorem dX3_throwAway_23 : decode cX3_throwAway 23 = .ok (.iadd, 1) := by decide +kernel
theorem dX3_throwAway_24 : decode cX3_throwAway 24 = .ok (.putfield 72, 3) := by decide +kernel
theorem dX3_throwAway_27 : decode cX3_throwAway 27 = .ok (.return_, 1) := by decide +kernel
theorem dX3_remove_0 : decode cX3_remove 0 = .ok (.aload_n 0, 1) := by decide +kernel
theorem dX3_remove_1 : decode cX3_remove 1 = .ok (.getfield 22, 3) := by decide +kernel
theorem dX3_remove_4 : decode cX3_remove 4 = .ok (.iconst 1, 1) := by decide +kernel
theorem dX3_remove_5 : decode cX3_remove 5 = .ok (.isub, 1) := by decide +kernel
theorem dX3_remove_6 : decode cX3_remove 6 = .ok (.istore_n 2, 1) := by decide +kernel
theorem dX3_remove_7 : decode cX3_remove 7 = .ok (.iload_n 1, 1) := by decide +kernel
theorem dX3_remove_8 : decode cX3_remove 8 = .ok (.ifCond .lt 53, 3) := by decide +kernel
theorem dX3_remove_11 : decode cX3_remove 11 = .ok (.iload_n 1, 1) := by decide +kernel
theorem dX3_remove_12 : decode cX3_remove 12 = .ok (.iload_n 2, 1) := by decide +kernel
theorem dX3_remove_13 : decode cX3_remove 13 = .ok (.if_icmp .gt 48, 3) := by decide +kernel
theorem dX3_remove_16 : decode cX3_remove 16 = .ok (.iload_n 2, 1) := by decide +kernel
theorem dX3_remove_17 : decode cX3_remove 17 = .ok (.aload_n 0, 1) := by decide +kernel
theorem dX3_remove_18 : decode cX3_remove 18 = .ok (.getfield 11, 3) := by decide +kernel
theorem dX3_remove_21 : decode cX3_remove 21 = .ok (.arraylength, 1) := by decide +kernel
theorem dX3_remove_22 : decode cX3_remove 22 = .ok (.if_icmp .ge 39, 3) := by decide +kernel
theorem dX3_remove_25 : decode cX3_remove 25 = .ok (.aload_n 0, 1) := by decide +kernel
theorem dX3_remove_26 : decode cX3_remove 26 = .ok (.getfield 11, 3) := by decide +kernel
theorem dX3_remove_29 : decode cX3_remove 29 = .ok (.iload_n 1, 1) := by decide +kernel
theorem dX3_remove_30 : decode cX3_remove 30 = .ok (.aaload, 1) := by decide +kernel
theorem dX3_remove_31 : decode cX3_remove 31 = .ok (.astore_n 3, 1) := by decide +kernel
theorem dX3_remove_32 : decode cX3_remove 32 = .ok (.aload_n 0, 1) := by decide +kernel
theorem dX3_remove_33 : decode cX3_remove 33 = .ok (.getfield 11, 3) := by decide +kernel
theorem dX3_remove_36 : decode cX3_remove 36 = .ok (.iload_n 1, 1) := by decide +kernel
theorem dX3_remove_37 : decode cX3_remove 37 = .ok (.aload_n 0, 1) := by decide +kernel
theorem dX3_remove_38 : decode cX3_remove 38 = .ok (.getfield 11, 3) := by decide +kernel
theorem dX3_remove_41 : decode cX3_remove 41 = .ok (.iload_n 2, 1) := by decide +kernel
theorem dX3_remove_42 : decode cX3_remove 42 = .ok (.aaload, 1) := by decide +kernel
theorem dX3_remove_43 : decode cX3_remove 43 = .ok (.aastore, 1) := by decide +kernel
theorem dX3_remove_44 : decode cX3_remove 44 = .ok (.aload_n 0, 1) := by decide +kernel
theorem dX3_remove_45 : decode cX3_remove 45 = .ok (.getfield 11, 3) := by decide +kernel
theorem dX3_remove_48 : decode cX3_remove 48 = .ok (.iload_n 2, 1) := by decide +kernel
theorem dX3_remove_49 : decode cX3_remove 49 = .ok (.aload_n 3, 1) := by decide +kernel
theorem dX3_remove_50 : decode cX3_remove 50 = .ok (.aastore, 1) := by decide +kernel
theorem dX3_remove_51 : decode cX3_remove 51 = .ok (.aload_n 0, 1) := by decide +kernel
theorem dX3_remove_52 : decode cX3_remove 52 = .ok (.dup, 1) := by decide +kernel
theorem dX3_remove_53 : decode cX3_remove 53 = .ok (.getfield 22, 3) := by decide +kernel
theorem dX3_remove_56 : decode cX3_remove 56 = .ok (.iconst 1, 1) := by decide +kernel
theorem dX3_remove_57 : decode cX3_remove 57 = .ok (.isub, 1) := by decide +kernel
theorem dX3_remove_58 : decode cX3_remove 58 = .ok (.putfield 22, 3) := by decide +kernel
theorem dX3_remove_61 : decode cX3_remove 61 = .ok (.return_, 1) := by decide +kernel
theorem dX3_takeFrom_0 : decode cX3_takeFrom 0 = .ok (.iconst 0, 1) := by decide +kernel
theorem dX3_takeFrom_1 : decode cX3_takeFrom 1 = .ok (.istore_n 2, 1) := by decide +kernel
theorem dX3_takeFrom_2 : decode cX3_takeFrom 2 = .ok (.iload_n 2, 1) := by decide +kernel
theorem dX3_takeFrom_3 : decode cX3_takeFrom 3 = .ok (.aload_n 0, 1) := by decide +kernel
theorem dX3_takeFrom_4 : decode cX3_takeFrom 4 = .ok (.getfield 11, 3) := by decide +kernel
theorem dX3_takeFrom_7 : decode cX3_takeFrom 7 = .ok (.arraylength, 1) := by decide +kernel
theorem dX3_takeFrom_8 : decode cX3_takeFrom 8 = .ok (.if_icmp .ge 22, 3) := by decide +kernel
theorem dX3_takeFrom_11 : decode cX3_takeFrom 11 = .ok (.aload_n 0, 1) := by decide +kernel
theorem dX3_takeFrom_12 : decode cX3_takeFrom 12 = .ok (.iload_n 2, 1) := by decide +kernel
theorem dX3_takeFrom_13 : decode cX3_takeFrom 13 = .ok (.invokevirtual 26, 3) := by decide +kernel
theorem dX3_takeFrom_16 : decode cX3_takeFrom 16 = .ok (.aload_n 1, 1) := by decide +kernel
theorem dX3_takeFrom_17 : decode cX3_takeFrom 17 = .ok (.iload_n 2, 1) := by decide +kernel
theorem dX3_takeFrom_18 : decode cX3_takeFrom 18 = .ok (.invokevirtual 26, 3) := by decide +kernel
theorem dX3_takeFrom_21 : decode cX3_takeFrom 21 = .ok (.invokevirtual 75, 3) := by decide +kernel
theorem dX3_takeFrom_24 : decode cX3_takeFrom 24 = .ok (.iinc 2 1, 3) := by decide +kernel
theorem dX3_takeFrom_27 : decode cX3_takeFrom 27 = .ok (.goto (-25), 3) := by decide +kernel
theorem dX3_takeFrom_30 : decode cX3_takeFrom 30 = .ok (.aload_n 0, 1) := by decide +kernel
theorem dX3_takeFrom_31 : decode cX3_takeFrom 31 = .ok (.aload_n 1, 1) := by decide +kernel
theorem dX3_takeFrom_32 : decode cX3_takeFrom 32 = .ok (.getfield 22, 3) := by decide +kernel
theorem dX3_takeFrom_35 : decode cX3_takeFrom 35 = .ok (.putfield 22, 3) := by decide +kernel
theorem dX3_takeFrom_38 : decode cX3_takeFrom 38 = .ok (.aload_n 0, 1) := by decide +kernel
theorem dX3_takeFrom_39 : decode cX3_takeFrom 39 = .ok (.aload_n 1, 1) := by decide +kernel
theorem dX3_takeFrom_40 : decode cX3_takeFrom 40 = .ok (.getfield 69, 3) := by decide +kernel
theorem dX3_takeFrom_43 : decode cX3_takeFrom 43 = .ok (.putfield 69, 3) := by decide +kernel
theorem dX3_takeFrom_46 : decode cX3_takeFrom 46 = .ok (.aload_n 0, 1) := by decide +kernel
theorem dX3_takeFrom_47 : decode cX3_takeFrom 47 = .ok (.aload_n 1, 1) := by decide +kernel
theorem dX3_takeFrom_48 : decode cX3_takeFrom 48 = .ok (.getfield 62, 3) := by decide +kernel
theorem dX3_takeFrom_51 : decode cX3_takeFrom 51 = .ok (.putfield 62, 3) := by decide +kernel
theorem dX3_takeFrom_54 : decode cX3_takeFrom 54 = .ok (.aload_n 0, 1) := by decide +kernel
theorem dX3_takeFrom_55 : decode cX3_takeFrom 55 = .ok (.aload_n 1, 1) := by decide +kernel
theorem dX3_takeFrom_56 : decode cX3_takeFrom 56 = .ok (.getfield 72, 3) := by decide +kernel
theorem dX3_takeFrom_59 : decode cX3_takeFrom 59 = .ok (.putfield 72, 3) := by decide +kernel
theorem dX3_takeFrom_62 : decode cX3_takeFrom 62 = .ok (.return_, 1) := by decide +kernel
theorem dX4_init_0 : decode cX4_init 0 = .ok (.aload_n 0, 1) := by decide +kernel
theorem dX4_init_1 : decode cX4_init 1 = .ok (.invokespecial 3, 3) := by decide +kernel
theorem dX4_init_4 : decode cX4_init 4 = .ok (.aload_n 0, 1) := by decide +kernel
theorem dX4_init_5 : decode cX4_init 5 = .ok (.new 9, 3) := by decide +kernel
theorem dX4_init_8 : decode cX4_init 8 = .ok (.dup, 1) := by decide +kernel
theorem dX4_init_9 : decode cX4_init 9 = .ok (.invokespecial 11, 3) := by decide +kernel
theorem dX4_init_12 : decode cX4_init 12 = .ok (.putfield 12, 3) := by decide +kernel
theorem dX4_init_15 : decode cX4_init 15 = .ok (.aload_n 0, 1) := by decide +kernel
theorem dX4_init_16 : decode cX4_init 16 = .ok (.new 18, 3) := by decide +kernel
theorem dX4_init_19 : decode cX4_init 19 = .ok (.dup, 1) := by decide +kernel
theorem dX4_init_20 : decode cX4_init 20 = .ok (.invokespecial 20, 3) := by decide +kernel
theorem dX4_init_23 : decode cX4_init 23 = .ok (.putfield 21, 3) := by decide +kernel
theorem dX4_init_26 : decode cX4_init 26 = .ok (.aload_n 0, 1) := by decide +kernel
theorem dX4_init_27 : decode cX4_init 27 = .ok (.bipush 6, 2) := by decide +kernel
theorem dX4_init_29 : decode cX4_init 29 = .ok (.anewarray 25, 3) := by decide +kernel
theorem dX4_init_32 : decode cX4_init 32 = .ok (.putfield 27, 3) := by decide +kernel
theorem dX4_init_35 : decode cX4_init 35 = .ok (.aload_n 0, 1) := by decide +kernel
theorem dX4_init_36 : decode cX4_init 36 = .ok (.new 25, 3) := by decide +kernel
theorem dX4_init_39 : decode cX4_init 39 = .ok (.dup, 1) := by decide +kernel
theorem dX4_init_40 : decode cX4_init 40 = .ok (.invokespecial 31, 3) := by decide +kernel
theorem dX4_init_43 : decode cX4_init 43 = .ok (.putfield 32, 3) := by decide +kernel
theorem dX4_init_46 : decode cX4_init 46 = .ok (.aload_n 0, 1) := by decide +kernel
theorem dX4_init_47 : decode cX4_init 47 = .ok (.new 36, 3) := by decide +kernel
theorem dX4_init_50 : decode cX4_init 50 = .ok (.dup, 1) := by decide +kernel
theorem dX4_init_51 : decode cX4_init 51 = .ok (.invokespecial 38, 3) := by decide +kernel
theorem dX4_init_54 : decode cX4_init 54 = .ok (.putfield 39, 3) := by decide +kernel
theorem dX4_init_57 : decode cX4_init 57 = .ok (.aload_n 0, 1) := by decide +kernel
theorem dX4_init_58 : decode cX4_init 58 = .ok (.new 43, 3) := by decide +kernel
theorem dX4_init_61 : decode cX4_init 61 = .ok (.dup, 1) := by decide +kernel
theorem dX4_init_62 : decode cX4_init 62 = .ok (.invokespecial 45, 3) := by decide +kernel
theorem dX4_init_65 : decode cX4_init 65 = .ok (.putfield 46, 3) := by decide +kernel
theorem dX4_init_68 : decode cX4_init 68 = .ok (.aload_n 0, 1) := by decide +kernel
theorem dX4_init_69 : decode cX4_init 69 = .ok (.iconst 5, 1) := by decide +kernel
theorem dX4_init_70 : decode cX4_init 70 = .ok (.newarray .int, 2) := by decide +kernel
theorem dX4_init_72 : decode cX4_init 72 = .ok (.dup, 1) := by decide +kernel
theorem dX4_init_73 : decode cX4_init 73 = .ok (.iconst 0, 1) := by decide +kernel
theorem dX4_init_74 : decode cX4_init 74 = .ok (.bipush 50, 2) := by decide +kernel
theorem dX4_init_76 : decode cX4_init 76 = .ok (.iastore, 1) := by decide +kernel
theorem dX4_init_77 : decode cX4_init 77 = .ok (.dup, 1) := by decide +kernel
theorem dX4_init_78 : decode cX4_init 78 = .ok (.iconst 1, 1) := by decide +kernel
theorem dX4_init_79 : decode cX4_init 79 = .ok (.sipush 300, 3) := by decide +kernel
theorem dX4_init_82 : decode cX4_init 82 = .ok (.iastore, 1) := by decide +kernel
theorem dX4_init_83 : decode cX4_init 83 = .ok (.dup, 1) := by decide +kernel
theorem dX4_init_84 : decode cX4_init 84 = .ok (.iconst 2, 1) := by decide +kernel
theorem dX4_init_85 : decode cX4_init 85 = .ok (.iconst 4, 1) := by decide +kernel
theorem dX4_init_86 : decode cX4_init 86 = .ok (.iastore, 1) := by decide +kernel
theorem dX4_init_87 : decode cX4_init 87 = .ok (.dup, 1) := by decide +kernel
theorem dX4_init_88 : decode cX4_init 88 = .ok (.iconst 3, 1) := by decide +kernel
theorem dX4_init_89 : decode cX4_init 89 = .ok (.iconst 2, 1) := by decide +kernel
theorem dX4_init_90 : decode cX4_init 90 = .ok (.iastore, 1) := by decide +kernel
theorem dX4_init_91 : decode cX4_init 91 = .ok (.dup, 1) := by decide +kernel
theorem dX4_init_92 : decode cX4_init 92 = .ok (.iconst 4, 1) := by decide +kernel
theorem dX4_init_93 : decode cX4_init 93 = .ok (.iconst 4, 1) := by decide +kernel
theorem dX4_init_94 : decode cX4_init 94 = .ok (.iastore, 1) := by decide +kernel
theorem dX4_init_95 : decode cX4_init 95 = .ok (.putfield 50, 3) := by decide +kernel
theorem dX4_init_98 : decode cX4_init 98 = .ok (.iconst 0, 1) := by decide +kernel
theorem dX4_init_99 : decode cX4_init 99 = .ok (.istore_n 1, 1) := by decide +kernel
theorem dX4_init_100 : decode cX4_init 100 = .ok (.iload_n 1, 1) := by decide +kernel
theorem dX4_init_101 : decode cX4_init 101 = .ok (.aload_n 0, 1) := by decide +kernel
theorem dX4_init_102 : decode cX4_init 102 = .ok (.getfield 27, 3) := by decide +kernel
theorem dX4_init_105 : decode cX4_init 105 = .ok (.arraylength, 1) := by decide +kernel
theorem dX4_init_106 : decode cX4_init 106 = .ok (.if_icmp .ge 22, 3) := by decide +kernel
theorem dX4_init_109 : decode cX4_init 109 = .ok (.aload_n 0, 1) := by decide +kernel
theorem dX4_init_110 : decode cX4_init 110 = .ok (.getfield 27, 3) := by decide +kernel
theorem dX4_init_113 : decode cX4_init 113 = .ok (.iload_n 1, 1) := by decide +kernel
theorem dX4_init_114 : decode cX4_init 114 = .ok (.new 25, 3) := by decide +kernel
theorem dX4_init_117 : decode cX4_init 117 = .ok (.dup, 1) := by decide +kernel
theorem dX4_init_118 : decode cX4_init 118 = .ok (.invokespecial 31, 3) := by decide +kernel
theorem dX4_init_121 : decode cX4_init 121 = .ok (.aastore, 1) := by decide +kernel
theorem dX4_init_122 : decode cX4_init 122 = .ok (.iinc 1 1, 3) := by decide +kernel
theorem dX4_init_125 : decode cX4_init 125 = .ok (.goto (-25), 3) := by decide +kernel
theorem dX4_init_128 : decode cX4_init 128 = .ok (.return_, 1) := by decide +kernel
theorem dX4_isIndexed_0 : decode cX4_isIndexed 0 = .ok (.aload_n 0, 1) := by decide +kernel
theorem dX4_isIndexed_1 : decode cX4_isIndexed 1 = .ok (.getfield 54, 3) := by decide +kernel
theorem dX4_isIndexed_4 : decode cX4_isIndexed 4 = .ok (.iload_n 1, 1) := by decide +kernel
theorem dX4_isIndexed_5 : decode cX4_isIndexed 5 = .ok (.ishr, 1) := by decide +kernel
theorem dX4_isIndexed_6 : decode cX4_isIndexed 6 = .ok (.iconst 1, 1) := by decide +kernel
theorem dX4_isIndexed_7 : decode cX4_isIndexed 7 = .ok (.iand, 1) := by decide +kernel
theorem dX4_isIndexed_8 : decode cX4_isIndexed 8 = .ok (.iconst 1, 1) := by decide +kernel
theorem dX4_isIndexed_9 : decode cX4_isIndexed 9 = .ok (.if_icmp .ne 7, 3) := by decide +kernel
theorem dX4_isIndexed_12 : decode cX4_isIndexed 12 = .ok (.iconst 1, 1) := by decide +kernel
theorem dX4_isIndexed_13 : decode cX4_isIndexed 13 = .ok (.goto 4, 3) := by decide +kernel
theorem dX4_isIndexed_16 : decode cX4_isIndexed 16 = .ok (.iconst 0, 1) := by decide +kernel
theorem dX4_isIndexed_17 : decode cX4_isIndexed 17 = .ok (.ireturn, 1) := by decide +kernel
theorem dX4_flipIndex_0 : decode cX4_flipIndex 0 = .ok (.aload_n 0, 1) := by decide +kernel
theorem dX4_flipIndex_1 : decode cX4_flipIndex 1 = .ok (.dup, 1) := by decide +kernel
theorem dX4_flipIndex_2 : decode cX4_flipIndex 2 = .ok (.getfield 54, 3) := by decide +kernel
theorem dX4_flipIndex_5 : decode cX4_flipIndex 5 = .ok (.iconst 1, 1) := by decide +kernel
theorem dX4_flipIndex_6 : decode cX4_flipIndex 6 = .ok (.iload_n 1, 1) := by decide +kernel
theorem dX4_flipIndex_7 : decode cX4_flipIndex 7 = .ok (.ishl, 1) := by decide +kernel
theorem dX4_flipIndex_8 : decode cX4_flipIndex 8 = .ok (.ixor, 1) := by decide +kernel
theorem dX4_flipIndex_9 : decode cX4_flipIndex 9 = .ok (.putfield 54, 3) := by decide +kernel
theorem dX4_flipIndex_12 : decode cX4_flipIndex 12 = .ok (.return_, 1) := by decide +kernel
theorem dX4_throwAwayPlansBy_0 : decode cX4_throwAwayPlansBy 0 = .ok (.aload_n 0, 1) := by decide +kernel
theorem dX4_throwAwayPlansBy_1 : decode cX4_throwAwayPlansBy 1 = .ok (.getfield 39, 3) := by decide +kernel
theorem dX4_throwAwayPlansBy_4 : decode cX4_throwAwayPlansBy 4 = .ok (.getfield 58, 3) := by decide +kernel
theorem dX4_throwAwayPlansBy_7 : decode cX4_throwAwayPlansBy 7 = .ok (.istore_n 2, 1) := by decide +kernel
theorem dX4_throwAwayPlansBy_8 : decode cX4_throwAwayPlansBy 8 = .ok (.iload_n 2, 1) := by decide +kernel
theorem dX4_throwAwayPlansBy_9 : decode cX4_throwAwayPlansBy 9 = .ok (.iconst 1, 1) := by decide +kernel
theorem dX4_throwAwayPlansBy_10 : decode cX4_throwAwayPlansBy 10 = .ok (.isub, 1) := by decide +kernel
theorem dX4_throwAwayPlansBy_11 : decode cX4_throwAwayPlansBy 11 = .ok (.istore_n 3, 1) := by decide +kernel
theorem dX4_throwAwayPlansBy_12 : decode cX4_throwAwayPlansBy 12 = .ok (.iload_n 3, 1) := by decide +kernel
theorem dX4_throwAwayPlansBy_13 : decode cX4_throwAwayPlansBy 13 = .ok (.ifCond .lt 58, 3) := by decide +kernel
theorem dX4_throwAwayPlansBy_16 : decode cX4_throwAwayPlansBy 16 = .ok (.aload_n 0, 1) := by decide +kernel
theorem dX4_throwAwayPlansBy_17 : decode cX4_throwAwayPlansBy 17 = .ok (.getfield 39, 3) := by decide +kernel
theorem dX4_throwAwayPlansBy_20 : decode cX4_throwAwayPlansBy 20 = .ok (.iload_n 3, 1) := by decide +kernel
theorem dX4_throwAwayPlansBy_21 : decode cX4_throwAwayPlansBy 21 = .ok (.invokevirtual 61, 3) := by decide +kernel
theorem dX4_throwAwayPlansBy_24 : decode cX4_throwAwayPlansBy 24 = .ok (.astore 4, 2) := by decide +kernel
theorem dX4_throwAwayPlansBy_26 : decode cX4_throwAwayPlansBy 26 = .ok (.aload 4, 2) := by decide +kernel
theorem dX4_throwAwayPlansBy_28 : decode cX4_throwAwayPlansBy 28 = .ok (.getfield 65, 3) := by decide +kernel
theorem dX4_throwAwayPlansBy_31 : decode cX4_throwAwayPlansBy 31 = .ok (.bipush 9, 2) := by decide +kernel
theorem dX4_throwAwayPlansBy_33 : decode cX4_throwAwayPlansBy 33 = .ok (.if_icmp .eq 32, 3) := by decide +kernel
theorem dX4_throwAwayPlansBy_36 : decode cX4_throwAwayPlansBy 36 = .ok (.aload_n 0, 1) := by decide +kernel
theorem dX4_throwAwayPlansBy_37 : decode cX4_throwAwayPlansBy 37 = .ok (.aload 4, 2) := by decide +kernel
theorem dX4_throwAwayPlansBy_39 : decode cX4_throwAwayPlansBy 39 = .ok (.getfield 70, 3) := by decide +kernel
theorem dX4_throwAwayPlansBy_42 : decode cX4_throwAwayPlansBy 42 = .ok (.invokevirtual 73, 3) := by decide +kernel
theorem dX4_throwAwayPlansBy_45 : decode cX4_throwAwayPlansBy 45 = .ok (.aload 4, 2) := by decide +kernel
theorem dX4_throwAwayPlansBy_47 : decode cX4_throwAwayPlansBy 47 = .ok (.getfield 65, 3) := by decide +kernel
theorem dX4_throwAwayPlansBy_50 : decode cX4_throwAwayPlansBy 50 = .ok (.invokevirtual 77, 3) := by decide +kernel
theorem dX4_throwAwayPlansBy_53 : decode cX4_throwAwayPlansBy 53 = .ok (.iload_n 1, 1) := by decide +kernel
theorem dX4_throwAwayPlansBy_54 : decode cX4_throwAwayPlansBy 54 = .ok (.if_icmp .ne 11, 3) := by decide +kernel
theorem dX4_throwAwayPlansBy_57 : decode cX4_throwAwayPlansBy 57 = .ok (.aload_n 0, 1) := by decide +kernel
theorem dX4_throwAwayPlansBy_58 : decode cX4_throwAwayPlansBy 58 = .ok (.getfield 39, 3) := by decide +kernel
theorem dX4_throwAwayPlansBy_61 : decode cX4_throwAwayPlansBy 61 = .ok (.iload_n 3, 1) := by decide +kernel
theorem dX4_throwAwayPlansBy_62 : decode cX4_throwAwayPlansBy 62 = .ok (.invokevirtual 81, 3) := by decide +kernel
theorem dX4_throwAwayPlansBy_65 : decode cX4_throwAwayPlansBy 65 = .ok (.iinc 3 (-1), 3) := by decide +kernel
theorem dX4_throwAwayPlansBy_68 : decode cX4_throwAwayPlansBy 68 = .ok (.goto (-56), 3) := by decide +kernel
theorem dX4_throwAwayPlansBy_71 : decode cX4_throwAwayPlansBy 71 = .ok (.iload_n 2, 1) := by decide +kernel
theorem dX4_throwAwayPlansBy_72 : decode cX4_throwAwayPlansBy 72 = .ok (.aload_n 0, 1) := by decide +kernel
theorem dX4_throwAwayPlansBy_73 : decode cX4_throwAwayPlansBy 73 = .ok (.getfield 39, 3) := by decide +kernel
theorem dX4_throwAwayPlansBy_76 : decode cX4_throwAwayPlansBy 76 = .ok (.getfield 58, 3) := by decide +kernel
theorem dX4_throwAwayPlansBy_79 : decode cX4_throwAwayPlansBy 79 = .ok (.isub, 1) := by decide +kernel
theorem dX4_throwAwayPlansBy_80 : decode cX4_throwAwayPlansBy 80 = .ok (.ireturn, 1) := by decide +kernel
theorem dX4_changeSetting_0 : decode cX4_changeSetting 0 = .ok (.aload_n 0, 1) := by decide +kernel
theorem dX4_changeSetting_1 : decode cX4_changeSetting 1 = .ok (.getfield 50, 3) := by decide +kernel
theorem dX4_changeSetting_4 : decode cX4_changeSetting 4 = .ok (.iload_n 1, 1) := by decide +kernel
theorem dX4_changeSetting_5 : decode cX4_changeSetting 5 = .ok (.invokestatic 85, 3) := by decide +kernel
theorem dX4_changeSetting_8 : decode cX4_changeSetting 8 = .ok (.istore_n 3, 1) := by decide +kernel
theorem dX4_changeSetting_9 : decode cX4_changeSetting 9 = .ok (.aload_n 0, 1) := by decide +kernel
theorem dX4_changeSetting_10 : decode cX4_changeSetting 10 = .ok (.getfield 50, 3) := by decide +kernel
theorem dX4_changeSetting_13 : decode cX4_changeSetting 13 = .ok (.iload_n 1, 1) := by decide +kernel
theorem dX4_changeSetting_14 : decode cX4_changeSetting 14 = .ok (.iload_n 2, 1) := by decide +kernel
theorem dX4_changeSetting_15 : decode cX4_changeSetting 15 = .ok (.invokestatic 89, 3) := by decide +kernel
theorem dX4_changeSetting_18 : decode cX4_changeSetting 18 = .ok (.iload_n 3, 1) := by decide +kernel
theorem dX4_changeSetting_19 : decode cX4_changeSetting 19 = .ok (.ireturn, 1) := by decide +kernel
theorem dX4_hasStatement_0 : decode cX4_hasStatement 0 = .ok (.iload_n 1, 1) := by decide +kernel
theorem dX4_hasStatement_1 : decode cX4_hasStatement 1 = .ok (.ifCond .lt 15, 3) := by decide +kernel
theorem dX4_hasStatement_4 : decode cX4_hasStatement 4 = .ok (.iload_n 1, 1) := by decide +kernel
theorem dX4_hasStatement_5 : decode cX4_hasStatement 5 = .ok (.aload_n 0, 1) := by decide +kernel
theorem dX4_hasStatement_6 : decode cX4_hasStatement 6 = .ok (.getfield 93, 3) := by decide +kernel
theorem dX4_hasStatement_9 : decode cX4_hasStatement 9 = .ok (.if_icmp .ge 7, 3) := by decide +kernel
theorem dX4_hasStatement_12 : decode cX4_hasStatement 12 = .ok (.iconst 1, 1) := by decide +kernel
theorem dX4_hasStatement_13 : decode cX4_hasStatement 13 = .ok (.goto 4, 3) := by decide +kernel
theorem dX4_hasStatement_16 : decode cX4_hasStatement 16 = .ok (.iconst 0, 1) := by decide +kernel
theorem dX4_hasStatement_17 : decode cX4_hasStatement 17 = .ok (.ireturn, 1) := by decide +kernel
theorem dX4_statementAt_0 : decode cX4_statementAt 0 = .ok (.iload_n 1, 1) := by decide +kernel
theorem dX4_statementAt_1 : decode cX4_statementAt 1 = .ok (.ifCond .lt 12, 3) := by decide +kernel
theorem dX4_statementAt_4 : decode cX4_statementAt 4 = .ok (.iload_n 1, 1) := by decide +kernel
theorem dX4_statementAt_5 : decode cX4_statementAt 5 = .ok (.aload_n 0, 1) := by decide +kernel
theorem dX4_statementAt_6 : decode cX4_statementAt 6 = .ok (.getfield 27, 3) := by decide +kernel
theorem dX4_statementAt_9 : decode cX4_statementAt 9 = .ok (.arraylength, 1) := by decide +kernel
theorem dX4_statementAt_10 : decode cX4_statementAt 10 = .ok (.if_icmp .lt 8, 3) := by decide +kernel
theorem dX4_statementAt_13 : decode cX4_statementAt 13 = .ok (.aload_n 0, 1) := by decide +kernel
theorem dX4_statementAt_14 : decode cX4_statementAt 14 = .ok (.getfield 32, 3) := by decide +kernel
theorem dX4_statementAt_17 : decode cX4_statementAt 17 = .ok (.areturn, 1) := by decide +kernel
theorem dX4_statementAt_18 : decode cX4_statementAt 18 = .ok (.aload_n 0, 1) := by decide +kernel
theorem dX4_statementAt_19 : decode cX4_statementAt 19 = .ok (.getfield 27, 3) := by decide +kernel
theorem dX4_statementAt_22 : decode cX4_statementAt 22 = .ok (.iload_n 1, 1) := by decide +kernel
theorem dX4_statementAt_23 : decode cX4_statementAt 23 = .ok (.aaload, 1) := by decide +kernel
theorem dX4_statementAt_24 : decode cX4_statementAt 24 = .ok (.astore_n 2, 1) := by decide +kernel
theorem dX4_statementAt_25 : decode cX4_statementAt 25 = .ok (.aload_n 2, 1) := by decide +kernel
theorem dX4_statementAt_26 : decode cX4_statementAt 26 = .ok (.ifnonnull 10, 3) := by decide +kernel
theorem dX4_statementAt_29 : decode cX4_statementAt 29 = .ok (.aload_n 0, 1) := by decide +kernel
theorem dX4_statementAt_30 : decode cX4_statementAt 30 = .ok (.getfield 32, 3) := by decide +kernel
theorem dX4_statementAt_33 : decode cX4_statementAt 33 = .ok (.goto 4, 3) := by decide +kernel
theorem dX4_statementAt_36 : decode cX4_statementAt 36 = .ok (.aload_n 2, 1) := by decide +kernel
theorem dX4_statementAt_37 : decode cX4_statementAt 37 = .ok (.areturn, 1) := by decide +kernel
theorem dX4_statementWith_0 : decode cX4_statementWith 0 = .ok (.iconst 0, 1) := by decide +kernel
theorem dX4_statementWith_1 : decode cX4_statementWith 1 = .ok (.istore_n 2, 1) := by decide +kernel
theorem dX4_statementWith_2 : decode cX4_statementWith 2 = .ok (.iload_n 2, 1) := by decide +kernel
theorem dX4_statementWith_3 : decode cX4_statementWith 3 = .ok (.aload_n 0, 1) := by decide +kernel
theorem dX4_statementWith_4 : decode cX4_statementWith 4 = .ok (.getfield 93, 3) := by decide +kernel
theorem dX4_statementWith_7 : decode cX4_statementWith 7 = .ok (.if_icmp .ge 23, 3) := by decide +kernel
theorem dX4_statementWith_10 : decode cX4_statementWith 10 = .ok (.aload_n 0, 1) := by decide +kernel
theorem dX4_statementWith_11 : decode cX4_statementWith 11 = .ok (.iload_n 2, 1) := by decide +kernel
theorem dX4_statementWith_12 : decode cX4_statementWith 12 = .ok (.invokevirtual 73, 3) := by decide +kernel
theorem dX4_statementWith_15 : decode cX4_statementWith 15 = .ok (.aload_n 1, 1) := by decide +kernel
theorem dX4_statementWith_16 : decode cX4_statementWith 16 = .ok (.invokevirtual 96, 3) := by decide +kernel
theorem dX4_statementWith_19 : decode cX4_statementWith 19 = .ok (.ifCond .eq 5, 3) := by decide +kernel
theorem dX4_statementWith_22 : decode cX4_statementWith 22 = .ok (.iload_n 2, 1) := by decide +kernel
theorem dX4_statementWith_23 : decode cX4_statementWith 23 = .ok (.ireturn, 1) := by decide +kernel
theorem dX4_statementWith_24 : decode cX4_statementWith 24 = .ok (.iinc 2 1, 3) := by decide +kernel
theorem dX4_statementWith_27 : decode cX4_statementWith 27 = .ok (.goto (-25), 3) := by decide +kernel
theorem dX4_statementWith_30 : decode cX4_statementWith 30 = .ok (.iconst (-1), 1) := by decide +kernel
theorem dX4_statementWith_31 : decode cX4_statementWith 31 = .ok (.ireturn, 1) := by decide +kernel
theorem dX4_addStatement_0 : decode cX4_addStatement 0 = .ok (.aload_n 0, 1) := by decide +kernel
theorem dX4_addStatement_1 : decode cX4_addStatement 1 = .ok (.aload_n 0, 1) := by decide +kernel
theorem dX4_addStatement_2 : decode cX4_addStatement 2 = .ok (.getfield 93, 3) := by decide +kernel
theorem dX4_addStatement_5 : decode cX4_addStatement 5 = .ok (.invokevirtual 73, 3) := by decide +kernel
theorem dX4_addStatement_8 : decode cX4_addStatement 8 = .ok (.aload_n 1, 1) := by decide +kernel
theorem dX4_addStatement_9 : decode cX4_addStatement 9 = .ok (.invokevirtual 100, 3) := by decide +kernel
theorem dX4_addStatement_12 : decode cX4_addStatement 12 = .ok (.aload_n 0, 1) := by decide +kernel
theorem dX4_addStatement_13 : decode cX4_addStatement 13 = .ok (.dup, 1) := by decide +kernel
theorem dX4_addStatement_14 : decode cX4_addStatement 14 = .ok (.getfield 93, 3) := by decide +kernel
theorem dX4_addStatement_17 : decode cX4_addStatement 17 = .ok (.iconst 1, 1) := by decide +kernel
theorem dX4_addStatement_18 : decode cX4_addStatement 18 = .ok (.iadd, 1) := by decide +kernel
theorem dX4_addStatement_19 : decode cX4_addStatement 19 = .ok (.putfield 93, 3) := by decide +kernel
theorem dX4_addStatement_22 : decode cX4_addStatement 22 = .ok (.aload_n 0, 1) := by decide +kernel
theorem dX4_addStatement_23 : decode cX4_addStatement 23 = .ok (.getfield 93, 3) := by decide +kernel
theorem dX4_addStatement_26 : decode cX4_addStatement 26 = .ok (.iconst 1, 1) := by decide +kernel
theorem dX4_addStatement_27 : decode cX4_addStatement 27 = .ok (.isub, 1) := by decide +kernel
theorem dX4_addStatement_28 : decode cX4_addStatement 28 = .ok (.ireturn, 1) := by decide +kernel
theorem dX4_classWith_0 : decode cX4_classWith 0 = .ok (.iconst 0, 1) := by decide +kernel
theorem dX4_classWith_1 : decode cX4_classWith 1 = .ok (.istore_n 3, 1) := by decide +kernel
theorem dX4_classWith_2 : decode cX4_classWith 2 = .ok (.iconst 1, 1) := by decide +kernel
theorem dX4_classWith_3 : decode cX4_classWith 3 = .ok (.istore 4, 2) := by decide +kernel
theorem dX4_classWith_5 : decode cX4_classWith 5 = .ok (.iconst 0, 1) := by decide +kernel
theorem dX4_classWith_6 : decode cX4_classWith 6 = .ok (.istore 5, 2) := by decide +kernel
theorem dX4_classWith_8 : decode cX4_classWith 8 = .ok (.iload 5, 2) := by decide +kernel
theorem dX4_classWith_10 : decode cX4_classWith 10 = .ok (.aload_n 1, 1) := by decide +kernel
theorem dX4_classWith_11 : decode cX4_classWith 11 = .ok (.getfield 104, 3) := by decide +kernel
theorem dX4_classWith_14 : decode cX4_classWith 14 = .ok (.if_icmp .ge 80, 3) := by decide +kernel
theorem dX4_classWith_17 : decode cX4_classWith 17 = .ok (.aload_n 0, 1) := by decide +kernel
theorem dX4_classWith_18 : decode cX4_classWith 18 = .ok (.getfield 21, 3) := by decide +kernel
theorem dX4_classWith_21 : decode cX4_classWith 21 = .ok (.aload_n 1, 1) := by decide +kernel
theorem dX4_classWith_22 : decode cX4_classWith 22 = .ok (.iload 5, 2) := by decide +kernel
theorem dX4_classWith_24 : decode cX4_classWith 24 = .ok (.invokevirtual 77, 3) := by decide +kernel
theorem dX4_classWith_27 : decode cX4_classWith 27 = .ok (.aload_n 1, 1) := by decide +kernel
theorem dX4_classWith_28 : decode cX4_classWith 28 = .ok (.iload 5, 2) := by decide +kernel
theorem dX4_classWith_30 : decode cX4_classWith 30 = .ok (.invokevirtual 107, 3) := by decide +kernel
theorem dX4_classWith_33 : decode cX4_classWith 33 = .ok (.aload_n 2, 1) := by decide +kernel
theorem dX4_classWith_34 : decode cX4_classWith 34 = .ok (.iload 5, 2) := by decide +kernel
theorem dX4_classWith_36 : decode cX4_classWith 36 = .ok (.invokestatic 85, 3) := by decide +kernel
theorem dX4_classWith_39 : decode cX4_classWith 39 = .ok (.invokevirtual 110, 3) := by decide +kernel
theorem dX4_classWith_42 : decode cX4_classWith 42 = .ok (.istore 6, 2) := by decide +kernel
theorem dX4_classWith_44 : decode cX4_classWith 44 = .ok (.iload_n 3, 1) := by decide +kernel
theorem dX4_classWith_45 : decode cX4_classWith 45 = .ok (.iload 4, 2) := by decide +kernel
theorem dX4_classWith_47 : decode cX4_classWith 47 = .ok (.aload_n 0, 1) := by decide +kernel
theorem dX4_classWith_48 : decode cX4_classWith 48 = .ok (.aload_n 0, 1) := by decide +kernel
theorem dX4_classWith_49 : decode cX4_classWith 49 = .ok (.getfield 21, 3) := by decide +kernel
theorem dX4_classWith_52 : decode cX4_classWith 52 = .ok (.getfield 114, 3) := by decide +kernel
theorem dX4_classWith_55 : decode cX4_classWith 55 = .ok (.ifCond .ne 7, 3) := by decide +kernel
theorem dX4_classWith_58 : decode cX4_classWith 58 = .ok (.iconst 0, 1) := by decide +kernel
theorem dX4_classWith_59 : decode cX4_classWith 59 = .ok (.goto 17, 3) := by decide +kernel
theorem dX4_classWith_62 : decode cX4_classWith 62 = .ok (.sipush 1000, 3) := by decide +kernel
theorem dX4_classWith_65 : decode cX4_classWith 65 = .ok (.iload 6, 2) := by decide +kernel
theorem dX4_classWith_67 : decode cX4_classWith 67 = .ok (.imul, 1) := by decide +kernel
theorem dX4_classWith_68 : decode cX4_classWith 68 = .ok (.aload_n 0, 1) := by decide +kernel
theorem dX4_classWith_69 : decode cX4_classWith 69 = .ok (.getfield 21, 3) := by decide +kernel
theorem dX4_classWith_72 : decode cX4_classWith 72 = .ok (.getfield 114, 3) := by decide +kernel
theorem dX4_classWith_75 : decode cX4_classWith 75 = .ok (.idiv, 1) := by decide +kernel
theorem dX4_classWith_76 : decode cX4_classWith 76 = .ok (.invokevirtual 117, 3) := by decide +kernel
theorem dX4_classWith_79 : decode cX4_classWith 79 = .ok (.imul, 1) := by decide +kernel
theorem dX4_classWith_80 : decode cX4_classWith 80 = .ok (.iadd, 1) := by decide +kernel
theorem dX4_classWith_81 : decode cX4_classWith 81 = .ok (.istore_n 3, 1) := by decide +kernel
theorem dX4_classWith_82 : decode cX4_classWith 82 = .ok (.iload 4, 2) := by decide +kernel
theorem dX4_classWith_84 : decode cX4_classWith 84 = .ok (.iconst 3, 1) := by decide +kernel
theorem dX4_classWith_85 : decode cX4_classWith 85 = .ok (.imul, 1) := by decide +kernel
theorem dX4_classWith_86 : decode cX4_classWith 86 = .ok (.istore 4, 2) := by decide +kernel
theorem dX4_classWith_88 : decode cX4_classWith 88 = .ok (.iinc 5 1, 3) := by decide +kernel
theorem dX4_classWith_91 : decode cX4_classWith 91 = .ok (.goto (-83), 3) := by decide +kernel
theorem dX4_classWith_94 : decode cX4_classWith 94 = .ok (.iload_n 3, 1) := by decide +kernel
theorem dX4_classWith_95 : decode cX4_classWith 95 = .ok (.ireturn, 1) := by decide +kernel
theorem dX4_classOfShare_0 : decode cX4_classOfShare 0 = .ok (.iload_n 1, 1) := by decide +kernel
theorem dX4_classOfShare_1 : decode cX4_classOfShare 1 = .ok (.aload_n 0, 1) := by decide +kernel
theorem dX4_classOfShare_2 : decode cX4_classOfShare 2 = .ok (.getfield 50, 3) := by decide +kernel
theorem dX4_classOfShare_5 : decode cX4_classOfShare 5 = .ok (.iconst 0, 1) := by decide +kernel
theorem dX4_classOfShare_6 : decode cX4_classOfShare 6 = .ok (.invokestatic 85, 3) := by decide +kernel
theorem dX4_classOfShare_9 : decode cX4_classOfShare 9 = .ok (.if_icmp .ge 5, 3) := by decide +kernel
theorem dX4_classOfShare_12 : decode cX4_classOfShare 12 = .ok (.iconst 0, 1) := by decide +kernel
theorem dX4_classOfShare_13 : decode cX4_classOfShare 13 = .ok (.ireturn, 1) := by decide +kernel
theorem dX4_classOfShare_14 : decode cX4_classOfShare 14 = .ok (.iload_n 1, 1) := by decide +kernel
theorem dX4_classOfShare_15 : decode cX4_classOfShare 15 = .ok (.aload_n 0, 1) := by decide +kernel
theorem dX4_classOfShare_16 : decode cX4_classOfShare 16 = .ok (.getfield 50, 3) := by decide +kernel
theorem dX4_classOfShare_19 : decode cX4_classOfShare 19 = .ok (.iconst 1, 1) := by decide +kernel
theorem dX4_classOfShare_20 : decode cX4_classOfShare 20 = .ok (.invokestatic 85, 3) := by decide +kernel
theorem dX4_classOfShare_23 : decode cX4_classOfShare 23 = .ok (.if_icmp .ge 7, 3) := by decide +kernel
theorem dX4_classOfShare_26 : decode cX4_classOfShare 26 = .ok (.iconst 1, 1) := by decide +kernel
theorem dX4_classOfShare_27 : decode cX4_classOfShare 27 = .ok (.goto 4, 3) := by decide +kernel
theorem dX4_classOfShare_30 : decode cX4_classOfShare 30 = .ok (.iconst 2, 1) := by decide +kernel
theorem dX4_classOfShare_31 : decode cX4_classOfShare 31 = .ok (.ireturn, 1) := by decide +kernel
theorem dX4_bestWay_0 : decode cX4_bestWay 0 = .ok (.bipush 9, 2) := by decide +kernel
theorem dX4_bestWay_2 : decode cX4_bestWay 2 = .ok (.istore 4, 2) := by decide +kernel
theorem dX4_bestWay_4 : decode cX4_bestWay 4 = .ok (.iconst 0, 1) := by decide +kernel
theorem dX4_bestWay_5 : decode cX4_bestWay 5 = .ok (.istore 5, 2) := by decide +kernel
theorem dX4_bestWay_7 : decode cX4_bestWay 7 = .ok (.iconst 0, 1) := by decide +kernel
theorem dX4_bestWay_8 : decode cX4_bestWay 8 = .ok (.istore 6, 2) := by decide +kernel
theorem dX4_bestWay_10 : decode cX4_bestWay 10 = .ok (.iload 6, 2) := by decide +kernel
theorem dX4_bestWay_12 : decode cX4_bestWay 12 = .ok (.aload_n 2, 1) := by decide +kernel
theorem dX4_bestWay_13 : decode cX4_bestWay 13 = .ok (.getfield 104, 3) := by decide +kernel
theorem dX4_bestWay_16 : decode cX4_bestWay 16 = .ok (.if_icmp .ge 54, 3) := by decide +kernel
theorem dX4_bestWay_19 : decode cX4_bestWay 19 = .ok (.aload_n 0, 1) := by decide +kernel
theorem dX4_bestWay_20 : decode cX4_bestWay 20 = .ok (.aload_n 2, 1) := by decide +kernel
theorem dX4_bestWay_21 : decode cX4_bestWay 21 = .ok (.iload 6, 2) := by decide +kernel
theorem dX4_bestWay_23 : decode cX4_bestWay 23 = .ok (.invokevirtual 77, 3) := by decide +kernel
theorem dX4_bestWay_26 : decode cX4_bestWay 26 = .ok (.invokevirtual 120, 3) := by decide +kernel
theorem dX4_bestWay_29 : decode cX4_bestWay 29 = .ok (.ifCond .eq 35, 3) := by decide +kernel
theorem dX4_bestWay_32 : decode cX4_bestWay 32 = .ok (.aload_n 1, 1) := by decide +kernel
theorem dX4_bestWay_33 : decode cX4_bestWay 33 = .ok (.aload_n 2, 1) := by decide +kernel
theorem dX4_bestWay_34 : decode cX4_bestWay 34 = .ok (.aload_n 3, 1) := by decide +kernel
theorem dX4_bestWay_35 : decode cX4_bestWay 35 = .ok (.iload 6, 2) := by decide +kernel
theorem dX4_bestWay_37 : decode cX4_bestWay 37 = .ok (.invokestatic 124, 3) := by decide +kernel
theorem dX4_bestWay_40 : decode cX4_bestWay 40 = .ok (.istore 7, 2) := by decide +kernel
theorem dX4_bestWay_42 : decode cX4_bestWay 42 = .ok (.iload 4, 2) := by decide +kernel
theorem dX4_bestWay_44 : decode cX4_bestWay 44 = .ok (.bipush 9, 2) := by decide +kernel
theorem dX4_bestWay_46 : decode cX4_bestWay 46 = .ok (.if_icmp .eq 10, 3) := by decide +kernel
theorem dX4_bestWay_49 : decode cX4_bestWay 49 = .ok (.iload 7, 2) := by decide +kernel
theorem dX4_bestWay_51 : decode cX4_bestWay 51 = .ok (.iload 5, 2) := by decide +kernel
theorem dX4_bestWay_53 : decode cX4_bestWay 53 = .ok (.if_icmp .ge 11, 3) := by decide +kernel
theorem dX4_bestWay_56 : decode cX4_bestWay 56 = .ok (.iload 6, 2) := by decide +kernel
theorem dX4_bestWay_58 : decode cX4_bestWay 58 = .ok (.istore 4, 2) := by decide +kernel
theorem dX4_bestWay_60 : decode cX4_bestWay 60 = .ok (.iload 7, 2) := by decide +kernel
theorem dX4_bestWay_62 : decode cX4_bestWay 62 = .ok (.istore 5, 2) := by decide +kernel
theorem dX4_bestWay_64 : decode cX4_bestWay 64 = .ok (.iinc 6 1, 3) := by decide +kernel
theorem dX4_bestWay_67 : decode cX4_bestWay 67 = .ok (.goto (-57), 3) := by decide +kernel
theorem dX4_bestWay_70 : decode cX4_bestWay 70 = .ok (.aload_n 1, 1) := by decide +kernel
theorem dX4_bestWay_71 : decode cX4_bestWay 71 = .ok (.getfield 114, 3) := by decide +kernel
theorem dX4_bestWay_74 : decode cX4_bestWay 74 = .ok (.iload 5, 2) := by decide +kernel
theorem dX4_bestWay_76 : decode cX4_bestWay 76 = .ok (.if_icmp .ge 8, 3) := by decide +kernel
theorem dX4_bestWay_79 : decode cX4_bestWay 79 = .ok (.bipush 9, 2) := by decide +kernel
theorem dX4_bestWay_81 : decode cX4_bestWay 81 = .ok (.goto 5, 3) := by decide +kernel
theorem dX4_bestWay_84 : decode cX4_bestWay 84 = .ok (.iload 4, 2) := by decide +kernel
theorem dX4_bestWay_86 : decode cX4_bestWay 86 = .ok (.ireturn, 1) := by decide +kernel
theorem dX4_execute_0 : decode cX4_execute 0 = .ok (.aload_n 0, 1) := by decide +kernel
theorem dX4_execute_1 : decode cX4_execute 1 = .ok (.iload_n 1, 1) := by decide +kernel
theorem dX4_execute_2 : decode cX4_execute 2 = .ok (.invokevirtual 73, 3) := by decide +kernel
theorem dX4_execute_5 : decode cX4_execute 5 = .ok (.astore_n 3, 1) := by decide +kernel
theorem dX4_execute_6 : decode cX4_execute 6 = .ok (.aload_n 0, 1) := by decide +kernel
theorem dX4_execute_7 : decode cX4_execute 7 = .ok (.dup, 1) := by decide +kernel
theorem dX4_execute_8 : decode cX4_execute 8 = .ok (.getfield 128, 3) := by decide +kernel
theorem dX4_execute_11 : decode cX4_execute 11 = .ok (.iconst 1, 1) := by decide +kernel
theorem dX4_execute_12 : decode cX4_execute 12 = .ok (.iadd, 1) := by decide +kernel
theorem dX4_execute_13 : decode cX4_execute 13 = .ok (.putfield 128, 3) := by decide +kernel
theorem dX4_execute_16 : decode cX4_execute 16 = .ok (.aload_n 3, 1) := by decide +kernel
theorem dX4_execute_17 : decode cX4_execute 17 = .ok (.dup, 1) := by decide +kernel
theorem dX4_execute_18 : decode cX4_execute 18 = .ok (.getfield 131, 3) := by decide +kernel
theorem dX4_execute_21 : decode cX4_execute 21 = .ok (.iconst 1, 1) := by decide +kernel
theorem dX4_execute_22 : decode cX4_execute 22 = .ok (.iadd, 1) := by decide +kernel
theorem dX4_execute_23 : decode cX4_execute 23 = .ok (.putfield 131, 3) := by decide +kernel
theorem dX4_execute_26 : decode cX4_execute 26 = .ok (.aload_n 0, 1) := by decide +kernel
theorem dX4_execute_27 : decode cX4_execute 27 = .ok (.getfield 46, 3) := by decide +kernel
theorem dX4_execute_30 : decode cX4_execute 30 = .ok (.iload_n 1, 1) := by decide +kernel
theorem dX4_execute_31 : decode cX4_execute 31 = .ok (.aload_n 2, 1) := by decide +kernel
theorem dX4_execute_32 : decode cX4_execute 32 = .ok (.aload_n 0, 1) := by decide +kernel
theorem dX4_execute_33 : decode cX4_execute 33 = .ok (.aload_n 3, 1) := by decide +kernel
theorem dX4_execute_34 : decode cX4_execute 34 = .ok (.aload_n 2, 1) := by decide +kernel
theorem dX4_execute_35 : decode cX4_execute 35 = .ok (.invokevirtual 132, 3) := by decide +kernel
theorem dX4_execute_38 : decode cX4_execute 38 = .ok (.invokevirtual 136, 3) := by decide +kernel
theorem dX4_execute_41 : decode cX4_execute 41 = .ok (.aload_n 0, 1) := by decide +kernel
theorem dX4_execute_42 : decode cX4_execute 42 = .ok (.aload_n 0, 1) := by decide +kernel
theorem dX4_execute_43 : decode cX4_execute 43 = .ok (.aload_n 3, 1) := by decide +kernel
theorem dX4_execute_44 : decode cX4_execute 44 = .ok (.aload_n 2, 1) := by decide +kernel
theorem dX4_execute_45 : decode cX4_execute 45 = .ok (.invokevirtual 140, 3) := by decide +kernel
theorem dX4_execute_48 : decode cX4_execute 48 = .ok (.aload_n 3, 1) := by decide +kernel
theorem dX4_execute_49 : decode cX4_execute 49 = .ok (.aload_n 2, 1) := by decide +kernel
theorem dX4_execute_50 : decode cX4_execute 50 = .ok (.invokevirtual 144, 3) := by decide +kernel
theorem dX4_execute_53 : decode cX4_execute 53 = .ok (.aload_n 0, 1) := by decide +kernel
theorem dX4_execute_54 : decode cX4_execute 54 = .ok (.getfield 12, 3) := by decide +kernel
theorem dX4_execute_57 : decode cX4_execute 57 = .ok (.aload_n 3, 1) := by decide +kernel
theorem dX4_execute_58 : decode cX4_execute 58 = .ok (.aload_n 2, 1) := by decide +kernel
theorem dX4_execute_59 : decode cX4_execute 59 = .ok (.invokevirtual 148, 3) := by decide +kernel
theorem dX4_execute_62 : decode cX4_execute 62 = .ok (.ireturn, 1) := by decide +kernel
theorem dX4_planForLastRun_0 : decode cX4_planForLastRun 0 = .ok (.aload_n 0, 1) := by decide +kernel
theorem dX4_planForLastRun_1 : decode cX4_planForLastRun 1 = .ok (.getfield 39, 3) := by decide +kernel
theorem dX4_planForLastRun_4 : decode cX4_planForLastRun 4 = .ok (.aload_n 0, 1) := by decide +kernel
theorem dX4_planForLastRun_5 : decode cX4_planForLastRun 5 = .ok (.getfield 46, 3) := by decide +kernel
theorem dX4_planForLastRun_8 : decode cX4_planForLastRun 8 = .ok (.getfield 150, 3) := by decide +kernel
theorem dX4_planForLastRun_11 : decode cX4_planForLastRun 11 = .ok (.aload_n 0, 1) := by decide +kernel
theorem dX4_planForLastRun_12 : decode cX4_planForLastRun 12 = .ok (.getfield 46, 3) := by decide +kernel
theorem dX4_planForLastRun_15 : decode cX4_planForLastRun 15 = .ok (.getfield 151, 3) := by decide +kernel
theorem dX4_planForLastRun_18 : decode cX4_planForLastRun 18 = .ok (.invokevirtual 154, 3) := by decide +kernel
theorem dX4_planForLastRun_21 : decode cX4_planForLastRun 21 = .ok (.istore_n 3, 1) := by decide +kernel
theorem dX4_planForLastRun_22 : decode cX4_planForLastRun 22 = .ok (.iload_n 3, 1) := by decide +kernel
theorem dX4_planForLastRun_23 : decode cX4_planForLastRun 23 = .ok (.iconst (-1), 1) := by decide +kernel
theorem dX4_planForLastRun_24 : decode cX4_planForLastRun 24 = .ok (.if_icmp .eq 30, 3) := by decide +kernel
theorem dX4_planForLastRun_27 : decode cX4_planForLastRun 27 = .ok (.aload_n 0, 1) := by decide +kernel
theorem dX4_planForLastRun_28 : decode cX4_planForLastRun 28 = .ok (.dup, 1) := by decide +kernel
theorem dX4_planForLastRun_29 : decode cX4_planForLastRun 29 = .ok (.getfield 158, 3) := by decide +kernel
theorem dX4_planForLastRun_32 : decode cX4_planForLastRun 32 = .ok (.iconst 1, 1) := by decide +kernel
theorem dX4_planForLastRun_33 : decode cX4_planForLastRun 33 = .ok (.iadd, 1) := by decide +kernel
theorem dX4_planForLastRun_34 : decode cX4_planForLastRun 34 = .ok (.putfield 158, 3) := by decide +kernel
theorem dX4_planForLastRun_37 : decode cX4_planForLastRun 37 = .ok (.aload_n 0, 1) := by decide +kernel
theorem dX4_planForLastRun_38 : decode cX4_planForLastRun 38 = .ok (.getfield 46, 3) := by decide +kernel
theorem dX4_planForLastRun_41 : decode cX4_planForLastRun 41 = .ok (.iconst 0, 1) := by decide +kernel
theorem dX4_planForLastRun_42 : decode cX4_planForLastRun 42 = .ok (.putfield 161, 3) := by decide +kernel
theorem dX4_planForLastRun_45 : decode cX4_planForLastRun 45 = .ok (.aload_n 0, 1) := by decide +kernel
theorem dX4_planForLastRun_46 : decode cX4_planForLastRun 46 = .ok (.getfield 39, 3) := by decide +kernel
theorem dX4_planForLastRun_49 : decode cX4_planForLastRun 49 = .ok (.iload_n 3, 1) := by decide +kernel
theorem dX4_planForLastRun_50 : decode cX4_planForLastRun 50 = .ok (.invokevirtual 61, 3) := by decide +kernel
theorem dX4_planForLastRun_53 : decode cX4_planForLastRun 53 = .ok (.areturn, 1) := by decide +kernel
theorem dX4_planForLastRun_54 : decode cX4_planForLastRun 54 = .ok (.aload_n 0, 1) := by decide +kernel
theorem dX4_planForLastRun_55 : decode cX4_planForLastRun 55 = .ok (.getfield 50, 3) := by decide +kernel
theorem dX4_planForLastRun_58 : decode cX4_planForLastRun 58 = .ok (.iconst 4, 1) := by decide +kernel
theorem dX4_planForLastRun_59 : decode cX4_planForLastRun 59 = .ok (.invokestatic 85, 3) := by decide +kernel
theorem dX4_planForLastRun_62 : decode cX4_planForLastRun 62 = .ok (.istore 4, 2) := by decide +kernel
theorem dX4_planForLastRun_64 : decode cX4_planForLastRun 64 = .ok (.aload_n 0, 1) := by decide +kernel
theorem dX4_planForLastRun_65 : decode cX4_planForLastRun 65 = .ok (.getfield 46, 3) := by decide +kernel
theorem dX4_planForLastRun_68 : decode cX4_planForLastRun 68 = .ok (.aload_n 0, 1) := by decide +kernel
theorem dX4_planForLastRun_69 : decode cX4_planForLastRun 69 = .ok (.getfield 39, 3) := by decide +kernel
theorem dX4_planForLastRun_72 : decode cX4_planForLastRun 72 = .ok (.iload 4, 2) := by decide +kernel
theorem dX4_planForLastRun_74 : decode cX4_planForLastRun 74 = .ok (.invokevirtual 164, 3) := by decide +kernel
theorem dX4_planForLastRun_77 : decode cX4_planForLastRun 77 = .ok (.putfield 167, 3) := by decide +kernel
theorem dX4_planForLastRun_80 : decode cX4_planForLastRun 80 = .ok (.aload_n 0, 1) := by decide +kernel
theorem dX4_planForLastRun_81 : decode cX4_planForLastRun 81 = .ok (.getfield 39, 3) := by decide +kernel
theorem dX4_planForLastRun_84 : decode cX4_planForLastRun 84 = .ok (.aload_n 0, 1) := by decide +kernel
theorem dX4_planForLastRun_85 : decode cX4_planForLastRun 85 = .ok (.getfield 46, 3) := by decide +kernel
theorem dX4_planForLastRun_88 : decode cX4_planForLastRun 88 = .ok (.getfield 150, 3) := by decide +kernel
theorem dX4_planForLastRun_91 : decode cX4_planForLastRun 91 = .ok (.aload_n 0, 1) := by decide +kernel
theorem dX4_planForLastRun_92 : decode cX4_planForLastRun 92 = .ok (.getfield 46, 3) := by decide +kernel
theorem dX4_planForLastRun_95 : decode cX4_planForLastRun 95 = .ok (.getfield 151, 3) := by decide +kernel
theorem dX4_planForLastRun_98 : decode cX4_planForLastRun 98 = .ok (.iload 4, 2) := by decide +kernel
theorem dX4_planForLastRun_100 : decode cX4_planForLastRun 100 = .ok (.invokevirtual 170, 3) := by decide +kernel
theorem dX4_planForLastRun_103 : decode cX4_planForLastRun 103 = .ok (.astore 5, 2) := by decide +kernel
theorem dX4_planForLastRun_105 : decode cX4_planForLastRun 105 = .ok (.aload 5, 2) := by decide +kernel
theorem dX4_planForLastRun_107 : decode cX4_planForLastRun 107 = .ok (.aload_n 0, 1) := by decide +kernel
theorem dX4_planForLastRun_108 : decode cX4_planForLastRun 108 = .ok (.aload_n 0, 1) := by decide +kernel
theorem dX4_planForLastRun_109 : decode cX4_planForLastRun 109 = .ok (.getfield 21, 3) := by decide +kernel
theorem dX4_planForLastRun_112 : decode cX4_planForLastRun 112 = .ok (.aload_n 1, 1) := by decide +kernel
theorem dX4_planForLastRun_113 : decode cX4_planForLastRun 113 = .ok (.aload_n 2, 1) := by decide +kernel
theorem dX4_planForLastRun_114 : decode cX4_planForLastRun 114 = .ok (.invokevirtual 174, 3) := by decide +kernel
theorem dX4_planForLastRun_117 : decode cX4_planForLastRun 117 = .ok (.putfield 65, 3) := by decide +kernel
theorem dX4_planForLastRun_120 : decode cX4_planForLastRun 120 = .ok (.aload 5, 2) := by decide +kernel
theorem dX4_planForLastRun_122 : decode cX4_planForLastRun 122 = .ok (.aload_n 0, 1) := by decide +kernel
theorem dX4_planForLastRun_123 : decode cX4_planForLastRun 123 = .ok (.getfield 21, 3) := by decide +kernel
theorem dX4_planForLastRun_126 : decode cX4_planForLastRun 126 = .ok (.aload_n 1, 1) := by decide +kernel
theorem dX4_planForLastRun_127 : decode cX4_planForLastRun 127 = .ok (.aload_n 2, 1) := by decide +kernel
theorem dX4_planForLastRun_128 : decode cX4_planForLastRun 128 = .ok (.aload 5, 2) := by decide +kernel
theorem dX4_planForLastRun_130 : decode cX4_planForLastRun 130 = .ok (.getfield 65, 3) := by decide +kernel
theorem dX4_planForLastRun_133 : decode cX4_planForLastRun 133 = .ok (.invokestatic 124, 3) := by decide +kernel
theorem dX4_planForLastRun_136 : decode cX4_planForLastRun 136 = .ok (.putfield 178, 3) := by decide +kernel
theorem dX4_planForLastRun_139 : decode cX4_planForLastRun 139 = .ok (.aload_n 0, 1) := by decide +kernel
theorem dX4_planForLastRun_140 : decode cX4_planForLastRun 140 = .ok (.getfield 46, 3) := by decide +kernel
theorem dX4_planForLastRun_143 : decode cX4_planForLastRun 143 = .ok (.aload 5, 2) := by decide +kernel
theorem dX4_planForLastRun_145 : decode cX4_planForLastRun 145 = .ok (.getfield 181, 3) := by decide +kernel
theorem dX4_planForLastRun_148 : decode cX4_planForLastRun 148 = .ok (.bipush (-4), 2) := by decide +kernel
theorem dX4_planForLastRun_150 : decode cX4_planForLastRun 150 = .ok (.if_icmp .ne 7, 3) := by decide +kernel
theorem dX4_planForLastRun_153 : decode cX4_planForLastRun 153 = .ok (.iconst 2, 1) := by decide +kernel
theorem dX4_planForLastRun_154 : decode cX4_planForLastRun 154 = .ok (.goto 4, 3) := by decide +kernel
theorem dX4_planForLastRun_157 : decode cX4_planForLastRun 157 = .ok (.iconst 1, 1) := by decide +kernel
theorem dX4_planForLastRun_158 : decode cX4_planForLastRun 158 = .ok (.putfield 161, 3) := by decide +kernel
theorem dX4_planForLastRun_161 : decode cX4_planForLastRun 161 = .ok (.aload 5, 2) := by decide +kernel
theorem dX4_planForLastRun_163 : decode cX4_planForLastRun 163 = .ok (.areturn, 1) := by decide +kernel
theorem dX4_use_0 : decode cX4_use 0 = .ok (.aload_n 1, 1) := by decide +kernel
theorem dX4_use_1 : decode cX4_use 1 = .ok (.dup, 1) := by decide +kernel
theorem dX4_use_2 : decode cX4_use 2 = .ok (.getfield 184, 3) := by decide +kernel
theorem dX4_use_5 : decode cX4_use 5 = .ok (.iconst 1, 1) := by decide +kernel
theorem dX4_use_6 : decode cX4_use 6 = .ok (.iadd, 1) := by decide +kernel
theorem dX4_use_7 : decode cX4_use 7 = .ok (.putfield 184, 3) := by decide +kernel
theorem dX4_use_10 : decode cX4_use 10 = .ok (.aload_n 1, 1) := by decide +kernel
theorem dX4_use_11 : decode cX4_use 11 = .ok (.aload_n 0, 1) := by decide +kernel
theorem dX4_use_12 : decode cX4_use 12 = .ok (.getfield 128, 3) := by decide +kernel
theorem dX4_use_15 : decode cX4_use 15 = .ok (.putfield 187, 3) := by decide +kernel
theorem dX4_use_18 : decode cX4_use 18 = .ok (.aload_n 0, 1) := by decide +kernel
theorem dX4_use_19 : decode cX4_use 19 = .ok (.getfield 46, 3) := by decide +kernel
theorem dX4_use_22 : decode cX4_use 22 = .ok (.aload_n 1, 1) := by decide +kernel
theorem dX4_use_23 : decode cX4_use 23 = .ok (.getfield 181, 3) := by decide +kernel
theorem dX4_use_26 : decode cX4_use 26 = .ok (.putfield 190, 3) := by decide +kernel
theorem dX4_use_29 : decode cX4_use 29 = .ok (.aload_n 0, 1) := by decide +kernel
theorem dX4_use_30 : decode cX4_use 30 = .ok (.getfield 46, 3) := by decide +kernel
theorem dX4_use_33 : decode cX4_use 33 = .ok (.aload_n 1, 1) := by decide +kernel
theorem dX4_use_34 : decode cX4_use 34 = .ok (.getfield 65, 3) := by decide +kernel
theorem dX4_use_37 : decode cX4_use 37 = .ok (.putfield 193, 3) := by decide +kernel
theorem dX4_use_40 : decode cX4_use 40 = .ok (.aload_n 0, 1) := by decide +kernel
theorem dX4_use_41 : decode cX4_use 41 = .ok (.getfield 46, 3) := by decide +kernel
theorem dX4_use_44 : decode cX4_use 44 = .ok (.aload_n 1, 1) := by decide +kernel
theorem dX4_use_45 : decode cX4_use 45 = .ok (.getfield 178, 3) := by decide +kernel
theorem dX4_use_48 : decode cX4_use 48 = .ok (.putfield 194, 3) := by decide +kernel
theorem dX4_use_51 : decode cX4_use 51 = .ok (.aload_n 0, 1) := by decide +kernel
theorem dX4_use_52 : decode cX4_use 52 = .ok (.getfield 46, 3) := by decide +kernel
theorem dX4_use_55 : decode cX4_use 55 = .ok (.aload_n 0, 1) := by decide +kernel
theorem dX4_use_56 : decode cX4_use 56 = .ok (.getfield 12, 3) := by decide +kernel
theorem dX4_use_59 : decode cX4_use 59 = .ok (.getfield 195, 3) := by decide +kernel
theorem dX4_use_62 : decode cX4_use 62 = .ok (.aload_n 2, 1) := by decide +kernel
theorem dX4_use_63 : decode cX4_use 63 = .ok (.aload_n 3, 1) := by decide +kernel
theorem dX4_use_64 : decode cX4_use 64 = .ok (.aload_n 1, 1) := by decide +kernel
theorem dX4_use_65 : decode cX4_use 65 = .ok (.getfield 65, 3) := by decide +kernel
theorem dX4_use_68 : decode cX4_use 68 = .ok (.invokestatic 124, 3) := by decide +kernel
theorem dX4_use_71 : decode cX4_use 71 = .ok (.putfield 198, 3) := by decide +kernel
theorem dX4_use_74 : decode cX4_use 74 = .ok (.aload_n 0, 1) := by decide +kernel
theorem dX4_use_75 : decode cX4_use 75 = .ok (.getfield 46, 3) := by decide +kernel
theorem dX4_use_78 : decode cX4_use 78 = .ok (.aload_n 0, 1) := by decide +kernel
theorem dX4_use_79 : decode cX4_use 79 = .ok (.getfield 46, 3) := by decide +kernel
theorem dX4_use_82 : decode cX4_use 82 = .ok (.getfield 198, 3) := by decide +kernel
theorem dX4_use_85 : decode cX4_use 85 = .ok (.aload_n 0, 1) := by decide +kernel
theorem dX4_use_86 : decode cX4_use 86 = .ok (.getfield 50, 3) := by decide +kernel
theorem dX4_use_89 : decode cX4_use 89 = .ok (.iconst 2, 1) := by decide +kernel
theorem dX4_use_90 : decode cX4_use 90 = .ok (.invokestatic 85, 3) := by decide +kernel
theorem dX4_use_93 : decode cX4_use 93 = .ok (.aload_n 1, 1) := by decide +kernel
theorem dX4_use_94 : decode cX4_use 94 = .ok (.getfield 178, 3) := by decide +kernel
theorem dX4_use_97 : decode cX4_use 97 = .ok (.imul, 1) := by decide +kernel
theorem dX4_use_98 : decode cX4_use 98 = .ok (.if_icmp .le 7, 3) := by decide +kernel
theorem dX4_use_101 : decode cX4_use 101 = .ok (.iconst 1, 1) := by decide +kernel
theorem dX4_use_102 : decode cX4_use 102 = .ok (.goto 4, 3) := by decide +kernel
theorem dX4_use_105 : decode cX4_use 105 = .ok (.iconst 0, 1) := by decide +kernel
theorem dX4_use_106 : decode cX4_use 106 = .ok (.putfield 200, 3) := by decide +kernel
theorem dX4_use_109 : decode cX4_use 109 = .ok (.aload_n 0, 1) := by decide +kernel
theorem dX4_use_110 : decode cX4_use 110 = .ok (.getfield 46, 3) := by decide +kernel
theorem dX4_use_113 : decode cX4_use 113 = .ok (.getfield 200, 3) := by decide +kernel
theorem dX4_use_116 : decode cX4_use 116 = .ok (.ifCond .eq 8, 3) := by decide +kernel
theorem dX4_use_119 : decode cX4_use 119 = .ok (.aload_n 0, 1) := by decide +kernel
theorem dX4_use_120 : decode cX4_use 120 = .ok (.aload_n 1, 1) := by decide +kernel
theorem dX4_use_121 : decode cX4_use 121 = .ok (.invokevirtual 204, 3) := by decide +kernel
theorem dX4_use_124 : decode cX4_use 124 = .ok (.return_, 1) := by decide +kernel
theorem dX4_surprise_0 : decode cX4_surprise 0 = .ok (.aload_n 0, 1) := by decide +kernel
theorem dX4_surprise_1 : decode cX4_surprise 1 = .ok (.dup, 1) := by decide +kernel
theorem dX4_surprise_2 : decode cX4_surprise 2 = .ok (.getfield 207, 3) := by decide +kernel
theorem dX4_surprise_5 : decode cX4_surprise 5 = .ok (.iconst 1, 1) := by decide +kernel
theorem dX4_surprise_6 : decode cX4_surprise 6 = .ok (.iadd, 1) := by decide +kernel
theorem dX4_surprise_7 : decode cX4_surprise 7 = .ok (.putfield 207, 3) := by decide +kernel
theorem dX4_surprise_10 : decode cX4_surprise 10 = .ok (.aload_n 1, 1) := by decide +kernel
theorem dX4_surprise_11 : decode cX4_surprise 11 = .ok (.dup, 1) := by decide +kernel
theorem dX4_surprise_12 : decode cX4_surprise 12 = .ok (.getfield 210, 3) := by decide +kernel
theorem dX4_surprise_15 : decode cX4_surprise 15 = .ok (.iconst 1, 1) := by decide +kernel
theorem dX4_surprise_16 : decode cX4_surprise 16 = .ok (.iadd, 1) := by decide +kernel
theorem dX4_surprise_17 : decode cX4_surprise 17 = .ok (.putfield 210, 3) := by decide +kernel
theorem dX4_surprise_20 : decode cX4_surprise 20 = .ok (.aload_n 1, 1) := by decide +kernel
theorem dX4_surprise_21 : decode cX4_surprise 21 = .ok (.getfield 210, 3) := by decide +kernel
theorem dX4_surprise_24 : decode cX4_surprise 24 = .ok (.aload_n 0, 1) := by decide +kernel
theorem dX4_surprise_25 : decode cX4_surprise 25 = .ok (.getfield 50, 3) := by decide +kernel
theorem dX4_surprise_28 : decode cX4_surprise 28 = .ok (.iconst 3, 1) := by decide +kernel
theorem dX4_surprise_29 : decode cX4_surprise 29 = .ok (.invokestatic 85, 3) := by decide +kernel
theorem dX4_surprise_32 : decode cX4_surprise 32 = .ok (.if_icmp .lt 21, 3) := by decide +kernel
theorem dX4_surprise_35 : decode cX4_surprise 35 = .ok (.aload_n 0, 1) := by decide +kernel
theorem dX4_surprise_36 : decode cX4_surprise 36 = .ok (.getfield 39, 3) := by decide +kernel
theorem dX4_surprise_39 : decode cX4_surprise 39 = .ok (.aload_n 0, 1) := by decide +kernel
theorem dX4_surprise_40 : decode cX4_surprise 40 = .ok (.getfield 39, 3) := by decide +kernel
theorem dX4_surprise_43 : decode cX4_surprise 43 = .ok (.aload_n 1, 1) := by decide +kernel
theorem dX4_surprise_44 : decode cX4_surprise 44 = .ok (.getfield 181, 3) := by decide +kernel
theorem dX4_surprise_47 : decode cX4_surprise 47 = .ok (.invokevirtual 211, 3) := by decide +kernel
theorem dX4_surprise_50 : decode cX4_surprise 50 = .ok (.invokevirtual 81, 3) := by decide +kernel
theorem dX4_surprise_53 : decode cX4_surprise 53 = .ok (.return_, 1) := by decide +kernel
theorem dX4_takeFrom_0 : decode cX4_takeFrom 0 = .ok (.aload_n 0, 1) := by decide +kernel
theorem dX4_takeFrom_1 : decode cX4_takeFrom 1 = .ok (.getfield 12, 3) := by decide +kernel
theorem dX4_takeFrom_4 : decode cX4_takeFrom 4 = .ok (.aload_n 1, 1) := by decide +kernel
theorem dX4_takeFrom_5 : decode cX4_takeFrom 5 = .ok (.getfield 12, 3) := by decide +kernel
theorem dX4_takeFrom_8 : decode cX4_takeFrom 8 = .ok (.invokevirtual 214, 3) := by decide +kernel
theorem dX4_takeFrom_11 : decode cX4_takeFrom 11 = .ok (.aload_n 0, 1) := by decide +kernel
theorem dX4_takeFrom_12 : decode cX4_takeFrom 12 = .ok (.getfield 21, 3) := by decide +kernel
theorem dX4_takeFrom_15 : decode cX4_takeFrom 15 = .ok (.aload_n 1, 1) := by decide +kernel
theorem dX4_takeFrom_16 : decode cX4_takeFrom 16 = .ok (.getfield 21, 3) := by decide +kernel
theorem dX4_takeFrom_19 : decode cX4_takeFrom 19 = .ok (.invokevirtual 218, 3) := by decide +kernel
theorem dX4_takeFrom_22 : decode cX4_takeFrom 22 = .ok (.iconst 0, 1) := by decide +kernel
theorem dX4_takeFrom_23 : decode cX4_takeFrom 23 = .ok (.istore_n 2, 1) := by decide +kernel
theorem dX4_takeFrom_24 : decode cX4_takeFrom 24 = .ok (.iload_n 2, 1) := by decide +kernel
theorem dX4_takeFrom_25 : decode cX4_takeFrom 25 = .ok (.aload_n 0, 1) := by decide +kernel
theorem dX4_takeFrom_26 : decode cX4_takeFrom 26 = .ok (.getfield 27, 3) := by decide +kernel
theorem dX4_takeFrom_29 : decode cX4_takeFrom 29 = .ok (.arraylength, 1) := by decide +kernel
theorem dX4_takeFrom_30 : decode cX4_takeFrom 30 = .ok (.if_icmp .ge 22, 3) := by decide +kernel
theorem dX4_takeFrom_33 : decode cX4_takeFrom 33 = .ok (.aload_n 0, 1) := by decide +kernel
theorem dX4_takeFrom_34 : decode cX4_takeFrom 34 = .ok (.iload_n 2, 1) := by decide +kernel
theorem dX4_takeFrom_35 : decode cX4_takeFrom 35 = .ok (.invokevirtual 73, 3) := by decide +kernel
theorem dX4_takeFrom_38 : decode cX4_takeFrom 38 = .ok (.aload_n 1, 1) := by decide +kernel
theorem dX4_takeFrom_39 : decode cX4_takeFrom 39 = .ok (.iload_n 2, 1) := by decide +kernel
theorem dX4_takeFrom_40 : decode cX4_takeFrom 40 = .ok (.invokevirtual 73, 3) := by decide +kernel
theorem dX4_takeFrom_43 : decode cX4_takeFrom 43 = .ok (.invokevirtual 221, 3) := by decide +kernel
theorem dX4_takeFrom_46 : decode cX4_takeFrom 46 = .ok (.iinc 2 1, 3) := by decide +kernel
theorem dX4_takeFrom_49 : decode cX4_takeFrom 49 = .ok (.goto (-25), 3) := by decide +kernel
theorem dX4_takeFrom_52 : decode cX4_takeFrom 52 = .ok (.aload_n 0, 1) := by decide +kernel
theorem dX4_takeFrom_53 : decode cX4_takeFrom 53 = .ok (.getfield 39, 3) := by decide +kernel
theorem dX4_takeFrom_56 : decode cX4_takeFrom 56 = .ok (.aload_n 1, 1) := by decide +kernel
theorem dX4_takeFrom_57 : decode cX4_takeFrom 57 = .ok (.getfield 39, 3) := by decide +kernel
theorem dX4_takeFrom_60 : decode cX4_takeFrom 60 = .ok (.invokevirtual 224, 3) := by decide +kernel
theorem dX4_takeFrom_63 : decode cX4_takeFrom 63 = .ok (.aload_n 0, 1) := by decide +kernel
theorem dX4_takeFrom_64 : decode cX4_takeFrom 64 = .ok (.getfield 46, 3) := by decide +kernel
theorem dX4_takeFrom_67 : decode cX4_takeFrom 67 = .ok (.aload_n 1, 1) := by decide +kernel
theorem dX4_takeFrom_68 : decode cX4_takeFrom 68 = .ok (.getfield 46, 3) := by decide +kernel
theorem dX4_takeFrom_71 : decode cX4_takeFrom 71 = .ok (.invokevirtual 227, 3) := by decide +kernel
theorem dX4_takeFrom_74 : decode cX4_takeFrom 74 = .ok (.aload_n 1, 1) := by decide +kernel
theorem dX4_takeFrom_75 : decode cX4_takeFrom 75 = .ok (.getfield 50, 3) := by decide +kernel
theorem dX4_takeFrom_78 : decode cX4_takeFrom 78 = .ok (.aload_n 0, 1) := by decide +kernel
theorem dX4_takeFrom_79 : decode cX4_takeFrom 79 = .ok (.getfield 50, 3) := by decide +kernel
theorem dX4_takeFrom_82 : decode cX4_takeFrom 82 = .ok (.invokestatic 230, 3) := by decide +kernel
theorem dX4_takeFrom_85 : decode cX4_takeFrom 85 = .ok (.aload_n 0, 1) := by decide +kernel
theorem dX4_takeFrom_86 : decode cX4_takeFrom 86 = .ok (.aload_n 1, 1) := by decide +kernel
theorem dX4_takeFrom_87 : decode cX4_takeFrom 87 = .ok (.getfield 54, 3) := by decide +kernel
theorem dX4_takeFrom_90 : decode cX4_takeFrom 90 = .ok (.putfield 54, 3) := by decide +kernel
theorem dX4_takeFrom_93 : decode cX4_takeFrom 93 = .ok (.aload_n 0, 1) := by decide +kernel
theorem dX4_takeFrom_94 : decode cX4_takeFrom 94 = .ok (.aload_n 1, 1) := by decide +kernel
theorem dX4_takeFrom_95 : decode cX4_takeFrom 95 = .ok (.getfield 93, 3) := by decide +kernel
theorem dX4_takeFrom_98 : decode cX4_takeFrom 98 = .ok (.putfield 93, 3) := by decide +kernel
theorem dX4_takeFrom_101 : decode cX4_takeFrom 101 = .ok (.aload_n 0, 1) := by decide +kernel
theorem dX4_takeFrom_102 : decode cX4_takeFrom 102 = .ok (.aload_n 1, 1) := by decide +kernel
theorem dX4_takeFrom_103 : decode cX4_takeFrom 103 = .ok (.getfield 128, 3) := by decide +kernel
theorem dX4_takeFrom_106 : decode cX4_takeFrom 106 = .ok (.putfield 128, 3) := by decide +kernel
theorem dX4_takeFrom_109 : decode cX4_takeFrom 109 = .ok (.aload_n 0, 1) := by decide +kernel
theorem dX4_takeFrom_110 : decode cX4_takeFrom 110 = .ok (.aload_n 1, 1) := by decide +kernel
theorem dX4_takeFrom_111 : decode cX4_takeFrom 111 = .ok (.getfield 158, 3) := by decide +kernel
theorem dX4_takeFrom_114 : decode cX4_takeFrom 114 = .ok (.putfield 158, 3) := by decide +kernel
theorem dX4_takeFrom_117 : decode cX4_takeFrom 117 = .ok (.aload_n 0, 1) := by decide +kernel
theorem dX4_takeFrom_118 : decode cX4_takeFrom 118 = .ok (.aload_n 1, 1) := by decide +kernel
theorem dX4_takeFrom_119 : decode cX4_takeFrom 119 = .ok (.getfield 207, 3) := by decide +kernel
theorem dX4_takeFrom_122 : decode cX4_takeFrom 122 = .ok (.putfield 207, 3) := by decide +kernel
theorem dX4_takeFrom_125 : decode cX4_takeFrom 125 = .ok (.return_, 1) := by decide +kernel
theorem dX5_init_0 : decode cX5_init 0 = .ok (.aload_n 0, 1) := by decide +kernel
theorem dX5_init_1 : decode cX5_init 1 = .ok (.invokespecial 3, 3) := by decide +kernel
theorem dX5_init_4 : decode cX5_init 4 = .ok (.aload_n 0, 1) := by decide +kernel
theorem dX5_init_5 : decode cX5_init 5 = .ok (.iconst 4, 1) := by decide +kernel
theorem dX5_init_6 : decode cX5_init 6 = .ok (.newarray .int, 2) := by decide +kernel
theorem dX5_init_8 : decode cX5_init 8 = .ok (.putfield 9, 3) := by decide +kernel
theorem dX5_init_11 : decode cX5_init 11 = .ok (.aload_n 0, 1) := by decide +kernel
theorem dX5_init_12 : decode cX5_init 12 = .ok (.iconst 4, 1) := by decide +kernel
theorem dX5_init_13 : decode cX5_init 13 = .ok (.newarray .int, 2) := by decide +kernel
theorem dX5_init_15 : decode cX5_init 15 = .ok (.putfield 15, 3) := by decide +kernel
theorem dX5_init_18 : decode cX5_init 18 = .ok (.return_, 1) := by decide +kernel
theorem dX5_hasCondition_0 : decode cX5_hasCondition 0 = .ok (.iload_n 1, 1) := by decide +kernel
theorem dX5_hasCondition_1 : decode cX5_hasCondition 1 = .ok (.ifCond .lt 15, 3) := by decide +kernel
theorem dX5_hasCondition_4 : decode cX5_hasCondition 4 = .ok (.iload_n 1, 1) := by decide +kernel
theorem dX5_hasCondition_5 : decode cX5_hasCondition 5 = .ok (.aload_n 0, 1) := by decide +kernel
theorem dX5_hasCondition_6 : decode cX5_hasCondition 6 = .ok (.getfield 18, 3) := by decide +kernel
theorem dX5_hasCondition_9 : decode cX5_hasCondition 9 = .ok (.if_icmp .ge 7, 3) := by decide +kernel
theorem dX5_hasCondition_12 : decode cX5_hasCondition 12 = .ok (.iconst 1, 1) := by decide +kernel
theorem dX5_hasCondition_13 : decode cX5_hasCondition 13 = .ok (.goto 4, 3) := by decide +kernel
theorem dX5_hasCondition_16 : decode cX5_hasCondition 16 = .ok (.iconst 0, 1) := by decide +kernel
theorem dX5_hasCondition_17 : decode cX5_hasCondition 17 = .ok (.ireturn, 1) := by decide +kernel
theorem dX5_columnAt_0 : decode cX5_columnAt 0 = .ok (.aload_n 0, 1) := by decide +kernel
theorem dX5_columnAt_1 : decode cX5_columnAt 1 = .ok (.getfield 9, 3) := by decide +kernel
theorem dX5_columnAt_4 : decode cX5_columnAt 4 = .ok (.iload_n 1, 1) := by decide +kernel
theorem dX5_columnAt_5 : decode cX5_columnAt 5 = .ok (.invokestatic 22, 3) := by decide +kernel
theorem dX5_columnAt_8 : decode cX5_columnAt 8 = .ok (.ireturn, 1) := by decide +kernel
theorem dX5_operatorAt_0 : decode cX5_operatorAt 0 = .ok (.aload_n 0, 1) := by decide +kernel
theorem dX5_operatorAt_1 : decode cX5_operatorAt 1 = .ok (.getfield 15, 3) := by decide +kernel
theorem dX5_operatorAt_4 : decode cX5_operatorAt 4 = .ok (.iload_n 1, 1) := by decide +kernel
theorem dX5_operatorAt_5 : decode cX5_operatorAt 5 = .ok (.invokestatic 22, 3) := by decide +kernel
theorem dX5_operatorAt_8 : decode cX5_operatorAt 8 = .ok (.ireturn, 1) := by decide +kernel
theorem dX5_takes_0 : decode cX5_takes 0 = .ok (.aload_n 0, 1) := by decide +kernel
theorem dX5_takes_1 : decode cX5_takes 1 = .ok (.iload_n 1, 1) := by decide +kernel
theorem dX5_takes_2 : decode cX5_takes 2 = .ok (.invokevirtual 26, 3) := by decide +kernel
theorem dX5_takes_5 : decode cX5_takes 5 = .ok (.ifCond .eq 10, 3) := by decide +kernel
theorem dX5_takes_8 : decode cX5_takes 8 = .ok (.iload_n 2, 1) := by decide +kernel
theorem dX5_takes_9 : decode cX5_takes 9 = .ok (.invokestatic 30, 3) := by decide +kernel
theorem dX5_takes_12 : decode cX5_takes 12 = .ok (.goto 12, 3) := by decide +kernel
theorem dX5_takes_15 : decode cX5_takes 15 = .ok (.iload_n 2, 1) := by decide +kernel
theorem dX5_takes_16 : decode cX5_takes 16 = .ok (.ifCond .ne 7, 3) := by decide +kernel
theorem dX5_takes_19 : decode cX5_takes 19 = .ok (.iconst 1, 1) := by decide +kernel
theorem dX5_takes_20 : decode cX5_takes 20 = .ok (.goto 4, 3) := by decide +kernel
theorem dX5_takes_23 : decode cX5_takes 23 = .ok (.iconst 0, 1) := by decide +kernel
theorem dX5_takes_24 : decode cX5_takes 24 = .ok (.ireturn, 1) := by decide +kernel
theorem dX5_isOf_0 : decode cX5_isOf 0 = .ok (.aload_n 1, 1) := by decide +kernel
theorem dX5_isOf_1 : decode cX5_isOf 1 = .ok (.invokevirtual 33, 3) := by decide +kernel
theorem dX5_isOf_4 : decode cX5_isOf 4 = .ok (.aload_n 0, 1) := by decide +kernel
theorem dX5_isOf_5 : decode cX5_isOf 5 = .ok (.getfield 18, 3) := by decide +kernel
theorem dX5_isOf_8 : decode cX5_isOf 8 = .ok (.if_icmp .eq 5, 3) := by decide +kernel
theorem dX5_isOf_11 : decode cX5_isOf 11 = .ok (.iconst 0, 1) := by decide +kernel
theorem dX5_isOf_12 : decode cX5_isOf 12 = .ok (.ireturn, 1) := by decide +kernel
theorem dX5_isOf_13 : decode cX5_isOf 13 = .ok (.iconst 0, 1) := by decide +kernel
theorem dX5_isOf_14 : decode cX5_isOf 14 = .ok (.istore_n 2, 1) := by decide +kernel
theorem dX5_isOf_15 : decode cX5_isOf 15 = .ok (.iload_n 2, 1) := by decide +kernel
theorem dX5_isOf_16 : decode cX5_isOf 16 = .ok (.aload_n 0, 1) := by decide +kernel
theorem dX5_isOf_17 : decode cX5_isOf 17 = .ok (.getfield 18, 3) := by decide +kernel
theorem dX5_isOf_20 : decode cX5_isOf 20 = .ok (.if_icmp .ge 37, 3) := by decide +kernel
theorem dX5_isOf_23 : decode cX5_isOf 23 = .ok (.aload_n 0, 1) := by decide +kernel
theorem dX5_isOf_24 : decode cX5_isOf 24 = .ok (.iload_n 2, 1) := by decide +kernel
theorem dX5_isOf_25 : decode cX5_isOf 25 = .ok (.invokevirtual 38, 3) := by decide +kernel
theorem dX5_isOf_28 : decode cX5_isOf 28 = .ok (.aload_n 1, 1) := by decide +kernel
theorem dX5_isOf_29 : decode cX5_isOf 29 = .ok (.iload_n 2, 1) := by decide +kernel
theorem dX5_isOf_30 : decode cX5_isOf 30 = .ok (.invokevirtual 42, 3) := by decide +kernel
theorem dX5_isOf_33 : decode cX5_isOf 33 = .ok (.if_icmp .ne 16, 3) := by decide +kernel
theorem dX5_isOf_36 : decode cX5_isOf 36 = .ok (.aload_n 0, 1) := by decide +kernel
theorem dX5_isOf_37 : decode cX5_isOf 37 = .ok (.iload_n 2, 1) := by decide +kernel
theorem dX5_isOf_38 : decode cX5_isOf 38 = .ok (.invokevirtual 45, 3) := by decide +kernel
theorem dX5_isOf_41 : decode cX5_isOf 41 = .ok (.aload_n 1, 1) := by decide +kernel
theorem dX5_isOf_42 : decode cX5_isOf 42 = .ok (.iload_n 2, 1) := by decide +kernel
theorem dX5_isOf_43 : decode cX5_isOf 43 = .ok (.invokevirtual 48, 3) := by decide +kernel
theorem dX5_isOf_46 : decode cX5_isOf 46 = .ok (.if_icmp .eq 5, 3) := by decide +kernel
theorem dX5_isOf_49 : decode cX5_isOf 49 = .ok (.iconst 0, 1) := by decide +kernel
theorem dX5_isOf_50 : decode cX5_isOf 50 = .ok (.ireturn, 1) := by decide +kernel
theorem dX5_isOf_51 : decode cX5_isOf 51 = .ok (.iinc 2 1, 3) := by decide +kernel
theorem dX5_isOf_54 : decode cX5_isOf 54 = .ok (.goto (-39), 3) := by decide +kernel
theorem dX5_isOf_57 : decode cX5_isOf 57 = .ok (.iconst 1, 1) := by decide +kernel
theorem dX5_isOf_58 : decode cX5_isOf 58 = .ok (.ireturn, 1) := by decide +kernel
theorem dX5_readFrom_0 : decode cX5_readFrom 0 = .ok (.aload_n 0, 1) := by decide +kernel
theorem dX5_readFrom_1 : decode cX5_readFrom 1 = .ok (.aload_n 1, 1) := by decide +kernel
theorem dX5_readFrom_2 : decode cX5_readFrom 2 = .ok (.invokevirtual 33, 3) := by decide +kernel
theorem dX5_readFrom_5 : decode cX5_readFrom 5 = .ok (.iconst 4, 1) := by decide +kernel
theorem dX5_readFrom_6 : decode cX5_readFrom 6 = .ok (.invokestatic 51, 3) := by decide +kernel
theorem dX5_readFrom_9 : decode cX5_readFrom 9 = .ok (.putfield 18, 3) := by decide +kernel
theorem dX5_readFrom_12 : decode cX5_readFrom 12 = .ok (.iconst 0, 1) := by decide +kernel
theorem dX5_readFrom_13 : decode cX5_readFrom 13 = .ok (.istore_n 2, 1) := by decide +kernel
theorem dX5_readFrom_14 : decode cX5_readFrom 14 = .ok (.iload_n 2, 1) := by decide +kernel
theorem dX5_readFrom_15 : decode cX5_readFrom 15 = .ok (.aload_n 0, 1) := by decide +kernel
theorem dX5_readFrom_16 : decode cX5_readFrom 16 = .ok (.getfield 18, 3) := by decide +kernel
theorem dX5_readFrom_19 : decode cX5_readFrom 19 = .ok (.if_icmp .ge 35, 3) := by decide +kernel
theorem dX5_readFrom_22 : decode cX5_readFrom 22 = .ok (.aload_n 0, 1) := by decide +kernel
theorem dX5_readFrom_23 : decode cX5_readFrom 23 = .ok (.getfield 9, 3) := by decide +kernel
theorem dX5_readFrom_26 : decode cX5_readFrom 26 = .ok (.iload_n 2, 1) := by decide +kernel
theorem dX5_readFrom_27 : decode cX5_readFrom 27 = .ok (.aload_n 1, 1) := by decide +kernel
theorem dX5_readFrom_28 : decode cX5_readFrom 28 = .ok (.iload_n 2, 1) := by decide +kernel
theorem dX5_readFrom_29 : decode cX5_readFrom 29 = .ok (.invokevirtual 42, 3) := by decide +kernel
theorem dX5_readFrom_32 : decode cX5_readFrom 32 = .ok (.invokestatic 57, 3) := by decide +kernel
theorem dX5_readFrom_35 : decode cX5_readFrom 35 = .ok (.aload_n 0, 1) := by decide +kernel
theorem dX5_readFrom_36 : decode cX5_readFrom 36 = .ok (.getfield 15, 3) := by decide +kernel
theorem dX5_readFrom_39 : decode cX5_readFrom 39 = .ok (.iload_n 2, 1) := by decide +kernel
theorem dX5_readFrom_40 : decode cX5_readFrom 40 = .ok (.aload_n 1, 1) := by decide +kernel
theorem dX5_readFrom_41 : decode cX5_readFrom 41 = .ok (.iload_n 2, 1) := by decide +kernel
theorem dX5_readFrom_42 : decode cX5_readFrom 42 = .ok (.invokevirtual 48, 3) := by decide +kernel
theorem dX5_readFrom_45 : decode cX5_readFrom 45 = .ok (.invokestatic 57, 3) := by decide +kernel
theorem dX5_readFrom_48 : decode cX5_readFrom 48 = .ok (.iinc 2 1, 3) := by decide +kernel
theorem dX5_readFrom_51 : decode cX5_readFrom 51 = .ok (.goto (-37), 3) := by decide +kernel
theorem dX5_readFrom_54 : decode cX5_readFrom 54 = .ok (.aload_n 0, 1) := by decide +kernel
theorem dX5_readFrom_55 : decode cX5_readFrom 55 = .ok (.iconst 0, 1) := by decide +kernel
theorem dX5_readFrom_56 : decode cX5_readFrom 56 = .ok (.putfield 61, 3) := by decide +kernel
theorem dX5_readFrom_59 : decode cX5_readFrom 59 = .ok (.return_, 1) := by decide +kernel
theorem dX5_takeFrom_0 : decode cX5_takeFrom 0 = .ok (.aload_n 1, 1) := by decide +kernel
theorem dX5_takeFrom_1 : decode cX5_takeFrom 1 = .ok (.getfield 9, 3) := by decide +kernel
theorem dX5_takeFrom_4 : decode cX5_takeFrom 4 = .ok (.aload_n 0, 1) := by decide +kernel
theorem dX5_takeFrom_5 : decode cX5_takeFrom 5 = .ok (.getfield 9, 3) := by decide +kernel
theorem dX5_takeFrom_8 : decode cX5_takeFrom 8 = .ok (.invokestatic 64, 3) := by decide +kernel
theorem dX5_takeFrom_11 : decode cX5_takeFrom 11 = .ok (.aload_n 1, 1) := by decide +kernel
theorem dX5_takeFrom_12 : decode cX5_takeFrom 12 = .ok (.getfield 15, 3) := by decide +kernel
theorem dX5_takeFrom_15 : decode cX5_takeFrom 15 = .ok (.aload_n 0, 1) := by decide +kernel
theorem dX5_takeFrom_16 : decode cX5_takeFrom 16 = .ok (.getfield 15, 3) := by decide +kernel
theorem dX5_takeFrom_19 : decode cX5_takeFrom 19 = .ok (.invokestatic 64, 3) := by decide +kernel
theorem dX5_takeFrom_22 : decode cX5_takeFrom 22 = .ok (.aload_n 0, 1) := by decide +kernel
theorem dX5_takeFrom_23 : decode cX5_takeFrom 23 = .ok (.aload_n 1, 1) := by decide +kernel
theorem dX5_takeFrom_24 : decode cX5_takeFrom 24 = .ok (.getfield 18, 3) := by decide +kernel
theorem dX5_takeFrom_27 : decode cX5_takeFrom 27 = .ok (.putfield 18, 3) := by decide +kernel
theorem dX5_takeFrom_30 : decode cX5_takeFrom 30 = .ok (.aload_n 0, 1) := by decide +kernel
theorem dX5_takeFrom_31 : decode cX5_takeFrom 31 = .ok (.aload_n 1, 1) := by decide +kernel
theorem dX5_takeFrom_32 : decode cX5_takeFrom 32 = .ok (.getfield 61, 3) := by decide +kernel
theorem dX5_takeFrom_35 : decode cX5_takeFrom 35 = .ok (.putfield 61, 3) := by decide +kernel
theorem dX5_takeFrom_38 : decode cX5_takeFrom 38 = .ok (.return_, 1) := by decide +kernel
theorem dX6_init_0 : decode cX6_init 0 = .ok (.aload_n 0, 1) := by decide +kernel
theorem dX6_init_1 : decode cX6_init 1 = .ok (.invokespecial 3, 3) := by decide +kernel
theorem dX6_init_4 : decode cX6_init 4 = .ok (.aload_n 0, 1) := by decide +kernel
theorem dX6_init_5 : decode cX6_init 5 = .ok (.sipush 128, 3) := by decide +kernel
theorem dX6_init_8 : decode cX6_init 8 = .ok (.newarray .int, 2) := by decide +kernel
theorem dX6_init_10 : decode cX6_init 10 = .ok (.putfield 9, 3) := by decide +kernel
theorem dX6_init_13 : decode cX6_init 13 = .ok (.return_, 1) := by decide +kernel
theorem dX6_weightOf_0 : decode cX6_weightOf 0 = .ok (.iload_n 1, 1) := by decide +kernel
theorem dX6_weightOf_1 : decode cX6_weightOf 1 = .ok (.bipush 32, 2) := by decide +kernel
theorem dX6_weightOf_3 : decode cX6_weightOf 3 = .ok (.imul, 1) := by decide +kernel
theorem dX6_weightOf_4 : decode cX6_weightOf 4 = .ok (.iload_n 2, 1) := by decide +kernel
theorem dX6_weightOf_5 : decode cX6_weightOf 5 = .ok (.iadd, 1) := by decide +kernel
theorem dX6_weightOf_6 : decode cX6_weightOf 6 = .ok (.istore_n 3, 1) := by decide +kernel
theorem dX6_weightOf_7 : decode cX6_weightOf 7 = .ok (.iload_n 3, 1) := by decide +kernel
theorem dX6_weightOf_8 : decode cX6_weightOf 8 = .ok (.ifCond .lt 21, 3) := by decide +kernel
theorem dX6_weightOf_11 : decode cX6_weightOf 11 = .ok (.iload_n 3, 1) := by decide +kernel
theorem dX6_weightOf_12 : decode cX6_weightOf 12 = .ok (.aload_n 0, 1) := by decide +kernel
theorem dX6_weightOf_13 : decode cX6_weightOf 13 = .ok (.getfield 9, 3) := by decide +kernel
theorem dX6_weightOf_16 : decode cX6_weightOf 16 = .ok (.arraylength, 1) := by decide +kernel
theorem dX6_weightOf_17 : decode cX6_weightOf 17 = .ok (.if_icmp .ge 12, 3) := by decide +kernel
theorem dX6_weightOf_20 : decode cX6_weightOf 20 = .ok (.aload_n 0, 1) := by decide +kernel
theorem dX6_weightOf_21 : decode cX6_weightOf 21 = .ok (.getfield 9, 3) := by decide +kernel
theorem dX6_weightOf_24 : decode cX6_weightOf 24 = .ok (.iload_n 3, 1) := by decide +kernel
theorem dX6_weightOf_25 : decode cX6_weightOf 25 = .ok (.iaload, 1) := by decide +kernel
theorem dX6_weightOf_26 : decode cX6_weightOf 26 = .ok (.goto 4, 3) := by decide +kernel
theorem dX6_weightOf_29 : decode cX6_weightOf 29 = .ok (.iconst 0, 1) := by decide +kernel
theorem dX6_weightOf_30 : decode cX6_weightOf 30 = .ok (.ireturn, 1) := by decide +kernel
theorem dX6_add_0 : decode cX6_add 0 = .ok (.aload_n 0, 1) := by decide +kernel
theorem dX6_add_1 : decode cX6_add 1 = .ok (.getfield 9, 3) := by decide +kernel
theorem dX6_add_4 : decode cX6_add 4 = .ok (.iload_n 1, 1) := by decide +kernel
theorem dX6_add_5 : decode cX6_add 5 = .ok (.bipush 32, 2) := by decide +kernel
theorem dX6_add_7 : decode cX6_add 7 = .ok (.imul, 1) := by decide +kernel
theorem dX6_add_8 : decode cX6_add 8 = .ok (.iload_n 2, 1) := by decide +kernel
theorem dX6_add_9 : decode cX6_add 9 = .ok (.iadd, 1) := by decide +kernel
theorem dX6_add_10 : decode cX6_add 10 = .ok (.aload_n 0, 1) := by decide +kernel
theorem dX6_add_11 : decode cX6_add 11 = .ok (.iload_n 1, 1) := by decide +kernel
theorem dX6_add_12 : decode cX6_add 12 = .ok (.iload_n 2, 1) := by decide +kernel
theorem dX6_add_13 : decode cX6_add 13 = .ok (.invokevirtual 15, 3) := by decide +kernel
theorem dX6_add_16 : decode cX6_add 16 = .ok (.iload_n 3, 1) := by decide +kernel
theorem dX6_add_17 : decode cX6_add 17 = .ok (.iadd, 1) := by decide +kernel
theorem dX6_add_18 : decode cX6_add 18 = .ok (.invokestatic 19, 3) := by decide +kernel
theorem dX6_add_21 : decode cX6_add 21 = .ok (.return_, 1) := by decide +kernel
theorem dX6_weightWhere_0 : decode cX6_weightWhere 0 = .ok (.iconst 0, 1) := by decide +kernel
theorem dX6_weightWhere_1 : decode cX6_weightWhere 1 = .ok (.istore 4, 2) := by decide +kernel
theorem dX6_weightWhere_3 : decode cX6_weightWhere 3 = .ok (.iconst 0, 1) := by decide +kernel
theorem dX6_weightWhere_4 : decode cX6_weightWhere 4 = .ok (.istore 5, 2) := by decide +kernel
theorem dX6_weightWhere_6 : decode cX6_weightWhere 6 = .ok (.iload 5, 2) := by decide +kernel
theorem dX6_weightWhere_8 : decode cX6_weightWhere 8 = .ok (.bipush 32, 2) := by decide +kernel
theorem dX6_weightWhere_10 : decode cX6_weightWhere 10 = .ok (.if_icmp .ge 31, 3) := by decide +kernel
theorem dX6_weightWhere_13 : decode cX6_weightWhere 13 = .ok (.iload 5, 2) := by decide +kernel
theorem dX6_weightWhere_15 : decode cX6_weightWhere 15 = .ok (.iload_n 2, 1) := by decide +kernel
theorem dX6_weightWhere_16 : decode cX6_weightWhere 16 = .ok (.iload_n 3, 1) := by decide +kernel
theorem dX6_weightWhere_17 : decode cX6_weightWhere 17 = .ok (.invokestatic 23, 3) := by decide +kernel
theorem dX6_weightWhere_20 : decode cX6_weightWhere 20 = .ok (.ifCond .eq 15, 3) := by decide +kernel
theorem dX6_weightWhere_23 : decode cX6_weightWhere 23 = .ok (.iload 4, 2) := by decide +kernel
theorem dX6_weightWhere_25 : decode cX6_weightWhere 25 = .ok (.aload_n 0, 1) := by decide +kernel
theorem dX6_weightWhere_26 : decode cX6_weightWhere 26 = .ok (.iload_n 1, 1) := by decide +kernel
theorem dX6_weightWhere_27 : decode cX6_weightWhere 27 = .ok (.iload 5, 2) := by decide +kernel
theorem dX6_weightWhere_29 : decode cX6_weightWhere 29 = .ok (.invokevirtual 15, 3) := by decide +kernel
theorem dX6_weightWhere_32 : decode cX6_weightWhere 32 = .ok (.iadd, 1) := by decide +kernel
theorem dX6_weightWhere_33 : decode cX6_weightWhere 33 = .ok (.istore 4, 2) := by decide +kernel
theorem dX6_weightWhere_35 : decode cX6_weightWhere 35 = .ok (.iinc 5 1, 3) := by decide +kernel
theorem dX6_weightWhere_38 : decode cX6_weightWhere 38 = .ok (.goto (-32), 3) := by decide +kernel
theorem dX6_weightWhere_41 : decode cX6_weightWhere 41 = .ok (.iload 4, 2) := by decide +kernel
theorem dX6_weightWhere_43 : decode cX6_weightWhere 43 = .ok (.ireturn, 1) := by decide +kernel
theorem dX6_takeFrom_0 : decode cX6_takeFrom 0 = .ok (.aload_n 1, 1) := by decide +kernel
theorem dX6_takeFrom_1 : decode cX6_takeFrom 1 = .ok (.getfield 9, 3) := by decide +kernel
theorem dX6_takeFrom_4 : decode cX6_takeFrom 4 = .ok (.aload_n 0, 1) := by decide +kernel
theorem dX6_takeFrom_5 : decode cX6_takeFrom 5 = .ok (.getfield 9, 3) := by decide +kernel
theorem dX6_takeFrom_8 : decode cX6_takeFrom 8 = .ok (.invokestatic 27, 3) := by decide +kernel
theorem dX6_takeFrom_11 : decode cX6_takeFrom 11 = .ok (.aload_n 0, 1) := by decide +kernel
theorem dX6_takeFrom_12 : decode cX6_takeFrom 12 = .ok (.aload_n 1, 1) := by decide +kernel
theorem dX6_takeFrom_13 : decode cX6_takeFrom 13 = .ok (.getfield 31, 3) := by decide +kernel
theorem dX6_takeFrom_16 : decode cX6_takeFrom 16 = .ok (.putfield 31, 3) := by decide +kernel
theorem dX6_takeFrom_19 : decode cX6_takeFrom 19 = .ok (.return_, 1) := by decide +kernel
theorem dX7_init_0 : decode cX7_init 0 = .ok (.aload_n 0, 1) := by decide +kernel
theorem dX7_init_1 : decode cX7_init 1 = .ok (.invokespecial 3, 3) := by decide +kernel
theorem dX7_init_4 : decode cX7_init 4 = .ok (.aload_n 0, 1) := by decide +kernel
theorem dX7_init_5 : decode cX7_init 5 = .ok (.sipush 150, 3) := by decide +kernel
theorem dX7_init_8 : decode cX7_init 8 = .ok (.newarray .int, 2) := by decide +kernel
theorem dX7_init_10 : decode cX7_init 10 = .ok (.putfield 11, 3) := by decide +kernel
theorem dX7_init_13 : decode cX7_init 13 = .ok (.aload_n 0, 1) := by decide +kernel
theorem dX7_init_14 : decode cX7_init 14 = .ok (.new 15, 3) := by decide +kernel
theorem dX7_init_17 : decode cX7_init 17 = .ok (.dup, 1) := by decide +kernel
theorem dX7_init_18 : decode cX7_init 18 = .ok (.invokespecial 17, 3) := by decide +kernel
theorem dX7_init_21 : decode cX7_init 21 = .ok (.putfield 18, 3) := by decide +kernel
theorem dX7_init_24 : decode cX7_init 24 = .ok (.return_, 1) := by decide +kernel
theorem dX7_hasRow_0 : decode cX7_hasRow 0 = .ok (.iload_n 1, 1) := by decide +kernel
theorem dX7_hasRow_1 : decode cX7_hasRow 1 = .ok (.ifCond .lt 15, 3) := by decide +kernel
theorem dX7_hasRow_4 : decode cX7_hasRow 4 = .ok (.iload_n 1, 1) := by decide +kernel
theorem dX7_hasRow_5 : decode cX7_hasRow 5 = .ok (.aload_n 0, 1) := by decide +kernel
theorem dX7_hasRow_6 : decode cX7_hasRow 6 = .ok (.getfield 22, 3) := by decide +kernel
theorem dX7_hasRow_9 : decode cX7_hasRow 9 = .ok (.if_icmp .ge 7, 3) := by decide +kernel
theorem dX7_hasRow_12 : decode cX7_hasRow 12 = .ok (.iconst 1, 1) := by decide +kernel
theorem dX7_hasRow_13 : decode cX7_hasRow 13 = .ok (.goto 4, 3) := by decide +kernel
theorem dX7_hasRow_16 : decode cX7_hasRow 16 = .ok (.iconst 0, 1) := by decide +kernel
theorem dX7_hasRow_17 : decode cX7_hasRow 17 = .ok (.ireturn, 1) := by decide +kernel
theorem dX7_cellAt_0 : decode cX7_cellAt 0 = .ok (.aload_n 0, 1) := by decide +kernel
theorem dX7_cellAt_1 : decode cX7_cellAt 1 = .ok (.getfield 11, 3) := by decide +kernel
theorem dX7_cellAt_4 : decode cX7_cellAt 4 = .ok (.iload_n 1, 1) := by decide +kernel
theorem dX7_cellAt_5 : decode cX7_cellAt 5 = .ok (.iconst 5, 1) := by decide +kernel
theorem dX7_cellAt_6 : decode cX7_cellAt 6 = .ok (.imul, 1) := by decide +kernel
theorem dX7_cellAt_7 : decode cX7_cellAt 7 = .ok (.iload_n 2, 1) := by decide +kernel
theorem dX7_cellAt_8 : decode cX7_cellAt 8 = .ok (.iadd, 1) := by decide +kernel
theorem dX7_cellAt_9 : decode cX7_cellAt 9 = .ok (.invokestatic 26, 3) := by decide +kernel
theorem dX7_cellAt_12 : decode cX7_cellAt 12 = .ok (.ireturn, 1) := by decide +kernel
theorem dX7_append_0 : decode cX7_append 0 = .ok (.iconst 0, 1) := by decide +kernel
theorem dX7_append_1 : decode cX7_append 1 = .ok (.istore_n 3, 1) := by decide +kernel
theorem dX7_append_2 : decode cX7_append 2 = .ok (.iload_n 3, 1) := by decide +kernel
theorem dX7_append_3 : decode cX7_append 3 = .ok (.iconst 4, 1) := by decide +kernel
theorem dX7_append_4 : decode cX7_append 4 = .ok (.if_icmp .ge 29, 3) := by decide +kernel
theorem dX7_append_7 : decode cX7_append 7 = .ok (.aload_n 0, 1) := by decide +kernel
theorem dX7_append_8 : decode cX7_append 8 = .ok (.getfield 11, 3) := by decide +kernel
theorem dX7_append_11 : decode cX7_append 11 = .ok (.aload_n 0, 1) := by decide +kernel
theorem dX7_append_12 : decode cX7_append 12 = .ok (.getfield 22, 3) := by decide +kernel
theorem dX7_append_15 : decode cX7_append 15 = .ok (.iconst 5, 1) := by decide +kernel
theorem dX7_append_16 : decode cX7_append 16 = .ok (.imul, 1) := by decide +kernel
theorem dX7_append_17 : decode cX7_append 17 = .ok (.iload_n 3, 1) := by decide +kernel
theorem dX7_append_18 : decode cX7_append 18 = .ok (.iadd, 1) := by decide +kernel
theorem dX7_append_19 : decode cX7_append 19 = .ok (.aload_n 1, 1) := by decide +kernel
theorem dX7_append_20 : decode cX7_append 20 = .ok (.iload_n 3, 1) := by decide +kernel
theorem dX7_append_21 : decode cX7_append 21 = .ok (.invokestatic 26, 3) := by decide +kernel
theorem dX7_append_24 : decode cX7_append 24 = .ok (.invokestatic 30, 3) := by decide +kernel
theorem dX7_append_27 : decode cX7_append 27 = .ok (.iinc 3 1, 3) := by decide +kernel
theorem dX7_append_30 : decode cX7_append 30 = .ok (.goto (-28), 3) := by decide +kernel
theorem dX7_append_33 : decode cX7_append 33 = .ok (.aload_n 0, 1) := by decide +kernel
theorem dX7_append_34 : decode cX7_append 34 = .ok (.getfield 11, 3) := by decide +kernel
theorem dX7_append_37 : decode cX7_append 37 = .ok (.aload_n 0, 1) := by decide +kernel
theorem dX7_append_38 : decode cX7_append 38 = .ok (.getfield 22, 3) := by decide +kernel
theorem dX7_append_41 : decode cX7_append 41 = .ok (.iconst 5, 1) := by decide +kernel
theorem dX7_append_42 : decode cX7_append 42 = .ok (.imul, 1) := by decide +kernel
theorem dX7_append_43 : decode cX7_append 43 = .ok (.iconst 4, 1) := by decide +kernel
theorem dX7_append_44 : decode cX7_append 44 = .ok (.iadd, 1) := by decide +kernel
theorem dX7_append_45 : decode cX7_append 45 = .ok (.iload_n 2, 1) := by decide +kernel
theorem dX7_append_46 : decode cX7_append 46 = .ok (.invokestatic 30, 3) := by decide +kernel
theorem dX7_append_49 : decode cX7_append 49 = .ok (.aload_n 0, 1) := by decide +kernel
theorem dX7_append_50 : decode cX7_append 50 = .ok (.aload_n 0, 1) := by decide +kernel
theorem dX7_append_51 : decode cX7_append 51 = .ok (.getfield 22, 3) := by decide +kernel
theorem dX7_append_54 : decode cX7_append 54 = .ok (.iload_n 2, 1) := by decide +kernel
theorem dX7_append_55 : decode cX7_append 55 = .ok (.invokevirtual 34, 3) := by decide +kernel
theorem dX7_append_58 : decode cX7_append 58 = .ok (.aload_n 0, 1) := by decide +kernel
theorem dX7_append_59 : decode cX7_append 59 = .ok (.dup, 1) := by decide +kernel
theorem dX7_append_60 : decode cX7_append 60 = .ok (.getfield 22, 3) := by decide +kernel
theorem dX7_append_63 : decode cX7_append 63 = .ok (.iconst 1, 1) := by decide +kernel
theorem dX7_append_64 : decode cX7_append 64 = .ok (.iadd, 1) := by decide +kernel
theorem dX7_append_65 : decode cX7_append 65 = .ok (.putfield 22, 3) := by decide +kernel
theorem dX7_append_68 : decode cX7_append 68 = .ok (.aload_n 0, 1) := by decide +kernel
theorem dX7_append_69 : decode cX7_append 69 = .ok (.getfield 22, 3) := by decide +kernel
theorem dX7_append_72 : decode cX7_append 72 = .ok (.iconst 1, 1) := by decide +kernel
theorem dX7_append_73 : decode cX7_append 73 = .ok (.isub, 1) := by decide +kernel
theorem dX7_append_74 : decode cX7_append 74 = .ok (.ireturn, 1) := by decide +kernel
theorem dX7_remove_0 : decode cX7_remove 0 = .ok (.aload_n 0, 1) := by decide +kernel
theorem dX7_remove_1 : decode cX7_remove 1 = .ok (.iload_n 1, 1) := by decide +kernel
theorem dX7_remove_2 : decode cX7_remove 2 = .ok (.iconst 4, 1) := by decide +kernel
theorem dX7_remove_3 : decode cX7_remove 3 = .ok (.invokevirtual 38, 3) := by decide +kernel
theorem dX7_remove_6 : decode cX7_remove 6 = .ok (.istore_n 2, 1) := by decide +kernel
theorem dX7_remove_7 : decode cX7_remove 7 = .ok (.aload_n 0, 1) := by decide +kernel
theorem dX7_remove_8 : decode cX7_remove 8 = .ok (.iload_n 1, 1) := by decide +kernel
theorem dX7_remove_9 : decode cX7_remove 9 = .ok (.iload_n 2, 1) := by decide +kernel
theorem dX7_remove_10 : decode cX7_remove 10 = .ok (.ineg, 1) := by decide +kernel
theorem dX7_remove_11 : decode cX7_remove 11 = .ok (.invokevirtual 34, 3) := by decide +kernel
theorem dX7_remove_14 : decode cX7_remove 14 = .ok (.aload_n 0, 1) := by decide +kernel
theorem dX7_remove_15 : decode cX7_remove 15 = .ok (.dup, 1) := by decide +kernel
theorem dX7_remove_16 : decode cX7_remove 16 = .ok (.getfield 22, 3) := by decide +kernel
theorem dX7_remove_19 : decode cX7_remove 19 = .ok (.iconst 1, 1) := by decide +kernel
theorem dX7_remove_20 : decode cX7_remove 20 = .ok (.isub, 1) := by decide +kernel
theorem dX7_remove_21 : decode cX7_remove 21 = .ok (.putfield 22, 3) := by decide +kernel
theorem dX7_remove_24 : decode cX7_remove 24 = .ok (.iload_n 1, 1) := by decide +kernel
theorem dX7_remove_25 : decode cX7_remove 25 = .ok (.iconst 5, 1) := by decide +kernel
theorem dX7_remove_26 : decode cX7_remove 26 = .ok (.imul, 1) := by decide +kernel
theorem dX7_remove_27 : decode cX7_remove 27 = .ok (.istore_n 3, 1) := by decide +kernel
theorem dX7_remove_28 : decode cX7_remove 28 = .ok (.iload_n 3, 1) := by decide +kernel
theorem dX7_remove_29 : decode cX7_remove 29 = .ok (.aload_n 0, 1) := by decide +kernel
theorem dX7_remove_30 : decode cX7_remove 30 = .ok (.getfield 22, 3) := by decide +kernel
theorem dX7_remove_33 : decode cX7_remove 33 = .ok (.iconst 5, 1) := by decide +kernel
theorem dX7_remove_34 : decode cX7_remove 34 = .ok (.imul, 1) := by decide +kernel
theorem dX7_remove_35 : decode cX7_remove 35 = .ok (.if_icmp .ge 27, 3) := by decide +kernel
theorem dX7_remove_38 : decode cX7_remove 38 = .ok (.aload_n 0, 1) := by decide +kernel
theorem dX7_remove_39 : decode cX7_remove 39 = .ok (.getfield 11, 3) := by decide +kernel
theorem dX7_remove_42 : decode cX7_remove 42 = .ok (.iload_n 3, 1) := by decide +kernel
theorem dX7_remove_43 : decode cX7_remove 43 = .ok (.aload_n 0, 1) := by decide +kernel
theorem dX7_remove_44 : decode cX7_remove 44 = .ok (.getfield 11, 3) := by decide +kernel
theorem dX7_remove_47 : decode cX7_remove 47 = .ok (.iload_n 3, 1) := by decide +kernel
theorem dX7_remove_48 : decode cX7_remove 48 = .ok (.iconst 5, 1) := by decide +kernel
theorem dX7_remove_49 : decode cX7_remove 49 = .ok (.iadd, 1) := by decide +kernel
theorem dX7_remove_50 : decode cX7_remove 50 = .ok (.invokestatic 26, 3) := by decide +kernel
theorem dX7_remove_53 : decode cX7_remove 53 = .ok (.invokestatic 30, 3) := by decide +kernel
theorem dX7_remove_56 : decode cX7_remove 56 = .ok (.iinc 3 1, 3) := by decide +kernel
theorem dX7_remove_59 : decode cX7_remove 59 = .ok (.goto (-31), 3) := by decide +kernel
theorem dX7_remove_62 : decode cX7_remove 62 = .ok (.iload_n 2, 1) := by decide +kernel
theorem dX7_remove_63 : decode cX7_remove 63 = .ok (.ireturn, 1) := by decide +kernel
theorem dX7_weightWhere_0 : decode cX7_weightWhere 0 = .ok (.iconst 0, 1) := by decide +kernel
theorem dX7_weightWhere_1 : decode cX7_weightWhere 1 = .ok (.istore_n 3, 1) := by decide +kernel
theorem dX7_weightWhere_2 : decode cX7_weightWhere 2 = .ok (.iconst 0, 1) := by decide +kernel
theorem dX7_weightWhere_3 : decode cX7_weightWhere 3 = .ok (.istore 4, 2) := by decide +kernel
theorem dX7_weightWhere_5 : decode cX7_weightWhere 5 = .ok (.iload 4, 2) := by decide +kernel
theorem dX7_weightWhere_7 : decode cX7_weightWhere 7 = .ok (.aload_n 0, 1) := by decide +kernel
theorem dX7_weightWhere_8 : decode cX7_weightWhere 8 = .ok (.getfield 22, 3) := by decide +kernel
theorem dX7_weightWhere_11 : decode cX7_weightWhere 11 = .ok (.if_icmp .ge 30, 3) := by decide +kernel
theorem dX7_weightWhere_14 : decode cX7_weightWhere 14 = .ok (.aload_n 0, 1) := by decide +kernel
theorem dX7_weightWhere_15 : decode cX7_weightWhere 15 = .ok (.iload 4, 2) := by decide +kernel
theorem dX7_weightWhere_17 : decode cX7_weightWhere 17 = .ok (.aload_n 1, 1) := by decide +kernel
theorem dX7_weightWhere_18 : decode cX7_weightWhere 18 = .ok (.aload_n 2, 1) := by decide +kernel
theorem dX7_weightWhere_19 : decode cX7_weightWhere 19 = .ok (.invokevirtual 42, 3) := by decide +kernel
theorem dX7_weightWhere_22 : decode cX7_weightWhere 22 = .ok (.ifCond .eq 13, 3) := by decide +kernel
theorem dX7_weightWhere_25 : decode cX7_weightWhere 25 = .ok (.iload_n 3, 1) := by decide +kernel
theorem dX7_weightWhere_26 : decode cX7_weightWhere 26 = .ok (.aload_n 0, 1) := by decide +kernel
theorem dX7_weightWhere_27 : decode cX7_weightWhere 27 = .ok (.iload 4, 2) := by decide +kernel
theorem dX7_weightWhere_29 : decode cX7_weightWhere 29 = .ok (.iconst 4, 1) := by decide +kernel
theorem dX7_weightWhere_30 : decode cX7_weightWhere 30 = .ok (.invokevirtual 38, 3) := by decide +kernel
theorem dX7_weightWhere_33 : decode cX7_weightWhere 33 = .ok (.iadd, 1) := by decide +kernel
theorem dX7_weightWhere_34 : decode cX7_weightWhere 34 = .ok (.istore_n 3, 1) := by decide +kernel
theorem dX7_weightWhere_35 : decode cX7_weightWhere 35 = .ok (.iinc 4 1, 3) := by decide +kernel
theorem dX7_weightWhere_38 : decode cX7_weightWhere 38 = .ok (.goto (-33), 3) := by decide +kernel
theorem dX7_weightWhere_41 : decode cX7_weightWhere 41 = .ok (.iload_n 3, 1) := by decide +kernel
theorem dX7_weightWhere_42 : decode cX7_weightWhere 42 = .ok (.ireturn, 1) := by decide +kernel
theorem dX7_fits_0 : decode cX7_fits 0 = .ok (.iconst 0, 1) := by decide +kernel
theorem dX7_fits_1 : decode cX7_fits 1 = .ok (.istore 4, 2) := by decide +kernel
theorem dX7_fits_3 : decode cX7_fits 3 = .ok (.iload 4, 2) := by decide +kernel
theorem dX7_fits_5 : decode cX7_fits 5 = .ok (.aload_n 2, 1) := by decide +kernel
theorem dX7_fits_6 : decode cX7_fits 6 = .ok (.getfield 46, 3) := by decide +kernel
theorem dX7_fits_9 : decode cX7_fits 9 = .ok (.if_icmp .ge 44, 3) := by decide +kernel
theorem dX7_fits_12 : decode cX7_fits 12 = .ok (.aload_n 0, 1) := by decide +kernel
theorem dX7_fits_13 : decode cX7_fits 13 = .ok (.iload_n 1, 1) := by decide +kernel
theorem dX7_fits_14 : decode cX7_fits 14 = .ok (.aload_n 2, 1) := by decide +kernel
theorem dX7_fits_15 : decode cX7_fits 15 = .ok (.iload 4, 2) := by decide +kernel
theorem dX7_fits_17 : decode cX7_fits 17 = .ok (.invokevirtual 51, 3) := by decide +kernel
theorem dX7_fits_20 : decode cX7_fits 20 = .ok (.invokevirtual 38, 3) := by decide +kernel
theorem dX7_fits_23 : decode cX7_fits 23 = .ok (.istore 5, 2) := by decide +kernel
theorem dX7_fits_25 : decode cX7_fits 25 = .ok (.iload 5, 2) := by decide +kernel
theorem dX7_fits_27 : decode cX7_fits 27 = .ok (.aload_n 2, 1) := by decide +kernel
theorem dX7_fits_28 : decode cX7_fits 28 = .ok (.iload 4, 2) := by decide +kernel
theorem dX7_fits_30 : decode cX7_fits 30 = .ok (.invokevirtual 55, 3) := by decide +kernel
theorem dX7_fits_33 : decode cX7_fits 33 = .ok (.aload_n 3, 1) := by decide +kernel
theorem dX7_fits_34 : decode cX7_fits 34 = .ok (.iload 4, 2) := by decide +kernel
theorem dX7_fits_36 : decode cX7_fits 36 = .ok (.invokestatic 26, 3) := by decide +kernel
theorem dX7_fits_39 : decode cX7_fits 39 = .ok (.invokestatic 58, 3) := by decide +kernel
theorem dX7_fits_42 : decode cX7_fits 42 = .ok (.ifCond .ne 5, 3) := by decide +kernel
theorem dX7_fits_45 : decode cX7_fits 45 = .ok (.iconst 0, 1) := by decide +kernel
theorem dX7_fits_46 : decode cX7_fits 46 = .ok (.ireturn, 1) := by decide +kernel
theorem dX7_fits_47 : decode cX7_fits 47 = .ok (.iinc 4 1, 3) := by decide +kernel
theorem dX7_fits_50 : decode cX7_fits 50 = .ok (.goto (-47), 3) := by decide +kernel
theorem dX7_fits_53 : decode cX7_fits 53 = .ok (.iconst 1, 1) := by decide +kernel
theorem dX7_fits_54 : decode cX7_fits 54 = .ok (.ireturn, 1) := by decide +kernel
theorem dX7_addToSums_0 : decode cX7_addToSums 0 = .ok (.iconst 0, 1) := by decide +kernel
theorem dX7_addToSums_1 : decode cX7_addToSums 1 = .ok (.istore_n 3, 1) := by decide +kernel
theorem dX7_addToSums_2 : decode cX7_addToSums 2 = .ok (.iload_n 3, 1) := by decide +kernel
theorem dX7_addToSums_3 : decode cX7_addToSums 3 = .ok (.iconst 4, 1) := by decide +kernel
theorem dX7_addToSums_4 : decode cX7_addToSums 4 = .ok (.if_icmp .ge 24, 3) := by decide +kernel
theorem dX7_addToSums_7 : decode cX7_addToSums 7 = .ok (.aload_n 0, 1) := by decide +kernel
theorem dX7_addToSums_8 : decode cX7_addToSums 8 = .ok (.getfield 18, 3) := by decide +kernel
theorem dX7_addToSums_11 : decode cX7_addToSums 11 = .ok (.iload_n 3, 1) := by decide +kernel
theorem dX7_addToSums_12 : decode cX7_addToSums 12 = .ok (.aload_n 0, 1) := by decide +kernel
theorem dX7_addToSums_13 : decode cX7_addToSums 13 = .ok (.iload_n 1, 1) := by decide +kernel
theorem dX7_addToSums_14 : decode cX7_addToSums 14 = .ok (.iload_n 3, 1) := by decide +kernel
theorem dX7_addToSums_15 : decode cX7_addToSums 15 = .ok (.invokevirtual 38, 3) := by decide +kernel
theorem dX7_addToSums_18 : decode cX7_addToSums 18 = .ok (.iload_n 2, 1) := by decide +kernel
theorem dX7_addToSums_19 : decode cX7_addToSums 19 = .ok (.invokevirtual 62, 3) := by decide +kernel
theorem dX7_addToSums_22 : decode cX7_addToSums 22 = .ok (.iinc 3 1, 3) := by decide +kernel
theorem dX7_addToSums_25 : decode cX7_addToSums 25 = .ok (.goto (-23), 3) := by decide +kernel
theorem dX7_addToSums_28 : decode cX7_addToSums 28 = .ok (.aload_n 0, 1) := by decide +kernel
theorem dX7_addToSums_29 : decode cX7_addToSums 29 = .ok (.getfield 18, 3) := by decide +kernel
theorem dX7_addToSums_32 : decode cX7_addToSums 32 = .ok (.dup, 1) := by decide +kernel
theorem dX7_addToSums_33 : decode cX7_addToSums 33 = .ok (.getfield 66, 3) := by decide +kernel
theorem dX7_addToSums_36 : decode cX7_addToSums 36 = .ok (.iload_n 2, 1) := by decide +kernel
theorem dX7_addToSums_37 : decode cX7_addToSums 37 = .ok (.iadd, 1) := by decide +kernel
theorem dX7_addToSums_38 : decode cX7_addToSums 38 = .ok (.putfield 66, 3) := by decide +kernel
theorem dX7_addToSums_41 : decode cX7_addToSums 41 = .ok (.return_, 1) := by decide +kernel
theorem dX7_takeFrom_0 : decode cX7_takeFrom 0 = .ok (.aload_n 1, 1) := by decide +kernel
theorem dX7_takeFrom_1 : decode cX7_takeFrom 1 = .ok (.getfield 11, 3) := by decide +kernel
theorem dX7_takeFrom_4 : decode cX7_takeFrom 4 = .ok (.aload_n 0, 1) := by decide +kernel
theorem dX7_takeFrom_5 : decode cX7_takeFrom 5 = .ok (.getfield 11, 3) := by decide +kernel
theorem dX7_takeFrom_8 : decode cX7_takeFrom 8 = .ok (.invokestatic 69, 3) := by decide +kernel
theorem dX7_takeFrom_11 : decode cX7_takeFrom 11 = .ok (.aload_n 0, 1) := by decide +kernel
theorem dX7_takeFrom_12 : decode cX7_takeFrom 12 = .ok (.getfield 18, 3) := by decide +kernel
theorem dX7_takeFrom_15 : decode cX7_takeFrom 15 = .ok (.aload_n 1, 1) := by decide +kernel
theorem dX7_takeFrom_16 : decode cX7_takeFrom 16 = .ok (.getfield 18, 3) := by decide +kernel
theorem dX7_takeFrom_19 : decode cX7_takeFrom 19 = .ok (.invokevirtual 73, 3) := by decide +kernel
theorem dX7_takeFrom_22 : decode cX7_takeFrom 22 = .ok (.aload_n 0, 1) := by decide +kernel
theorem dX7_takeFrom_23 : decode cX7_takeFrom 23 = .ok (.aload_n 1, 1) := by decide +kernel
theorem dX7_takeFrom_24 : decode cX7_takeFrom 24 = .ok (.getfield 22, 3) := by decide +kernel
theorem dX7_takeFrom_27 : decode cX7_takeFrom 27 = .ok (.putfield 22, 3) := by decide +kernel
theorem dX7_takeFrom_30 : decode cX7_takeFrom 30 = .ok (.return_, 1) := by decide +kernel
theorem dX8_init_0 : decode cX8_init 0 = .ok (.aload_n 0, 1) := by decide +kernel
theorem dX8_init_1 : decode cX8_init 1 = .ok (.invokespecial 3, 3) := by decide +kernel
theorem dX8_init_4 : decode cX8_init 4 = .ok (.aload_n 0, 1) := by decide +kernel
theorem dX8_init_5 : decode cX8_init 5 = .ok (.bipush 30, 2) := by decide +kernel
theorem dX8_init_7 : decode cX8_init 7 = .ok (.newarray .char, 2) := by decide +kernel
theorem dX8_init_9 : decode cX8_init 9 = .ok (.putfield 9, 3) := by decide +kernel
theorem dX8_init_12 : decode cX8_init 12 = .ok (.return_, 1) := by decide +kernel
theorem dX8_append_0 : decode cX8_append 0 = .ok (.aload_n 0, 1) := by decide +kernel
theorem dX8_append_1 : decode cX8_append 1 = .ok (.getfield 15, 3) := by decide +kernel
theorem dX8_append_4 : decode cX8_append 4 = .ok (.ifCond .lt 35, 3) := by decide +kernel
theorem dX8_append_7 : decode cX8_append 7 = .ok (.aload_n 0, 1) := by decide +kernel
theorem dX8_append_8 : decode cX8_append 8 = .ok (.getfield 15, 3) := by decide +kernel
theorem dX8_append_11 : decode cX8_append 11 = .ok (.aload_n 0, 1) := by decide +kernel
theorem dX8_append_12 : decode cX8_append 12 = .ok (.getfield 9, 3) := by decide +kernel
theorem dX8_append_15 : decode cX8_append 15 = .ok (.arraylength, 1) := by decide +kernel
theorem dX8_append_16 : decode cX8_append 16 = .ok (.if_icmp .ge 23, 3) := by decide +kernel
theorem dX8_append_19 : decode cX8_append 19 = .ok (.aload_n 0, 1) := by decide +kernel
theorem dX8_append_20 : decode cX8_append 20 = .ok (.getfield 9, 3) := by decide +kernel
theorem dX8_append_23 : decode cX8_append 23 = .ok (.aload_n 0, 1) := by decide +kernel
theorem dX8_append_24 : decode cX8_append 24 = .ok (.getfield 15, 3) := by decide +kernel
theorem dX8_append_27 : decode cX8_append 27 = .ok (.iload_n 1, 1) := by decide +kernel
theorem dX8_append_28 : decode cX8_append 28 = .ok (.castore, 1) := by decide +kernel
theorem dX8_append_29 : decode cX8_append 29 = .ok (.aload_n 0, 1) := by decide +kernel
theorem dX8_append_30 : decode cX8_append 30 = .ok (.dup, 1) := by decide +kernel
theorem dX8_append_31 : decode cX8_append 31 = .ok (.getfield 15, 3) := by decide +kernel
theorem dX8_append_34 : decode cX8_append 34 = .ok (.iconst 1, 1) := by decide +kernel
theorem dX8_append_35 : decode cX8_append 35 = .ok (.iadd, 1) := by decide +kernel
theorem dX8_append_36 : decode cX8_append 36 = .ok (.putfield 15, 3) := by decide +kernel
theorem dX8_append_39 : decode cX8_append 39 = .ok (.aload_n 0, 1) := by decide +kernel
theorem dX8_append_40 : decode cX8_append 40 = .ok (.getfield 15, 3) := by decide +kernel
theorem dX8_append_43 : decode cX8_append 43 = .ok (.ireturn, 1) := by decide +kernel
theorem dX8_empty_0 : decode cX8_empty 0 = .ok (.aload_n 0, 1) := by decide +kernel
theorem dX8_empty_1 : decode cX8_empty 1 = .ok (.getfield 15, 3) := by decide +kernel
theorem dX8_empty_4 : decode cX8_empty 4 = .ok (.istore_n 1, 1) := by decide +kernel
theorem dX8_empty_5 : decode cX8_empty 5 = .ok (.aload_n 0, 1) := by decide +kernel
theorem dX8_empty_6 : decode cX8_empty 6 = .ok (.iconst 0, 1) := by decide +kernel
theorem dX8_empty_7 : decode cX8_empty 7 = .ok (.putfield 15, 3) := by decide +kernel
theorem dX8_empty_10 : decode cX8_empty 10 = .ok (.iload_n 1, 1) := by decide +kernel
theorem dX8_empty_11 : decode cX8_empty 11 = .ok (.ireturn, 1) := by decide +kernel
theorem dX8_faultPlace_0 : decode cX8_faultPlace 0 = .ok (.iconst 0, 1) := by decide +kernel
theorem dX8_faultPlace_1 : decode cX8_faultPlace 1 = .ok (.istore_n 1, 1) := by decide +kernel
theorem dX8_faultPlace_2 : decode cX8_faultPlace 2 = .ok (.iload_n 1, 1) := by decide +kernel
theorem dX8_faultPlace_3 : decode cX8_faultPlace 3 = .ok (.aload_n 0, 1) := by decide +kernel
theorem dX8_faultPlace_4 : decode cX8_faultPlace 4 = .ok (.getfield 15, 3) := by decide +kernel
theorem dX8_faultPlace_7 : decode cX8_faultPlace 7 = .ok (.if_icmp .ge 19, 3) := by decide +kernel
theorem dX8_faultPlace_10 : decode cX8_faultPlace 10 = .ok (.aload_n 0, 1) := by decide +kernel
theorem dX8_faultPlace_11 : decode cX8_faultPlace 11 = .ok (.iload_n 1, 1) := by decide +kernel
theorem dX8_faultPlace_12 : decode cX8_faultPlace 12 = .ok (.invokevirtual 19, 3) := by decide +kernel
theorem dX8_faultPlace_15 : decode cX8_faultPlace 15 = .ok (.ifCond .ne 5, 3) := by decide +kernel
theorem dX8_faultPlace_18 : decode cX8_faultPlace 18 = .ok (.iload_n 1, 1) := by decide +kernel
theorem dX8_faultPlace_19 : decode cX8_faultPlace 19 = .ok (.ireturn, 1) := by decide +kernel
theorem dX8_faultPlace_20 : decode cX8_faultPlace 20 = .ok (.iinc 1 1, 3) := by decide +kernel
theorem dX8_faultPlace_23 : decode cX8_faultPlace 23 = .ok (.goto (-21), 3) := by decide +kernel
theorem dX8_faultPlace_26 : decode cX8_faultPlace 26 = .ok (.aload_n 0, 1) := by decide +kernel
theorem dX8_faultPlace_27 : decode cX8_faultPlace 27 = .ok (.getfield 15, 3) := by decide +kernel
theorem dX8_faultPlace_30 : decode cX8_faultPlace 30 = .ok (.iconst 4, 1) := by decide +kernel
theorem dX8_faultPlace_31 : decode cX8_faultPlace 31 = .ok (.irem, 1) := by decide +kernel
theorem dX8_faultPlace_32 : decode cX8_faultPlace 32 = .ok (.iconst 3, 1) := by decide +kernel
theorem dX8_faultPlace_33 : decode cX8_faultPlace 33 = .ok (.if_icmp .ne 7, 3) := by decide +kernel
theorem dX8_faultPlace_36 : decode cX8_faultPlace 36 = .ok (.iconst (-1), 1) := by decide +kernel
theorem dX8_faultPlace_37 : decode cX8_faultPlace 37 = .ok (.goto 7, 3) := by decide +kernel
theorem dX8_faultPlace_40 : decode cX8_faultPlace 40 = .ok (.aload_n 0, 1) := by decide +kernel
theorem dX8_faultPlace_41 : decode cX8_faultPlace 41 = .ok (.getfield 15, 3) := by decide +kernel
theorem dX8_faultPlace_44 : decode cX8_faultPlace 44 = .ok (.ireturn, 1) := by decide +kernel
theorem dX8_reasonAt_0 : decode cX8_reasonAt 0 = .ok (.aload_n 0, 1) := by decide +kernel
theorem dX8_reasonAt_1 : decode cX8_reasonAt 1 = .ok (.iload_n 1, 1) := by decide +kernel
theorem dX8_reasonAt_2 : decode cX8_reasonAt 2 = .ok (.invokevirtual 23, 3) := by decide +kernel
theorem dX8_reasonAt_5 : decode cX8_reasonAt 5 = .ok (.ifCond .eq 17, 3) := by decide +kernel
theorem dX8_reasonAt_8 : decode cX8_reasonAt 8 = .ok (.aload_n 0, 1) := by decide +kernel
theorem dX8_reasonAt_9 : decode cX8_reasonAt 9 = .ok (.iload_n 1, 1) := by decide +kernel
theorem dX8_reasonAt_10 : decode cX8_reasonAt 10 = .ok (.invokevirtual 26, 3) := by decide +kernel
theorem dX8_reasonAt_13 : decode cX8_reasonAt 13 = .ok (.bipush 38, 2) := by decide +kernel
theorem dX8_reasonAt_15 : decode cX8_reasonAt 15 = .ok (.if_icmp .ne 7, 3) := by decide +kernel
theorem dX8_reasonAt_18 : decode cX8_reasonAt 18 = .ok (.iconst 2, 1) := by decide +kernel
theorem dX8_reasonAt_19 : decode cX8_reasonAt 19 = .ok (.goto 4, 3) := by decide +kernel
theorem dX8_reasonAt_22 : decode cX8_reasonAt 22 = .ok (.iconst 1, 1) := by decide +kernel
theorem dX8_reasonAt_23 : decode cX8_reasonAt 23 = .ok (.ireturn, 1) := by decide +kernel
theorem dX8_conditions_0 : decode cX8_conditions 0 = .ok (.aload_n 0, 1) := by decide +kernel
theorem dX8_conditions_1 : decode cX8_conditions 1 = .ok (.getfield 15, 3) := by decide +kernel
theorem dX8_conditions_4 : decode cX8_conditions 4 = .ok (.iconst 1, 1) := by decide +kernel
theorem dX8_conditions_5 : decode cX8_conditions 5 = .ok (.iadd, 1) := by decide +kernel
theorem dX8_conditions_6 : decode cX8_conditions 6 = .ok (.iconst 4, 1) := by decide +kernel
theorem dX8_conditions_7 : decode cX8_conditions 7 = .ok (.idiv, 1) := by decide +kernel
theorem dX8_conditions_8 : decode cX8_conditions 8 = .ok (.ireturn, 1) := by decide +kernel
theorem dX8_columnOf_0 : decode cX8_columnOf 0 = .ok (.aload_n 0, 1) := by decide +kernel
theorem dX8_columnOf_1 : decode cX8_columnOf 1 = .ok (.iload_n 1, 1) := by decide +kernel
theorem dX8_columnOf_2 : decode cX8_columnOf 2 = .ok (.iconst 4, 1) := by decide +kernel
theorem dX8_columnOf_3 : decode cX8_columnOf 3 = .ok (.imul, 1) := by decide +kernel
theorem dX8_columnOf_4 : decode cX8_columnOf 4 = .ok (.invokevirtual 26, 3) := by decide +kernel
theorem dX8_columnOf_7 : decode cX8_columnOf 7 = .ok (.bipush 97, 2) := by decide +kernel
theorem dX8_columnOf_9 : decode cX8_columnOf 9 = .ok (.isub, 1) := by decide +kernel
theorem dX8_columnOf_10 : decode cX8_columnOf 10 = .ok (.ireturn, 1) := by decide +kernel
theorem dX8_operatorOf_0 : decode cX8_operatorOf 0 = .ok (.ldc 30, 2) := by decide +kernel
theorem dX8_operatorOf_2 : decode cX8_operatorOf 2 = .ok (.aload_n 0, 1) := by decide +kernel
theorem dX8_operatorOf_3 : decode cX8_operatorOf 3 = .ok (.iload_n 1, 1) := by decide +kernel
theorem dX8_operatorOf_4 : decode cX8_operatorOf 4 = .ok (.iconst 4, 1) := by decide +kernel
theorem dX8_operatorOf_5 : decode cX8_operatorOf 5 = .ok (.imul, 1) := by decide +kernel
theorem dX8_operatorOf_6 : decode cX8_operatorOf 6 = .ok (.iconst 1, 1) := by decide +kernel
theorem dX8_operatorOf_7 : decode cX8_operatorOf 7 = .ok (.iadd, 1) := by decide +kernel
theorem dX8_operatorOf_8 : decode cX8_operatorOf 8 = .ok (.invokevirtual 26, 3) := by decide +kernel
theorem dX8_operatorOf_11 : decode cX8_operatorOf 11 = .ok (.invokevirtual 32, 3) := by decide +kernel
theorem dX8_operatorOf_14 : decode cX8_operatorOf 14 = .ok (.ireturn, 1) := by decide +kernel
theorem dX8_canStandAt_0 : decode cX8_canStandAt 0 = .ok (.aload_n 0, 1) := by decide +kernel
theorem dX8_canStandAt_1 : decode cX8_canStandAt 1 = .ok (.iload_n 1, 1) := by decide +kernel
theorem dX8_canStandAt_2 : decode cX8_canStandAt 2 = .ok (.invokevirtual 26, 3) := by decide +kernel
theorem dX8_canStandAt_5 : decode cX8_canStandAt 5 = .ok (.istore_n 2, 1) := by decide +kernel
theorem dX8_canStandAt_6 : decode cX8_canStandAt 6 = .ok (.iload_n 1, 1) := by decide +kernel
theorem dX8_canStandAt_7 : decode cX8_canStandAt 7 = .ok (.iconst 4, 1) := by decide +kernel
theorem dX8_canStandAt_8 : decode cX8_canStandAt 8 = .ok (.irem, 1) := by decide +kernel
theorem dX8_canStandAt_9 : decode cX8_canStandAt 9 = .ok (.tableswitch 72 0 2 #[27, 45, 60], 27) := by decide +kernel
theorem dX8_canStandAt_36 : decode cX8_canStandAt 36 = .ok (.iload_n 2, 1) := by decide +kernel
theorem dX8_canStandAt_37 : decode cX8_canStandAt 37 = .ok (.bipush 97, 2) := by decide +kernel
theorem dX8_canStandAt_39 : decode cX8_canStandAt 39 = .ok (.if_icmp .lt 13, 3) := by decide +kernel
theorem dX8_canStandAt_42 : decode cX8_canStandAt 42 = .ok (.iload_n 2, 1) := by decide +kernel
theorem dX8_canStandAt_43 : decode cX8_canStandAt 43 = .ok (.bipush 101, 2) := by decide +kernel
theorem dX8_canStandAt_45 : decode cX8_canStandAt 45 = .ok (.if_icmp .ge 7, 3) := by decide +kernel
theorem dX8_canStandAt_48 : decode cX8_canStandAt 48 = .ok (.iconst 1, 1) := by decide +kernel
theorem dX8_canStandAt_49 : decode cX8_canStandAt 49 = .ok (.goto 4, 3) := by decide +kernel
theorem dX8_canStandAt_52 : decode cX8_canStandAt 52 = .ok (.iconst 0, 1) := by decide +kernel
theorem dX8_canStandAt_53 : decode cX8_canStandAt 53 = .ok (.ireturn, 1) := by decide +kernel
theorem dX8_canStandAt_54 : decode cX8_canStandAt 54 = .ok (.ldc 30, 2) := by decide +kernel
theorem dX8_canStandAt_56 : decode cX8_canStandAt 56 = .ok (.iload_n 2, 1) := by decide +kernel
theorem dX8_canStandAt_57 : decode cX8_canStandAt 57 = .ok (.invokevirtual 32, 3) := by decide +kernel
theorem dX8_canStandAt_60 : decode cX8_canStandAt 60 = .ok (.ifCond .lt 7, 3) := by decide +kernel
theorem dX8_canStandAt_63 : decode cX8_canStandAt 63 = .ok (.iconst 1, 1) := by decide +kernel
theorem dX8_canStandAt_64 : decode cX8_canStandAt 64 = .ok (.goto 4, 3) := by decide +kernel
theorem dX8_canStandAt_67 : decode cX8_canStandAt 67 = .ok (.iconst 0, 1) := by decide +kernel
theorem dX8_canStandAt_68 : decode cX8_canStandAt 68 = .ok (.ireturn, 1) := by decide +kernel
theorem dX8_canStandAt_69 : decode cX8_canStandAt 69 = .ok (.iload_n 2, 1) := by decide +kernel
theorem dX8_canStandAt_70 : decode cX8_canStandAt 70 = .ok (.bipush 63, 2) := by decide +kernel
theorem dX8_canStandAt_72 : decode cX8_canStandAt 72 = .ok (.if_icmp .ne 7, 3) := by decide +kernel
theorem dX8_canStandAt_75 : decode cX8_canStandAt 75 = .ok (.iconst 1, 1) := by decide +kernel
theorem dX8_canStandAt_76 : decode cX8_canStandAt 76 = .ok (.goto 4, 3) := by decide +kernel
theorem dX8_canStandAt_79 : decode cX8_canStandAt 79 = .ok (.iconst 0, 1) := by decide +kernel
theorem dX8_canStandAt_80 : decode cX8_canStandAt 80 = .ok (.ireturn, 1) := by decide +kernel
theorem dX8_canStandAt_81 : decode cX8_canStandAt 81 = .ok (.iload_n 2, 1) := by decide +kernel
theorem dX8_canStandAt_82 : decode cX8_canStandAt 82 = .ok (.bipush 38, 2) := by decide +kernel
theorem dX8_canStandAt_84 : decode cX8_canStandAt 84 = .ok (.if_icmp .ne 15, 3) := by decide +kernel
theorem dX8_canStandAt_87 : decode cX8_canStandAt 87 = .ok (.aload_n 0, 1) := by decide +kernel
theorem dX8_canStandAt_88 : decode cX8_canStandAt 88 = .ok (.iload_n 1, 1) := by decide +kernel
theorem dX8_canStandAt_89 : decode cX8_canStandAt 89 = .ok (.invokevirtual 23, 3) := by decide +kernel
theorem dX8_canStandAt_92 : decode cX8_canStandAt 92 = .ok (.ifCond .ne 7, 3) := by decide +kernel
theorem dX8_canStandAt_95 : decode cX8_canStandAt 95 = .ok (.iconst 1, 1) := by decide +kernel
theorem dX8_canStandAt_96 : decode cX8_canStandAt 96 = .ok (.goto 4, 3) := by decide +kernel
theorem dX8_canStandAt_99 : decode cX8_canStandAt 99 = .ok (.iconst 0, 1) := by decide +kernel
theorem dX8_canStandAt_100 : decode cX8_canStandAt 100 = .ok (.ireturn, 1) := by decide +kernel
theorem dX8_isBehindLastCondition_0 : decode cX8_isBehindLastCondition 0 = .ok (.iload_n 1, 1) := by decide +kernel
theorem dX8_isBehindLastCondition_1 : decode cX8_isBehindLastCondition 1 = .ok (.bipush 15, 2) := by decide +kernel
theorem dX8_isBehindLastCondition_3 : decode cX8_isBehindLastCondition 3 = .ok (.if_icmp .ne 7, 3) := by decide +kernel
theorem dX8_isBehindLastCondition_6 : decode cX8_isBehindLastCondition 6 = .ok (.iconst 1, 1) := by decide +kernel
theorem dX8_isBehindLastCondition_7 : decode cX8_isBehindLastCondition 7 = .ok (.goto 4, 3) := by decide +kernel
theorem dX8_isBehindLastCondition_10 : decode cX8_isBehindLastCondition 10 = .ok (.iconst 0, 1) := by decide +kernel
theorem dX8_isBehindLastCondition_11 : decode cX8_isBehindLastCondition 11 = .ok (.ireturn, 1) := by decide +kernel
theorem dX8_characterAt_0 : decode cX8_characterAt 0 = .ok (.iload_n 1, 1) := by decide +kernel
theorem dX8_characterAt_1 : decode cX8_characterAt 1 = .ok (.ifCond .lt 29, 3) := by decide +kernel
theorem dX8_characterAt_4 : decode cX8_characterAt 4 = .ok (.iload_n 1, 1) := by decide +kernel
theorem dX8_characterAt_5 : decode cX8_characterAt 5 = .ok (.aload_n 0, 1) := by decide +kernel
theorem dX8_characterAt_6 : decode cX8_characterAt 6 = .ok (.getfield 15, 3) := by decide +kernel
theorem dX8_characterAt_9 : decode cX8_characterAt 9 = .ok (.if_icmp .ge 21, 3) := by decide +kernel
theorem dX8_characterAt_12 : decode cX8_characterAt 12 = .ok (.iload_n 1, 1) := by decide +kernel
theorem dX8_characterAt_13 : decode cX8_characterAt 13 = .ok (.aload_n 0, 1) := by decide +kernel
theorem dX8_characterAt_14 : decode cX8_characterAt 14 = .ok (.getfield 9, 3) := by decide +kernel
theorem dX8_characterAt_17 : decode cX8_characterAt 17 = .ok (.arraylength, 1) := by decide +kernel
theorem dX8_characterAt_18 : decode cX8_characterAt 18 = .ok (.if_icmp .ge 12, 3) := by decide +kernel
theorem dX8_characterAt_21 : decode cX8_characterAt 21 = .ok (.aload_n 0, 1) := by decide +kernel
theorem dX8_characterAt_22 : decode cX8_characterAt 22 = .ok (.getfield 9, 3) := by decide +kernel
theorem dX8_characterAt_25 : decode cX8_characterAt 25 = .ok (.iload_n 1, 1) := by decide +kernel
theorem dX8_characterAt_26 : decode cX8_characterAt 26 = .ok (.caload, 1) := by decide +kernel
theorem dX8_characterAt_27 : decode cX8_characterAt 27 = .ok (.goto 5, 3) := by decide +kernel
theorem dX8_characterAt_30 : decode cX8_characterAt 30 = .ok (.bipush 32, 2) := by decide +kernel
theorem dX8_characterAt_32 : decode cX8_characterAt 32 = .ok (.ireturn, 1) := by decide +kernel
theorem dX9_init_0 : decode cX9_init 0 = .ok (.aload_n 0, 1) := by decide +kernel
theorem dX9_init_1 : decode cX9_init 1 = .ok (.invokespecial 1, 3) := by decide +kernel
theorem dX9_init_4 : decode cX9_init 4 = .ok (.aload_n 0, 1) := by decide +kernel
theorem dX9_init_5 : decode cX9_init 5 = .ok (.new 7, 3) := by decide +kernel
theorem dX9_init_8 : decode cX9_init 8 = .ok (.dup, 1) := by decide +kernel
theorem dX9_init_9 : decode cX9_init 9 = .ok (.invokespecial 9, 3) := by decide +kernel
theorem dX9_init_12 : decode cX9_init 12 = .ok (.putfield 10, 3) := by decide +kernel
theorem dX9_init_15 : decode cX9_init 15 = .ok (.aload_n 0, 1) := by decide +kernel
theorem dX9_init_16 : decode cX9_init 16 = .ok (.new 16, 3) := by decide +kernel
theorem dX9_init_19 : decode cX9_init 19 = .ok (.dup, 1) := by decide +kernel
theorem dX9_init_20 : decode cX9_init 20 = .ok (.invokespecial 18, 3) := by decide +kernel
theorem dX9_init_23 : decode cX9_init 23 = .ok (.putfield 19, 3) := by decide +kernel
theorem dX9_init_26 : decode cX9_init 26 = .ok (.aload_n 0, 1) := by decide +kernel
theorem dX9_init_27 : decode cX9_init 27 = .ok (.new 23, 3) := by decide +kernel
theorem dX9_init_30 : decode cX9_init 30 = .ok (.dup, 1) := by decide +kernel
theorem dX9_init_31 : decode cX9_init 31 = .ok (.invokespecial 25, 3) := by decide +kernel
theorem dX9_init_34 : decode cX9_init 34 = .ok (.putfield 26, 3) := by decide +kernel
theorem dX9_init_37 : decode cX9_init 37 = .ok (.aload_n 0, 1) := by decide +kernel
theorem dX9_init_38 : decode cX9_init 38 = .ok (.iconst 4, 1) := by decide +kernel
theorem dX9_init_39 : decode cX9_init 39 = .ok (.newarray .int, 2) := by decide +kernel
theorem dX9_init_41 : decode cX9_init 41 = .ok (.putfield 30, 3) := by decide +kernel
theorem dX9_init_44 : decode cX9_init 44 = .ok (.return_, 1) := by decide +kernel
theorem dX9_row_0 : decode cX9_row 0 = .ok (.iload_n 1, 1) := by decide +kernel
theorem dX9_row_1 : decode cX9_row 1 = .ok (.invokestatic 34, 3) := by decide +kernel
theorem dX9_row_4 : decode cX9_row 4 = .ok (.ifCond .eq 37, 3) := by decide +kernel
theorem dX9_row_7 : decode cX9_row 7 = .ok (.iload_n 2, 1) := by decide +kernel
theorem dX9_row_8 : decode cX9_row 8 = .ok (.invokestatic 34, 3) := by decide +kernel
theorem dX9_row_11 : decode cX9_row 11 = .ok (.ifCond .eq 30, 3) := by decide +kernel
theorem dX9_row_14 : decode cX9_row 14 = .ok (.iload_n 3, 1) := by decide +kernel
theorem dX9_row_15 : decode cX9_row 15 = .ok (.invokestatic 34, 3) := by decide +kernel
theorem dX9_row_18 : decode cX9_row 18 = .ok (.ifCond .eq 23, 3) := by decide +kernel
theorem dX9_row_21 : decode cX9_row 21 = .ok (.iload 4, 2) := by decide +kernel
theorem dX9_row_23 : decode cX9_row 23 = .ok (.invokestatic 34, 3) := by decide +kernel
theorem dX9_row_26 : decode cX9_row 26 = .ok (.ifCond .eq 15, 3) := by decide +kernel
theorem dX9_row_29 : decode cX9_row 29 = .ok (.iload 5, 2) := by decide +kernel
theorem dX9_row_31 : decode cX9_row 31 = .ok (.iconst 1, 1) := by decide +kernel
theorem dX9_row_32 : decode cX9_row 32 = .ok (.sipush 999, 3) := by decide +kernel
theorem dX9_row_35 : decode cX9_row 35 = .ok (.invokestatic 38, 3) := by decide +kernel
theorem dX9_row_38 : decode cX9_row 38 = .ok (.ifCond .ne 5, 3) := by decide +kernel
theorem dX9_row_41 : decode cX9_row 41 = .ok (.iconst (-1), 1) := by decide +kernel
theorem dX9_row_42 : decode cX9_row 42 = .ok (.ireturn, 1) := by decide +kernel
theorem dX9_row_43 : decode cX9_row 43 = .ok (.aload_n 0, 1) := by decide +kernel
theorem dX9_row_44 : decode cX9_row 44 = .ok (.getfield 10, 3) := by decide +kernel
theorem dX9_row_47 : decode cX9_row 47 = .ok (.getfield 42, 3) := by decide +kernel
theorem dX9_row_50 : decode cX9_row 50 = .ok (.getfield 46, 3) := by decide +kernel
theorem dX9_row_53 : decode cX9_row 53 = .ok (.bipush 30, 2) := by decide +kernel
theorem dX9_row_55 : decode cX9_row 55 = .ok (.if_icmp .lt 6, 3) := by decide +kernel
theorem dX9_row_58 : decode cX9_row 58 = .ok (.bipush (-3), 2) := by decide +kernel
theorem dX9_row_60 : decode cX9_row 60 = .ok (.ireturn, 1) := by decide +kernel
theorem dX9_row_61 : decode cX9_row 61 = .ok (.aload_n 0, 1) := by decide +kernel
theorem dX9_row_62 : decode cX9_row 62 = .ok (.invokevirtual 52, 3) := by decide +kernel
theorem dX9_row_65 : decode cX9_row 65 = .ok (.aload_n 0, 1) := by decide +kernel
theorem dX9_row_66 : decode cX9_row 66 = .ok (.getfield 10, 3) := by decide +kernel
theorem dX9_row_69 : decode cX9_row 69 = .ok (.getfield 42, 3) := by decide +kernel
theorem dX9_row_72 : decode cX9_row 72 = .ok (.aload_n 0, 1) := by decide +kernel
theorem dX9_row_73 : decode cX9_row 73 = .ok (.iload_n 1, 1) := by decide +kernel
theorem dX9_row_74 : decode cX9_row 74 = .ok (.iload_n 2, 1) := by decide +kernel
theorem dX9_row_75 : decode cX9_row 75 = .ok (.iload_n 3, 1) := by decide +kernel
theorem dX9_row_76 : decode cX9_row 76 = .ok (.iload 4, 2) := by decide +kernel
theorem dX9_row_78 : decode cX9_row 78 = .ok (.invokevirtual 55, 3) := by decide +kernel
theorem dX9_row_81 : decode cX9_row 81 = .ok (.iload 5, 2) := by decide +kernel
theorem dX9_row_83 : decode cX9_row 83 = .ok (.invokevirtual 59, 3) := by decide +kernel
theorem dX9_row_86 : decode cX9_row 86 = .ok (.ireturn, 1) := by decide +kernel
theorem dX9_dropRow_0 : decode cX9_dropRow 0 = .ok (.aload_n 0, 1) := by decide +kernel
theorem dX9_dropRow_1 : decode cX9_dropRow 1 = .ok (.getfield 10, 3) := by decide +kernel
theorem dX9_dropRow_4 : decode cX9_dropRow 4 = .ok (.getfield 42, 3) := by decide +kernel
theorem dX9_dropRow_7 : decode cX9_dropRow 7 = .ok (.iload_n 1, 1) := by decide +kernel
theorem dX9_dropRow_8 : decode cX9_dropRow 8 = .ok (.invokevirtual 63, 3) := by decide +kernel
theorem dX9_dropRow_11 : decode cX9_dropRow 11 = .ok (.ifCond .ne 5, 3) := by decide +kernel
theorem dX9_dropRow_14 : decode cX9_dropRow 14 = .ok (.iconst (-1), 1) := by decide +kernel
theorem dX9_dropRow_15 : decode cX9_dropRow 15 = .ok (.ireturn, 1) := by decide +kernel
theorem dX9_dropRow_16 : decode cX9_dropRow 16 = .ok (.aload_n 0, 1) := by decide +kernel
theorem dX9_dropRow_17 : decode cX9_dropRow 17 = .ok (.invokevirtual 52, 3) := by decide +kernel
theorem dX9_dropRow_20 : decode cX9_dropRow 20 = .ok (.aload_n 0, 1) := by decide +kernel
theorem dX9_dropRow_21 : decode cX9_dropRow 21 = .ok (.getfield 10, 3) := by decide +kernel
theorem dX9_dropRow_24 : decode cX9_dropRow 24 = .ok (.getfield 42, 3) := by decide +kernel
theorem dX9_dropRow_27 : decode cX9_dropRow 27 = .ok (.iload_n 1, 1) := by decide +kernel
theorem dX9_dropRow_28 : decode cX9_dropRow 28 = .ok (.invokevirtual 66, 3) := by decide +kernel
theorem dX9_dropRow_31 : decode cX9_dropRow 31 = .ok (.ireturn, 1) := by decide +kernel
theorem dX9_index_0 : decode cX9_index 0 = .ok (.iload_n 1, 1) := by decide +kernel
theorem dX9_index_1 : decode cX9_index 1 = .ok (.invokestatic 70, 3) := by decide +kernel
theorem dX9_index_4 : decode cX9_index 4 = .ok (.ifCond .eq 12, 3) := by decide +kernel
theorem dX9_index_7 : decode cX9_index 7 = .ok (.iload_n 2, 1) := by decide +kernel
theorem dX9_index_8 : decode cX9_index 8 = .ok (.iconst 0, 1) := by decide +kernel
theorem dX9_index_9 : decode cX9_index 9 = .ok (.iconst 1, 1) := by decide +kernel
theorem dX9_index_10 : decode cX9_index 10 = .ok (.invokestatic 38, 3) := by decide +kernel
theorem dX9_index_13 : decode cX9_index 13 = .ok (.ifCond .ne 5, 3) := by decide +kernel
theorem dX9_index_16 : decode cX9_index 16 = .ok (.iconst (-1), 1) := by decide +kernel
theorem dX9_index_17 : decode cX9_index 17 = .ok (.ireturn, 1) := by decide +kernel
theorem dX9_index_18 : decode cX9_index 18 = .ok (.aload_n 0, 1) := by decide +kernel
theorem dX9_index_19 : decode cX9_index 19 = .ok (.getfield 10, 3) := by decide +kernel
theorem dX9_index_22 : decode cX9_index 22 = .ok (.iload_n 1, 1) := by decide +kernel
theorem dX9_index_23 : decode cX9_index 23 = .ok (.invokevirtual 73, 3) := by decide +kernel
theorem dX9_index_26 : decode cX9_index 26 = .ok (.iload_n 2, 1) := by decide +kernel
theorem dX9_index_27 : decode cX9_index 27 = .ok (.iconst 1, 1) := by decide +kernel
theorem dX9_index_28 : decode cX9_index 28 = .ok (.if_icmp .ne 7, 3) := by decide +kernel
theorem dX9_index_31 : decode cX9_index 31 = .ok (.iconst 1, 1) := by decide +kernel
theorem dX9_index_32 : decode cX9_index 32 = .ok (.goto 4, 3) := by decide +kernel
theorem dX9_index_35 : decode cX9_index 35 = .ok (.iconst 0, 1) := by decide +kernel
theorem dX9_index_36 : decode cX9_index 36 = .ok (.if_icmp .ne 6, 3) := by decide +kernel
theorem dX9_index_39 : decode cX9_index 39 = .ok (.bipush (-2), 2) := by decide +kernel
theorem dX9_index_41 : decode cX9_index 41 = .ok (.ireturn, 1) := by decide +kernel
theorem dX9_index_42 : decode cX9_index 42 = .ok (.aload_n 0, 1) := by decide +kernel
theorem dX9_index_43 : decode cX9_index 43 = .ok (.invokevirtual 52, 3) := by decide +kernel
theorem dX9_index_46 : decode cX9_index 46 = .ok (.aload_n 0, 1) := by decide +kernel
theorem dX9_index_47 : decode cX9_index 47 = .ok (.getfield 10, 3) := by decide +kernel
theorem dX9_index_50 : decode cX9_index 50 = .ok (.iload_n 1, 1) := by decide +kernel
theorem dX9_index_51 : decode cX9_index 51 = .ok (.invokevirtual 76, 3) := by decide +kernel
theorem dX9_index_54 : decode cX9_index 54 = .ok (.iload_n 2, 1) := by decide +kernel
theorem dX9_index_55 : decode cX9_index 55 = .ok (.iconst 1, 1) := by decide +kernel
theorem dX9_index_56 : decode cX9_index 56 = .ok (.if_icmp .ne 7, 3) := by decide +kernel
theorem dX9_index_59 : decode cX9_index 59 = .ok (.iconst 0, 1) := by decide +kernel
theorem dX9_index_60 : decode cX9_index 60 = .ok (.goto 11, 3) := by decide +kernel
theorem dX9_index_63 : decode cX9_index 63 = .ok (.aload_n 0, 1) := by decide +kernel
theorem dX9_index_64 : decode cX9_index 64 = .ok (.getfield 10, 3) := by decide +kernel
theorem dX9_index_67 : decode cX9_index 67 = .ok (.iload_n 1, 1) := by decide +kernel
theorem dX9_index_68 : decode cX9_index 68 = .ok (.invokevirtual 80, 3) := by decide +kernel
theorem dX9_index_71 : decode cX9_index 71 = .ok (.ireturn, 1) := by decide +kernel
theorem dX9_analyse_0 : decode cX9_analyse 0 = .ok (.aload_n 0, 1) := by decide +kernel
theorem dX9_analyse_1 : decode cX9_analyse 1 = .ok (.invokevirtual 52, 3) := by decide +kernel
theorem dX9_analyse_4 : decode cX9_analyse 4 = .ok (.aload_n 0, 1) := by decide +kernel
theorem dX9_analyse_5 : decode cX9_analyse 5 = .ok (.getfield 10, 3) := by decide +kernel
theorem dX9_analyse_8 : decode cX9_analyse 8 = .ok (.getfield 83, 3) := by decide +kernel
theorem dX9_analyse_11 : decode cX9_analyse 11 = .ok (.aload_n 0, 1) := by decide +kernel
theorem dX9_analyse_12 : decode cX9_analyse 12 = .ok (.getfield 10, 3) := by decide +kernel
theorem dX9_analyse_15 : decode cX9_analyse 15 = .ok (.getfield 42, 3) := by decide +kernel
theorem dX9_analyse_18 : decode cX9_analyse 18 = .ok (.getfield 87, 3) := by decide +kernel
theorem dX9_analyse_21 : decode cX9_analyse 21 = .ok (.invokevirtual 90, 3) := by decide +kernel
theorem dX9_analyse_24 : decode cX9_analyse 24 = .ok (.aload_n 0, 1) := by decide +kernel
theorem dX9_analyse_25 : decode cX9_analyse 25 = .ok (.getfield 10, 3) := by decide +kernel
theorem dX9_analyse_28 : decode cX9_analyse 28 = .ok (.getfield 83, 3) := by decide +kernel
theorem dX9_analyse_31 : decode cX9_analyse 31 = .ok (.getfield 96, 3) := by decide +kernel
theorem dX9_analyse_34 : decode cX9_analyse 34 = .ok (.ireturn, 1) := by decide +kernel
theorem dX9_rowOf_0 : decode cX9_rowOf 0 = .ok (.aload_n 0, 1) := by decide +kernel
theorem dX9_rowOf_1 : decode cX9_rowOf 1 = .ok (.getfield 10, 3) := by decide +kernel
theorem dX9_rowOf_4 : decode cX9_rowOf 4 = .ok (.getfield 42, 3) := by decide +kernel
theorem dX9_rowOf_7 : decode cX9_rowOf 7 = .ok (.iload_n 1, 1) := by decide +kernel
theorem dX9_rowOf_8 : decode cX9_rowOf 8 = .ok (.invokevirtual 63, 3) := by decide +kernel
theorem dX9_rowOf_11 : decode cX9_rowOf 11 = .ok (.ifCond .eq 12, 3) := by decide +kernel
theorem dX9_rowOf_14 : decode cX9_rowOf 14 = .ok (.iload_n 2, 1) := by decide +kernel
theorem dX9_rowOf_15 : decode cX9_rowOf 15 = .ok (.iconst 0, 1) := by decide +kernel
theorem dX9_rowOf_16 : decode cX9_rowOf 16 = .ok (.iconst 4, 1) := by decide +kernel
theorem dX9_rowOf_17 : decode cX9_rowOf 17 = .ok (.invokestatic 38, 3) := by decide +kernel
theorem dX9_rowOf_20 : decode cX9_rowOf 20 = .ok (.ifCond .ne 5, 3) := by decide +kernel
theorem dX9_rowOf_23 : decode cX9_rowOf 23 = .ok (.iconst (-1), 1) := by decide +kernel
theorem dX9_rowOf_24 : decode cX9_rowOf 24 = .ok (.ireturn, 1) := by decide +kernel
theorem dX9_rowOf_25 : decode cX9_rowOf 25 = .ok (.aload_n 0, 1) := by decide +kernel
theorem dX9_rowOf_26 : decode cX9_rowOf 26 = .ok (.getfield 10, 3) := by decide +kernel
theorem dX9_rowOf_29 : decode cX9_rowOf 29 = .ok (.getfield 42, 3) := by decide +kernel
theorem dX9_rowOf_32 : decode cX9_rowOf 32 = .ok (.iload_n 1, 1) := by decide +kernel
theorem dX9_rowOf_33 : decode cX9_rowOf 33 = .ok (.iload_n 2, 1) := by decide +kernel
theorem dX9_rowOf_34 : decode cX9_rowOf 34 = .ok (.invokevirtual 99, 3) := by decide +kernel
theorem dX9_rowOf_37 : decode cX9_rowOf 37 = .ok (.ireturn, 1) := by decide +kernel
theorem dX9_known_0 : decode cX9_known 0 = .ok (.iload_n 1, 1) := by decide +kernel
theorem dX9_known_1 : decode cX9_known 1 = .ok (.invokestatic 70, 3) := by decide +kernel
theorem dX9_known_4 : decode cX9_known 4 = .ok (.ifCond .eq 10, 3) := by decide +kernel
theorem dX9_known_7 : decode cX9_known 7 = .ok (.iload_n 2, 1) := by decide +kernel
theorem dX9_known_8 : decode cX9_known 8 = .ok (.invokestatic 34, 3) := by decide +kernel
theorem dX9_known_11 : decode cX9_known 11 = .ok (.ifCond .ne 5, 3) := by decide +kernel
theorem dX9_known_14 : decode cX9_known 14 = .ok (.iconst (-1), 1) := by decide +kernel
theorem dX9_known_15 : decode cX9_known 15 = .ok (.ireturn, 1) := by decide +kernel
theorem dX9_known_16 : decode cX9_known 16 = .ok (.aload_n 0, 1) := by decide +kernel
theorem dX9_known_17 : decode cX9_known 17 = .ok (.getfield 10, 3) := by decide +kernel
theorem dX9_known_20 : decode cX9_known 20 = .ok (.getfield 83, 3) := by decide +kernel
theorem dX9_known_23 : decode cX9_known 23 = .ok (.iload_n 1, 1) := by decide +kernel
theorem dX9_known_24 : decode cX9_known 24 = .ok (.iload_n 2, 1) := by decide +kernel
theorem dX9_known_25 : decode cX9_known 25 = .ok (.invokevirtual 103, 3) := by decide +kernel
theorem dX9_known_28 : decode cX9_known 28 = .ok (.ireturn, 1) := by decide +kernel
theorem dX9_statement_0 : decode cX9_statement 0 = .ok (.aload_n 0, 1) := by decide +kernel
theorem dX9_statement_1 : decode cX9_statement 1 = .ok (.getfield 26, 3) := by decide +kernel
theorem dX9_statement_4 : decode cX9_statement 4 = .ok (.invokevirtual 106, 3) := by decide +kernel
theorem dX9_statement_7 : decode cX9_statement 7 = .ok (.iconst (-1), 1) := by decide +kernel
theorem dX9_statement_8 : decode cX9_statement 8 = .ok (.if_icmp .eq 6, 3) := by decide +kernel
theorem dX9_statement_11 : decode cX9_statement 11 = .ok (.bipush (-2), 2) := by decide +kernel
theorem dX9_statement_13 : decode cX9_statement 13 = .ok (.ireturn, 1) := by decide +kernel
theorem dX9_statement_14 : decode cX9_statement 14 = .ok (.aload_n 0, 1) := by decide +kernel
theorem dX9_statement_15 : decode cX9_statement 15 = .ok (.getfield 10, 3) := by decide +kernel
theorem dX9_statement_18 : decode cX9_statement 18 = .ok (.aload_n 0, 1) := by decide +kernel
theorem dX9_statement_19 : decode cX9_statement 19 = .ok (.getfield 26, 3) := by decide +kernel
theorem dX9_statement_22 : decode cX9_statement 22 = .ok (.invokevirtual 110, 3) := by decide +kernel
theorem dX9_statement_25 : decode cX9_statement 25 = .ok (.istore_n 1, 1) := by decide +kernel
theorem dX9_statement_26 : decode cX9_statement 26 = .ok (.iload_n 1, 1) := by decide +kernel
theorem dX9_statement_27 : decode cX9_statement 27 = .ok (.iconst (-1), 1) := by decide +kernel
theorem dX9_statement_28 : decode cX9_statement 28 = .ok (.if_icmp .ne 18, 3) := by decide +kernel
theorem dX9_statement_31 : decode cX9_statement 31 = .ok (.aload_n 0, 1) := by decide +kernel
theorem dX9_statement_32 : decode cX9_statement 32 = .ok (.getfield 10, 3) := by decide +kernel
theorem dX9_statement_35 : decode cX9_statement 35 = .ok (.getfield 114, 3) := by decide +kernel
theorem dX9_statement_38 : decode cX9_statement 38 = .ok (.bipush 6, 2) := by decide +kernel
theorem dX9_statement_40 : decode cX9_statement 40 = .ok (.if_icmp .lt 6, 3) := by decide +kernel
theorem dX9_statement_43 : decode cX9_statement 43 = .ok (.bipush (-3), 2) := by decide +kernel
theorem dX9_statement_45 : decode cX9_statement 45 = .ok (.ireturn, 1) := by decide +kernel
theorem dX9_statement_46 : decode cX9_statement 46 = .ok (.aload_n 0, 1) := by decide +kernel
theorem dX9_statement_47 : decode cX9_statement 47 = .ok (.invokevirtual 52, 3) := by decide +kernel
theorem dX9_statement_50 : decode cX9_statement 50 = .ok (.iload_n 1, 1) := by decide +kernel
theorem dX9_statement_51 : decode cX9_statement 51 = .ok (.iconst (-1), 1) := by decide +kernel
theorem dX9_statement_52 : decode cX9_statement 52 = .ok (.if_icmp .ne 17, 3) := by decide +kernel
theorem dX9_statement_55 : decode cX9_statement 55 = .ok (.aload_n 0, 1) := by decide +kernel
theorem dX9_statement_56 : decode cX9_statement 56 = .ok (.getfield 10, 3) := by decide +kernel
theorem dX9_statement_59 : decode cX9_statement 59 = .ok (.aload_n 0, 1) := by decide +kernel
theorem dX9_statement_60 : decode cX9_statement 60 = .ok (.getfield 26, 3) := by decide +kernel
theorem dX9_statement_63 : decode cX9_statement 63 = .ok (.invokevirtual 117, 3) := by decide +kernel
theorem dX9_statement_66 : decode cX9_statement 66 = .ok (.goto 4, 3) := by decide +kernel
theorem dX9_statement_69 : decode cX9_statement 69 = .ok (.iload_n 1, 1) := by decide +kernel
theorem dX9_statement_70 : decode cX9_statement 70 = .ok (.ireturn, 1) := by decide +kernel
theorem dX9_statementOf_0 : decode cX9_statementOf 0 = .ok (.aload_n 0, 1) := by decide +kernel
theorem dX9_statementOf_1 : decode cX9_statementOf 1 = .ok (.getfield 10, 3) := by decide +kernel
theorem dX9_statementOf_4 : decode cX9_statementOf 4 = .ok (.iload_n 1, 1) := by decide +kernel
theorem dX9_statementOf_5 : decode cX9_statementOf 5 = .ok (.invokevirtual 120, 3) := by decide +kernel
theorem dX9_statementOf_8 : decode cX9_statementOf 8 = .ok (.ifCond .ne 5, 3) := by decide +kernel
theorem dX9_statementOf_11 : decode cX9_statementOf 11 = .ok (.iconst (-1), 1) := by decide +kernel
theorem dX9_statementOf_12 : decode cX9_statementOf 12 = .ok (.ireturn, 1) := by decide +kernel
theorem dX9_statementOf_13 : decode cX9_statementOf 13 = .ok (.aload_n 0, 1) := by decide +kernel
theorem dX9_statementOf_14 : decode cX9_statementOf 14 = .ok (.getfield 10, 3) := by decide +kernel
theorem dX9_statementOf_17 : decode cX9_statementOf 17 = .ok (.iload_n 1, 1) := by decide +kernel
theorem dX9_statementOf_18 : decode cX9_statementOf 18 = .ok (.invokevirtual 123, 3) := by decide +kernel
theorem dX9_statementOf_21 : decode cX9_statementOf 21 = .ok (.astore_n 3, 1) := by decide +kernel
theorem dX9_statementOf_22 : decode cX9_statementOf 22 = .ok (.iload_n 2, 1) := by decide +kernel
theorem dX9_statementOf_23 : decode cX9_statementOf 23 = .ok (.tableswitch 181 0 23 #[109, 114, 126, 181, 181, 181, 181, 181, 181, 181, 131, 131, 131, 131, 181, 181, 181, 181, 181, 181, 156, 156, 156, 156], 109) := by decide +kernel
theorem dX9_statementOf_132 : decode cX9_statementOf 132 = .ok (.aload_n 3, 1) := by decide +kernel
theorem dX9_statementOf_133 : decode cX9_statementOf 133 = .ok (.getfield 127, 3) := by decide +kernel
theorem dX9_statementOf_136 : decode cX9_statementOf 136 = .ok (.ireturn, 1) := by decide +kernel
theorem dX9_statementOf_137 : decode cX9_statementOf 137 = .ok (.aload_n 0, 1) := by decide +kernel
theorem dX9_statementOf_138 : decode cX9_statementOf 138 = .ok (.getfield 10, 3) := by decide +kernel
theorem dX9_statementOf_141 : decode cX9_statementOf 141 = .ok (.getfield 132, 3) := by decide +kernel
theorem dX9_statementOf_144 : decode cX9_statementOf 144 = .ok (.iload_n 1, 1) := by decide +kernel
theorem dX9_statementOf_145 : decode cX9_statementOf 145 = .ok (.invokevirtual 136, 3) := by decide +kernel
theorem dX9_statementOf_148 : decode cX9_statementOf 148 = .ok (.ireturn, 1) := by decide +kernel
theorem dX9_statementOf_149 : decode cX9_statementOf 149 = .ok (.aload_n 3, 1) := by decide +kernel
theorem dX9_statementOf_150 : decode cX9_statementOf 150 = .ok (.getfield 141, 3) := by decide +kernel
theorem dX9_statementOf_153 : decode cX9_statementOf 153 = .ok (.ireturn, 1) := by decide +kernel
theorem dX9_statementOf_154 : decode cX9_statementOf 154 = .ok (.aload_n 3, 1) := by decide +kernel
theorem dX9_statementOf_155 : decode cX9_statementOf 155 = .ok (.iload_n 2, 1) := by decide +kernel
theorem dX9_statementOf_156 : decode cX9_statementOf 156 = .ok (.bipush 10, 2) := by decide +kernel
theorem dX9_statementOf_158 : decode cX9_statementOf 158 = .ok (.isub, 1) := by decide +kernel
theorem dX9_statementOf_159 : decode cX9_statementOf 159 = .ok (.invokevirtual 144, 3) := by decide +kernel
theorem dX9_statementOf_162 : decode cX9_statementOf 162 = .ok (.ifCond .eq 14, 3) := by decide +kernel
theorem dX9_statementOf_165 : decode cX9_statementOf 165 = .ok (.aload_n 3, 1) := by decide +kernel
theorem dX9_statementOf_166 : decode cX9_statementOf 166 = .ok (.iload_n 2, 1) := by decide +kernel
theorem dX9_statementOf_167 : decode cX9_statementOf 167 = .ok (.bipush 10, 2) := by decide +kernel
theorem dX9_statementOf_169 : decode cX9_statementOf 169 = .ok (.isub, 1) := by decide +kernel
theorem dX9_statementOf_170 : decode cX9_statementOf 170 = .ok (.invokevirtual 147, 3) := by decide +kernel
theorem dX9_statementOf_173 : decode cX9_statementOf 173 = .ok (.goto 5, 3) := by decide +kernel
theorem dX9_statementOf_176 : decode cX9_statementOf 176 = .ok (.bipush (-4), 2) := by decide +kernel
theorem dX9_statementOf_178 : decode cX9_statementOf 178 = .ok (.ireturn, 1) := by decide +kernel
theorem dX9_statementOf_179 : decode cX9_statementOf 179 = .ok (.aload_n 3, 1) := by decide +kernel
theorem dX9_statementOf_180 : decode cX9_statementOf 180 = .ok (.iload_n 2, 1) := by decide +kernel
theorem dX9_statementOf_181 : decode cX9_statementOf 181 = .ok (.bipush 20, 2) := by decide +kernel
theorem dX9_statementOf_183 : decode cX9_statementOf 183 = .ok (.isub, 1) := by decide +kernel
theorem dX9_statementOf_184 : decode cX9_statementOf 184 = .ok (.invokevirtual 144, 3) := by decide +kernel
theorem dX9_statementOf_187 : decode cX9_statementOf 187 = .ok (.ifCond .eq 14, 3) := by decide +kernel
theorem dX9_statementOf_190 : decode cX9_statementOf 190 = .ok (.aload_n 3, 1) := by decide +kernel
theorem dX9_statementOf_191 : decode cX9_statementOf 191 = .ok (.iload_n 2, 1) := by decide +kernel
theorem dX9_statementOf_192 : decode cX9_statementOf 192 = .ok (.bipush 20, 2) := by decide +kernel
theorem dX9_statementOf_194 : decode cX9_statementOf 194 = .ok (.isub, 1) := by decide +kernel
theorem dX9_statementOf_195 : decode cX9_statementOf 195 = .ok (.invokevirtual 150, 3) := by decide +kernel
theorem dX9_statementOf_198 : decode cX9_statementOf 198 = .ok (.goto 5, 3) := by decide +kernel
theorem dX9_statementOf_201 : decode cX9_statementOf 201 = .ok (.bipush (-4), 2) := by decide +kernel
theorem dX9_statementOf_203 : decode cX9_statementOf 203 = .ok (.ireturn, 1) := by decide +kernel
theorem dX9_statementOf_204 : decode cX9_statementOf 204 = .ok (.iconst (-1), 1) := by decide +kernel
theorem dX9_statementOf_205 : decode cX9_statementOf 205 = .ok (.ireturn, 1) := by decide +kernel
theorem dX9_run_0 : decode cX9_run 0 = .ok (.aload_n 0, 1) := by decide +kernel
theorem dX9_run_1 : decode cX9_run 1 = .ok (.iload_n 1, 1) := by decide +kernel
theorem dX9_run_2 : decode cX9_run 2 = .ok (.iload_n 2, 1) := by decide +kernel
theorem dX9_run_3 : decode cX9_run 3 = .ok (.iload_n 3, 1) := by decide +kernel
theorem dX9_run_4 : decode cX9_run 4 = .ok (.iload 4, 2) := by decide +kernel
theorem dX9_run_6 : decode cX9_run 6 = .ok (.iload 5, 2) := by decide +kernel
theorem dX9_run_8 : decode cX9_run 8 = .ok (.invokevirtual 153, 3) := by decide +kernel
theorem dX9_run_11 : decode cX9_run 11 = .ok (.ifCond .ne 5, 3) := by decide +kernel
theorem dX9_run_14 : decode cX9_run 14 = .ok (.iconst (-1), 1) := by decide +kernel
theorem dX9_run_15 : decode cX9_run 15 = .ok (.ireturn, 1) := by decide +kernel
theorem dX9_run_16 : decode cX9_run 16 = .ok (.aload_n 0, 1) := by decide +kernel
theorem dX9_run_17 : decode cX9_run 17 = .ok (.invokevirtual 52, 3) := by decide +kernel
theorem dX9_run_20 : decode cX9_run 20 = .ok (.aload_n 0, 1) := by decide +kernel
theorem dX9_run_21 : decode cX9_run 21 = .ok (.getfield 10, 3) := by decide +kernel
theorem dX9_run_24 : decode cX9_run 24 = .ok (.iload_n 1, 1) := by decide +kernel
theorem dX9_run_25 : decode cX9_run 25 = .ok (.aload_n 0, 1) := by decide +kernel
theorem dX9_run_26 : decode cX9_run 26 = .ok (.iload_n 2, 1) := by decide +kernel
theorem dX9_run_27 : decode cX9_run 27 = .ok (.iload_n 3, 1) := by decide +kernel
theorem dX9_run_28 : decode cX9_run 28 = .ok (.iload 4, 2) := by decide +kernel
theorem dX9_run_30 : decode cX9_run 30 = .ok (.iload 5, 2) := by decide +kernel
theorem dX9_run_32 : decode cX9_run 32 = .ok (.invokevirtual 55, 3) := by decide +kernel
theorem dX9_run_35 : decode cX9_run 35 = .ok (.invokevirtual 157, 3) := by decide +kernel
theorem dX9_run_38 : decode cX9_run 38 = .ok (.ireturn, 1) := by decide +kernel
theorem dX9_latest_0 : decode cX9_latest 0 = .ok (.iload_n 1, 1) := by decide +kernel
theorem dX9_latest_1 : decode cX9_latest 1 = .ok (.iconst 0, 1) := by decide +kernel
theorem dX9_latest_2 : decode cX9_latest 2 = .ok (.bipush 7, 2) := by decide +kernel
theorem dX9_latest_4 : decode cX9_latest 4 = .ok (.invokestatic 38, 3) := by decide +kernel
theorem dX9_latest_7 : decode cX9_latest 7 = .ok (.ifCond .ne 5, 3) := by decide +kernel
theorem dX9_latest_10 : decode cX9_latest 10 = .ok (.iconst (-1), 1) := by decide +kernel
theorem dX9_latest_11 : decode cX9_latest 11 = .ok (.ireturn, 1) := by decide +kernel
theorem dX9_latest_12 : decode cX9_latest 12 = .ok (.aload_n 0, 1) := by decide +kernel
theorem dX9_latest_13 : decode cX9_latest 13 = .ok (.getfield 10, 3) := by decide +kernel
theorem dX9_latest_16 : decode cX9_latest 16 = .ok (.getfield 161, 3) := by decide +kernel
theorem dX9_latest_19 : decode cX9_latest 19 = .ok (.iload_n 1, 1) := by decide +kernel
theorem dX9_latest_20 : decode cX9_latest 20 = .ok (.invokevirtual 165, 3) := by decide +kernel
theorem dX9_latest_23 : decode cX9_latest 23 = .ok (.ireturn, 1) := by decide +kernel
theorem dX9_pin_0 : decode cX9_pin 0 = .ok (.aload_n 0, 1) := by decide +kernel
theorem dX9_pin_1 : decode cX9_pin 1 = .ok (.getfield 10, 3) := by decide +kernel
theorem dX9_pin_4 : decode cX9_pin 4 = .ok (.getfield 132, 3) := by decide +kernel
theorem dX9_pin_7 : decode cX9_pin 7 = .ok (.iload_n 1, 1) := by decide +kernel
theorem dX9_pin_8 : decode cX9_pin 8 = .ok (.invokevirtual 170, 3) := by decide +kernel
theorem dX9_pin_11 : decode cX9_pin 11 = .ok (.istore_n 3, 1) := by decide +kernel
theorem dX9_pin_12 : decode cX9_pin 12 = .ok (.iload_n 3, 1) := by decide +kernel
theorem dX9_pin_13 : decode cX9_pin 13 = .ok (.iconst (-1), 1) := by decide +kernel
theorem dX9_pin_14 : decode cX9_pin 14 = .ok (.if_icmp .eq 12, 3) := by decide +kernel
theorem dX9_pin_17 : decode cX9_pin 17 = .ok (.iload_n 2, 1) := by decide +kernel
theorem dX9_pin_18 : decode cX9_pin 18 = .ok (.iconst 0, 1) := by decide +kernel
theorem dX9_pin_19 : decode cX9_pin 19 = .ok (.iconst 1, 1) := by decide +kernel
theorem dX9_pin_20 : decode cX9_pin 20 = .ok (.invokestatic 38, 3) := by decide +kernel
theorem dX9_pin_23 : decode cX9_pin 23 = .ok (.ifCond .ne 5, 3) := by decide +kernel
theorem dX9_pin_26 : decode cX9_pin 26 = .ok (.iconst (-1), 1) := by decide +kernel
theorem dX9_pin_27 : decode cX9_pin 27 = .ok (.ireturn, 1) := by decide +kernel
theorem dX9_pin_28 : decode cX9_pin 28 = .ok (.aload_n 0, 1) := by decide +kernel
theorem dX9_pin_29 : decode cX9_pin 29 = .ok (.invokevirtual 52, 3) := by decide +kernel
theorem dX9_pin_32 : decode cX9_pin 32 = .ok (.aload_n 0, 1) := by decide +kernel
theorem dX9_pin_33 : decode cX9_pin 33 = .ok (.getfield 10, 3) := by decide +kernel
theorem dX9_pin_36 : decode cX9_pin 36 = .ok (.getfield 132, 3) := by decide +kernel
theorem dX9_pin_39 : decode cX9_pin 39 = .ok (.iload_n 3, 1) := by decide +kernel
theorem dX9_pin_40 : decode cX9_pin 40 = .ok (.invokevirtual 173, 3) := by decide +kernel
theorem dX9_pin_43 : decode cX9_pin 43 = .ok (.iload_n 2, 1) := by decide +kernel
theorem dX9_pin_44 : decode cX9_pin 44 = .ok (.iconst 1, 1) := by decide +kernel
theorem dX9_pin_45 : decode cX9_pin 45 = .ok (.if_icmp .ne 7, 3) := by decide +kernel
theorem dX9_pin_48 : decode cX9_pin 48 = .ok (.iconst 1, 1) := by decide +kernel
theorem dX9_pin_49 : decode cX9_pin 49 = .ok (.goto 4, 3) := by decide +kernel
theorem dX9_pin_52 : decode cX9_pin 52 = .ok (.iconst 0, 1) := by decide +kernel
theorem dX9_pin_53 : decode cX9_pin 53 = .ok (.putfield 177, 3) := by decide +kernel
theorem dX9_pin_56 : decode cX9_pin 56 = .ok (.aload_n 0, 1) := by decide +kernel
theorem dX9_pin_57 : decode cX9_pin 57 = .ok (.getfield 10, 3) := by decide +kernel
theorem dX9_pin_60 : decode cX9_pin 60 = .ok (.getfield 132, 3) := by decide +kernel
theorem dX9_pin_63 : decode cX9_pin 63 = .ok (.invokevirtual 183, 3) := by decide +kernel
theorem dX9_pin_66 : decode cX9_pin 66 = .ok (.ireturn, 1) := by decide +kernel
theorem dX9_drop_0 : decode cX9_drop 0 = .ok (.aload_n 0, 1) := by decide +kernel
theorem dX9_drop_1 : decode cX9_drop 1 = .ok (.getfield 10, 3) := by decide +kernel
theorem dX9_drop_4 : decode cX9_drop 4 = .ok (.getfield 132, 3) := by decide +kernel
theorem dX9_drop_7 : decode cX9_drop 7 = .ok (.iload_n 1, 1) := by decide +kernel
theorem dX9_drop_8 : decode cX9_drop 8 = .ok (.invokevirtual 170, 3) := by decide +kernel
theorem dX9_drop_11 : decode cX9_drop 11 = .ok (.istore_n 2, 1) := by decide +kernel
theorem dX9_drop_12 : decode cX9_drop 12 = .ok (.iload_n 2, 1) := by decide +kernel
theorem dX9_drop_13 : decode cX9_drop 13 = .ok (.iconst (-1), 1) := by decide +kernel
theorem dX9_drop_14 : decode cX9_drop 14 = .ok (.if_icmp .ne 5, 3) := by decide +kernel
theorem dX9_drop_17 : decode cX9_drop 17 = .ok (.iconst (-1), 1) := by decide +kernel
theorem dX9_drop_18 : decode cX9_drop 18 = .ok (.ireturn, 1) := by decide +kernel
theorem dX9_drop_19 : decode cX9_drop 19 = .ok (.aload_n 0, 1) := by decide +kernel
theorem dX9_drop_20 : decode cX9_drop 20 = .ok (.getfield 10, 3) := by decide +kernel
theorem dX9_drop_23 : decode cX9_drop 23 = .ok (.getfield 132, 3) := by decide +kernel
theorem dX9_drop_26 : decode cX9_drop 26 = .ok (.iload_n 2, 1) := by decide +kernel
theorem dX9_drop_27 : decode cX9_drop 27 = .ok (.invokevirtual 173, 3) := by decide +kernel
theorem dX9_drop_30 : decode cX9_drop 30 = .ok (.getfield 177, 3) := by decide +kernel
theorem dX9_drop_33 : decode cX9_drop 33 = .ok (.ifCond .eq 6, 3) := by decide +kernel
theorem dX9_drop_36 : decode cX9_drop 36 = .ok (.bipush (-2), 2) := by decide +kernel
theorem dX9_drop_38 : decode cX9_drop 38 = .ok (.ireturn, 1) := by decide +kernel
theorem dX9_drop_39 : decode cX9_drop 39 = .ok (.aload_n 0, 1) := by decide +kernel
theorem dX9_drop_40 : decode cX9_drop 40 = .ok (.invokevirtual 52, 3) := by decide +kernel
theorem dX9_drop_43 : decode cX9_drop 43 = .ok (.aload_n 0, 1) := by decide +kernel
theorem dX9_drop_44 : decode cX9_drop 44 = .ok (.getfield 10, 3) := by decide +kernel
theorem dX9_drop_47 : decode cX9_drop 47 = .ok (.getfield 132, 3) := by decide +kernel
theorem dX9_drop_50 : decode cX9_drop 50 = .ok (.iload_n 2, 1) := by decide +kernel
theorem dX9_drop_51 : decode cX9_drop 51 = .ok (.invokevirtual 185, 3) := by decide +kernel
theorem dX9_drop_54 : decode cX9_drop 54 = .ok (.aload_n 0, 1) := by decide +kernel
theorem dX9_drop_55 : decode cX9_drop 55 = .ok (.getfield 10, 3) := by decide +kernel
theorem dX9_drop_58 : decode cX9_drop 58 = .ok (.getfield 132, 3) := by decide +kernel
theorem dX9_drop_61 : decode cX9_drop 61 = .ok (.getfield 188, 3) := by decide +kernel
theorem dX9_drop_64 : decode cX9_drop 64 = .ok (.ireturn, 1) := by decide +kernel
theorem dX9_set_0 : decode cX9_set 0 = .ok (.iload_n 1, 1) := by decide +kernel
theorem dX9_set_1 : decode cX9_set 1 = .ok (.iconst 0, 1) := by decide +kernel
theorem dX9_set_2 : decode cX9_set 2 = .ok (.iconst 4, 1) := by decide +kernel
theorem dX9_set_3 : decode cX9_set 3 = .ok (.invokestatic 38, 3) := by decide +kernel
theorem dX9_set_6 : decode cX9_set 6 = .ok (.ifCond .eq 24, 3) := by decide +kernel
theorem dX9_set_9 : decode cX9_set 9 = .ok (.iload_n 2, 1) := by decide +kernel
theorem dX9_set_10 : decode cX9_set 10 = .ok (.getstatic 191, 3) := by decide +kernel
theorem dX9_set_13 : decode cX9_set 13 = .ok (.iload_n 1, 1) := by decide +kernel
theorem dX9_set_14 : decode cX9_set 14 = .ok (.invokestatic 194, 3) := by decide +kernel
theorem dX9_set_17 : decode cX9_set 17 = .ok (.getstatic 197, 3) := by decide +kernel
theorem dX9_set_20 : decode cX9_set 20 = .ok (.iload_n 1, 1) := by decide +kernel
theorem dX9_set_21 : decode cX9_set 21 = .ok (.invokestatic 194, 3) := by decide +kernel
theorem dX9_set_24 : decode cX9_set 24 = .ok (.invokestatic 38, 3) := by decide +kernel
theorem dX9_set_27 : decode cX9_set 27 = .ok (.ifCond .ne 5, 3) := by decide +kernel
theorem dX9_set_30 : decode cX9_set 30 = .ok (.iconst (-1), 1) := by decide +kernel
theorem dX9_set_31 : decode cX9_set 31 = .ok (.ireturn, 1) := by decide +kernel
theorem dX9_set_32 : decode cX9_set 32 = .ok (.aload_n 0, 1) := by decide +kernel
theorem dX9_set_33 : decode cX9_set 33 = .ok (.invokevirtual 52, 3) := by decide +kernel
theorem dX9_set_36 : decode cX9_set 36 = .ok (.aload_n 0, 1) := by decide +kernel
theorem dX9_set_37 : decode cX9_set 37 = .ok (.getfield 10, 3) := by decide +kernel
theorem dX9_set_40 : decode cX9_set 40 = .ok (.iload_n 1, 1) := by decide +kernel
theorem dX9_set_41 : decode cX9_set 41 = .ok (.iload_n 2, 1) := by decide +kernel
theorem dX9_set_42 : decode cX9_set 42 = .ok (.invokevirtual 200, 3) := by decide +kernel
theorem dX9_set_45 : decode cX9_set 45 = .ok (.ireturn, 1) := by decide +kernel
theorem dX9_planOf_0 : decode cX9_planOf 0 = .ok (.aload_n 0, 1) := by decide +kernel
theorem dX9_planOf_1 : decode cX9_planOf 1 = .ok (.getfield 10, 3) := by decide +kernel
theorem dX9_planOf_4 : decode cX9_planOf 4 = .ok (.getfield 132, 3) := by decide +kernel
theorem dX9_planOf_7 : decode cX9_planOf 7 = .ok (.iload_n 1, 1) := by decide +kernel
theorem dX9_planOf_8 : decode cX9_planOf 8 = .ok (.invokevirtual 170, 3) := by decide +kernel
theorem dX9_planOf_11 : decode cX9_planOf 11 = .ok (.istore_n 3, 1) := by decide +kernel
theorem dX9_planOf_12 : decode cX9_planOf 12 = .ok (.iload_n 3, 1) := by decide +kernel
theorem dX9_planOf_13 : decode cX9_planOf 13 = .ok (.iconst (-1), 1) := by decide +kernel
theorem dX9_planOf_14 : decode cX9_planOf 14 = .ok (.if_icmp .eq 13, 3) := by decide +kernel
theorem dX9_planOf_17 : decode cX9_planOf 17 = .ok (.iload_n 2, 1) := by decide +kernel
theorem dX9_planOf_18 : decode cX9_planOf 18 = .ok (.iconst 0, 1) := by decide +kernel
theorem dX9_planOf_19 : decode cX9_planOf 19 = .ok (.bipush 7, 2) := by decide +kernel
theorem dX9_planOf_21 : decode cX9_planOf 21 = .ok (.invokestatic 38, 3) := by decide +kernel
theorem dX9_planOf_24 : decode cX9_planOf 24 = .ok (.ifCond .ne 5, 3) := by decide +kernel
theorem dX9_planOf_27 : decode cX9_planOf 27 = .ok (.iconst (-1), 1) := by decide +kernel
theorem dX9_planOf_28 : decode cX9_planOf 28 = .ok (.ireturn, 1) := by decide +kernel
theorem dX9_planOf_29 : decode cX9_planOf 29 = .ok (.aload_n 0, 1) := by decide +kernel
theorem dX9_planOf_30 : decode cX9_planOf 30 = .ok (.getfield 10, 3) := by decide +kernel
theorem dX9_planOf_33 : decode cX9_planOf 33 = .ok (.getfield 132, 3) := by decide +kernel
theorem dX9_planOf_36 : decode cX9_planOf 36 = .ok (.iload_n 3, 1) := by decide +kernel
theorem dX9_planOf_37 : decode cX9_planOf 37 = .ok (.invokevirtual 173, 3) := by decide +kernel
theorem dX9_planOf_40 : decode cX9_planOf 40 = .ok (.iload_n 2, 1) := by decide +kernel
theorem dX9_planOf_41 : decode cX9_planOf 41 = .ok (.aload_n 0, 1) := by decide +kernel
theorem dX9_planOf_42 : decode cX9_planOf 42 = .ok (.getfield 10, 3) := by decide +kernel
theorem dX9_planOf_45 : decode cX9_planOf 45 = .ok (.getfield 203, 3) := by decide +kernel
theorem dX9_planOf_48 : decode cX9_planOf 48 = .ok (.invokevirtual 204, 3) := by decide +kernel
theorem dX9_planOf_51 : decode cX9_planOf 51 = .ok (.ireturn, 1) := by decide +kernel
theorem dX9_planFor_0 : decode cX9_planFor 0 = .ok (.aload_n 0, 1) := by decide +kernel
theorem dX9_planFor_1 : decode cX9_planFor 1 = .ok (.getfield 10, 3) := by decide +kernel
theorem dX9_planFor_4 : decode cX9_planFor 4 = .ok (.iload_n 1, 1) := by decide +kernel
theorem dX9_planFor_5 : decode cX9_planFor 5 = .ok (.invokevirtual 120, 3) := by decide +kernel
theorem dX9_planFor_8 : decode cX9_planFor 8 = .ok (.ifCond .eq 13, 3) := by decide +kernel
theorem dX9_planFor_11 : decode cX9_planFor 11 = .ok (.iload_n 2, 1) := by decide +kernel
theorem dX9_planFor_12 : decode cX9_planFor 12 = .ok (.iconst 0, 1) := by decide +kernel
theorem dX9_planFor_13 : decode cX9_planFor 13 = .ok (.bipush 80, 2) := by decide +kernel
theorem dX9_planFor_15 : decode cX9_planFor 15 = .ok (.invokestatic 38, 3) := by decide +kernel
theorem dX9_planFor_18 : decode cX9_planFor 18 = .ok (.ifCond .ne 5, 3) := by decide +kernel
theorem dX9_planFor_21 : decode cX9_planFor 21 = .ok (.iconst (-1), 1) := by decide +kernel
theorem dX9_planFor_22 : decode cX9_planFor 22 = .ok (.ireturn, 1) := by decide +kernel
theorem dX9_planFor_23 : decode cX9_planFor 23 = .ok (.aload_n 0, 1) := by decide +kernel
theorem dX9_planFor_24 : decode cX9_planFor 24 = .ok (.getfield 10, 3) := by decide +kernel
theorem dX9_planFor_27 : decode cX9_planFor 27 = .ok (.getfield 132, 3) := by decide +kernel
theorem dX9_planFor_30 : decode cX9_planFor 30 = .ok (.aload_n 0, 1) := by decide +kernel
theorem dX9_planFor_31 : decode cX9_planFor 31 = .ok (.getfield 10, 3) := by decide +kernel
theorem dX9_planFor_34 : decode cX9_planFor 34 = .ok (.getfield 132, 3) := by decide +kernel
theorem dX9_planFor_37 : decode cX9_planFor 37 = .ok (.iload_n 1, 1) := by decide +kernel
theorem dX9_planFor_38 : decode cX9_planFor 38 = .ok (.iload_n 2, 1) := by decide +kernel
theorem dX9_planFor_39 : decode cX9_planFor 39 = .ok (.invokevirtual 206, 3) := by decide +kernel
theorem dX9_planFor_42 : decode cX9_planFor 42 = .ok (.invokevirtual 209, 3) := by decide +kernel
theorem dX9_planFor_45 : decode cX9_planFor 45 = .ok (.ireturn, 1) := by decide +kernel
theorem dX9_count_0 : decode cX9_count 0 = .ok (.iload_n 1, 1) := by decide +kernel
theorem dX9_count_1 : decode cX9_count 1 = .ok (.tableswitch 266 0 24 #[115, 126, 140, 151, 159, 167, 178, 189, 197, 205, 216, 224, 235, 243, 266, 266, 266, 266, 266, 266, 251, 251, 251, 251, 251], 115) := by decide +kernel
theorem dX9_count_116 : decode cX9_count 116 = .ok (.aload_n 0, 1) := by decide +kernel
theorem dX9_count_117 : decode cX9_count 117 = .ok (.getfield 10, 3) := by decide +kernel
theorem dX9_count_120 : decode cX9_count 120 = .ok (.getfield 42, 3) := by decide +kernel
theorem dX9_count_123 : decode cX9_count 123 = .ok (.getfield 46, 3) := by decide +kernel
theorem dX9_count_126 : decode cX9_count 126 = .ok (.ireturn, 1) := by decide +kernel
theorem dX9_count_127 : decode cX9_count 127 = .ok (.aload_n 0, 1) := by decide +kernel
theorem dX9_count_128 : decode cX9_count 128 = .ok (.getfield 10, 3) := by decide +kernel
theorem dX9_count_131 : decode cX9_count 131 = .ok (.getfield 42, 3) := by decide +kernel
theorem dX9_count_134 : decode cX9_count 134 = .ok (.getfield 87, 3) := by decide +kernel
theorem dX9_count_137 : decode cX9_count 137 = .ok (.getfield 96, 3) := by decide +kernel
theorem dX9_count_140 : decode cX9_count 140 = .ok (.ireturn, 1) := by decide +kernel
theorem dX9_count_141 : decode cX9_count 141 = .ok (.aload_n 0, 1) := by decide +kernel
theorem dX9_count_142 : decode cX9_count 142 = .ok (.getfield 10, 3) := by decide +kernel
theorem dX9_count_145 : decode cX9_count 145 = .ok (.getfield 83, 3) := by decide +kernel
theorem dX9_count_148 : decode cX9_count 148 = .ok (.getfield 96, 3) := by decide +kernel
theorem dX9_count_151 : decode cX9_count 151 = .ok (.ireturn, 1) := by decide +kernel
theorem dX9_count_152 : decode cX9_count 152 = .ok (.aload_n 0, 1) := by decide +kernel
theorem dX9_count_153 : decode cX9_count 153 = .ok (.getfield 10, 3) := by decide +kernel
theorem dX9_count_156 : decode cX9_count 156 = .ok (.getfield 215, 3) := by decide +kernel
theorem dX9_count_159 : decode cX9_count 159 = .ok (.ireturn, 1) := by decide +kernel
theorem dX9_count_160 : decode cX9_count 160 = .ok (.aload_n 0, 1) := by decide +kernel
theorem dX9_count_161 : decode cX9_count 161 = .ok (.getfield 10, 3) := by decide +kernel
theorem dX9_count_164 : decode cX9_count 164 = .ok (.getfield 114, 3) := by decide +kernel
theorem dX9_count_167 : decode cX9_count 167 = .ok (.ireturn, 1) := by decide +kernel
theorem dX9_count_168 : decode cX9_count 168 = .ok (.aload_n 0, 1) := by decide +kernel
theorem dX9_count_169 : decode cX9_count 169 = .ok (.getfield 10, 3) := by decide +kernel
theorem dX9_count_172 : decode cX9_count 172 = .ok (.getfield 132, 3) := by decide +kernel
theorem dX9_count_175 : decode cX9_count 175 = .ok (.getfield 188, 3) := by decide +kernel
theorem dX9_count_178 : decode cX9_count 178 = .ok (.ireturn, 1) := by decide +kernel
theorem dX9_count_179 : decode cX9_count 179 = .ok (.aload_n 0, 1) := by decide +kernel
theorem dX9_count_180 : decode cX9_count 180 = .ok (.getfield 10, 3) := by decide +kernel
theorem dX9_count_183 : decode cX9_count 183 = .ok (.getfield 132, 3) := by decide +kernel
theorem dX9_count_186 : decode cX9_count 186 = .ok (.invokevirtual 183, 3) := by decide +kernel
theorem dX9_count_189 : decode cX9_count 189 = .ok (.ireturn, 1) := by decide +kernel
theorem dX9_count_190 : decode cX9_count 190 = .ok (.aload_n 0, 1) := by decide +kernel
theorem dX9_count_191 : decode cX9_count 191 = .ok (.getfield 10, 3) := by decide +kernel
theorem dX9_count_194 : decode cX9_count 194 = .ok (.getfield 203, 3) := by decide +kernel
theorem dX9_count_197 : decode cX9_count 197 = .ok (.ireturn, 1) := by decide +kernel
theorem dX9_count_198 : decode cX9_count 198 = .ok (.aload_n 0, 1) := by decide +kernel
theorem dX9_count_199 : decode cX9_count 199 = .ok (.getfield 10, 3) := by decide +kernel
theorem dX9_count_202 : decode cX9_count 202 = .ok (.getfield 218, 3) := by decide +kernel
theorem dX9_count_205 : decode cX9_count 205 = .ok (.ireturn, 1) := by decide +kernel
theorem dX9_count_206 : decode cX9_count 206 = .ok (.aload_n 0, 1) := by decide +kernel
theorem dX9_count_207 : decode cX9_count 207 = .ok (.getfield 10, 3) := by decide +kernel
theorem dX9_count_210 : decode cX9_count 210 = .ok (.getfield 132, 3) := by decide +kernel
theorem dX9_count_213 : decode cX9_count 213 = .ok (.getfield 221, 3) := by decide +kernel
theorem dX9_count_216 : decode cX9_count 216 = .ok (.ireturn, 1) := by decide +kernel
theorem dX9_count_217 : decode cX9_count 217 = .ok (.aload_n 0, 1) := by decide +kernel
theorem dX9_count_218 : decode cX9_count 218 = .ok (.getfield 10, 3) := by decide +kernel
theorem dX9_count_221 : decode cX9_count 221 = .ok (.getfield 224, 3) := by decide +kernel
theorem dX9_count_224 : decode cX9_count 224 = .ok (.ireturn, 1) := by decide +kernel
theorem dX9_count_225 : decode cX9_count 225 = .ok (.aload_n 0, 1) := by decide +kernel
theorem dX9_count_226 : decode cX9_count 226 = .ok (.getfield 10, 3) := by decide +kernel
theorem dX9_count_229 : decode cX9_count 229 = .ok (.getfield 132, 3) := by decide +kernel
theorem dX9_count_232 : decode cX9_count 232 = .ok (.getfield 227, 3) := by decide +kernel
theorem dX9_count_235 : decode cX9_count 235 = .ok (.ireturn, 1) := by decide +kernel
theorem dX9_count_236 : decode cX9_count 236 = .ok (.aload_n 0, 1) := by decide +kernel
theorem dX9_count_237 : decode cX9_count 237 = .ok (.getfield 19, 3) := by decide +kernel
theorem dX9_count_240 : decode cX9_count 240 = .ok (.getfield 230, 3) := by decide +kernel
theorem dX9_count_243 : decode cX9_count 243 = .ok (.ireturn, 1) := by decide +kernel
theorem dX9_count_244 : decode cX9_count 244 = .ok (.aload_n 0, 1) := by decide +kernel
theorem dX9_count_245 : decode cX9_count 245 = .ok (.getfield 26, 3) := by decide +kernel
theorem dX9_count_248 : decode cX9_count 248 = .ok (.getfield 231, 3) := by decide +kernel
theorem dX9_count_251 : decode cX9_count 251 = .ok (.ireturn, 1) := by decide +kernel
theorem dX9_count_252 : decode cX9_count 252 = .ok (.aload_n 0, 1) := by decide +kernel
theorem dX9_count_253 : decode cX9_count 253 = .ok (.getfield 10, 3) := by decide +kernel
theorem dX9_count_256 : decode cX9_count 256 = .ok (.getfield 234, 3) := by decide +kernel
theorem dX9_count_259 : decode cX9_count 259 = .ok (.iload_n 1, 1) := by decide +kernel
theorem dX9_count_260 : decode cX9_count 260 = .ok (.bipush 20, 2) := by decide +kernel
theorem dX9_count_262 : decode cX9_count 262 = .ok (.isub, 1) := by decide +kernel
theorem dX9_count_263 : decode cX9_count 263 = .ok (.invokestatic 194, 3) := by decide +kernel
theorem dX9_count_266 : decode cX9_count 266 = .ok (.ireturn, 1) := by decide +kernel
theorem dX9_count_267 : decode cX9_count 267 = .ok (.iconst (-1), 1) := by decide +kernel
theorem dX9_count_268 : decode cX9_count 268 = .ok (.ireturn, 1) := by decide +kernel
theorem dX9_type_0 : decode cX9_type 0 = .ok (.iload_n 1, 1) := by decide +kernel
theorem dX9_type_1 : decode cX9_type 1 = .ok (.bipush 32, 2) := by decide +kernel
theorem dX9_type_3 : decode cX9_type 3 = .ok (.bipush 126, 2) := by decide +kernel
theorem dX9_type_5 : decode cX9_type 5 = .ok (.invokestatic 38, 3) := by decide +kernel
theorem dX9_type_8 : decode cX9_type 8 = .ok (.ifCond .ne 5, 3) := by decide +kernel
theorem dX9_type_11 : decode cX9_type 11 = .ok (.iconst (-1), 1) := by decide +kernel
theorem dX9_type_12 : decode cX9_type 12 = .ok (.ireturn, 1) := by decide +kernel
theorem dX9_type_13 : decode cX9_type 13 = .ok (.aload_n 0, 1) := by decide +kernel
theorem dX9_type_14 : decode cX9_type 14 = .ok (.getfield 26, 3) := by decide +kernel
theorem dX9_type_17 : decode cX9_type 17 = .ok (.getfield 231, 3) := by decide +kernel
theorem dX9_type_20 : decode cX9_type 20 = .ok (.bipush 30, 2) := by decide +kernel
theorem dX9_type_22 : decode cX9_type 22 = .ok (.if_icmp .lt 6, 3) := by decide +kernel
theorem dX9_type_25 : decode cX9_type 25 = .ok (.bipush (-3), 2) := by decide +kernel
theorem dX9_type_27 : decode cX9_type 27 = .ok (.ireturn, 1) := by decide +kernel
theorem dX9_type_28 : decode cX9_type 28 = .ok (.aload_n 0, 1) := by decide +kernel
theorem dX9_type_29 : decode cX9_type 29 = .ok (.getfield 26, 3) := by decide +kernel
theorem dX9_type_32 : decode cX9_type 32 = .ok (.iload_n 1, 1) := by decide +kernel
theorem dX9_type_33 : decode cX9_type 33 = .ok (.i2c, 1) := by decide +kernel
theorem dX9_type_34 : decode cX9_type 34 = .ok (.invokevirtual 262, 3) := by decide +kernel
theorem dX9_type_37 : decode cX9_type 37 = .ok (.ireturn, 1) := by decide +kernel
theorem dX9_clearText_0 : decode cX9_clearText 0 = .ok (.aload_n 0, 1) := by decide +kernel
theorem dX9_clearText_1 : decode cX9_clearText 1 = .ok (.getfield 26, 3) := by decide +kernel
theorem dX9_clearText_4 : decode cX9_clearText 4 = .ok (.invokevirtual 265, 3) := by decide +kernel
theorem dX9_clearText_7 : decode cX9_clearText 7 = .ok (.ireturn, 1) := by decide +kernel
theorem dX9_fault_0 : decode cX9_fault 0 = .ok (.iload_n 1, 1) := by decide +kernel
theorem dX9_fault_1 : decode cX9_fault 1 = .ok (.iconst 0, 1) := by decide +kernel
theorem dX9_fault_2 : decode cX9_fault 2 = .ok (.iconst 1, 1) := by decide +kernel
theorem dX9_fault_3 : decode cX9_fault 3 = .ok (.invokestatic 38, 3) := by decide +kernel
theorem dX9_fault_6 : decode cX9_fault 6 = .ok (.ifCond .ne 5, 3) := by decide +kernel
theorem dX9_fault_9 : decode cX9_fault 9 = .ok (.iconst (-1), 1) := by decide +kernel
theorem dX9_fault_10 : decode cX9_fault 10 = .ok (.ireturn, 1) := by decide +kernel
theorem dX9_fault_11 : decode cX9_fault 11 = .ok (.aload_n 0, 1) := by decide +kernel
theorem dX9_fault_12 : decode cX9_fault 12 = .ok (.getfield 26, 3) := by decide +kernel
theorem dX9_fault_15 : decode cX9_fault 15 = .ok (.invokevirtual 106, 3) := by decide +kernel
theorem dX9_fault_18 : decode cX9_fault 18 = .ok (.istore_n 2, 1) := by decide +kernel
theorem dX9_fault_19 : decode cX9_fault 19 = .ok (.iload_n 2, 1) := by decide +kernel
theorem dX9_fault_20 : decode cX9_fault 20 = .ok (.iconst (-1), 1) := by decide +kernel
theorem dX9_fault_21 : decode cX9_fault 21 = .ok (.if_icmp .ne 6, 3) := by decide +kernel
theorem dX9_fault_24 : decode cX9_fault 24 = .ok (.bipush (-4), 2) := by decide +kernel
theorem dX9_fault_26 : decode cX9_fault 26 = .ok (.ireturn, 1) := by decide +kernel
theorem dX9_fault_27 : decode cX9_fault 27 = .ok (.iload_n 1, 1) := by decide +kernel
theorem dX9_fault_28 : decode cX9_fault 28 = .ok (.ifCond .ne 7, 3) := by decide +kernel
theorem dX9_fault_31 : decode cX9_fault 31 = .ok (.iload_n 2, 1) := by decide +kernel
theorem dX9_fault_32 : decode cX9_fault 32 = .ok (.goto 11, 3) := by decide +kernel
theorem dX9_fault_35 : decode cX9_fault 35 = .ok (.aload_n 0, 1) := by decide +kernel
theorem dX9_fault_36 : decode cX9_fault 36 = .ok (.getfield 26, 3) := by decide +kernel
theorem dX9_fault_39 : decode cX9_fault 39 = .ok (.iload_n 2, 1) := by decide +kernel
theorem dX9_fault_40 : decode cX9_fault 40 = .ok (.invokevirtual 268, 3) := by decide +kernel
theorem dX9_fault_43 : decode cX9_fault 43 = .ok (.ireturn, 1) := by decide +kernel
theorem dX9_record_0 : decode cX9_record 0 = .ok (.aload_n 0, 1) := by decide +kernel
theorem dX9_record_1 : decode cX9_record 1 = .ok (.getfield 19, 3) := by decide +kernel
theorem dX9_record_4 : decode cX9_record 4 = .ok (.aload_n 0, 1) := by decide +kernel
theorem dX9_record_5 : decode cX9_record 5 = .ok (.getfield 10, 3) := by decide +kernel
theorem dX9_record_8 : decode cX9_record 8 = .ok (.invokevirtual 271, 3) := by decide +kernel
theorem dX9_record_11 : decode cX9_record 11 = .ok (.return_, 1) := by decide +kernel
theorem dX9_accepts_0 : decode cX9_accepts 0 = .ok (.aload_n 0, 1) := by decide +kernel
theorem dX9_accepts_1 : decode cX9_accepts 1 = .ok (.getfield 10, 3) := by decide +kernel
theorem dX9_accepts_4 : decode cX9_accepts 4 = .ok (.iload_n 1, 1) := by decide +kernel
theorem dX9_accepts_5 : decode cX9_accepts 5 = .ok (.invokevirtual 120, 3) := by decide +kernel
theorem dX9_accepts_8 : decode cX9_accepts 8 = .ok (.ifCond .ne 5, 3) := by decide +kernel
theorem dX9_accepts_11 : decode cX9_accepts 11 = .ok (.iconst 0, 1) := by decide +kernel
theorem dX9_accepts_12 : decode cX9_accepts 12 = .ok (.ireturn, 1) := by decide +kernel
theorem dX9_accepts_13 : decode cX9_accepts 13 = .ok (.aload_n 0, 1) := by decide +kernel
theorem dX9_accepts_14 : decode cX9_accepts 14 = .ok (.getfield 10, 3) := by decide +kernel
theorem dX9_accepts_17 : decode cX9_accepts 17 = .ok (.iload_n 1, 1) := by decide +kernel
theorem dX9_accepts_18 : decode cX9_accepts 18 = .ok (.invokevirtual 123, 3) := by decide +kernel
theorem dX9_accepts_21 : decode cX9_accepts 21 = .ok (.astore 6, 2) := by decide +kernel
theorem dX9_accepts_23 : decode cX9_accepts 23 = .ok (.aload 6, 2) := by decide +kernel
theorem dX9_accepts_25 : decode cX9_accepts 25 = .ok (.iconst 0, 1) := by decide +kernel
theorem dX9_accepts_26 : decode cX9_accepts 26 = .ok (.iload_n 2, 1) := by decide +kernel
theorem dX9_accepts_27 : decode cX9_accepts 27 = .ok (.invokevirtual 274, 3) := by decide +kernel
theorem dX9_accepts_30 : decode cX9_accepts 30 = .ok (.ifCond .eq 39, 3) := by decide +kernel
theorem dX9_accepts_33 : decode cX9_accepts 33 = .ok (.aload 6, 2) := by decide +kernel
theorem dX9_accepts_35 : decode cX9_accepts 35 = .ok (.iconst 1, 1) := by decide +kernel
theorem dX9_accepts_36 : decode cX9_accepts 36 = .ok (.iload_n 3, 1) := by decide +kernel
theorem dX9_accepts_37 : decode cX9_accepts 37 = .ok (.invokevirtual 274, 3) := by decide +kernel
theorem dX9_accepts_40 : decode cX9_accepts 40 = .ok (.ifCond .eq 29, 3) := by decide +kernel
theorem dX9_accepts_43 : decode cX9_accepts 43 = .ok (.aload 6, 2) := by decide +kernel
theorem dX9_accepts_45 : decode cX9_accepts 45 = .ok (.iconst 2, 1) := by decide +kernel
theorem dX9_accepts_46 : decode cX9_accepts 46 = .ok (.iload 4, 2) := by decide +kernel
theorem dX9_accepts_48 : decode cX9_accepts 48 = .ok (.invokevirtual 274, 3) := by decide +kernel
theorem dX9_accepts_51 : decode cX9_accepts 51 = .ok (.ifCond .eq 18, 3) := by decide +kernel
theorem dX9_accepts_54 : decode cX9_accepts 54 = .ok (.aload 6, 2) := by decide +kernel
theorem dX9_accepts_56 : decode cX9_accepts 56 = .ok (.iconst 3, 1) := by decide +kernel
theorem dX9_accepts_57 : decode cX9_accepts 57 = .ok (.iload 5, 2) := by decide +kernel
theorem dX9_accepts_59 : decode cX9_accepts 59 = .ok (.invokevirtual 274, 3) := by decide +kernel
theorem dX9_accepts_62 : decode cX9_accepts 62 = .ok (.ifCond .eq 7, 3) := by decide +kernel
theorem dX9_accepts_65 : decode cX9_accepts 65 = .ok (.iconst 1, 1) := by decide +kernel
theorem dX9_accepts_66 : decode cX9_accepts 66 = .ok (.goto 4, 3) := by decide +kernel
theorem dX9_accepts_69 : decode cX9_accepts 69 = .ok (.iconst 0, 1) := by decide +kernel
theorem dX9_accepts_70 : decode cX9_accepts 70 = .ok (.ireturn, 1) := by decide +kernel
theorem dX9_gathered_0 : decode cX9_gathered 0 = .ok (.aload_n 0, 1) := by decide +kernel
theorem dX9_gathered_1 : decode cX9_gathered 1 = .ok (.getfield 30, 3) := by decide +kernel
theorem dX9_gathered_4 : decode cX9_gathered 4 = .ok (.iconst 0, 1) := by decide +kernel
theorem dX9_gathered_5 : decode cX9_gathered 5 = .ok (.iload_n 1, 1) := by decide +kernel
theorem dX9_gathered_6 : decode cX9_gathered 6 = .ok (.invokestatic 278, 3) := by decide +kernel
theorem dX9_gathered_9 : decode cX9_gathered 9 = .ok (.aload_n 0, 1) := by decide +kernel
theorem dX9_gathered_10 : decode cX9_gathered 10 = .ok (.getfield 30, 3) := by decide +kernel
theorem dX9_gathered_13 : decode cX9_gathered 13 = .ok (.iconst 1, 1) := by decide +kernel
theorem dX9_gathered_14 : decode cX9_gathered 14 = .ok (.iload_n 2, 1) := by decide +kernel
theorem dX9_gathered_15 : decode cX9_gathered 15 = .ok (.invokestatic 278, 3) := by decide +kernel
theorem dX9_gathered_18 : decode cX9_gathered 18 = .ok (.aload_n 0, 1) := by decide +kernel
theorem dX9_gathered_19 : decode cX9_gathered 19 = .ok (.getfield 30, 3) := by decide +kernel
theorem dX9_gathered_22 : decode cX9_gathered 22 = .ok (.iconst 2, 1) := by decide +kernel
theorem dX9_gathered_23 : decode cX9_gathered 23 = .ok (.iload_n 3, 1) := by decide +kernel
theorem dX9_gathered_24 : decode cX9_gathered 24 = .ok (.invokestatic 278, 3) := by decide +kernel
theorem dX9_gathered_27 : decode cX9_gathered 27 = .ok (.aload_n 0, 1) := by decide +kernel
theorem dX9_gathered_28 : decode cX9_gathered 28 = .ok (.getfield 30, 3) := by decide +kernel
theorem dX9_gathered_31 : decode cX9_gathered 31 = .ok (.iconst 3, 1) := by decide +kernel
theorem dX9_gathered_32 : decode cX9_gathered 32 = .ok (.iload 4, 2) := by decide +kernel
theorem dX9_gathered_34 : decode cX9_gathered 34 = .ok (.invokestatic 278, 3) := by decide +kernel
theorem dX9_gathered_37 : decode cX9_gathered 37 = .ok (.aload_n 0, 1) := by decide +kernel
theorem dX9_gathered_38 : decode cX9_gathered 38 = .ok (.getfield 30, 3) := by decide +kernel
theorem dX9_gathered_41 : decode cX9_gathered 41 = .ok (.areturn, 1) := by decide +kernel
theorem dX9_within_0 : decode cX9_within 0 = .ok (.iload_n 0, 1) := by decide +kernel
theorem dX9_within_1 : decode cX9_within 1 = .ok (.iload_n 1, 1) := by decide +kernel
theorem dX9_within_2 : decode cX9_within 2 = .ok (.if_icmp .lt 12, 3) := by decide +kernel
theorem dX9_within_5 : decode cX9_within 5 = .ok (.iload_n 0, 1) := by decide +kernel
theorem dX9_within_6 : decode cX9_within 6 = .ok (.iload_n 2, 1) := by decide +kernel
theorem dX9_within_7 : decode cX9_within 7 = .ok (.if_icmp .gt 7, 3) := by decide +kernel
theorem dX9_within_10 : decode cX9_within 10 = .ok (.iconst 1, 1) := by decide +kernel
theorem dX9_within_11 : decode cX9_within 11 = .ok (.goto 4, 3) := by decide +kernel
theorem dX9_within_14 : decode cX9_within 14 = .ok (.iconst 0, 1) := by decide +kernel
theorem dX9_within_15 : decode cX9_within 15 = .ok (.ireturn, 1) := by decide +kernel
theorem dX9_isValue_0 : decode cX9_isValue 0 = .ok (.iload_n 0, 1) := by decide +kernel
theorem dX9_isValue_1 : decode cX9_isValue 1 = .ok (.iconst 0, 1) := by decide +kernel
theorem dX9_isValue_2 : decode cX9_isValue 2 = .ok (.bipush 31, 2) := by decide +kernel
theorem dX9_isValue_4 : decode cX9_isValue 4 = .ok (.invokestatic 38, 3) := by decide +kernel
theorem dX9_isValue_7 : decode cX9_isValue 7 = .ok (.ireturn, 1) := by decide +kernel
theorem dX9_isColumn_0 : decode cX9_isColumn 0 = .ok (.iload_n 0, 1) := by decide +kernel
theorem dX9_isColumn_1 : decode cX9_isColumn 1 = .ok (.iconst 0, 1) := by decide +kernel
theorem dX9_isColumn_2 : decode cX9_isColumn 2 = .ok (.iconst 3, 1) := by decide +kernel
theorem dX9_isColumn_3 : decode cX9_isColumn 3 = .ok (.invokestatic 38, 3) := by decide +kernel
theorem dX9_isColumn_6 : decode cX9_isColumn 6 = .ok (.ireturn, 1) := by decide +kernel
theorem dX9_at_0 : decode cX9_at 0 = .ok (.iload_n 1, 1) := by decide +kernel
theorem dX9_at_1 : decode cX9_at 1 = .ok (.ifCond .lt 15, 3) := by decide +kernel
theorem dX9_at_4 : decode cX9_at 4 = .ok (.iload_n 1, 1) := by decide +kernel
theorem dX9_at_5 : decode cX9_at 5 = .ok (.aload_n 0, 1) := by decide +kernel
theorem dX9_at_6 : decode cX9_at 6 = .ok (.arraylength, 1) := by decide +kernel
theorem dX9_at_7 : decode cX9_at 7 = .ok (.if_icmp .ge 9, 3) := by decide +kernel
theorem dX9_at_10 : decode cX9_at 10 = .ok (.aload_n 0, 1) := by decide +kernel
theorem dX9_at_11 : decode cX9_at 11 = .ok (.iload_n 1, 1) := by decide +kernel
theorem dX9_at_12 : decode cX9_at 12 = .ok (.iaload, 1) := by decide +kernel
theorem dX9_at_13 : decode cX9_at 13 = .ok (.goto 4, 3) := by decide +kernel
theorem dX9_at_16 : decode cX9_at 16 = .ok (.iconst 0, 1) := by decide +kernel
theorem dX9_at_17 : decode cX9_at 17 = .ok (.ireturn, 1) := by decide +kernel
theorem dX9_put_0 : decode cX9_put 0 = .ok (.iload_n 1, 1) := by decide +kernel
theorem dX9_put_1 : decode cX9_put 1 = .ok (.ifCond .lt 13, 3) := by decide +kernel
theorem dX9_put_4 : decode cX9_put 4 = .ok (.iload_n 1, 1) := by decide +kernel
theorem dX9_put_5 : decode cX9_put 5 = .ok (.aload_n 0, 1) := by decide +kernel
theorem dX9_put_6 : decode cX9_put 6 = .ok (.arraylength, 1) := by decide +kernel
theorem dX9_put_7 : decode cX9_put 7 = .ok (.if_icmp .ge 7, 3) := by decide +kernel
theorem dX9_put_10 : decode cX9_put 10 = .ok (.aload_n 0, 1) := by decide +kernel
theorem dX9_put_11 : decode cX9_put 11 = .ok (.iload_n 1, 1) := by decide +kernel
theorem dX9_put_12 : decode cX9_put 12 = .ok (.iload_n 2, 1) := by decide +kernel
theorem dX9_put_13 : decode cX9_put 13 = .ok (.iastore, 1) := by decide +kernel
theorem dX9_put_14 : decode cX9_put 14 = .ok (.return_, 1) := by decide +kernel
theorem dX9_copy_0 : decode cX9_copy 0 = .ok (.iconst 0, 1) := by decide +kernel
theorem dX9_copy_1 : decode cX9_copy 1 = .ok (.istore_n 2, 1) := by decide +kernel
theorem dX9_copy_2 : decode cX9_copy 2 = .ok (.iload_n 2, 1) := by decide +kernel
theorem dX9_copy_3 : decode cX9_copy 3 = .ok (.aload_n 0, 1) := by decide +kernel
theorem dX9_copy_4 : decode cX9_copy 4 = .ok (.arraylength, 1) := by decide +kernel
theorem dX9_copy_5 : decode cX9_copy 5 = .ok (.if_icmp .ge 21, 3) := by decide +kernel
theorem dX9_copy_8 : decode cX9_copy 8 = .ok (.iload_n 2, 1) := by decide +kernel
theorem dX9_copy_9 : decode cX9_copy 9 = .ok (.aload_n 1, 1) := by decide +kernel
theorem dX9_copy_10 : decode cX9_copy 10 = .ok (.arraylength, 1) := by decide +kernel
theorem dX9_copy_11 : decode cX9_copy 11 = .ok (.if_icmp .ge 15, 3) := by decide +kernel
theorem dX9_copy_14 : decode cX9_copy 14 = .ok (.aload_n 1, 1) := by decide +kernel
theorem dX9_copy_15 : decode cX9_copy 15 = .ok (.iload_n 2, 1) := by decide +kernel
theorem dX9_copy_16 : decode cX9_copy 16 = .ok (.aload_n 0, 1) := by decide +kernel
theorem dX9_copy_17 : decode cX9_copy 17 = .ok (.iload_n 2, 1) := by decide +kernel
theorem dX9_copy_18 : decode cX9_copy 18 = .ok (.iaload, 1) := by decide +kernel
theorem dX9_copy_19 : decode cX9_copy 19 = .ok (.iastore, 1) := by decide +kernel
theorem dX9_copy_20 : decode cX9_copy 20 = .ok (.iinc 2 1, 3) := by decide +kernel
theorem dX9_copy_23 : decode cX9_copy 23 = .ok (.goto (-21), 3) := by decide +kernel
theorem dX9_copy_26 : decode cX9_copy 26 = .ok (.return_, 1) := by decide +kernel
theorem dX9_holds_0 : decode cX9_holds 0 = .ok (.iload_n 1, 1) := by decide +kernel
theorem dX9_holds_1 : decode cX9_holds 1 = .ok (.lookupswitch 49 #[(1, 27), (2, 38)], 27) := by decide +kernel
theorem dX9_holds_28 : decode cX9_holds 28 = .ok (.iload_n 0, 1) := by decide +kernel
theorem dX9_holds_29 : decode cX9_holds 29 = .ok (.iload_n 2, 1) := by decide +kernel
theorem dX9_holds_30 : decode cX9_holds 30 = .ok (.if_icmp .ge 7, 3) := by decide +kernel
theorem dX9_holds_33 : decode cX9_holds 33 = .ok (.iconst 1, 1) := by decide +kernel
theorem dX9_holds_34 : decode cX9_holds 34 = .ok (.goto 4, 3) := by decide +kernel
theorem dX9_holds_37 : decode cX9_holds 37 = .ok (.iconst 0, 1) := by decide +kernel
theorem dX9_holds_38 : decode cX9_holds 38 = .ok (.ireturn, 1) := by decide +kernel
theorem dX9_holds_39 : decode cX9_holds 39 = .ok (.iload_n 0, 1) := by decide +kernel
theorem dX9_holds_40 : decode cX9_holds 40 = .ok (.iload_n 2, 1) := by decide +kernel
theorem dX9_holds_41 : decode cX9_holds 41 = .ok (.if_icmp .le 7, 3) := by decide +kernel
theorem dX9_holds_44 : decode cX9_holds 44 = .ok (.iconst 1, 1) := by decide +kernel
theorem dX9_holds_45 : decode cX9_holds 45 = .ok (.goto 4, 3) := by decide +kernel
theorem dX9_holds_48 : decode cX9_holds 48 = .ok (.iconst 0, 1) := by decide +kernel
theorem dX9_holds_49 : decode cX9_holds 49 = .ok (.ireturn, 1) := by decide +kernel
theorem dX9_holds_50 : decode cX9_holds 50 = .ok (.iload_n 0, 1) := by decide +kernel
theorem dX9_holds_51 : decode cX9_holds 51 = .ok (.iload_n 2, 1) := by decide +kernel
theorem dX9_holds_52 : decode cX9_holds 52 = .ok (.if_icmp .ne 7, 3) := by decide +kernel
theorem dX9_holds_55 : decode cX9_holds 55 = .ok (.iconst 1, 1) := by decide +kernel
theorem dX9_holds_56 : decode cX9_holds 56 = .ok (.goto 4, 3) := by decide +kernel
theorem dX9_holds_59 : decode cX9_holds 59 = .ok (.iconst 0, 1) := by decide +kernel
theorem dX9_holds_60 : decode cX9_holds 60 = .ok (.ireturn, 1) := by decide +kernel
theorem dX9_cost_0 : decode cX9_cost 0 = .ok (.iload_n 3, 1) := by decide +kernel
theorem dX9_cost_1 : decode cX9_cost 1 = .ok (.bipush 9, 2) := by decide +kernel
theorem dX9_cost_3 : decode cX9_cost 3 = .ok (.if_icmp .ne 8, 3) := by decide +kernel
theorem dX9_cost_6 : decode cX9_cost 6 = .ok (.aload_n 0, 1) := by decide +kernel
theorem dX9_cost_7 : decode cX9_cost 7 = .ok (.getfield 96, 3) := by decide +kernel
theorem dX9_cost_10 : decode cX9_cost 10 = .ok (.ireturn, 1) := by decide +kernel
theorem dX9_cost_11 : decode cX9_cost 11 = .ok (.bipush 10, 2) := by decide +kernel
theorem dX9_cost_13 : decode cX9_cost 13 = .ok (.aload_n 0, 1) := by decide +kernel
theorem dX9_cost_14 : decode cX9_cost 14 = .ok (.aload_n 1, 1) := by decide +kernel
theorem dX9_cost_15 : decode cX9_cost 15 = .ok (.iload_n 3, 1) := by decide +kernel
theorem dX9_cost_16 : decode cX9_cost 16 = .ok (.invokevirtual 147, 3) := by decide +kernel
theorem dX9_cost_19 : decode cX9_cost 19 = .ok (.aload_n 1, 1) := by decide +kernel
theorem dX9_cost_20 : decode cX9_cost 20 = .ok (.iload_n 3, 1) := by decide +kernel
theorem dX9_cost_21 : decode cX9_cost 21 = .ok (.invokevirtual 150, 3) := by decide +kernel
theorem dX9_cost_24 : decode cX9_cost 24 = .ok (.aload_n 2, 1) := by decide +kernel
theorem dX9_cost_25 : decode cX9_cost 25 = .ok (.iload_n 3, 1) := by decide +kernel
theorem dX9_cost_26 : decode cX9_cost 26 = .ok (.invokestatic 194, 3) := by decide +kernel
theorem dX9_cost_29 : decode cX9_cost 29 = .ok (.invokevirtual 282, 3) := by decide +kernel
theorem dX9_cost_32 : decode cX9_cost 32 = .ok (.iadd, 1) := by decide +kernel
theorem dX9_cost_33 : decode cX9_cost 33 = .ok (.ireturn, 1) := by decide +kernel
