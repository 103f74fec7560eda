theorem mn_X9_183 : jMN RX9 183 yX3_pinned := Or.inl (tb_in 828 (by decide +kernel) rfl)
theorem mn_X9_185 : jMN RX9 185 yX3_throwAway := Or.inl (tb_in 836 (by decide +kernel) rfl)
theorem mn_X9_194 : jMN RX9 194 yX9_at := Or.inl (tb_in 497 (by decide +kernel) rfl)
theorem mn_X9_200 : jMN RX9 200 yX4_changeSetting := Or.inl (tb_in 500 (by decide +kernel) rfl)
theorem mn_X9_204 : jMN RX9 204 yX2_tell := Or.inl (tb_in 877 (by decide +kernel) rfl)
theorem mn_X9_206 : jMN RX9 206 yX3_placeFor := Or.inl (tb_in 885 (by decide +kernel) rfl)
theorem mn_X9_209 : jMN RX9 209 yX3_numberAt := Or.inl (tb_in 886 (by decide +kernel) rfl)
theorem mn_X9_262 : jMN RX9 262 yX8_append := Or.inl (tb_in 521 (by decide +kernel) rfl)
theorem mn_X9_265 : jMN RX9 265 yX8_empty := Or.inl (tb_in 513 (by decide +kernel) rfl)
theorem mn_X9_268 : jMN RX9 268 yX8_reasonAt := Or.inl (tb_in 632 (by decide +kernel) rfl)
theorem mn_X9_271 : jMN RX9 271 yX0_push := Or.inl (tb_in 342 (by decide +kernel) rfl)
theorem mn_X9_274 : jMN RX9 274 yX5_takes := Or.inl (tb_in 716 (by decide +kernel) rfl)
theorem mn_X9_278 : jMN RX9 278 yX9_put := Or.inl (tb_in 398 (by decide +kernel) rfl)
theorem mn_X9_282 : jMN RX9 282 yX6_weightWhere := Or.inl (tb_in 795 (by decide +kernel) rfl)
theorem mn_X0_17 : jMN RX0 17 yX4_init := Or.inl (tb_in 274 (by decide +kernel) rfl)
theorem mn_X0_22 : jMN RX0 22 yX0_forgetOldest := Or.inl (tb_in 346 (by decide +kernel) rfl)
theorem mn_X0_25 : jMN RX0 25 yX4_takeFrom := Or.inl (tb_in 350 (by decide +kernel) rfl)
theorem mn_X1_23 : jMN RX1 23 yX9_copy := Or.inr ⟨"PlanShelves", nw_in 392 (by decide +kernel) rfl⟩
theorem mn_X3_17 : jMN RX3 17 yX2_init := Or.inr ⟨"PlanShelves", nw_in 103 (by decide +kernel) rfl⟩
theorem mn_X3_26 : jMN RX3 26 yX3_planAt := Or.inl (tb_in 380 (by decide +kernel) rfl)
theorem mn_X3_43 : jMN RX3 43 yX3_droppedAheadOf := Or.inl (tb_in 765 (by decide +kernel) rfl)
theorem mn_X3_47 : jMN RX3 47 yX2_dropsAheadOf := Or.inl (tb_in 769 (by decide +kernel) rfl)
theorem mn_X3_51 : jMN RX3 51 yX3_placeToDrop := Or.inl (tb_in 761 (by decide +kernel) rfl)
theorem mn_X3_55 : jMN RX3 55 yX3_numberAt := Or.inl (tb_in 773 (by decide +kernel) rfl)
theorem mn_X3_58 : jMN RX3 58 yX3_remove := Or.inl (tb_in 470 (by decide +kernel) rfl)
theorem mn_X3_65 : jMN RX3 65 yX2_begin := Or.inl (tb_in 781 (by decide +kernel) rfl)
theorem mn_X3_75 : jMN RX3 75 yX2_takeFrom := Or.inl (tb_in 384 (by decide +kernel) rfl)
theorem mn_X4_11 : jMN RX4 11 yX7_init := Or.inr ⟨"PlanShelves", nw_in 33 (by decide +kernel) rfl⟩
theorem mn_X4_20 : jMN RX4 20 yX6_init := Or.inr ⟨"PlanShelves", nw_in 68 (by decide +kernel) rfl⟩
theorem mn_X4_31 : jMN RX4 31 yX5_init := Or.inr ⟨"PlanShelves", nw_in 72 (by decide +kernel) rfl⟩
theorem mn_X4_38 : jMN RX4 38 yX3_init := Or.inl (tb_in 96 (by decide +kernel) rfl)
theorem mn_X4_45 : jMN RX4 45 yX1_init := Or.inr ⟨"PlanShelves", nw_in 172 (by decide +kernel) rfl⟩
theorem mn_X4_61 : jMN RX4 61 yX3_planAt := Or.inl (tb_in 460 (by decide +kernel) rfl)
theorem mn_X4_73 : jMN RX4 73 yX4_statementAt := Or.inl (tb_in 367 (by decide +kernel) rfl)
theorem mn_X4_77 : jMN RX4 77 yX5_columnAt := Or.inl (tb_in 461 (by decide +kernel) rfl)
theorem mn_X4_81 : jMN RX4 81 yX3_throwAway := Or.inl (tb_in 466 (by decide +kernel) rfl)
theorem mn_X4_85 : jMN RX4 85 yX9_at := Or.inr ⟨"PlanShelves", nw_in 504 (by decide +kernel) rfl⟩
theorem mn_X4_89 : jMN RX4 89 yX9_put := Or.inr ⟨"PlanShelves", nw_in 505 (by decide +kernel) rfl⟩
theorem mn_X4_96 : jMN RX4 96 yX5_isOf := Or.inl (tb_in 644 (by decide +kernel) rfl)
theorem mn_X4_100 : jMN RX4 100 yX5_readFrom := Or.inl (tb_in 669 (by decide +kernel) rfl)
theorem mn_X4_107 : jMN RX4 107 yX5_operatorAt := Or.inl (tb_in 733 (by decide +kernel) rfl)
theorem mn_X4_110 : jMN RX4 110 yX6_weightWhere := Or.inl (tb_in 734 (by decide +kernel) rfl)
theorem mn_X4_117 : jMN RX4 117 yX4_classOfShare := Or.inl (tb_in 741 (by decide +kernel) rfl)
theorem mn_X4_120 : jMN RX4 120 yX4_isIndexed := Or.inl (tb_in 789 (by decide +kernel) rfl)
theorem mn_X4_124 : jMN RX4 124 yX9_cost := Or.inr ⟨"PlanShelves", nw_in 790 (by decide +kernel) rfl⟩
theorem mn_X4_132 : jMN RX4 132 yX4_classWith := Or.inl (tb_in 729 (by decide +kernel) rfl)
theorem mn_X4_136 : jMN RX4 136 yX1_begin := Or.inl (tb_in 745 (by decide +kernel) rfl)
theorem mn_X4_140 : jMN RX4 140 yX4_planForLastRun := Or.inl (tb_in 749 (by decide +kernel) rfl)
theorem mn_X4_144 : jMN RX4 144 yX4_use := Or.inl (tb_in 796 (by decide +kernel) rfl)
theorem mn_X4_148 : jMN RX4 148 yX7_weightWhere := Or.inl (tb_in 808 (by decide +kernel) rfl)
theorem mn_X4_154 : jMN RX4 154 yX3_placeFor := Or.inl (tb_in 753 (by decide +kernel) rfl)
theorem mn_X4_164 : jMN RX4 164 yX3_makeRoom := Or.inl (tb_in 757 (by decide +kernel) rfl)
theorem mn_X4_170 : jMN RX4 170 yX3_newPlan := Or.inl (tb_in 777 (by decide +kernel) rfl)
theorem mn_X4_174 : jMN RX4 174 yX4_bestWay := Or.inl (tb_in 785 (by decide +kernel) rfl)
theorem mn_X4_204 : jMN RX4 204 yX4_surprise := Or.inl (tb_in 800 (by decide +kernel) rfl)
theorem mn_X4_211 : jMN RX4 211 yX3_placeOf := Or.inl (tb_in 804 (by decide +kernel) rfl)
theorem mn_X4_214 : jMN RX4 214 yX7_takeFrom := Or.inl (tb_in 354 (by decide +kernel) rfl)
theorem mn_X4_218 : jMN RX4 218 yX6_takeFrom := Or.inl (tb_in 366 (by decide +kernel) rfl)
theorem mn_X4_221 : jMN RX4 221 yX5_takeFrom := Or.inl (tb_in 371 (by decide +kernel) rfl)
theorem mn_X4_224 : jMN RX4 224 yX3_takeFrom := Or.inl (tb_in 376 (by decide +kernel) rfl)
theorem mn_X4_227 : jMN RX4 227 yX1_takeFrom := Or.inl (tb_in 388 (by decide +kernel) rfl)
theorem mn_X4_230 : jMN RX4 230 yX9_copy := Or.inr ⟨"PlanShelves", nw_in 393 (by decide +kernel) rfl⟩
theorem mn_X5_22 : jMN RX5 22 yX9_at := Or.inr ⟨"PlanShelves", nw_in 465 (by decide +kernel) rfl⟩
theorem mn_X5_26 : jMN RX5 26 yX5_hasCondition := Or.inl (tb_in 720 (by decide +kernel) rfl)
theorem mn_X5_30 : jMN RX5 30 yX9_isValue := Or.inr ⟨"PlanShelves", nw_in 724 (by decide +kernel) rfl⟩
theorem mn_X5_33 : jMN RX5 33 yX8_conditions := Or.inl (tb_in 648 (by decide +kernel) rfl)
theorem mn_X5_38 : jMN RX5 38 yX5_columnAt := Or.inl (tb_in 652 (by decide +kernel) rfl)
theorem mn_X5_42 : jMN RX5 42 yX8_columnOf := Or.inl (tb_in 653 (by decide +kernel) rfl)
theorem mn_X5_45 : jMN RX5 45 yX5_operatorAt := Or.inl (tb_in 657 (by decide +kernel) rfl)
theorem mn_X5_48 : jMN RX5 48 yX8_operatorOf := Or.inl (tb_in 661 (by decide +kernel) rfl)
theorem mn_X5_57 : jMN RX5 57 yX9_put := Or.inr ⟨"PlanShelves", nw_in 674 (by decide +kernel) rfl⟩
theorem mn_X5_64 : jMN RX5 64 yX9_copy := Or.inr ⟨"PlanShelves", nw_in 375 (by decide +kernel) rfl⟩
theorem mn_X6_15 : jMN RX6 15 yX6_weightOf := Or.inl (tb_in 421 (by decide +kernel) rfl)
theorem mn_X6_19 : jMN RX6 19 yX9_put := Or.inr ⟨"PlanShelves", nw_in 425 (by decide +kernel) rfl⟩
theorem mn_X6_23 : jMN RX6 23 yX9_holds := Or.inr ⟨"PlanShelves", nw_in 738 (by decide +kernel) rfl⟩
theorem mn_X6_27 : jMN RX6 27 yX9_copy := Or.inr ⟨"PlanShelves", nw_in 365 (by decide +kernel) rfl⟩
theorem mn_X7_17 : jMN RX7 17 yX6_init := Or.inr ⟨"PlanShelves", nw_in 39 (by decide +kernel) rfl⟩
theorem mn_X7_26 : jMN RX7 26 yX9_at := Or.inr ⟨"PlanShelves", nw_in 405 (by decide +kernel) rfl⟩
theorem mn_X7_30 : jMN RX7 30 yX9_put := Or.inr ⟨"PlanShelves", nw_in 408 (by decide +kernel) rfl⟩
theorem mn_X7_34 : jMN RX7 34 yX7_addToSums := Or.inl (tb_in 409 (by decide +kernel) rfl)
theorem mn_X7_38 : jMN RX7 38 yX7_cellAt := Or.inl (tb_in 413 (by decide +kernel) rfl)
theorem mn_X7_42 : jMN RX7 42 yX7_fits := Or.inl (tb_in 812 (by decide +kernel) rfl)
theorem mn_X7_51 : jMN RX7 51 yX5_columnAt := Or.inl (tb_in 816 (by decide +kernel) rfl)
theorem mn_X7_55 : jMN RX7 55 yX5_operatorAt := Or.inl (tb_in 817 (by decide +kernel) rfl)
theorem mn_X7_58 : jMN RX7 58 yX9_holds := Or.inr ⟨"PlanShelves", nw_in 818 (by decide +kernel) rfl⟩
theorem mn_X7_62 : jMN RX7 62 yX6_add := Or.inl (tb_in 417 (by decide +kernel) rfl)
theorem mn_X7_69 : jMN RX7 69 yX9_copy := Or.inr ⟨"PlanShelves", nw_in 358 (by decide +kernel) rfl⟩
theorem mn_X7_73 : jMN RX7 73 yX6_takeFrom := Or.inl (tb_in 361 (by decide +kernel) rfl)
theorem mn_X8_19 : jMN RX8 19 yX8_canStandAt := Or.inl (tb_in 533 (by decide +kernel) rfl)
theorem mn_X8_23 : jMN RX8 23 yX8_isBehindLastCondition := Or.inl (tb_in 628 (by decide +kernel) rfl)
theorem mn_X8_26 : jMN RX8 26 yX8_characterAt := Or.inl (tb_in 537 (by decide +kernel) rfl)
theorem mn_L_11 : jMN RL 11 yL_weight := Or.inl (tb_in 438 (by decide +kernel) rfl)
theorem mn_L_17 : jMN RL 17 yL_holds := Or.inl (tb_in 687 (by decide +kernel) rfl)
theorem mn_L_21 : jMN RL 21 yL_known := Or.inl (tb_in 690 (by decide +kernel) rfl)
theorem mn_L_25 : jMN RL 25 yL_of := Or.inl (tb_in 480 (by decide +kernel) rfl)
theorem mn_L_29 : jMN RL 29 yL_size := Or.inl (tb_in 483 (by decide +kernel) rfl)
theorem mn_L_33 : jMN RL 33 yL_condition := Or.inl (tb_in 474 (by decide +kernel) rfl)
theorem mn_L_36 : jMN RL 36 yL_weights := Or.inl (tb_in 684 (by decide +kernel) rfl)
theorem mn_L_40 : jMN RL 40 yL_many := Or.inl (tb_in 675 (by decide +kernel) rfl)
theorem mn_L_43 : jMN RL 43 yL_cost := Or.inl (tb_in 697 (by decide +kernel) rfl)
theorem mn_L_47 : jMN RL 47 yL_sort := Or.inl (tb_in 681 (by decide +kernel) rfl)
theorem mn_L_51 : jMN RL 51 yL_way := Or.inl (tb_in 694 (by decide +kernel) rfl)
theorem mn_L_55 : jMN RL 55 yL_drops := Or.inl (tb_in 700 (by decide +kernel) rfl)
theorem mn_L_58 : jMN RL 58 yL_takeOut := Or.inl (tb_in 477 (by decide +kernel) rfl)
theorem mn_L_62 : jMN RL 62 yX9_clearText := Or.inl (tb_in 509 (by decide +kernel) rfl)
theorem mn_L_68 : jMN RL 68 yX9_type := Or.inl (tb_in 517 (by decide +kernel) rfl)
theorem mn_L_72 : jMN RL 72 yX9_fault := Or.inl (tb_in 525 (by decide +kernel) rfl)
theorem mn_L_75 : jMN RL 75 yX9_statement := Or.inl (tb_in 636 (by decide +kernel) rfl)
theorem mn_L_80 : jMN RL 80 yX9_row := Or.inl (tb_in 328 (by decide +kernel) rfl)
theorem mn_L_84 : jMN RL 84 yX9_dropRow := Or.inl (tb_in 426 (by decide +kernel) rfl)
theorem mn_L_87 : jMN RL 87 yX9_index := Or.inl (tb_in 441 (by decide +kernel) rfl)
theorem mn_L_91 : jMN RL 91 yX9_analyse := Or.inl (tb_in 486 (by decide +kernel) rfl)
theorem mn_L_94 : jMN RL 94 yX9_set := Or.inl (tb_in 491 (by decide +kernel) rfl)
theorem mn_L_98 : jMN RL 98 yL_low := Or.inl (tb_in 315 (by decide +kernel) rfl)
theorem mn_L_101 : jMN RL 101 yL_changes := Or.inl (tb_in 323 (by decide +kernel) rfl)
theorem mn_L_105 : jMN RL 105 yL_tells := Or.inl (tb_in 506 (by decide +kernel) rfl)
theorem mn_L_109 : jMN RL 109 yL_runs := Or.inl (tb_in 678 (by decide +kernel) rfl)
theorem mn_L_113 : jMN RL 113 yX9_run := Or.inl (tb_in 703 (by decide +kernel) rfl)
theorem mn_L_116 : jMN RL 116 yL_plan := Or.inl (tb_in 819 (by decide +kernel) rfl)
theorem mn_L_120 : jMN RL 120 yX9_pin := Or.inl (tb_in 822 (by decide +kernel) rfl)
theorem mn_L_123 : jMN RL 123 yX9_drop := Or.inl (tb_in 832 (by decide +kernel) rfl)
theorem mn_L_126 : jMN RL 126 yX9_rowOf := Or.inl (tb_in 844 (by decide +kernel) rfl)
theorem mn_L_129 : jMN RL 129 yX9_known := Or.inl (tb_in 849 (by decide +kernel) rfl)
theorem mn_L_131 : jMN RL 131 yX9_statementOf := Or.inl (tb_in 857 (by decide +kernel) rfl)
theorem mn_L_134 : jMN RL 134 yX9_count := Or.inl (tb_in 866 (by decide +kernel) rfl)
theorem mn_L_137 : jMN RL 137 yX9_planOf := Or.inl (tb_in 873 (by decide +kernel) rfl)
theorem mn_L_140 : jMN RL 140 yX9_planFor := Or.inl (tb_in 881 (by decide +kernel) rfl)
theorem mn_L_143 : jMN RL 143 yL_areRows := Or.inl (tb_in 841 (by decide +kernel) rfl)
theorem mn_L_147 : jMN RL 147 yL_areStatements := Or.inl (tb_in 854 (by decide +kernel) rfl)
theorem mn_L_151 : jMN RL 151 yL_arePlans := Or.inl (tb_in 870 (by decide +kernel) rfl)
theorem mn_L_155 : jMN RL 155 yX9_latest := Or.inl (tb_in 887 (by decide +kernel) rfl)
theorem mn_L_158 : jMN RL 158 yX9_init := Or.inl (tb_in 19 (by decide +kernel) rfl)
theorem mn_L_159 : jMN RL 159 yL_isSo := Or.inl (tb_in 838 (by decide +kernel) rfl)
theorem mn_L_163 : jMN RL 163 yL_cell := Or.inl (tb_in 311 (by decide +kernel) rfl)
theorem mn_L_166 : jMN RL 166 yL_acts := Or.inl (tb_in 319 (by decide +kernel) rfl)
theorem cw_L_63 : Cond.classLink RL 63 RX9 ∈ TBL := tb_in 17 (by decide +kernel) rfl
theorem cw_X9_7 : Cond.classLink RX9 7 RX4 ∈ TBL := tb_in 25 (by decide +kernel) rfl
theorem cw_X4_9 : Cond.classLink RX4 9 RX7 ∈ TBL := tb_in 31 (by decide +kernel) rfl
theorem cw_X7_15 : Cond.classLink RX7 15 RX6 ∈ TBL := tb_in 37 (by decide +kernel) rfl
theorem cw_X4_18 : Cond.classLink RX4 18 RX6 ∈ TBL := tb_in 67 (by decide +kernel) rfl
theorem cw_X4_25 : Cond.classLink RX4 25 RX5 ∈ TBL := tb_in 69 (by decide +kernel) rfl
theorem cw_X4_36 : Cond.classLink RX4 36 RX3 ∈ TBL := tb_in 94 (by decide +kernel) rfl
theorem cw_X3_9 : Cond.classLink RX3 9 RX2 ∈ TBL := tb_in 100 (by decide +kernel) rfl
theorem cw_X4_43 : Cond.classLink RX4 43 RX1 ∈ TBL := tb_in 170 (by decide +kernel) rfl
theorem cw_X9_16 : Cond.classLink RX9 16 RX0 ∈ TBL := tb_in 266 (by decide +kernel) rfl
theorem cw_X0_9 : Cond.classLink RX0 9 RX4 ∈ TBL := tb_in 272 (by decide +kernel) rfl
theorem cw_X9_23 : Cond.classLink RX9 23 RX8 ∈ TBL := tb_in 283 (by decide +kernel) rfl
theorem oi_im : Cond.instanceMethod objectInit ∈ TBL := tb_in 23 (by decide +kernel) rfl
theorem oi_c : Cond.code objectInit ⟨#[0xb1]⟩ 1 none ∈ TBL := tb_in 24 (by decide +kernel) rfl
theorem oi_X9_1 : Cond.methodLink RX9 1 objectInit ∈ TBL := tb_in 22 (by decide +kernel) rfl
theorem oi_X4_3 : Cond.methodLink RX4 3 objectInit ∈ TBL := tb_in 30 (by decide +kernel) rfl
theorem oi_X7_3 : Cond.methodLink RX7 3 objectInit ∈ TBL := tb_in 36 (by decide +kernel) rfl
theorem oi_X6_3 : Cond.methodLink RX6 3 objectInit ∈ TBL := tb_in 42 (by decide +kernel) rfl
theorem oi_X5_3 : Cond.methodLink RX5 3 objectInit ∈ TBL := tb_in 75 (by decide +kernel) rfl
theorem oi_X3_3 : Cond.methodLink RX3 3 objectInit ∈ TBL := tb_in 99 (by decide +kernel) rfl
theorem oi_X2_3 : Cond.methodLink RX2 3 objectInit ∈ TBL := tb_in 106 (by decide +kernel) rfl
theorem oi_X1_3 : Cond.methodLink RX1 3 objectInit ∈ TBL := tb_in 175 (by decide +kernel) rfl
theorem oi_X0_3 : Cond.methodLink RX0 3 objectInit ∈ TBL := tb_in 271 (by decide +kernel) rfl
theorem oi_X8_3 : Cond.methodLink RX8 3 objectInit ∈ TBL := tb_in 288 (by decide +kernel) rfl
-- 53 (Jvm.Cond.arrayClass Jvm.ClassFile.FieldType.int)
-- 70 (Jvm.Cond.arrayOver (Jvm.ClassFile.FieldType.object "PlanShelves$Statement"))
-- 101 (Jvm.Cond.arrayOver (Jvm.ClassFile.FieldType.object "PlanShelves$Plan"))
-- 273 (Jvm.Cond.arrayOver (Jvm.ClassFile.FieldType.object "PlanShelves$State"))
-- 297 (Jvm.Cond.arrayClass Jvm.ClassFile.FieldType.char)
theorem ck_L_7 : Cond.constant RL 7 (40503 : Int32) ∈ TBL := tb_in 314 (by decide +kernel) rfl
-- 314 (Jvm.Cond.constant "PlanShelvesLaw" (7 : Nat) (40503 : Int32))
theorem ck_L_8 : Cond.constant RL 8 (2147483647 : Int32) ∈ TBL := tb_in 318 (by decide +kernel) rfl
-- 318 (Jvm.Cond.constant "PlanShelvesLaw" (8 : Nat) (2147483647 : Int32))
theorem ck_L_97 : Cond.constant RL 97 (10000000 : Int32) ∈ TBL := tb_in 322 (by decide +kernel) rfl
-- 322 (Jvm.Cond.constant "PlanShelvesLaw" (97 : Nat) (10000000 : Int32))
theorem ck_L_78 : Cond.constant RL 78 (32768 : Int32) ∈ TBL := tb_in 326 (by decide +kernel) rfl
-- 326 (Jvm.Cond.constant "PlanShelvesLaw" (78 : Nat) (32768 : Int32))
theorem ck_L_79 : Cond.constant RL 79 (1048576 : Int32) ∈ TBL := tb_in 327 (by decide +kernel) rfl
-- 327 (Jvm.Cond.constant "PlanShelvesLaw" (79 : Nat) (1048576 : Int32))
-- 496 (Jvm.Cond.laysStatic "PlanShelves" "LEAST_SETTING" "[I")
-- 499 (Jvm.Cond.laysStatic "PlanShelves" "MOST_SETTING" "[I")
-- 541 (Jvm.Cond.stringRef "PlanShelves$Text" (30 : Nat) "=<>")
-- 555 (Jvm.Cond.laysStatic "java/lang/String" "COMPACT_STRINGS" "Z")
-- 584 (Jvm.Cond.constant "java/lang/StringUTF16" (227 : Nat) (65536 : Int32))
-- 598 (Jvm.Cond.laysStatic "jdk/internal/util/Preconditions" "SIOOBE_FORMATTER" "Ljava/util/function/BiFunction;")
-- 609 (Jvm.Cond.laysStatic "java/lang/StringUTF16" "$assertionsDisabled" "Z")
-- 611 (Jvm.Cond.laysStatic "java/lang/StringUTF16" "HI_BYTE_SHIFT" "I")
-- 613 (Jvm.Cond.laysStatic "java/lang/StringUTF16" "LO_BYTE_SHIFT" "I")
-- 623 (Jvm.Cond.constant "java/lang/Character" (110 : Nat) (55232 : Int32))
-- 627 (Jvm.Cond.constant "java/lang/Character" (76 : Nat) (56320 : Int32))
theorem ck_L_9 : Cond.constantLong RL 9 (2147483647 : Int64) ∈ TBL := tb_in 693 (by decide +kernel) rfl
-- 693 (Jvm.Cond.constantLong "PlanShelvesLaw" (9 : Nat) (2147483647 : Int64))
-- 837 (Jvm.Cond.arrayClass Jvm.ClassFile.FieldType.byte)
-- 895 (Jvm.Cond.arrayClass Jvm.ClassFile.FieldType.long)
