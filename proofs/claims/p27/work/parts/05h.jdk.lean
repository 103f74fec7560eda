def RXS : String := "java/lang/String"
def RXL1 : String := "java/lang/StringLatin1"
abbrev cXS_indexOf1 : ByteArray := prog_15_method_79_code
def yXS_indexOf1 : MethodName := ⟨RXS, "indexOf", "(I)I"⟩
abbrev cXS_indexOf2 : ByteArray := prog_15_method_80_code
def yXS_indexOf2 : MethodName := ⟨RXS, "indexOf", "(II)I"⟩
abbrev cXS_isLatin1 : ByteArray := prog_15_method_154_code
def yXS_isLatin1 : MethodName := ⟨RXS, "isLatin1", "()Z"⟩
abbrev cXS_length : ByteArray := prog_15_method_54_code
def yXS_length : MethodName := ⟨RXS, "length", "()I"⟩
abbrev cXS_coder : ByteArray := prog_15_method_152_code
def yXS_coder : MethodName := ⟨RXS, "coder", "()B"⟩
abbrev cXL1_indexOf : ByteArray := prog_16_method_22_code
def yXL1_indexOf : MethodName := ⟨RXL1, "indexOf", "([BIII)I"⟩
abbrev cXL1_canEncode : ByteArray := prog_16_method_4_code
def yXL1_canEncode : MethodName := ⟨RXL1, "canEncode", "(I)Z"⟩
abbrev cXL1_indexOfChar : ByteArray := prog_16_method_23_code
def yXL1_indexOfChar : MethodName := ⟨RXL1, "indexOfChar", "([BIII)I"⟩
set_option maxRecDepth 100000 in
theorem inXS : Cond.initialized RXS ∈ TBL := tb_in 11 (by decide +kernel) rfl
theorem inXL1 : Cond.initialized RXL1 ∈ TBL := tb_in 12 (by decide +kernel) rfl
theorem dXS_indexOf1_0 : decode cXS_indexOf1 0 = .ok (.aload_n 0, 1) := by decide +kernel
theorem dXS_indexOf1_1 : decode cXS_indexOf1 1 = .ok (.iload_n 1, 1) := by decide +kernel
theorem dXS_indexOf1_2 : decode cXS_indexOf1 2 = .ok (.iconst 0, 1) := by decide +kernel
theorem dXS_indexOf1_3 : decode cXS_indexOf1 3 = .ok (.invokevirtual 633, 3) := by decide +kernel
theorem dXS_indexOf1_6 : decode cXS_indexOf1 6 = .ok (.ireturn, 1) := by decide +kernel
theorem yc_XS_indexOf1 : jYC yXS_indexOf1 cXS_indexOf1 2 (some .int) 1 := ⟨tb_in 545 (by decide +kernel) rfl, inXS, by decide +kernel⟩
theorem im_XS_indexOf1 : Cond.instanceMethod yXS_indexOf1 ∈ TBL := tb_in 543 (by decide +kernel) rfl
theorem se_XS_indexOf1 : Cond.selects RXS yXS_indexOf1 yXS_indexOf1 ∈ TBL := tb_in 544 (by decide +kernel) rfl
theorem dXS_indexOf2_0 : decode cXS_indexOf2 0 = .ok (.aload_n 0, 1) := by decide +kernel
theorem dXS_indexOf2_1 : decode cXS_indexOf2 1 = .ok (.invokevirtual 492, 3) := by decide +kernel
theorem dXS_indexOf2_4 : decode cXS_indexOf2 4 = .ok (.ifCond .eq 19, 3) := by decide +kernel
theorem dXS_indexOf2_7 : decode cXS_indexOf2 7 = .ok (.aload_n 0, 1) := by decide +kernel
theorem dXS_indexOf2_8 : decode cXS_indexOf2 8 = .ok (.getfield 9, 3) := by decide +kernel
theorem dXS_indexOf2_11 : decode cXS_indexOf2 11 = .ok (.iload_n 1, 1) := by decide +kernel
theorem dXS_indexOf2_12 : decode cXS_indexOf2 12 = .ok (.iload_n 2, 1) := by decide +kernel
theorem dXS_indexOf2_13 : decode cXS_indexOf2 13 = .ok (.aload_n 0, 1) := by decide +kernel
theorem dXS_indexOf2_14 : decode cXS_indexOf2 14 = .ok (.invokevirtual 505, 3) := by decide +kernel
theorem dXS_indexOf2_17 : decode cXS_indexOf2 17 = .ok (.invokestatic 637, 3) := by decide +kernel
theorem dXS_indexOf2_20 : decode cXS_indexOf2 20 = .ok (.goto 16, 3) := by decide +kernel
theorem dXS_indexOf2_23 : decode cXS_indexOf2 23 = .ok (.aload_n 0, 1) := by decide +kernel
theorem dXS_indexOf2_24 : decode cXS_indexOf2 24 = .ok (.getfield 9, 3) := by decide +kernel
theorem dXS_indexOf2_27 : decode cXS_indexOf2 27 = .ok (.iload_n 1, 1) := by decide +kernel
theorem dXS_indexOf2_28 : decode cXS_indexOf2 28 = .ok (.iload_n 2, 1) := by decide +kernel
theorem dXS_indexOf2_29 : decode cXS_indexOf2 29 = .ok (.aload_n 0, 1) := by decide +kernel
theorem dXS_indexOf2_30 : decode cXS_indexOf2 30 = .ok (.invokevirtual 505, 3) := by decide +kernel
theorem dXS_indexOf2_33 : decode cXS_indexOf2 33 = .ok (.invokestatic 640, 3) := by decide +kernel
theorem dXS_indexOf2_36 : decode cXS_indexOf2 36 = .ok (.ireturn, 1) := by decide +kernel
theorem yc_XS_indexOf2 : jYC yXS_indexOf2 cXS_indexOf2 3 (some .int) 2 := ⟨tb_in 549 (by decide +kernel) rfl, inXS, by decide +kernel⟩
theorem im_XS_indexOf2 : Cond.instanceMethod yXS_indexOf2 ∈ TBL := tb_in 547 (by decide +kernel) rfl
theorem se_XS_indexOf2 : Cond.selects RXS yXS_indexOf2 yXS_indexOf2 ∈ TBL := tb_in 548 (by decide +kernel) rfl
theorem dXS_isLatin1_0 : decode cXS_isLatin1 0 = .ok (.getstatic 38, 3) := by decide +kernel
theorem dXS_isLatin1_3 : decode cXS_isLatin1 3 = .ok (.ifCond .eq 14, 3) := by decide +kernel
theorem dXS_isLatin1_6 : decode cXS_isLatin1 6 = .ok (.aload_n 0, 1) := by decide +kernel
theorem dXS_isLatin1_7 : decode cXS_isLatin1 7 = .ok (.getfield 15, 3) := by decide +kernel
theorem dXS_isLatin1_10 : decode cXS_isLatin1 10 = .ok (.ifCond .ne 7, 3) := by decide +kernel
theorem dXS_isLatin1_13 : decode cXS_isLatin1 13 = .ok (.iconst 1, 1) := by decide +kernel
theorem dXS_isLatin1_14 : decode cXS_isLatin1 14 = .ok (.goto 4, 3) := by decide +kernel
theorem dXS_isLatin1_17 : decode cXS_isLatin1 17 = .ok (.iconst 0, 1) := by decide +kernel
theorem dXS_isLatin1_18 : decode cXS_isLatin1 18 = .ok (.ireturn, 1) := by decide +kernel
theorem yc_XS_isLatin1 : jYC yXS_isLatin1 cXS_isLatin1 1 (some .boolean) 0 := ⟨tb_in 553 (by decide +kernel) rfl, inXS, by decide +kernel⟩
theorem im_XS_isLatin1 : Cond.instanceMethod yXS_isLatin1 ∈ TBL := tb_in 551 (by decide +kernel) rfl
theorem se_XS_isLatin1 : Cond.selects RXS yXS_isLatin1 yXS_isLatin1 ∈ TBL := tb_in 552 (by decide +kernel) rfl
theorem dXS_length_0 : decode cXS_length 0 = .ok (.aload_n 0, 1) := by decide +kernel
theorem dXS_length_1 : decode cXS_length 1 = .ok (.getfield 9, 3) := by decide +kernel
theorem dXS_length_4 : decode cXS_length 4 = .ok (.arraylength, 1) := by decide +kernel
theorem dXS_length_5 : decode cXS_length 5 = .ok (.aload_n 0, 1) := by decide +kernel
theorem dXS_length_6 : decode cXS_length 6 = .ok (.invokevirtual 335, 3) := by decide +kernel
theorem dXS_length_9 : decode cXS_length 9 = .ok (.ishr, 1) := by decide +kernel
theorem dXS_length_10 : decode cXS_length 10 = .ok (.ireturn, 1) := by decide +kernel
theorem yc_XS_length : jYC yXS_length cXS_length 1 (some .int) 0 := ⟨tb_in 559 (by decide +kernel) rfl, inXS, by decide +kernel⟩
theorem im_XS_length : Cond.instanceMethod yXS_length ∈ TBL := tb_in 557 (by decide +kernel) rfl
theorem se_XS_length : Cond.selects RXS yXS_length yXS_length ∈ TBL := tb_in 558 (by decide +kernel) rfl
theorem dXS_coder_0 : decode cXS_coder 0 = .ok (.getstatic 38, 3) := by decide +kernel
theorem dXS_coder_3 : decode cXS_coder 3 = .ok (.ifCond .eq 10, 3) := by decide +kernel
theorem dXS_coder_6 : decode cXS_coder 6 = .ok (.aload_n 0, 1) := by decide +kernel
theorem dXS_coder_7 : decode cXS_coder 7 = .ok (.getfield 15, 3) := by decide +kernel
theorem dXS_coder_10 : decode cXS_coder 10 = .ok (.goto 4, 3) := by decide +kernel
theorem dXS_coder_13 : decode cXS_coder 13 = .ok (.iconst 1, 1) := by decide +kernel
theorem dXS_coder_14 : decode cXS_coder 14 = .ok (.ireturn, 1) := by decide +kernel
theorem yc_XS_coder : jYC yXS_coder cXS_coder 1 (some .byte) 0 := ⟨tb_in 563 (by decide +kernel) rfl, inXS, by decide +kernel⟩
theorem im_XS_coder : Cond.instanceMethod yXS_coder ∈ TBL := tb_in 561 (by decide +kernel) rfl
theorem se_XS_coder : Cond.selects RXS yXS_coder yXS_coder ∈ TBL := tb_in 562 (by decide +kernel) rfl
theorem dXL1_indexOf_0 : decode cXL1_indexOf 0 = .ok (.iload_n 1, 1) := by decide +kernel
theorem dXL1_indexOf_1 : decode cXL1_indexOf 1 = .ok (.invokestatic 88, 3) := by decide +kernel
theorem dXL1_indexOf_4 : decode cXL1_indexOf 4 = .ok (.ifCond .ne 5, 3) := by decide +kernel
theorem dXL1_indexOf_7 : decode cXL1_indexOf 7 = .ok (.iconst (-1), 1) := by decide +kernel
theorem dXL1_indexOf_8 : decode cXL1_indexOf 8 = .ok (.ireturn, 1) := by decide +kernel
theorem dXL1_indexOf_9 : decode cXL1_indexOf 9 = .ok (.iload_n 2, 1) := by decide +kernel
theorem dXL1_indexOf_10 : decode cXL1_indexOf 10 = .ok (.iconst 0, 1) := by decide +kernel
theorem dXL1_indexOf_11 : decode cXL1_indexOf 11 = .ok (.invokestatic 92, 3) := by decide +kernel
theorem dXL1_indexOf_14 : decode cXL1_indexOf 14 = .ok (.istore_n 2, 1) := by decide +kernel
theorem dXL1_indexOf_15 : decode cXL1_indexOf 15 = .ok (.iload_n 3, 1) := by decide +kernel
theorem dXL1_indexOf_16 : decode cXL1_indexOf 16 = .ok (.aload_n 0, 1) := by decide +kernel
theorem dXL1_indexOf_17 : decode cXL1_indexOf 17 = .ok (.arraylength, 1) := by decide +kernel
theorem dXL1_indexOf_18 : decode cXL1_indexOf 18 = .ok (.invokestatic 38, 3) := by decide +kernel
theorem dXL1_indexOf_21 : decode cXL1_indexOf 21 = .ok (.istore_n 3, 1) := by decide +kernel
theorem dXL1_indexOf_22 : decode cXL1_indexOf 22 = .ok (.iload_n 2, 1) := by decide +kernel
theorem dXL1_indexOf_23 : decode cXL1_indexOf 23 = .ok (.iload_n 3, 1) := by decide +kernel
theorem dXL1_indexOf_24 : decode cXL1_indexOf 24 = .ok (.if_icmp .lt 5, 3) := by decide +kernel
theorem dXL1_indexOf_27 : decode cXL1_indexOf 27 = .ok (.iconst (-1), 1) := by decide +kernel
theorem dXL1_indexOf_28 : decode cXL1_indexOf 28 = .ok (.ireturn, 1) := by decide +kernel
theorem dXL1_indexOf_29 : decode cXL1_indexOf 29 = .ok (.aload_n 0, 1) := by decide +kernel
theorem dXL1_indexOf_30 : decode cXL1_indexOf 30 = .ok (.iload_n 1, 1) := by decide +kernel
theorem dXL1_indexOf_31 : decode cXL1_indexOf 31 = .ok (.iload_n 2, 1) := by decide +kernel
theorem dXL1_indexOf_32 : decode cXL1_indexOf 32 = .ok (.iload_n 3, 1) := by decide +kernel
theorem dXL1_indexOf_33 : decode cXL1_indexOf 33 = .ok (.invokestatic 95, 3) := by decide +kernel
theorem dXL1_indexOf_36 : decode cXL1_indexOf 36 = .ok (.ireturn, 1) := by decide +kernel
theorem yc_XL1_indexOf : jYC yXL1_indexOf cXL1_indexOf 4 (some .int) 4 := ⟨tb_in 566 (by decide +kernel) rfl, inXL1, by decide +kernel⟩
theorem st_XL1_indexOf : Cond.static yXL1_indexOf ∈ TBL := tb_in 565 (by decide +kernel) rfl
theorem dXL1_canEncode_0 : decode cXL1_canEncode 0 = .ok (.iload_n 0, 1) := by decide +kernel
theorem dXL1_canEncode_1 : decode cXL1_canEncode 1 = .ok (.ifCond .lt 14, 3) := by decide +kernel
theorem dXL1_canEncode_4 : decode cXL1_canEncode 4 = .ok (.iload_n 0, 1) := by decide +kernel
theorem dXL1_canEncode_5 : decode cXL1_canEncode 5 = .ok (.sipush 255, 3) := by decide +kernel
theorem dXL1_canEncode_8 : decode cXL1_canEncode 8 = .ok (.if_icmp .gt 7, 3) := by decide +kernel
theorem dXL1_canEncode_11 : decode cXL1_canEncode 11 = .ok (.iconst 1, 1) := by decide +kernel
theorem dXL1_canEncode_12 : decode cXL1_canEncode 12 = .ok (.goto 4, 3) := by decide +kernel
theorem dXL1_canEncode_15 : decode cXL1_canEncode 15 = .ok (.iconst 0, 1) := by decide +kernel
theorem dXL1_canEncode_16 : decode cXL1_canEncode 16 = .ok (.ireturn, 1) := by decide +kernel
theorem yc_XL1_canEncode : jYC yXL1_canEncode cXL1_canEncode 1 (some .boolean) 1 := ⟨tb_in 569 (by decide +kernel) rfl, inXL1, by decide +kernel⟩
theorem st_XL1_canEncode : Cond.static yXL1_canEncode ∈ TBL := tb_in 568 (by decide +kernel) rfl
theorem dXL1_indexOfChar_0 : decode cXL1_indexOfChar 0 = .ok (.iload_n 1, 1) := by decide +kernel
theorem dXL1_indexOfChar_1 : decode cXL1_indexOfChar 1 = .ok (.i2b, 1) := by decide +kernel
theorem dXL1_indexOfChar_2 : decode cXL1_indexOfChar 2 = .ok (.istore 4, 2) := by decide +kernel
theorem dXL1_indexOfChar_4 : decode cXL1_indexOfChar 4 = .ok (.iload_n 2, 1) := by decide +kernel
theorem dXL1_indexOfChar_5 : decode cXL1_indexOfChar 5 = .ok (.istore 5, 2) := by decide +kernel
theorem dXL1_indexOfChar_7 : decode cXL1_indexOfChar 7 = .ok (.iload 5, 2) := by decide +kernel
theorem dXL1_indexOfChar_9 : decode cXL1_indexOfChar 9 = .ok (.iload_n 3, 1) := by decide +kernel
theorem dXL1_indexOfChar_10 : decode cXL1_indexOfChar 10 = .ok (.if_icmp .ge 21, 3) := by decide +kernel
theorem dXL1_indexOfChar_13 : decode cXL1_indexOfChar 13 = .ok (.aload_n 0, 1) := by decide +kernel
theorem dXL1_indexOfChar_14 : decode cXL1_indexOfChar 14 = .ok (.iload 5, 2) := by decide +kernel
theorem dXL1_indexOfChar_16 : decode cXL1_indexOfChar 16 = .ok (.baload, 1) := by decide +kernel
theorem dXL1_indexOfChar_17 : decode cXL1_indexOfChar 17 = .ok (.iload 4, 2) := by decide +kernel
theorem dXL1_indexOfChar_19 : decode cXL1_indexOfChar 19 = .ok (.if_icmp .ne 6, 3) := by decide +kernel
theorem dXL1_indexOfChar_22 : decode cXL1_indexOfChar 22 = .ok (.iload 5, 2) := by decide +kernel
theorem dXL1_indexOfChar_24 : decode cXL1_indexOfChar 24 = .ok (.ireturn, 1) := by decide +kernel
theorem dXL1_indexOfChar_25 : decode cXL1_indexOfChar 25 = .ok (.iinc 5 1, 3) := by decide +kernel
theorem dXL1_indexOfChar_28 : decode cXL1_indexOfChar 28 = .ok (.goto (-21), 3) := by decide +kernel
theorem dXL1_indexOfChar_31 : decode cXL1_indexOfChar 31 = .ok (.iconst (-1), 1) := by decide +kernel
theorem dXL1_indexOfChar_32 : decode cXL1_indexOfChar 32 = .ok (.ireturn, 1) := by decide +kernel
theorem yc_XL1_indexOfChar : jYC yXL1_indexOfChar cXL1_indexOfChar 6 (some .int) 4 := ⟨tb_in 578 (by decide +kernel) rfl, inXL1, by decide +kernel⟩
theorem st_XL1_indexOfChar : Cond.static yXL1_indexOfChar ∈ TBL := tb_in 577 (by decide +kernel) rfl
theorem mn_X8_32 : jMN RX8 32 yXS_indexOf1 := Or.inl (tb_in 542 (by decide +kernel) rfl)
theorem mn_XS_633 : jMN RXS 633 yXS_indexOf2 := Or.inl (tb_in 546 (by decide +kernel) rfl)
theorem mn_XS_492 : jMN RXS 492 yXS_isLatin1 := Or.inl (tb_in 550 (by decide +kernel) rfl)
theorem mn_XS_505 : jMN RXS 505 yXS_length := Or.inl (tb_in 556 (by decide +kernel) rfl)
theorem mn_XS_335 : jMN RXS 335 yXS_coder := Or.inl (tb_in 560 (by decide +kernel) rfl)
theorem mn_XS_637 : jMN RXS 637 yXL1_indexOf := Or.inl (tb_in 564 (by decide +kernel) rfl)
theorem mn_XL1_88 : jMN RXL1 88 yXL1_canEncode := Or.inl (tb_in 567 (by decide +kernel) rfl)
theorem mn_XL1_95 : jMN RXL1 95 yXL1_indexOfChar := Or.inl (tb_in 576 (by decide +kernel) rfl)
theorem fx_coder : Cond.fieldLink RXS 15 "java/lang/String" "coder" "B" ∈ TBL := tb_in 896 (by decide +kernel) rfl
theorem fx_value : Cond.fieldLink RXS 9 "java/lang/String" "value" "[B" ∈ TBL := tb_in 897 (by decide +kernel) rfl
theorem fx_cs : Cond.fieldLink RXS 38 "java/lang/String" "COMPACT_STRINGS" "Z" ∈ TBL := tb_in 554 (by decide +kernel) rfl
theorem ml_max : Cond.methodLink RXL1 92 Lib.Math.max.name ∈ TBL := tb_in 570 (by decide +kernel) rfl
theorem ml_min : Cond.methodLink RXL1 38 Lib.Math.min.name ∈ TBL := tb_in 573 (by decide +kernel) rfl
theorem ml_min5 : Cond.methodLink RX5 51 Lib.Math.min.name ∈ TBL := tb_in 673 (by decide +kernel) rfl
theorem ms_max : Cond.static Lib.Math.max.name ∈ TBL := tb_in 571 (by decide +kernel) rfl
theorem mc_max : Cond.code Lib.Math.max.name Lib.Math.max.code 2 (some .int) ∈ TBL := tb_in 572 (by decide +kernel) rfl
theorem ms_min : Cond.static Lib.Math.min.name ∈ TBL := tb_in 574 (by decide +kernel) rfl
theorem mc_min : Cond.code Lib.Math.min.name Lib.Math.min.code 2 (some .int) ∈ TBL := tb_in 575 (by decide +kernel) rfl
theorem mi_math : Cond.initialized "java/lang/Math" ∈ TBL := tb_in 13 (by decide +kernel) rfl
