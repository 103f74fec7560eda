/-- a private method of a class that the tables say can be made, by its rows of tables_1 -/
def lw_okq (q : MethodName × Nat) : Prop := (q.1.cls ≠ "java/lang/invoke/MethodHandle" ∧ q.1.cls ≠ "java/lang/invoke/VarHandle") ∧ Cond.instantiable q.1.cls q.2 ∈ tables_1 ∧ Cond.privateMethod q.1 ∈ tables_1 ∧ Cond.instanceMethod q.1 ∈ tables_1
theorem lw_p0 : lw_okq (⟨"PlanShelves", "record", "()V"⟩, 4) := ⟨⟨by decide +kernel, by decide +kernel⟩, List.mem_of_getElem? (i := 19) (by decide +kernel), List.mem_of_getElem? (i := 326) (by decide +kernel), List.mem_of_getElem? (i := 327) (by decide +kernel)⟩
theorem lw_p1 : lw_okq (⟨"PlanShelves$History", "forgetOldest", "()V"⟩, 2) := ⟨⟨by decide +kernel, by decide +kernel⟩, List.mem_of_getElem? (i := 271) (by decide +kernel), List.mem_of_getElem? (i := 334) (by decide +kernel), List.mem_of_getElem? (i := 335) (by decide +kernel)⟩
theorem lw_p2 : lw_okq (⟨"PlanShelves", "gathered", "(IIII)[I"⟩, 4) := ⟨⟨by decide +kernel, by decide +kernel⟩, List.mem_of_getElem? (i := 19) (by decide +kernel), List.mem_of_getElem? (i := 382) (by decide +kernel), List.mem_of_getElem? (i := 383) (by decide +kernel)⟩
theorem lw_p3 : lw_okq (⟨"PlanShelves$Table", "addToSums", "(II)V"⟩, 3) := ⟨⟨by decide +kernel, by decide +kernel⟩, List.mem_of_getElem? (i := 33) (by decide +kernel), List.mem_of_getElem? (i := 397) (by decide +kernel), List.mem_of_getElem? (i := 398) (by decide +kernel)⟩
theorem lw_p4 : lw_okq (⟨"PlanShelves$Shelf", "remove", "(I)V"⟩, 6) := ⟨⟨by decide +kernel, by decide +kernel⟩, List.mem_of_getElem? (i := 96) (by decide +kernel), List.mem_of_getElem? (i := 455) (by decide +kernel), List.mem_of_getElem? (i := 456) (by decide +kernel)⟩
theorem lw_p5 : lw_okq (⟨"PlanShelves$Text", "canStandAt", "(I)Z"⟩, 2) := ⟨⟨by decide +kernel, by decide +kernel⟩, List.mem_of_getElem? (i := 288) (by decide +kernel), List.mem_of_getElem? (i := 482) (by decide +kernel), List.mem_of_getElem? (i := 483) (by decide +kernel)⟩
theorem lw_p6 : lw_okq (⟨"PlanShelves$Text", "characterAt", "(I)C"⟩, 2) := ⟨⟨by decide +kernel, by decide +kernel⟩, List.mem_of_getElem? (i := 288) (by decide +kernel), List.mem_of_getElem? (i := 486) (by decide +kernel), List.mem_of_getElem? (i := 487) (by decide +kernel)⟩
theorem lw_p7 : lw_okq (⟨"PlanShelves$Text", "isBehindLastCondition", "(I)Z"⟩, 2) := ⟨⟨by decide +kernel, by decide +kernel⟩, List.mem_of_getElem? (i := 288) (by decide +kernel), List.mem_of_getElem? (i := 577) (by decide +kernel), List.mem_of_getElem? (i := 578) (by decide +kernel)⟩
theorem lw_p8 : lw_okq (⟨"PlanShelves", "accepts", "(IIIII)Z"⟩, 4) := ⟨⟨by decide +kernel, by decide +kernel⟩, List.mem_of_getElem? (i := 19) (by decide +kernel), List.mem_of_getElem? (i := 640) (by decide +kernel), List.mem_of_getElem? (i := 641) (by decide +kernel)⟩
theorem lw_p9 : lw_okq (⟨"PlanShelves$State", "classOfShare", "(I)I"⟩, 12) := ⟨⟨by decide +kernel, by decide +kernel⟩, List.mem_of_getElem? (i := 27) (by decide +kernel), List.mem_of_getElem? (i := 667) (by decide +kernel), List.mem_of_getElem? (i := 668) (by decide +kernel)⟩
theorem lw_p10 : lw_okq (⟨"PlanShelves$State", "planForLastRun", "(LPlanShelves$Statement;[I)LPlanShelves$Plan;"⟩, 12) := ⟨⟨by decide +kernel, by decide +kernel⟩, List.mem_of_getElem? (i := 27) (by decide +kernel), List.mem_of_getElem? (i := 675) (by decide +kernel), List.mem_of_getElem? (i := 676) (by decide +kernel)⟩
theorem lw_p11 : lw_okq (⟨"PlanShelves$Shelf", "droppedAheadOf", "(LPlanShelves$Plan;)I"⟩, 6) := ⟨⟨by decide +kernel, by decide +kernel⟩, List.mem_of_getElem? (i := 96) (by decide +kernel), List.mem_of_getElem? (i := 691) (by decide +kernel), List.mem_of_getElem? (i := 692) (by decide +kernel)⟩
theorem lw_p12 : lw_okq (⟨"PlanShelves$State", "use", "(LPlanShelves$Plan;LPlanShelves$Statement;[I)V"⟩, 12) := ⟨⟨by decide +kernel, by decide +kernel⟩, List.mem_of_getElem? (i := 27) (by decide +kernel), List.mem_of_getElem? (i := 721) (by decide +kernel), List.mem_of_getElem? (i := 722) (by decide +kernel)⟩
theorem lw_p13 : lw_okq (⟨"PlanShelves$State", "surprise", "(LPlanShelves$Plan;)V"⟩, 12) := ⟨⟨by decide +kernel, by decide +kernel⟩, List.mem_of_getElem? (i := 27) (by decide +kernel), List.mem_of_getElem? (i := 725) (by decide +kernel), List.mem_of_getElem? (i := 726) (by decide +kernel)⟩
theorem lw_p14 : lw_okq (⟨"PlanShelves$Table", "fits", "(ILPlanShelves$Statement;[I)Z"⟩, 3) := ⟨⟨by decide +kernel, by decide +kernel⟩, List.mem_of_getElem? (i := 33) (by decide +kernel), List.mem_of_getElem? (i := 737) (by decide +kernel), List.mem_of_getElem? (i := 738) (by decide +kernel)⟩
theorem lw_p15 : lw_okq (⟨"PlanShelvesModel", "changes", "()V"⟩, 8) := ⟨⟨by decide +kernel, by decide +kernel⟩, List.mem_of_getElem? (i := 850) (by decide +kernel), List.mem_of_getElem? (i := 891) (by decide +kernel), List.mem_of_getElem? (i := 892) (by decide +kernel)⟩
def lw_privs_1 : List (MethodName × Nat) := [(⟨"PlanShelves", "record", "()V"⟩, 4), (⟨"PlanShelves$History", "forgetOldest", "()V"⟩, 2), (⟨"PlanShelves", "gathered", "(IIII)[I"⟩, 4), (⟨"PlanShelves$Table", "addToSums", "(II)V"⟩, 3), (⟨"PlanShelves$Shelf", "remove", "(I)V"⟩, 6), (⟨"PlanShelves$Text", "canStandAt", "(I)Z"⟩, 2), (⟨"PlanShelves$Text", "characterAt", "(I)C"⟩, 2), (⟨"PlanShelves$Text", "isBehindLastCondition", "(I)Z"⟩, 2), (⟨"PlanShelves", "accepts", "(IIIII)Z"⟩, 4), (⟨"PlanShelves$State", "classOfShare", "(I)I"⟩, 12), (⟨"PlanShelves$State", "planForLastRun", "(LPlanShelves$Statement;[I)LPlanShelves$Plan;"⟩, 12), (⟨"PlanShelves$Shelf", "droppedAheadOf", "(LPlanShelves$Plan;)I"⟩, 6), (⟨"PlanShelves$State", "use", "(LPlanShelves$Plan;LPlanShelves$Statement;[I)V"⟩, 12), (⟨"PlanShelves$State", "surprise", "(LPlanShelves$Plan;)V"⟩, 12), (⟨"PlanShelves$Table", "fits", "(ILPlanShelves$Statement;[I)Z"⟩, 3), (⟨"PlanShelvesModel", "changes", "()V"⟩, 8)]
theorem lw_r1 : ∀ q ∈ lw_privs_1, lw_okq q := List.forall_mem_cons.mpr ⟨lw_p0, List.forall_mem_cons.mpr ⟨lw_p1, List.forall_mem_cons.mpr ⟨lw_p2, List.forall_mem_cons.mpr ⟨lw_p3, List.forall_mem_cons.mpr ⟨lw_p4, List.forall_mem_cons.mpr ⟨lw_p5, List.forall_mem_cons.mpr ⟨lw_p6, List.forall_mem_cons.mpr ⟨lw_p7, List.forall_mem_cons.mpr ⟨lw_p8, List.forall_mem_cons.mpr ⟨lw_p9, List.forall_mem_cons.mpr ⟨lw_p10, List.forall_mem_cons.mpr ⟨lw_p11, List.forall_mem_cons.mpr ⟨lw_p12, List.forall_mem_cons.mpr ⟨lw_p13, List.forall_mem_cons.mpr ⟨lw_p14, List.forall_mem_cons.mpr ⟨lw_p15, fun _ h => absurd h List.not_mem_nil⟩⟩⟩⟩⟩⟩⟩⟩⟩⟩⟩⟩⟩⟩⟩⟩
theorem lw_p16 : lw_okq (⟨"PlanShelvesModel", "isRow", "(I)Z"⟩, 8) := ⟨⟨by decide +kernel, by decide +kernel⟩, List.mem_of_getElem? (i := 850) (by decide +kernel), List.mem_of_getElem? (i := 899) (by decide +kernel), List.mem_of_getElem? (i := 900) (by decide +kernel)⟩
theorem lw_p17 : lw_okq (⟨"PlanShelvesModel", "ofRow", "(II)I"⟩, 8) := ⟨⟨by decide +kernel, by decide +kernel⟩, List.mem_of_getElem? (i := 850) (by decide +kernel), List.mem_of_getElem? (i := 903) (by decide +kernel), List.mem_of_getElem? (i := 904) (by decide +kernel)⟩
theorem lw_p18 : lw_okq (⟨"PlanShelvesModel", "hasIndex", "(I)Z"⟩, 8) := ⟨⟨by decide +kernel, by decide +kernel⟩, List.mem_of_getElem? (i := 850) (by decide +kernel), List.mem_of_getElem? (i := 911) (by decide +kernel), List.mem_of_getElem? (i := 912) (by decide +kernel)⟩
theorem lw_p19 : lw_okq (⟨"PlanShelvesModel", "ofPlan", "(II)I"⟩, 8) := ⟨⟨by decide +kernel, by decide +kernel⟩, List.mem_of_getElem? (i := 850) (by decide +kernel), List.mem_of_getElem? (i := 915) (by decide +kernel), List.mem_of_getElem? (i := 916) (by decide +kernel)⟩
theorem lw_p20 : lw_okq (⟨"PlanShelvesModel", "columnOf", "(II)I"⟩, 8) := ⟨⟨by decide +kernel, by decide +kernel⟩, List.mem_of_getElem? (i := 850) (by decide +kernel), List.mem_of_getElem? (i := 919) (by decide +kernel), List.mem_of_getElem? (i := 920) (by decide +kernel)⟩
theorem lw_p21 : lw_okq (⟨"PlanShelvesModel", "takesOut", "(I)V"⟩, 8) := ⟨⟨by decide +kernel, by decide +kernel⟩, List.mem_of_getElem? (i := 850) (by decide +kernel), List.mem_of_getElem? (i := 923) (by decide +kernel), List.mem_of_getElem? (i := 924) (by decide +kernel)⟩
theorem lw_p22 : lw_okq (⟨"PlanShelvesModel", "size", "()I"⟩, 8) := ⟨⟨by decide +kernel, by decide +kernel⟩, List.mem_of_getElem? (i := 850) (by decide +kernel), List.mem_of_getElem? (i := 931) (by decide +kernel), List.mem_of_getElem? (i := 932) (by decide +kernel)⟩
theorem lw_p23 : lw_okq (⟨"PlanShelvesModel", "isRight", "()Z"⟩, 8) := ⟨⟨by decide +kernel, by decide +kernel⟩, List.mem_of_getElem? (i := 850) (by decide +kernel), List.mem_of_getElem? (i := 947) (by decide +kernel), List.mem_of_getElem? (i := 948) (by decide +kernel)⟩
theorem lw_p24 : lw_okq (⟨"PlanShelvesModel", "isText", "(I)Z"⟩, 8) := ⟨⟨by decide +kernel, by decide +kernel⟩, List.mem_of_getElem? (i := 850) (by decide +kernel), List.mem_of_getElem? (i := 951) (by decide +kernel), List.mem_of_getElem? (i := 952) (by decide +kernel)⟩
theorem lw_p25 : lw_okq (⟨"PlanShelvesModel", "conditions", "(I)I"⟩, 8) := ⟨⟨by decide +kernel, by decide +kernel⟩, List.mem_of_getElem? (i := 850) (by decide +kernel), List.mem_of_getElem? (i := 955) (by decide +kernel), List.mem_of_getElem? (i := 956) (by decide +kernel)⟩
theorem lw_p26 : lw_okq (⟨"PlanShelvesModel", "meant", "(IZ)I"⟩, 8) := ⟨⟨by decide +kernel, by decide +kernel⟩, List.mem_of_getElem? (i := 850) (by decide +kernel), List.mem_of_getElem? (i := 959) (by decide +kernel), List.mem_of_getElem? (i := 960) (by decide +kernel)⟩
theorem lw_p27 : lw_okq (⟨"PlanShelvesModel", "operatorOf", "(II)I"⟩, 8) := ⟨⟨by decide +kernel, by decide +kernel⟩, List.mem_of_getElem? (i := 850) (by decide +kernel), List.mem_of_getElem? (i := 963) (by decide +kernel), List.mem_of_getElem? (i := 964) (by decide +kernel)⟩
theorem lw_p28 : lw_okq (⟨"PlanShelvesModel", "isStatement", "(I)Z"⟩, 8) := ⟨⟨by decide +kernel, by decide +kernel⟩, List.mem_of_getElem? (i := 850) (by decide +kernel), List.mem_of_getElem? (i := 971) (by decide +kernel), List.mem_of_getElem? (i := 972) (by decide +kernel)⟩
theorem lw_p29 : lw_okq (⟨"PlanShelvesModel", "plansOf", "(I)I"⟩, 8) := ⟨⟨by decide +kernel, by decide +kernel⟩, List.mem_of_getElem? (i := 850) (by decide +kernel), List.mem_of_getElem? (i := 975) (by decide +kernel), List.mem_of_getElem? (i := 976) (by decide +kernel)⟩
theorem lw_p30 : lw_okq (⟨"PlanShelvesModel", "takes", "(IIIII)Z"⟩, 8) := ⟨⟨by decide +kernel, by decide +kernel⟩, List.mem_of_getElem? (i := 850) (by decide +kernel), List.mem_of_getElem? (i := 983) (by decide +kernel), List.mem_of_getElem? (i := 984) (by decide +kernel)⟩
theorem lw_p31 : lw_okq (⟨"PlanShelvesModel", "goes", "(I)V"⟩, 8) := ⟨⟨by decide +kernel, by decide +kernel⟩, List.mem_of_getElem? (i := 850) (by decide +kernel), List.mem_of_getElem? (i := 987) (by decide +kernel), List.mem_of_getElem? (i := 988) (by decide +kernel)⟩
def lw_privs_2 : List (MethodName × Nat) := [(⟨"PlanShelvesModel", "isRow", "(I)Z"⟩, 8), (⟨"PlanShelvesModel", "ofRow", "(II)I"⟩, 8), (⟨"PlanShelvesModel", "hasIndex", "(I)Z"⟩, 8), (⟨"PlanShelvesModel", "ofPlan", "(II)I"⟩, 8), (⟨"PlanShelvesModel", "columnOf", "(II)I"⟩, 8), (⟨"PlanShelvesModel", "takesOut", "(I)V"⟩, 8), (⟨"PlanShelvesModel", "size", "()I"⟩, 8), (⟨"PlanShelvesModel", "isRight", "()Z"⟩, 8), (⟨"PlanShelvesModel", "isText", "(I)Z"⟩, 8), (⟨"PlanShelvesModel", "conditions", "(I)I"⟩, 8), (⟨"PlanShelvesModel", "meant", "(IZ)I"⟩, 8), (⟨"PlanShelvesModel", "operatorOf", "(II)I"⟩, 8), (⟨"PlanShelvesModel", "isStatement", "(I)Z"⟩, 8), (⟨"PlanShelvesModel", "plansOf", "(I)I"⟩, 8), (⟨"PlanShelvesModel", "takes", "(IIIII)Z"⟩, 8), (⟨"PlanShelvesModel", "goes", "(I)V"⟩, 8)]
theorem lw_r2 : ∀ q ∈ lw_privs_2, lw_okq q := List.forall_mem_cons.mpr ⟨lw_p16, List.forall_mem_cons.mpr ⟨lw_p17, List.forall_mem_cons.mpr ⟨lw_p18, List.forall_mem_cons.mpr ⟨lw_p19, List.forall_mem_cons.mpr ⟨lw_p20, List.forall_mem_cons.mpr ⟨lw_p21, List.forall_mem_cons.mpr ⟨lw_p22, List.forall_mem_cons.mpr ⟨lw_p23, List.forall_mem_cons.mpr ⟨lw_p24, List.forall_mem_cons.mpr ⟨lw_p25, List.forall_mem_cons.mpr ⟨lw_p26, List.forall_mem_cons.mpr ⟨lw_p27, List.forall_mem_cons.mpr ⟨lw_p28, List.forall_mem_cons.mpr ⟨lw_p29, List.forall_mem_cons.mpr ⟨lw_p30, List.forall_mem_cons.mpr ⟨lw_p31, fun _ h => absurd h List.not_mem_nil⟩⟩⟩⟩⟩⟩⟩⟩⟩⟩⟩⟩⟩⟩⟩⟩
theorem lw_p32 : lw_okq (⟨"PlanShelvesModel", "ownClass", "(I)I"⟩, 8) := ⟨⟨by decide +kernel, by decide +kernel⟩, List.mem_of_getElem? (i := 850) (by decide +kernel), List.mem_of_getElem? (i := 991) (by decide +kernel), List.mem_of_getElem? (i := 992) (by decide +kernel)⟩
theorem lw_p33 : lw_okq (⟨"PlanShelvesModel", "weights", "(IIZ)I"⟩, 8) := ⟨⟨by decide +kernel, by decide +kernel⟩, List.mem_of_getElem? (i := 850) (by decide +kernel), List.mem_of_getElem? (i := 995) (by decide +kernel), List.mem_of_getElem? (i := 996) (by decide +kernel)⟩
theorem lw_p34 : lw_okq (⟨"PlanShelvesModel", "holds", "(III)Z"⟩, 8) := ⟨⟨by decide +kernel, by decide +kernel⟩, List.mem_of_getElem? (i := 850) (by decide +kernel), List.mem_of_getElem? (i := 999) (by decide +kernel), List.mem_of_getElem? (i := 1000) (by decide +kernel)⟩
theorem lw_p35 : lw_okq (⟨"PlanShelvesModel", "placeFor", "(II)I"⟩, 8) := ⟨⟨by decide +kernel, by decide +kernel⟩, List.mem_of_getElem? (i := 850) (by decide +kernel), List.mem_of_getElem? (i := 1003) (by decide +kernel), List.mem_of_getElem? (i := 1004) (by decide +kernel)⟩
theorem lw_p36 : lw_okq (⟨"PlanShelvesModel", "bestWay", "(IZ)I"⟩, 8) := ⟨⟨by decide +kernel, by decide +kernel⟩, List.mem_of_getElem? (i := 850) (by decide +kernel), List.mem_of_getElem? (i := 1007) (by decide +kernel), List.mem_of_getElem? (i := 1008) (by decide +kernel)⟩
theorem lw_p37 : lw_okq (⟨"PlanShelvesModel", "cost", "(IIZ)I"⟩, 8) := ⟨⟨by decide +kernel, by decide +kernel⟩, List.mem_of_getElem? (i := 850) (by decide +kernel), List.mem_of_getElem? (i := 1011) (by decide +kernel), List.mem_of_getElem? (i := 1012) (by decide +kernel)⟩
theorem lw_p38 : lw_okq (⟨"PlanShelvesModel", "clears", "()I"⟩, 8) := ⟨⟨by decide +kernel, by decide +kernel⟩, List.mem_of_getElem? (i := 850) (by decide +kernel), List.mem_of_getElem? (i := 1015) (by decide +kernel), List.mem_of_getElem? (i := 1016) (by decide +kernel)⟩
theorem lw_p39 : lw_okq (⟨"PlanShelvesModel", "dropsAt", "(I)I"⟩, 8) := ⟨⟨by decide +kernel, by decide +kernel⟩, List.mem_of_getElem? (i := 850) (by decide +kernel), List.mem_of_getElem? (i := 1019) (by decide +kernel), List.mem_of_getElem? (i := 1020) (by decide +kernel)⟩
theorem lw_p40 : lw_okq (⟨"PlanShelvesModel", "isAhead", "(II)Z"⟩, 8) := ⟨⟨by decide +kernel, by decide +kernel⟩, List.mem_of_getElem? (i := 850) (by decide +kernel), List.mem_of_getElem? (i := 1023) (by decide +kernel), List.mem_of_getElem? (i := 1024) (by decide +kernel)⟩
theorem lw_p41 : lw_okq (⟨"PlanShelvesModel", "keeps", "(IIII)I"⟩, 8) := ⟨⟨by decide +kernel, by decide +kernel⟩, List.mem_of_getElem? (i := 850) (by decide +kernel), List.mem_of_getElem? (i := 1027) (by decide +kernel), List.mem_of_getElem? (i := 1028) (by decide +kernel)⟩
theorem lw_p42 : lw_okq (⟨"PlanShelvesModel", "tells", "(IIIIII)V"⟩, 8) := ⟨⟨by decide +kernel, by decide +kernel⟩, List.mem_of_getElem? (i := 850) (by decide +kernel), List.mem_of_getElem? (i := 1031) (by decide +kernel), List.mem_of_getElem? (i := 1032) (by decide +kernel)⟩
theorem lw_p43 : lw_okq (⟨"PlanShelvesModel", "placeOf", "(I)I"⟩, 8) := ⟨⟨by decide +kernel, by decide +kernel⟩, List.mem_of_getElem? (i := 850) (by decide +kernel), List.mem_of_getElem? (i := 1043) (by decide +kernel), List.mem_of_getElem? (i := 1044) (by decide +kernel)⟩
theorem lw_p44 : lw_okq (⟨"PlanShelvesModel", "pinned", "()I"⟩, 8) := ⟨⟨by decide +kernel, by decide +kernel⟩, List.mem_of_getElem? (i := 850) (by decide +kernel), List.mem_of_getElem? (i := 1047) (by decide +kernel), List.mem_of_getElem? (i := 1048) (by decide +kernel)⟩
def lw_privs_3 : List (MethodName × Nat) := [(⟨"PlanShelvesModel", "ownClass", "(I)I"⟩, 8), (⟨"PlanShelvesModel", "weights", "(IIZ)I"⟩, 8), (⟨"PlanShelvesModel", "holds", "(III)Z"⟩, 8), (⟨"PlanShelvesModel", "placeFor", "(II)I"⟩, 8), (⟨"PlanShelvesModel", "bestWay", "(IZ)I"⟩, 8), (⟨"PlanShelvesModel", "cost", "(IIZ)I"⟩, 8), (⟨"PlanShelvesModel", "clears", "()I"⟩, 8), (⟨"PlanShelvesModel", "dropsAt", "(I)I"⟩, 8), (⟨"PlanShelvesModel", "isAhead", "(II)Z"⟩, 8), (⟨"PlanShelvesModel", "keeps", "(IIII)I"⟩, 8), (⟨"PlanShelvesModel", "tells", "(IIIIII)V"⟩, 8), (⟨"PlanShelvesModel", "placeOf", "(I)I"⟩, 8), (⟨"PlanShelvesModel", "pinned", "()I"⟩, 8)]
theorem lw_r3 : ∀ q ∈ lw_privs_3, lw_okq q := List.forall_mem_cons.mpr ⟨lw_p32, List.forall_mem_cons.mpr ⟨lw_p33, List.forall_mem_cons.mpr ⟨lw_p34, List.forall_mem_cons.mpr ⟨lw_p35, List.forall_mem_cons.mpr ⟨lw_p36, List.forall_mem_cons.mpr ⟨lw_p37, List.forall_mem_cons.mpr ⟨lw_p38, List.forall_mem_cons.mpr ⟨lw_p39, List.forall_mem_cons.mpr ⟨lw_p40, List.forall_mem_cons.mpr ⟨lw_p41, List.forall_mem_cons.mpr ⟨lw_p42, List.forall_mem_cons.mpr ⟨lw_p43, List.forall_mem_cons.mpr ⟨lw_p44, fun _ h => absurd h List.not_mem_nil⟩⟩⟩⟩⟩⟩⟩⟩⟩⟩⟩⟩⟩
def lw_privs : List (MethodName × Nat) := lw_privs_1 ++ (lw_privs_2 ++ (lw_privs_3))
def lw_tbl : List Cond := k2_sels lw_privs ++ tables_1
theorem lw_privs_ok : ∀ q ∈ lw_privs, lw_okq q := by
  show ∀ q ∈ lw_privs_1 ++ (lw_privs_2 ++ (lw_privs_3)), lw_okq q
  exact List.forall_mem_append.mpr ⟨lw_r1, List.forall_mem_append.mpr ⟨lw_r2, lw_r3⟩⟩
def RX0 : String := "PlanShelves$History"
def TX0 : u_T := fun k => match k with
  | 0 => ("PlanShelves$History", "states", "[LPlanShelves$State;", true)
  | _ => ("PlanShelves$History", "kept", "I", false)
def tyX0 : Nat → FieldType := fun k => match k with
  | 0 => .array (.object "PlanShelves$State")
  | _ => .int
abbrev wsX00 : List Cond := u_ws RX0 TX0 2
theorem nmX0 : ∀ a, a < 2 → ∀ b, b < 2 → a ≠ b → (TX0 a).2.1 ≠ (TX0 b).2.1 := by decide +kernel
theorem tyX0_ok : ∀ k, k < 2 → parseFieldDescriptor (TX0 k).2.2.1 = some (tyX0 k) := by decide +kernel
abbrev cX0_init : ByteArray := prog_2_method_1_code
def yX0_init : MethodName := ⟨RX0, "<init>", "()V"⟩
abbrev cX0_push : ByteArray := prog_2_method_2_code
def yX0_push : MethodName := ⟨RX0, "push", "(LPlanShelves$State;)V"⟩
abbrev cX0_popInto : ByteArray := prog_2_method_3_code
def yX0_popInto : MethodName := ⟨RX0, "popInto", "(LPlanShelves$State;)V"⟩
abbrev cX0_forgetOldest : ByteArray := prog_2_method_4_code
def yX0_forgetOldest : MethodName := ⟨RX0, "forgetOldest", "()V"⟩
def RX1 : String := "PlanShelves$LastRun"
def TX1 : u_T := fun k => match k with
  | 0 => ("PlanShelves$LastRun", "values", "[I", true)
  | 1 => ("PlanShelves$LastRun", "was", "Z", false)
  | 2 => ("PlanShelves$LastRun", "statement", "I", false)
  | 3 => ("PlanShelves$LastRun", "own", "I", false)
  | 4 => ("PlanShelves$LastRun", "plan", "I", false)
  | 5 => ("PlanShelves$LastRun", "way", "I", false)
  | 6 => ("PlanShelves$LastRun", "estimate", "I", false)
  | 7 => ("PlanShelves$LastRun", "cost", "I", false)
  | 8 => ("PlanShelves$LastRun", "origin", "I", false)
  | 9 => ("PlanShelves$LastRun", "surprise", "Z", false)
  | _ => ("PlanShelves$LastRun", "dropped", "I", false)
def tyX1 : Nat → FieldType := fun k => match k with
  | 0 => .array .int
  | 1 => .boolean
  | 2 => .int
  | 3 => .int
  | 4 => .int
  | 5 => .int
  | 6 => .int
  | 7 => .int
  | 8 => .int
  | 9 => .boolean
  | _ => .int
abbrev wsX10 : List Cond := u_ws RX1 TX1 11
theorem nmX1 : ∀ a, a < 11 → ∀ b, b < 11 → a ≠ b → (TX1 a).2.1 ≠ (TX1 b).2.1 := by decide +kernel
theorem tyX1_ok : ∀ k, k < 11 → parseFieldDescriptor (TX1 k).2.2.1 = some (tyX1 k) := by decide +kernel
abbrev cX1_init : ByteArray := prog_3_method_1_code
def yX1_init : MethodName := ⟨RX1, "<init>", "()V"⟩
abbrev cX1_begin : ByteArray := prog_3_method_2_code
def yX1_begin : MethodName := ⟨RX1, "begin", "(I[II)V"⟩
abbrev cX1_tell : ByteArray := prog_3_method_3_code
def yX1_tell : MethodName := ⟨RX1, "tell", "(I)I"⟩
abbrev cX1_takeFrom : ByteArray := prog_3_method_4_code
def yX1_takeFrom : MethodName := ⟨RX1, "takeFrom", "(LPlanShelves$LastRun;)V"⟩
def RX2 : String := "PlanShelves$Plan"
def TX2 : u_T := fun k => match k with
  | 0 => ("PlanShelves$Plan", "number", "I", false)
  | 1 => ("PlanShelves$Plan", "statement", "I", false)
  | 2 => ("PlanShelves$Plan", "own", "I", false)
  | 3 => ("PlanShelves$Plan", "way", "I", false)
  | 4 => ("PlanShelves$Plan", "estimate", "I", false)
  | 5 => ("PlanShelves$Plan", "uses", "I", false)
  | 6 => ("PlanShelves$Plan", "surprises", "I", false)
  | 7 => ("PlanShelves$Plan", "pinned", "Z", false)
  | _ => ("PlanShelves$Plan", "lastUse", "I", false)
def tyX2 : Nat → FieldType := fun k => match k with
  | 0 => .int
  | 1 => .int
  | 2 => .int
  | 3 => .int
  | 4 => .int
  | 5 => .int
  | 6 => .int
  | 7 => .boolean
  | _ => .int
abbrev wsX20 : List Cond := u_ws RX2 TX2 9
theorem nmX2 : ∀ a, a < 9 → ∀ b, b < 9 → a ≠ b → (TX2 a).2.1 ≠ (TX2 b).2.1 := by decide +kernel
theorem tyX2_ok : ∀ k, k < 9 → parseFieldDescriptor (TX2 k).2.2.1 = some (tyX2 k) := by decide +kernel
abbrev cX2_init : ByteArray := prog_4_method_1_code
def yX2_init : MethodName := ⟨RX2, "<init>", "()V"⟩
abbrev cX2_begin : ByteArray := prog_4_method_2_code
def yX2_begin : MethodName := ⟨RX2, "begin", "(III)V"⟩
abbrev cX2_dropsAheadOf : ByteArray := prog_4_method_3_code
def yX2_dropsAheadOf : MethodName := ⟨RX2, "dropsAheadOf", "(LPlanShelves$Plan;)Z"⟩
abbrev cX2_tell : ByteArray := prog_4_method_4_code
def yX2_tell : MethodName := ⟨RX2, "tell", "(II)I"⟩
abbrev cX2_takeFrom : ByteArray := prog_4_method_5_code
def yX2_takeFrom : MethodName := ⟨RX2, "takeFrom", "(LPlanShelves$Plan;)V"⟩
def RX3 : String := "PlanShelves$Shelf"
def TX3 : u_T := fun k => match k with
  | 0 => ("PlanShelves$Shelf", "plans", "[LPlanShelves$Plan;", true)
  | 1 => ("PlanShelves$Shelf", "loose", "LPlanShelves$Plan;", true)
  | 2 => ("PlanShelves$Shelf", "kept", "I", false)
  | 3 => ("PlanShelves$Shelf", "made", "I", false)
  | 4 => ("PlanShelves$Shelf", "dropped", "I", false)
  | _ => ("PlanShelves$Shelf", "thrownAway", "I", false)
def tyX3 : Nat → FieldType := fun k => match k with
  | 0 => .array (.object "PlanShelves$Plan")
  | 1 => .object "PlanShelves$Plan"
  | 2 => .int
  | 3 => .int
  | 4 => .int
  | _ => .int
abbrev wsX30 : List Cond := u_ws RX3 TX3 6
theorem nmX3 : ∀ a, a < 6 → ∀ b, b < 6 → a ≠ b → (TX3 a).2.1 ≠ (TX3 b).2.1 := by decide +kernel
theorem tyX3_ok : ∀ k, k < 6 → parseFieldDescriptor (TX3 k).2.2.1 = some (tyX3 k) := by decide +kernel
abbrev cX3_init : ByteArray := prog_5_method_1_code
def yX3_init : MethodName := ⟨RX3, "<init>", "()V"⟩
abbrev cX3_planAt : ByteArray := prog_5_method_2_code
def yX3_planAt : MethodName := ⟨RX3, "planAt", "(I)LPlanShelves$Plan;"⟩
abbrev cX3_numberAt : ByteArray := prog_5_method_3_code
def yX3_numberAt : MethodName := ⟨RX3, "numberAt", "(I)I"⟩
abbrev cX3_placeOf : ByteArray := prog_5_method_4_code
def yX3_placeOf : MethodName := ⟨RX3, "placeOf", "(I)I"⟩
abbrev cX3_placeFor : ByteArray := prog_5_method_5_code
def yX3_placeFor : MethodName := ⟨RX3, "placeFor", "(II)I"⟩
abbrev cX3_keptFor : ByteArray := prog_5_method_6_code
def yX3_keptFor : MethodName := ⟨RX3, "keptFor", "(I)I"⟩
abbrev cX3_pinned : ByteArray := prog_5_method_7_code
def yX3_pinned : MethodName := ⟨RX3, "pinned", "()I"⟩
abbrev cX3_placeToDrop : ByteArray := prog_5_method_8_code
def yX3_placeToDrop : MethodName := ⟨RX3, "placeToDrop", "(I)I"⟩
abbrev cX3_droppedAheadOf : ByteArray := prog_5_method_9_code
def yX3_droppedAheadOf : MethodName := ⟨RX3, "droppedAheadOf", "(LPlanShelves$Plan;)I"⟩
abbrev cX3_makeRoom : ByteArray := prog_5_method_10_code
def yX3_makeRoom : MethodName := ⟨RX3, "makeRoom", "(I)I"⟩
abbrev cX3_newPlan : ByteArray := prog_5_method_11_code
def yX3_newPlan : MethodName := ⟨RX3, "newPlan", "(III)LPlanShelves$Plan;"⟩
abbrev cX3_throwAway : ByteArray := prog_5_method_12_code
def yX3_throwAway : MethodName := ⟨RX3, "throwAway", "(I)V"⟩
abbrev cX3_remove : ByteArray := prog_5_method_13_code
def yX3_remove : MethodName := ⟨RX3, "remove", "(I)V"⟩
abbrev cX3_takeFrom : ByteArray := prog_5_method_14_code
def yX3_takeFrom : MethodName := ⟨RX3, "takeFrom", "(LPlanShelves$Shelf;)V"⟩
def RX4 : String := "PlanShelves$State"
def TX4 : u_T := fun k => match k with
  | 0 => ("PlanShelves$State", "table", "LPlanShelves$Table;", true)
  | 1 => ("PlanShelves$State", "statistics", "LPlanShelves$Sums;", true)
  | 2 => ("PlanShelves$State", "statements", "[LPlanShelves$Statement;", true)
  | 3 => ("PlanShelves$State", "blank", "LPlanShelves$Statement;", true)
  | 4 => ("PlanShelves$State", "shelf", "LPlanShelves$Shelf;", true)
  | 5 => ("PlanShelves$State", "lastRun", "LPlanShelves$LastRun;", true)
  | 6 => ("PlanShelves$State", "settings", "[I", true)
  | 7 => ("PlanShelves$State", "indexes", "I", false)
  | 8 => ("PlanShelves$State", "statementCount", "I", false)
  | 9 => ("PlanShelves$State", "runs", "I", false)
  | 10 => ("PlanShelves$State", "hits", "I", false)
  | _ => ("PlanShelves$State", "surprises", "I", false)
def tyX4 : Nat → FieldType := fun k => match k with
  | 0 => .object "PlanShelves$Table"
  | 1 => .object "PlanShelves$Sums"
  | 2 => .array (.object "PlanShelves$Statement")
  | 3 => .object "PlanShelves$Statement"
  | 4 => .object "PlanShelves$Shelf"
  | 5 => .object "PlanShelves$LastRun"
  | 6 => .array .int
  | 7 => .int
  | 8 => .int
  | 9 => .int
  | 10 => .int
  | _ => .int
abbrev wsX40 : List Cond := u_ws RX4 TX4 12
theorem nmX4 : ∀ a, a < 12 → ∀ b, b < 12 → a ≠ b → (TX4 a).2.1 ≠ (TX4 b).2.1 := by decide +kernel
theorem tyX4_ok : ∀ k, k < 12 → parseFieldDescriptor (TX4 k).2.2.1 = some (tyX4 k) := by decide +kernel
abbrev cX4_init : ByteArray := prog_6_method_1_code
def yX4_init : MethodName := ⟨RX4, "<init>", "()V"⟩
abbrev cX4_isIndexed : ByteArray := prog_6_method_2_code
def yX4_isIndexed : MethodName := ⟨RX4, "isIndexed", "(I)Z"⟩
abbrev cX4_flipIndex : ByteArray := prog_6_method_3_code
def yX4_flipIndex : MethodName := ⟨RX4, "flipIndex", "(I)V"⟩
abbrev cX4_throwAwayPlansBy : ByteArray := prog_6_method_4_code
def yX4_throwAwayPlansBy : MethodName := ⟨RX4, "throwAwayPlansBy", "(I)I"⟩
abbrev cX4_changeSetting : ByteArray := prog_6_method_5_code
def yX4_changeSetting : MethodName := ⟨RX4, "changeSetting", "(II)I"⟩
abbrev cX4_hasStatement : ByteArray := prog_6_method_6_code
def yX4_hasStatement : MethodName := ⟨RX4, "hasStatement", "(I)Z"⟩
abbrev cX4_statementAt : ByteArray := prog_6_method_7_code
def yX4_statementAt : MethodName := ⟨RX4, "statementAt", "(I)LPlanShelves$Statement;"⟩
abbrev cX4_statementWith : ByteArray := prog_6_method_8_code
def yX4_statementWith : MethodName := ⟨RX4, "statementWith", "(LPlanShelves$Text;)I"⟩
abbrev cX4_addStatement : ByteArray := prog_6_method_9_code
def yX4_addStatement : MethodName := ⟨RX4, "addStatement", "(LPlanShelves$Text;)I"⟩
abbrev cX4_classWith : ByteArray := prog_6_method_10_code
def yX4_classWith : MethodName := ⟨RX4, "classWith", "(LPlanShelves$Statement;[I)I"⟩
abbrev cX4_classOfShare : ByteArray := prog_6_method_11_code
def yX4_classOfShare : MethodName := ⟨RX4, "classOfShare", "(I)I"⟩
abbrev cX4_bestWay : ByteArray := prog_6_method_12_code
def yX4_bestWay : MethodName := ⟨RX4, "bestWay", "(LPlanShelves$Sums;LPlanShelves$Statement;[I)I"⟩
abbrev cX4_execute : ByteArray := prog_6_method_13_code
def yX4_execute : MethodName := ⟨RX4, "execute", "(I[I)I"⟩
abbrev cX4_planForLastRun : ByteArray := prog_6_method_14_code
def yX4_planForLastRun : MethodName := ⟨RX4, "planForLastRun", "(LPlanShelves$Statement;[I)LPlanShelves$Plan;"⟩
abbrev cX4_use : ByteArray := prog_6_method_15_code
def yX4_use : MethodName := ⟨RX4, "use", "(LPlanShelves$Plan;LPlanShelves$Statement;[I)V"⟩
abbrev cX4_surprise : ByteArray := prog_6_method_16_code
def yX4_surprise : MethodName := ⟨RX4, "surprise", "(LPlanShelves$Plan;)V"⟩
abbrev cX4_takeFrom : ByteArray := prog_6_method_17_code
def yX4_takeFrom : MethodName := ⟨RX4, "takeFrom", "(LPlanShelves$State;)V"⟩
def RX5 : String := "PlanShelves$Statement"
def TX5 : u_T := fun k => match k with
  | 0 => ("PlanShelves$Statement", "columns", "[I", true)
  | 1 => ("PlanShelves$Statement", "operators", "[I", true)
  | 2 => ("PlanShelves$Statement", "conditions", "I", false)
  | _ => ("PlanShelves$Statement", "runs", "I", false)
def tyX5 : Nat → FieldType := fun k => match k with
  | 0 => .array .int
  | 1 => .array .int
  | 2 => .int
  | _ => .int
abbrev wsX50 : List Cond := u_ws RX5 TX5 4
theorem nmX5 : ∀ a, a < 4 → ∀ b, b < 4 → a ≠ b → (TX5 a).2.1 ≠ (TX5 b).2.1 := by decide +kernel
theorem tyX5_ok : ∀ k, k < 4 → parseFieldDescriptor (TX5 k).2.2.1 = some (tyX5 k) := by decide +kernel
abbrev cX5_init : ByteArray := prog_7_method_1_code
def yX5_init : MethodName := ⟨RX5, "<init>", "()V"⟩
abbrev cX5_hasCondition : ByteArray := prog_7_method_2_code
def yX5_hasCondition : MethodName := ⟨RX5, "hasCondition", "(I)Z"⟩
abbrev cX5_columnAt : ByteArray := prog_7_method_3_code
def yX5_columnAt : MethodName := ⟨RX5, "columnAt", "(I)I"⟩
abbrev cX5_operatorAt : ByteArray := prog_7_method_4_code
def yX5_operatorAt : MethodName := ⟨RX5, "operatorAt", "(I)I"⟩
abbrev cX5_takes : ByteArray := prog_7_method_5_code
def yX5_takes : MethodName := ⟨RX5, "takes", "(II)Z"⟩
abbrev cX5_isOf : ByteArray := prog_7_method_6_code
def yX5_isOf : MethodName := ⟨RX5, "isOf", "(LPlanShelves$Text;)Z"⟩
abbrev cX5_readFrom : ByteArray := prog_7_method_7_code
def yX5_readFrom : MethodName := ⟨RX5, "readFrom", "(LPlanShelves$Text;)V"⟩
abbrev cX5_takeFrom : ByteArray := prog_7_method_8_code
def yX5_takeFrom : MethodName := ⟨RX5, "takeFrom", "(LPlanShelves$Statement;)V"⟩
def RX6 : String := "PlanShelves$Sums"
def TX6 : u_T := fun k => match k with
  | 0 => ("PlanShelves$Sums", "weights", "[I", true)
  | _ => ("PlanShelves$Sums", "size", "I", false)
def tyX6 : Nat → FieldType := fun k => match k with
  | 0 => .array .int
  | _ => .int
abbrev wsX60 : List Cond := u_ws RX6 TX6 2
theorem nmX6 : ∀ a, a < 2 → ∀ b, b < 2 → a ≠ b → (TX6 a).2.1 ≠ (TX6 b).2.1 := by decide +kernel
theorem tyX6_ok : ∀ k, k < 2 → parseFieldDescriptor (TX6 k).2.2.1 = some (tyX6 k) := by decide +kernel
abbrev cX6_init : ByteArray := prog_8_method_1_code
def yX6_init : MethodName := ⟨RX6, "<init>", "()V"⟩
abbrev cX6_weightOf : ByteArray := prog_8_method_2_code
def yX6_weightOf : MethodName := ⟨RX6, "weightOf", "(II)I"⟩
abbrev cX6_add : ByteArray := prog_8_method_3_code
def yX6_add : MethodName := ⟨RX6, "add", "(III)V"⟩
abbrev cX6_weightWhere : ByteArray := prog_8_method_4_code
def yX6_weightWhere : MethodName := ⟨RX6, "weightWhere", "(III)I"⟩
abbrev cX6_takeFrom : ByteArray := prog_8_method_5_code
def yX6_takeFrom : MethodName := ⟨RX6, "takeFrom", "(LPlanShelves$Sums;)V"⟩
def RX7 : String := "PlanShelves$Table"
def TX7 : u_T := fun k => match k with
  | 0 => ("PlanShelves$Table", "cells", "[I", true)
  | 1 => ("PlanShelves$Table", "sums", "LPlanShelves$Sums;", true)
  | _ => ("PlanShelves$Table", "rows", "I", false)
def tyX7 : Nat → FieldType := fun k => match k with
  | 0 => .array .int
  | 1 => .object "PlanShelves$Sums"
  | _ => .int
abbrev wsX70 : List Cond := u_ws RX7 TX7 3
theorem nmX7 : ∀ a, a < 3 → ∀ b, b < 3 → a ≠ b → (TX7 a).2.1 ≠ (TX7 b).2.1 := by decide +kernel
theorem tyX7_ok : ∀ k, k < 3 → parseFieldDescriptor (TX7 k).2.2.1 = some (tyX7 k) := by decide +kernel
abbrev cX7_init : ByteArray := prog_9_method_1_code
def yX7_init : MethodName := ⟨RX7, "<init>", "()V"⟩
abbrev cX7_hasRow : ByteArray := prog_9_method_2_code
def yX7_hasRow : MethodName := ⟨RX7, "hasRow", "(I)Z"⟩
abbrev cX7_cellAt : ByteArray := prog_9_method_3_code
def yX7_cellAt : MethodName := ⟨RX7, "cellAt", "(II)I"⟩
abbrev cX7_append : ByteArray := prog_9_method_4_code
def yX7_append : MethodName := ⟨RX7, "append", "([II)I"⟩
abbrev cX7_remove : ByteArray := prog_9_method_5_code
def yX7_remove : MethodName := ⟨RX7, "remove", "(I)I"⟩
abbrev cX7_weightWhere : ByteArray := prog_9_method_6_code
def yX7_weightWhere : MethodName := ⟨RX7, "weightWhere", "(LPlanShelves$Statement;[I)I"⟩
abbrev cX7_fits : ByteArray := prog_9_method_7_code
def yX7_fits : MethodName := ⟨RX7, "fits", "(ILPlanShelves$Statement;[I)Z"⟩
abbrev cX7_addToSums : ByteArray := prog_9_method_8_code
def yX7_addToSums : MethodName := ⟨RX7, "addToSums", "(II)V"⟩
abbrev cX7_takeFrom : ByteArray := prog_9_method_9_code
def yX7_takeFrom : MethodName := ⟨RX7, "takeFrom", "(LPlanShelves$Table;)V"⟩
def RX8 : String := "PlanShelves$Text"
def TX8 : u_T := fun k => match k with
  | 0 => ("PlanShelves$Text", "characters", "[C", true)
  | _ => ("PlanShelves$Text", "length", "I", false)
def tyX8 : Nat → FieldType := fun k => match k with
  | 0 => .array .char
  | _ => .int
abbrev wsX80 : List Cond := u_ws RX8 TX8 2
theorem nmX8 : ∀ a, a < 2 → ∀ b, b < 2 → a ≠ b → (TX8 a).2.1 ≠ (TX8 b).2.1 := by decide +kernel
theorem tyX8_ok : ∀ k, k < 2 → parseFieldDescriptor (TX8 k).2.2.1 = some (tyX8 k) := by decide +kernel
abbrev cX8_init : ByteArray := prog_10_method_1_code
def yX8_init : MethodName := ⟨RX8, "<init>", "()V"⟩
abbrev cX8_append : ByteArray := prog_10_method_2_code
def yX8_append : MethodName := ⟨RX8, "append", "(C)I"⟩
abbrev cX8_empty : ByteArray := prog_10_method_3_code
def yX8_empty : MethodName := ⟨RX8, "empty", "()I"⟩
abbrev cX8_faultPlace : ByteArray := prog_10_method_4_code
def yX8_faultPlace : MethodName := ⟨RX8, "faultPlace", "()I"⟩
abbrev cX8_reasonAt : ByteArray := prog_10_method_5_code
def yX8_reasonAt : MethodName := ⟨RX8, "reasonAt", "(I)I"⟩
abbrev cX8_conditions : ByteArray := prog_10_method_6_code
def yX8_conditions : MethodName := ⟨RX8, "conditions", "()I"⟩
abbrev cX8_columnOf : ByteArray := prog_10_method_7_code
def yX8_columnOf : MethodName := ⟨RX8, "columnOf", "(I)I"⟩
abbrev cX8_operatorOf : ByteArray := prog_10_method_8_code
def yX8_operatorOf : MethodName := ⟨RX8, "operatorOf", "(I)I"⟩
abbrev cX8_canStandAt : ByteArray := prog_10_method_9_code
def yX8_canStandAt : MethodName := ⟨RX8, "canStandAt", "(I)Z"⟩
abbrev cX8_isBehindLastCondition : ByteArray := prog_10_method_10_code
def yX8_isBehindLastCondition : MethodName := ⟨RX8, "isBehindLastCondition", "(I)Z"⟩
abbrev cX8_characterAt : ByteArray := prog_10_method_11_code
def yX8_characterAt : MethodName := ⟨RX8, "characterAt", "(I)C"⟩
def RX9 : String := "PlanShelves"
def TX9 : u_T := fun k => match k with
  | 0 => ("PlanShelves", "now", "LPlanShelves$State;", true)
  | 1 => ("PlanShelves", "history", "LPlanShelves$History;", true)
  | 2 => ("PlanShelves", "text", "LPlanShelves$Text;", true)
  | _ => ("PlanShelves", "given", "[I", true)
def tyX9 : Nat → FieldType := fun k => match k with
  | 0 => .object "PlanShelves$State"
  | 1 => .object "PlanShelves$History"
  | 2 => .object "PlanShelves$Text"
  | _ => .array .int
abbrev wsX90 : List Cond := u_ws RX9 TX9 4
theorem nmX9 : ∀ a, a < 4 → ∀ b, b < 4 → a ≠ b → (TX9 a).2.1 ≠ (TX9 b).2.1 := by decide +kernel
theorem tyX9_ok : ∀ k, k < 4 → parseFieldDescriptor (TX9 k).2.2.1 = some (tyX9 k) := by decide +kernel
abbrev cX9_init : ByteArray := prog_1_method_1_code
def yX9_init : MethodName := ⟨RX9, "<init>", "()V"⟩
abbrev cX9_row : ByteArray := prog_1_method_2_code
def yX9_row : MethodName := ⟨RX9, "row", "(IIIII)I"⟩
abbrev cX9_dropRow : ByteArray := prog_1_method_3_code
def yX9_dropRow : MethodName := ⟨RX9, "dropRow", "(I)I"⟩
abbrev cX9_index : ByteArray := prog_1_method_4_code
def yX9_index : MethodName := ⟨RX9, "index", "(II)I"⟩
abbrev cX9_analyse : ByteArray := prog_1_method_5_code
def yX9_analyse : MethodName := ⟨RX9, "analyse", "()I"⟩
abbrev cX9_rowOf : ByteArray := prog_1_method_6_code
def yX9_rowOf : MethodName := ⟨RX9, "rowOf", "(II)I"⟩
abbrev cX9_known : ByteArray := prog_1_method_7_code
def yX9_known : MethodName := ⟨RX9, "known", "(II)I"⟩
abbrev cX9_statement : ByteArray := prog_1_method_8_code
def yX9_statement : MethodName := ⟨RX9, "statement", "()I"⟩
abbrev cX9_statementOf : ByteArray := prog_1_method_9_code
def yX9_statementOf : MethodName := ⟨RX9, "statementOf", "(II)I"⟩
abbrev cX9_run : ByteArray := prog_1_method_10_code
def yX9_run : MethodName := ⟨RX9, "run", "(IIIII)I"⟩
abbrev cX9_latest : ByteArray := prog_1_method_11_code
def yX9_latest : MethodName := ⟨RX9, "latest", "(I)I"⟩
abbrev cX9_pin : ByteArray := prog_1_method_12_code
def yX9_pin : MethodName := ⟨RX9, "pin", "(II)I"⟩
abbrev cX9_drop : ByteArray := prog_1_method_13_code
def yX9_drop : MethodName := ⟨RX9, "drop", "(I)I"⟩
abbrev cX9_set : ByteArray := prog_1_method_14_code
def yX9_set : MethodName := ⟨RX9, "set", "(II)I"⟩
abbrev cX9_planOf : ByteArray := prog_1_method_15_code
def yX9_planOf : MethodName := ⟨RX9, "planOf", "(II)I"⟩
abbrev cX9_planFor : ByteArray := prog_1_method_16_code
def yX9_planFor : MethodName := ⟨RX9, "planFor", "(II)I"⟩
abbrev cX9_dropsNext : ByteArray := prog_1_method_17_code
def yX9_dropsNext : MethodName := ⟨RX9, "dropsNext", "(I)I"⟩
abbrev cX9_count : ByteArray := prog_1_method_18_code
def yX9_count : MethodName := ⟨RX9, "count", "(I)I"⟩
abbrev cX9_classOf : ByteArray := prog_1_method_19_code
def yX9_classOf : MethodName := ⟨RX9, "classOf", "(IIIII)I"⟩
abbrev cX9_way : ByteArray := prog_1_method_20_code
def yX9_way : MethodName := ⟨RX9, "way", "(IIIII)I"⟩
abbrev cX9_bestCost : ByteArray := prog_1_method_21_code
def yX9_bestCost : MethodName := ⟨RX9, "bestCost", "()I"⟩
abbrev cX9_undo : ByteArray := prog_1_method_22_code
def yX9_undo : MethodName := ⟨RX9, "undo", "()I"⟩
abbrev cX9_type : ByteArray := prog_1_method_23_code
def yX9_type : MethodName := ⟨RX9, "type", "(I)I"⟩
abbrev cX9_clearText : ByteArray := prog_1_method_24_code
def yX9_clearText : MethodName := ⟨RX9, "clearText", "()I"⟩
abbrev cX9_fault : ByteArray := prog_1_method_25_code
def yX9_fault : MethodName := ⟨RX9, "fault", "(I)I"⟩
abbrev cX9_record : ByteArray := prog_1_method_26_code
def yX9_record : MethodName := ⟨RX9, "record", "()V"⟩
abbrev cX9_accepts : ByteArray := prog_1_method_27_code
def yX9_accepts : MethodName := ⟨RX9, "accepts", "(IIIII)Z"⟩
abbrev cX9_gathered : ByteArray := prog_1_method_28_code
def yX9_gathered : MethodName := ⟨RX9, "gathered", "(IIII)[I"⟩
abbrev cX9_within : ByteArray := prog_1_method_29_code
def yX9_within : MethodName := ⟨RX9, "within", "(III)Z"⟩
abbrev cX9_isValue : ByteArray := prog_1_method_30_code
def yX9_isValue : MethodName := ⟨RX9, "isValue", "(I)Z"⟩
abbrev cX9_isColumn : ByteArray := prog_1_method_31_code
def yX9_isColumn : MethodName := ⟨RX9, "isColumn", "(I)Z"⟩
abbrev cX9_at : ByteArray := prog_1_method_32_code
def yX9_at : MethodName := ⟨RX9, "at", "([II)I"⟩
abbrev cX9_put : ByteArray := prog_1_method_33_code
def yX9_put : MethodName := ⟨RX9, "put", "([III)V"⟩
abbrev cX9_copy : ByteArray := prog_1_method_34_code
def yX9_copy : MethodName := ⟨RX9, "copy", "([I[I)V"⟩
abbrev cX9_holds : ByteArray := prog_1_method_35_code
def yX9_holds : MethodName := ⟨RX9, "holds", "(III)Z"⟩
abbrev cX9_cost : ByteArray := prog_1_method_36_code
def yX9_cost : MethodName := ⟨RX9, "cost", "(LPlanShelves$Sums;LPlanShelves$Statement;[II)I"⟩
def RX10 : String := "PlanShelvesModel"
def TX10 : u_T := fun k => match k with
  | 0 => ("PlanShelvesModel", "s", "[I", true)
  | 1 => ("PlanShelvesModel", "past", "[I", true)
  | 2 => ("PlanShelvesModel", "pasts", "I", false)
  | 3 => ("PlanShelvesModel", "text", "[I", true)
  | 4 => ("PlanShelvesModel", "typed", "I", false)
  | 5 => ("PlanShelvesModel", "spot", "I", false)
  | 6 => ("PlanShelvesModel", "reason", "I", false)
  | _ => ("PlanShelvesModel", "value", "[I", true)
def tyX10 : Nat → FieldType := fun k => match k with
  | 0 => .array .int
  | 1 => .array .int
  | 2 => .int
  | 3 => .array .int
  | 4 => .int
  | 5 => .int
  | 6 => .int
  | _ => .array .int
abbrev wsX100 : List Cond := u_ws RX10 TX10 8
theorem nmX10 : ∀ a, a < 8 → ∀ b, b < 8 → a ≠ b → (TX10 a).2.1 ≠ (TX10 b).2.1 := by decide +kernel
theorem tyX10_ok : ∀ k, k < 8 → parseFieldDescriptor (TX10 k).2.2.1 = some (tyX10 k) := by decide +kernel
abbrev cX10_init : ByteArray := prog_12_method_1_code
def yX10_init : MethodName := ⟨RX10, "<init>", "()V"⟩
abbrev cX10_in : ByteArray := prog_12_method_3_code
def yX10_in : MethodName := ⟨RX10, "in", "(III)Z"⟩
abbrev cX10_changes : ByteArray := prog_12_method_4_code
def yX10_changes : MethodName := ⟨RX10, "changes", "()V"⟩
abbrev cX10_isValue : ByteArray := prog_12_method_5_code
def yX10_isValue : MethodName := ⟨RX10, "isValue", "(I)Z"⟩
abbrev cX10_isRow : ByteArray := prog_12_method_6_code
def yX10_isRow : MethodName := ⟨RX10, "isRow", "(I)Z"⟩
abbrev cX10_ofRow : ByteArray := prog_12_method_7_code
def yX10_ofRow : MethodName := ⟨RX10, "ofRow", "(II)I"⟩
abbrev cX10_row : ByteArray := prog_12_method_8_code
def yX10_row : MethodName := ⟨RX10, "row", "(IIIII)I"⟩
abbrev cX10_dropRow : ByteArray := prog_12_method_9_code
def yX10_dropRow : MethodName := ⟨RX10, "dropRow", "(I)I"⟩
abbrev cX10_hasIndex : ByteArray := prog_12_method_10_code
def yX10_hasIndex : MethodName := ⟨RX10, "hasIndex", "(I)Z"⟩
abbrev cX10_index : ByteArray := prog_12_method_11_code
def yX10_index : MethodName := ⟨RX10, "index", "(II)I"⟩
abbrev cX10_size : ByteArray := prog_12_method_12_code
def yX10_size : MethodName := ⟨RX10, "size", "()I"⟩
abbrev cX10_analyse : ByteArray := prog_12_method_13_code
def yX10_analyse : MethodName := ⟨RX10, "analyse", "()I"⟩
abbrev cX10_rowOf : ByteArray := prog_12_method_14_code
def yX10_rowOf : MethodName := ⟨RX10, "rowOf", "(II)I"⟩
abbrev cX10_known : ByteArray := prog_12_method_15_code
def yX10_known : MethodName := ⟨RX10, "known", "(II)I"⟩
abbrev cX10_isStatement : ByteArray := prog_12_method_16_code
def yX10_isStatement : MethodName := ⟨RX10, "isStatement", "(I)Z"⟩
abbrev cX10_conditions : ByteArray := prog_12_method_17_code
def yX10_conditions : MethodName := ⟨RX10, "conditions", "(I)I"⟩
abbrev cX10_columnOf : ByteArray := prog_12_method_18_code
def yX10_columnOf : MethodName := ⟨RX10, "columnOf", "(II)I"⟩
abbrev cX10_operatorOf : ByteArray := prog_12_method_19_code
def yX10_operatorOf : MethodName := ⟨RX10, "operatorOf", "(II)I"⟩
abbrev cX10_isRight : ByteArray := prog_12_method_20_code
def yX10_isRight : MethodName := ⟨RX10, "isRight", "()Z"⟩
abbrev cX10_meant : ByteArray := prog_12_method_21_code
def yX10_meant : MethodName := ⟨RX10, "meant", "(IZ)I"⟩
abbrev cX10_isText : ByteArray := prog_12_method_22_code
def yX10_isText : MethodName := ⟨RX10, "isText", "(I)Z"⟩
abbrev cX10_statement : ByteArray := prog_12_method_23_code
def yX10_statement : MethodName := ⟨RX10, "statement", "()I"⟩
abbrev cX10_plansOf : ByteArray := prog_12_method_24_code
def yX10_plansOf : MethodName := ⟨RX10, "plansOf", "(I)I"⟩
abbrev cX10_statementOf : ByteArray := prog_12_method_25_code
def yX10_statementOf : MethodName := ⟨RX10, "statementOf", "(II)I"⟩
abbrev cX10_takes : ByteArray := prog_12_method_26_code
def yX10_takes : MethodName := ⟨RX10, "takes", "(IIIII)Z"⟩
abbrev cX10_holds : ByteArray := prog_12_method_27_code
def yX10_holds : MethodName := ⟨RX10, "holds", "(III)Z"⟩
abbrev cX10_weights : ByteArray := prog_12_method_28_code
def yX10_weights : MethodName := ⟨RX10, "weights", "(IIZ)I"⟩
abbrev cX10_cost : ByteArray := prog_12_method_29_code
def yX10_cost : MethodName := ⟨RX10, "cost", "(IIZ)I"⟩
abbrev cX10_bestWay : ByteArray := prog_12_method_30_code
def yX10_bestWay : MethodName := ⟨RX10, "bestWay", "(IZ)I"⟩
abbrev cX10_ownClass : ByteArray := prog_12_method_31_code
def yX10_ownClass : MethodName := ⟨RX10, "ownClass", "(I)I"⟩
abbrev cX10_ofPlan : ByteArray := prog_12_method_32_code
def yX10_ofPlan : MethodName := ⟨RX10, "ofPlan", "(II)I"⟩
abbrev cX10_takesOut : ByteArray := prog_12_method_33_code
def yX10_takesOut : MethodName := ⟨RX10, "takesOut", "(I)V"⟩
abbrev cX10_placeOf : ByteArray := prog_12_method_34_code
def yX10_placeOf : MethodName := ⟨RX10, "placeOf", "(I)I"⟩
abbrev cX10_placeFor : ByteArray := prog_12_method_35_code
def yX10_placeFor : MethodName := ⟨RX10, "placeFor", "(II)I"⟩
abbrev cX10_isAhead : ByteArray := prog_12_method_36_code
def yX10_isAhead : MethodName := ⟨RX10, "isAhead", "(II)Z"⟩
abbrev cX10_dropsAt : ByteArray := prog_12_method_37_code
def yX10_dropsAt : MethodName := ⟨RX10, "dropsAt", "(I)I"⟩
abbrev cX10_clears : ByteArray := prog_12_method_38_code
def yX10_clears : MethodName := ⟨RX10, "clears", "()I"⟩
abbrev cX10_tells : ByteArray := prog_12_method_39_code
def yX10_tells : MethodName := ⟨RX10, "tells", "(IIIIII)V"⟩
abbrev cX10_keeps : ByteArray := prog_12_method_40_code
def yX10_keeps : MethodName := ⟨RX10, "keeps", "(IIII)I"⟩
abbrev cX10_goes : ByteArray := prog_12_method_41_code
def yX10_goes : MethodName := ⟨RX10, "goes", "(I)V"⟩
abbrev cX10_run : ByteArray := prog_12_method_42_code
def yX10_run : MethodName := ⟨RX10, "run", "(IIIII)I"⟩
abbrev cX10_latest : ByteArray := prog_12_method_43_code
def yX10_latest : MethodName := ⟨RX10, "latest", "(I)I"⟩
abbrev cX10_pinned : ByteArray := prog_12_method_44_code
def yX10_pinned : MethodName := ⟨RX10, "pinned", "()I"⟩
abbrev cX10_pin : ByteArray := prog_12_method_45_code
def yX10_pin : MethodName := ⟨RX10, "pin", "(II)I"⟩
abbrev cX10_drop : ByteArray := prog_12_method_46_code
def yX10_drop : MethodName := ⟨RX10, "drop", "(I)I"⟩
abbrev cX10_set : ByteArray := prog_12_method_47_code
def yX10_set : MethodName := ⟨RX10, "set", "(II)I"⟩
abbrev cX10_planOf : ByteArray := prog_12_method_48_code
def yX10_planOf : MethodName := ⟨RX10, "planOf", "(II)I"⟩
abbrev cX10_planFor : ByteArray := prog_12_method_49_code
def yX10_planFor : MethodName := ⟨RX10, "planFor", "(II)I"⟩
abbrev cX10_dropsNext : ByteArray := prog_12_method_50_code
def yX10_dropsNext : MethodName := ⟨RX10, "dropsNext", "(I)I"⟩
abbrev cX10_count : ByteArray := prog_12_method_51_code
def yX10_count : MethodName := ⟨RX10, "count", "(I)I"⟩
abbrev cX10_classOf : ByteArray := prog_12_method_52_code
def yX10_classOf : MethodName := ⟨RX10, "classOf", "(IIIII)I"⟩
abbrev cX10_way : ByteArray := prog_12_method_53_code
def yX10_way : MethodName := ⟨RX10, "way", "(IIIII)I"⟩
abbrev cX10_bestCost : ByteArray := prog_12_method_54_code
def yX10_bestCost : MethodName := ⟨RX10, "bestCost", "()I"⟩
abbrev cX10_undo : ByteArray := prog_12_method_55_code
def yX10_undo : MethodName := ⟨RX10, "undo", "()I"⟩
abbrev cX10_type : ByteArray := prog_12_method_56_code
def yX10_type : MethodName := ⟨RX10, "type", "(I)I"⟩
abbrev cX10_clearText : ByteArray := prog_12_method_57_code
def yX10_clearText : MethodName := ⟨RX10, "clearText", "()I"⟩
abbrev cX10_fault : ByteArray := prog_12_method_58_code
def yX10_fault : MethodName := ⟨RX10, "fault", "(I)I"⟩
def RL : String := "PlanShelvesLaw"
abbrev cL_law : ByteArray := code
def yL_law : MethodName := ⟨RL, "law", "([I)Z"⟩
abbrev vwCl : List vw_C := [(RX0, TX0, 2), (RX1, TX1, 11), (RX2, TX2, 9), (RX3, TX3, 6), (RX4, TX4, 12), (RX5, TX5, 4), (RX6, TX6, 2), (RX7, TX7, 3), (RX8, TX8, 2), (RX9, TX9, 4), (RX10, TX10, 8)]
