section
/-- a private method of a class that the tables say can be made, by its rows of tables_1 -/
def lw_okq (q : MethodName × Nat) : Prop := (q.1.cls ≠ "java/lang/invoke/MethodHandle" ∧ q.1.cls ≠ "java/lang/invoke/VarHandle") ∧ Cond.instantiable q.1.cls q.2 ∈ tables_1 ∧ Cond.privateMethod q.1 ∈ tables_1 ∧ Cond.instanceMethod q.1 ∈ tables_1
theorem lw_p0 : lw_okq (⟨"PlanShelves", "record", "()V"⟩, 4) := ⟨⟨by decide +kernel, by decide +kernel⟩, List.mem_of_getElem? (i := 19) (by decide +kernel), List.mem_of_getElem? (i := 326) (by decide +kernel), List.mem_of_getElem? (i := 327) (by decide +kernel)⟩
theorem lw_p1 : lw_okq (⟨"PlanShelves$History", "forgetOldest", "()V"⟩, 2) := ⟨⟨by decide +kernel, by decide +kernel⟩, List.mem_of_getElem? (i := 271) (by decide +kernel), List.mem_of_getElem? (i := 334) (by decide +kernel), List.mem_of_getElem? (i := 335) (by decide +kernel)⟩
theorem lw_p2 : lw_okq (⟨"PlanShelves", "gathered", "(IIII)[I"⟩, 4) := ⟨⟨by decide +kernel, by decide +kernel⟩, List.mem_of_getElem? (i := 19) (by decide +kernel), List.mem_of_getElem? (i := 382) (by decide +kernel), List.mem_of_getElem? (i := 383) (by decide +kernel)⟩
theorem lw_p3 : lw_okq (⟨"PlanShelves$Table", "put", "(III)V"⟩, 3) := ⟨⟨by decide +kernel, by decide +kernel⟩, List.mem_of_getElem? (i := 33) (by decide +kernel), List.mem_of_getElem? (i := 393) (by decide +kernel), List.mem_of_getElem? (i := 394) (by decide +kernel)⟩
theorem lw_p4 : lw_okq (⟨"PlanShelves$Table", "addToSums", "(II)V"⟩, 3) := ⟨⟨by decide +kernel, by decide +kernel⟩, List.mem_of_getElem? (i := 33) (by decide +kernel), List.mem_of_getElem? (i := 397) (by decide +kernel), List.mem_of_getElem? (i := 398) (by decide +kernel)⟩
theorem lw_p5 : lw_okq (⟨"PlanShelves$Shelf", "remove", "(I)V"⟩, 6) := ⟨⟨by decide +kernel, by decide +kernel⟩, List.mem_of_getElem? (i := 96) (by decide +kernel), List.mem_of_getElem? (i := 450) (by decide +kernel), List.mem_of_getElem? (i := 451) (by decide +kernel)⟩
theorem lw_p6 : lw_okq (⟨"PlanShelves$Text", "canStandAt", "(I)Z"⟩, 2) := ⟨⟨by decide +kernel, by decide +kernel⟩, List.mem_of_getElem? (i := 288) (by decide +kernel), List.mem_of_getElem? (i := 480) (by decide +kernel), List.mem_of_getElem? (i := 481) (by decide +kernel)⟩
theorem lw_p7 : lw_okq (⟨"PlanShelves$Text", "characterAt", "(I)C"⟩, 2) := ⟨⟨by decide +kernel, by decide +kernel⟩, List.mem_of_getElem? (i := 288) (by decide +kernel), List.mem_of_getElem? (i := 484) (by decide +kernel), List.mem_of_getElem? (i := 485) (by decide +kernel)⟩
theorem lw_p8 : lw_okq (⟨"PlanShelves$Text", "isBehindLastCondition", "(I)Z"⟩, 2) := ⟨⟨by decide +kernel, by decide +kernel⟩, List.mem_of_getElem? (i := 288) (by decide +kernel), List.mem_of_getElem? (i := 575) (by decide +kernel), List.mem_of_getElem? (i := 576) (by decide +kernel)⟩
theorem lw_p9 : lw_okq (⟨"PlanShelves", "accepts", "(IIIII)Z"⟩, 4) := ⟨⟨by decide +kernel, by decide +kernel⟩, List.mem_of_getElem? (i := 19) (by decide +kernel), List.mem_of_getElem? (i := 637) (by decide +kernel), List.mem_of_getElem? (i := 638) (by decide +kernel)⟩
theorem lw_p10 : lw_okq (⟨"PlanShelves$State", "classOfShare", "(I)I"⟩, 12) := ⟨⟨by decide +kernel, by decide +kernel⟩, List.mem_of_getElem? (i := 27) (by decide +kernel), List.mem_of_getElem? (i := 665) (by decide +kernel), List.mem_of_getElem? (i := 666) (by decide +kernel)⟩
theorem lw_p11 : lw_okq (⟨"PlanShelves$State", "planForLastRun", "(LPlanShelves$Statement;[I)LPlanShelves$Plan;"⟩, 12) := ⟨⟨by decide +kernel, by decide +kernel⟩, List.mem_of_getElem? (i := 27) (by decide +kernel), List.mem_of_getElem? (i := 673) (by decide +kernel), List.mem_of_getElem? (i := 674) (by decide +kernel)⟩
theorem lw_p12 : lw_okq (⟨"PlanShelves$Shelf", "droppedAheadOf", "(LPlanShelves$Plan;)I"⟩, 6) := ⟨⟨by decide +kernel, by decide +kernel⟩, List.mem_of_getElem? (i := 96) (by decide +kernel), List.mem_of_getElem? (i := 689) (by decide +kernel), List.mem_of_getElem? (i := 690) (by decide +kernel)⟩
theorem lw_p13 : lw_okq (⟨"PlanShelves$State", "use", "(LPlanShelves$Plan;LPlanShelves$Statement;[I)V"⟩, 12) := ⟨⟨by decide +kernel, by decide +kernel⟩, List.mem_of_getElem? (i := 27) (by decide +kernel), List.mem_of_getElem? (i := 719) (by decide +kernel), List.mem_of_getElem? (i := 720) (by decide +kernel)⟩
theorem lw_p14 : lw_okq (⟨"PlanShelves$State", "surprise", "(LPlanShelves$Plan;)V"⟩, 12) := ⟨⟨by decide +kernel, by decide +kernel⟩, List.mem_of_getElem? (i := 27) (by decide +kernel), List.mem_of_getElem? (i := 723) (by decide +kernel), List.mem_of_getElem? (i := 724) (by decide +kernel)⟩
theorem lw_p15 : lw_okq (⟨"PlanShelves$Table", "fits", "(ILPlanShelves$Statement;[I)Z"⟩, 3) := ⟨⟨by decide +kernel, by decide +kernel⟩, List.mem_of_getElem? (i := 33) (by decide +kernel), List.mem_of_getElem? (i := 735) (by decide +kernel), List.mem_of_getElem? (i := 736) (by decide +kernel)⟩
def lw_privs_1 : List (MethodName × Nat) := [(⟨"PlanShelves", "record", "()V"⟩, 4), (⟨"PlanShelves$History", "forgetOldest", "()V"⟩, 2), (⟨"PlanShelves", "gathered", "(IIII)[I"⟩, 4), (⟨"PlanShelves$Table", "put", "(III)V"⟩, 3), (⟨"PlanShelves$Table", "addToSums", "(II)V"⟩, 3), (⟨"PlanShelves$Shelf", "remove", "(I)V"⟩, 6), (⟨"PlanShelves$Text", "canStandAt", "(I)Z"⟩, 2), (⟨"PlanShelves$Text", "characterAt", "(I)C"⟩, 2), (⟨"PlanShelves$Text", "isBehindLastCondition", "(I)Z"⟩, 2), (⟨"PlanShelves", "accepts", "(IIIII)Z"⟩, 4), (⟨"PlanShelves$State", "classOfShare", "(I)I"⟩, 12), (⟨"PlanShelves$State", "planForLastRun", "(LPlanShelves$Statement;[I)LPlanShelves$Plan;"⟩, 12), (⟨"PlanShelves$Shelf", "droppedAheadOf", "(LPlanShelves$Plan;)I"⟩, 6), (⟨"PlanShelves$State", "use", "(LPlanShelves$Plan;LPlanShelves$Statement;[I)V"⟩, 12), (⟨"PlanShelves$State", "surprise", "(LPlanShelves$Plan;)V"⟩, 12), (⟨"PlanShelves$Table", "fits", "(ILPlanShelves$Statement;[I)Z"⟩, 3)]
theorem lw_r1 : ∀ q ∈ lw_privs_1, lw_okq q := List.forall_mem_cons.mpr ⟨lw_p0, List.forall_mem_cons.mpr ⟨lw_p1, List.forall_mem_cons.mpr ⟨lw_p2, List.forall_mem_cons.mpr ⟨lw_p3, List.forall_mem_cons.mpr ⟨lw_p4, List.forall_mem_cons.mpr ⟨lw_p5, List.forall_mem_cons.mpr ⟨lw_p6, List.forall_mem_cons.mpr ⟨lw_p7, List.forall_mem_cons.mpr ⟨lw_p8, List.forall_mem_cons.mpr ⟨lw_p9, List.forall_mem_cons.mpr ⟨lw_p10, List.forall_mem_cons.mpr ⟨lw_p11, List.forall_mem_cons.mpr ⟨lw_p12, List.forall_mem_cons.mpr ⟨lw_p13, List.forall_mem_cons.mpr ⟨lw_p14, List.forall_mem_cons.mpr ⟨lw_p15, fun _ h => absurd h List.not_mem_nil⟩⟩⟩⟩⟩⟩⟩⟩⟩⟩⟩⟩⟩⟩⟩⟩
theorem lw_p16 : lw_okq (⟨"PlanShelvesModel", "changes", "()V"⟩, 8) := ⟨⟨by decide +kernel, by decide +kernel⟩, List.mem_of_getElem? (i := 847) (by decide +kernel), List.mem_of_getElem? (i := 888) (by decide +kernel), List.mem_of_getElem? (i := 889) (by decide +kernel)⟩
theorem lw_p17 : lw_okq (⟨"PlanShelvesModel", "isRow", "(I)Z"⟩, 8) := ⟨⟨by decide +kernel, by decide +kernel⟩, List.mem_of_getElem? (i := 847) (by decide +kernel), List.mem_of_getElem? (i := 896) (by decide +kernel), List.mem_of_getElem? (i := 897) (by decide +kernel)⟩
theorem lw_p18 : lw_okq (⟨"PlanShelvesModel", "ofRow", "(II)I"⟩, 8) := ⟨⟨by decide +kernel, by decide +kernel⟩, List.mem_of_getElem? (i := 847) (by decide +kernel), List.mem_of_getElem? (i := 900) (by decide +kernel), List.mem_of_getElem? (i := 901) (by decide +kernel)⟩
theorem lw_p19 : lw_okq (⟨"PlanShelvesModel", "hasIndex", "(I)Z"⟩, 8) := ⟨⟨by decide +kernel, by decide +kernel⟩, List.mem_of_getElem? (i := 847) (by decide +kernel), List.mem_of_getElem? (i := 908) (by decide +kernel), List.mem_of_getElem? (i := 909) (by decide +kernel)⟩
theorem lw_p20 : lw_okq (⟨"PlanShelvesModel", "ofPlan", "(II)I"⟩, 8) := ⟨⟨by decide +kernel, by decide +kernel⟩, List.mem_of_getElem? (i := 847) (by decide +kernel), List.mem_of_getElem? (i := 912) (by decide +kernel), List.mem_of_getElem? (i := 913) (by decide +kernel)⟩
theorem lw_p21 : lw_okq (⟨"PlanShelvesModel", "columnOf", "(II)I"⟩, 8) := ⟨⟨by decide +kernel, by decide +kernel⟩, List.mem_of_getElem? (i := 847) (by decide +kernel), List.mem_of_getElem? (i := 916) (by decide +kernel), List.mem_of_getElem? (i := 917) (by decide +kernel)⟩
theorem lw_p22 : lw_okq (⟨"PlanShelvesModel", "takesOut", "(I)V"⟩, 8) := ⟨⟨by decide +kernel, by decide +kernel⟩, List.mem_of_getElem? (i := 847) (by decide +kernel), List.mem_of_getElem? (i := 920) (by decide +kernel), List.mem_of_getElem? (i := 921) (by decide +kernel)⟩
theorem lw_p23 : lw_okq (⟨"PlanShelvesModel", "size", "()I"⟩, 8) := ⟨⟨by decide +kernel, by decide +kernel⟩, List.mem_of_getElem? (i := 847) (by decide +kernel), List.mem_of_getElem? (i := 928) (by decide +kernel), List.mem_of_getElem? (i := 929) (by decide +kernel)⟩
theorem lw_p24 : lw_okq (⟨"PlanShelvesModel", "isRight", "()Z"⟩, 8) := ⟨⟨by decide +kernel, by decide +kernel⟩, List.mem_of_getElem? (i := 847) (by decide +kernel), List.mem_of_getElem? (i := 944) (by decide +kernel), List.mem_of_getElem? (i := 945) (by decide +kernel)⟩
theorem lw_p25 : lw_okq (⟨"PlanShelvesModel", "isText", "(I)Z"⟩, 8) := ⟨⟨by decide +kernel, by decide +kernel⟩, List.mem_of_getElem? (i := 847) (by decide +kernel), List.mem_of_getElem? (i := 948) (by decide +kernel), List.mem_of_getElem? (i := 949) (by decide +kernel)⟩
theorem lw_p26 : lw_okq (⟨"PlanShelvesModel", "conditions", "(I)I"⟩, 8) := ⟨⟨by decide +kernel, by decide +kernel⟩, List.mem_of_getElem? (i := 847) (by decide +kernel), List.mem_of_getElem? (i := 952) (by decide +kernel), List.mem_of_getElem? (i := 953) (by decide +kernel)⟩
theorem lw_p27 : lw_okq (⟨"PlanShelvesModel", "meant", "(IZ)I"⟩, 8) := ⟨⟨by decide +kernel, by decide +kernel⟩, List.mem_of_getElem? (i := 847) (by decide +kernel), List.mem_of_getElem? (i := 956) (by decide +kernel), List.mem_of_getElem? (i := 957) (by decide +kernel)⟩
theorem lw_p28 : lw_okq (⟨"PlanShelvesModel", "operatorOf", "(II)I"⟩, 8) := ⟨⟨by decide +kernel, by decide +kernel⟩, List.mem_of_getElem? (i := 847) (by decide +kernel), List.mem_of_getElem? (i := 960) (by decide +kernel), List.mem_of_getElem? (i := 961) (by decide +kernel)⟩
theorem lw_p29 : lw_okq (⟨"PlanShelvesModel", "isStatement", "(I)Z"⟩, 8) := ⟨⟨by decide +kernel, by decide +kernel⟩, List.mem_of_getElem? (i := 847) (by decide +kernel), List.mem_of_getElem? (i := 968) (by decide +kernel), List.mem_of_getElem? (i := 969) (by decide +kernel)⟩
theorem lw_p30 : lw_okq (⟨"PlanShelvesModel", "plansOf", "(I)I"⟩, 8) := ⟨⟨by decide +kernel, by decide +kernel⟩, List.mem_of_getElem? (i := 847) (by decide +kernel), List.mem_of_getElem? (i := 972) (by decide +kernel), List.mem_of_getElem? (i := 973) (by decide +kernel)⟩
theorem lw_p31 : lw_okq (⟨"PlanShelvesModel", "takes", "(IIIII)Z"⟩, 8) := ⟨⟨by decide +kernel, by decide +kernel⟩, List.mem_of_getElem? (i := 847) (by decide +kernel), List.mem_of_getElem? (i := 980) (by decide +kernel), List.mem_of_getElem? (i := 981) (by decide +kernel)⟩
def lw_privs_2 : List (MethodName × Nat) := [(⟨"PlanShelvesModel", "changes", "()V"⟩, 8), (⟨"PlanShelvesModel", "isRow", "(I)Z"⟩, 8), (⟨"PlanShelvesModel", "ofRow", "(II)I"⟩, 8), (⟨"PlanShelvesModel", "hasIndex", "(I)Z"⟩, 8), (⟨"PlanShelvesModel", "ofPlan", "(II)I"⟩, 8), (⟨"PlanShelvesModel", "columnOf", "(II)I"⟩, 8), (⟨"PlanShelvesModel", "takesOut", "(I)V"⟩, 8), (⟨"PlanShelvesModel", "size", "()I"⟩, 8), (⟨"PlanShelvesModel", "isRight", "()Z"⟩, 8), (⟨"PlanShelvesModel", "isText", "(I)Z"⟩, 8), (⟨"PlanShelvesModel", "conditions", "(I)I"⟩, 8), (⟨"PlanShelvesModel", "meant", "(IZ)I"⟩, 8), (⟨"PlanShelvesModel", "operatorOf", "(II)I"⟩, 8), (⟨"PlanShelvesModel", "isStatement", "(I)Z"⟩, 8), (⟨"PlanShelvesModel", "plansOf", "(I)I"⟩, 8), (⟨"PlanShelvesModel", "takes", "(IIIII)Z"⟩, 8)]
theorem lw_r2 : ∀ q ∈ lw_privs_2, lw_okq q := List.forall_mem_cons.mpr ⟨lw_p16, List.forall_mem_cons.mpr ⟨lw_p17, List.forall_mem_cons.mpr ⟨lw_p18, List.forall_mem_cons.mpr ⟨lw_p19, List.forall_mem_cons.mpr ⟨lw_p20, List.forall_mem_cons.mpr ⟨lw_p21, List.forall_mem_cons.mpr ⟨lw_p22, List.forall_mem_cons.mpr ⟨lw_p23, List.forall_mem_cons.mpr ⟨lw_p24, List.forall_mem_cons.mpr ⟨lw_p25, List.forall_mem_cons.mpr ⟨lw_p26, List.forall_mem_cons.mpr ⟨lw_p27, List.forall_mem_cons.mpr ⟨lw_p28, List.forall_mem_cons.mpr ⟨lw_p29, List.forall_mem_cons.mpr ⟨lw_p30, List.forall_mem_cons.mpr ⟨lw_p31, fun _ h => absurd h List.not_mem_nil⟩⟩⟩⟩⟩⟩⟩⟩⟩⟩⟩⟩⟩⟩⟩⟩
theorem lw_p32 : lw_okq (⟨"PlanShelvesModel", "goes", "(I)V"⟩, 8) := ⟨⟨by decide +kernel, by decide +kernel⟩, List.mem_of_getElem? (i := 847) (by decide +kernel), List.mem_of_getElem? (i := 984) (by decide +kernel), List.mem_of_getElem? (i := 985) (by decide +kernel)⟩
theorem lw_p33 : lw_okq (⟨"PlanShelvesModel", "ownClass", "(I)I"⟩, 8) := ⟨⟨by decide +kernel, by decide +kernel⟩, List.mem_of_getElem? (i := 847) (by decide +kernel), List.mem_of_getElem? (i := 988) (by decide +kernel), List.mem_of_getElem? (i := 989) (by decide +kernel)⟩
theorem lw_p34 : lw_okq (⟨"PlanShelvesModel", "weights", "(IIZ)I"⟩, 8) := ⟨⟨by decide +kernel, by decide +kernel⟩, List.mem_of_getElem? (i := 847) (by decide +kernel), List.mem_of_getElem? (i := 992) (by decide +kernel), List.mem_of_getElem? (i := 993) (by decide +kernel)⟩
theorem lw_p35 : lw_okq (⟨"PlanShelvesModel", "holds", "(III)Z"⟩, 8) := ⟨⟨by decide +kernel, by decide +kernel⟩, List.mem_of_getElem? (i := 847) (by decide +kernel), List.mem_of_getElem? (i := 996) (by decide +kernel), List.mem_of_getElem? (i := 997) (by decide +kernel)⟩
theorem lw_p36 : lw_okq (⟨"PlanShelvesModel", "placeFor", "(II)I"⟩, 8) := ⟨⟨by decide +kernel, by decide +kernel⟩, List.mem_of_getElem? (i := 847) (by decide +kernel), List.mem_of_getElem? (i := 1000) (by decide +kernel), List.mem_of_getElem? (i := 1001) (by decide +kernel)⟩
theorem lw_p37 : lw_okq (⟨"PlanShelvesModel", "bestWay", "(IZ)I"⟩, 8) := ⟨⟨by decide +kernel, by decide +kernel⟩, List.mem_of_getElem? (i := 847) (by decide +kernel), List.mem_of_getElem? (i := 1004) (by decide +kernel), List.mem_of_getElem? (i := 1005) (by decide +kernel)⟩
theorem lw_p38 : lw_okq (⟨"PlanShelvesModel", "cost", "(IIZ)I"⟩, 8) := ⟨⟨by decide +kernel, by decide +kernel⟩, List.mem_of_getElem? (i := 847) (by decide +kernel), List.mem_of_getElem? (i := 1008) (by decide +kernel), List.mem_of_getElem? (i := 1009) (by decide +kernel)⟩
theorem lw_p39 : lw_okq (⟨"PlanShelvesModel", "clears", "()I"⟩, 8) := ⟨⟨by decide +kernel, by decide +kernel⟩, List.mem_of_getElem? (i := 847) (by decide +kernel), List.mem_of_getElem? (i := 1012) (by decide +kernel), List.mem_of_getElem? (i := 1013) (by decide +kernel)⟩
theorem lw_p40 : lw_okq (⟨"PlanShelvesModel", "dropsAt", "(I)I"⟩, 8) := ⟨⟨by decide +kernel, by decide +kernel⟩, List.mem_of_getElem? (i := 847) (by decide +kernel), List.mem_of_getElem? (i := 1016) (by decide +kernel), List.mem_of_getElem? (i := 1017) (by decide +kernel)⟩
theorem lw_p41 : lw_okq (⟨"PlanShelvesModel", "isAhead", "(II)Z"⟩, 8) := ⟨⟨by decide +kernel, by decide +kernel⟩, List.mem_of_getElem? (i := 847) (by decide +kernel), List.mem_of_getElem? (i := 1020) (by decide +kernel), List.mem_of_getElem? (i := 1021) (by decide +kernel)⟩
theorem lw_p42 : lw_okq (⟨"PlanShelvesModel", "keeps", "(IIII)I"⟩, 8) := ⟨⟨by decide +kernel, by decide +kernel⟩, List.mem_of_getElem? (i := 847) (by decide +kernel), List.mem_of_getElem? (i := 1024) (by decide +kernel), List.mem_of_getElem? (i := 1025) (by decide +kernel)⟩
theorem lw_p43 : lw_okq (⟨"PlanShelvesModel", "tells", "(IIIIII)V"⟩, 8) := ⟨⟨by decide +kernel, by decide +kernel⟩, List.mem_of_getElem? (i := 847) (by decide +kernel), List.mem_of_getElem? (i := 1028) (by decide +kernel), List.mem_of_getElem? (i := 1029) (by decide +kernel)⟩
theorem lw_p44 : lw_okq (⟨"PlanShelvesModel", "placeOf", "(I)I"⟩, 8) := ⟨⟨by decide +kernel, by decide +kernel⟩, List.mem_of_getElem? (i := 847) (by decide +kernel), List.mem_of_getElem? (i := 1040) (by decide +kernel), List.mem_of_getElem? (i := 1041) (by decide +kernel)⟩
theorem lw_p45 : lw_okq (⟨"PlanShelvesModel", "pinned", "()I"⟩, 8) := ⟨⟨by decide +kernel, by decide +kernel⟩, List.mem_of_getElem? (i := 847) (by decide +kernel), List.mem_of_getElem? (i := 1044) (by decide +kernel), List.mem_of_getElem? (i := 1045) (by decide +kernel)⟩
def lw_privs_3 : List (MethodName × Nat) := [(⟨"PlanShelvesModel", "goes", "(I)V"⟩, 8), (⟨"PlanShelvesModel", "ownClass", "(I)I"⟩, 8), (⟨"PlanShelvesModel", "weights", "(IIZ)I"⟩, 8), (⟨"PlanShelvesModel", "holds", "(III)Z"⟩, 8), (⟨"PlanShelvesModel", "placeFor", "(II)I"⟩, 8), (⟨"PlanShelvesModel", "bestWay", "(IZ)I"⟩, 8), (⟨"PlanShelvesModel", "cost", "(IIZ)I"⟩, 8), (⟨"PlanShelvesModel", "clears", "()I"⟩, 8), (⟨"PlanShelvesModel", "dropsAt", "(I)I"⟩, 8), (⟨"PlanShelvesModel", "isAhead", "(II)Z"⟩, 8), (⟨"PlanShelvesModel", "keeps", "(IIII)I"⟩, 8), (⟨"PlanShelvesModel", "tells", "(IIIIII)V"⟩, 8), (⟨"PlanShelvesModel", "placeOf", "(I)I"⟩, 8), (⟨"PlanShelvesModel", "pinned", "()I"⟩, 8)]
theorem lw_r3 : ∀ q ∈ lw_privs_3, lw_okq q := List.forall_mem_cons.mpr ⟨lw_p32, List.forall_mem_cons.mpr ⟨lw_p33, List.forall_mem_cons.mpr ⟨lw_p34, List.forall_mem_cons.mpr ⟨lw_p35, List.forall_mem_cons.mpr ⟨lw_p36, List.forall_mem_cons.mpr ⟨lw_p37, List.forall_mem_cons.mpr ⟨lw_p38, List.forall_mem_cons.mpr ⟨lw_p39, List.forall_mem_cons.mpr ⟨lw_p40, List.forall_mem_cons.mpr ⟨lw_p41, List.forall_mem_cons.mpr ⟨lw_p42, List.forall_mem_cons.mpr ⟨lw_p43, List.forall_mem_cons.mpr ⟨lw_p44, List.forall_mem_cons.mpr ⟨lw_p45, fun _ h => absurd h List.not_mem_nil⟩⟩⟩⟩⟩⟩⟩⟩⟩⟩⟩⟩⟩⟩
def lw_privs : List (MethodName × Nat) := lw_privs_1 ++ (lw_privs_2 ++ (lw_privs_3))
def lw_tbl : List Cond := k2_sels lw_privs ++ tables_1
theorem lw_privs_ok : ∀ q ∈ lw_privs, lw_okq q := by
  show ∀ q ∈ lw_privs_1 ++ (lw_privs_2 ++ (lw_privs_3)), lw_okq q
  exact List.forall_mem_append.mpr ⟨lw_r1, List.forall_mem_append.mpr ⟨lw_r2, lw_r3⟩⟩
def RX0 : String := "PlanShelves$History"
def TX0 : u_T := fun k => match k with
  | 0 => ("PlanShelves$History", "states", "[LPlanShelves$State;", true)
  | _ => ("PlanShelves$History", "kept", "I", false)
def tyX0 : Nat → FieldType := fun k => match k with
  | 0 => .array (.object "PlanShelves$State")
  | _ => .int
abbrev wsX00 : List Cond := u_ws RX0 TX0 2
theorem nmX0 : ∀ a, a < 2 → ∀ b, b < 2 → a ≠ b → (TX0 a).2.1 ≠ (TX0 b).2.1 := by decide +kernel
theorem tyX0_ok : ∀ k, k < 2 → parseFieldDescriptor (TX0 k).2.2.1 = some (tyX0 k) := by decide +kernel
abbrev cX0_init : ByteArray := prog_2_method_1_code
def yX0_init : MethodName := ⟨RX0, "<init>", "()V"⟩
abbrev cX0_push : ByteArray := prog_2_method_2_code
def yX0_push : MethodName := ⟨RX0, "push", "(LPlanShelves$State;)V"⟩
abbrev cX0_popInto : ByteArray := prog_2_method_3_code
def yX0_popInto : MethodName := ⟨RX0, "popInto", "(LPlanShelves$State;)V"⟩
abbrev cX0_forgetOldest : ByteArray := prog_2_method_4_code
def yX0_forgetOldest : MethodName := ⟨RX0, "forgetOldest", "()V"⟩
def RX1 : String := "PlanShelves$LastRun"
def TX1 : u_T := fun k => match k with
  | 0 => ("PlanShelves$LastRun", "values", "[I", true)
  | 1 => ("PlanShelves$LastRun", "was", "Z", false)
  | 2 => ("PlanShelves$LastRun", "statement", "I", false)
  | 3 => ("PlanShelves$LastRun", "own", "I", false)
  | 4 => ("PlanShelves$LastRun", "plan", "I", false)
  | 5 => ("PlanShelves$LastRun", "way", "I", false)
  | 6 => ("PlanShelves$LastRun", "estimate", "I", false)
  | 7 => ("PlanShelves$LastRun", "cost", "I", false)
  | 8 => ("PlanShelves$LastRun", "origin", "I", false)
  | 9 => ("PlanShelves$LastRun", "surprise", "Z", false)
  | _ => ("PlanShelves$LastRun", "dropped", "I", false)
def tyX1 : Nat → FieldType := fun k => match k with
  | 0 => .array .int
  | 1 => .boolean
  | 2 => .int
  | 3 => .int
  | 4 => .int
  | 5 => .int
  | 6 => .int
  | 7 => .int
  | 8 => .int
  | 9 => .boolean
  | _ => .int
abbrev wsX10 : List Cond := u_ws RX1 TX1 11
theorem nmX1 : ∀ a, a < 11 → ∀ b, b < 11 → a ≠ b → (TX1 a).2.1 ≠ (TX1 b).2.1 := by decide +kernel
theorem tyX1_ok : ∀ k, k < 11 → parseFieldDescriptor (TX1 k).2.2.1 = some (tyX1 k) := by decide +kernel
abbrev cX1_init : ByteArray := prog_3_method_1_code
def yX1_init : MethodName := ⟨RX1, "<init>", "()V"⟩
abbrev cX1_begin : ByteArray := prog_3_method_2_code
def yX1_begin : MethodName := ⟨RX1, "begin", "(I[II)V"⟩
abbrev cX1_tell : ByteArray := prog_3_method_3_code
def yX1_tell : MethodName := ⟨RX1, "tell", "(I)I"⟩
abbrev cX1_takeFrom : ByteArray := prog_3_method_4_code
def yX1_takeFrom : MethodName := ⟨RX1, "takeFrom", "(LPlanShelves$LastRun;)V"⟩
def RX2 : String := "PlanShelves$Plan"
def TX2 : u_T := fun k => match k with
  | 0 => ("PlanShelves$Plan", "number", "I", false)
  | 1 => ("PlanShelves$Plan", "statement", "I", false)
  | 2 => ("PlanShelves$Plan", "own", "I", false)
  | 3 => ("PlanShelves$Plan", "way", "I", false)
  | 4 => ("PlanShelves$Plan", "estimate", "I", false)
  | 5 => ("PlanShelves$Plan", "uses", "I", false)
  | 6 => ("PlanShelves$Plan", "surprises", "I", false)
  | 7 => ("PlanShelves$Plan", "pinned", "Z", false)
  | _ => ("PlanShelves$Plan", "lastUse", "I", false)
def tyX2 : Nat → FieldType := fun k => match k with
  | 0 => .int
  | 1 => .int
  | 2 => .int
  | 3 => .int
  | 4 => .int
  | 5 => .int
  | 6 => .int
  | 7 => .boolean
  | _ => .int
abbrev wsX20 : List Cond := u_ws RX2 TX2 9
theorem nmX2 : ∀ a, a < 9 → ∀ b, b < 9 → a ≠ b → (TX2 a).2.1 ≠ (TX2 b).2.1 := by decide +kernel
theorem tyX2_ok : ∀ k, k < 9 → parseFieldDescriptor (TX2 k).2.2.1 = some (tyX2 k) := by decide +kernel
abbrev cX2_init : ByteArray := prog_4_method_1_code
def yX2_init : MethodName := ⟨RX2, "<init>", "()V"⟩
abbrev cX2_begin : ByteArray := prog_4_method_2_code
def yX2_begin : MethodName := ⟨RX2, "begin", "(III)V"⟩
abbrev cX2_dropsAheadOf : ByteArray := prog_4_method_3_code
def yX2_dropsAheadOf : MethodName := ⟨RX2, "dropsAheadOf", "(LPlanShelves$Plan;)Z"⟩
abbrev cX2_tell : ByteArray := prog_4_method_4_code
def yX2_tell : MethodName := ⟨RX2, "tell", "(II)I"⟩
abbrev cX2_takeFrom : ByteArray := prog_4_method_5_code
def yX2_takeFrom : MethodName := ⟨RX2, "takeFrom", "(LPlanShelves$Plan;)V"⟩
def RX3 : String := "PlanShelves$Shelf"
def TX3 : u_T := fun k => match k with
  | 0 => ("PlanShelves$Shelf", "plans", "[LPlanShelves$Plan;", true)
  | 1 => ("PlanShelves$Shelf", "loose", "LPlanShelves$Plan;", true)
  | 2 => ("PlanShelves$Shelf", "kept", "I", false)
  | 3 => ("PlanShelves$Shelf", "made", "I", false)
  | 4 => ("PlanShelves$Shelf", "dropped", "I", false)
  | _ => ("PlanShelves$Shelf", "thrownAway", "I", false)
def tyX3 : Nat → FieldType := fun k => match k with
  | 0 => .array (.object "PlanShelves$Plan")
  | 1 => .object "PlanShelves$Plan"
  | 2 => .int
  | 3 => .int
  | 4 => .int
  | _ => .int
abbrev wsX30 : List Cond := u_ws RX3 TX3 6
theorem nmX3 : ∀ a, a < 6 → ∀ b, b < 6 → a ≠ b → (TX3 a).2.1 ≠ (TX3 b).2.1 := by decide +kernel
theorem tyX3_ok : ∀ k, k < 6 → parseFieldDescriptor (TX3 k).2.2.1 = some (tyX3 k) := by decide +kernel
abbrev cX3_init : ByteArray := prog_5_method_1_code
def yX3_init : MethodName := ⟨RX3, "<init>", "()V"⟩
abbrev cX3_planAt : ByteArray := prog_5_method_2_code
def yX3_planAt : MethodName := ⟨RX3, "planAt", "(I)LPlanShelves$Plan;"⟩
abbrev cX3_numberAt : ByteArray := prog_5_method_3_code
def yX3_numberAt : MethodName := ⟨RX3, "numberAt", "(I)I"⟩
abbrev cX3_placeOf : ByteArray := prog_5_method_4_code
def yX3_placeOf : MethodName := ⟨RX3, "placeOf", "(I)I"⟩
abbrev cX3_placeFor : ByteArray := prog_5_method_5_code
def yX3_placeFor : MethodName := ⟨RX3, "placeFor", "(II)I"⟩
abbrev cX3_keptFor : ByteArray := prog_5_method_6_code
def yX3_keptFor : MethodName := ⟨RX3, "keptFor", "(I)I"⟩
abbrev cX3_pinned : ByteArray := prog_5_method_7_code
def yX3_pinned : MethodName := ⟨RX3, "pinned", "()I"⟩
abbrev cX3_placeToDrop : ByteArray := prog_5_method_8_code
def yX3_placeToDrop : MethodName := ⟨RX3, "placeToDrop", "(I)I"⟩
abbrev cX3_droppedAheadOf : ByteArray := prog_5_method_9_code
def yX3_droppedAheadOf : MethodName := ⟨RX3, "droppedAheadOf", "(LPlanShelves$Plan;)I"⟩
abbrev cX3_makeRoom : ByteArray := prog_5_method_10_code
def yX3_makeRoom : MethodName := ⟨RX3, "makeRoom", "(I)I"⟩
abbrev cX3_newPlan : ByteArray := prog_5_method_11_code
def yX3_newPlan : MethodName := ⟨RX3, "newPlan", "(III)LPlanShelves$Plan;"⟩
abbrev cX3_throwAway : ByteArray := prog_5_method_12_code
def yX3_throwAway : MethodName := ⟨RX3, "throwAway", "(I)V"⟩
abbrev cX3_remove : ByteArray := prog_5_method_13_code
def yX3_remove : MethodName := ⟨RX3, "remove", "(I)V"⟩
abbrev cX3_takeFrom : ByteArray := prog_5_method_14_code
def yX3_takeFrom : MethodName := ⟨RX3, "takeFrom", "(LPlanShelves$Shelf;)V"⟩
def RX4 : String := "PlanShelves$State"
def TX4 : u_T := fun k => match k with
  | 0 => ("PlanShelves$State", "table", "LPlanShelves$Table;", true)
  | 1 => ("PlanShelves$State", "statistics", "LPlanShelves$Sums;", true)
  | 2 => ("PlanShelves$State", "statements", "[LPlanShelves$Statement;", true)
  | 3 => ("PlanShelves$State", "blank", "LPlanShelves$Statement;", true)
  | 4 => ("PlanShelves$State", "shelf", "LPlanShelves$Shelf;", true)
  | 5 => ("PlanShelves$State", "lastRun", "LPlanShelves$LastRun;", true)
  | 6 => ("PlanShelves$State", "settings", "[I", true)
  | 7 => ("PlanShelves$State", "indexes", "I", false)
  | 8 => ("PlanShelves$State", "statementCount", "I", false)
  | 9 => ("PlanShelves$State", "runs", "I", false)
  | 10 => ("PlanShelves$State", "hits", "I", false)
  | _ => ("PlanShelves$State", "surprises", "I", false)
def tyX4 : Nat → FieldType := fun k => match k with
  | 0 => .object "PlanShelves$Table"
  | 1 => .object "PlanShelves$Sums"
  | 2 => .array (.object "PlanShelves$Statement")
  | 3 => .object "PlanShelves$Statement"
  | 4 => .object "PlanShelves$Shelf"
  | 5 => .object "PlanShelves$LastRun"
  | 6 => .array .int
  | 7 => .int
  | 8 => .int
  | 9 => .int
  | 10 => .int
  | _ => .int
abbrev wsX40 : List Cond := u_ws RX4 TX4 12
theorem nmX4 : ∀ a, a < 12 → ∀ b, b < 12 → a ≠ b → (TX4 a).2.1 ≠ (TX4 b).2.1 := by decide +kernel
theorem tyX4_ok : ∀ k, k < 12 → parseFieldDescriptor (TX4 k).2.2.1 = some (tyX4 k) := by decide +kernel
abbrev cX4_init : ByteArray := prog_6_method_1_code
def yX4_init : MethodName := ⟨RX4, "<init>", "()V"⟩
abbrev cX4_isIndexed : ByteArray := prog_6_method_2_code
def yX4_isIndexed : MethodName := ⟨RX4, "isIndexed", "(I)Z"⟩
abbrev cX4_flipIndex : ByteArray := prog_6_method_3_code
def yX4_flipIndex : MethodName := ⟨RX4, "flipIndex", "(I)V"⟩
abbrev cX4_throwAwayPlansBy : ByteArray := prog_6_method_4_code
def yX4_throwAwayPlansBy : MethodName := ⟨RX4, "throwAwayPlansBy", "(I)I"⟩
abbrev cX4_changeSetting : ByteArray := prog_6_method_5_code
def yX4_changeSetting : MethodName := ⟨RX4, "changeSetting", "(II)I"⟩
abbrev cX4_hasStatement : ByteArray := prog_6_method_6_code
def yX4_hasStatement : MethodName := ⟨RX4, "hasStatement", "(I)Z"⟩
abbrev cX4_statementAt : ByteArray := prog_6_method_7_code
def yX4_statementAt : MethodName := ⟨RX4, "statementAt", "(I)LPlanShelves$Statement;"⟩
abbrev cX4_statementWith : ByteArray := prog_6_method_8_code
def yX4_statementWith : MethodName := ⟨RX4, "statementWith", "(LPlanShelves$Text;)I"⟩
abbrev cX4_addStatement : ByteArray := prog_6_method_9_code
def yX4_addStatement : MethodName := ⟨RX4, "addStatement", "(LPlanShelves$Text;)I"⟩
abbrev cX4_classWith : ByteArray := prog_6_method_10_code
def yX4_classWith : MethodName := ⟨RX4, "classWith", "(LPlanShelves$Statement;[I)I"⟩
abbrev cX4_classOfShare : ByteArray := prog_6_method_11_code
def yX4_classOfShare : MethodName := ⟨RX4, "classOfShare", "(I)I"⟩
abbrev cX4_bestWay : ByteArray := prog_6_method_12_code
def yX4_bestWay : MethodName := ⟨RX4, "bestWay", "(LPlanShelves$Sums;LPlanShelves$Statement;[I)I"⟩
abbrev cX4_execute : ByteArray := prog_6_method_13_code
def yX4_execute : MethodName := ⟨RX4, "execute", "(I[I)I"⟩
abbrev cX4_planForLastRun : ByteArray := prog_6_method_14_code
def yX4_planForLastRun : MethodName := ⟨RX4, "planForLastRun", "(LPlanShelves$Statement;[I)LPlanShelves$Plan;"⟩
abbrev cX4_use : ByteArray := prog_6_method_15_code
def yX4_use : MethodName := ⟨RX4, "use", "(LPlanShelves$Plan;LPlanShelves$Statement;[I)V"⟩
abbrev cX4_surprise : ByteArray := prog_6_method_16_code
def yX4_surprise : MethodName := ⟨RX4, "surprise", "(LPlanShelves$Plan;)V"⟩
abbrev cX4_takeFrom : ByteArray := prog_6_method_17_code
def yX4_takeFrom : MethodName := ⟨RX4, "takeFrom", "(LPlanShelves$State;)V"⟩
def RX5 : String := "PlanShelves$Statement"
def TX5 : u_T := fun k => match k with
  | 0 => ("PlanShelves$Statement", "columns", "[I", true)
  | 1 => ("PlanShelves$Statement", "operators", "[I", true)
  | 2 => ("PlanShelves$Statement", "conditions", "I", false)
  | _ => ("PlanShelves$Statement", "runs", "I", false)
def tyX5 : Nat → FieldType := fun k => match k with
  | 0 => .array .int
  | 1 => .array .int
  | 2 => .int
  | _ => .int
abbrev wsX50 : List Cond := u_ws RX5 TX5 4
theorem nmX5 : ∀ a, a < 4 → ∀ b, b < 4 → a ≠ b → (TX5 a).2.1 ≠ (TX5 b).2.1 := by decide +kernel
theorem tyX5_ok : ∀ k, k < 4 → parseFieldDescriptor (TX5 k).2.2.1 = some (tyX5 k) := by decide +kernel
abbrev cX5_init : ByteArray := prog_7_method_1_code
def yX5_init : MethodName := ⟨RX5, "<init>", "()V"⟩
abbrev cX5_hasCondition : ByteArray := prog_7_method_2_code
def yX5_hasCondition : MethodName := ⟨RX5, "hasCondition", "(I)Z"⟩
abbrev cX5_columnAt : ByteArray := prog_7_method_3_code
def yX5_columnAt : MethodName := ⟨RX5, "columnAt", "(I)I"⟩
abbrev cX5_operatorAt : ByteArray := prog_7_method_4_code
def yX5_operatorAt : MethodName := ⟨RX5, "operatorAt", "(I)I"⟩
abbrev cX5_takes : ByteArray := prog_7_method_5_code
def yX5_takes : MethodName := ⟨RX5, "takes", "(II)Z"⟩
abbrev cX5_isOf : ByteArray := prog_7_method_6_code
def yX5_isOf : MethodName := ⟨RX5, "isOf", "(LPlanShelves$Text;)Z"⟩
abbrev cX5_readFrom : ByteArray := prog_7_method_7_code
def yX5_readFrom : MethodName := ⟨RX5, "readFrom", "(LPlanShelves$Text;)V"⟩
abbrev cX5_takeFrom : ByteArray := prog_7_method_8_code
def yX5_takeFrom : MethodName := ⟨RX5, "takeFrom", "(LPlanShelves$Statement;)V"⟩
def RX6 : String := "PlanShelves$Sums"
def TX6 : u_T := fun k => match k with
  | 0 => ("PlanShelves$Sums", "weights", "[I", true)
  | _ => ("PlanShelves$Sums", "size", "I", false)
def tyX6 : Nat → FieldType := fun k => match k with
  | 0 => .array .int
  | _ => .int
abbrev wsX60 : List Cond := u_ws RX6 TX6 2
theorem nmX6 : ∀ a, a < 2 → ∀ b, b < 2 → a ≠ b → (TX6 a).2.1 ≠ (TX6 b).2.1 := by decide +kernel
theorem tyX6_ok : ∀ k, k < 2 → parseFieldDescriptor (TX6 k).2.2.1 = some (tyX6 k) := by decide +kernel
abbrev cX6_init : ByteArray := prog_8_method_1_code
def yX6_init : MethodName := ⟨RX6, "<init>", "()V"⟩
abbrev cX6_weightOf : ByteArray := prog_8_method_2_code
def yX6_weightOf : MethodName := ⟨RX6, "weightOf", "(II)I"⟩
abbrev cX6_add : ByteArray := prog_8_method_3_code
def yX6_add : MethodName := ⟨RX6, "add", "(III)V"⟩
abbrev cX6_weightWhere : ByteArray := prog_8_method_4_code
def yX6_weightWhere : MethodName := ⟨RX6, "weightWhere", "(III)I"⟩
abbrev cX6_takeFrom : ByteArray := prog_8_method_5_code
def yX6_takeFrom : MethodName := ⟨RX6, "takeFrom", "(LPlanShelves$Sums;)V"⟩
def RX7 : String := "PlanShelves$Table"
def TX7 : u_T := fun k => match k with
  | 0 => ("PlanShelves$Table", "cells", "[I", true)
  | 1 => ("PlanShelves$Table", "sums", "LPlanShelves$Sums;", true)
  | _ => ("PlanShelves$Table", "rows", "I", false)
def tyX7 : Nat → FieldType := fun k => match k with
  | 0 => .array .int
  | 1 => .object "PlanShelves$Sums"
  | _ => .int
abbrev wsX70 : List Cond := u_ws RX7 TX7 3
theorem nmX7 : ∀ a, a < 3 → ∀ b, b < 3 → a ≠ b → (TX7 a).2.1 ≠ (TX7 b).2.1 := by decide +kernel
theorem tyX7_ok : ∀ k, k < 3 → parseFieldDescriptor (TX7 k).2.2.1 = some (tyX7 k) := by decide +kernel
abbrev cX7_init : ByteArray := prog_9_method_1_code
def yX7_init : MethodName := ⟨RX7, "<init>", "()V"⟩
abbrev cX7_hasRow : ByteArray := prog_9_method_2_code
def yX7_hasRow : MethodName := ⟨RX7, "hasRow", "(I)Z"⟩
abbrev cX7_cellAt : ByteArray := prog_9_method_3_code
def yX7_cellAt : MethodName := ⟨RX7, "cellAt", "(II)I"⟩
abbrev cX7_append : ByteArray := prog_9_method_4_code
def yX7_append : MethodName := ⟨RX7, "append", "([II)I"⟩
abbrev cX7_remove : ByteArray := prog_9_method_5_code
def yX7_remove : MethodName := ⟨RX7, "remove", "(I)I"⟩
abbrev cX7_weightWhere : ByteArray := prog_9_method_6_code
def yX7_weightWhere : MethodName := ⟨RX7, "weightWhere", "(LPlanShelves$Statement;[I)I"⟩
abbrev cX7_fits : ByteArray := prog_9_method_7_code
def yX7_fits : MethodName := ⟨RX7, "fits", "(ILPlanShelves$Statement;[I)Z"⟩
abbrev cX7_put : ByteArray := prog_9_method_8_code
def yX7_put : MethodName := ⟨RX7, "put", "(III)V"⟩
abbrev cX7_addToSums : ByteArray := prog_9_method_9_code
def yX7_addToSums : MethodName := ⟨RX7, "addToSums", "(II)V"⟩
abbrev cX7_takeFrom : ByteArray := prog_9_method_10_code
def yX7_takeFrom : MethodName := ⟨RX7, "takeFrom", "(LPlanShelves$Table;)V"⟩
def RX8 : String := "PlanShelves$Text"
def TX8 : u_T := fun k => match k with
  | 0 => ("PlanShelves$Text", "characters", "[C", true)
  | _ => ("PlanShelves$Text", "length", "I", false)
def tyX8 : Nat → FieldType := fun k => match k with
  | 0 => .array .char
  | _ => .int
abbrev wsX80 : List Cond := u_ws RX8 TX8 2
theorem nmX8 : ∀ a, a < 2 → ∀ b, b < 2 → a ≠ b → (TX8 a).2.1 ≠ (TX8 b).2.1 := by decide +kernel
theorem tyX8_ok : ∀ k, k < 2 → parseFieldDescriptor (TX8 k).2.2.1 = some (tyX8 k) := by decide +kernel
abbrev cX8_init : ByteArray := prog_10_method_1_code
def yX8_init : MethodName := ⟨RX8, "<init>", "()V"⟩
abbrev cX8_append : ByteArray := prog_10_method_2_code
def yX8_append : MethodName := ⟨RX8, "append", "(C)I"⟩
abbrev cX8_empty : ByteArray := prog_10_method_3_code
def yX8_empty : MethodName := ⟨RX8, "empty", "()I"⟩
abbrev cX8_faultPlace : ByteArray := prog_10_method_4_code
def yX8_faultPlace : MethodName := ⟨RX8, "faultPlace", "()I"⟩
abbrev cX8_reasonAt : ByteArray := prog_10_method_5_code
def yX8_reasonAt : MethodName := ⟨RX8, "reasonAt", "(I)I"⟩
abbrev cX8_conditions : ByteArray := prog_10_method_6_code
def yX8_conditions : MethodName := ⟨RX8, "conditions", "()I"⟩
abbrev cX8_columnOf : ByteArray := prog_10_method_7_code
def yX8_columnOf : MethodName := ⟨RX8, "columnOf", "(I)I"⟩
abbrev cX8_operatorOf : ByteArray := prog_10_method_8_code
def yX8_operatorOf : MethodName := ⟨RX8, "operatorOf", "(I)I"⟩
abbrev cX8_canStandAt : ByteArray := prog_10_method_9_code
def yX8_canStandAt : MethodName := ⟨RX8, "canStandAt", "(I)Z"⟩
abbrev cX8_isBehindLastCondition : ByteArray := prog_10_method_10_code
def yX8_isBehindLastCondition : MethodName := ⟨RX8, "isBehindLastCondition", "(I)Z"⟩
abbrev cX8_characterAt : ByteArray := prog_10_method_11_code
def yX8_characterAt : MethodName := ⟨RX8, "characterAt", "(I)C"⟩
def RX9 : String := "PlanShelves"
def TX9 : u_T := fun k => match k with
  | 0 => ("PlanShelves", "now", "LPlanShelves$State;", true)
  | 1 => ("PlanShelves", "history", "LPlanShelves$History;", true)
  | 2 => ("PlanShelves", "text", "LPlanShelves$Text;", true)
  | _ => ("PlanShelves", "given", "[I", true)
def tyX9 : Nat → FieldType := fun k => match k with
  | 0 => .object "PlanShelves$State"
  | 1 => .object "PlanShelves$History"
  | 2 => .object "PlanShelves$Text"
  | _ => .array .int
abbrev wsX90 : List Cond := u_ws RX9 TX9 4
theorem nmX9 : ∀ a, a < 4 → ∀ b, b < 4 → a ≠ b → (TX9 a).2.1 ≠ (TX9 b).2.1 := by decide +kernel
theorem tyX9_ok : ∀ k, k < 4 → parseFieldDescriptor (TX9 k).2.2.1 = some (tyX9 k) := by decide +kernel
abbrev cX9_init : ByteArray := prog_1_method_1_code
def yX9_init : MethodName := ⟨RX9, "<init>", "()V"⟩
abbrev cX9_row : ByteArray := prog_1_method_2_code
def yX9_row : MethodName := ⟨RX9, "row", "(IIIII)I"⟩
abbrev cX9_dropRow : ByteArray := prog_1_method_3_code
def yX9_dropRow : MethodName := ⟨RX9, "dropRow", "(I)I"⟩
abbrev cX9_index : ByteArray := prog_1_method_4_code
def yX9_index : MethodName := ⟨RX9, "index", "(II)I"⟩
abbrev cX9_analyse : ByteArray := prog_1_method_5_code
def yX9_analyse : MethodName := ⟨RX9, "analyse", "()I"⟩
abbrev cX9_rowOf : ByteArray := prog_1_method_6_code
def yX9_rowOf : MethodName := ⟨RX9, "rowOf", "(II)I"⟩
abbrev cX9_known : ByteArray := prog_1_method_7_code
def yX9_known : MethodName := ⟨RX9, "known", "(II)I"⟩
abbrev cX9_statement : ByteArray := prog_1_method_8_code
def yX9_statement : MethodName := ⟨RX9, "statement", "()I"⟩
abbrev cX9_statementOf : ByteArray := prog_1_method_9_code
def yX9_statementOf : MethodName := ⟨RX9, "statementOf", "(II)I"⟩
abbrev cX9_run : ByteArray := prog_1_method_10_code
def yX9_run : MethodName := ⟨RX9, "run", "(IIIII)I"⟩
abbrev cX9_latest : ByteArray := prog_1_method_11_code
def yX9_latest : MethodName := ⟨RX9, "latest", "(I)I"⟩
abbrev cX9_pin : ByteArray := prog_1_method_12_code
def yX9_pin : MethodName := ⟨RX9, "pin", "(II)I"⟩
abbrev cX9_drop : ByteArray := prog_1_method_13_code
def yX9_drop : MethodName := ⟨RX9, "drop", "(I)I"⟩
abbrev cX9_set : ByteArray := prog_1_method_14_code
def yX9_set : MethodName := ⟨RX9, "set", "(II)I"⟩
abbrev cX9_planOf : ByteArray := prog_1_method_15_code
def yX9_planOf : MethodName := ⟨RX9, "planOf", "(II)I"⟩
abbrev cX9_planFor : ByteArray := prog_1_method_16_code
def yX9_planFor : MethodName := ⟨RX9, "planFor", "(II)I"⟩
abbrev cX9_dropsNext : ByteArray := prog_1_method_17_code
def yX9_dropsNext : MethodName := ⟨RX9, "dropsNext", "(I)I"⟩
abbrev cX9_count : ByteArray := prog_1_method_18_code
def yX9_count : MethodName := ⟨RX9, "count", "(I)I"⟩
abbrev cX9_classOf : ByteArray := prog_1_method_19_code
def yX9_classOf : MethodName := ⟨RX9, "classOf", "(IIIII)I"⟩
abbrev cX9_way : ByteArray := prog_1_method_20_code
def yX9_way : MethodName := ⟨RX9, "way", "(IIIII)I"⟩
abbrev cX9_bestCost : ByteArray := prog_1_method_21_code
def yX9_bestCost : MethodName := ⟨RX9, "bestCost", "()I"⟩
abbrev cX9_undo : ByteArray := prog_1_method_22_code
def yX9_undo : MethodName := ⟨RX9, "undo", "()I"⟩
abbrev cX9_type : ByteArray := prog_1_method_23_code
def yX9_type : MethodName := ⟨RX9, "type", "(I)I"⟩
abbrev cX9_clearText : ByteArray := prog_1_method_24_code
def yX9_clearText : MethodName := ⟨RX9, "clearText", "()I"⟩
abbrev cX9_fault : ByteArray := prog_1_method_25_code
def yX9_fault : MethodName := ⟨RX9, "fault", "(I)I"⟩
abbrev cX9_record : ByteArray := prog_1_method_26_code
def yX9_record : MethodName := ⟨RX9, "record", "()V"⟩
abbrev cX9_accepts : ByteArray := prog_1_method_27_code
def yX9_accepts : MethodName := ⟨RX9, "accepts", "(IIIII)Z"⟩
abbrev cX9_gathered : ByteArray := prog_1_method_28_code
def yX9_gathered : MethodName := ⟨RX9, "gathered", "(IIII)[I"⟩
abbrev cX9_within : ByteArray := prog_1_method_29_code
def yX9_within : MethodName := ⟨RX9, "within", "(III)Z"⟩
abbrev cX9_isValue : ByteArray := prog_1_method_30_code
def yX9_isValue : MethodName := ⟨RX9, "isValue", "(I)Z"⟩
abbrev cX9_isColumn : ByteArray := prog_1_method_31_code
def yX9_isColumn : MethodName := ⟨RX9, "isColumn", "(I)Z"⟩
abbrev cX9_at : ByteArray := prog_1_method_32_code
def yX9_at : MethodName := ⟨RX9, "at", "([II)I"⟩
abbrev cX9_copy : ByteArray := prog_1_method_33_code
def yX9_copy : MethodName := ⟨RX9, "copy", "([I[I)V"⟩
abbrev cX9_holds : ByteArray := prog_1_method_34_code
def yX9_holds : MethodName := ⟨RX9, "holds", "(III)Z"⟩
abbrev cX9_cost : ByteArray := prog_1_method_35_code
def yX9_cost : MethodName := ⟨RX9, "cost", "(LPlanShelves$Sums;LPlanShelves$Statement;[II)I"⟩
def RX10 : String := "PlanShelvesModel"
def TX10 : u_T := fun k => match k with
  | 0 => ("PlanShelvesModel", "s", "[I", true)
  | 1 => ("PlanShelvesModel", "past", "[I", true)
  | 2 => ("PlanShelvesModel", "pasts", "I", false)
  | 3 => ("PlanShelvesModel", "text", "[I", true)
  | 4 => ("PlanShelvesModel", "typed", "I", false)
  | 5 => ("PlanShelvesModel", "spot", "I", false)
  | 6 => ("PlanShelvesModel", "reason", "I", false)
  | _ => ("PlanShelvesModel", "value", "[I", true)
def tyX10 : Nat → FieldType := fun k => match k with
  | 0 => .array .int
  | 1 => .array .int
  | 2 => .int
  | 3 => .array .int
  | 4 => .int
  | 5 => .int
  | 6 => .int
  | _ => .array .int
abbrev wsX100 : List Cond := u_ws RX10 TX10 8
theorem nmX10 : ∀ a, a < 8 → ∀ b, b < 8 → a ≠ b → (TX10 a).2.1 ≠ (TX10 b).2.1 := by decide +kernel
theorem tyX10_ok : ∀ k, k < 8 → parseFieldDescriptor (TX10 k).2.2.1 = some (tyX10 k) := by decide +kernel
abbrev cX10_init : ByteArray := prog_12_method_1_code
def yX10_init : MethodName := ⟨RX10, "<init>", "()V"⟩
abbrev cX10_in : ByteArray := prog_12_method_3_code
def yX10_in : MethodName := ⟨RX10, "in", "(III)Z"⟩
abbrev cX10_changes : ByteArray := prog_12_method_4_code
def yX10_changes : MethodName := ⟨RX10, "changes", "()V"⟩
abbrev cX10_isValue : ByteArray := prog_12_method_5_code
def yX10_isValue : MethodName := ⟨RX10, "isValue", "(I)Z"⟩
abbrev cX10_isRow : ByteArray := prog_12_method_6_code
def yX10_isRow : MethodName := ⟨RX10, "isRow", "(I)Z"⟩
abbrev cX10_ofRow : ByteArray := prog_12_method_7_code
def yX10_ofRow : MethodName := ⟨RX10, "ofRow", "(II)I"⟩
abbrev cX10_row : ByteArray := prog_12_method_8_code
def yX10_row : MethodName := ⟨RX10, "row", "(IIIII)I"⟩
abbrev cX10_dropRow : ByteArray := prog_12_method_9_code
def yX10_dropRow : MethodName := ⟨RX10, "dropRow", "(I)I"⟩
abbrev cX10_hasIndex : ByteArray := prog_12_method_10_code
def yX10_hasIndex : MethodName := ⟨RX10, "hasIndex", "(I)Z"⟩
abbrev cX10_index : ByteArray := prog_12_method_11_code
def yX10_index : MethodName := ⟨RX10, "index", "(II)I"⟩
abbrev cX10_size : ByteArray := prog_12_method_12_code
def yX10_size : MethodName := ⟨RX10, "size", "()I"⟩
abbrev cX10_analyse : ByteArray := prog_12_method_13_code
def yX10_analyse : MethodName := ⟨RX10, "analyse", "()I"⟩
abbrev cX10_rowOf : ByteArray := prog_12_method_14_code
def yX10_rowOf : MethodName := ⟨RX10, "rowOf", "(II)I"⟩
abbrev cX10_known : ByteArray := prog_12_method_15_code
def yX10_known : MethodName := ⟨RX10, "known", "(II)I"⟩
abbrev cX10_isStatement : ByteArray := prog_12_method_16_code
def yX10_isStatement : MethodName := ⟨RX10, "isStatement", "(I)Z"⟩
abbrev cX10_conditions : ByteArray := prog_12_method_17_code
def yX10_conditions : MethodName := ⟨RX10, "conditions", "(I)I"⟩
abbrev cX10_columnOf : ByteArray := prog_12_method_18_code
def yX10_columnOf : MethodName := ⟨RX10, "columnOf", "(II)I"⟩
abbrev cX10_operatorOf : ByteArray := prog_12_method_19_code
def yX10_operatorOf : MethodName := ⟨RX10, "operatorOf", "(II)I"⟩
abbrev cX10_isRight : ByteArray := prog_12_method_20_code
def yX10_isRight : MethodName := ⟨RX10, "isRight", "()Z"⟩
abbrev cX10_meant : ByteArray := prog_12_method_21_code
def yX10_meant : MethodName := ⟨RX10, "meant", "(IZ)I"⟩
abbrev cX10_isText : ByteArray := prog_12_method_22_code
def yX10_isText : MethodName := ⟨RX10, "isText", "(I)Z"⟩
abbrev cX10_statement : ByteArray := prog_12_method_23_code
def yX10_statement : MethodName := ⟨RX10, "statement", "()I"⟩
abbrev cX10_plansOf : ByteArray := prog_12_method_24_code
def yX10_plansOf : MethodName := ⟨RX10, "plansOf", "(I)I"⟩
abbrev cX10_statementOf : ByteArray := prog_12_method_25_code
def yX10_statementOf : MethodName := ⟨RX10, "statementOf", "(II)I"⟩
abbrev cX10_takes : ByteArray := prog_12_method_26_code
def yX10_takes : MethodName := ⟨RX10, "takes", "(IIIII)Z"⟩
abbrev cX10_holds : ByteArray := prog_12_method_27_code
def yX10_holds : MethodName := ⟨RX10, "holds", "(III)Z"⟩
abbrev cX10_weights : ByteArray := prog_12_method_28_code
def yX10_weights : MethodName := ⟨RX10, "weights", "(IIZ)I"⟩
abbrev cX10_cost : ByteArray := prog_12_method_29_code
def yX10_cost : MethodName := ⟨RX10, "cost", "(IIZ)I"⟩
abbrev cX10_bestWay : ByteArray := prog_12_method_30_code
def yX10_bestWay : MethodName := ⟨RX10, "bestWay", "(IZ)I"⟩
abbrev cX10_ownClass : ByteArray := prog_12_method_31_code
def yX10_ownClass : MethodName := ⟨RX10, "ownClass", "(I)I"⟩
abbrev cX10_ofPlan : ByteArray := prog_12_method_32_code
def yX10_ofPlan : MethodName := ⟨RX10, "ofPlan", "(II)I"⟩
abbrev cX10_takesOut : ByteArray := prog_12_method_33_code
def yX10_takesOut : MethodName := ⟨RX10, "takesOut", "(I)V"⟩
abbrev cX10_placeOf : ByteArray := prog_12_method_34_code
def yX10_placeOf : MethodName := ⟨RX10, "placeOf", "(I)I"⟩
abbrev cX10_placeFor : ByteArray := prog_12_method_35_code
def yX10_placeFor : MethodName := ⟨RX10, "placeFor", "(II)I"⟩
abbrev cX10_isAhead : ByteArray := prog_12_method_36_code
def yX10_isAhead : MethodName := ⟨RX10, "isAhead", "(II)Z"⟩
abbrev cX10_dropsAt : ByteArray := prog_12_method_37_code
def yX10_dropsAt : MethodName := ⟨RX10, "dropsAt", "(I)I"⟩
abbrev cX10_clears : ByteArray := prog_12_method_38_code
def yX10_clears : MethodName := ⟨RX10, "clears", "()I"⟩
abbrev cX10_tells : ByteArray := prog_12_method_39_code
def yX10_tells : MethodName := ⟨RX10, "tells", "(IIIIII)V"⟩
abbrev cX10_keeps : ByteArray := prog_12_method_40_code
def yX10_keeps : MethodName := ⟨RX10, "keeps", "(IIII)I"⟩
abbrev cX10_goes : ByteArray := prog_12_method_41_code
def yX10_goes : MethodName := ⟨RX10, "goes", "(I)V"⟩
abbrev cX10_run : ByteArray := prog_12_method_42_code
def yX10_run : MethodName := ⟨RX10, "run", "(IIIII)I"⟩
abbrev cX10_latest : ByteArray := prog_12_method_43_code
def yX10_latest : MethodName := ⟨RX10, "latest", "(I)I"⟩
abbrev cX10_pinned : ByteArray := prog_12_method_44_code
def yX10_pinned : MethodName := ⟨RX10, "pinned", "()I"⟩
abbrev cX10_pin : ByteArray := prog_12_method_45_code
def yX10_pin : MethodName := ⟨RX10, "pin", "(II)I"⟩
abbrev cX10_drop : ByteArray := prog_12_method_46_code
def yX10_drop : MethodName := ⟨RX10, "drop", "(I)I"⟩
abbrev cX10_set : ByteArray := prog_12_method_47_code
def yX10_set : MethodName := ⟨RX10, "set", "(II)I"⟩
abbrev cX10_planOf : ByteArray := prog_12_method_48_code
def yX10_planOf : MethodName := ⟨RX10, "planOf", "(II)I"⟩
abbrev cX10_planFor : ByteArray := prog_12_method_49_code
def yX10_planFor : MethodName := ⟨RX10, "planFor", "(II)I"⟩
abbrev cX10_dropsNext : ByteArray := prog_12_method_50_code
def yX10_dropsNext : MethodName := ⟨RX10, "dropsNext", "(I)I"⟩
abbrev cX10_count : ByteArray := prog_12_method_51_code
def yX10_count : MethodName := ⟨RX10, "count", "(I)I"⟩
abbrev cX10_classOf : ByteArray := prog_12_method_52_code
def yX10_classOf : MethodName := ⟨RX10, "classOf", "(IIIII)I"⟩
abbrev cX10_way : ByteArray := prog_12_method_53_code
def yX10_way : MethodName := ⟨RX10, "way", "(IIIII)I"⟩
abbrev cX10_bestCost : ByteArray := prog_12_method_54_code
def yX10_bestCost : MethodName := ⟨RX10, "bestCost", "()I"⟩
abbrev cX10_undo : ByteArray := prog_12_method_55_code
def yX10_undo : MethodName := ⟨RX10, "undo", "()I"⟩
abbrev cX10_type : ByteArray := prog_12_method_56_code
def yX10_type : MethodName := ⟨RX10, "type", "(I)I"⟩
abbrev cX10_clearText : ByteArray := prog_12_method_57_code
def yX10_clearText : MethodName := ⟨RX10, "clearText", "()I"⟩
abbrev cX10_fault : ByteArray := prog_12_method_58_code
def yX10_fault : MethodName := ⟨RX10, "fault", "(I)I"⟩
def RL : String := "PlanShelvesLaw"
abbrev cL_law : ByteArray := code
def yL_law : MethodName := ⟨RL, "law", "([I)Z"⟩
abbrev vwCl : List vw_C := [(RX0, TX0, 2), (RX1, TX1, 11), (RX2, TX2, 9), (RX3, TX3, 6), (RX4, TX4, 12), (RX5, TX5, 4), (RX6, TX6, 2), (RX7, TX7, 3), (RX8, TX8, 2), (RX9, TX9, 4), (RX10, TX10, 8)]
end
section
theorem dX0_init_0 : decode cX0_init 0 = .ok (.aload_n 0, 1) := by decide +kernel
theorem dX0_init_1 : decode cX0_init 1 = .ok (.invokespecial 3, 3) := by decide +kernel
theorem dX0_init_4 : decode cX0_init 4 = .ok (.aload_n 0, 1) := by decide +kernel
theorem dX0_init_5 : decode cX0_init 5 = .ok (.iconst 4, 1) := by decide +kernel
theorem dX0_init_6 : decode cX0_init 6 = .ok (.anewarray 9, 3) := by decide +kernel
theorem dX0_init_9 : decode cX0_init 9 = .ok (.putfield 11, 3) := by decide +kernel
theorem dX0_init_12 : decode cX0_init 12 = .ok (.iconst 0, 1) := by decide +kernel
theorem dX0_init_13 : decode cX0_init 13 = .ok (.istore_n 1, 1) := by decide +kernel
theorem dX0_init_14 : decode cX0_init 14 = .ok (.iload_n 1, 1) := by decide +kernel
theorem dX0_init_15 : decode cX0_init 15 = .ok (.aload_n 0, 1) := by decide +kernel
theorem dX0_init_16 : decode cX0_init 16 = .ok (.getfield 11, 3) := by decide +kernel
theorem dX0_init_19 : decode cX0_init 19 = .ok (.arraylength, 1) := by decide +kernel
theorem dX0_init_20 : decode cX0_init 20 = .ok (.if_icmp .ge 22, 3) := by decide +kernel
theorem dX0_init_23 : decode cX0_init 23 = .ok (.aload_n 0, 1) := by decide +kernel
theorem dX0_init_24 : decode cX0_init 24 = .ok (.getfield 11, 3) := by decide +kernel
theorem dX0_init_27 : decode cX0_init 27 = .ok (.iload_n 1, 1) := by decide +kernel
theorem dX0_init_28 : decode cX0_init 28 = .ok (.new 9, 3) := by decide +kernel
theorem dX0_init_31 : decode cX0_init 31 = .ok (.dup, 1) := by decide +kernel
theorem dX0_init_32 : decode cX0_init 32 = .ok (.invokespecial 17, 3) := by decide +kernel
theorem dX0_init_35 : decode cX0_init 35 = .ok (.aastore, 1) := by decide +kernel
theorem dX0_init_36 : decode cX0_init 36 = .ok (.iinc 1 1, 3) := by decide +kernel
theorem dX0_init_39 : decode cX0_init 39 = .ok (.goto (-25), 3) := by decide +kernel
theorem dX0_init_42 : decode cX0_init 42 = .ok (.return_, 1) := by decide +kernel
theorem dX0_push_0 : decode cX0_push 0 = .ok (.aload_n 0, 1) := by decide +kernel
theorem dX0_push_1 : decode cX0_push 1 = .ok (.getfield 18, 3) := by decide +kernel
theorem dX0_push_4 : decode cX0_push 4 = .ok (.aload_n 0, 1) := by decide +kernel
theorem dX0_push_5 : decode cX0_push 5 = .ok (.getfield 11, 3) := by decide +kernel
theorem dX0_push_8 : decode cX0_push 8 = .ok (.arraylength, 1) := by decide +kernel
theorem dX0_push_9 : decode cX0_push 9 = .ok (.if_icmp .lt 7, 3) := by decide +kernel
theorem dX0_push_12 : decode cX0_push 12 = .ok (.aload_n 0, 1) := by decide +kernel
theorem dX0_push_13 : decode cX0_push 13 = .ok (.invokevirtual 22, 3) := by decide +kernel
theorem dX0_push_16 : decode cX0_push 16 = .ok (.aload_n 0, 1) := by decide +kernel
theorem dX0_push_17 : decode cX0_push 17 = .ok (.getfield 18, 3) := by decide +kernel
theorem dX0_push_20 : decode cX0_push 20 = .ok (.ifCond .lt 44, 3) := by decide +kernel
theorem dX0_push_23 : decode cX0_push 23 = .ok (.aload_n 0, 1) := by decide +kernel
theorem dX0_push_24 : decode cX0_push 24 = .ok (.getfield 18, 3) := by decide +kernel
theorem dX0_push_27 : decode cX0_push 27 = .ok (.aload_n 0, 1) := by decide +kernel
theorem dX0_push_28 : decode cX0_push 28 = .ok (.getfield 11, 3) := by decide +kernel
theorem dX0_push_31 : decode cX0_push 31 = .ok (.arraylength, 1) := by decide +kernel
theorem dX0_push_32 : decode cX0_push 32 = .ok (.if_icmp .ge 32, 3) := by decide +kernel
theorem dX0_push_35 : decode cX0_push 35 = .ok (.aload_n 0, 1) := by decide +kernel
theorem dX0_push_36 : decode cX0_push 36 = .ok (.getfield 11, 3) := by decide +kernel
theorem dX0_push_39 : decode cX0_push 39 = .ok (.aload_n 0, 1) := by decide +kernel
theorem dX0_push_40 : decode cX0_push 40 = .ok (.getfield 18, 3) := by decide +kernel
theorem dX0_push_43 : decode cX0_push 43 = .ok (.aaload, 1) := by decide +kernel
theorem dX0_push_44 : decode cX0_push 44 = .ok (.astore_n 2, 1) := by decide +kernel
theorem dX0_push_45 : decode cX0_push 45 = .ok (.aload_n 2, 1) := by decide +kernel
theorem dX0_push_46 : decode cX0_push 46 = .ok (.ifnull 18, 3) := by decide +kernel
theorem dX0_push_49 : decode cX0_push 49 = .ok (.aload_n 2, 1) := by decide +kernel
theorem dX0_push_50 : decode cX0_push 50 = .ok (.aload_n 1, 1) := by decide +kernel
theorem dX0_push_51 : decode cX0_push 51 = .ok (.invokevirtual 25, 3) := by decide +kernel
theorem dX0_push_54 : decode cX0_push 54 = .ok (.aload_n 0, 1) := by decide +kernel
theorem dX0_push_55 : decode cX0_push 55 = .ok (.dup, 1) := by decide +kernel
theorem dX0_push_56 : decode cX0_push 56 = .ok (.getfield 18, 3) := by decide +kernel
theorem dX0_push_59 : decode cX0_push 59 = .ok (.iconst 1, 1) := by decide +kernel
theorem dX0_push_60 : decode cX0_push 60 = .ok (.iadd, 1) := by decide +kernel
theorem dX0_push_61 : decode cX0_push 61 = .ok (.putfield 18, 3) := by decide +kernel
theorem dX0_push_64 : decode cX0_push 64 = .ok (.return_, 1) := by decide +kernel
theorem dX0_popInto_0 : decode cX0_popInto 0 = .ok (.aload_n 0, 1) := by decide +kernel
theorem dX0_popInto_1 : decode cX0_popInto 1 = .ok (.getfield 18, 3) := by decide +kernel
theorem dX0_popInto_4 : decode cX0_popInto 4 = .ok (.iconst 1, 1) := by decide +kernel
theorem dX0_popInto_5 : decode cX0_popInto 5 = .ok (.isub, 1) := by decide +kernel
theorem dX0_popInto_6 : decode cX0_popInto 6 = .ok (.istore_n 2, 1) := by decide +kernel
theorem dX0_popInto_7 : decode cX0_popInto 7 = .ok (.iload_n 2, 1) := by decide +kernel
theorem dX0_popInto_8 : decode cX0_popInto 8 = .ok (.ifCond .lt 38, 3) := by decide +kernel
theorem dX0_popInto_11 : decode cX0_popInto 11 = .ok (.iload_n 2, 1) := by decide +kernel
theorem dX0_popInto_12 : decode cX0_popInto 12 = .ok (.aload_n 0, 1) := by decide +kernel
theorem dX0_popInto_13 : decode cX0_popInto 13 = .ok (.getfield 11, 3) := by decide +kernel
theorem dX0_popInto_16 : decode cX0_popInto 16 = .ok (.arraylength, 1) := by decide +kernel
theorem dX0_popInto_17 : decode cX0_popInto 17 = .ok (.if_icmp .ge 29, 3) := by decide +kernel
theorem dX0_popInto_20 : decode cX0_popInto 20 = .ok (.aload_n 0, 1) := by decide +kernel
theorem dX0_popInto_21 : decode cX0_popInto 21 = .ok (.getfield 11, 3) := by decide +kernel
theorem dX0_popInto_24 : decode cX0_popInto 24 = .ok (.iload_n 2, 1) := by decide +kernel
theorem dX0_popInto_25 : decode cX0_popInto 25 = .ok (.aaload, 1) := by decide +kernel
theorem dX0_popInto_26 : decode cX0_popInto 26 = .ok (.astore_n 3, 1) := by decide +kernel
theorem dX0_popInto_27 : decode cX0_popInto 27 = .ok (.aload_n 3, 1) := by decide +kernel
theorem dX0_popInto_28 : decode cX0_popInto 28 = .ok (.ifnull 18, 3) := by decide +kernel
theorem dX0_popInto_31 : decode cX0_popInto 31 = .ok (.aload_n 1, 1) := by decide +kernel
theorem dX0_popInto_32 : decode cX0_popInto 32 = .ok (.aload_n 3, 1) := by decide +kernel
theorem dX0_popInto_33 : decode cX0_popInto 33 = .ok (.invokevirtual 25, 3) := by decide +kernel
theorem dX0_popInto_36 : decode cX0_popInto 36 = .ok (.aload_n 0, 1) := by decide +kernel
theorem dX0_popInto_37 : decode cX0_popInto 37 = .ok (.dup, 1) := by decide +kernel
theorem dX0_popInto_38 : decode cX0_popInto 38 = .ok (.getfield 18, 3) := by decide +kernel
theorem dX0_popInto_41 : decode cX0_popInto 41 = .ok (.iconst 1, 1) := by decide +kernel
theorem dX0_popInto_42 : decode cX0_popInto 42 = .ok (.isub, 1) := by decide +kernel
theorem dX0_popInto_43 : decode cX0_popInto 43 = .ok (.putfield 18, 3) := by decide +kernel
theorem dX0_popInto_46 : decode cX0_popInto 46 = .ok (.return_, 1) := by decide +kernel
theorem dX0_forgetOldest_0 : decode cX0_forgetOldest 0 = .ok (.aload_n 0, 1) := by decide +kernel
theorem dX0_forgetOldest_1 : decode cX0_forgetOldest 1 = .ok (.getfield 11, 3) := by decide +kernel
theorem dX0_forgetOldest_4 : decode cX0_forgetOldest 4 = .ok (.iconst 0, 1) := by decide +kernel
theorem dX0_forgetOldest_5 : decode cX0_forgetOldest 5 = .ok (.aaload, 1) := by decide +kernel
theorem dX0_forgetOldest_6 : decode cX0_forgetOldest 6 = .ok (.astore_n 1, 1) := by decide +kernel
theorem dX0_forgetOldest_7 : decode cX0_forgetOldest 7 = .ok (.iconst 1, 1) := by decide +kernel
theorem dX0_forgetOldest_8 : decode cX0_forgetOldest 8 = .ok (.istore_n 2, 1) := by decide +kernel
theorem dX0_forgetOldest_9 : decode cX0_forgetOldest 9 = .ok (.iload_n 2, 1) := by decide +kernel
theorem dX0_forgetOldest_10 : decode cX0_forgetOldest 10 = .ok (.aload_n 0, 1) := by decide +kernel
theorem dX0_forgetOldest_11 : decode cX0_forgetOldest 11 = .ok (.getfield 11, 3) := by decide +kernel
theorem dX0_forgetOldest_14 : decode cX0_forgetOldest 14 = .ok (.arraylength, 1) := by decide +kernel
theorem dX0_forgetOldest_15 : decode cX0_forgetOldest 15 = .ok (.if_icmp .ge 23, 3) := by decide +kernel
theorem dX0_forgetOldest_18 : decode cX0_forgetOldest 18 = .ok (.aload_n 0, 1) := by decide +kernel
theorem dX0_forgetOldest_19 : decode cX0_forgetOldest 19 = .ok (.getfield 11, 3) := by decide +kernel
theorem dX0_forgetOldest_22 : decode cX0_forgetOldest 22 = .ok (.iload_n 2, 1) := by decide +kernel
theorem dX0_forgetOldest_23 : decode cX0_forgetOldest 23 = .ok (.iconst 1, 1) := by decide +kernel
theorem dX0_forgetOldest_24 : decode cX0_forgetOldest 24 = .ok (.isub, 1) := by decide +kernel
theorem dX0_forgetOldest_25 : decode cX0_forgetOldest 25 = .ok (.aload_n 0, 1) := by decide +kernel
theorem dX0_forgetOldest_26 : decode cX0_forgetOldest 26 = .ok (.getfield 11, 3) := by decide +kernel
theorem dX0_forgetOldest_29 : decode cX0_forgetOldest 29 = .ok (.iload_n 2, 1) := by decide +kernel
theorem dX0_forgetOldest_30 : decode cX0_forgetOldest 30 = .ok (.aaload, 1) := by decide +kernel
theorem dX0_forgetOldest_31 : decode cX0_forgetOldest 31 = .ok (.aastore, 1) := by decide +kernel
theorem dX0_forgetOldest_32 : decode cX0_forgetOldest 32 = .ok (.iinc 2 1, 3) := by decide +kernel
theorem dX0_forgetOldest_35 : decode cX0_forgetOldest 35 = .ok (.goto (-26), 3) := by decide +kernel
theorem dX0_forgetOldest_38 : decode cX0_forgetOldest 38 = .ok (.aload_n 0, 1) := by decide +kernel
theorem dX0_forgetOldest_39 : decode cX0_forgetOldest 39 = .ok (.getfield 11, 3) := by decide +kernel
theorem dX0_forgetOldest_42 : decode cX0_forgetOldest 42 = .ok (.aload_n 0, 1) := by decide +kernel
theorem dX0_forgetOldest_43 : decode cX0_forgetOldest 43 = .ok (.getfield 11, 3) := by decide +kernel
theorem dX0_forgetOldest_46 : decode cX0_forgetOldest 46 = .ok (.arraylength, 1) := by decide +kernel
theorem dX0_forgetOldest_47 : decode cX0_forgetOldest 47 = .ok (.iconst 1, 1) := by decide +kernel
theorem dX0_forgetOldest_48 : decode cX0_forgetOldest 48 = .ok (.isub, 1) := by decide +kernel
theorem dX0_forgetOldest_49 : decode cX0_forgetOldest 49 = .ok (.aload_n 1, 1) := by decide +kernel
theorem dX0_forgetOldest_50 : decode cX0_forgetOldest 50 = .ok (.aastore, 1) := by decide +kernel
theorem dX0_forgetOldest_51 : decode cX0_forgetOldest 51 = .ok (.aload_n 0, 1) := by decide +kernel
theorem dX0_forgetOldest_52 : decode cX0_forgetOldest 52 = .ok (.dup, 1) := by decide +kernel
theorem dX0_forgetOldest_53 : decode cX0_forgetOldest 53 = .ok (.getfield 18, 3) := by decide +kernel
theorem dX0_forgetOldest_56 : decode cX0_forgetOldest 56 = .ok (.iconst 1, 1) := by decide +kernel
theorem dX0_forgetOldest_57 : decode cX0_forgetOldest 57 = .ok (.isub, 1) := by decide +kernel
theorem dX0_forgetOldest_58 : decode cX0_forgetOldest 58 = .ok (.putfield 18, 3) := by decide +kernel
theorem dX0_forgetOldest_61 : decode cX0_forgetOldest 61 = .ok (.return_, 1) := by decide +kernel
theorem dX1_init_0 : decode cX1_init 0 = .ok (.aload_n 0, 1) := by decide +kernel
theorem dX1_init_1 : decode cX1_init 1 = .ok (.invokespecial 3, 3) := by decide +kernel
theorem dX1_init_4 : decode cX1_init 4 = .ok (.aload_n 0, 1) := by decide +kernel
theorem dX1_init_5 : decode cX1_init 5 = .ok (.iconst 4, 1) := by decide +kernel
theorem dX1_init_6 : decode cX1_init 6 = .ok (.newarray .int, 2) := by decide +kernel
theorem dX1_init_8 : decode cX1_init 8 = .ok (.putfield 9, 3) := by decide +kernel
theorem dX1_init_11 : decode cX1_init 11 = .ok (.return_, 1) := by decide +kernel
theorem dX1_begin_0 : decode cX1_begin 0 = .ok (.aload_n 0, 1) := by decide +kernel
theorem dX1_begin_1 : decode cX1_begin 1 = .ok (.iconst 1, 1) := by decide +kernel
theorem dX1_begin_2 : decode cX1_begin 2 = .ok (.putfield 15, 3) := by decide +kernel
theorem dX1_begin_5 : decode cX1_begin 5 = .ok (.aload_n 0, 1) := by decide +kernel
theorem dX1_begin_6 : decode cX1_begin 6 = .ok (.iload_n 1, 1) := by decide +kernel
theorem dX1_begin_7 : decode cX1_begin 7 = .ok (.putfield 19, 3) := by decide +kernel
theorem dX1_begin_10 : decode cX1_begin 10 = .ok (.aload_n 2, 1) := by decide +kernel
theorem dX1_begin_11 : decode cX1_begin 11 = .ok (.aload_n 0, 1) := by decide +kernel
theorem dX1_begin_12 : decode cX1_begin 12 = .ok (.getfield 9, 3) := by decide +kernel
theorem dX1_begin_15 : decode cX1_begin 15 = .ok (.invokestatic 23, 3) := by decide +kernel
theorem dX1_begin_18 : decode cX1_begin 18 = .ok (.aload_n 0, 1) := by decide +kernel
theorem dX1_begin_19 : decode cX1_begin 19 = .ok (.iload_n 3, 1) := by decide +kernel
theorem dX1_begin_20 : decode cX1_begin 20 = .ok (.putfield 27, 3) := by decide +kernel
theorem dX1_begin_23 : decode cX1_begin 23 = .ok (.aload_n 0, 1) := by decide +kernel
theorem dX1_begin_24 : decode cX1_begin 24 = .ok (.bipush (-4), 2) := by decide +kernel
theorem dX1_begin_26 : decode cX1_begin 26 = .ok (.putfield 30, 3) := by decide +kernel
theorem dX1_begin_29 : decode cX1_begin 29 = .ok (.return_, 1) := by decide +kernel
theorem dX1_tell_0 : decode cX1_tell 0 = .ok (.aload_n 0, 1) := by decide +kernel
theorem dX1_tell_1 : decode cX1_tell 1 = .ok (.getfield 15, 3) := by decide +kernel
theorem dX1_tell_4 : decode cX1_tell 4 = .ok (.ifCond .ne 6, 3) := by decide +kernel
theorem dX1_tell_7 : decode cX1_tell 7 = .ok (.bipush (-4), 2) := by decide +kernel
theorem dX1_tell_9 : decode cX1_tell 9 = .ok (.ireturn, 1) := by decide +kernel
theorem dX1_tell_10 : decode cX1_tell 10 = .ok (.iload_n 1, 1) := by decide +kernel
theorem dX1_tell_11 : decode cX1_tell 11 = .ok (.tableswitch 84 0 6 #[41, 46, 51, 56, 61, 66, 71], 41) := by decide +kernel
theorem dX1_tell_52 : decode cX1_tell 52 = .ok (.aload_n 0, 1) := by decide +kernel
theorem dX1_tell_53 : decode cX1_tell 53 = .ok (.getfield 27, 3) := by decide +kernel
theorem dX1_tell_56 : decode cX1_tell 56 = .ok (.ireturn, 1) := by decide +kernel
theorem dX1_tell_57 : decode cX1_tell 57 = .ok (.aload_n 0, 1) := by decide +kernel
theorem dX1_tell_58 : decode cX1_tell 58 = .ok (.getfield 33, 3) := by decide +kernel
theorem dX1_tell_61 : decode cX1_tell 61 = .ok (.ireturn, 1) := by decide +kernel
theorem dX1_tell_62 : decode cX1_tell 62 = .ok (.aload_n 0, 1) := by decide +kernel
theorem dX1_tell_63 : decode cX1_tell 63 = .ok (.getfield 36, 3) := by decide +kernel
theorem dX1_tell_66 : decode cX1_tell 66 = .ok (.ireturn, 1) := by decide +kernel
theorem dX1_tell_67 : decode cX1_tell 67 = .ok (.aload_n 0, 1) := by decide +kernel
theorem dX1_tell_68 : decode cX1_tell 68 = .ok (.getfield 39, 3) := by decide +kernel
theorem dX1_tell_71 : decode cX1_tell 71 = .ok (.ireturn, 1) := by decide +kernel
theorem dX1_tell_72 : decode cX1_tell 72 = .ok (.aload_n 0, 1) := by decide +kernel
theorem dX1_tell_73 : decode cX1_tell 73 = .ok (.getfield 42, 3) := by decide +kernel
theorem dX1_tell_76 : decode cX1_tell 76 = .ok (.ireturn, 1) := by decide +kernel
theorem dX1_tell_77 : decode cX1_tell 77 = .ok (.aload_n 0, 1) := by decide +kernel
theorem dX1_tell_78 : decode cX1_tell 78 = .ok (.getfield 45, 3) := by decide +kernel
theorem dX1_tell_81 : decode cX1_tell 81 = .ok (.ireturn, 1) := by decide +kernel
theorem dX1_tell_82 : decode cX1_tell 82 = .ok (.aload_n 0, 1) := by decide +kernel
theorem dX1_tell_83 : decode cX1_tell 83 = .ok (.getfield 48, 3) := by decide +kernel
theorem dX1_tell_86 : decode cX1_tell 86 = .ok (.ifCond .eq 7, 3) := by decide +kernel
theorem dX1_tell_89 : decode cX1_tell 89 = .ok (.iconst 1, 1) := by decide +kernel
theorem dX1_tell_90 : decode cX1_tell 90 = .ok (.goto 4, 3) := by decide +kernel
theorem dX1_tell_93 : decode cX1_tell 93 = .ok (.iconst 0, 1) := by decide +kernel
theorem dX1_tell_94 : decode cX1_tell 94 = .ok (.ireturn, 1) := by decide +kernel
theorem dX1_tell_95 : decode cX1_tell 95 = .ok (.aload_n 0, 1) := by decide +kernel
theorem dX1_tell_96 : decode cX1_tell 96 = .ok (.getfield 30, 3) := by decide +kernel
theorem dX1_tell_99 : decode cX1_tell 99 = .ok (.ireturn, 1) := by decide +kernel
theorem dX1_takeFrom_0 : decode cX1_takeFrom 0 = .ok (.aload_n 1, 1) := by decide +kernel
theorem dX1_takeFrom_1 : decode cX1_takeFrom 1 = .ok (.getfield 9, 3) := by decide +kernel
theorem dX1_takeFrom_4 : decode cX1_takeFrom 4 = .ok (.aload_n 0, 1) := by decide +kernel
theorem dX1_takeFrom_5 : decode cX1_takeFrom 5 = .ok (.getfield 9, 3) := by decide +kernel
theorem dX1_takeFrom_8 : decode cX1_takeFrom 8 = .ok (.invokestatic 23, 3) := by decide +kernel
theorem dX1_takeFrom_11 : decode cX1_takeFrom 11 = .ok (.aload_n 0, 1) := by decide +kernel
theorem dX1_takeFrom_12 : decode cX1_takeFrom 12 = .ok (.aload_n 1, 1) := by decide +kernel
theorem dX1_takeFrom_13 : decode cX1_takeFrom 13 = .ok (.getfield 15, 3) := by decide +kernel
theorem dX1_takeFrom_16 : decode cX1_takeFrom 16 = .ok (.putfield 15, 3) := by decide +kernel
theorem dX1_takeFrom_19 : decode cX1_takeFrom 19 = .ok (.aload_n 0, 1) := by decide +kernel
theorem dX1_takeFrom_20 : decode cX1_takeFrom 20 = .ok (.aload_n 1, 1) := by decide +kernel
theorem dX1_takeFrom_21 : decode cX1_takeFrom 21 = .ok (.getfield 19, 3) := by decide +kernel
theorem dX1_takeFrom_24 : decode cX1_takeFrom 24 = .ok (.putfield 19, 3) := by decide +kernel
theorem dX1_takeFrom_27 : decode cX1_takeFrom 27 = .ok (.aload_n 0, 1) := by decide +kernel
theorem dX1_takeFrom_28 : decode cX1_takeFrom 28 = .ok (.aload_n 1, 1) := by decide +kernel
theorem dX1_takeFrom_29 : decode cX1_takeFrom 29 = .ok (.getfield 27, 3) := by decide +kernel
theorem dX1_takeFrom_32 : decode cX1_takeFrom 32 = .ok (.putfield 27, 3) := by decide +kernel
theorem dX1_takeFrom_35 : decode cX1_takeFrom 35 = .ok (.aload_n 0, 1) := by decide +kernel
theorem dX1_takeFrom_36 : decode cX1_takeFrom 36 = .ok (.aload_n 1, 1) := by decide +kernel
theorem dX1_takeFrom_37 : decode cX1_takeFrom 37 = .ok (.getfield 33, 3) := by decide +kernel
theorem dX1_takeFrom_40 : decode cX1_takeFrom 40 = .ok (.putfield 33, 3) := by decide +kernel
theorem dX1_takeFrom_43 : decode cX1_takeFrom 43 = .ok (.aload_n 0, 1) := by decide +kernel
theorem dX1_takeFrom_44 : decode cX1_takeFrom 44 = .ok (.aload_n 1, 1) := by decide +kernel
theorem dX1_takeFrom_45 : decode cX1_takeFrom 45 = .ok (.getfield 36, 3) := by decide +kernel
theorem dX1_takeFrom_48 : decode cX1_takeFrom 48 = .ok (.putfield 36, 3) := by decide +kernel
theorem dX1_takeFrom_51 : decode cX1_takeFrom 51 = .ok (.aload_n 0, 1) := by decide +kernel
theorem dX1_takeFrom_52 : decode cX1_takeFrom 52 = .ok (.aload_n 1, 1) := by decide +kernel
theorem dX1_takeFrom_53 : decode cX1_takeFrom 53 = .ok (.getfield 39, 3) := by decide +kernel
theorem dX1_takeFrom_56 : decode cX1_takeFrom 56 = .ok (.putfield 39, 3) := by decide +kernel
theorem dX1_takeFrom_59 : decode cX1_takeFrom 59 = .ok (.aload_n 0, 1) := by decide +kernel
theorem dX1_takeFrom_60 : decode cX1_takeFrom 60 = .ok (.aload_n 1, 1) := by decide +kernel
theorem dX1_takeFrom_61 : decode cX1_takeFrom 61 = .ok (.getfield 42, 3) := by decide +kernel
theorem dX1_takeFrom_64 : decode cX1_takeFrom 64 = .ok (.putfield 42, 3) := by decide +kernel
theorem dX1_takeFrom_67 : decode cX1_takeFrom 67 = .ok (.aload_n 0, 1) := by decide +kernel
theorem dX1_takeFrom_68 : decode cX1_takeFrom 68 = .ok (.aload_n 1, 1) := by decide +kernel
theorem dX1_takeFrom_69 : decode cX1_takeFrom 69 = .ok (.getfield 45, 3) := by decide +kernel
theorem dX1_takeFrom_72 : decode cX1_takeFrom 72 = .ok (.putfield 45, 3) := by decide +kernel
theorem dX1_takeFrom_75 : decode cX1_takeFrom 75 = .ok (.aload_n 0, 1) := by decide +kernel
theorem dX1_takeFrom_76 : decode cX1_takeFrom 76 = .ok (.aload_n 1, 1) := by decide +kernel
theorem dX1_takeFrom_77 : decode cX1_takeFrom 77 = .ok (.getfield 48, 3) := by decide +kernel
theorem dX1_takeFrom_80 : decode cX1_takeFrom 80 = .ok (.putfield 48, 3) := by decide +kernel
theorem dX1_takeFrom_83 : decode cX1_takeFrom 83 = .ok (.aload_n 0, 1) := by decide +kernel
theorem dX1_takeFrom_84 : decode cX1_takeFrom 84 = .ok (.aload_n 1, 1) := by decide +kernel
theorem dX1_takeFrom_85 : decode cX1_takeFrom 85 = .ok (.getfield 30, 3) := by decide +kernel
theorem dX1_takeFrom_88 : decode cX1_takeFrom 88 = .ok (.putfield 30, 3) := by decide +kernel
theorem dX1_takeFrom_91 : decode cX1_takeFrom 91 = .ok (.return_, 1) := by decide +kernel
theorem dX2_init_0 : decode cX2_init 0 = .ok (.aload_n 0, 1) := by decide +kernel
theorem dX2_init_1 : decode cX2_init 1 = .ok (.invokespecial 3, 3) := by decide +kernel
theorem dX2_init_4 : decode cX2_init 4 = .ok (.aload_n 0, 1) := by decide +kernel
theorem dX2_init_5 : decode cX2_init 5 = .ok (.bipush (-4), 2) := by decide +kernel
theorem dX2_init_7 : decode cX2_init 7 = .ok (.putfield 9, 3) := by decide +kernel
theorem dX2_init_10 : decode cX2_init 10 = .ok (.return_, 1) := by decide +kernel
theorem dX2_begin_0 : decode cX2_begin 0 = .ok (.aload_n 0, 1) := by decide +kernel
theorem dX2_begin_1 : decode cX2_begin 1 = .ok (.iload_n 1, 1) := by decide +kernel
theorem dX2_begin_2 : decode cX2_begin 2 = .ok (.putfield 9, 3) := by decide +kernel
theorem dX2_begin_5 : decode cX2_begin 5 = .ok (.aload_n 0, 1) := by decide +kernel
theorem dX2_begin_6 : decode cX2_begin 6 = .ok (.iload_n 2, 1) := by decide +kernel
theorem dX2_begin_7 : decode cX2_begin 7 = .ok (.putfield 15, 3) := by decide +kernel
theorem dX2_begin_10 : decode cX2_begin 10 = .ok (.aload_n 0, 1) := by decide +kernel
theorem dX2_begin_11 : decode cX2_begin 11 = .ok (.iload_n 3, 1) := by decide +kernel
theorem dX2_begin_12 : decode cX2_begin 12 = .ok (.putfield 18, 3) := by decide +kernel
theorem dX2_begin_15 : decode cX2_begin 15 = .ok (.aload_n 0, 1) := by decide +kernel
theorem dX2_begin_16 : decode cX2_begin 16 = .ok (.iconst 0, 1) := by decide +kernel
theorem dX2_begin_17 : decode cX2_begin 17 = .ok (.putfield 21, 3) := by decide +kernel
theorem dX2_begin_20 : decode cX2_begin 20 = .ok (.aload_n 0, 1) := by decide +kernel
theorem dX2_begin_21 : decode cX2_begin 21 = .ok (.iconst 0, 1) := by decide +kernel
theorem dX2_begin_22 : decode cX2_begin 22 = .ok (.putfield 24, 3) := by decide +kernel
theorem dX2_begin_25 : decode cX2_begin 25 = .ok (.aload_n 0, 1) := by decide +kernel
theorem dX2_begin_26 : decode cX2_begin 26 = .ok (.iconst 0, 1) := by decide +kernel
theorem dX2_begin_27 : decode cX2_begin 27 = .ok (.putfield 27, 3) := by decide +kernel
theorem dX2_begin_30 : decode cX2_begin 30 = .ok (.return_, 1) := by decide +kernel
theorem dX2_dropsAheadOf_0 : decode cX2_dropsAheadOf 0 = .ok (.aload_n 0, 1) := by decide +kernel
theorem dX2_dropsAheadOf_1 : decode cX2_dropsAheadOf 1 = .ok (.getfield 21, 3) := by decide +kernel
theorem dX2_dropsAheadOf_4 : decode cX2_dropsAheadOf 4 = .ok (.aload_n 1, 1) := by decide +kernel
theorem dX2_dropsAheadOf_5 : decode cX2_dropsAheadOf 5 = .ok (.getfield 21, 3) := by decide +kernel
theorem dX2_dropsAheadOf_8 : decode cX2_dropsAheadOf 8 = .ok (.if_icmp .eq 22, 3) := by decide +kernel
theorem dX2_dropsAheadOf_11 : decode cX2_dropsAheadOf 11 = .ok (.aload_n 0, 1) := by decide +kernel
theorem dX2_dropsAheadOf_12 : decode cX2_dropsAheadOf 12 = .ok (.getfield 21, 3) := by decide +kernel
theorem dX2_dropsAheadOf_15 : decode cX2_dropsAheadOf 15 = .ok (.aload_n 1, 1) := by decide +kernel
theorem dX2_dropsAheadOf_16 : decode cX2_dropsAheadOf 16 = .ok (.getfield 21, 3) := by decide +kernel
theorem dX2_dropsAheadOf_19 : decode cX2_dropsAheadOf 19 = .ok (.if_icmp .ge 7, 3) := by decide +kernel
theorem dX2_dropsAheadOf_22 : decode cX2_dropsAheadOf 22 = .ok (.iconst 1, 1) := by decide +kernel
theorem dX2_dropsAheadOf_23 : decode cX2_dropsAheadOf 23 = .ok (.goto 23, 3) := by decide +kernel
theorem dX2_dropsAheadOf_26 : decode cX2_dropsAheadOf 26 = .ok (.iconst 0, 1) := by decide +kernel
theorem dX2_dropsAheadOf_27 : decode cX2_dropsAheadOf 27 = .ok (.goto 19, 3) := by decide +kernel
theorem dX2_dropsAheadOf_30 : decode cX2_dropsAheadOf 30 = .ok (.aload_n 0, 1) := by decide +kernel
theorem dX2_dropsAheadOf_31 : decode cX2_dropsAheadOf 31 = .ok (.getfield 31, 3) := by decide +kernel
theorem dX2_dropsAheadOf_34 : decode cX2_dropsAheadOf 34 = .ok (.aload_n 1, 1) := by decide +kernel
theorem dX2_dropsAheadOf_35 : decode cX2_dropsAheadOf 35 = .ok (.getfield 31, 3) := by decide +kernel
theorem dX2_dropsAheadOf_38 : decode cX2_dropsAheadOf 38 = .ok (.if_icmp .ge 7, 3) := by decide +kernel
theorem dX2_dropsAheadOf_41 : decode cX2_dropsAheadOf 41 = .ok (.iconst 1, 1) := by decide +kernel
theorem dX2_dropsAheadOf_42 : decode cX2_dropsAheadOf 42 = .ok (.goto 4, 3) := by decide +kernel
theorem dX2_dropsAheadOf_45 : decode cX2_dropsAheadOf 45 = .ok (.iconst 0, 1) := by decide +kernel
theorem dX2_dropsAheadOf_46 : decode cX2_dropsAheadOf 46 = .ok (.ireturn, 1) := by decide +kernel
theorem dX2_tell_0 : decode cX2_tell 0 = .ok (.iload_n 1, 1) := by decide +kernel
theorem dX2_tell_1 : decode cX2_tell 1 = .ok (.tableswitch 86 0 6 #[43, 48, 53, 58, 63, 68, 73], 43) := by decide +kernel
theorem dX2_tell_44 : decode cX2_tell 44 = .ok (.aload_n 0, 1) := by decide +kernel
theorem dX2_tell_45 : decode cX2_tell 45 = .ok (.getfield 15, 3) := by decide +kernel
theorem dX2_tell_48 : decode cX2_tell 48 = .ok (.ireturn, 1) := by decide +kernel
theorem dX2_tell_49 : decode cX2_tell 49 = .ok (.aload_n 0, 1) := by decide +kernel
theorem dX2_tell_50 : decode cX2_tell 50 = .ok (.getfield 18, 3) := by decide +kernel
theorem dX2_tell_53 : decode cX2_tell 53 = .ok (.ireturn, 1) := by decide +kernel
theorem dX2_tell_54 : decode cX2_tell 54 = .ok (.aload_n 0, 1) := by decide +kernel
theorem dX2_tell_55 : decode cX2_tell 55 = .ok (.getfield 34, 3) := by decide +kernel
theorem dX2_tell_58 : decode cX2_tell 58 = .ok (.ireturn, 1) := by decide +kernel
theorem dX2_tell_59 : decode cX2_tell 59 = .ok (.aload_n 0, 1) := by decide +kernel
theorem dX2_tell_60 : decode cX2_tell 60 = .ok (.getfield 37, 3) := by decide +kernel
theorem dX2_tell_63 : decode cX2_tell 63 = .ok (.ireturn, 1) := by decide +kernel
theorem dX2_tell_64 : decode cX2_tell 64 = .ok (.aload_n 0, 1) := by decide +kernel
theorem dX2_tell_65 : decode cX2_tell 65 = .ok (.getfield 21, 3) := by decide +kernel
theorem dX2_tell_68 : decode cX2_tell 68 = .ok (.ireturn, 1) := by decide +kernel
theorem dX2_tell_69 : decode cX2_tell 69 = .ok (.aload_n 0, 1) := by decide +kernel
theorem dX2_tell_70 : decode cX2_tell 70 = .ok (.getfield 24, 3) := by decide +kernel
theorem dX2_tell_73 : decode cX2_tell 73 = .ok (.ireturn, 1) := by decide +kernel
theorem dX2_tell_74 : decode cX2_tell 74 = .ok (.aload_n 0, 1) := by decide +kernel
theorem dX2_tell_75 : decode cX2_tell 75 = .ok (.getfield 27, 3) := by decide +kernel
theorem dX2_tell_78 : decode cX2_tell 78 = .ok (.ifCond .eq 7, 3) := by decide +kernel
theorem dX2_tell_81 : decode cX2_tell 81 = .ok (.iconst 1, 1) := by decide +kernel
theorem dX2_tell_82 : decode cX2_tell 82 = .ok (.goto 4, 3) := by decide +kernel
theorem dX2_tell_85 : decode cX2_tell 85 = .ok (.iconst 0, 1) := by decide +kernel
theorem dX2_tell_86 : decode cX2_tell 86 = .ok (.ireturn, 1) := by decide +kernel
theorem dX2_tell_87 : decode cX2_tell 87 = .ok (.iload_n 2, 1) := by decide +kernel
theorem dX2_tell_88 : decode cX2_tell 88 = .ok (.aload_n 0, 1) := by decide +kernel
theorem dX2_tell_89 : decode cX2_tell 89 = .ok (.getfield 31, 3) := by decide +kernel
theorem dX2_tell_92 : decode cX2_tell 92 = .ok (.isub, 1) := by decide +kernel
theorem dX2_tell_93 : decode cX2_tell 93 = .ok (.ireturn, 1) := by decide +kernel
theorem dX2_takeFrom_0 : decode cX2_takeFrom 0 = .ok (.aload_n 0, 1) := by decide +kernel
theorem dX2_takeFrom_1 : decode cX2_takeFrom 1 = .ok (.aload_n 1, 1) := by decide +kernel
theorem dX2_takeFrom_2 : decode cX2_takeFrom 2 = .ok (.getfield 9, 3) := by decide +kernel
theorem dX2_takeFrom_5 : decode cX2_takeFrom 5 = .ok (.putfield 9, 3) := by decide +kernel
theorem dX2_takeFrom_8 : decode cX2_takeFrom 8 = .ok (.aload_n 0, 1) := by decide +kernel
theorem dX2_takeFrom_9 : decode cX2_takeFrom 9 = .ok (.aload_n 1, 1) := by decide +kernel
theorem dX2_takeFrom_10 : decode cX2_takeFrom 10 = .ok (.getfield 15, 3) := by decide +kernel
theorem dX2_takeFrom_13 : decode cX2_takeFrom 13 = .ok (.putfield 15, 3) := by decide +kernel
theorem dX2_takeFrom_16 : decode cX2_takeFrom 16 = .ok (.aload_n 0, 1) := by decide +kernel
theorem dX2_takeFrom_17 : decode cX2_takeFrom 17 = .ok (.aload_n 1, 1) := by decide +kernel
theorem dX2_takeFrom_18 : decode cX2_takeFrom 18 = .ok (.getfield 18, 3) := by decide +kernel
theorem dX2_takeFrom_21 : decode cX2_takeFrom 21 = .ok (.putfield 18, 3) := by decide +kernel
theorem dX2_takeFrom_24 : decode cX2_takeFrom 24 = .ok (.aload_n 0, 1) := by decide +kernel
theorem dX2_takeFrom_25 : decode cX2_takeFrom 25 = .ok (.aload_n 1, 1) := by decide +kernel
theorem dX2_takeFrom_26 : decode cX2_takeFrom 26 = .ok (.getfield 34, 3) := by decide +kernel
theorem dX2_takeFrom_29 : decode cX2_takeFrom 29 = .ok (.putfield 34, 3) := by decide +kernel
theorem dX2_takeFrom_32 : decode cX2_takeFrom 32 = .ok (.aload_n 0, 1) := by decide +kernel
theorem dX2_takeFrom_33 : decode cX2_takeFrom 33 = .ok (.aload_n 1, 1) := by decide +kernel
theorem dX2_takeFrom_34 : decode cX2_takeFrom 34 = .ok (.getfield 37, 3) := by decide +kernel
theorem dX2_takeFrom_37 : decode cX2_takeFrom 37 = .ok (.putfield 37, 3) := by decide +kernel
theorem dX2_takeFrom_40 : decode cX2_takeFrom 40 = .ok (.aload_n 0, 1) := by decide +kernel
theorem dX2_takeFrom_41 : decode cX2_takeFrom 41 = .ok (.aload_n 1, 1) := by decide +kernel
theorem dX2_takeFrom_42 : decode cX2_takeFrom 42 = .ok (.getfield 21, 3) := by decide +kernel
theorem dX2_takeFrom_45 : decode cX2_takeFrom 45 = .ok (.putfield 21, 3) := by decide +kernel
theorem dX2_takeFrom_48 : decode cX2_takeFrom 48 = .ok (.aload_n 0, 1) := by decide +kernel
theorem dX2_takeFrom_49 : decode cX2_takeFrom 49 = .ok (.aload_n 1, 1) := by decide +kernel
theorem dX2_takeFrom_50 : decode cX2_takeFrom 50 = .ok (.getfield 24, 3) := by decide +kernel
theorem dX2_takeFrom_53 : decode cX2_takeFrom 53 = .ok (.putfield 24, 3) := by decide +kernel
theorem dX2_takeFrom_56 : decode cX2_takeFrom 56 = .ok (.aload_n 0, 1) := by decide +kernel
theorem dX2_takeFrom_57 : decode cX2_takeFrom 57 = .ok (.aload_n 1, 1) := by decide +kernel
theorem dX2_takeFrom_58 : decode cX2_takeFrom 58 = .ok (.getfield 27, 3) := by decide +kernel
theorem dX2_takeFrom_61 : decode cX2_takeFrom 61 = .ok (.putfield 27, 3) := by decide +kernel
theorem dX2_takeFrom_64 : decode cX2_takeFrom 64 = .ok (.aload_n 0, 1) := by decide +kernel
theorem dX2_takeFrom_65 : decode cX2_takeFrom 65 = .ok (.aload_n 1, 1) := by decide +kernel
theorem dX2_takeFrom_66 : decode cX2_takeFrom 66 = .ok (.getfield 31, 3) := by decide +kernel
theorem dX2_takeFrom_69 : decode cX2_takeFrom 69 = .ok (.putfield 31, 3) := by decide +kernel
theorem dX2_takeFrom_72 : decode cX2_takeFrom 72 = .ok (.return_, 1) := by decide +kernel
theorem dX3_init_0 : decode cX3_init 0 = .ok (.aload_n 0, 1) := by decide +kernel
theorem dX3_init_1 : decode cX3_init 1 = .ok (.invokespecial 3, 3) := by decide +kernel
theorem dX3_init_4 : decode cX3_init 4 = .ok (.aload_n 0, 1) := by decide +kernel
theorem dX3_init_5 : decode cX3_init 5 = .ok (.bipush 8, 2) := by decide +kernel
theorem dX3_init_7 : decode cX3_init 7 = .ok (.anewarray 9, 3) := by decide +kernel
theorem dX3_init_10 : decode cX3_init 10 = .ok (.putfield 11, 3) := by decide +kernel
theorem dX3_init_13 : decode cX3_init 13 = .ok (.aload_n 0, 1) := by decide +kernel
theorem dX3_init_14 : decode cX3_init 14 = .ok (.new 9, 3) := by decide +kernel
theorem dX3_init_17 : decode cX3_init 17 = .ok (.dup, 1) := by decide +kernel
theorem dX3_init_18 : decode cX3_init 18 = .ok (.invokespecial 17, 3) := by decide +kernel
theorem dX3_init_21 : decode cX3_init 21 = .ok (.putfield 18, 3) := by decide +kernel
theorem dX3_init_24 : decode cX3_init 24 = .ok (.iconst 0, 1) := by decide +kernel
theorem dX3_init_25 : decode cX3_init 25 = .ok (.istore_n 1, 1) := by decide +kernel
theorem dX3_init_26 : decode cX3_init 26 = .ok (.iload_n 1, 1) := by decide +kernel
theorem dX3_init_27 : decode cX3_init 27 = .ok (.aload_n 0, 1) := by decide +kernel
theorem dX3_init_28 : decode cX3_init 28 = .ok (.getfield 11, 3) := by decide +kernel
theorem dX3_init_31 : decode cX3_init 31 = .ok (.arraylength, 1) := by decide +kernel
theorem dX3_init_32 : decode cX3_init 32 = .ok (.if_icmp .ge 22, 3) := by decide +kernel
theorem dX3_init_35 : decode cX3_init 35 = .ok (.aload_n 0, 1) := by decide +kernel
theorem dX3_init_36 : decode cX3_init 36 = .ok (.getfield 11, 3) := by decide +kernel
theorem dX3_init_39 : decode cX3_init 39 = .ok (.iload_n 1, 1) := by decide +kernel
theorem dX3_init_40 : decode cX3_init 40 = .ok (.new 9, 3) := by decide +kernel
theorem dX3_init_43 : decode cX3_init 43 = .ok (.dup, 1) := by decide +kernel
theorem dX3_init_44 : decode cX3_init 44 = .ok (.invokespecial 17, 3) := by decide +kernel
theorem dX3_init_47 : decode cX3_init 47 = .ok (.aastore, 1) := by decide +kernel
theorem dX3_init_48 : decode cX3_init 48 = .ok (.iinc 1 1, 3) := by decide +kernel
theorem dX3_init_51 : decode cX3_init 51 = .ok (.goto (-25), 3) := by decide +kernel
theorem dX3_init_54 : decode cX3_init 54 = .ok (.return_, 1) := by decide +kernel
theorem dX3_planAt_0 : decode cX3_planAt 0 = .ok (.iload_n 1, 1) := by decide +kernel
theorem dX3_planAt_1 : decode cX3_planAt 1 = .ok (.ifCond .lt 12, 3) := by decide +kernel
theorem dX3_planAt_4 : decode cX3_planAt 4 = .ok (.iload_n 1, 1) := by decide +kernel
theorem dX3_planAt_5 : decode cX3_planAt 5 = .ok (.aload_n 0, 1) := by decide +kernel
theorem dX3_planAt_6 : decode cX3_planAt 6 = .ok (.getfield 11, 3) := by decide +kernel
theorem dX3_planAt_9 : decode cX3_planAt 9 = .ok (.arraylength, 1) := by decide +kernel
theorem dX3_planAt_10 : decode cX3_planAt 10 = .ok (.if_icmp .lt 8, 3) := by decide +kernel
theorem dX3_planAt_13 : decode cX3_planAt 13 = .ok (.aload_n 0, 1) := by decide +kernel
theorem dX3_planAt_14 : decode cX3_planAt 14 = .ok (.getfield 18, 3) := by decide +kernel
theorem dX3_planAt_17 : decode cX3_planAt 17 = .ok (.areturn, 1) := by decide +kernel
theorem dX3_planAt_18 : decode cX3_planAt 18 = .ok (.aload_n 0, 1) := by decide +kernel
theorem dX3_planAt_19 : decode cX3_planAt 19 = .ok (.getfield 11, 3) := by decide +kernel
theorem dX3_planAt_22 : decode cX3_planAt 22 = .ok (.iload_n 1, 1) := by decide +kernel
theorem dX3_planAt_23 : decode cX3_planAt 23 = .ok (.aaload, 1) := by decide +kernel
theorem dX3_planAt_24 : decode cX3_planAt 24 = .ok (.astore_n 2, 1) := by decide +kernel
theorem dX3_planAt_25 : decode cX3_planAt 25 = .ok (.aload_n 2, 1) := by decide +kernel
theorem dX3_planAt_26 : decode cX3_planAt 26 = .ok (.ifnonnull 10, 3) := by decide +kernel
theorem dX3_planAt_29 : decode cX3_planAt 29 = .ok (.aload_n 0, 1) := by decide +kernel
theorem dX3_planAt_30 : decode cX3_planAt 30 = .ok (.getfield 18, 3) := by decide +kernel
theorem dX3_planAt_33 : decode cX3_planAt 33 = .ok (.goto 4, 3) := by decide +kernel
theorem dX3_planAt_36 : decode cX3_planAt 36 = .ok (.aload_n 2, 1) := by decide +kernel
theorem dX3_planAt_37 : decode cX3_planAt 37 = .ok (.areturn, 1) := by decide +kernel
theorem dX3_numberAt_0 : decode cX3_numberAt 0 = .ok (.iload_n 1, 1) := by decide +kernel
theorem dX3_numberAt_1 : decode cX3_numberAt 1 = .ok (.ifCond .lt 11, 3) := by decide +kernel
theorem dX3_numberAt_4 : decode cX3_numberAt 4 = .ok (.iload_n 1, 1) := by decide +kernel
theorem dX3_numberAt_5 : decode cX3_numberAt 5 = .ok (.aload_n 0, 1) := by decide +kernel
theorem dX3_numberAt_6 : decode cX3_numberAt 6 = .ok (.getfield 22, 3) := by decide +kernel
theorem dX3_numberAt_9 : decode cX3_numberAt 9 = .ok (.if_icmp .lt 8, 3) := by decide +kernel
theorem dX3_numberAt_12 : decode cX3_numberAt 12 = .ok (.bipush (-4), 2) := by decide +kernel
theorem dX3_numberAt_14 : decode cX3_numberAt 14 = .ok (.goto 11, 3) := by decide +kernel
theorem dX3_numberAt_17 : decode cX3_numberAt 17 = .ok (.aload_n 0, 1) := by decide +kernel
theorem dX3_numberAt_18 : decode cX3_numberAt 18 = .ok (.iload_n 1, 1) := by decide +kernel
theorem dX3_numberAt_19 : decode cX3_numberAt 19 = .ok (.invokevirtual 26, 3) := by decide +kernel
theorem dX3_numberAt_22 : decode cX3_numberAt 22 = .ok (.getfield 30, 3) := by decide +kernel
theorem dX3_numberAt_25 : decode cX3_numberAt 25 = .ok (.ireturn, 1) := by decide +kernel
theorem dX3_placeOf_0 : decode cX3_placeOf 0 = .ok (.iconst 0, 1) := by decide +kernel
theorem dX3_placeOf_1 : decode cX3_placeOf 1 = .ok (.istore_n 2, 1) := by decide +kernel
theorem dX3_placeOf_2 : decode cX3_placeOf 2 = .ok (.iload_n 2, 1) := by decide +kernel
theorem dX3_placeOf_3 : decode cX3_placeOf 3 = .ok (.aload_n 0, 1) := by decide +kernel
theorem dX3_placeOf_4 : decode cX3_placeOf 4 = .ok (.getfield 22, 3) := by decide +kernel
theorem dX3_placeOf_7 : decode cX3_placeOf 7 = .ok (.if_icmp .ge 23, 3) := by decide +kernel
theorem dX3_placeOf_10 : decode cX3_placeOf 10 = .ok (.aload_n 0, 1) := by decide +kernel
theorem dX3_placeOf_11 : decode cX3_placeOf 11 = .ok (.iload_n 2, 1) := by decide +kernel
theorem dX3_placeOf_12 : decode cX3_placeOf 12 = .ok (.invokevirtual 26, 3) := by decide +kernel
theorem dX3_placeOf_15 : decode cX3_placeOf 15 = .ok (.getfield 30, 3) := by decide +kernel
theorem dX3_placeOf_18 : decode cX3_placeOf 18 = .ok (.iload_n 1, 1) := by decide +kernel
theorem dX3_placeOf_19 : decode cX3_placeOf 19 = .ok (.if_icmp .ne 5, 3) := by decide +kernel
theorem dX3_placeOf_22 : decode cX3_placeOf 22 = .ok (.iload_n 2, 1) := by decide +kernel
theorem dX3_placeOf_23 : decode cX3_placeOf 23 = .ok (.ireturn, 1) := by decide +kernel
theorem dX3_placeOf_24 : decode cX3_placeOf 24 = .ok (.iinc 2 1, 3) := by decide +kernel
theorem dX3_placeOf_27 : decode cX3_placeOf 27 = .ok (.goto (-25), 3) := by decide +kernel
theorem dX3_placeOf_30 : decode cX3_placeOf 30 = .ok (.iconst (-1), 1) := by decide +kernel
theorem dX3_placeOf_31 : decode cX3_placeOf 31 = .ok (.ireturn, 1) := by decide +kernel
theorem dX3_placeFor_0 : decode cX3_placeFor 0 = .ok (.iconst 0, 1) := by decide +kernel
theorem dX3_placeFor_1 : decode cX3_placeFor 1 = .ok (.istore_n 3, 1) := by decide +kernel
theorem dX3_placeFor_2 : decode cX3_placeFor 2 = .ok (.iload_n 3, 1) := by decide +kernel
theorem dX3_placeFor_3 : decode cX3_placeFor 3 = .ok (.aload_n 0, 1) := by decide +kernel
theorem dX3_placeFor_4 : decode cX3_placeFor 4 = .ok (.getfield 22, 3) := by decide +kernel
theorem dX3_placeFor_7 : decode cX3_placeFor 7 = .ok (.if_icmp .ge 36, 3) := by decide +kernel
theorem dX3_placeFor_10 : decode cX3_placeFor 10 = .ok (.aload_n 0, 1) := by decide +kernel
theorem dX3_placeFor_11 : decode cX3_placeFor 11 = .ok (.iload_n 3, 1) := by decide +kernel
theorem dX3_placeFor_12 : decode cX3_placeFor 12 = .ok (.invokevirtual 26, 3) := by decide +kernel
theorem dX3_placeFor_15 : decode cX3_placeFor 15 = .ok (.astore 4, 2) := by decide +kernel
theorem dX3_placeFor_17 : decode cX3_placeFor 17 = .ok (.aload 4, 2) := by decide +kernel
theorem dX3_placeFor_19 : decode cX3_placeFor 19 = .ok (.getfield 33, 3) := by decide +kernel
theorem dX3_placeFor_22 : decode cX3_placeFor 22 = .ok (.iload_n 1, 1) := by decide +kernel
theorem dX3_placeFor_23 : decode cX3_placeFor 23 = .ok (.if_icmp .ne 14, 3) := by decide +kernel
theorem dX3_placeFor_26 : decode cX3_placeFor 26 = .ok (.aload 4, 2) := by decide +kernel
theorem dX3_placeFor_28 : decode cX3_placeFor 28 = .ok (.getfield 36, 3) := by decide +kernel
theorem dX3_placeFor_31 : decode cX3_placeFor 31 = .ok (.iload_n 2, 1) := by decide +kernel
theorem dX3_placeFor_32 : decode cX3_placeFor 32 = .ok (.if_icmp .ne 5, 3) := by decide +kernel
theorem dX3_placeFor_35 : decode cX3_placeFor 35 = .ok (.iload_n 3, 1) := by decide +kernel
theorem dX3_placeFor_36 : decode cX3_placeFor 36 = .ok (.ireturn, 1) := by decide +kernel
theorem dX3_placeFor_37 : decode cX3_placeFor 37 = .ok (.iinc 3 1, 3) := by decide +kernel
theorem dX3_placeFor_40 : decode cX3_placeFor 40 = .ok (.goto (-38), 3) := by decide +kernel
theorem dX3_placeFor_43 : decode cX3_placeFor 43 = .ok (.iconst (-1), 1) := by decide +kernel
theorem dX3_placeFor_44 : decode cX3_placeFor 44 = .ok (.ireturn, 1) := by decide +kernel
theorem dX3_keptFor_0 : decode cX3_keptFor 0 = .ok (.iconst 0, 1) := by decide +kernel
theorem dX3_keptFor_1 : decode cX3_keptFor 1 = .ok (.istore_n 2, 1) := by decide +kernel
theorem dX3_keptFor_2 : decode cX3_keptFor 2 = .ok (.iconst 0, 1) := by decide +kernel
theorem dX3_keptFor_3 : decode cX3_keptFor 3 = .ok (.istore_n 3, 1) := by decide +kernel
theorem dX3_keptFor_4 : decode cX3_keptFor 4 = .ok (.iload_n 3, 1) := by decide +kernel
theorem dX3_keptFor_5 : decode cX3_keptFor 5 = .ok (.aload_n 0, 1) := by decide +kernel
theorem dX3_keptFor_6 : decode cX3_keptFor 6 = .ok (.getfield 22, 3) := by decide +kernel
theorem dX3_keptFor_9 : decode cX3_keptFor 9 = .ok (.if_icmp .ge 24, 3) := by decide +kernel
theorem dX3_keptFor_12 : decode cX3_keptFor 12 = .ok (.aload_n 0, 1) := by decide +kernel
theorem dX3_keptFor_13 : decode cX3_keptFor 13 = .ok (.iload_n 3, 1) := by decide +kernel
theorem dX3_keptFor_14 : decode cX3_keptFor 14 = .ok (.invokevirtual 26, 3) := by decide +kernel
theorem dX3_keptFor_17 : decode cX3_keptFor 17 = .ok (.getfield 33, 3) := by decide +kernel
theorem dX3_keptFor_20 : decode cX3_keptFor 20 = .ok (.iload_n 1, 1) := by decide +kernel
theorem dX3_keptFor_21 : decode cX3_keptFor 21 = .ok (.if_icmp .ne 6, 3) := by decide +kernel
theorem dX3_keptFor_24 : decode cX3_keptFor 24 = .ok (.iinc 2 1, 3) := by decide +kernel
theorem dX3_keptFor_27 : decode cX3_keptFor 27 = .ok (.iinc 3 1, 3) := by decide +kernel
theorem dX3_keptFor_30 : decode cX3_keptFor 30 = .ok (.goto (-26), 3) := by decide +kernel
theorem dX3_keptFor_33 : decode cX3_keptFor 33 = .ok (.iload_n 2, 1) := by decide +kernel
theorem dX3_keptFor_34 : decode cX3_keptFor 34 = .ok (.ireturn, 1) := by decide +kernel
theorem dX3_pinned_0 : decode cX3_pinned 0 = .ok (.iconst 0, 1) := by decide +kernel
theorem dX3_pinned_1 : decode cX3_pinned 1 = .ok (.istore_n 1, 1) := by decide +kernel
theorem dX3_pinned_2 : decode cX3_pinned 2 = .ok (.iconst 0, 1) := by decide +kernel
theorem dX3_pinned_3 : decode cX3_pinned 3 = .ok (.istore_n 2, 1) := by decide +kernel
theorem dX3_pinned_4 : decode cX3_pinned 4 = .ok (.iload_n 2, 1) := by decide +kernel
theorem dX3_pinned_5 : decode cX3_pinned 5 = .ok (.aload_n 0, 1) := by decide +kernel
theorem dX3_pinned_6 : decode cX3_pinned 6 = .ok (.getfield 22, 3) := by decide +kernel
theorem dX3_pinned_9 : decode cX3_pinned 9 = .ok (.if_icmp .ge 23, 3) := by decide +kernel
theorem dX3_pinned_12 : decode cX3_pinned 12 = .ok (.aload_n 0, 1) := by decide +kernel
theorem dX3_pinned_13 : decode cX3_pinned 13 = .ok (.iload_n 2, 1) := by decide +kernel
theorem dX3_pinned_14 : decode cX3_pinned 14 = .ok (.invokevirtual 26, 3) := by decide +kernel
theorem dX3_pinned_17 : decode cX3_pinned 17 = .ok (.getfield 39, 3) := by decide +kernel
theorem dX3_pinned_20 : decode cX3_pinned 20 = .ok (.ifCond .eq 6, 3) := by decide +kernel
theorem dX3_pinned_23 : decode cX3_pinned 23 = .ok (.iinc 1 1, 3) := by decide +kernel
theorem dX3_pinned_26 : decode cX3_pinned 26 = .ok (.iinc 2 1, 3) := by decide +kernel
theorem dX3_pinned_29 : decode cX3_pinned 29 = .ok (.goto (-25), 3) := by decide +kernel
theorem dX3_pinned_32 : decode cX3_pinned 32 = .ok (.iload_n 1, 1) := by decide +kernel
theorem dX3_pinned_33 : decode cX3_pinned 33 = .ok (.ireturn, 1) := by decide +kernel
theorem dX3_placeToDrop_0 : decode cX3_placeToDrop 0 = .ok (.iconst 0, 1) := by decide +kernel
theorem dX3_placeToDrop_1 : decode cX3_placeToDrop 1 = .ok (.istore_n 2, 1) := by decide +kernel
theorem dX3_placeToDrop_2 : decode cX3_placeToDrop 2 = .ok (.iload_n 2, 1) := by decide +kernel
theorem dX3_placeToDrop_3 : decode cX3_placeToDrop 3 = .ok (.aload_n 0, 1) := by decide +kernel
theorem dX3_placeToDrop_4 : decode cX3_placeToDrop 4 = .ok (.getfield 22, 3) := by decide +kernel
theorem dX3_placeToDrop_7 : decode cX3_placeToDrop 7 = .ok (.if_icmp .ge 35, 3) := by decide +kernel
theorem dX3_placeToDrop_10 : decode cX3_placeToDrop 10 = .ok (.aload_n 0, 1) := by decide +kernel
theorem dX3_placeToDrop_11 : decode cX3_placeToDrop 11 = .ok (.iload_n 2, 1) := by decide +kernel
theorem dX3_placeToDrop_12 : decode cX3_placeToDrop 12 = .ok (.invokevirtual 26, 3) := by decide +kernel
theorem dX3_placeToDrop_15 : decode cX3_placeToDrop 15 = .ok (.getfield 39, 3) := by decide +kernel
theorem dX3_placeToDrop_18 : decode cX3_placeToDrop 18 = .ok (.ifCond .ne 18, 3) := by decide +kernel
theorem dX3_placeToDrop_21 : decode cX3_placeToDrop 21 = .ok (.aload_n 0, 1) := by decide +kernel
theorem dX3_placeToDrop_22 : decode cX3_placeToDrop 22 = .ok (.aload_n 0, 1) := by decide +kernel
theorem dX3_placeToDrop_23 : decode cX3_placeToDrop 23 = .ok (.iload_n 2, 1) := by decide +kernel
theorem dX3_placeToDrop_24 : decode cX3_placeToDrop 24 = .ok (.invokevirtual 26, 3) := by decide +kernel
theorem dX3_placeToDrop_27 : decode cX3_placeToDrop 27 = .ok (.invokevirtual 43, 3) := by decide +kernel
theorem dX3_placeToDrop_30 : decode cX3_placeToDrop 30 = .ok (.iload_n 1, 1) := by decide +kernel
theorem dX3_placeToDrop_31 : decode cX3_placeToDrop 31 = .ok (.if_icmp .ne 5, 3) := by decide +kernel
theorem dX3_placeToDrop_34 : decode cX3_placeToDrop 34 = .ok (.iload_n 2, 1) := by decide +kernel
theorem dX3_placeToDrop_35 : decode cX3_placeToDrop 35 = .ok (.ireturn, 1) := by decide +kernel
theorem dX3_placeToDrop_36 : decode cX3_placeToDrop 36 = .ok (.iinc 2 1, 3) := by decide +kernel
theorem dX3_placeToDrop_39 : decode cX3_placeToDrop 39 = .ok (.goto (-37), 3) := by decide +kernel
theorem dX3_placeToDrop_42 : decode cX3_placeToDrop 42 = .ok (.iconst (-1), 1) := by decide +kernel
theorem dX3_placeToDrop_43 : decode cX3_placeToDrop 43 = .ok (.ireturn, 1) := by decide +kernel
theorem dX3_droppedAheadOf_0 : decode cX3_droppedAheadOf 0 = .ok (.iconst 0, 1) := by decide +kernel
theorem dX3_droppedAheadOf_1 : decode cX3_droppedAheadOf 1 = .ok (.istore_n 2, 1) := by decide +kernel
theorem dX3_droppedAheadOf_2 : decode cX3_droppedAheadOf 2 = .ok (.iconst 0, 1) := by decide +kernel
theorem dX3_droppedAheadOf_3 : decode cX3_droppedAheadOf 3 = .ok (.istore_n 3, 1) := by decide +kernel
theorem dX3_droppedAheadOf_4 : decode cX3_droppedAheadOf 4 = .ok (.iload_n 3, 1) := by decide +kernel
theorem dX3_droppedAheadOf_5 : decode cX3_droppedAheadOf 5 = .ok (.aload_n 0, 1) := by decide +kernel
theorem dX3_droppedAheadOf_6 : decode cX3_droppedAheadOf 6 = .ok (.getfield 22, 3) := by decide +kernel
theorem dX3_droppedAheadOf_9 : decode cX3_droppedAheadOf 9 = .ok (.if_icmp .ge 36, 3) := by decide +kernel
theorem dX3_droppedAheadOf_12 : decode cX3_droppedAheadOf 12 = .ok (.aload_n 0, 1) := by decide +kernel
theorem dX3_droppedAheadOf_13 : decode cX3_droppedAheadOf 13 = .ok (.iload_n 3, 1) := by decide +kernel
theorem dX3_droppedAheadOf_14 : decode cX3_droppedAheadOf 14 = .ok (.invokevirtual 26, 3) := by decide +kernel
theorem dX3_droppedAheadOf_17 : decode cX3_droppedAheadOf 17 = .ok (.astore 4, 2) := by decide +kernel
theorem dX3_droppedAheadOf_19 : decode cX3_droppedAheadOf 19 = .ok (.aload 4, 2) := by decide +kernel
theorem dX3_droppedAheadOf_21 : decode cX3_droppedAheadOf 21 = .ok (.getfield 39, 3) := by decide +kernel
theorem dX3_droppedAheadOf_24 : decode cX3_droppedAheadOf 24 = .ok (.ifCond .ne 15, 3) := by decide +kernel
theorem dX3_droppedAheadOf_27 : decode cX3_droppedAheadOf 27 = .ok (.aload 4, 2) := by decide +kernel
theorem dX3_droppedAheadOf_29 : decode cX3_droppedAheadOf 29 = .ok (.aload_n 1, 1) := by decide +kernel
theorem dX3_droppedAheadOf_30 : decode cX3_droppedAheadOf 30 = .ok (.invokevirtual 47, 3) := by decide +kernel
theorem dX3_droppedAheadOf_33 : decode cX3_droppedAheadOf 33 = .ok (.ifCond .eq 6, 3) := by decide +kernel
theorem dX3_droppedAheadOf_36 : decode cX3_droppedAheadOf 36 = .ok (.iinc 2 1, 3) := by decide +kernel
theorem dX3_droppedAheadOf_39 : decode cX3_droppedAheadOf 39 = .ok (.iinc 3 1, 3) := by decide +kernel
theorem dX3_droppedAheadOf_42 : decode cX3_droppedAheadOf 42 = .ok (.goto (-38), 3) := by decide +kernel
theorem dX3_droppedAheadOf_45 : decode cX3_droppedAheadOf 45 = .ok (.iload_n 2, 1) := by decide +kernel
theorem dX3_droppedAheadOf_46 : decode cX3_droppedAheadOf 46 = .ok (.ireturn, 1) := by decide +kernel
theorem dX3_makeRoom_0 : decode cX3_makeRoom 0 = .ok (.bipush (-4), 2) := by decide +kernel
theorem dX3_makeRoom_2 : decode cX3_makeRoom 2 = .ok (.istore_n 2, 1) := by decide +kernel
theorem dX3_makeRoom_3 : decode cX3_makeRoom 3 = .ok (.aload_n 0, 1) := by decide +kernel
theorem dX3_makeRoom_4 : decode cX3_makeRoom 4 = .ok (.iconst 0, 1) := by decide +kernel
theorem dX3_makeRoom_5 : decode cX3_makeRoom 5 = .ok (.invokevirtual 51, 3) := by decide +kernel
theorem dX3_makeRoom_8 : decode cX3_makeRoom 8 = .ok (.istore_n 3, 1) := by decide +kernel
theorem dX3_makeRoom_9 : decode cX3_makeRoom 9 = .ok (.aload_n 0, 1) := by decide +kernel
theorem dX3_makeRoom_10 : decode cX3_makeRoom 10 = .ok (.getfield 22, 3) := by decide +kernel
theorem dX3_makeRoom_13 : decode cX3_makeRoom 13 = .ok (.istore 4, 2) := by decide +kernel
theorem dX3_makeRoom_15 : decode cX3_makeRoom 15 = .ok (.iload 4, 2) := by decide +kernel
theorem dX3_makeRoom_17 : decode cX3_makeRoom 17 = .ok (.iload_n 1, 1) := by decide +kernel
theorem dX3_makeRoom_18 : decode cX3_makeRoom 18 = .ok (.if_icmp .lt 47, 3) := by decide +kernel
theorem dX3_makeRoom_21 : decode cX3_makeRoom 21 = .ok (.iload_n 3, 1) := by decide +kernel
theorem dX3_makeRoom_22 : decode cX3_makeRoom 22 = .ok (.iconst (-1), 1) := by decide +kernel
theorem dX3_makeRoom_23 : decode cX3_makeRoom 23 = .ok (.if_icmp .eq 42, 3) := by decide +kernel
theorem dX3_makeRoom_26 : decode cX3_makeRoom 26 = .ok (.iload_n 2, 1) := by decide +kernel
theorem dX3_makeRoom_27 : decode cX3_makeRoom 27 = .ok (.bipush (-4), 2) := by decide +kernel
theorem dX3_makeRoom_29 : decode cX3_makeRoom 29 = .ok (.if_icmp .ne 9, 3) := by decide +kernel
theorem dX3_makeRoom_32 : decode cX3_makeRoom 32 = .ok (.aload_n 0, 1) := by decide +kernel
theorem dX3_makeRoom_33 : decode cX3_makeRoom 33 = .ok (.iload_n 3, 1) := by decide +kernel
theorem dX3_makeRoom_34 : decode cX3_makeRoom 34 = .ok (.invokevirtual 55, 3) := by decide +kernel
theorem dX3_makeRoom_37 : decode cX3_makeRoom 37 = .ok (.istore_n 2, 1) := by decide +kernel
theorem dX3_makeRoom_38 : decode cX3_makeRoom 38 = .ok (.aload_n 0, 1) := by decide +kernel
theorem dX3_makeRoom_39 : decode cX3_makeRoom 39 = .ok (.iload_n 3, 1) := by decide +kernel
theorem dX3_makeRoom_40 : decode cX3_makeRoom 40 = .ok (.invokevirtual 58, 3) := by decide +kernel
theorem dX3_makeRoom_43 : decode cX3_makeRoom 43 = .ok (.aload_n 0, 1) := by decide +kernel
theorem dX3_makeRoom_44 : decode cX3_makeRoom 44 = .ok (.dup, 1) := by decide +kernel
theorem dX3_makeRoom_45 : decode cX3_makeRoom 45 = .ok (.getfield 62, 3) := by decide +kernel
theorem dX3_makeRoom_48 : decode cX3_makeRoom 48 = .ok (.iconst 1, 1) := by decide +kernel
theorem dX3_makeRoom_49 : decode cX3_makeRoom 49 = .ok (.iadd, 1) := by decide +kernel
theorem dX3_makeRoom_50 : decode cX3_makeRoom 50 = .ok (.putfield 62, 3) := by decide +kernel
theorem dX3_makeRoom_53 : decode cX3_makeRoom 53 = .ok (.aload_n 0, 1) := by decide +kernel
theorem dX3_makeRoom_54 : decode cX3_makeRoom 54 = .ok (.iconst 0, 1) := by decide +kernel
theorem dX3_makeRoom_55 : decode cX3_makeRoom 55 = .ok (.invokevirtual 51, 3) := by decide +kernel
theorem dX3_makeRoom_58 : decode cX3_makeRoom 58 = .ok (.istore_n 3, 1) := by decide +kernel
theorem dX3_makeRoom_59 : decode cX3_makeRoom 59 = .ok (.iinc 4 (-1), 3) := by decide +kernel
theorem dX3_makeRoom_62 : decode cX3_makeRoom 62 = .ok (.goto (-47), 3) := by decide +kernel
theorem dX3_makeRoom_65 : decode cX3_makeRoom 65 = .ok (.iload_n 2, 1) := by decide +kernel
theorem dX3_makeRoom_66 : decode cX3_makeRoom 66 = .ok (.ireturn, 1) := by decide +kernel
theorem dX3_newPlan_0 : decode cX3_newPlan 0 = .ok (.aload_n 0, 1) := by decide +kernel
theorem dX3_newPlan_1 : decode cX3_newPlan 1 = .ok (.getfield 22, 3) := by decide +kernel
theorem dX3_newPlan_4 : decode cX3_newPlan 4 = .ok (.iload_n 3, 1) := by decide +kernel
theorem dX3_newPlan_5 : decode cX3_newPlan 5 = .ok (.if_icmp .ge 15, 3) := by decide +kernel
theorem dX3_newPlan_8 : decode cX3_newPlan 8 = .ok (.aload_n 0, 1) := by decide +kernel
theorem dX3_newPlan_9 : decode cX3_newPlan 9 = .ok (.getfield 22, 3) := by decide +kernel
theorem dX3_newPlan_12 : decode cX3_newPlan 12 = .ok (.aload_n 0, 1) := by decide +kernel
theorem dX3_newPlan_13 : decode cX3_newPlan 13 = .ok (.getfield 11, 3) := by decide +kernel
theorem dX3_newPlan_16 : decode cX3_newPlan 16 = .ok (.arraylength, 1) := by decide +kernel
theorem dX3_newPlan_17 : decode cX3_newPlan 17 = .ok (.if_icmp .lt 19, 3) := by decide +kernel
theorem dX3_newPlan_20 : decode cX3_newPlan 20 = .ok (.aload_n 0, 1) := by decide +kernel
theorem dX3_newPlan_21 : decode cX3_newPlan 21 = .ok (.getfield 18, 3) := by decide +kernel
theorem dX3_newPlan_24 : decode cX3_newPlan 24 = .ok (.bipush (-4), 2) := by decide +kernel
theorem dX3_newPlan_26 : decode cX3_newPlan 26 = .ok (.iload_n 1, 1) := by decide +kernel
theorem dX3_newPlan_27 : decode cX3_newPlan 27 = .ok (.iload_n 2, 1) := by decide +kernel
theorem dX3_newPlan_28 : decode cX3_newPlan 28 = .ok (.invokevirtual 65, 3) := by decide +kernel
theorem dX3_newPlan_31 : decode cX3_newPlan 31 = .ok (.aload_n 0, 1) := by decide +kernel
theorem dX3_newPlan_32 : decode cX3_newPlan 32 = .ok (.getfield 18, 3) := by decide +kernel
theorem dX3_newPlan_35 : decode cX3_newPlan 35 = .ok (.areturn, 1) := by decide +kernel
theorem dX3_newPlan_36 : decode cX3_newPlan 36 = .ok (.aload_n 0, 1) := by decide +kernel
theorem dX3_newPlan_37 : decode cX3_newPlan 37 = .ok (.aload_n 0, 1) := by decide +kernel
theorem dX3_newPlan_38 : decode cX3_newPlan 38 = .ok (.getfield 22, 3) := by decide +kernel
theorem dX3_newPlan_41 : decode cX3_newPlan 41 = .ok (.invokevirtual 26, 3) := by decide +kernel
theorem dX3_newPlan_44 : decode cX3_newPlan 44 = .ok (.astore 4, 2) := by decide +kernel
theorem dX3_newPlan_46 : decode cX3_newPlan 46 = .ok (.aload 4, 2) := by decide +kernel
theorem dX3_newPlan_48 : decode cX3_newPlan 48 = .ok (.aload_n 0, 1) := by decide +kernel
theorem dX3_newPlan_49 : decode cX3_newPlan 49 = .ok (.getfield 69, 3) := by decide +kernel
theorem dX3_newPlan_52 : decode cX3_newPlan 52 = .ok (.iload_n 1, 1) := by decide +kernel
theorem dX3_newPlan_53 : decode cX3_newPlan 53 = .ok (.iload_n 2, 1) := by decide +kernel
theorem dX3_newPlan_54 : decode cX3_newPlan 54 = .ok (.invokevirtual 65, 3) := by decide +kernel
theorem dX3_newPlan_57 : decode cX3_newPlan 57 = .ok (.aload_n 0, 1) := by decide +kernel
theorem dX3_newPlan_58 : decode cX3_newPlan 58 = .ok (.dup, 1) := by decide +kernel
theorem dX3_newPlan_59 : decode cX3_newPlan 59 = .ok (.getfield 22, 3) := by decide +kernel
theorem dX3_newPlan_62 : decode cX3_newPlan 62 = .ok (.iconst 1, 1) := by decide +kernel
theorem dX3_newPlan_63 : decode cX3_newPlan 63 = .ok (.iadd, 1) := by decide +kernel
theorem dX3_newPlan_64 : decode cX3_newPlan 64 = .ok (.putfield 22, 3) := by decide +kernel
theorem dX3_newPlan_67 : decode cX3_newPlan 67 = .ok (.aload_n 0, 1) := by decide +kernel
theorem dX3_newPlan_68 : decode cX3_newPlan 68 = .ok (.dup, 1) := by decide +kernel
theorem dX3_newPlan_69 : decode cX3_newPlan 69 = .ok (.getfield 69, 3) := by decide +kernel
theorem dX3_newPlan_72 : decode cX3_newPlan 72 = .ok (.iconst 1, 1) := by decide +kernel
theorem dX3_newPlan_73 : decode cX3_newPlan 73 = .ok (.iadd, 1) := by decide +kernel
theorem dX3_newPlan_74 : decode cX3_newPlan 74 = .ok (.putfield 69, 3) := by decide +kernel
theorem dX3_newPlan_77 : decode cX3_newPlan 77 = .ok (.aload 4, 2) := by decide +kernel
theorem dX3_newPlan_79 : decode cX3_newPlan 79 = .ok (.areturn, 1) := by decide +kernel
theorem dX3_throwAway_0 : decode cX3_throwAway 0 = .ok (.iload_n 1, 1) := by decide +kernel
theorem dX3_throwAway_1 : decode cX3_throwAway 1 = .ok (.ifCond .lt 26, 3) := by decide +kernel
theorem dX3_throwAway_4 : decode cX3_throwAway 4 = .ok (.iload_n 1, 1) := by decide +kernel
theorem dX3_throwAway_5 : decode cX3_throwAway 5 = .ok (.aload_n 0, 1) := by decide +kernel
theorem dX3_throwAway_6 : decode cX3_throwAway 6 = .ok (.getfield 22, 3) := by decide +kernel
theorem dX3_throwAway_9 : decode cX3_throwAway 9 = .ok (.if_icmp .ge 18, 3) := by decide +kernel
theorem dX3_throwAway_12 : decode cX3_throwAway 12 = .ok (.aload_n 0, 1) := by decide +kernel
theorem dX3_throwAway_13 : decode cX3_throwAway 13 = .ok (.iload_n 1, 1) := by decide +kernel
theorem dX3_throwAway_14 : decode cX3_throwAway 14 = .ok (.invokevirtual 58, 3) := by decide +kernel
theorem dX3_throwAway_17 : decode cX3_throwAway 17 = .ok (.aload_n 0, 1) := by decide +kernel
theorem dX3_throwAway_18 : decode cX3_throwAway 18 = .ok (.dup, 1) := by decide +kernel
theorem dX3_throwAway_19 : decode cX3_throwAway 19 = .ok (.getfield 72, 3) := by decide +kernel
theorem dX3_throwAway_22 : decode cX3_throwAway 22 = .ok (.iconst 1, 1) := by decide +kernel
theorem dX3_throwAway_23 : decode cX3_throwAway 23 = .ok (.iadd, 1) := by decide +kernel
theorem dX3_throwAway_24 : decode cX3_throwAway 24 = .ok (.putfield 72, 3) := by decide +kernel
theorem dX3_throwAway_27 : decode cX3_throwAway 27 = .ok (.return_, 1) := by decide +kernel
theorem dX3_remove_0 : decode cX3_remove 0 = .ok (.aload_n 0, 1) := by decide +kernel
theorem dX3_remove_1 : decode cX3_remove 1 = .ok (.getfield 22, 3) := by decide +kernel
theorem dX3_remove_4 : decode cX3_remove 4 = .ok (.iconst 1, 1) := by decide +kernel
theorem dX3_remove_5 : decode cX3_remove 5 = .ok (.isub, 1) := by decide +kernel
theorem dX3_remove_6 : decode cX3_remove 6 = .ok (.istore_n 2, 1) := by decide +kernel
theorem dX3_remove_7 : decode cX3_remove 7 = .ok (.iload_n 1, 1) := by decide +kernel
theorem dX3_remove_8 : decode cX3_remove 8 = .ok (.ifCond .lt 53, 3) := by decide +kernel
theorem dX3_remove_11 : decode cX3_remove 11 = .ok (.iload_n 1, 1) := by decide +kernel
theorem dX3_remove_12 : decode cX3_remove 12 = .ok (.iload_n 2, 1) := by decide +kernel
theorem dX3_remove_13 : decode cX3_remove 13 = .ok (.if_icmp .gt 48, 3) := by decide +kernel
theorem dX3_remove_16 : decode cX3_remove 16 = .ok (.iload_n 2, 1) := by decide +kernel
theorem dX3_remove_17 : decode cX3_remove 17 = .ok (.aload_n 0, 1) := by decide +kernel
theorem dX3_remove_18 : decode cX3_remove 18 = .ok (.getfield 11, 3) := by decide +kernel
theorem dX3_remove_21 : decode cX3_remove 21 = .ok (.arraylength, 1) := by decide +kernel
theorem dX3_remove_22 : decode cX3_remove 22 = .ok (.if_icmp .ge 39, 3) := by decide +kernel
theorem dX3_remove_25 : decode cX3_remove 25 = .ok (.aload_n 0, 1) := by decide +kernel
theorem dX3_remove_26 : decode cX3_remove 26 = .ok (.getfield 11, 3) := by decide +kernel
theorem dX3_remove_29 : decode cX3_remove 29 = .ok (.iload_n 1, 1) := by decide +kernel
theorem dX3_remove_30 : decode cX3_remove 30 = .ok (.aaload, 1) := by decide +kernel
theorem dX3_remove_31 : decode cX3_remove 31 = .ok (.astore_n 3, 1) := by decide +kernel
theorem dX3_remove_32 : decode cX3_remove 32 = .ok (.aload_n 0, 1) := by decide +kernel
theorem dX3_remove_33 : decode cX3_remove 33 = .ok (.getfield 11, 3) := by decide +kernel
theorem dX3_remove_36 : decode cX3_remove 36 = .ok (.iload_n 1, 1) := by decide +kernel
theorem dX3_remove_37 : decode cX3_remove 37 = .ok (.aload_n 0, 1) := by decide +kernel
theorem dX3_remove_38 : decode cX3_remove 38 = .ok (.getfield 11, 3) := by decide +kernel
theorem dX3_remove_41 : decode cX3_remove 41 = .ok (.iload_n 2, 1) := by decide +kernel
theorem dX3_remove_42 : decode cX3_remove 42 = .ok (.aaload, 1) := by decide +kernel
theorem dX3_remove_43 : decode cX3_remove 43 = .ok (.aastore, 1) := by decide +kernel
theorem dX3_remove_44 : decode cX3_remove 44 = .ok (.aload_n 0, 1) := by decide +kernel
theorem dX3_remove_45 : decode cX3_remove 45 = .ok (.getfield 11, 3) := by decide +kernel
theorem dX3_remove_48 : decode cX3_remove 48 = .ok (.iload_n 2, 1) := by decide +kernel
theorem dX3_remove_49 : decode cX3_remove 49 = .ok (.aload_n 3, 1) := by decide +kernel
theorem dX3_remove_50 : decode cX3_remove 50 = .ok (.aastore, 1) := by decide +kernel
theorem dX3_remove_51 : decode cX3_remove 51 = .ok (.aload_n 0, 1) := by decide +kernel
theorem dX3_remove_52 : decode cX3_remove 52 = .ok (.dup, 1) := by decide +kernel
theorem dX3_remove_53 : decode cX3_remove 53 = .ok (.getfield 22, 3) := by decide +kernel
theorem dX3_remove_56 : decode cX3_remove 56 = .ok (.iconst 1, 1) := by decide +kernel
theorem dX3_remove_57 : decode cX3_remove 57 = .ok (.isub, 1) := by decide +kernel
theorem dX3_remove_58 : decode cX3_remove 58 = .ok (.putfield 22, 3) := by decide +kernel
theorem dX3_remove_61 : decode cX3_remove 61 = .ok (.return_, 1) := by decide +kernel
theorem dX3_takeFrom_0 : decode cX3_takeFrom 0 = .ok (.iconst 0, 1) := by decide +kernel
theorem dX3_takeFrom_1 : decode cX3_takeFrom 1 = .ok (.istore_n 2, 1) := by decide +kernel
theorem dX3_takeFrom_2 : decode cX3_takeFrom 2 = .ok (.iload_n 2, 1) := by decide +kernel
theorem dX3_takeFrom_3 : decode cX3_takeFrom 3 = .ok (.aload_n 0, 1) := by decide +kernel
theorem dX3_takeFrom_4 : decode cX3_takeFrom 4 = .ok (.getfield 11, 3) := by decide +kernel
theorem dX3_takeFrom_7 : decode cX3_takeFrom 7 = .ok (.arraylength, 1) := by decide +kernel
theorem dX3_takeFrom_8 : decode cX3_takeFrom 8 = .ok (.if_icmp .ge 22, 3) := by decide +kernel
theorem dX3_takeFrom_11 : decode cX3_takeFrom 11 = .ok (.aload_n 0, 1) := by decide +kernel
theorem dX3_takeFrom_12 : decode cX3_takeFrom 12 = .ok (.iload_n 2, 1) := by decide +kernel
theorem dX3_takeFrom_13 : decode cX3_takeFrom 13 = .ok (.invokevirtual 26, 3) := by decide +kernel
theorem dX3_takeFrom_16 : decode cX3_takeFrom 16 = .ok (.aload_n 1, 1) := by decide +kernel
theorem dX3_takeFrom_17 : decode cX3_takeFrom 17 = .ok (.iload_n 2, 1) := by decide +kernel
theorem dX3_takeFrom_18 : decode cX3_takeFrom 18 = .ok (.invokevirtual 26, 3) := by decide +kernel
theorem dX3_takeFrom_21 : decode cX3_takeFrom 21 = .ok (.invokevirtual 75, 3) := by decide +kernel
theorem dX3_takeFrom_24 : decode cX3_takeFrom 24 = .ok (.iinc 2 1, 3) := by decide +kernel
theorem dX3_takeFrom_27 : decode cX3_takeFrom 27 = .ok (.goto (-25), 3) := by decide +kernel
theorem dX3_takeFrom_30 : decode cX3_takeFrom 30 = .ok (.aload_n 0, 1) := by decide +kernel
theorem dX3_takeFrom_31 : decode cX3_takeFrom 31 = .ok (.aload_n 1, 1) := by decide +kernel
theorem dX3_takeFrom_32 : decode cX3_takeFrom 32 = .ok (.getfield 22, 3) := by decide +kernel
theorem dX3_takeFrom_35 : decode cX3_takeFrom 35 = .ok (.putfield 22, 3) := by decide +kernel
theorem dX3_takeFrom_38 : decode cX3_takeFrom 38 = .ok (.aload_n 0, 1) := by decide +kernel
theorem dX3_takeFrom_39 : decode cX3_takeFrom 39 = .ok (.aload_n 1, 1) := by decide +kernel
theorem dX3_takeFrom_40 : decode cX3_takeFrom 40 = .ok (.getfield 69, 3) := by decide +kernel
theorem dX3_takeFrom_43 : decode cX3_takeFrom 43 = .ok (.putfield 69, 3) := by decide +kernel
theorem dX3_takeFrom_46 : decode cX3_takeFrom 46 = .ok (.aload_n 0, 1) := by decide +kernel
theorem dX3_takeFrom_47 : decode cX3_takeFrom 47 = .ok (.aload_n 1, 1) := by decide +kernel
theorem dX3_takeFrom_48 : decode cX3_takeFrom 48 = .ok (.getfield 62, 3) := by decide +kernel
theorem dX3_takeFrom_51 : decode cX3_takeFrom 51 = .ok (.putfield 62, 3) := by decide +kernel
theorem dX3_takeFrom_54 : decode cX3_takeFrom 54 = .ok (.aload_n 0, 1) := by decide +kernel
theorem dX3_takeFrom_55 : decode cX3_takeFrom 55 = .ok (.aload_n 1, 1) := by decide +kernel
theorem dX3_takeFrom_56 : decode cX3_takeFrom 56 = .ok (.getfield 72, 3) := by decide +kernel
theorem dX3_takeFrom_59 : decode cX3_takeFrom 59 = .ok (.putfield 72, 3) := by decide +kernel
theorem dX3_takeFrom_62 : decode cX3_takeFrom 62 = .ok (.return_, 1) := by decide +kernel
theorem dX4_init_0 : decode cX4_init 0 = .ok (.aload_n 0, 1) := by decide +kernel
theorem dX4_init_1 : decode cX4_init 1 = .ok (.invokespecial 3, 3) := by decide +kernel
theorem dX4_init_4 : decode cX4_init 4 = .ok (.aload_n 0, 1) := by decide +kernel
theorem dX4_init_5 : decode cX4_init 5 = .ok (.new 9, 3) := by decide +kernel
theorem dX4_init_8 : decode cX4_init 8 = .ok (.dup, 1) := by decide +kernel
theorem dX4_init_9 : decode cX4_init 9 = .ok (.invokespecial 11, 3) := by decide +kernel
theorem dX4_init_12 : decode cX4_init 12 = .ok (.putfield 12, 3) := by decide +kernel
theorem dX4_init_15 : decode cX4_init 15 = .ok (.aload_n 0, 1) := by decide +kernel
theorem dX4_init_16 : decode cX4_init 16 = .ok (.new 18, 3) := by decide +kernel
theorem dX4_init_19 : decode cX4_init 19 = .ok (.dup, 1) := by decide +kernel
theorem dX4_init_20 : decode cX4_init 20 = .ok (.invokespecial 20, 3) := by decide +kernel
theorem dX4_init_23 : decode cX4_init 23 = .ok (.putfield 21, 3) := by decide +kernel
theorem dX4_init_26 : decode cX4_init 26 = .ok (.aload_n 0, 1) := by decide +kernel
theorem dX4_init_27 : decode cX4_init 27 = .ok (.bipush 6, 2) := by decide +kernel
theorem dX4_init_29 : decode cX4_init 29 = .ok (.anewarray 25, 3) := by decide +kernel
theorem dX4_init_32 : decode cX4_init 32 = .ok (.putfield 27, 3) := by decide +kernel
theorem dX4_init_35 : decode cX4_init 35 = .ok (.aload_n 0, 1) := by decide +kernel
theorem dX4_init_36 : decode cX4_init 36 = .ok (.new 25, 3) := by decide +kernel
theorem dX4_init_39 : decode cX4_init 39 = .ok (.dup, 1) := by decide +kernel
theorem dX4_init_40 : decode cX4_init 40 = .ok (.invokespecial 31, 3) := by decide +kernel
theorem dX4_init_43 : decode cX4_init 43 = .ok (.putfield 32, 3) := by decide +kernel
theorem dX4_init_46 : decode cX4_init 46 = .ok (.aload_n 0, 1) := by decide +kernel
theorem dX4_init_47 : decode cX4_init 47 = .ok (.new 36, 3) := by decide +kernel
theorem dX4_init_50 : decode cX4_init 50 = .ok (.dup, 1) := by decide +kernel
theorem dX4_init_51 : decode cX4_init 51 = .ok (.invokespecial 38, 3) := by decide +kernel
theorem dX4_init_54 : decode cX4_init 54 = .ok (.putfield 39, 3) := by decide +kernel
theorem dX4_init_57 : decode cX4_init 57 = .ok (.aload_n 0, 1) := by decide +kernel
theorem dX4_init_58 : decode cX4_init 58 = .ok (.new 43, 3) := by decide +kernel
theorem dX4_init_61 : decode cX4_init 61 = .ok (.dup, 1) := by decide +kernel
theorem dX4_init_62 : decode cX4_init 62 = .ok (.invokespecial 45, 3) := by decide +kernel
theorem dX4_init_65 : decode cX4_init 65 = .ok (.putfield 46, 3) := by decide +kernel
theorem dX4_init_68 : decode cX4_init 68 = .ok (.aload_n 0, 1) := by decide +kernel
theorem dX4_init_69 : decode cX4_init 69 = .ok (.iconst 5, 1) := by decide +kernel
theorem dX4_init_70 : decode cX4_init 70 = .ok (.newarray .int, 2) := by decide +kernel
theorem dX4_init_72 : decode cX4_init 72 = .ok (.dup, 1) := by decide +kernel
theorem dX4_init_73 : decode cX4_init 73 = .ok (.iconst 0, 1) := by decide +kernel
theorem dX4_init_74 : decode cX4_init 74 = .ok (.bipush 50, 2) := by decide +kernel
theorem dX4_init_76 : decode cX4_init 76 = .ok (.iastore, 1) := by decide +kernel
theorem dX4_init_77 : decode cX4_init 77 = .ok (.dup, 1) := by decide +kernel
theorem dX4_init_78 : decode cX4_init 78 = .ok (.iconst 1, 1) := by decide +kernel
theorem dX4_init_79 : decode cX4_init 79 = .ok (.sipush 300, 3) := by decide +kernel
theorem dX4_init_82 : decode cX4_init 82 = .ok (.iastore, 1) := by decide +kernel
theorem dX4_init_83 : decode cX4_init 83 = .ok (.dup, 1) := by decide +kernel
theorem dX4_init_84 : decode cX4_init 84 = .ok (.iconst 2, 1) := by decide +kernel
theorem dX4_init_85 : decode cX4_init 85 = .ok (.iconst 4, 1) := by decide +kernel
theorem dX4_init_86 : decode cX4_init 86 = .ok (.iastore, 1) := by decide +kernel
theorem dX4_init_87 : decode cX4_init 87 = .ok (.dup, 1) := by decide +kernel
theorem dX4_init_88 : decode cX4_init 88 = .ok (.iconst 3, 1) := by decide +kernel
theorem dX4_init_89 : decode cX4_init 89 = .ok (.iconst 2, 1) := by decide +kernel
theorem dX4_init_90 : decode cX4_init 90 = .ok (.iastore, 1) := by decide +kernel
theorem dX4_init_91 : decode cX4_init 91 = .ok (.dup, 1) := by decide +kernel
theorem dX4_init_92 : decode cX4_init 92 = .ok (.iconst 4, 1) := by decide +kernel
theorem dX4_init_93 : decode cX4_init 93 = .ok (.iconst 4, 1) := by decide +kernel
theorem dX4_init_94 : decode cX4_init 94 = .ok (.iastore, 1) := by decide +kernel
theorem dX4_init_95 : decode cX4_init 95 = .ok (.putfield 50, 3) := by decide +kernel
theorem dX4_init_98 : decode cX4_init 98 = .ok (.iconst 0, 1) := by decide +kernel
theorem dX4_init_99 : decode cX4_init 99 = .ok (.istore_n 1, 1) := by decide +kernel
theorem dX4_init_100 : decode cX4_init 100 = .ok (.iload_n 1, 1) := by decide +kernel
theorem dX4_init_101 : decode cX4_init 101 = .ok (.aload_n 0, 1) := by decide +kernel
theorem dX4_init_102 : decode cX4_init 102 = .ok (.getfield 27, 3) := by decide +kernel
theorem dX4_init_105 : decode cX4_init 105 = .ok (.arraylength, 1) := by decide +kernel
theorem dX4_init_106 : decode cX4_init 106 = .ok (.if_icmp .ge 22, 3) := by decide +kernel
theorem dX4_init_109 : decode cX4_init 109 = .ok (.aload_n 0, 1) := by decide +kernel
theorem dX4_init_110 : decode cX4_init 110 = .ok (.getfield 27, 3) := by decide +kernel
theorem dX4_init_113 : decode cX4_init 113 = .ok (.iload_n 1, 1) := by decide +kernel
theorem dX4_init_114 : decode cX4_init 114 = .ok (.new 25, 3) := by decide +kernel
theorem dX4_init_117 : decode cX4_init 117 = .ok (.dup, 1) := by decide +kernel
theorem dX4_init_118 : decode cX4_init 118 = .ok (.invokespecial 31, 3) := by decide +kernel
theorem dX4_init_121 : decode cX4_init 121 = .ok (.aastore, 1) := by decide +kernel
theorem dX4_init_122 : decode cX4_init 122 = .ok (.iinc 1 1, 3) := by decide +kernel
theorem dX4_init_125 : decode cX4_init 125 = .ok (.goto (-25), 3) := by decide +kernel
theorem dX4_init_128 : decode cX4_init 128 = .ok (.return_, 1) := by decide +kernel
theorem dX4_isIndexed_0 : decode cX4_isIndexed 0 = .ok (.aload_n 0, 1) := by decide +kernel
theorem dX4_isIndexed_1 : decode cX4_isIndexed 1 = .ok (.getfield 54, 3) := by decide +kernel
theorem dX4_isIndexed_4 : decode cX4_isIndexed 4 = .ok (.iload_n 1, 1) := by decide +kernel
theorem dX4_isIndexed_5 : decode cX4_isIndexed 5 = .ok (.ishr, 1) := by decide +kernel
theorem dX4_isIndexed_6 : decode cX4_isIndexed 6 = .ok (.iconst 1, 1) := by decide +kernel
theorem dX4_isIndexed_7 : decode cX4_isIndexed 7 = .ok (.iand, 1) := by decide +kernel
theorem dX4_isIndexed_8 : decode cX4_isIndexed 8 = .ok (.iconst 1, 1) := by decide +kernel
theorem dX4_isIndexed_9 : decode cX4_isIndexed 9 = .ok (.if_icmp .ne 7, 3) := by decide +kernel
theorem dX4_isIndexed_12 : decode cX4_isIndexed 12 = .ok (.iconst 1, 1) := by decide +kernel
theorem dX4_isIndexed_13 : decode cX4_isIndexed 13 = .ok (.goto 4, 3) := by decide +kernel
theorem dX4_isIndexed_16 : decode cX4_isIndexed 16 = .ok (.iconst 0, 1) := by decide +kernel
theorem dX4_isIndexed_17 : decode cX4_isIndexed 17 = .ok (.ireturn, 1) := by decide +kernel
theorem dX4_flipIndex_0 : decode cX4_flipIndex 0 = .ok (.aload_n 0, 1) := by decide +kernel
theorem dX4_flipIndex_1 : decode cX4_flipIndex 1 = .ok (.dup, 1) := by decide +kernel
theorem dX4_flipIndex_2 : decode cX4_flipIndex 2 = .ok (.getfield 54, 3) := by decide +kernel
theorem dX4_flipIndex_5 : decode cX4_flipIndex 5 = .ok (.iconst 1, 1) := by decide +kernel
theorem dX4_flipIndex_6 : decode cX4_flipIndex 6 = .ok (.iload_n 1, 1) := by decide +kernel
theorem dX4_flipIndex_7 : decode cX4_flipIndex 7 = .ok (.ishl, 1) := by decide +kernel
theorem dX4_flipIndex_8 : decode cX4_flipIndex 8 = .ok (.ixor, 1) := by decide +kernel
theorem dX4_flipIndex_9 : decode cX4_flipIndex 9 = .ok (.putfield 54, 3) := by decide +kernel
theorem dX4_flipIndex_12 : decode cX4_flipIndex 12 = .ok (.return_, 1) := by decide +kernel
theorem dX4_throwAwayPlansBy_0 : decode cX4_throwAwayPlansBy 0 = .ok (.aload_n 0, 1) := by decide +kernel
theorem dX4_throwAwayPlansBy_1 : decode cX4_throwAwayPlansBy 1 = .ok (.getfield 39, 3) := by decide +kernel
theorem dX4_throwAwayPlansBy_4 : decode cX4_throwAwayPlansBy 4 = .ok (.getfield 58, 3) := by decide +kernel
theorem dX4_throwAwayPlansBy_7 : decode cX4_throwAwayPlansBy 7 = .ok (.istore_n 2, 1) := by decide +kernel
theorem dX4_throwAwayPlansBy_8 : decode cX4_throwAwayPlansBy 8 = .ok (.iload_n 2, 1) := by decide +kernel
theorem dX4_throwAwayPlansBy_9 : decode cX4_throwAwayPlansBy 9 = .ok (.iconst 1, 1) := by decide +kernel
theorem dX4_throwAwayPlansBy_10 : decode cX4_throwAwayPlansBy 10 = .ok (.isub, 1) := by decide +kernel
theorem dX4_throwAwayPlansBy_11 : decode cX4_throwAwayPlansBy 11 = .ok (.istore_n 3, 1) := by decide +kernel
theorem dX4_throwAwayPlansBy_12 : decode cX4_throwAwayPlansBy 12 = .ok (.iload_n 3, 1) := by decide +kernel
theorem dX4_throwAwayPlansBy_13 : decode cX4_throwAwayPlansBy 13 = .ok (.ifCond .lt 58, 3) := by decide +kernel
theorem dX4_throwAwayPlansBy_16 : decode cX4_throwAwayPlansBy 16 = .ok (.aload_n 0, 1) := by decide +kernel
theorem dX4_throwAwayPlansBy_17 : decode cX4_throwAwayPlansBy 17 = .ok (.getfield 39, 3) := by decide +kernel
theorem dX4_throwAwayPlansBy_20 : decode cX4_throwAwayPlansBy 20 = .ok (.iload_n 3, 1) := by decide +kernel
theorem dX4_throwAwayPlansBy_21 : decode cX4_throwAwayPlansBy 21 = .ok (.invokevirtual 61, 3) := by decide +kernel
theorem dX4_throwAwayPlansBy_24 : decode cX4_throwAwayPlansBy 24 = .ok (.astore 4, 2) := by decide +kernel
theorem dX4_throwAwayPlansBy_26 : decode cX4_throwAwayPlansBy 26 = .ok (.aload 4, 2) := by decide +kernel
theorem dX4_throwAwayPlansBy_28 : decode cX4_throwAwayPlansBy 28 = .ok (.getfield 65, 3) := by decide +kernel
theorem dX4_throwAwayPlansBy_31 : decode cX4_throwAwayPlansBy 31 = .ok (.bipush 9, 2) := by decide +kernel
theorem dX4_throwAwayPlansBy_33 : decode cX4_throwAwayPlansBy 33 = .ok (.if_icmp .eq 32, 3) := by decide +kernel
theorem dX4_throwAwayPlansBy_36 : decode cX4_throwAwayPlansBy 36 = .ok (.aload_n 0, 1) := by decide +kernel
theorem dX4_throwAwayPlansBy_37 : decode cX4_throwAwayPlansBy 37 = .ok (.aload 4, 2) := by decide +kernel
theorem dX4_throwAwayPlansBy_39 : decode cX4_throwAwayPlansBy 39 = .ok (.getfield 70, 3) := by decide +kernel
theorem dX4_throwAwayPlansBy_42 : decode cX4_throwAwayPlansBy 42 = .ok (.invokevirtual 73, 3) := by decide +kernel
theorem dX4_throwAwayPlansBy_45 : decode cX4_throwAwayPlansBy 45 = .ok (.aload 4, 2) := by decide +kernel
theorem dX4_throwAwayPlansBy_47 : decode cX4_throwAwayPlansBy 47 = .ok (.getfield 65, 3) := by decide +kernel
theorem dX4_throwAwayPlansBy_50 : decode cX4_throwAwayPlansBy 50 = .ok (.invokevirtual 77, 3) := by decide +kernel
theorem dX4_throwAwayPlansBy_53 : decode cX4_throwAwayPlansBy 53 = .ok (.iload_n 1, 1) := by decide +kernel
theorem dX4_throwAwayPlansBy_54 : decode cX4_throwAwayPlansBy 54 = .ok (.if_icmp .ne 11, 3) := by decide +kernel
theorem dX4_throwAwayPlansBy_57 : decode cX4_throwAwayPlansBy 57 = .ok (.aload_n 0, 1) := by decide +kernel
theorem dX4_throwAwayPlansBy_58 : decode cX4_throwAwayPlansBy 58 = .ok (.getfield 39, 3) := by decide +kernel
theorem dX4_throwAwayPlansBy_61 : decode cX4_throwAwayPlansBy 61 = .ok (.iload_n 3, 1) := by decide +kernel
theorem dX4_throwAwayPlansBy_62 : decode cX4_throwAwayPlansBy 62 = .ok (.invokevirtual 81, 3) := by decide +kernel
theorem dX4_throwAwayPlansBy_65 : decode cX4_throwAwayPlansBy 65 = .ok (.iinc 3 (-1), 3) := by decide +kernel
theorem dX4_throwAwayPlansBy_68 : decode cX4_throwAwayPlansBy 68 = .ok (.goto (-56), 3) := by decide +kernel
theorem dX4_throwAwayPlansBy_71 : decode cX4_throwAwayPlansBy 71 = .ok (.iload_n 2, 1) := by decide +kernel
theorem dX4_throwAwayPlansBy_72 : decode cX4_throwAwayPlansBy 72 = .ok (.aload_n 0, 1) := by decide +kernel
theorem dX4_throwAwayPlansBy_73 : decode cX4_throwAwayPlansBy 73 = .ok (.getfield 39, 3) := by decide +kernel
theorem dX4_throwAwayPlansBy_76 : decode cX4_throwAwayPlansBy 76 = .ok (.getfield 58, 3) := by decide +kernel
theorem dX4_throwAwayPlansBy_79 : decode cX4_throwAwayPlansBy 79 = .ok (.isub, 1) := by decide +kernel
theorem dX4_throwAwayPlansBy_80 : decode cX4_throwAwayPlansBy 80 = .ok (.ireturn, 1) := by decide +kernel
theorem dX4_changeSetting_0 : decode cX4_changeSetting 0 = .ok (.aload_n 0, 1) := by decide +kernel
theorem dX4_changeSetting_1 : decode cX4_changeSetting 1 = .ok (.getfield 50, 3) := by decide +kernel
theorem dX4_changeSetting_4 : decode cX4_changeSetting 4 = .ok (.iload_n 1, 1) := by decide +kernel
theorem dX4_changeSetting_5 : decode cX4_changeSetting 5 = .ok (.invokestatic 85, 3) := by decide +kernel
theorem dX4_changeSetting_8 : decode cX4_changeSetting 8 = .ok (.istore_n 3, 1) := by decide +kernel
theorem dX4_changeSetting_9 : decode cX4_changeSetting 9 = .ok (.iload_n 1, 1) := by decide +kernel
theorem dX4_changeSetting_10 : decode cX4_changeSetting 10 = .ok (.ifCond .lt 19, 3) := by decide +kernel
theorem dX4_changeSetting_13 : decode cX4_changeSetting 13 = .ok (.iload_n 1, 1) := by decide +kernel
theorem dX4_changeSetting_14 : decode cX4_changeSetting 14 = .ok (.aload_n 0, 1) := by decide +kernel
theorem dX4_changeSetting_15 : decode cX4_changeSetting 15 = .ok (.getfield 50, 3) := by decide +kernel
theorem dX4_changeSetting_18 : decode cX4_changeSetting 18 = .ok (.arraylength, 1) := by decide +kernel
theorem dX4_changeSetting_19 : decode cX4_changeSetting 19 = .ok (.if_icmp .ge 10, 3) := by decide +kernel
theorem dX4_changeSetting_22 : decode cX4_changeSetting 22 = .ok (.aload_n 0, 1) := by decide +kernel
theorem dX4_changeSetting_23 : decode cX4_changeSetting 23 = .ok (.getfield 50, 3) := by decide +kernel
theorem dX4_changeSetting_26 : decode cX4_changeSetting 26 = .ok (.iload_n 1, 1) := by decide +kernel
theorem dX4_changeSetting_27 : decode cX4_changeSetting 27 = .ok (.iload_n 2, 1) := by decide +kernel
theorem dX4_changeSetting_28 : decode cX4_changeSetting 28 = .ok (.iastore, 1) := by decide +kernel
theorem dX4_changeSetting_29 : decode cX4_changeSetting 29 = .ok (.iload_n 3, 1) := by decide +kernel
theorem dX4_changeSetting_30 : decode cX4_changeSetting 30 = .ok (.ireturn, 1) := by decide +kernel
theorem dX4_hasStatement_0 : decode cX4_hasStatement 0 = .ok (.iload_n 1, 1) := by decide +kernel
theorem dX4_hasStatement_1 : decode cX4_hasStatement 1 = .ok (.ifCond .lt 15, 3) := by decide +kernel
theorem dX4_hasStatement_4 : decode cX4_hasStatement 4 = .ok (.iload_n 1, 1) := by decide +kernel
theorem dX4_hasStatement_5 : decode cX4_hasStatement 5 = .ok (.aload_n 0, 1) := by decide +kernel
theorem dX4_hasStatement_6 : decode cX4_hasStatement 6 = .ok (.getfield 89, 3) := by decide +kernel
theorem dX4_hasStatement_9 : decode cX4_hasStatement 9 = .ok (.if_icmp .ge 7, 3) := by decide +kernel
theorem dX4_hasStatement_12 : decode cX4_hasStatement 12 = .ok (.iconst 1, 1) := by decide +kernel
theorem dX4_hasStatement_13 : decode cX4_hasStatement 13 = .ok (.goto 4, 3) := by decide +kernel
theorem dX4_hasStatement_16 : decode cX4_hasStatement 16 = .ok (.iconst 0, 1) := by decide +kernel
theorem dX4_hasStatement_17 : decode cX4_hasStatement 17 = .ok (.ireturn, 1) := by decide +kernel
theorem dX4_statementAt_0 : decode cX4_statementAt 0 = .ok (.iload_n 1, 1) := by decide +kernel
theorem dX4_statementAt_1 : decode cX4_statementAt 1 = .ok (.ifCond .lt 12, 3) := by decide +kernel
theorem dX4_statementAt_4 : decode cX4_statementAt 4 = .ok (.iload_n 1, 1) := by decide +kernel
theorem dX4_statementAt_5 : decode cX4_statementAt 5 = .ok (.aload_n 0, 1) := by decide +kernel
theorem dX4_statementAt_6 : decode cX4_statementAt 6 = .ok (.getfield 27, 3) := by decide +kernel
theorem dX4_statementAt_9 : decode cX4_statementAt 9 = .ok (.arraylength, 1) := by decide +kernel
theorem dX4_statementAt_10 : decode cX4_statementAt 10 = .ok (.if_icmp .lt 8, 3) := by decide +kernel
theorem dX4_statementAt_13 : decode cX4_statementAt 13 = .ok (.aload_n 0, 1) := by decide +kernel
theorem dX4_statementAt_14 : decode cX4_statementAt 14 = .ok (.getfield 32, 3) := by decide +kernel
theorem dX4_statementAt_17 : decode cX4_statementAt 17 = .ok (.areturn, 1) := by decide +kernel
theorem dX4_statementAt_18 : decode cX4_statementAt 18 = .ok (.aload_n 0, 1) := by decide +kernel
theorem dX4_statementAt_19 : decode cX4_statementAt 19 = .ok (.getfield 27, 3) := by decide +kernel
theorem dX4_statementAt_22 : decode cX4_statementAt 22 = .ok (.iload_n 1, 1) := by decide +kernel
theorem dX4_statementAt_23 : decode cX4_statementAt 23 = .ok (.aaload, 1) := by decide +kernel
theorem dX4_statementAt_24 : decode cX4_statementAt 24 = .ok (.astore_n 2, 1) := by decide +kernel
theorem dX4_statementAt_25 : decode cX4_statementAt 25 = .ok (.aload_n 2, 1) := by decide +kernel
theorem dX4_statementAt_26 : decode cX4_statementAt 26 = .ok (.ifnonnull 10, 3) := by decide +kernel
theorem dX4_statementAt_29 : decode cX4_statementAt 29 = .ok (.aload_n 0, 1) := by decide +kernel
theorem dX4_statementAt_30 : decode cX4_statementAt 30 = .ok (.getfield 32, 3) := by decide +kernel
theorem dX4_statementAt_33 : decode cX4_statementAt 33 = .ok (.goto 4, 3) := by decide +kernel
theorem dX4_statementAt_36 : decode cX4_statementAt 36 = .ok (.aload_n 2, 1) := by decide +kernel
theorem dX4_statementAt_37 : decode cX4_statementAt 37 = .ok (.areturn, 1) := by decide +kernel
theorem dX4_statementWith_0 : decode cX4_statementWith 0 = .ok (.iconst 0, 1) := by decide +kernel
theorem dX4_statementWith_1 : decode cX4_statementWith 1 = .ok (.istore_n 2, 1) := by decide +kernel
theorem dX4_statementWith_2 : decode cX4_statementWith 2 = .ok (.iload_n 2, 1) := by decide +kernel
theorem dX4_statementWith_3 : decode cX4_statementWith 3 = .ok (.aload_n 0, 1) := by decide +kernel
theorem dX4_statementWith_4 : decode cX4_statementWith 4 = .ok (.getfield 89, 3) := by decide +kernel
theorem dX4_statementWith_7 : decode cX4_statementWith 7 = .ok (.if_icmp .ge 23, 3) := by decide +kernel
theorem dX4_statementWith_10 : decode cX4_statementWith 10 = .ok (.aload_n 0, 1) := by decide +kernel
theorem dX4_statementWith_11 : decode cX4_statementWith 11 = .ok (.iload_n 2, 1) := by decide +kernel
theorem dX4_statementWith_12 : decode cX4_statementWith 12 = .ok (.invokevirtual 73, 3) := by decide +kernel
theorem dX4_statementWith_15 : decode cX4_statementWith 15 = .ok (.aload_n 1, 1) := by decide +kernel
theorem dX4_statementWith_16 : decode cX4_statementWith 16 = .ok (.invokevirtual 92, 3) := by decide +kernel
theorem dX4_statementWith_19 : decode cX4_statementWith 19 = .ok (.ifCond .eq 5, 3) := by decide +kernel
theorem dX4_statementWith_22 : decode cX4_statementWith 22 = .ok (.iload_n 2, 1) := by decide +kernel
theorem dX4_statementWith_23 : decode cX4_statementWith 23 = .ok (.ireturn, 1) := by decide +kernel
theorem dX4_statementWith_24 : decode cX4_statementWith 24 = .ok (.iinc 2 1, 3) := by decide +kernel
theorem dX4_statementWith_27 : decode cX4_statementWith 27 = .ok (.goto (-25), 3) := by decide +kernel
theorem dX4_statementWith_30 : decode cX4_statementWith 30 = .ok (.iconst (-1), 1) := by decide +kernel
theorem dX4_statementWith_31 : decode cX4_statementWith 31 = .ok (.ireturn, 1) := by decide +kernel
theorem dX4_addStatement_0 : decode cX4_addStatement 0 = .ok (.aload_n 0, 1) := by decide +kernel
theorem dX4_addStatement_1 : decode cX4_addStatement 1 = .ok (.aload_n 0, 1) := by decide +kernel
theorem dX4_addStatement_2 : decode cX4_addStatement 2 = .ok (.getfield 89, 3) := by decide +kernel
theorem dX4_addStatement_5 : decode cX4_addStatement 5 = .ok (.invokevirtual 73, 3) := by decide +kernel
theorem dX4_addStatement_8 : decode cX4_addStatement 8 = .ok (.aload_n 1, 1) := by decide +kernel
theorem dX4_addStatement_9 : decode cX4_addStatement 9 = .ok (.invokevirtual 96, 3) := by decide +kernel
theorem dX4_addStatement_12 : decode cX4_addStatement 12 = .ok (.aload_n 0, 1) := by decide +kernel
theorem dX4_addStatement_13 : decode cX4_addStatement 13 = .ok (.dup, 1) := by decide +kernel
theorem dX4_addStatement_14 : decode cX4_addStatement 14 = .ok (.getfield 89, 3) := by decide +kernel
theorem dX4_addStatement_17 : decode cX4_addStatement 17 = .ok (.iconst 1, 1) := by decide +kernel
theorem dX4_addStatement_18 : decode cX4_addStatement 18 = .ok (.iadd, 1) := by decide +kernel
theorem dX4_addStatement_19 : decode cX4_addStatement 19 = .ok (.putfield 89, 3) := by decide +kernel
theorem dX4_addStatement_22 : decode cX4_addStatement 22 = .ok (.aload_n 0, 1) := by decide +kernel
theorem dX4_addStatement_23 : decode cX4_addStatement 23 = .ok (.getfield 89, 3) := by decide +kernel
theorem dX4_addStatement_26 : decode cX4_addStatement 26 = .ok (.iconst 1, 1) := by decide +kernel
theorem dX4_addStatement_27 : decode cX4_addStatement 27 = .ok (.isub, 1) := by decide +kernel
theorem dX4_addStatement_28 : decode cX4_addStatement 28 = .ok (.ireturn, 1) := by decide +kernel
theorem dX4_classWith_0 : decode cX4_classWith 0 = .ok (.iconst 0, 1) := by decide +kernel
theorem dX4_classWith_1 : decode cX4_classWith 1 = .ok (.istore_n 3, 1) := by decide +kernel
theorem dX4_classWith_2 : decode cX4_classWith 2 = .ok (.iconst 1, 1) := by decide +kernel
theorem dX4_classWith_3 : decode cX4_classWith 3 = .ok (.istore 4, 2) := by decide +kernel
theorem dX4_classWith_5 : decode cX4_classWith 5 = .ok (.iconst 0, 1) := by decide +kernel
theorem dX4_classWith_6 : decode cX4_classWith 6 = .ok (.istore 5, 2) := by decide +kernel
theorem dX4_classWith_8 : decode cX4_classWith 8 = .ok (.iload 5, 2) := by decide +kernel
theorem dX4_classWith_10 : decode cX4_classWith 10 = .ok (.aload_n 1, 1) := by decide +kernel
theorem dX4_classWith_11 : decode cX4_classWith 11 = .ok (.getfield 100, 3) := by decide +kernel
theorem dX4_classWith_14 : decode cX4_classWith 14 = .ok (.if_icmp .ge 80, 3) := by decide +kernel
theorem dX4_classWith_17 : decode cX4_classWith 17 = .ok (.aload_n 0, 1) := by decide +kernel
theorem dX4_classWith_18 : decode cX4_classWith 18 = .ok (.getfield 21, 3) := by decide +kernel
theorem dX4_classWith_21 : decode cX4_classWith 21 = .ok (.aload_n 1, 1) := by decide +kernel
theorem dX4_classWith_22 : decode cX4_classWith 22 = .ok (.iload 5, 2) := by decide +kernel
theorem dX4_classWith_24 : decode cX4_classWith 24 = .ok (.invokevirtual 77, 3) := by decide +kernel
theorem dX4_classWith_27 : decode cX4_classWith 27 = .ok (.aload_n 1, 1) := by decide +kernel
theorem dX4_classWith_28 : decode cX4_classWith 28 = .ok (.iload 5, 2) := by decide +kernel
theorem dX4_classWith_30 : decode cX4_classWith 30 = .ok (.invokevirtual 103, 3) := by decide +kernel
theorem dX4_classWith_33 : decode cX4_classWith 33 = .ok (.aload_n 2, 1) := by decide +kernel
theorem dX4_classWith_34 : decode cX4_classWith 34 = .ok (.iload 5, 2) := by decide +kernel
theorem dX4_classWith_36 : decode cX4_classWith 36 = .ok (.invokestatic 85, 3) := by decide +kernel
theorem dX4_classWith_39 : decode cX4_classWith 39 = .ok (.invokevirtual 106, 3) := by decide +kernel
theorem dX4_classWith_42 : decode cX4_classWith 42 = .ok (.istore 6, 2) := by decide +kernel
theorem dX4_classWith_44 : decode cX4_classWith 44 = .ok (.iload_n 3, 1) := by decide +kernel
theorem dX4_classWith_45 : decode cX4_classWith 45 = .ok (.iload 4, 2) := by decide +kernel
theorem dX4_classWith_47 : decode cX4_classWith 47 = .ok (.aload_n 0, 1) := by decide +kernel
theorem dX4_classWith_48 : decode cX4_classWith 48 = .ok (.aload_n 0, 1) := by decide +kernel
theorem dX4_classWith_49 : decode cX4_classWith 49 = .ok (.getfield 21, 3) := by decide +kernel
theorem dX4_classWith_52 : decode cX4_classWith 52 = .ok (.getfield 110, 3) := by decide +kernel
theorem dX4_classWith_55 : decode cX4_classWith 55 = .ok (.ifCond .ne 7, 3) := by decide +kernel
theorem dX4_classWith_58 : decode cX4_classWith 58 = .ok (.iconst 0, 1) := by decide +kernel
theorem dX4_classWith_59 : decode cX4_classWith 59 = .ok (.goto 17, 3) := by decide +kernel
theorem dX4_classWith_62 : decode cX4_classWith 62 = .ok (.sipush 1000, 3) := by decide +kernel
theorem dX4_classWith_65 : decode cX4_classWith 65 = .ok (.iload 6, 2) := by decide +kernel
theorem dX4_classWith_67 : decode cX4_classWith 67 = .ok (.imul, 1) := by decide +kernel
theorem dX4_classWith_68 : decode cX4_classWith 68 = .ok (.aload_n 0, 1) := by decide +kernel
theorem dX4_classWith_69 : decode cX4_classWith 69 = .ok (.getfield 21, 3) := by decide +kernel
theorem dX4_classWith_72 : decode cX4_classWith 72 = .ok (.getfield 110, 3) := by decide +kernel
theorem dX4_classWith_75 : decode cX4_classWith 75 = .ok (.idiv, 1) := by decide +kernel
theorem dX4_classWith_76 : decode cX4_classWith 76 = .ok (.invokevirtual 113, 3) := by decide +kernel
theorem dX4_classWith_79 : decode cX4_classWith 79 = .ok (.imul, 1) := by decide +kernel
theorem dX4_classWith_80 : decode cX4_classWith 80 = .ok (.iadd, 1) := by decide +kernel
theorem dX4_classWith_81 : decode cX4_classWith 81 = .ok (.istore_n 3, 1) := by decide +kernel
theorem dX4_classWith_82 : decode cX4_classWith 82 = .ok (.iload 4, 2) := by decide +kernel
theorem dX4_classWith_84 : decode cX4_classWith 84 = .ok (.iconst 3, 1) := by decide +kernel
theorem dX4_classWith_85 : decode cX4_classWith 85 = .ok (.imul, 1) := by decide +kernel
theorem dX4_classWith_86 : decode cX4_classWith 86 = .ok (.istore 4, 2) := by decide +kernel
theorem dX4_classWith_88 : decode cX4_classWith 88 = .ok (.iinc 5 1, 3) := by decide +kernel
theorem dX4_classWith_91 : decode cX4_classWith 91 = .ok (.goto (-83), 3) := by decide +kernel
theorem dX4_classWith_94 : decode cX4_classWith 94 = .ok (.iload_n 3, 1) := by decide +kernel
theorem dX4_classWith_95 : decode cX4_classWith 95 = .ok (.ireturn, 1) := by decide +kernel
theorem dX4_classOfShare_0 : decode cX4_classOfShare 0 = .ok (.iload_n 1, 1) := by decide +kernel
theorem dX4_classOfShare_1 : decode cX4_classOfShare 1 = .ok (.aload_n 0, 1) := by decide +kernel
theorem dX4_classOfShare_2 : decode cX4_classOfShare 2 = .ok (.getfield 50, 3) := by decide +kernel
theorem dX4_classOfShare_5 : decode cX4_classOfShare 5 = .ok (.iconst 0, 1) := by decide +kernel
theorem dX4_classOfShare_6 : decode cX4_classOfShare 6 = .ok (.iaload, 1) := by decide +kernel
theorem dX4_classOfShare_7 : decode cX4_classOfShare 7 = .ok (.if_icmp .ge 5, 3) := by decide +kernel
theorem dX4_classOfShare_10 : decode cX4_classOfShare 10 = .ok (.iconst 0, 1) := by decide +kernel
theorem dX4_classOfShare_11 : decode cX4_classOfShare 11 = .ok (.ireturn, 1) := by decide +kernel
theorem dX4_classOfShare_12 : decode cX4_classOfShare 12 = .ok (.iload_n 1, 1) := by decide +kernel
theorem dX4_classOfShare_13 : decode cX4_classOfShare 13 = .ok (.aload_n 0, 1) := by decide +kernel
theorem dX4_classOfShare_14 : decode cX4_classOfShare 14 = .ok (.getfield 50, 3) := by decide +kernel
theorem dX4_classOfShare_17 : decode cX4_classOfShare 17 = .ok (.iconst 1, 1) := by decide +kernel
theorem dX4_classOfShare_18 : decode cX4_classOfShare 18 = .ok (.iaload, 1) := by decide +kernel
theorem dX4_classOfShare_19 : decode cX4_classOfShare 19 = .ok (.if_icmp .ge 7, 3) := by decide +kernel
theorem dX4_classOfShare_22 : decode cX4_classOfShare 22 = .ok (.iconst 1, 1) := by decide +kernel
theorem dX4_classOfShare_23 : decode cX4_classOfShare 23 = .ok (.goto 4, 3) := by decide +kernel
theorem dX4_classOfShare_26 : decode cX4_classOfShare 26 = .ok (.iconst 2, 1) := by decide +kernel
theorem dX4_classOfShare_27 : decode cX4_classOfShare 27 = .ok (.ireturn, 1) := by decide +kernel
theorem dX4_bestWay_0 : decode cX4_bestWay 0 = .ok (.bipush 9, 2) := by decide +kernel
theorem dX4_bestWay_2 : decode cX4_bestWay 2 = .ok (.istore 4, 2) := by decide +kernel
theorem dX4_bestWay_4 : decode cX4_bestWay 4 = .ok (.iconst 0, 1) := by decide +kernel
theorem dX4_bestWay_5 : decode cX4_bestWay 5 = .ok (.istore 5, 2) := by decide +kernel
theorem dX4_bestWay_7 : decode cX4_bestWay 7 = .ok (.iconst 0, 1) := by decide +kernel
theorem dX4_bestWay_8 : decode cX4_bestWay 8 = .ok (.istore 6, 2) := by decide +kernel
theorem dX4_bestWay_10 : decode cX4_bestWay 10 = .ok (.iload 6, 2) := by decide +kernel
theorem dX4_bestWay_12 : decode cX4_bestWay 12 = .ok (.aload_n 2, 1) := by decide +kernel
theorem dX4_bestWay_13 : decode cX4_bestWay 13 = .ok (.getfield 100, 3) := by decide +kernel
theorem dX4_bestWay_16 : decode cX4_bestWay 16 = .ok (.if_icmp .ge 54, 3) := by decide +kernel
theorem dX4_bestWay_19 : decode cX4_bestWay 19 = .ok (.aload_n 0, 1) := by decide +kernel
theorem dX4_bestWay_20 : decode cX4_bestWay 20 = .ok (.aload_n 2, 1) := by decide +kernel
theorem dX4_bestWay_21 : decode cX4_bestWay 21 = .ok (.iload 6, 2) := by decide +kernel
theorem dX4_bestWay_23 : decode cX4_bestWay 23 = .ok (.invokevirtual 77, 3) := by decide +kernel
theorem dX4_bestWay_26 : decode cX4_bestWay 26 = .ok (.invokevirtual 116, 3) := by decide +kernel
theorem dX4_bestWay_29 : decode cX4_bestWay 29 = .ok (.ifCond .eq 35, 3) := by decide +kernel
theorem dX4_bestWay_32 : decode cX4_bestWay 32 = .ok (.aload_n 1, 1) := by decide +kernel
theorem dX4_bestWay_33 : decode cX4_bestWay 33 = .ok (.aload_n 2, 1) := by decide +kernel
theorem dX4_bestWay_34 : decode cX4_bestWay 34 = .ok (.aload_n 3, 1) := by decide +kernel
theorem dX4_bestWay_35 : decode cX4_bestWay 35 = .ok (.iload 6, 2) := by decide +kernel
theorem dX4_bestWay_37 : decode cX4_bestWay 37 = .ok (.invokestatic 120, 3) := by decide +kernel
theorem dX4_bestWay_40 : decode cX4_bestWay 40 = .ok (.istore 7, 2) := by decide +kernel
theorem dX4_bestWay_42 : decode cX4_bestWay 42 = .ok (.iload 4, 2) := by decide +kernel
theorem dX4_bestWay_44 : decode cX4_bestWay 44 = .ok (.bipush 9, 2) := by decide +kernel
theorem dX4_bestWay_46 : decode cX4_bestWay 46 = .ok (.if_icmp .eq 10, 3) := by decide +kernel
theorem dX4_bestWay_49 : decode cX4_bestWay 49 = .ok (.iload 7, 2) := by decide +kernel
theorem dX4_bestWay_51 : decode cX4_bestWay 51 = .ok (.iload 5, 2) := by decide +kernel
theorem dX4_bestWay_53 : decode cX4_bestWay 53 = .ok (.if_icmp .ge 11, 3) := by decide +kernel
theorem dX4_bestWay_56 : decode cX4_bestWay 56 = .ok (.iload 6, 2) := by decide +kernel
theorem dX4_bestWay_58 : decode cX4_bestWay 58 = .ok (.istore 4, 2) := by decide +kernel
theorem dX4_bestWay_60 : decode cX4_bestWay 60 = .ok (.iload 7, 2) := by decide +kernel
theorem dX4_bestWay_62 : decode cX4_bestWay 62 = .ok (.istore 5, 2) := by decide +kernel
theorem dX4_bestWay_64 : decode cX4_bestWay 64 = .ok (.iinc 6 1, 3) := by decide +kernel
theorem dX4_bestWay_67 : decode cX4_bestWay 67 = .ok (.goto (-57), 3) := by decide +kernel
theorem dX4_bestWay_70 : decode cX4_bestWay 70 = .ok (.aload_n 1, 1) := by decide +kernel
theorem dX4_bestWay_71 : decode cX4_bestWay 71 = .ok (.getfield 110, 3) := by decide +kernel
theorem dX4_bestWay_74 : decode cX4_bestWay 74 = .ok (.iload 5, 2) := by decide +kernel
theorem dX4_bestWay_76 : decode cX4_bestWay 76 = .ok (.if_icmp .ge 8, 3) := by decide +kernel
theorem dX4_bestWay_79 : decode cX4_bestWay 79 = .ok (.bipush 9, 2) := by decide +kernel
theorem dX4_bestWay_81 : decode cX4_bestWay 81 = .ok (.goto 5, 3) := by decide +kernel
theorem dX4_bestWay_84 : decode cX4_bestWay 84 = .ok (.iload 4, 2) := by decide +kernel
theorem dX4_bestWay_86 : decode cX4_bestWay 86 = .ok (.ireturn, 1) := by decide +kernel
theorem dX4_execute_0 : decode cX4_execute 0 = .ok (.aload_n 0, 1) := by decide +kernel
theorem dX4_execute_1 : decode cX4_execute 1 = .ok (.iload_n 1, 1) := by decide +kernel
theorem dX4_execute_2 : decode cX4_execute 2 = .ok (.invokevirtual 73, 3) := by decide +kernel
theorem dX4_execute_5 : decode cX4_execute 5 = .ok (.astore_n 3, 1) := by decide +kernel
theorem dX4_execute_6 : decode cX4_execute 6 = .ok (.aload_n 0, 1) := by decide +kernel
theorem dX4_execute_7 : decode cX4_execute 7 = .ok (.dup, 1) := by decide +kernel
theorem dX4_execute_8 : decode cX4_execute 8 = .ok (.getfield 124, 3) := by decide +kernel
theorem dX4_execute_11 : decode cX4_execute 11 = .ok (.iconst 1, 1) := by decide +kernel
theorem dX4_execute_12 : decode cX4_execute 12 = .ok (.iadd, 1) := by decide +kernel
theorem dX4_execute_13 : decode cX4_execute 13 = .ok (.putfield 124, 3) := by decide +kernel
theorem dX4_execute_16 : decode cX4_execute 16 = .ok (.aload_n 3, 1) := by decide +kernel
theorem dX4_execute_17 : decode cX4_execute 17 = .ok (.dup, 1) := by decide +kernel
theorem dX4_execute_18 : decode cX4_execute 18 = .ok (.getfield 127, 3) := by decide +kernel
theorem dX4_execute_21 : decode cX4_execute 21 = .ok (.iconst 1, 1) := by decide +kernel
theorem dX4_execute_22 : decode cX4_execute 22 = .ok (.iadd, 1) := by decide +kernel
theorem dX4_execute_23 : decode cX4_execute 23 = .ok (.putfield 127, 3) := by decide +kernel
theorem dX4_execute_26 : decode cX4_execute 26 = .ok (.aload_n 0, 1) := by decide +kernel
theorem dX4_execute_27 : decode cX4_execute 27 = .ok (.getfield 46, 3) := by decide +kernel
theorem dX4_execute_30 : decode cX4_execute 30 = .ok (.iload_n 1, 1) := by decide +kernel
theorem dX4_execute_31 : decode cX4_execute 31 = .ok (.aload_n 2, 1) := by decide +kernel
theorem dX4_execute_32 : decode cX4_execute 32 = .ok (.aload_n 0, 1) := by decide +kernel
theorem dX4_execute_33 : decode cX4_execute 33 = .ok (.aload_n 3, 1) := by decide +kernel
theorem dX4_execute_34 : decode cX4_execute 34 = .ok (.aload_n 2, 1) := by decide +kernel
theorem dX4_execute_35 : decode cX4_execute 35 = .ok (.invokevirtual 128, 3) := by decide +kernel
theorem dX4_execute_38 : decode cX4_execute 38 = .ok (.invokevirtual 132, 3) := by decide +kernel
theorem dX4_execute_41 : decode cX4_execute 41 = .ok (.aload_n 0, 1) := by decide +kernel
theorem dX4_execute_42 : decode cX4_execute 42 = .ok (.aload_n 0, 1) := by decide +kernel
theorem dX4_execute_43 : decode cX4_execute 43 = .ok (.aload_n 3, 1) := by decide +kernel
theorem dX4_execute_44 : decode cX4_execute 44 = .ok (.aload_n 2, 1) := by decide +kernel
theorem dX4_execute_45 : decode cX4_execute 45 = .ok (.invokevirtual 136, 3) := by decide +kernel
theorem dX4_execute_48 : decode cX4_execute 48 = .ok (.aload_n 3, 1) := by decide +kernel
theorem dX4_execute_49 : decode cX4_execute 49 = .ok (.aload_n 2, 1) := by decide +kernel
theorem dX4_execute_50 : decode cX4_execute 50 = .ok (.invokevirtual 140, 3) := by decide +kernel
theorem dX4_execute_53 : decode cX4_execute 53 = .ok (.aload_n 0, 1) := by decide +kernel
theorem dX4_execute_54 : decode cX4_execute 54 = .ok (.getfield 12, 3) := by decide +kernel
theorem dX4_execute_57 : decode cX4_execute 57 = .ok (.aload_n 3, 1) := by decide +kernel
theorem dX4_execute_58 : decode cX4_execute 58 = .ok (.aload_n 2, 1) := by decide +kernel
theorem dX4_execute_59 : decode cX4_execute 59 = .ok (.invokevirtual 144, 3) := by decide +kernel
theorem dX4_execute_62 : decode cX4_execute 62 = .ok (.ireturn, 1) := by decide +kernel
theorem dX4_planForLastRun_0 : decode cX4_planForLastRun 0 = .ok (.aload_n 0, 1) := by decide +kernel
theorem dX4_planForLastRun_1 : decode cX4_planForLastRun 1 = .ok (.getfield 39, 3) := by decide +kernel
theorem dX4_planForLastRun_4 : decode cX4_planForLastRun 4 = .ok (.aload_n 0, 1) := by decide +kernel
theorem dX4_planForLastRun_5 : decode cX4_planForLastRun 5 = .ok (.getfield 46, 3) := by decide +kernel
theorem dX4_planForLastRun_8 : decode cX4_planForLastRun 8 = .ok (.getfield 146, 3) := by decide +kernel
theorem dX4_planForLastRun_11 : decode cX4_planForLastRun 11 = .ok (.aload_n 0, 1) := by decide +kernel
theorem dX4_planForLastRun_12 : decode cX4_planForLastRun 12 = .ok (.getfield 46, 3) := by decide +kernel
theorem dX4_planForLastRun_15 : decode cX4_planForLastRun 15 = .ok (.getfield 147, 3) := by decide +kernel
theorem dX4_planForLastRun_18 : decode cX4_planForLastRun 18 = .ok (.invokevirtual 150, 3) := by decide +kernel
theorem dX4_planForLastRun_21 : decode cX4_planForLastRun 21 = .ok (.istore_n 3, 1) := by decide +kernel
theorem dX4_planForLastRun_22 : decode cX4_planForLastRun 22 = .ok (.iload_n 3, 1) := by decide +kernel
theorem dX4_planForLastRun_23 : decode cX4_planForLastRun 23 = .ok (.iconst (-1), 1) := by decide +kernel
theorem dX4_planForLastRun_24 : decode cX4_planForLastRun 24 = .ok (.if_icmp .eq 30, 3) := by decide +kernel
theorem dX4_planForLastRun_27 : decode cX4_planForLastRun 27 = .ok (.aload_n 0, 1) := by decide +kernel
theorem dX4_planForLastRun_28 : decode cX4_planForLastRun 28 = .ok (.dup, 1) := by decide +kernel
theorem dX4_planForLastRun_29 : decode cX4_planForLastRun 29 = .ok (.getfield 154, 3) := by decide +kernel
theorem dX4_planForLastRun_32 : decode cX4_planForLastRun 32 = .ok (.iconst 1, 1) := by decide +kernel
theorem dX4_planForLastRun_33 : decode cX4_planForLastRun 33 = .ok (.iadd, 1) := by decide +kernel
theorem dX4_planForLastRun_34 : decode cX4_planForLastRun 34 = .ok (.putfield 154, 3) := by decide +kernel
theorem dX4_planForLastRun_37 : decode cX4_planForLastRun 37 = .ok (.aload_n 0, 1) := by decide +kernel
theorem dX4_planForLastRun_38 : decode cX4_planForLastRun 38 = .ok (.getfield 46, 3) := by decide +kernel
theorem dX4_planForLastRun_41 : decode cX4_planForLastRun 41 = .ok (.iconst 0, 1) := by decide +kernel
theorem dX4_planForLastRun_42 : decode cX4_planForLastRun 42 = .ok (.putfield 157, 3) := by decide +kernel
theorem dX4_planForLastRun_45 : decode cX4_planForLastRun 45 = .ok (.aload_n 0, 1) := by decide +kernel
theorem dX4_planForLastRun_46 : decode cX4_planForLastRun 46 = .ok (.getfield 39, 3) := by decide +kernel
theorem dX4_planForLastRun_49 : decode cX4_planForLastRun 49 = .ok (.iload_n 3, 1) := by decide +kernel
theorem dX4_planForLastRun_50 : decode cX4_planForLastRun 50 = .ok (.invokevirtual 61, 3) := by decide +kernel
theorem dX4_planForLastRun_53 : decode cX4_planForLastRun 53 = .ok (.areturn, 1) := by decide +kernel
theorem dX4_planForLastRun_54 : decode cX4_planForLastRun 54 = .ok (.aload_n 0, 1) := by decide +kernel
theorem dX4_planForLastRun_55 : decode cX4_planForLastRun 55 = .ok (.getfield 46, 3) := by decide +kernel
theorem dX4_planForLastRun_58 : decode cX4_planForLastRun 58 = .ok (.aload_n 0, 1) := by decide +kernel
theorem dX4_planForLastRun_59 : decode cX4_planForLastRun 59 = .ok (.getfield 39, 3) := by decide +kernel
theorem dX4_planForLastRun_62 : decode cX4_planForLastRun 62 = .ok (.aload_n 0, 1) := by decide +kernel
theorem dX4_planForLastRun_63 : decode cX4_planForLastRun 63 = .ok (.getfield 50, 3) := by decide +kernel
theorem dX4_planForLastRun_66 : decode cX4_planForLastRun 66 = .ok (.iconst 4, 1) := by decide +kernel
theorem dX4_planForLastRun_67 : decode cX4_planForLastRun 67 = .ok (.iaload, 1) := by decide +kernel
theorem dX4_planForLastRun_68 : decode cX4_planForLastRun 68 = .ok (.invokevirtual 160, 3) := by decide +kernel
theorem dX4_planForLastRun_71 : decode cX4_planForLastRun 71 = .ok (.putfield 163, 3) := by decide +kernel
theorem dX4_planForLastRun_74 : decode cX4_planForLastRun 74 = .ok (.aload_n 0, 1) := by decide +kernel
theorem dX4_planForLastRun_75 : decode cX4_planForLastRun 75 = .ok (.getfield 39, 3) := by decide +kernel
theorem dX4_planForLastRun_78 : decode cX4_planForLastRun 78 = .ok (.aload_n 0, 1) := by decide +kernel
theorem dX4_planForLastRun_79 : decode cX4_planForLastRun 79 = .ok (.getfield 46, 3) := by decide +kernel
theorem dX4_planForLastRun_82 : decode cX4_planForLastRun 82 = .ok (.getfield 146, 3) := by decide +kernel
theorem dX4_planForLastRun_85 : decode cX4_planForLastRun 85 = .ok (.aload_n 0, 1) := by decide +kernel
theorem dX4_planForLastRun_86 : decode cX4_planForLastRun 86 = .ok (.getfield 46, 3) := by decide +kernel
theorem dX4_planForLastRun_89 : decode cX4_planForLastRun 89 = .ok (.getfield 147, 3) := by decide +kernel
theorem dX4_planForLastRun_92 : decode cX4_planForLastRun 92 = .ok (.aload_n 0, 1) := by decide +kernel
theorem dX4_planForLastRun_93 : decode cX4_planForLastRun 93 = .ok (.getfield 50, 3) := by decide +kernel
theorem dX4_planForLastRun_96 : decode cX4_planForLastRun 96 = .ok (.iconst 4, 1) := by decide +kernel
theorem dX4_planForLastRun_97 : decode cX4_planForLastRun 97 = .ok (.iaload, 1) := by decide +kernel
theorem dX4_planForLastRun_98 : decode cX4_planForLastRun 98 = .ok (.invokevirtual 166, 3) := by decide +kernel
theorem dX4_planForLastRun_101 : decode cX4_planForLastRun 101 = .ok (.astore 4, 2) := by decide +kernel
theorem dX4_planForLastRun_103 : decode cX4_planForLastRun 103 = .ok (.aload 4, 2) := by decide +kernel
theorem dX4_planForLastRun_105 : decode cX4_planForLastRun 105 = .ok (.aload_n 0, 1) := by decide +kernel
theorem dX4_planForLastRun_106 : decode cX4_planForLastRun 106 = .ok (.aload_n 0, 1) := by decide +kernel
theorem dX4_planForLastRun_107 : decode cX4_planForLastRun 107 = .ok (.getfield 21, 3) := by decide +kernel
theorem dX4_planForLastRun_110 : decode cX4_planForLastRun 110 = .ok (.aload_n 1, 1) := by decide +kernel
theorem dX4_planForLastRun_111 : decode cX4_planForLastRun 111 = .ok (.aload_n 2, 1) := by decide +kernel
theorem dX4_planForLastRun_112 : decode cX4_planForLastRun 112 = .ok (.invokevirtual 170, 3) := by decide +kernel
theorem dX4_planForLastRun_115 : decode cX4_planForLastRun 115 = .ok (.putfield 65, 3) := by decide +kernel
theorem dX4_planForLastRun_118 : decode cX4_planForLastRun 118 = .ok (.aload 4, 2) := by decide +kernel
theorem dX4_planForLastRun_120 : decode cX4_planForLastRun 120 = .ok (.aload_n 0, 1) := by decide +kernel
theorem dX4_planForLastRun_121 : decode cX4_planForLastRun 121 = .ok (.getfield 21, 3) := by decide +kernel
theorem dX4_planForLastRun_124 : decode cX4_planForLastRun 124 = .ok (.aload_n 1, 1) := by decide +kernel
theorem dX4_planForLastRun_125 : decode cX4_planForLastRun 125 = .ok (.aload_n 2, 1) := by decide +kernel
theorem dX4_planForLastRun_126 : decode cX4_planForLastRun 126 = .ok (.aload 4, 2) := by decide +kernel
theorem dX4_planForLastRun_128 : decode cX4_planForLastRun 128 = .ok (.getfield 65, 3) := by decide +kernel
theorem dX4_planForLastRun_131 : decode cX4_planForLastRun 131 = .ok (.invokestatic 120, 3) := by decide +kernel
theorem dX4_planForLastRun_134 : decode cX4_planForLastRun 134 = .ok (.putfield 174, 3) := by decide +kernel
theorem dX4_planForLastRun_137 : decode cX4_planForLastRun 137 = .ok (.aload_n 0, 1) := by decide +kernel
theorem dX4_planForLastRun_138 : decode cX4_planForLastRun 138 = .ok (.getfield 46, 3) := by decide +kernel
theorem dX4_planForLastRun_141 : decode cX4_planForLastRun 141 = .ok (.aload 4, 2) := by decide +kernel
theorem dX4_planForLastRun_143 : decode cX4_planForLastRun 143 = .ok (.getfield 177, 3) := by decide +kernel
theorem dX4_planForLastRun_146 : decode cX4_planForLastRun 146 = .ok (.bipush (-4), 2) := by decide +kernel
theorem dX4_planForLastRun_148 : decode cX4_planForLastRun 148 = .ok (.if_icmp .ne 7, 3) := by decide +kernel
theorem dX4_planForLastRun_151 : decode cX4_planForLastRun 151 = .ok (.iconst 2, 1) := by decide +kernel
theorem dX4_planForLastRun_152 : decode cX4_planForLastRun 152 = .ok (.goto 4, 3) := by decide +kernel
theorem dX4_planForLastRun_155 : decode cX4_planForLastRun 155 = .ok (.iconst 1, 1) := by decide +kernel
theorem dX4_planForLastRun_156 : decode cX4_planForLastRun 156 = .ok (.putfield 157, 3) := by decide +kernel
theorem dX4_planForLastRun_159 : decode cX4_planForLastRun 159 = .ok (.aload 4, 2) := by decide +kernel
theorem dX4_planForLastRun_161 : decode cX4_planForLastRun 161 = .ok (.areturn, 1) := by decide +kernel
theorem dX4_use_0 : decode cX4_use 0 = .ok (.aload_n 1, 1) := by decide +kernel
theorem dX4_use_1 : decode cX4_use 1 = .ok (.dup, 1) := by decide +kernel
theorem dX4_use_2 : decode cX4_use 2 = .ok (.getfield 180, 3) := by decide +kernel
theorem dX4_use_5 : decode cX4_use 5 = .ok (.iconst 1, 1) := by decide +kernel
theorem dX4_use_6 : decode cX4_use 6 = .ok (.iadd, 1) := by decide +kernel
theorem dX4_use_7 : decode cX4_use 7 = .ok (.putfield 180, 3) := by decide +kernel
theorem dX4_use_10 : decode cX4_use 10 = .ok (.aload_n 1, 1) := by decide +kernel
theorem dX4_use_11 : decode cX4_use 11 = .ok (.aload_n 0, 1) := by decide +kernel
theorem dX4_use_12 : decode cX4_use 12 = .ok (.getfield 124, 3) := by decide +kernel
theorem dX4_use_15 : decode cX4_use 15 = .ok (.putfield 183, 3) := by decide +kernel
theorem dX4_use_18 : decode cX4_use 18 = .ok (.aload_n 0, 1) := by decide +kernel
theorem dX4_use_19 : decode cX4_use 19 = .ok (.getfield 46, 3) := by decide +kernel
theorem dX4_use_22 : decode cX4_use 22 = .ok (.aload_n 1, 1) := by decide +kernel
theorem dX4_use_23 : decode cX4_use 23 = .ok (.getfield 177, 3) := by decide +kernel
theorem dX4_use_26 : decode cX4_use 26 = .ok (.putfield 186, 3) := by decide +kernel
theorem dX4_use_29 : decode cX4_use 29 = .ok (.aload_n 0, 1) := by decide +kernel
theorem dX4_use_30 : decode cX4_use 30 = .ok (.getfield 46, 3) := by decide +kernel
theorem dX4_use_33 : decode cX4_use 33 = .ok (.aload_n 1, 1) := by decide +kernel
theorem dX4_use_34 : decode cX4_use 34 = .ok (.getfield 65, 3) := by decide +kernel
theorem dX4_use_37 : decode cX4_use 37 = .ok (.putfield 189, 3) := by decide +kernel
theorem dX4_use_40 : decode cX4_use 40 = .ok (.aload_n 0, 1) := by decide +kernel
theorem dX4_use_41 : decode cX4_use 41 = .ok (.getfield 46, 3) := by decide +kernel
theorem dX4_use_44 : decode cX4_use 44 = .ok (.aload_n 1, 1) := by decide +kernel
theorem dX4_use_45 : decode cX4_use 45 = .ok (.getfield 174, 3) := by decide +kernel
theorem dX4_use_48 : decode cX4_use 48 = .ok (.putfield 190, 3) := by decide +kernel
theorem dX4_use_51 : decode cX4_use 51 = .ok (.aload_n 0, 1) := by decide +kernel
theorem dX4_use_52 : decode cX4_use 52 = .ok (.getfield 46, 3) := by decide +kernel
theorem dX4_use_55 : decode cX4_use 55 = .ok (.aload_n 0, 1) := by decide +kernel
theorem dX4_use_56 : decode cX4_use 56 = .ok (.getfield 12, 3) := by decide +kernel
theorem dX4_use_59 : decode cX4_use 59 = .ok (.getfield 191, 3) := by decide +kernel
theorem dX4_use_62 : decode cX4_use 62 = .ok (.aload_n 2, 1) := by decide +kernel
theorem dX4_use_63 : decode cX4_use 63 = .ok (.aload_n 3, 1) := by decide +kernel
theorem dX4_use_64 : decode cX4_use 64 = .ok (.aload_n 1, 1) := by decide +kernel
theorem dX4_use_65 : decode cX4_use 65 = .ok (.getfield 65, 3) := by decide +kernel
theorem dX4_use_68 : decode cX4_use 68 = .ok (.invokestatic 120, 3) := by decide +kernel
theorem dX4_use_71 : decode cX4_use 71 = .ok (.putfield 194, 3) := by decide +kernel
theorem dX4_use_74 : decode cX4_use 74 = .ok (.aload_n 0, 1) := by decide +kernel
theorem dX4_use_75 : decode cX4_use 75 = .ok (.getfield 46, 3) := by decide +kernel
theorem dX4_use_78 : decode cX4_use 78 = .ok (.aload_n 0, 1) := by decide +kernel
theorem dX4_use_79 : decode cX4_use 79 = .ok (.getfield 46, 3) := by decide +kernel
theorem dX4_use_82 : decode cX4_use 82 = .ok (.getfield 194, 3) := by decide +kernel
theorem dX4_use_85 : decode cX4_use 85 = .ok (.aload_n 0, 1) := by decide +kernel
theorem dX4_use_86 : decode cX4_use 86 = .ok (.getfield 50, 3) := by decide +kernel
theorem dX4_use_89 : decode cX4_use 89 = .ok (.iconst 2, 1) := by decide +kernel
theorem dX4_use_90 : decode cX4_use 90 = .ok (.iaload, 1) := by decide +kernel
theorem dX4_use_91 : decode cX4_use 91 = .ok (.aload_n 1, 1) := by decide +kernel
theorem dX4_use_92 : decode cX4_use 92 = .ok (.getfield 174, 3) := by decide +kernel
theorem dX4_use_95 : decode cX4_use 95 = .ok (.imul, 1) := by decide +kernel
theorem dX4_use_96 : decode cX4_use 96 = .ok (.if_icmp .le 7, 3) := by decide +kernel
theorem dX4_use_99 : decode cX4_use 99 = .ok (.iconst 1, 1) := by decide +kernel
theorem dX4_use_100 : decode cX4_use 100 = .ok (.goto 4, 3) := by decide +kernel
theorem dX4_use_103 : decode cX4_use 103 = .ok (.iconst 0, 1) := by decide +kernel
theorem dX4_use_104 : decode cX4_use 104 = .ok (.putfield 196, 3) := by decide +kernel
theorem dX4_use_107 : decode cX4_use 107 = .ok (.aload_n 0, 1) := by decide +kernel
theorem dX4_use_108 : decode cX4_use 108 = .ok (.getfield 46, 3) := by decide +kernel
theorem dX4_use_111 : decode cX4_use 111 = .ok (.getfield 196, 3) := by decide +kernel
theorem dX4_use_114 : decode cX4_use 114 = .ok (.ifCond .eq 8, 3) := by decide +kernel
theorem dX4_use_117 : decode cX4_use 117 = .ok (.aload_n 0, 1) := by decide +kernel
theorem dX4_use_118 : decode cX4_use 118 = .ok (.aload_n 1, 1) := by decide +kernel
theorem dX4_use_119 : decode cX4_use 119 = .ok (.invokevirtual 200, 3) := by decide +kernel
theorem dX4_use_122 : decode cX4_use 122 = .ok (.return_, 1) := by decide +kernel
theorem dX4_surprise_0 : decode cX4_surprise 0 = .ok (.aload_n 0, 1) := by decide +kernel
theorem dX4_surprise_1 : decode cX4_surprise 1 = .ok (.dup, 1) := by decide +kernel
theorem dX4_surprise_2 : decode cX4_surprise 2 = .ok (.getfield 203, 3) := by decide +kernel
theorem dX4_surprise_5 : decode cX4_surprise 5 = .ok (.iconst 1, 1) := by decide +kernel
theorem dX4_surprise_6 : decode cX4_surprise 6 = .ok (.iadd, 1) := by decide +kernel
theorem dX4_surprise_7 : decode cX4_surprise 7 = .ok (.putfield 203, 3) := by decide +kernel
theorem dX4_surprise_10 : decode cX4_surprise 10 = .ok (.aload_n 1, 1) := by decide +kernel
theorem dX4_surprise_11 : decode cX4_surprise 11 = .ok (.dup, 1) := by decide +kernel
theorem dX4_surprise_12 : decode cX4_surprise 12 = .ok (.getfield 206, 3) := by decide +kernel
theorem dX4_surprise_15 : decode cX4_surprise 15 = .ok (.iconst 1, 1) := by decide +kernel
theorem dX4_surprise_16 : decode cX4_surprise 16 = .ok (.iadd, 1) := by decide +kernel
theorem dX4_surprise_17 : decode cX4_surprise 17 = .ok (.putfield 206, 3) := by decide +kernel
theorem dX4_surprise_20 : decode cX4_surprise 20 = .ok (.aload_n 1, 1) := by decide +kernel
theorem dX4_surprise_21 : decode cX4_surprise 21 = .ok (.getfield 206, 3) := by decide +kernel
theorem dX4_surprise_24 : decode cX4_surprise 24 = .ok (.aload_n 0, 1) := by decide +kernel
theorem dX4_surprise_25 : decode cX4_surprise 25 = .ok (.getfield 50, 3) := by decide +kernel
theorem dX4_surprise_28 : decode cX4_surprise 28 = .ok (.iconst 3, 1) := by decide +kernel
theorem dX4_surprise_29 : decode cX4_surprise 29 = .ok (.iaload, 1) := by decide +kernel
theorem dX4_surprise_30 : decode cX4_surprise 30 = .ok (.if_icmp .lt 21, 3) := by decide +kernel
theorem dX4_surprise_33 : decode cX4_surprise 33 = .ok (.aload_n 0, 1) := by decide +kernel
theorem dX4_surprise_34 : decode cX4_surprise 34 = .ok (.getfield 39, 3) := by decide +kernel
theorem dX4_surprise_37 : decode cX4_surprise 37 = .ok (.aload_n 0, 1) := by decide +kernel
theorem dX4_surprise_38 : decode cX4_surprise 38 = .ok (.getfield 39, 3) := by decide +kernel
theorem dX4_surprise_41 : decode cX4_surprise 41 = .ok (.aload_n 1, 1) := by decide +kernel
theorem dX4_surprise_42 : decode cX4_surprise 42 = .ok (.getfield 177, 3) := by decide +kernel
theorem dX4_surprise_45 : decode cX4_surprise 45 = .ok (.invokevirtual 207, 3) := by decide +kernel
theorem dX4_surprise_48 : decode cX4_surprise 48 = .ok (.invokevirtual 81, 3) := by decide +kernel
theorem dX4_surprise_51 : decode cX4_surprise 51 = .ok (.return_, 1) := by decide +kernel
theorem dX4_takeFrom_0 : decode cX4_takeFrom 0 = .ok (.aload_n 0, 1) := by decide +kernel
theorem dX4_takeFrom_1 : decode cX4_takeFrom 1 = .ok (.getfield 12, 3) := by decide +kernel
theorem dX4_takeFrom_4 : decode cX4_takeFrom 4 = .ok (.aload_n 1, 1) := by decide +kernel
theorem dX4_takeFrom_5 : decode cX4_takeFrom 5 = .ok (.getfield 12, 3) := by decide +kernel
theorem dX4_takeFrom_8 : decode cX4_takeFrom 8 = .ok (.invokevirtual 210, 3) := by decide +kernel
theorem dX4_takeFrom_11 : decode cX4_takeFrom 11 = .ok (.aload_n 0, 1) := by decide +kernel
theorem dX4_takeFrom_12 : decode cX4_takeFrom 12 = .ok (.getfield 21, 3) := by decide +kernel
theorem dX4_takeFrom_15 : decode cX4_takeFrom 15 = .ok (.aload_n 1, 1) := by decide +kernel
theorem dX4_takeFrom_16 : decode cX4_takeFrom 16 = .ok (.getfield 21, 3) := by decide +kernel
theorem dX4_takeFrom_19 : decode cX4_takeFrom 19 = .ok (.invokevirtual 214, 3) := by decide +kernel
theorem dX4_takeFrom_22 : decode cX4_takeFrom 22 = .ok (.iconst 0, 1) := by decide +kernel
theorem dX4_takeFrom_23 : decode cX4_takeFrom 23 = .ok (.istore_n 2, 1) := by decide +kernel
theorem dX4_takeFrom_24 : decode cX4_takeFrom 24 = .ok (.iload_n 2, 1) := by decide +kernel
theorem dX4_takeFrom_25 : decode cX4_takeFrom 25 = .ok (.aload_n 0, 1) := by decide +kernel
theorem dX4_takeFrom_26 : decode cX4_takeFrom 26 = .ok (.getfield 27, 3) := by decide +kernel
theorem dX4_takeFrom_29 : decode cX4_takeFrom 29 = .ok (.arraylength, 1) := by decide +kernel
theorem dX4_takeFrom_30 : decode cX4_takeFrom 30 = .ok (.if_icmp .ge 22, 3) := by decide +kernel
theorem dX4_takeFrom_33 : decode cX4_takeFrom 33 = .ok (.aload_n 0, 1) := by decide +kernel
theorem dX4_takeFrom_34 : decode cX4_takeFrom 34 = .ok (.iload_n 2, 1) := by decide +kernel
theorem dX4_takeFrom_35 : decode cX4_takeFrom 35 = .ok (.invokevirtual 73, 3) := by decide +kernel
theorem dX4_takeFrom_38 : decode cX4_takeFrom 38 = .ok (.aload_n 1, 1) := by decide +kernel
theorem dX4_takeFrom_39 : decode cX4_takeFrom 39 = .ok (.iload_n 2, 1) := by decide +kernel
theorem dX4_takeFrom_40 : decode cX4_takeFrom 40 = .ok (.invokevirtual 73, 3) := by decide +kernel
theorem dX4_takeFrom_43 : decode cX4_takeFrom 43 = .ok (.invokevirtual 217, 3) := by decide +kernel
theorem dX4_takeFrom_46 : decode cX4_takeFrom 46 = .ok (.iinc 2 1, 3) := by decide +kernel
theorem dX4_takeFrom_49 : decode cX4_takeFrom 49 = .ok (.goto (-25), 3) := by decide +kernel
theorem dX4_takeFrom_52 : decode cX4_takeFrom 52 = .ok (.aload_n 0, 1) := by decide +kernel
theorem dX4_takeFrom_53 : decode cX4_takeFrom 53 = .ok (.getfield 39, 3) := by decide +kernel
theorem dX4_takeFrom_56 : decode cX4_takeFrom 56 = .ok (.aload_n 1, 1) := by decide +kernel
theorem dX4_takeFrom_57 : decode cX4_takeFrom 57 = .ok (.getfield 39, 3) := by decide +kernel
theorem dX4_takeFrom_60 : decode cX4_takeFrom 60 = .ok (.invokevirtual 220, 3) := by decide +kernel
theorem dX4_takeFrom_63 : decode cX4_takeFrom 63 = .ok (.aload_n 0, 1) := by decide +kernel
theorem dX4_takeFrom_64 : decode cX4_takeFrom 64 = .ok (.getfield 46, 3) := by decide +kernel
theorem dX4_takeFrom_67 : decode cX4_takeFrom 67 = .ok (.aload_n 1, 1) := by decide +kernel
theorem dX4_takeFrom_68 : decode cX4_takeFrom 68 = .ok (.getfield 46, 3) := by decide +kernel
theorem dX4_takeFrom_71 : decode cX4_takeFrom 71 = .ok (.invokevirtual 223, 3) := by decide +kernel
theorem dX4_takeFrom_74 : decode cX4_takeFrom 74 = .ok (.aload_n 1, 1) := by decide +kernel
theorem dX4_takeFrom_75 : decode cX4_takeFrom 75 = .ok (.getfield 50, 3) := by decide +kernel
theorem dX4_takeFrom_78 : decode cX4_takeFrom 78 = .ok (.aload_n 0, 1) := by decide +kernel
theorem dX4_takeFrom_79 : decode cX4_takeFrom 79 = .ok (.getfield 50, 3) := by decide +kernel
theorem dX4_takeFrom_82 : decode cX4_takeFrom 82 = .ok (.invokestatic 226, 3) := by decide +kernel
theorem dX4_takeFrom_85 : decode cX4_takeFrom 85 = .ok (.aload_n 0, 1) := by decide +kernel
theorem dX4_takeFrom_86 : decode cX4_takeFrom 86 = .ok (.aload_n 1, 1) := by decide +kernel
theorem dX4_takeFrom_87 : decode cX4_takeFrom 87 = .ok (.getfield 54, 3) := by decide +kernel
theorem dX4_takeFrom_90 : decode cX4_takeFrom 90 = .ok (.putfield 54, 3) := by decide +kernel
theorem dX4_takeFrom_93 : decode cX4_takeFrom 93 = .ok (.aload_n 0, 1) := by decide +kernel
theorem dX4_takeFrom_94 : decode cX4_takeFrom 94 = .ok (.aload_n 1, 1) := by decide +kernel
theorem dX4_takeFrom_95 : decode cX4_takeFrom 95 = .ok (.getfield 89, 3) := by decide +kernel
theorem dX4_takeFrom_98 : decode cX4_takeFrom 98 = .ok (.putfield 89, 3) := by decide +kernel
theorem dX4_takeFrom_101 : decode cX4_takeFrom 101 = .ok (.aload_n 0, 1) := by decide +kernel
theorem dX4_takeFrom_102 : decode cX4_takeFrom 102 = .ok (.aload_n 1, 1) := by decide +kernel
theorem dX4_takeFrom_103 : decode cX4_takeFrom 103 = .ok (.getfield 124, 3) := by decide +kernel
theorem dX4_takeFrom_106 : decode cX4_takeFrom 106 = .ok (.putfield 124, 3) := by decide +kernel
theorem dX4_takeFrom_109 : decode cX4_takeFrom 109 = .ok (.aload_n 0, 1) := by decide +kernel
theorem dX4_takeFrom_110 : decode cX4_takeFrom 110 = .ok (.aload_n 1, 1) := by decide +kernel
theorem dX4_takeFrom_111 : decode cX4_takeFrom 111 = .ok (.getfield 154, 3) := by decide +kernel
theorem dX4_takeFrom_114 : decode cX4_takeFrom 114 = .ok (.putfield 154, 3) := by decide +kernel
theorem dX4_takeFrom_117 : decode cX4_takeFrom 117 = .ok (.aload_n 0, 1) := by decide +kernel
theorem dX4_takeFrom_118 : decode cX4_takeFrom 118 = .ok (.aload_n 1, 1) := by decide +kernel
theorem dX4_takeFrom_119 : decode cX4_takeFrom 119 = .ok (.getfield 203, 3) := by decide +kernel
theorem dX4_takeFrom_122 : decode cX4_takeFrom 122 = .ok (.putfield 203, 3) := by decide +kernel
theorem dX4_takeFrom_125 : decode cX4_takeFrom 125 = .ok (.return_, 1) := by decide +kernel
theorem dX5_init_0 : decode cX5_init 0 = .ok (.aload_n 0, 1) := by decide +kernel
theorem dX5_init_1 : decode cX5_init 1 = .ok (.invokespecial 3, 3) := by decide +kernel
theorem dX5_init_4 : decode cX5_init 4 = .ok (.aload_n 0, 1) := by decide +kernel
theorem dX5_init_5 : decode cX5_init 5 = .ok (.iconst 4, 1) := by decide +kernel
theorem dX5_init_6 : decode cX5_init 6 = .ok (.newarray .int, 2) := by decide +kernel
theorem dX5_init_8 : decode cX5_init 8 = .ok (.putfield 9, 3) := by decide +kernel
theorem dX5_init_11 : decode cX5_init 11 = .ok (.aload_n 0, 1) := by decide +kernel
theorem dX5_init_12 : decode cX5_init 12 = .ok (.iconst 4, 1) := by decide +kernel
theorem dX5_init_13 : decode cX5_init 13 = .ok (.newarray .int, 2) := by decide +kernel
theorem dX5_init_15 : decode cX5_init 15 = .ok (.putfield 15, 3) := by decide +kernel
theorem dX5_init_18 : decode cX5_init 18 = .ok (.return_, 1) := by decide +kernel
theorem dX5_hasCondition_0 : decode cX5_hasCondition 0 = .ok (.iload_n 1, 1) := by decide +kernel
theorem dX5_hasCondition_1 : decode cX5_hasCondition 1 = .ok (.ifCond .lt 15, 3) := by decide +kernel
theorem dX5_hasCondition_4 : decode cX5_hasCondition 4 = .ok (.iload_n 1, 1) := by decide +kernel
theorem dX5_hasCondition_5 : decode cX5_hasCondition 5 = .ok (.aload_n 0, 1) := by decide +kernel
theorem dX5_hasCondition_6 : decode cX5_hasCondition 6 = .ok (.getfield 18, 3) := by decide +kernel
theorem dX5_hasCondition_9 : decode cX5_hasCondition 9 = .ok (.if_icmp .ge 7, 3) := by decide +kernel
theorem dX5_hasCondition_12 : decode cX5_hasCondition 12 = .ok (.iconst 1, 1) := by decide +kernel
theorem dX5_hasCondition_13 : decode cX5_hasCondition 13 = .ok (.goto 4, 3) := by decide +kernel
theorem dX5_hasCondition_16 : decode cX5_hasCondition 16 = .ok (.iconst 0, 1) := by decide +kernel
theorem dX5_hasCondition_17 : decode cX5_hasCondition 17 = .ok (.ireturn, 1) := by decide +kernel
theorem dX5_columnAt_0 : decode cX5_columnAt 0 = .ok (.aload_n 0, 1) := by decide +kernel
theorem dX5_columnAt_1 : decode cX5_columnAt 1 = .ok (.getfield 9, 3) := by decide +kernel
theorem dX5_columnAt_4 : decode cX5_columnAt 4 = .ok (.iload_n 1, 1) := by decide +kernel
theorem dX5_columnAt_5 : decode cX5_columnAt 5 = .ok (.invokestatic 22, 3) := by decide +kernel
theorem dX5_columnAt_8 : decode cX5_columnAt 8 = .ok (.ireturn, 1) := by decide +kernel
theorem dX5_operatorAt_0 : decode cX5_operatorAt 0 = .ok (.aload_n 0, 1) := by decide +kernel
theorem dX5_operatorAt_1 : decode cX5_operatorAt 1 = .ok (.getfield 15, 3) := by decide +kernel
theorem dX5_operatorAt_4 : decode cX5_operatorAt 4 = .ok (.iload_n 1, 1) := by decide +kernel
theorem dX5_operatorAt_5 : decode cX5_operatorAt 5 = .ok (.invokestatic 22, 3) := by decide +kernel
theorem dX5_operatorAt_8 : decode cX5_operatorAt 8 = .ok (.ireturn, 1) := by decide +kernel
theorem dX5_takes_0 : decode cX5_takes 0 = .ok (.aload_n 0, 1) := by decide +kernel
theorem dX5_takes_1 : decode cX5_takes 1 = .ok (.iload_n 1, 1) := by decide +kernel
theorem dX5_takes_2 : decode cX5_takes 2 = .ok (.invokevirtual 26, 3) := by decide +kernel
theorem dX5_takes_5 : decode cX5_takes 5 = .ok (.ifCond .eq 10, 3) := by decide +kernel
theorem dX5_takes_8 : decode cX5_takes 8 = .ok (.iload_n 2, 1) := by decide +kernel
theorem dX5_takes_9 : decode cX5_takes 9 = .ok (.invokestatic 30, 3) := by decide +kernel
theorem dX5_takes_12 : decode cX5_takes 12 = .ok (.goto 12, 3) := by decide +kernel
theorem dX5_takes_15 : decode cX5_takes 15 = .ok (.iload_n 2, 1) := by decide +kernel
theorem dX5_takes_16 : decode cX5_takes 16 = .ok (.ifCond .ne 7, 3) := by decide +kernel
theorem dX5_takes_19 : decode cX5_takes 19 = .ok (.iconst 1, 1) := by decide +kernel
theorem dX5_takes_20 : decode cX5_takes 20 = .ok (.goto 4, 3) := by decide +kernel
theorem dX5_takes_23 : decode cX5_takes 23 = .ok (.iconst 0, 1) := by decide +kernel
theorem dX5_takes_24 : decode cX5_takes 24 = .ok (.ireturn, 1) := by decide +kernel
theorem dX5_isOf_0 : decode cX5_isOf 0 = .ok (.aload_n 1, 1) := by decide +kernel
theorem dX5_isOf_1 : decode cX5_isOf 1 = .ok (.invokevirtual 33, 3) := by decide +kernel
theorem dX5_isOf_4 : decode cX5_isOf 4 = .ok (.aload_n 0, 1) := by decide +kernel
theorem dX5_isOf_5 : decode cX5_isOf 5 = .ok (.getfield 18, 3) := by decide +kernel
theorem dX5_isOf_8 : decode cX5_isOf 8 = .ok (.if_icmp .eq 5, 3) := by decide +kernel
theorem dX5_isOf_11 : decode cX5_isOf 11 = .ok (.iconst 0, 1) := by decide +kernel
theorem dX5_isOf_12 : decode cX5_isOf 12 = .ok (.ireturn, 1) := by decide +kernel
theorem dX5_isOf_13 : decode cX5_isOf 13 = .ok (.iconst 0, 1) := by decide +kernel
theorem dX5_isOf_14 : decode cX5_isOf 14 = .ok (.istore_n 2, 1) := by decide +kernel
theorem dX5_isOf_15 : decode cX5_isOf 15 = .ok (.iload_n 2, 1) := by decide +kernel
theorem dX5_isOf_16 : decode cX5_isOf 16 = .ok (.aload_n 0, 1) := by decide +kernel
theorem dX5_isOf_17 : decode cX5_isOf 17 = .ok (.getfield 18, 3) := by decide +kernel
theorem dX5_isOf_20 : decode cX5_isOf 20 = .ok (.if_icmp .ge 37, 3) := by decide +kernel
theorem dX5_isOf_23 : decode cX5_isOf 23 = .ok (.aload_n 0, 1) := by decide +kernel
theorem dX5_isOf_24 : decode cX5_isOf 24 = .ok (.iload_n 2, 1) := by decide +kernel
theorem dX5_isOf_25 : decode cX5_isOf 25 = .ok (.invokevirtual 38, 3) := by decide +kernel
theorem dX5_isOf_28 : decode cX5_isOf 28 = .ok (.aload_n 1, 1) := by decide +kernel
theorem dX5_isOf_29 : decode cX5_isOf 29 = .ok (.iload_n 2, 1) := by decide +kernel
theorem dX5_isOf_30 : decode cX5_isOf 30 = .ok (.invokevirtual 42, 3) := by decide +kernel
theorem dX5_isOf_33 : decode cX5_isOf 33 = .ok (.if_icmp .ne 16, 3) := by decide +kernel
theorem dX5_isOf_36 : decode cX5_isOf 36 = .ok (.aload_n 0, 1) := by decide +kernel
theorem dX5_isOf_37 : decode cX5_isOf 37 = .ok (.iload_n 2, 1) := by decide +kernel
theorem dX5_isOf_38 : decode cX5_isOf 38 = .ok (.invokevirtual 45, 3) := by decide +kernel
theorem dX5_isOf_41 : decode cX5_isOf 41 = .ok (.aload_n 1, 1) := by decide +kernel
theorem dX5_isOf_42 : decode cX5_isOf 42 = .ok (.iload_n 2, 1) := by decide +kernel
theorem dX5_isOf_43 : decode cX5_isOf 43 = .ok (.invokevirtual 48, 3) := by decide +kernel
theorem dX5_isOf_46 : decode cX5_isOf 46 = .ok (.if_icmp .eq 5, 3) := by decide +kernel
theorem dX5_isOf_49 : decode cX5_isOf 49 = .ok (.iconst 0, 1) := by decide +kernel
theorem dX5_isOf_50 : decode cX5_isOf 50 = .ok (.ireturn, 1) := by decide +kernel
theorem dX5_isOf_51 : decode cX5_isOf 51 = .ok (.iinc 2 1, 3) := by decide +kernel
theorem dX5_isOf_54 : decode cX5_isOf 54 = .ok (.goto (-39), 3) := by decide +kernel
theorem dX5_isOf_57 : decode cX5_isOf 57 = .ok (.iconst 1, 1) := by decide +kernel
theorem dX5_isOf_58 : decode cX5_isOf 58 = .ok (.ireturn, 1) := by decide +kernel
theorem dX5_readFrom_0 : decode cX5_readFrom 0 = .ok (.aload_n 0, 1) := by decide +kernel
theorem dX5_readFrom_1 : decode cX5_readFrom 1 = .ok (.aload_n 1, 1) := by decide +kernel
theorem dX5_readFrom_2 : decode cX5_readFrom 2 = .ok (.invokevirtual 33, 3) := by decide +kernel
theorem dX5_readFrom_5 : decode cX5_readFrom 5 = .ok (.iconst 4, 1) := by decide +kernel
theorem dX5_readFrom_6 : decode cX5_readFrom 6 = .ok (.invokestatic 51, 3) := by decide +kernel
theorem dX5_readFrom_9 : decode cX5_readFrom 9 = .ok (.putfield 18, 3) := by decide +kernel
theorem dX5_readFrom_12 : decode cX5_readFrom 12 = .ok (.iconst 0, 1) := by decide +kernel
theorem dX5_readFrom_13 : decode cX5_readFrom 13 = .ok (.istore_n 2, 1) := by decide +kernel
theorem dX5_readFrom_14 : decode cX5_readFrom 14 = .ok (.iload_n 2, 1) := by decide +kernel
theorem dX5_readFrom_15 : decode cX5_readFrom 15 = .ok (.aload_n 0, 1) := by decide +kernel
theorem dX5_readFrom_16 : decode cX5_readFrom 16 = .ok (.getfield 18, 3) := by decide +kernel
theorem dX5_readFrom_19 : decode cX5_readFrom 19 = .ok (.if_icmp .ge 49, 3) := by decide +kernel
theorem dX5_readFrom_22 : decode cX5_readFrom 22 = .ok (.iload_n 2, 1) := by decide +kernel
theorem dX5_readFrom_23 : decode cX5_readFrom 23 = .ok (.aload_n 0, 1) := by decide +kernel
theorem dX5_readFrom_24 : decode cX5_readFrom 24 = .ok (.getfield 9, 3) := by decide +kernel
theorem dX5_readFrom_27 : decode cX5_readFrom 27 = .ok (.arraylength, 1) := by decide +kernel
theorem dX5_readFrom_28 : decode cX5_readFrom 28 = .ok (.if_icmp .ge 40, 3) := by decide +kernel
theorem dX5_readFrom_31 : decode cX5_readFrom 31 = .ok (.iload_n 2, 1) := by decide +kernel
theorem dX5_readFrom_32 : decode cX5_readFrom 32 = .ok (.aload_n 0, 1) := by decide +kernel
theorem dX5_readFrom_33 : decode cX5_readFrom 33 = .ok (.getfield 15, 3) := by decide +kernel
theorem dX5_readFrom_36 : decode cX5_readFrom 36 = .ok (.arraylength, 1) := by decide +kernel
theorem dX5_readFrom_37 : decode cX5_readFrom 37 = .ok (.if_icmp .ge 31, 3) := by decide +kernel
theorem dX5_readFrom_40 : decode cX5_readFrom 40 = .ok (.aload_n 0, 1) := by decide +kernel
theorem dX5_readFrom_41 : decode cX5_readFrom 41 = .ok (.getfield 9, 3) := by decide +kernel
theorem dX5_readFrom_44 : decode cX5_readFrom 44 = .ok (.iload_n 2, 1) := by decide +kernel
theorem dX5_readFrom_45 : decode cX5_readFrom 45 = .ok (.aload_n 1, 1) := by decide +kernel
theorem dX5_readFrom_46 : decode cX5_readFrom 46 = .ok (.iload_n 2, 1) := by decide +kernel
theorem dX5_readFrom_47 : decode cX5_readFrom 47 = .ok (.invokevirtual 42, 3) := by decide +kernel
theorem dX5_readFrom_50 : decode cX5_readFrom 50 = .ok (.iastore, 1) := by decide +kernel
theorem dX5_readFrom_51 : decode cX5_readFrom 51 = .ok (.aload_n 0, 1) := by decide +kernel
theorem dX5_readFrom_52 : decode cX5_readFrom 52 = .ok (.getfield 15, 3) := by decide +kernel
theorem dX5_readFrom_55 : decode cX5_readFrom 55 = .ok (.iload_n 2, 1) := by decide +kernel
theorem dX5_readFrom_56 : decode cX5_readFrom 56 = .ok (.aload_n 1, 1) := by decide +kernel
theorem dX5_readFrom_57 : decode cX5_readFrom 57 = .ok (.iload_n 2, 1) := by decide +kernel
theorem dX5_readFrom_58 : decode cX5_readFrom 58 = .ok (.invokevirtual 48, 3) := by decide +kernel
theorem dX5_readFrom_61 : decode cX5_readFrom 61 = .ok (.iastore, 1) := by decide +kernel
theorem dX5_readFrom_62 : decode cX5_readFrom 62 = .ok (.iinc 2 1, 3) := by decide +kernel
theorem dX5_readFrom_65 : decode cX5_readFrom 65 = .ok (.goto (-51), 3) := by decide +kernel
theorem dX5_readFrom_68 : decode cX5_readFrom 68 = .ok (.aload_n 0, 1) := by decide +kernel
theorem dX5_readFrom_69 : decode cX5_readFrom 69 = .ok (.iconst 0, 1) := by decide +kernel
theorem dX5_readFrom_70 : decode cX5_readFrom 70 = .ok (.putfield 57, 3) := by decide +kernel
theorem dX5_readFrom_73 : decode cX5_readFrom 73 = .ok (.return_, 1) := by decide +kernel
theorem dX5_takeFrom_0 : decode cX5_takeFrom 0 = .ok (.aload_n 1, 1) := by decide +kernel
theorem dX5_takeFrom_1 : decode cX5_takeFrom 1 = .ok (.getfield 9, 3) := by decide +kernel
theorem dX5_takeFrom_4 : decode cX5_takeFrom 4 = .ok (.aload_n 0, 1) := by decide +kernel
theorem dX5_takeFrom_5 : decode cX5_takeFrom 5 = .ok (.getfield 9, 3) := by decide +kernel
theorem dX5_takeFrom_8 : decode cX5_takeFrom 8 = .ok (.invokestatic 60, 3) := by decide +kernel
theorem dX5_takeFrom_11 : decode cX5_takeFrom 11 = .ok (.aload_n 1, 1) := by decide +kernel
theorem dX5_takeFrom_12 : decode cX5_takeFrom 12 = .ok (.getfield 15, 3) := by decide +kernel
theorem dX5_takeFrom_15 : decode cX5_takeFrom 15 = .ok (.aload_n 0, 1) := by decide +kernel
theorem dX5_takeFrom_16 : decode cX5_takeFrom 16 = .ok (.getfield 15, 3) := by decide +kernel
theorem dX5_takeFrom_19 : decode cX5_takeFrom 19 = .ok (.invokestatic 60, 3) := by decide +kernel
theorem dX5_takeFrom_22 : decode cX5_takeFrom 22 = .ok (.aload_n 0, 1) := by decide +kernel
theorem dX5_takeFrom_23 : decode cX5_takeFrom 23 = .ok (.aload_n 1, 1) := by decide +kernel
theorem dX5_takeFrom_24 : decode cX5_takeFrom 24 = .ok (.getfield 18, 3) := by decide +kernel
theorem dX5_takeFrom_27 : decode cX5_takeFrom 27 = .ok (.putfield 18, 3) := by decide +kernel
theorem dX5_takeFrom_30 : decode cX5_takeFrom 30 = .ok (.aload_n 0, 1) := by decide +kernel
theorem dX5_takeFrom_31 : decode cX5_takeFrom 31 = .ok (.aload_n 1, 1) := by decide +kernel
theorem dX5_takeFrom_32 : decode cX5_takeFrom 32 = .ok (.getfield 57, 3) := by decide +kernel
theorem dX5_takeFrom_35 : decode cX5_takeFrom 35 = .ok (.putfield 57, 3) := by decide +kernel
theorem dX5_takeFrom_38 : decode cX5_takeFrom 38 = .ok (.return_, 1) := by decide +kernel
theorem dX6_init_0 : decode cX6_init 0 = .ok (.aload_n 0, 1) := by decide +kernel
theorem dX6_init_1 : decode cX6_init 1 = .ok (.invokespecial 3, 3) := by decide +kernel
theorem dX6_init_4 : decode cX6_init 4 = .ok (.aload_n 0, 1) := by decide +kernel
theorem dX6_init_5 : decode cX6_init 5 = .ok (.sipush 128, 3) := by decide +kernel
theorem dX6_init_8 : decode cX6_init 8 = .ok (.newarray .int, 2) := by decide +kernel
theorem dX6_init_10 : decode cX6_init 10 = .ok (.putfield 9, 3) := by decide +kernel
theorem dX6_init_13 : decode cX6_init 13 = .ok (.return_, 1) := by decide +kernel
theorem dX6_weightOf_0 : decode cX6_weightOf 0 = .ok (.iload_n 1, 1) := by decide +kernel
theorem dX6_weightOf_1 : decode cX6_weightOf 1 = .ok (.bipush 32, 2) := by decide +kernel
theorem dX6_weightOf_3 : decode cX6_weightOf 3 = .ok (.imul, 1) := by decide +kernel
theorem dX6_weightOf_4 : decode cX6_weightOf 4 = .ok (.iload_n 2, 1) := by decide +kernel
theorem dX6_weightOf_5 : decode cX6_weightOf 5 = .ok (.iadd, 1) := by decide +kernel
theorem dX6_weightOf_6 : decode cX6_weightOf 6 = .ok (.istore_n 3, 1) := by decide +kernel
theorem dX6_weightOf_7 : decode cX6_weightOf 7 = .ok (.iload_n 3, 1) := by decide +kernel
theorem dX6_weightOf_8 : decode cX6_weightOf 8 = .ok (.ifCond .lt 21, 3) := by decide +kernel
theorem dX6_weightOf_11 : decode cX6_weightOf 11 = .ok (.iload_n 3, 1) := by decide +kernel
theorem dX6_weightOf_12 : decode cX6_weightOf 12 = .ok (.aload_n 0, 1) := by decide +kernel
theorem dX6_weightOf_13 : decode cX6_weightOf 13 = .ok (.getfield 9, 3) := by decide +kernel
theorem dX6_weightOf_16 : decode cX6_weightOf 16 = .ok (.arraylength, 1) := by decide +kernel
theorem dX6_weightOf_17 : decode cX6_weightOf 17 = .ok (.if_icmp .ge 12, 3) := by decide +kernel
theorem dX6_weightOf_20 : decode cX6_weightOf 20 = .ok (.aload_n 0, 1) := by decide +kernel
theorem dX6_weightOf_21 : decode cX6_weightOf 21 = .ok (.getfield 9, 3) := by decide +kernel
theorem dX6_weightOf_24 : decode cX6_weightOf 24 = .ok (.iload_n 3, 1) := by decide +kernel
theorem dX6_weightOf_25 : decode cX6_weightOf 25 = .ok (.iaload, 1) := by decide +kernel
theorem dX6_weightOf_26 : decode cX6_weightOf 26 = .ok (.goto 4, 3) := by decide +kernel
theorem dX6_weightOf_29 : decode cX6_weightOf 29 = .ok (.iconst 0, 1) := by decide +kernel
theorem dX6_weightOf_30 : decode cX6_weightOf 30 = .ok (.ireturn, 1) := by decide +kernel
theorem dX6_add_0 : decode cX6_add 0 = .ok (.iload_n 1, 1) := by decide +kernel
theorem dX6_add_1 : decode cX6_add 1 = .ok (.bipush 32, 2) := by decide +kernel
theorem dX6_add_3 : decode cX6_add 3 = .ok (.imul, 1) := by decide +kernel
theorem dX6_add_4 : decode cX6_add 4 = .ok (.iload_n 2, 1) := by decide +kernel
theorem dX6_add_5 : decode cX6_add 5 = .ok (.iadd, 1) := by decide +kernel
theorem dX6_add_6 : decode cX6_add 6 = .ok (.istore 4, 2) := by decide +kernel
theorem dX6_add_8 : decode cX6_add 8 = .ok (.iload 4, 2) := by decide +kernel
theorem dX6_add_10 : decode cX6_add 10 = .ok (.ifCond .lt 24, 3) := by decide +kernel
theorem dX6_add_13 : decode cX6_add 13 = .ok (.iload 4, 2) := by decide +kernel
theorem dX6_add_15 : decode cX6_add 15 = .ok (.aload_n 0, 1) := by decide +kernel
theorem dX6_add_16 : decode cX6_add 16 = .ok (.getfield 9, 3) := by decide +kernel
theorem dX6_add_19 : decode cX6_add 19 = .ok (.arraylength, 1) := by decide +kernel
theorem dX6_add_20 : decode cX6_add 20 = .ok (.if_icmp .ge 14, 3) := by decide +kernel
theorem dX6_add_23 : decode cX6_add 23 = .ok (.aload_n 0, 1) := by decide +kernel
theorem dX6_add_24 : decode cX6_add 24 = .ok (.getfield 9, 3) := by decide +kernel
theorem dX6_add_27 : decode cX6_add 27 = .ok (.iload 4, 2) := by decide +kernel
theorem dX6_add_29 : decode cX6_add 29 = .ok (.dup2, 1) := by decide +kernel
theorem dX6_add_30 : decode cX6_add 30 = .ok (.iaload, 1) := by decide +kernel
theorem dX6_add_31 : decode cX6_add 31 = .ok (.iload_n 3, 1) := by decide +kernel
theorem dX6_add_32 : decode cX6_add 32 = .ok (.iadd, 1) := by decide +kernel
theorem dX6_add_33 : decode cX6_add 33 = .ok (.iastore, 1) := by decide +kernel
theorem dX6_add_34 : decode cX6_add 34 = .ok (.return_, 1) := by decide +kernel
theorem dX6_weightWhere_0 : decode cX6_weightWhere 0 = .ok (.iconst 0, 1) := by decide +kernel
theorem dX6_weightWhere_1 : decode cX6_weightWhere 1 = .ok (.istore 4, 2) := by decide +kernel
theorem dX6_weightWhere_3 : decode cX6_weightWhere 3 = .ok (.iconst 0, 1) := by decide +kernel
theorem dX6_weightWhere_4 : decode cX6_weightWhere 4 = .ok (.istore 5, 2) := by decide +kernel
theorem dX6_weightWhere_6 : decode cX6_weightWhere 6 = .ok (.iload 5, 2) := by decide +kernel
theorem dX6_weightWhere_8 : decode cX6_weightWhere 8 = .ok (.bipush 32, 2) := by decide +kernel
theorem dX6_weightWhere_10 : decode cX6_weightWhere 10 = .ok (.if_icmp .ge 31, 3) := by decide +kernel
theorem dX6_weightWhere_13 : decode cX6_weightWhere 13 = .ok (.iload 5, 2) := by decide +kernel
theorem dX6_weightWhere_15 : decode cX6_weightWhere 15 = .ok (.iload_n 2, 1) := by decide +kernel
theorem dX6_weightWhere_16 : decode cX6_weightWhere 16 = .ok (.iload_n 3, 1) := by decide +kernel
theorem dX6_weightWhere_17 : decode cX6_weightWhere 17 = .ok (.invokestatic 15, 3) := by decide +kernel
theorem dX6_weightWhere_20 : decode cX6_weightWhere 20 = .ok (.ifCond .eq 15, 3) := by decide +kernel
theorem dX6_weightWhere_23 : decode cX6_weightWhere 23 = .ok (.iload 4, 2) := by decide +kernel
theorem dX6_weightWhere_25 : decode cX6_weightWhere 25 = .ok (.aload_n 0, 1) := by decide +kernel
theorem dX6_weightWhere_26 : decode cX6_weightWhere 26 = .ok (.iload_n 1, 1) := by decide +kernel
theorem dX6_weightWhere_27 : decode cX6_weightWhere 27 = .ok (.iload 5, 2) := by decide +kernel
theorem dX6_weightWhere_29 : decode cX6_weightWhere 29 = .ok (.invokevirtual 19, 3) := by decide +kernel
theorem dX6_weightWhere_32 : decode cX6_weightWhere 32 = .ok (.iadd, 1) := by decide +kernel
theorem dX6_weightWhere_33 : decode cX6_weightWhere 33 = .ok (.istore 4, 2) := by decide +kernel
theorem dX6_weightWhere_35 : decode cX6_weightWhere 35 = .ok (.iinc 5 1, 3) := by decide +kernel
theorem dX6_weightWhere_38 : decode cX6_weightWhere 38 = .ok (.goto (-32), 3) := by decide +kernel
theorem dX6_weightWhere_41 : decode cX6_weightWhere 41 = .ok (.iload 4, 2) := by decide +kernel
theorem dX6_weightWhere_43 : decode cX6_weightWhere 43 = .ok (.ireturn, 1) := by decide +kernel
theorem dX6_takeFrom_0 : decode cX6_takeFrom 0 = .ok (.aload_n 1, 1) := by decide +kernel
theorem dX6_takeFrom_1 : decode cX6_takeFrom 1 = .ok (.getfield 9, 3) := by decide +kernel
theorem dX6_takeFrom_4 : decode cX6_takeFrom 4 = .ok (.aload_n 0, 1) := by decide +kernel
theorem dX6_takeFrom_5 : decode cX6_takeFrom 5 = .ok (.getfield 9, 3) := by decide +kernel
theorem dX6_takeFrom_8 : decode cX6_takeFrom 8 = .ok (.invokestatic 23, 3) := by decide +kernel
theorem dX6_takeFrom_11 : decode cX6_takeFrom 11 = .ok (.aload_n 0, 1) := by decide +kernel
theorem dX6_takeFrom_12 : decode cX6_takeFrom 12 = .ok (.aload_n 1, 1) := by decide +kernel
theorem dX6_takeFrom_13 : decode cX6_takeFrom 13 = .ok (.getfield 27, 3) := by decide +kernel
theorem dX6_takeFrom_16 : decode cX6_takeFrom 16 = .ok (.putfield 27, 3) := by decide +kernel
theorem dX6_takeFrom_19 : decode cX6_takeFrom 19 = .ok (.return_, 1) := by decide +kernel
theorem dX7_init_0 : decode cX7_init 0 = .ok (.aload_n 0, 1) := by decide +kernel
theorem dX7_init_1 : decode cX7_init 1 = .ok (.invokespecial 3, 3) := by decide +kernel
theorem dX7_init_4 : decode cX7_init 4 = .ok (.aload_n 0, 1) := by decide +kernel
theorem dX7_init_5 : decode cX7_init 5 = .ok (.sipush 150, 3) := by decide +kernel
theorem dX7_init_8 : decode cX7_init 8 = .ok (.newarray .int, 2) := by decide +kernel
theorem dX7_init_10 : decode cX7_init 10 = .ok (.putfield 11, 3) := by decide +kernel
theorem dX7_init_13 : decode cX7_init 13 = .ok (.aload_n 0, 1) := by decide +kernel
theorem dX7_init_14 : decode cX7_init 14 = .ok (.new 15, 3) := by decide +kernel
theorem dX7_init_17 : decode cX7_init 17 = .ok (.dup, 1) := by decide +kernel
theorem dX7_init_18 : decode cX7_init 18 = .ok (.invokespecial 17, 3) := by decide +kernel
theorem dX7_init_21 : decode cX7_init 21 = .ok (.putfield 18, 3) := by decide +kernel
theorem dX7_init_24 : decode cX7_init 24 = .ok (.return_, 1) := by decide +kernel
theorem dX7_hasRow_0 : decode cX7_hasRow 0 = .ok (.iload_n 1, 1) := by decide +kernel
theorem dX7_hasRow_1 : decode cX7_hasRow 1 = .ok (.ifCond .lt 15, 3) := by decide +kernel
theorem dX7_hasRow_4 : decode cX7_hasRow 4 = .ok (.iload_n 1, 1) := by decide +kernel
theorem dX7_hasRow_5 : decode cX7_hasRow 5 = .ok (.aload_n 0, 1) := by decide +kernel
theorem dX7_hasRow_6 : decode cX7_hasRow 6 = .ok (.getfield 22, 3) := by decide +kernel
theorem dX7_hasRow_9 : decode cX7_hasRow 9 = .ok (.if_icmp .ge 7, 3) := by decide +kernel
theorem dX7_hasRow_12 : decode cX7_hasRow 12 = .ok (.iconst 1, 1) := by decide +kernel
theorem dX7_hasRow_13 : decode cX7_hasRow 13 = .ok (.goto 4, 3) := by decide +kernel
theorem dX7_hasRow_16 : decode cX7_hasRow 16 = .ok (.iconst 0, 1) := by decide +kernel
theorem dX7_hasRow_17 : decode cX7_hasRow 17 = .ok (.ireturn, 1) := by decide +kernel
theorem dX7_cellAt_0 : decode cX7_cellAt 0 = .ok (.aload_n 0, 1) := by decide +kernel
theorem dX7_cellAt_1 : decode cX7_cellAt 1 = .ok (.getfield 11, 3) := by decide +kernel
theorem dX7_cellAt_4 : decode cX7_cellAt 4 = .ok (.iload_n 1, 1) := by decide +kernel
theorem dX7_cellAt_5 : decode cX7_cellAt 5 = .ok (.iconst 5, 1) := by decide +kernel
theorem dX7_cellAt_6 : decode cX7_cellAt 6 = .ok (.imul, 1) := by decide +kernel
theorem dX7_cellAt_7 : decode cX7_cellAt 7 = .ok (.iload_n 2, 1) := by decide +kernel
theorem dX7_cellAt_8 : decode cX7_cellAt 8 = .ok (.iadd, 1) := by decide +kernel
theorem dX7_cellAt_9 : decode cX7_cellAt 9 = .ok (.invokestatic 26, 3) := by decide +kernel
theorem dX7_cellAt_12 : decode cX7_cellAt 12 = .ok (.ireturn, 1) := by decide +kernel
theorem dX7_append_0 : decode cX7_append 0 = .ok (.iconst 0, 1) := by decide +kernel
theorem dX7_append_1 : decode cX7_append 1 = .ok (.istore_n 3, 1) := by decide +kernel
theorem dX7_append_2 : decode cX7_append 2 = .ok (.iload_n 3, 1) := by decide +kernel
theorem dX7_append_3 : decode cX7_append 3 = .ok (.iconst 4, 1) := by decide +kernel
theorem dX7_append_4 : decode cX7_append 4 = .ok (.if_icmp .ge 23, 3) := by decide +kernel
theorem dX7_append_7 : decode cX7_append 7 = .ok (.aload_n 0, 1) := by decide +kernel
theorem dX7_append_8 : decode cX7_append 8 = .ok (.aload_n 0, 1) := by decide +kernel
theorem dX7_append_9 : decode cX7_append 9 = .ok (.getfield 22, 3) := by decide +kernel
theorem dX7_append_12 : decode cX7_append 12 = .ok (.iload_n 3, 1) := by decide +kernel
theorem dX7_append_13 : decode cX7_append 13 = .ok (.aload_n 1, 1) := by decide +kernel
theorem dX7_append_14 : decode cX7_append 14 = .ok (.iload_n 3, 1) := by decide +kernel
theorem dX7_append_15 : decode cX7_append 15 = .ok (.invokestatic 26, 3) := by decide +kernel
theorem dX7_append_18 : decode cX7_append 18 = .ok (.invokevirtual 30, 3) := by decide +kernel
theorem dX7_append_21 : decode cX7_append 21 = .ok (.iinc 3 1, 3) := by decide +kernel
theorem dX7_append_24 : decode cX7_append 24 = .ok (.goto (-22), 3) := by decide +kernel
theorem dX7_append_27 : decode cX7_append 27 = .ok (.aload_n 0, 1) := by decide +kernel
theorem dX7_append_28 : decode cX7_append 28 = .ok (.aload_n 0, 1) := by decide +kernel
theorem dX7_append_29 : decode cX7_append 29 = .ok (.getfield 22, 3) := by decide +kernel
theorem dX7_append_32 : decode cX7_append 32 = .ok (.iconst 4, 1) := by decide +kernel
theorem dX7_append_33 : decode cX7_append 33 = .ok (.iload_n 2, 1) := by decide +kernel
theorem dX7_append_34 : decode cX7_append 34 = .ok (.invokevirtual 30, 3) := by decide +kernel
theorem dX7_append_37 : decode cX7_append 37 = .ok (.aload_n 0, 1) := by decide +kernel
theorem dX7_append_38 : decode cX7_append 38 = .ok (.aload_n 0, 1) := by decide +kernel
theorem dX7_append_39 : decode cX7_append 39 = .ok (.getfield 22, 3) := by decide +kernel
theorem dX7_append_42 : decode cX7_append 42 = .ok (.iload_n 2, 1) := by decide +kernel
theorem dX7_append_43 : decode cX7_append 43 = .ok (.invokevirtual 34, 3) := by decide +kernel
theorem dX7_append_46 : decode cX7_append 46 = .ok (.aload_n 0, 1) := by decide +kernel
theorem dX7_append_47 : decode cX7_append 47 = .ok (.dup, 1) := by decide +kernel
theorem dX7_append_48 : decode cX7_append 48 = .ok (.getfield 22, 3) := by decide +kernel
theorem dX7_append_51 : decode cX7_append 51 = .ok (.iconst 1, 1) := by decide +kernel
theorem dX7_append_52 : decode cX7_append 52 = .ok (.iadd, 1) := by decide +kernel
theorem dX7_append_53 : decode cX7_append 53 = .ok (.putfield 22, 3) := by decide +kernel
theorem dX7_append_56 : decode cX7_append 56 = .ok (.aload_n 0, 1) := by decide +kernel
theorem dX7_append_57 : decode cX7_append 57 = .ok (.getfield 22, 3) := by decide +kernel
theorem dX7_append_60 : decode cX7_append 60 = .ok (.iconst 1, 1) := by decide +kernel
theorem dX7_append_61 : decode cX7_append 61 = .ok (.isub, 1) := by decide +kernel
theorem dX7_append_62 : decode cX7_append 62 = .ok (.ireturn, 1) := by decide +kernel
theorem dX7_remove_0 : decode cX7_remove 0 = .ok (.aload_n 0, 1) := by decide +kernel
theorem dX7_remove_1 : decode cX7_remove 1 = .ok (.iload_n 1, 1) := by decide +kernel
theorem dX7_remove_2 : decode cX7_remove 2 = .ok (.iconst 4, 1) := by decide +kernel
theorem dX7_remove_3 : decode cX7_remove 3 = .ok (.invokevirtual 38, 3) := by decide +kernel
theorem dX7_remove_6 : decode cX7_remove 6 = .ok (.istore_n 2, 1) := by decide +kernel
theorem dX7_remove_7 : decode cX7_remove 7 = .ok (.aload_n 0, 1) := by decide +kernel
theorem dX7_remove_8 : decode cX7_remove 8 = .ok (.iload_n 1, 1) := by decide +kernel
theorem dX7_remove_9 : decode cX7_remove 9 = .ok (.iload_n 2, 1) := by decide +kernel
theorem dX7_remove_10 : decode cX7_remove 10 = .ok (.ineg, 1) := by decide +kernel
theorem dX7_remove_11 : decode cX7_remove 11 = .ok (.invokevirtual 34, 3) := by decide +kernel
theorem dX7_remove_14 : decode cX7_remove 14 = .ok (.aload_n 0, 1) := by decide +kernel
theorem dX7_remove_15 : decode cX7_remove 15 = .ok (.dup, 1) := by decide +kernel
theorem dX7_remove_16 : decode cX7_remove 16 = .ok (.getfield 22, 3) := by decide +kernel
theorem dX7_remove_19 : decode cX7_remove 19 = .ok (.iconst 1, 1) := by decide +kernel
theorem dX7_remove_20 : decode cX7_remove 20 = .ok (.isub, 1) := by decide +kernel
theorem dX7_remove_21 : decode cX7_remove 21 = .ok (.putfield 22, 3) := by decide +kernel
theorem dX7_remove_24 : decode cX7_remove 24 = .ok (.iload_n 1, 1) := by decide +kernel
theorem dX7_remove_25 : decode cX7_remove 25 = .ok (.iconst 5, 1) := by decide +kernel
theorem dX7_remove_26 : decode cX7_remove 26 = .ok (.imul, 1) := by decide +kernel
theorem dX7_remove_27 : decode cX7_remove 27 = .ok (.istore_n 3, 1) := by decide +kernel
theorem dX7_remove_28 : decode cX7_remove 28 = .ok (.iload_n 3, 1) := by decide +kernel
theorem dX7_remove_29 : decode cX7_remove 29 = .ok (.ifCond .lt 44, 3) := by decide +kernel
theorem dX7_remove_32 : decode cX7_remove 32 = .ok (.iload_n 3, 1) := by decide +kernel
theorem dX7_remove_33 : decode cX7_remove 33 = .ok (.aload_n 0, 1) := by decide +kernel
theorem dX7_remove_34 : decode cX7_remove 34 = .ok (.getfield 22, 3) := by decide +kernel
theorem dX7_remove_37 : decode cX7_remove 37 = .ok (.iconst 5, 1) := by decide +kernel
theorem dX7_remove_38 : decode cX7_remove 38 = .ok (.imul, 1) := by decide +kernel
theorem dX7_remove_39 : decode cX7_remove 39 = .ok (.if_icmp .ge 34, 3) := by decide +kernel
theorem dX7_remove_42 : decode cX7_remove 42 = .ok (.iload_n 3, 1) := by decide +kernel
theorem dX7_remove_43 : decode cX7_remove 43 = .ok (.aload_n 0, 1) := by decide +kernel
theorem dX7_remove_44 : decode cX7_remove 44 = .ok (.getfield 11, 3) := by decide +kernel
theorem dX7_remove_47 : decode cX7_remove 47 = .ok (.arraylength, 1) := by decide +kernel
theorem dX7_remove_48 : decode cX7_remove 48 = .ok (.iconst 5, 1) := by decide +kernel
theorem dX7_remove_49 : decode cX7_remove 49 = .ok (.isub, 1) := by decide +kernel
theorem dX7_remove_50 : decode cX7_remove 50 = .ok (.if_icmp .ge 23, 3) := by decide +kernel
theorem dX7_remove_53 : decode cX7_remove 53 = .ok (.aload_n 0, 1) := by decide +kernel
theorem dX7_remove_54 : decode cX7_remove 54 = .ok (.getfield 11, 3) := by decide +kernel
theorem dX7_remove_57 : decode cX7_remove 57 = .ok (.iload_n 3, 1) := by decide +kernel
theorem dX7_remove_58 : decode cX7_remove 58 = .ok (.aload_n 0, 1) := by decide +kernel
theorem dX7_remove_59 : decode cX7_remove 59 = .ok (.getfield 11, 3) := by decide +kernel
theorem dX7_remove_62 : decode cX7_remove 62 = .ok (.iload_n 3, 1) := by decide +kernel
theorem dX7_remove_63 : decode cX7_remove 63 = .ok (.iconst 5, 1) := by decide +kernel
theorem dX7_remove_64 : decode cX7_remove 64 = .ok (.iadd, 1) := by decide +kernel
theorem dX7_remove_65 : decode cX7_remove 65 = .ok (.iaload, 1) := by decide +kernel
theorem dX7_remove_66 : decode cX7_remove 66 = .ok (.iastore, 1) := by decide +kernel
theorem dX7_remove_67 : decode cX7_remove 67 = .ok (.iinc 3 1, 3) := by decide +kernel
theorem dX7_remove_70 : decode cX7_remove 70 = .ok (.goto (-42), 3) := by decide +kernel
theorem dX7_remove_73 : decode cX7_remove 73 = .ok (.iload_n 2, 1) := by decide +kernel
theorem dX7_remove_74 : decode cX7_remove 74 = .ok (.ireturn, 1) := by decide +kernel
theorem dX7_weightWhere_0 : decode cX7_weightWhere 0 = .ok (.iconst 0, 1) := by decide +kernel
theorem dX7_weightWhere_1 : decode cX7_weightWhere 1 = .ok (.istore_n 3, 1) := by decide +kernel
theorem dX7_weightWhere_2 : decode cX7_weightWhere 2 = .ok (.iconst 0, 1) := by decide +kernel
theorem dX7_weightWhere_3 : decode cX7_weightWhere 3 = .ok (.istore 4, 2) := by decide +kernel
theorem dX7_weightWhere_5 : decode cX7_weightWhere 5 = .ok (.iload 4, 2) := by decide +kernel
theorem dX7_weightWhere_7 : decode cX7_weightWhere 7 = .ok (.aload_n 0, 1) := by decide +kernel
theorem dX7_weightWhere_8 : decode cX7_weightWhere 8 = .ok (.getfield 22, 3) := by decide +kernel
theorem dX7_weightWhere_11 : decode cX7_weightWhere 11 = .ok (.if_icmp .ge 30, 3) := by decide +kernel
theorem dX7_weightWhere_14 : decode cX7_weightWhere 14 = .ok (.aload_n 0, 1) := by decide +kernel
theorem dX7_weightWhere_15 : decode cX7_weightWhere 15 = .ok (.iload 4, 2) := by decide +kernel
theorem dX7_weightWhere_17 : decode cX7_weightWhere 17 = .ok (.aload_n 1, 1) := by decide +kernel
theorem dX7_weightWhere_18 : decode cX7_weightWhere 18 = .ok (.aload_n 2, 1) := by decide +kernel
theorem dX7_weightWhere_19 : decode cX7_weightWhere 19 = .ok (.invokevirtual 42, 3) := by decide +kernel
theorem dX7_weightWhere_22 : decode cX7_weightWhere 22 = .ok (.ifCond .eq 13, 3) := by decide +kernel
theorem dX7_weightWhere_25 : decode cX7_weightWhere 25 = .ok (.iload_n 3, 1) := by decide +kernel
theorem dX7_weightWhere_26 : decode cX7_weightWhere 26 = .ok (.aload_n 0, 1) := by decide +kernel
theorem dX7_weightWhere_27 : decode cX7_weightWhere 27 = .ok (.iload 4, 2) := by decide +kernel
theorem dX7_weightWhere_29 : decode cX7_weightWhere 29 = .ok (.iconst 4, 1) := by decide +kernel
theorem dX7_weightWhere_30 : decode cX7_weightWhere 30 = .ok (.invokevirtual 38, 3) := by decide +kernel
theorem dX7_weightWhere_33 : decode cX7_weightWhere 33 = .ok (.iadd, 1) := by decide +kernel
theorem dX7_weightWhere_34 : decode cX7_weightWhere 34 = .ok (.istore_n 3, 1) := by decide +kernel
theorem dX7_weightWhere_35 : decode cX7_weightWhere 35 = .ok (.iinc 4 1, 3) := by decide +kernel
theorem dX7_weightWhere_38 : decode cX7_weightWhere 38 = .ok (.goto (-33), 3) := by decide +kernel
theorem dX7_weightWhere_41 : decode cX7_weightWhere 41 = .ok (.iload_n 3, 1) := by decide +kernel
theorem dX7_weightWhere_42 : decode cX7_weightWhere 42 = .ok (.ireturn, 1) := by decide +kernel
theorem dX7_fits_0 : decode cX7_fits 0 = .ok (.iconst 0, 1) := by decide +kernel
theorem dX7_fits_1 : decode cX7_fits 1 = .ok (.istore 4, 2) := by decide +kernel
theorem dX7_fits_3 : decode cX7_fits 3 = .ok (.iload 4, 2) := by decide +kernel
theorem dX7_fits_5 : decode cX7_fits 5 = .ok (.aload_n 2, 1) := by decide +kernel
theorem dX7_fits_6 : decode cX7_fits 6 = .ok (.getfield 46, 3) := by decide +kernel
theorem dX7_fits_9 : decode cX7_fits 9 = .ok (.if_icmp .ge 44, 3) := by decide +kernel
theorem dX7_fits_12 : decode cX7_fits 12 = .ok (.aload_n 0, 1) := by decide +kernel
theorem dX7_fits_13 : decode cX7_fits 13 = .ok (.iload_n 1, 1) := by decide +kernel
theorem dX7_fits_14 : decode cX7_fits 14 = .ok (.aload_n 2, 1) := by decide +kernel
theorem dX7_fits_15 : decode cX7_fits 15 = .ok (.iload 4, 2) := by decide +kernel
theorem dX7_fits_17 : decode cX7_fits 17 = .ok (.invokevirtual 51, 3) := by decide +kernel
theorem dX7_fits_20 : decode cX7_fits 20 = .ok (.invokevirtual 38, 3) := by decide +kernel
theorem dX7_fits_23 : decode cX7_fits 23 = .ok (.istore 5, 2) := by decide +kernel
theorem dX7_fits_25 : decode cX7_fits 25 = .ok (.iload 5, 2) := by decide +kernel
theorem dX7_fits_27 : decode cX7_fits 27 = .ok (.aload_n 2, 1) := by decide +kernel
theorem dX7_fits_28 : decode cX7_fits 28 = .ok (.iload 4, 2) := by decide +kernel
theorem dX7_fits_30 : decode cX7_fits 30 = .ok (.invokevirtual 55, 3) := by decide +kernel
theorem dX7_fits_33 : decode cX7_fits 33 = .ok (.aload_n 3, 1) := by decide +kernel
theorem dX7_fits_34 : decode cX7_fits 34 = .ok (.iload 4, 2) := by decide +kernel
theorem dX7_fits_36 : decode cX7_fits 36 = .ok (.invokestatic 26, 3) := by decide +kernel
theorem dX7_fits_39 : decode cX7_fits 39 = .ok (.invokestatic 58, 3) := by decide +kernel
theorem dX7_fits_42 : decode cX7_fits 42 = .ok (.ifCond .ne 5, 3) := by decide +kernel
theorem dX7_fits_45 : decode cX7_fits 45 = .ok (.iconst 0, 1) := by decide +kernel
theorem dX7_fits_46 : decode cX7_fits 46 = .ok (.ireturn, 1) := by decide +kernel
theorem dX7_fits_47 : decode cX7_fits 47 = .ok (.iinc 4 1, 3) := by decide +kernel
theorem dX7_fits_50 : decode cX7_fits 50 = .ok (.goto (-47), 3) := by decide +kernel
theorem dX7_fits_53 : decode cX7_fits 53 = .ok (.iconst 1, 1) := by decide +kernel
theorem dX7_fits_54 : decode cX7_fits 54 = .ok (.ireturn, 1) := by decide +kernel
theorem dX7_put_0 : decode cX7_put 0 = .ok (.iload_n 1, 1) := by decide +kernel
theorem dX7_put_1 : decode cX7_put 1 = .ok (.iconst 5, 1) := by decide +kernel
theorem dX7_put_2 : decode cX7_put 2 = .ok (.imul, 1) := by decide +kernel
theorem dX7_put_3 : decode cX7_put 3 = .ok (.iload_n 2, 1) := by decide +kernel
theorem dX7_put_4 : decode cX7_put 4 = .ok (.iadd, 1) := by decide +kernel
theorem dX7_put_5 : decode cX7_put 5 = .ok (.istore 4, 2) := by decide +kernel
theorem dX7_put_7 : decode cX7_put 7 = .ok (.iload 4, 2) := by decide +kernel
theorem dX7_put_9 : decode cX7_put 9 = .ok (.ifCond .lt 21, 3) := by decide +kernel
theorem dX7_put_12 : decode cX7_put 12 = .ok (.iload 4, 2) := by decide +kernel
theorem dX7_put_14 : decode cX7_put 14 = .ok (.aload_n 0, 1) := by decide +kernel
theorem dX7_put_15 : decode cX7_put 15 = .ok (.getfield 11, 3) := by decide +kernel
theorem dX7_put_18 : decode cX7_put 18 = .ok (.arraylength, 1) := by decide +kernel
theorem dX7_put_19 : decode cX7_put 19 = .ok (.if_icmp .ge 11, 3) := by decide +kernel
theorem dX7_put_22 : decode cX7_put 22 = .ok (.aload_n 0, 1) := by decide +kernel
theorem dX7_put_23 : decode cX7_put 23 = .ok (.getfield 11, 3) := by decide +kernel
theorem dX7_put_26 : decode cX7_put 26 = .ok (.iload 4, 2) := by decide +kernel
theorem dX7_put_28 : decode cX7_put 28 = .ok (.iload_n 3, 1) := by decide +kernel
theorem dX7_put_29 : decode cX7_put 29 = .ok (.iastore, 1) := by decide +kernel
theorem dX7_put_30 : decode cX7_put 30 = .ok (.return_, 1) := by decide +kernel
theorem dX7_addToSums_0 : decode cX7_addToSums 0 = .ok (.iconst 0, 1) := by decide +kernel
theorem dX7_addToSums_1 : decode cX7_addToSums 1 = .ok (.istore_n 3, 1) := by decide +kernel
theorem dX7_addToSums_2 : decode cX7_addToSums 2 = .ok (.iload_n 3, 1) := by decide +kernel
theorem dX7_addToSums_3 : decode cX7_addToSums 3 = .ok (.iconst 4, 1) := by decide +kernel
theorem dX7_addToSums_4 : decode cX7_addToSums 4 = .ok (.if_icmp .ge 24, 3) := by decide +kernel
theorem dX7_addToSums_7 : decode cX7_addToSums 7 = .ok (.aload_n 0, 1) := by decide +kernel
theorem dX7_addToSums_8 : decode cX7_addToSums 8 = .ok (.getfield 18, 3) := by decide +kernel
theorem dX7_addToSums_11 : decode cX7_addToSums 11 = .ok (.iload_n 3, 1) := by decide +kernel
theorem dX7_addToSums_12 : decode cX7_addToSums 12 = .ok (.aload_n 0, 1) := by decide +kernel
theorem dX7_addToSums_13 : decode cX7_addToSums 13 = .ok (.iload_n 1, 1) := by decide +kernel
theorem dX7_addToSums_14 : decode cX7_addToSums 14 = .ok (.iload_n 3, 1) := by decide +kernel
theorem dX7_addToSums_15 : decode cX7_addToSums 15 = .ok (.invokevirtual 38, 3) := by decide +kernel
theorem dX7_addToSums_18 : decode cX7_addToSums 18 = .ok (.iload_n 2, 1) := by decide +kernel
theorem dX7_addToSums_19 : decode cX7_addToSums 19 = .ok (.invokevirtual 62, 3) := by decide +kernel
theorem dX7_addToSums_22 : decode cX7_addToSums 22 = .ok (.iinc 3 1, 3) := by decide +kernel
theorem dX7_addToSums_25 : decode cX7_addToSums 25 = .ok (.goto (-23), 3) := by decide +kernel
theorem dX7_addToSums_28 : decode cX7_addToSums 28 = .ok (.aload_n 0, 1) := by decide +kernel
theorem dX7_addToSums_29 : decode cX7_addToSums 29 = .ok (.getfield 18, 3) := by decide +kernel
theorem dX7_addToSums_32 : decode cX7_addToSums 32 = .ok (.dup, 1) := by decide +kernel
theorem dX7_addToSums_33 : decode cX7_addToSums 33 = .ok (.getfield 65, 3) := by decide +kernel
theorem dX7_addToSums_36 : decode cX7_addToSums 36 = .ok (.iload_n 2, 1) := by decide +kernel
theorem dX7_addToSums_37 : decode cX7_addToSums 37 = .ok (.iadd, 1) := by decide +kernel
theorem dX7_addToSums_38 : decode cX7_addToSums 38 = .ok (.putfield 65, 3) := by decide +kernel
theorem dX7_addToSums_41 : decode cX7_addToSums 41 = .ok (.return_, 1) := by decide +kernel
theorem dX7_takeFrom_0 : decode cX7_takeFrom 0 = .ok (.aload_n 1, 1) := by decide +kernel
theorem dX7_takeFrom_1 : decode cX7_takeFrom 1 = .ok (.getfield 11, 3) := by decide +kernel
theorem dX7_takeFrom_4 : decode cX7_takeFrom 4 = .ok (.aload_n 0, 1) := by decide +kernel
theorem dX7_takeFrom_5 : decode cX7_takeFrom 5 = .ok (.getfield 11, 3) := by decide +kernel
theorem dX7_takeFrom_8 : decode cX7_takeFrom 8 = .ok (.invokestatic 68, 3) := by decide +kernel
theorem dX7_takeFrom_11 : decode cX7_takeFrom 11 = .ok (.aload_n 0, 1) := by decide +kernel
theorem dX7_takeFrom_12 : decode cX7_takeFrom 12 = .ok (.getfield 18, 3) := by decide +kernel
theorem dX7_takeFrom_15 : decode cX7_takeFrom 15 = .ok (.aload_n 1, 1) := by decide +kernel
theorem dX7_takeFrom_16 : decode cX7_takeFrom 16 = .ok (.getfield 18, 3) := by decide +kernel
theorem dX7_takeFrom_19 : decode cX7_takeFrom 19 = .ok (.invokevirtual 72, 3) := by decide +kernel
theorem dX7_takeFrom_22 : decode cX7_takeFrom 22 = .ok (.aload_n 0, 1) := by decide +kernel
theorem dX7_takeFrom_23 : decode cX7_takeFrom 23 = .ok (.aload_n 1, 1) := by decide +kernel
theorem dX7_takeFrom_24 : decode cX7_takeFrom 24 = .ok (.getfield 22, 3) := by decide +kernel
theorem dX7_takeFrom_27 : decode cX7_takeFrom 27 = .ok (.putfield 22, 3) := by decide +kernel
theorem dX7_takeFrom_30 : decode cX7_takeFrom 30 = .ok (.return_, 1) := by decide +kernel
theorem dX8_init_0 : decode cX8_init 0 = .ok (.aload_n 0, 1) := by decide +kernel
theorem dX8_init_1 : decode cX8_init 1 = .ok (.invokespecial 3, 3) := by decide +kernel
theorem dX8_init_4 : decode cX8_init 4 = .ok (.aload_n 0, 1) := by decide +kernel
theorem dX8_init_5 : decode cX8_init 5 = .ok (.bipush 30, 2) := by decide +kernel
theorem dX8_init_7 : decode cX8_init 7 = .ok (.newarray .char, 2) := by decide +kernel
theorem dX8_init_9 : decode cX8_init 9 = .ok (.putfield 9, 3) := by decide +kernel
theorem dX8_init_12 : decode cX8_init 12 = .ok (.return_, 1) := by decide +kernel
theorem dX8_append_0 : decode cX8_append 0 = .ok (.aload_n 0, 1) := by decide +kernel
theorem dX8_append_1 : decode cX8_append 1 = .ok (.getfield 15, 3) := by decide +kernel
theorem dX8_append_4 : decode cX8_append 4 = .ok (.ifCond .lt 35, 3) := by decide +kernel
theorem dX8_append_7 : decode cX8_append 7 = .ok (.aload_n 0, 1) := by decide +kernel
theorem dX8_append_8 : decode cX8_append 8 = .ok (.getfield 15, 3) := by decide +kernel
theorem dX8_append_11 : decode cX8_append 11 = .ok (.aload_n 0, 1) := by decide +kernel
theorem dX8_append_12 : decode cX8_append 12 = .ok (.getfield 9, 3) := by decide +kernel
theorem dX8_append_15 : decode cX8_append 15 = .ok (.arraylength, 1) := by decide +kernel
theorem dX8_append_16 : decode cX8_append 16 = .ok (.if_icmp .ge 23, 3) := by decide +kernel
theorem dX8_append_19 : decode cX8_append 19 = .ok (.aload_n 0, 1) := by decide +kernel
theorem dX8_append_20 : decode cX8_append 20 = .ok (.getfield 9, 3) := by decide +kernel
theorem dX8_append_23 : decode cX8_append 23 = .ok (.aload_n 0, 1) := by decide +kernel
theorem dX8_append_24 : decode cX8_append 24 = .ok (.getfield 15, 3) := by decide +kernel
theorem dX8_append_27 : decode cX8_append 27 = .ok (.iload_n 1, 1) := by decide +kernel
theorem dX8_append_28 : decode cX8_append 28 = .ok (.castore, 1) := by decide +kernel
theorem dX8_append_29 : decode cX8_append 29 = .ok (.aload_n 0, 1) := by decide +kernel
theorem dX8_append_30 : decode cX8_append 30 = .ok (.dup, 1) := by decide +kernel
theorem dX8_append_31 : decode cX8_append 31 = .ok (.getfield 15, 3) := by decide +kernel
theorem dX8_append_34 : decode cX8_append 34 = .ok (.iconst 1, 1) := by decide +kernel
theorem dX8_append_35 : decode cX8_append 35 = .ok (.iadd, 1) := by decide +kernel
theorem dX8_append_36 : decode cX8_append 36 = .ok (.putfield 15, 3) := by decide +kernel
theorem dX8_append_39 : decode cX8_append 39 = .ok (.aload_n 0, 1) := by decide +kernel
theorem dX8_append_40 : decode cX8_append 40 = .ok (.getfield 15, 3) := by decide +kernel
theorem dX8_append_43 : decode cX8_append 43 = .ok (.ireturn, 1) := by decide +kernel
theorem dX8_empty_0 : decode cX8_empty 0 = .ok (.aload_n 0, 1) := by decide +kernel
theorem dX8_empty_1 : decode cX8_empty 1 = .ok (.getfield 15, 3) := by decide +kernel
theorem dX8_empty_4 : decode cX8_empty 4 = .ok (.istore_n 1, 1) := by decide +kernel
theorem dX8_empty_5 : decode cX8_empty 5 = .ok (.aload_n 0, 1) := by decide +kernel
theorem dX8_empty_6 : decode cX8_empty 6 = .ok (.iconst 0, 1) := by decide +kernel
theorem dX8_empty_7 : decode cX8_empty 7 = .ok (.putfield 15, 3) := by decide +kernel
theorem dX8_empty_10 : decode cX8_empty 10 = .ok (.iload_n 1, 1) := by decide +kernel
theorem dX8_empty_11 : decode cX8_empty 11 = .ok (.ireturn, 1) := by decide +kernel
theorem dX8_faultPlace_0 : decode cX8_faultPlace 0 = .ok (.iconst 0, 1) := by decide +kernel
theorem dX8_faultPlace_1 : decode cX8_faultPlace 1 = .ok (.istore_n 1, 1) := by decide +kernel
theorem dX8_faultPlace_2 : decode cX8_faultPlace 2 = .ok (.iload_n 1, 1) := by decide +kernel
theorem dX8_faultPlace_3 : decode cX8_faultPlace 3 = .ok (.aload_n 0, 1) := by decide +kernel
theorem dX8_faultPlace_4 : decode cX8_faultPlace 4 = .ok (.getfield 15, 3) := by decide +kernel
theorem dX8_faultPlace_7 : decode cX8_faultPlace 7 = .ok (.if_icmp .ge 19, 3) := by decide +kernel
theorem dX8_faultPlace_10 : decode cX8_faultPlace 10 = .ok (.aload_n 0, 1) := by decide +kernel
theorem dX8_faultPlace_11 : decode cX8_faultPlace 11 = .ok (.iload_n 1, 1) := by decide +kernel
theorem dX8_faultPlace_12 : decode cX8_faultPlace 12 = .ok (.invokevirtual 19, 3) := by decide +kernel
theorem dX8_faultPlace_15 : decode cX8_faultPlace 15 = .ok (.ifCond .ne 5, 3) := by decide +kernel
theorem dX8_faultPlace_18 : decode cX8_faultPlace 18 = .ok (.iload_n 1, 1) := by decide +kernel
theorem dX8_faultPlace_19 : decode cX8_faultPlace 19 = .ok (.ireturn, 1) := by decide +kernel
theorem dX8_faultPlace_20 : decode cX8_faultPlace 20 = .ok (.iinc 1 1, 3) := by decide +kernel
theorem dX8_faultPlace_23 : decode cX8_faultPlace 23 = .ok (.goto (-21), 3) := by decide +kernel
theorem dX8_faultPlace_26 : decode cX8_faultPlace 26 = .ok (.aload_n 0, 1) := by decide +kernel
theorem dX8_faultPlace_27 : decode cX8_faultPlace 27 = .ok (.getfield 15, 3) := by decide +kernel
theorem dX8_faultPlace_30 : decode cX8_faultPlace 30 = .ok (.iconst 4, 1) := by decide +kernel
theorem dX8_faultPlace_31 : decode cX8_faultPlace 31 = .ok (.irem, 1) := by decide +kernel
theorem dX8_faultPlace_32 : decode cX8_faultPlace 32 = .ok (.iconst 3, 1) := by decide +kernel
theorem dX8_faultPlace_33 : decode cX8_faultPlace 33 = .ok (.if_icmp .ne 7, 3) := by decide +kernel
theorem dX8_faultPlace_36 : decode cX8_faultPlace 36 = .ok (.iconst (-1), 1) := by decide +kernel
theorem dX8_faultPlace_37 : decode cX8_faultPlace 37 = .ok (.goto 7, 3) := by decide +kernel
theorem dX8_faultPlace_40 : decode cX8_faultPlace 40 = .ok (.aload_n 0, 1) := by decide +kernel
theorem dX8_faultPlace_41 : decode cX8_faultPlace 41 = .ok (.getfield 15, 3) := by decide +kernel
theorem dX8_faultPlace_44 : decode cX8_faultPlace 44 = .ok (.ireturn, 1) := by decide +kernel
theorem dX8_reasonAt_0 : decode cX8_reasonAt 0 = .ok (.aload_n 0, 1) := by decide +kernel
theorem dX8_reasonAt_1 : decode cX8_reasonAt 1 = .ok (.iload_n 1, 1) := by decide +kernel
theorem dX8_reasonAt_2 : decode cX8_reasonAt 2 = .ok (.invokevirtual 23, 3) := by decide +kernel
theorem dX8_reasonAt_5 : decode cX8_reasonAt 5 = .ok (.ifCond .eq 17, 3) := by decide +kernel
theorem dX8_reasonAt_8 : decode cX8_reasonAt 8 = .ok (.aload_n 0, 1) := by decide +kernel
theorem dX8_reasonAt_9 : decode cX8_reasonAt 9 = .ok (.iload_n 1, 1) := by decide +kernel
theorem dX8_reasonAt_10 : decode cX8_reasonAt 10 = .ok (.invokevirtual 26, 3) := by decide +kernel
theorem dX8_reasonAt_13 : decode cX8_reasonAt 13 = .ok (.bipush 38, 2) := by decide +kernel
theorem dX8_reasonAt_15 : decode cX8_reasonAt 15 = .ok (.if_icmp .ne 7, 3) := by decide +kernel
theorem dX8_reasonAt_18 : decode cX8_reasonAt 18 = .ok (.iconst 2, 1) := by decide +kernel
theorem dX8_reasonAt_19 : decode cX8_reasonAt 19 = .ok (.goto 4, 3) := by decide +kernel
theorem dX8_reasonAt_22 : decode cX8_reasonAt 22 = .ok (.iconst 1, 1) := by decide +kernel
theorem dX8_reasonAt_23 : decode cX8_reasonAt 23 = .ok (.ireturn, 1) := by decide +kernel
theorem dX8_conditions_0 : decode cX8_conditions 0 = .ok (.aload_n 0, 1) := by decide +kernel
theorem dX8_conditions_1 : decode cX8_conditions 1 = .ok (.getfield 15, 3) := by decide +kernel
theorem dX8_conditions_4 : decode cX8_conditions 4 = .ok (.iconst 1, 1) := by decide +kernel
theorem dX8_conditions_5 : decode cX8_conditions 5 = .ok (.iadd, 1) := by decide +kernel
theorem dX8_conditions_6 : decode cX8_conditions 6 = .ok (.iconst 4, 1) := by decide +kernel
theorem dX8_conditions_7 : decode cX8_conditions 7 = .ok (.idiv, 1) := by decide +kernel
theorem dX8_conditions_8 : decode cX8_conditions 8 = .ok (.ireturn, 1) := by decide +kernel
theorem dX8_columnOf_0 : decode cX8_columnOf 0 = .ok (.aload_n 0, 1) := by decide +kernel
theorem dX8_columnOf_1 : decode cX8_columnOf 1 = .ok (.iload_n 1, 1) := by decide +kernel
theorem dX8_columnOf_2 : decode cX8_columnOf 2 = .ok (.iconst 4, 1) := by decide +kernel
theorem dX8_columnOf_3 : decode cX8_columnOf 3 = .ok (.imul, 1) := by decide +kernel
theorem dX8_columnOf_4 : decode cX8_columnOf 4 = .ok (.invokevirtual 26, 3) := by decide +kernel
theorem dX8_columnOf_7 : decode cX8_columnOf 7 = .ok (.bipush 97, 2) := by decide +kernel
theorem dX8_columnOf_9 : decode cX8_columnOf 9 = .ok (.isub, 1) := by decide +kernel
theorem dX8_columnOf_10 : decode cX8_columnOf 10 = .ok (.ireturn, 1) := by decide +kernel
theorem dX8_operatorOf_0 : decode cX8_operatorOf 0 = .ok (.ldc 30, 2) := by decide +kernel
theorem dX8_operatorOf_2 : decode cX8_operatorOf 2 = .ok (.aload_n 0, 1) := by decide +kernel
theorem dX8_operatorOf_3 : decode cX8_operatorOf 3 = .ok (.iload_n 1, 1) := by decide +kernel
theorem dX8_operatorOf_4 : decode cX8_operatorOf 4 = .ok (.iconst 4, 1) := by decide +kernel
theorem dX8_operatorOf_5 : decode cX8_operatorOf 5 = .ok (.imul, 1) := by decide +kernel
theorem dX8_operatorOf_6 : decode cX8_operatorOf 6 = .ok (.iconst 1, 1) := by decide +kernel
theorem dX8_operatorOf_7 : decode cX8_operatorOf 7 = .ok (.iadd, 1) := by decide +kernel
theorem dX8_operatorOf_8 : decode cX8_operatorOf 8 = .ok (.invokevirtual 26, 3) := by decide +kernel
theorem dX8_operatorOf_11 : decode cX8_operatorOf 11 = .ok (.invokevirtual 32, 3) := by decide +kernel
theorem dX8_operatorOf_14 : decode cX8_operatorOf 14 = .ok (.ireturn, 1) := by decide +kernel
theorem dX8_canStandAt_0 : decode cX8_canStandAt 0 = .ok (.aload_n 0, 1) := by decide +kernel
theorem dX8_canStandAt_1 : decode cX8_canStandAt 1 = .ok (.iload_n 1, 1) := by decide +kernel
theorem dX8_canStandAt_2 : decode cX8_canStandAt 2 = .ok (.invokevirtual 26, 3) := by decide +kernel
theorem dX8_canStandAt_5 : decode cX8_canStandAt 5 = .ok (.istore_n 2, 1) := by decide +kernel
theorem dX8_canStandAt_6 : decode cX8_canStandAt 6 = .ok (.iload_n 1, 1) := by decide +kernel
theorem dX8_canStandAt_7 : decode cX8_canStandAt 7 = .ok (.iconst 4, 1) := by decide +kernel
theorem dX8_canStandAt_8 : decode cX8_canStandAt 8 = .ok (.irem, 1) := by decide +kernel
theorem dX8_canStandAt_9 : decode cX8_canStandAt 9 = .ok (.tableswitch 72 0 2 #[27, 45, 60], 27) := by decide +kernel
theorem dX8_canStandAt_36 : decode cX8_canStandAt 36 = .ok (.iload_n 2, 1) := by decide +kernel
theorem dX8_canStandAt_37 : decode cX8_canStandAt 37 = .ok (.bipush 97, 2) := by decide +kernel
theorem dX8_canStandAt_39 : decode cX8_canStandAt 39 = .ok (.if_icmp .lt 13, 3) := by decide +kernel
theorem dX8_canStandAt_42 : decode cX8_canStandAt 42 = .ok (.iload_n 2, 1) := by decide +kernel
theorem dX8_canStandAt_43 : decode cX8_canStandAt 43 = .ok (.bipush 101, 2) := by decide +kernel
theorem dX8_canStandAt_45 : decode cX8_canStandAt 45 = .ok (.if_icmp .ge 7, 3) := by decide +kernel
theorem dX8_canStandAt_48 : decode cX8_canStandAt 48 = .ok (.iconst 1, 1) := by decide +kernel
theorem dX8_canStandAt_49 : decode cX8_canStandAt 49 = .ok (.goto 4, 3) := by decide +kernel
theorem dX8_canStandAt_52 : decode cX8_canStandAt 52 = .ok (.iconst 0, 1) := by decide +kernel
theorem dX8_canStandAt_53 : decode cX8_canStandAt 53 = .ok (.ireturn, 1) := by decide +kernel
theorem dX8_canStandAt_54 : decode cX8_canStandAt 54 = .ok (.ldc 30, 2) := by decide +kernel
theorem dX8_canStandAt_56 : decode cX8_canStandAt 56 = .ok (.iload_n 2, 1) := by decide +kernel
theorem dX8_canStandAt_57 : decode cX8_canStandAt 57 = .ok (.invokevirtual 32, 3) := by decide +kernel
theorem dX8_canStandAt_60 : decode cX8_canStandAt 60 = .ok (.ifCond .lt 7, 3) := by decide +kernel
theorem dX8_canStandAt_63 : decode cX8_canStandAt 63 = .ok (.iconst 1, 1) := by decide +kernel
theorem dX8_canStandAt_64 : decode cX8_canStandAt 64 = .ok (.goto 4, 3) := by decide +kernel
theorem dX8_canStandAt_67 : decode cX8_canStandAt 67 = .ok (.iconst 0, 1) := by decide +kernel
theorem dX8_canStandAt_68 : decode cX8_canStandAt 68 = .ok (.ireturn, 1) := by decide +kernel
theorem dX8_canStandAt_69 : decode cX8_canStandAt 69 = .ok (.iload_n 2, 1) := by decide +kernel
theorem dX8_canStandAt_70 : decode cX8_canStandAt 70 = .ok (.bipush 63, 2) := by decide +kernel
theorem dX8_canStandAt_72 : decode cX8_canStandAt 72 = .ok (.if_icmp .ne 7, 3) := by decide +kernel
theorem dX8_canStandAt_75 : decode cX8_canStandAt 75 = .ok (.iconst 1, 1) := by decide +kernel
theorem dX8_canStandAt_76 : decode cX8_canStandAt 76 = .ok (.goto 4, 3) := by decide +kernel
theorem dX8_canStandAt_79 : decode cX8_canStandAt 79 = .ok (.iconst 0, 1) := by decide +kernel
theorem dX8_canStandAt_80 : decode cX8_canStandAt 80 = .ok (.ireturn, 1) := by decide +kernel
theorem dX8_canStandAt_81 : decode cX8_canStandAt 81 = .ok (.iload_n 2, 1) := by decide +kernel
theorem dX8_canStandAt_82 : decode cX8_canStandAt 82 = .ok (.bipush 38, 2) := by decide +kernel
theorem dX8_canStandAt_84 : decode cX8_canStandAt 84 = .ok (.if_icmp .ne 15, 3) := by decide +kernel
theorem dX8_canStandAt_87 : decode cX8_canStandAt 87 = .ok (.aload_n 0, 1) := by decide +kernel
theorem dX8_canStandAt_88 : decode cX8_canStandAt 88 = .ok (.iload_n 1, 1) := by decide +kernel
theorem dX8_canStandAt_89 : decode cX8_canStandAt 89 = .ok (.invokevirtual 23, 3) := by decide +kernel
theorem dX8_canStandAt_92 : decode cX8_canStandAt 92 = .ok (.ifCond .ne 7, 3) := by decide +kernel
theorem dX8_canStandAt_95 : decode cX8_canStandAt 95 = .ok (.iconst 1, 1) := by decide +kernel
theorem dX8_canStandAt_96 : decode cX8_canStandAt 96 = .ok (.goto 4, 3) := by decide +kernel
theorem dX8_canStandAt_99 : decode cX8_canStandAt 99 = .ok (.iconst 0, 1) := by decide +kernel
theorem dX8_canStandAt_100 : decode cX8_canStandAt 100 = .ok (.ireturn, 1) := by decide +kernel
theorem dX8_isBehindLastCondition_0 : decode cX8_isBehindLastCondition 0 = .ok (.iload_n 1, 1) := by decide +kernel
theorem dX8_isBehindLastCondition_1 : decode cX8_isBehindLastCondition 1 = .ok (.bipush 15, 2) := by decide +kernel
theorem dX8_isBehindLastCondition_3 : decode cX8_isBehindLastCondition 3 = .ok (.if_icmp .ne 7, 3) := by decide +kernel
theorem dX8_isBehindLastCondition_6 : decode cX8_isBehindLastCondition 6 = .ok (.iconst 1, 1) := by decide +kernel
theorem dX8_isBehindLastCondition_7 : decode cX8_isBehindLastCondition 7 = .ok (.goto 4, 3) := by decide +kernel
theorem dX8_isBehindLastCondition_10 : decode cX8_isBehindLastCondition 10 = .ok (.iconst 0, 1) := by decide +kernel
theorem dX8_isBehindLastCondition_11 : decode cX8_isBehindLastCondition 11 = .ok (.ireturn, 1) := by decide +kernel
theorem dX8_characterAt_0 : decode cX8_characterAt 0 = .ok (.iload_n 1, 1) := by decide +kernel
theorem dX8_characterAt_1 : decode cX8_characterAt 1 = .ok (.ifCond .lt 29, 3) := by decide +kernel
theorem dX8_characterAt_4 : decode cX8_characterAt 4 = .ok (.iload_n 1, 1) := by decide +kernel
theorem dX8_characterAt_5 : decode cX8_characterAt 5 = .ok (.aload_n 0, 1) := by decide +kernel
theorem dX8_characterAt_6 : decode cX8_characterAt 6 = .ok (.getfield 15, 3) := by decide +kernel
theorem dX8_characterAt_9 : decode cX8_characterAt 9 = .ok (.if_icmp .ge 21, 3) := by decide +kernel
theorem dX8_characterAt_12 : decode cX8_characterAt 12 = .ok (.iload_n 1, 1) := by decide +kernel
theorem dX8_characterAt_13 : decode cX8_characterAt 13 = .ok (.aload_n 0, 1) := by decide +kernel
theorem dX8_characterAt_14 : decode cX8_characterAt 14 = .ok (.getfield 9, 3) := by decide +kernel
theorem dX8_characterAt_17 : decode cX8_characterAt 17 = .ok (.arraylength, 1) := by decide +kernel
theorem dX8_characterAt_18 : decode cX8_characterAt 18 = .ok (.if_icmp .ge 12, 3) := by decide +kernel
theorem dX8_characterAt_21 : decode cX8_characterAt 21 = .ok (.aload_n 0, 1) := by decide +kernel
theorem dX8_characterAt_22 : decode cX8_characterAt 22 = .ok (.getfield 9, 3) := by decide +kernel
theorem dX8_characterAt_25 : decode cX8_characterAt 25 = .ok (.iload_n 1, 1) := by decide +kernel
theorem dX8_characterAt_26 : decode cX8_characterAt 26 = .ok (.caload, 1) := by decide +kernel
theorem dX8_characterAt_27 : decode cX8_characterAt 27 = .ok (.goto 5, 3) := by decide +kernel
theorem dX8_characterAt_30 : decode cX8_characterAt 30 = .ok (.bipush 32, 2) := by decide +kernel
theorem dX8_characterAt_32 : decode cX8_characterAt 32 = .ok (.ireturn, 1) := by decide +kernel
theorem dX9_init_0 : decode cX9_init 0 = .ok (.aload_n 0, 1) := by decide +kernel
theorem dX9_init_1 : decode cX9_init 1 = .ok (.invokespecial 1, 3) := by decide +kernel
theorem dX9_init_4 : decode cX9_init 4 = .ok (.aload_n 0, 1) := by decide +kernel
theorem dX9_init_5 : decode cX9_init 5 = .ok (.new 7, 3) := by decide +kernel
theorem dX9_init_8 : decode cX9_init 8 = .ok (.dup, 1) := by decide +kernel
theorem dX9_init_9 : decode cX9_init 9 = .ok (.invokespecial 9, 3) := by decide +kernel
theorem dX9_init_12 : decode cX9_init 12 = .ok (.putfield 10, 3) := by decide +kernel
theorem dX9_init_15 : decode cX9_init 15 = .ok (.aload_n 0, 1) := by decide +kernel
theorem dX9_init_16 : decode cX9_init 16 = .ok (.new 16, 3) := by decide +kernel
theorem dX9_init_19 : decode cX9_init 19 = .ok (.dup, 1) := by decide +kernel
theorem dX9_init_20 : decode cX9_init 20 = .ok (.invokespecial 18, 3) := by decide +kernel
theorem dX9_init_23 : decode cX9_init 23 = .ok (.putfield 19, 3) := by decide +kernel
theorem dX9_init_26 : decode cX9_init 26 = .ok (.aload_n 0, 1) := by decide +kernel
theorem dX9_init_27 : decode cX9_init 27 = .ok (.new 23, 3) := by decide +kernel
theorem dX9_init_30 : decode cX9_init 30 = .ok (.dup, 1) := by decide +kernel
theorem dX9_init_31 : decode cX9_init 31 = .ok (.invokespecial 25, 3) := by decide +kernel
theorem dX9_init_34 : decode cX9_init 34 = .ok (.putfield 26, 3) := by decide +kernel
theorem dX9_init_37 : decode cX9_init 37 = .ok (.aload_n 0, 1) := by decide +kernel
theorem dX9_init_38 : decode cX9_init 38 = .ok (.iconst 4, 1) := by decide +kernel
theorem dX9_init_39 : decode cX9_init 39 = .ok (.newarray .int, 2) := by decide +kernel
theorem dX9_init_41 : decode cX9_init 41 = .ok (.putfield 30, 3) := by decide +kernel
theorem dX9_init_44 : decode cX9_init 44 = .ok (.return_, 1) := by decide +kernel
theorem dX9_row_0 : decode cX9_row 0 = .ok (.iload_n 1, 1) := by decide +kernel
theorem dX9_row_1 : decode cX9_row 1 = .ok (.invokestatic 34, 3) := by decide +kernel
theorem dX9_row_4 : decode cX9_row 4 = .ok (.ifCond .eq 37, 3) := by decide +kernel
theorem dX9_row_7 : decode cX9_row 7 = .ok (.iload_n 2, 1) := by decide +kernel
theorem dX9_row_8 : decode cX9_row 8 = .ok (.invokestatic 34, 3) := by decide +kernel
theorem dX9_row_11 : decode cX9_row 11 = .ok (.ifCond .eq 30, 3) := by decide +kernel
theorem dX9_row_14 : decode cX9_row 14 = .ok (.iload_n 3, 1) := by decide +kernel
theorem dX9_row_15 : decode cX9_row 15 = .ok (.invokestatic 34, 3) := by decide +kernel
theorem dX9_row_18 : decode cX9_row 18 = .ok (.ifCond .eq 23, 3) := by decide +kernel
theorem dX9_row_21 : decode cX9_row 21 = .ok (.iload 4, 2) := by decide +kernel
theorem dX9_row_23 : decode cX9_row 23 = .ok (.invokestatic 34, 3) := by decide +kernel
theorem dX9_row_26 : decode cX9_row 26 = .ok (.ifCond .eq 15, 3) := by decide +kernel
theorem dX9_row_29 : decode cX9_row 29 = .ok (.iload 5, 2) := by decide +kernel
theorem dX9_row_31 : decode cX9_row 31 = .ok (.iconst 1, 1) := by decide +kernel
theorem dX9_row_32 : decode cX9_row 32 = .ok (.sipush 999, 3) := by decide +kernel
theorem dX9_row_35 : decode cX9_row 35 = .ok (.invokestatic 38, 3) := by decide +kernel
theorem dX9_row_38 : decode cX9_row 38 = .ok (.ifCond .ne 5, 3) := by decide +kernel
theorem dX9_row_41 : decode cX9_row 41 = .ok (.iconst (-1), 1) := by decide +kernel
theorem dX9_row_42 : decode cX9_row 42 = .ok (.ireturn, 1) := by decide +kernel
theorem dX9_row_43 : decode cX9_row 43 = .ok (.aload_n 0, 1) := by decide +kernel
theorem dX9_row_44 : decode cX9_row 44 = .ok (.getfield 10, 3) := by decide +kernel
theorem dX9_row_47 : decode cX9_row 47 = .ok (.getfield 42, 3) := by decide +kernel
theorem dX9_row_50 : decode cX9_row 50 = .ok (.getfield 46, 3) := by decide +kernel
theorem dX9_row_53 : decode cX9_row 53 = .ok (.bipush 30, 2) := by decide +kernel
theorem dX9_row_55 : decode cX9_row 55 = .ok (.if_icmp .lt 6, 3) := by decide +kernel
theorem dX9_row_58 : decode cX9_row 58 = .ok (.bipush (-3), 2) := by decide +kernel
theorem dX9_row_60 : decode cX9_row 60 = .ok (.ireturn, 1) := by decide +kernel
theorem dX9_row_61 : decode cX9_row 61 = .ok (.aload_n 0, 1) := by decide +kernel
theorem dX9_row_62 : decode cX9_row 62 = .ok (.invokevirtual 52, 3) := by decide +kernel
theorem dX9_row_65 : decode cX9_row 65 = .ok (.aload_n 0, 1) := by decide +kernel
theorem dX9_row_66 : decode cX9_row 66 = .ok (.getfield 10, 3) := by decide +kernel
theorem dX9_row_69 : decode cX9_row 69 = .ok (.getfield 42, 3) := by decide +kernel
theorem dX9_row_72 : decode cX9_row 72 = .ok (.aload_n 0, 1) := by decide +kernel
theorem dX9_row_73 : decode cX9_row 73 = .ok (.iload_n 1, 1) := by decide +kernel
theorem dX9_row_74 : decode cX9_row 74 = .ok (.iload_n 2, 1) := by decide +kernel
theorem dX9_row_75 : decode cX9_row 75 = .ok (.iload_n 3, 1) := by decide +kernel
theorem dX9_row_76 : decode cX9_row 76 = .ok (.iload 4, 2) := by decide +kernel
theorem dX9_row_78 : decode cX9_row 78 = .ok (.invokevirtual 55, 3) := by decide +kernel
theorem dX9_row_81 : decode cX9_row 81 = .ok (.iload 5, 2) := by decide +kernel
theorem dX9_row_83 : decode cX9_row 83 = .ok (.invokevirtual 59, 3) := by decide +kernel
theorem dX9_row_86 : decode cX9_row 86 = .ok (.ireturn, 1) := by decide +kernel
theorem dX9_dropRow_0 : decode cX9_dropRow 0 = .ok (.aload_n 0, 1) := by decide +kernel
theorem dX9_dropRow_1 : decode cX9_dropRow 1 = .ok (.getfield 10, 3) := by decide +kernel
theorem dX9_dropRow_4 : decode cX9_dropRow 4 = .ok (.getfield 42, 3) := by decide +kernel
theorem dX9_dropRow_7 : decode cX9_dropRow 7 = .ok (.iload_n 1, 1) := by decide +kernel
theorem dX9_dropRow_8 : decode cX9_dropRow 8 = .ok (.invokevirtual 63, 3) := by decide +kernel
theorem dX9_dropRow_11 : decode cX9_dropRow 11 = .ok (.ifCond .ne 5, 3) := by decide +kernel
theorem dX9_dropRow_14 : decode cX9_dropRow 14 = .ok (.iconst (-1), 1) := by decide +kernel
theorem dX9_dropRow_15 : decode cX9_dropRow 15 = .ok (.ireturn, 1) := by decide +kernel
theorem dX9_dropRow_16 : decode cX9_dropRow 16 = .ok (.aload_n 0, 1) := by decide +kernel
theorem dX9_dropRow_17 : decode cX9_dropRow 17 = .ok (.invokevirtual 52, 3) := by decide +kernel
theorem dX9_dropRow_20 : decode cX9_dropRow 20 = .ok (.aload_n 0, 1) := by decide +kernel
theorem dX9_dropRow_21 : decode cX9_dropRow 21 = .ok (.getfield 10, 3) := by decide +kernel
theorem dX9_dropRow_24 : decode cX9_dropRow 24 = .ok (.getfield 42, 3) := by decide +kernel
theorem dX9_dropRow_27 : decode cX9_dropRow 27 = .ok (.iload_n 1, 1) := by decide +kernel
theorem dX9_dropRow_28 : decode cX9_dropRow 28 = .ok (.invokevirtual 66, 3) := by decide +kernel
theorem dX9_dropRow_31 : decode cX9_dropRow 31 = .ok (.ireturn, 1) := by decide +kernel
theorem dX9_index_0 : decode cX9_index 0 = .ok (.iload_n 1, 1) := by decide +kernel
theorem dX9_index_1 : decode cX9_index 1 = .ok (.invokestatic 70, 3) := by decide +kernel
theorem dX9_index_4 : decode cX9_index 4 = .ok (.ifCond .eq 12, 3) := by decide +kernel
theorem dX9_index_7 : decode cX9_index 7 = .ok (.iload_n 2, 1) := by decide +kernel
theorem dX9_index_8 : decode cX9_index 8 = .ok (.iconst 0, 1) := by decide +kernel
theorem dX9_index_9 : decode cX9_index 9 = .ok (.iconst 1, 1) := by decide +kernel
theorem dX9_index_10 : decode cX9_index 10 = .ok (.invokestatic 38, 3) := by decide +kernel
theorem dX9_index_13 : decode cX9_index 13 = .ok (.ifCond .ne 5, 3) := by decide +kernel
theorem dX9_index_16 : decode cX9_index 16 = .ok (.iconst (-1), 1) := by decide +kernel
theorem dX9_index_17 : decode cX9_index 17 = .ok (.ireturn, 1) := by decide +kernel
theorem dX9_index_18 : decode cX9_index 18 = .ok (.aload_n 0, 1) := by decide +kernel
theorem dX9_index_19 : decode cX9_index 19 = .ok (.getfield 10, 3) := by decide +kernel
theorem dX9_index_22 : decode cX9_index 22 = .ok (.iload_n 1, 1) := by decide +kernel
theorem dX9_index_23 : decode cX9_index 23 = .ok (.invokevirtual 73, 3) := by decide +kernel
theorem dX9_index_26 : decode cX9_index 26 = .ok (.iload_n 2, 1) := by decide +kernel
theorem dX9_index_27 : decode cX9_index 27 = .ok (.iconst 1, 1) := by decide +kernel
theorem dX9_index_28 : decode cX9_index 28 = .ok (.if_icmp .ne 7, 3) := by decide +kernel
theorem dX9_index_31 : decode cX9_index 31 = .ok (.iconst 1, 1) := by decide +kernel
theorem dX9_index_32 : decode cX9_index 32 = .ok (.goto 4, 3) := by decide +kernel
theorem dX9_index_35 : decode cX9_index 35 = .ok (.iconst 0, 1) := by decide +kernel
theorem dX9_index_36 : decode cX9_index 36 = .ok (.if_icmp .ne 6, 3) := by decide +kernel
theorem dX9_index_39 : decode cX9_index 39 = .ok (.bipush (-2), 2) := by decide +kernel
theorem dX9_index_41 : decode cX9_index 41 = .ok (.ireturn, 1) := by decide +kernel
theorem dX9_index_42 : decode cX9_index 42 = .ok (.aload_n 0, 1) := by decide +kernel
theorem dX9_index_43 : decode cX9_index 43 = .ok (.invokevirtual 52, 3) := by decide +kernel
theorem dX9_index_46 : decode cX9_index 46 = .ok (.aload_n 0, 1) := by decide +kernel
theorem dX9_index_47 : decode cX9_index 47 = .ok (.getfield 10, 3) := by decide +kernel
theorem dX9_index_50 : decode cX9_index 50 = .ok (.iload_n 1, 1) := by decide +kernel
theorem dX9_index_51 : decode cX9_index 51 = .ok (.invokevirtual 76, 3) := by decide +kernel
theorem dX9_index_54 : decode cX9_index 54 = .ok (.iload_n 2, 1) := by decide +kernel
theorem dX9_index_55 : decode cX9_index 55 = .ok (.iconst 1, 1) := by decide +kernel
theorem dX9_index_56 : decode cX9_index 56 = .ok (.if_icmp .ne 7, 3) := by decide +kernel
theorem dX9_index_59 : decode cX9_index 59 = .ok (.iconst 0, 1) := by decide +kernel
theorem dX9_index_60 : decode cX9_index 60 = .ok (.goto 11, 3) := by decide +kernel
theorem dX9_index_63 : decode cX9_index 63 = .ok (.aload_n 0, 1) := by decide +kernel
theorem dX9_index_64 : decode cX9_index 64 = .ok (.getfield 10, 3) := by decide +kernel
theorem dX9_index_67 : decode cX9_index 67 = .ok (.iload_n 1, 1) := by decide +kernel
theorem dX9_index_68 : decode cX9_index 68 = .ok (.invokevirtual 80, 3) := by decide +kernel
theorem dX9_index_71 : decode cX9_index 71 = .ok (.ireturn, 1) := by decide +kernel
theorem dX9_analyse_0 : decode cX9_analyse 0 = .ok (.aload_n 0, 1) := by decide +kernel
theorem dX9_analyse_1 : decode cX9_analyse 1 = .ok (.invokevirtual 52, 3) := by decide +kernel
theorem dX9_analyse_4 : decode cX9_analyse 4 = .ok (.aload_n 0, 1) := by decide +kernel
theorem dX9_analyse_5 : decode cX9_analyse 5 = .ok (.getfield 10, 3) := by decide +kernel
theorem dX9_analyse_8 : decode cX9_analyse 8 = .ok (.getfield 83, 3) := by decide +kernel
theorem dX9_analyse_11 : decode cX9_analyse 11 = .ok (.aload_n 0, 1) := by decide +kernel
theorem dX9_analyse_12 : decode cX9_analyse 12 = .ok (.getfield 10, 3) := by decide +kernel
theorem dX9_analyse_15 : decode cX9_analyse 15 = .ok (.getfield 42, 3) := by decide +kernel
theorem dX9_analyse_18 : decode cX9_analyse 18 = .ok (.getfield 87, 3) := by decide +kernel
theorem dX9_analyse_21 : decode cX9_analyse 21 = .ok (.invokevirtual 90, 3) := by decide +kernel
theorem dX9_analyse_24 : decode cX9_analyse 24 = .ok (.aload_n 0, 1) := by decide +kernel
theorem dX9_analyse_25 : decode cX9_analyse 25 = .ok (.getfield 10, 3) := by decide +kernel
theorem dX9_analyse_28 : decode cX9_analyse 28 = .ok (.getfield 83, 3) := by decide +kernel
theorem dX9_analyse_31 : decode cX9_analyse 31 = .ok (.getfield 96, 3) := by decide +kernel
theorem dX9_analyse_34 : decode cX9_analyse 34 = .ok (.ireturn, 1) := by decide +kernel
theorem dX9_rowOf_0 : decode cX9_rowOf 0 = .ok (.aload_n 0, 1) := by decide +kernel
theorem dX9_rowOf_1 : decode cX9_rowOf 1 = .ok (.getfield 10, 3) := by decide +kernel
theorem dX9_rowOf_4 : decode cX9_rowOf 4 = .ok (.getfield 42, 3) := by decide +kernel
theorem dX9_rowOf_7 : decode cX9_rowOf 7 = .ok (.iload_n 1, 1) := by decide +kernel
theorem dX9_rowOf_8 : decode cX9_rowOf 8 = .ok (.invokevirtual 63, 3) := by decide +kernel
theorem dX9_rowOf_11 : decode cX9_rowOf 11 = .ok (.ifCond .eq 12, 3) := by decide +kernel
theorem dX9_rowOf_14 : decode cX9_rowOf 14 = .ok (.iload_n 2, 1) := by decide +kernel
theorem dX9_rowOf_15 : decode cX9_rowOf 15 = .ok (.iconst 0, 1) := by decide +kernel
theorem dX9_rowOf_16 : decode cX9_rowOf 16 = .ok (.iconst 4, 1) := by decide +kernel
theorem dX9_rowOf_17 : decode cX9_rowOf 17 = .ok (.invokestatic 38, 3) := by decide +kernel
theorem dX9_rowOf_20 : decode cX9_rowOf 20 = .ok (.ifCond .ne 5, 3) := by decide +kernel
theorem dX9_rowOf_23 : decode cX9_rowOf 23 = .ok (.iconst (-1), 1) := by decide +kernel
theorem dX9_rowOf_24 : decode cX9_rowOf 24 = .ok (.ireturn, 1) := by decide +kernel
theorem dX9_rowOf_25 : decode cX9_rowOf 25 = .ok (.aload_n 0, 1) := by decide +kernel
theorem dX9_rowOf_26 : decode cX9_rowOf 26 = .ok (.getfield 10, 3) := by decide +kernel
theorem dX9_rowOf_29 : decode cX9_rowOf 29 = .ok (.getfield 42, 3) := by decide +kernel
theorem dX9_rowOf_32 : decode cX9_rowOf 32 = .ok (.iload_n 1, 1) := by decide +kernel
theorem dX9_rowOf_33 : decode cX9_rowOf 33 = .ok (.iload_n 2, 1) := by decide +kernel
theorem dX9_rowOf_34 : decode cX9_rowOf 34 = .ok (.invokevirtual 99, 3) := by decide +kernel
theorem dX9_rowOf_37 : decode cX9_rowOf 37 = .ok (.ireturn, 1) := by decide +kernel
theorem dX9_known_0 : decode cX9_known 0 = .ok (.iload_n 1, 1) := by decide +kernel
theorem dX9_known_1 : decode cX9_known 1 = .ok (.invokestatic 70, 3) := by decide +kernel
theorem dX9_known_4 : decode cX9_known 4 = .ok (.ifCond .eq 10, 3) := by decide +kernel
theorem dX9_known_7 : decode cX9_known 7 = .ok (.iload_n 2, 1) := by decide +kernel
theorem dX9_known_8 : decode cX9_known 8 = .ok (.invokestatic 34, 3) := by decide +kernel
theorem dX9_known_11 : decode cX9_known 11 = .ok (.ifCond .ne 5, 3) := by decide +kernel
theorem dX9_known_14 : decode cX9_known 14 = .ok (.iconst (-1), 1) := by decide +kernel
theorem dX9_known_15 : decode cX9_known 15 = .ok (.ireturn, 1) := by decide +kernel
theorem dX9_known_16 : decode cX9_known 16 = .ok (.aload_n 0, 1) := by decide +kernel
theorem dX9_known_17 : decode cX9_known 17 = .ok (.getfield 10, 3) := by decide +kernel
theorem dX9_known_20 : decode cX9_known 20 = .ok (.getfield 83, 3) := by decide +kernel
theorem dX9_known_23 : decode cX9_known 23 = .ok (.iload_n 1, 1) := by decide +kernel
theorem dX9_known_24 : decode cX9_known 24 = .ok (.iload_n 2, 1) := by decide +kernel
theorem dX9_known_25 : decode cX9_known 25 = .ok (.invokevirtual 103, 3) := by decide +kernel
theorem dX9_known_28 : decode cX9_known 28 = .ok (.ireturn, 1) := by decide +kernel
theorem dX9_statement_0 : decode cX9_statement 0 = .ok (.aload_n 0, 1) := by decide +kernel
theorem dX9_statement_1 : decode cX9_statement 1 = .ok (.getfield 26, 3) := by decide +kernel
theorem dX9_statement_4 : decode cX9_statement 4 = .ok (.invokevirtual 106, 3) := by decide +kernel
theorem dX9_statement_7 : decode cX9_statement 7 = .ok (.iconst (-1), 1) := by decide +kernel
theorem dX9_statement_8 : decode cX9_statement 8 = .ok (.if_icmp .eq 6, 3) := by decide +kernel
theorem dX9_statement_11 : decode cX9_statement 11 = .ok (.bipush (-2), 2) := by decide +kernel
theorem dX9_statement_13 : decode cX9_statement 13 = .ok (.ireturn, 1) := by decide +kernel
theorem dX9_statement_14 : decode cX9_statement 14 = .ok (.aload_n 0, 1) := by decide +kernel
theorem dX9_statement_15 : decode cX9_statement 15 = .ok (.getfield 10, 3) := by decide +kernel
theorem dX9_statement_18 : decode cX9_statement 18 = .ok (.aload_n 0, 1) := by decide +kernel
theorem dX9_statement_19 : decode cX9_statement 19 = .ok (.getfield 26, 3) := by decide +kernel
theorem dX9_statement_22 : decode cX9_statement 22 = .ok (.invokevirtual 110, 3) := by decide +kernel
theorem dX9_statement_25 : decode cX9_statement 25 = .ok (.istore_n 1, 1) := by decide +kernel
theorem dX9_statement_26 : decode cX9_statement 26 = .ok (.iload_n 1, 1) := by decide +kernel
theorem dX9_statement_27 : decode cX9_statement 27 = .ok (.iconst (-1), 1) := by decide +kernel
theorem dX9_statement_28 : decode cX9_statement 28 = .ok (.if_icmp .ne 18, 3) := by decide +kernel
theorem dX9_statement_31 : decode cX9_statement 31 = .ok (.aload_n 0, 1) := by decide +kernel
theorem dX9_statement_32 : decode cX9_statement 32 = .ok (.getfield 10, 3) := by decide +kernel
theorem dX9_statement_35 : decode cX9_statement 35 = .ok (.getfield 114, 3) := by decide +kernel
theorem dX9_statement_38 : decode cX9_statement 38 = .ok (.bipush 6, 2) := by decide +kernel
theorem dX9_statement_40 : decode cX9_statement 40 = .ok (.if_icmp .lt 6, 3) := by decide +kernel
theorem dX9_statement_43 : decode cX9_statement 43 = .ok (.bipush (-3), 2) := by decide +kernel
theorem dX9_statement_45 : decode cX9_statement 45 = .ok (.ireturn, 1) := by decide +kernel
theorem dX9_statement_46 : decode cX9_statement 46 = .ok (.aload_n 0, 1) := by decide +kernel
theorem dX9_statement_47 : decode cX9_statement 47 = .ok (.invokevirtual 52, 3) := by decide +kernel
theorem dX9_statement_50 : decode cX9_statement 50 = .ok (.iload_n 1, 1) := by decide +kernel
theorem dX9_statement_51 : decode cX9_statement 51 = .ok (.iconst (-1), 1) := by decide +kernel
theorem dX9_statement_52 : decode cX9_statement 52 = .ok (.if_icmp .ne 17, 3) := by decide +kernel
theorem dX9_statement_55 : decode cX9_statement 55 = .ok (.aload_n 0, 1) := by decide +kernel
theorem dX9_statement_56 : decode cX9_statement 56 = .ok (.getfield 10, 3) := by decide +kernel
theorem dX9_statement_59 : decode cX9_statement 59 = .ok (.aload_n 0, 1) := by decide +kernel
theorem dX9_statement_60 : decode cX9_statement 60 = .ok (.getfield 26, 3) := by decide +kernel
theorem dX9_statement_63 : decode cX9_statement 63 = .ok (.invokevirtual 117, 3) := by decide +kernel
theorem dX9_statement_66 : decode cX9_statement 66 = .ok (.goto 4, 3) := by decide +kernel
theorem dX9_statement_69 : decode cX9_statement 69 = .ok (.iload_n 1, 1) := by decide +kernel
theorem dX9_statement_70 : decode cX9_statement 70 = .ok (.ireturn, 1) := by decide +kernel
theorem dX9_statementOf_0 : decode cX9_statementOf 0 = .ok (.aload_n 0, 1) := by decide +kernel
theorem dX9_statementOf_1 : decode cX9_statementOf 1 = .ok (.getfield 10, 3) := by decide +kernel
theorem dX9_statementOf_4 : decode cX9_statementOf 4 = .ok (.iload_n 1, 1) := by decide +kernel
theorem dX9_statementOf_5 : decode cX9_statementOf 5 = .ok (.invokevirtual 120, 3) := by decide +kernel
theorem dX9_statementOf_8 : decode cX9_statementOf 8 = .ok (.ifCond .ne 5, 3) := by decide +kernel
theorem dX9_statementOf_11 : decode cX9_statementOf 11 = .ok (.iconst (-1), 1) := by decide +kernel
theorem dX9_statementOf_12 : decode cX9_statementOf 12 = .ok (.ireturn, 1) := by decide +kernel
theorem dX9_statementOf_13 : decode cX9_statementOf 13 = .ok (.aload_n 0, 1) := by decide +kernel
theorem dX9_statementOf_14 : decode cX9_statementOf 14 = .ok (.getfield 10, 3) := by decide +kernel
theorem dX9_statementOf_17 : decode cX9_statementOf 17 = .ok (.iload_n 1, 1) := by decide +kernel
theorem dX9_statementOf_18 : decode cX9_statementOf 18 = .ok (.invokevirtual 123, 3) := by decide +kernel
theorem dX9_statementOf_21 : decode cX9_statementOf 21 = .ok (.astore_n 3, 1) := by decide +kernel
theorem dX9_statementOf_22 : decode cX9_statementOf 22 = .ok (.iload_n 2, 1) := by decide +kernel
theorem dX9_statementOf_23 : decode cX9_statementOf 23 = .ok (.tableswitch 181 0 23 #[109, 114, 126, 181, 181, 181, 181, 181, 181, 181, 131, 131, 131, 131, 181, 181, 181, 181, 181, 181, 156, 156, 156, 156], 109) := by decide +kernel
theorem dX9_statementOf_132 : decode cX9_statementOf 132 = .ok (.aload_n 3, 1) := by decide +kernel
theorem dX9_statementOf_133 : decode cX9_statementOf 133 = .ok (.getfield 127, 3) := by decide +kernel
theorem dX9_statementOf_136 : decode cX9_statementOf 136 = .ok (.ireturn, 1) := by decide +kernel
theorem dX9_statementOf_137 : decode cX9_statementOf 137 = .ok (.aload_n 0, 1) := by decide +kernel
theorem dX9_statementOf_138 : decode cX9_statementOf 138 = .ok (.getfield 10, 3) := by decide +kernel
theorem dX9_statementOf_141 : decode cX9_statementOf 141 = .ok (.getfield 132, 3) := by decide +kernel
theorem dX9_statementOf_144 : decode cX9_statementOf 144 = .ok (.iload_n 1, 1) := by decide +kernel
theorem dX9_statementOf_145 : decode cX9_statementOf 145 = .ok (.invokevirtual 136, 3) := by decide +kernel
theorem dX9_statementOf_148 : decode cX9_statementOf 148 = .ok (.ireturn, 1) := by decide +kernel
theorem dX9_statementOf_149 : decode cX9_statementOf 149 = .ok (.aload_n 3, 1) := by decide +kernel
theorem dX9_statementOf_150 : decode cX9_statementOf 150 = .ok (.getfield 141, 3) := by decide +kernel
theorem dX9_statementOf_153 : decode cX9_statementOf 153 = .ok (.ireturn, 1) := by decide +kernel
theorem dX9_statementOf_154 : decode cX9_statementOf 154 = .ok (.aload_n 3, 1) := by decide +kernel
theorem dX9_statementOf_155 : decode cX9_statementOf 155 = .ok (.iload_n 2, 1) := by decide +kernel
theorem dX9_statementOf_156 : decode cX9_statementOf 156 = .ok (.bipush 10, 2) := by decide +kernel
theorem dX9_statementOf_158 : decode cX9_statementOf 158 = .ok (.isub, 1) := by decide +kernel
theorem dX9_statementOf_159 : decode cX9_statementOf 159 = .ok (.invokevirtual 144, 3) := by decide +kernel
theorem dX9_statementOf_162 : decode cX9_statementOf 162 = .ok (.ifCond .eq 14, 3) := by decide +kernel
theorem dX9_statementOf_165 : decode cX9_statementOf 165 = .ok (.aload_n 3, 1) := by decide +kernel
theorem dX9_statementOf_166 : decode cX9_statementOf 166 = .ok (.iload_n 2, 1) := by decide +kernel
theorem dX9_statementOf_167 : decode cX9_statementOf 167 = .ok (.bipush 10, 2) := by decide +kernel
theorem dX9_statementOf_169 : decode cX9_statementOf 169 = .ok (.isub, 1) := by decide +kernel
theorem dX9_statementOf_170 : decode cX9_statementOf 170 = .ok (.invokevirtual 147, 3) := by decide +kernel
theorem dX9_statementOf_173 : decode cX9_statementOf 173 = .ok (.goto 5, 3) := by decide +kernel
theorem dX9_statementOf_176 : decode cX9_statementOf 176 = .ok (.bipush (-4), 2) := by decide +kernel
theorem dX9_statementOf_178 : decode cX9_statementOf 178 = .ok (.ireturn, 1) := by decide +kernel
theorem dX9_statementOf_179 : decode cX9_statementOf 179 = .ok (.aload_n 3, 1) := by decide +kernel
theorem dX9_statementOf_180 : decode cX9_statementOf 180 = .ok (.iload_n 2, 1) := by decide +kernel
theorem dX9_statementOf_181 : decode cX9_statementOf 181 = .ok (.bipush 20, 2) := by decide +kernel
theorem dX9_statementOf_183 : decode cX9_statementOf 183 = .ok (.isub, 1) := by decide +kernel
theorem dX9_statementOf_184 : decode cX9_statementOf 184 = .ok (.invokevirtual 144, 3) := by decide +kernel
theorem dX9_statementOf_187 : decode cX9_statementOf 187 = .ok (.ifCond .eq 14, 3) := by decide +kernel
theorem dX9_statementOf_190 : decode cX9_statementOf 190 = .ok (.aload_n 3, 1) := by decide +kernel
theorem dX9_statementOf_191 : decode cX9_statementOf 191 = .ok (.iload_n 2, 1) := by decide +kernel
theorem dX9_statementOf_192 : decode cX9_statementOf 192 = .ok (.bipush 20, 2) := by decide +kernel
theorem dX9_statementOf_194 : decode cX9_statementOf 194 = .ok (.isub, 1) := by decide +kernel
theorem dX9_statementOf_195 : decode cX9_statementOf 195 = .ok (.invokevirtual 150, 3) := by decide +kernel
theorem dX9_statementOf_198 : decode cX9_statementOf 198 = .ok (.goto 5, 3) := by decide +kernel
theorem dX9_statementOf_201 : decode cX9_statementOf 201 = .ok (.bipush (-4), 2) := by decide +kernel
theorem dX9_statementOf_203 : decode cX9_statementOf 203 = .ok (.ireturn, 1) := by decide +kernel
theorem dX9_statementOf_204 : decode cX9_statementOf 204 = .ok (.iconst (-1), 1) := by decide +kernel
theorem dX9_statementOf_205 : decode cX9_statementOf 205 = .ok (.ireturn, 1) := by decide +kernel
theorem dX9_run_0 : decode cX9_run 0 = .ok (.aload_n 0, 1) := by decide +kernel
theorem dX9_run_1 : decode cX9_run 1 = .ok (.iload_n 1, 1) := by decide +kernel
theorem dX9_run_2 : decode cX9_run 2 = .ok (.iload_n 2, 1) := by decide +kernel
theorem dX9_run_3 : decode cX9_run 3 = .ok (.iload_n 3, 1) := by decide +kernel
theorem dX9_run_4 : decode cX9_run 4 = .ok (.iload 4, 2) := by decide +kernel
theorem dX9_run_6 : decode cX9_run 6 = .ok (.iload 5, 2) := by decide +kernel
theorem dX9_run_8 : decode cX9_run 8 = .ok (.invokevirtual 153, 3) := by decide +kernel
theorem dX9_run_11 : decode cX9_run 11 = .ok (.ifCond .ne 5, 3) := by decide +kernel
theorem dX9_run_14 : decode cX9_run 14 = .ok (.iconst (-1), 1) := by decide +kernel
theorem dX9_run_15 : decode cX9_run 15 = .ok (.ireturn, 1) := by decide +kernel
theorem dX9_run_16 : decode cX9_run 16 = .ok (.aload_n 0, 1) := by decide +kernel
theorem dX9_run_17 : decode cX9_run 17 = .ok (.invokevirtual 52, 3) := by decide +kernel
theorem dX9_run_20 : decode cX9_run 20 = .ok (.aload_n 0, 1) := by decide +kernel
theorem dX9_run_21 : decode cX9_run 21 = .ok (.getfield 10, 3) := by decide +kernel
theorem dX9_run_24 : decode cX9_run 24 = .ok (.iload_n 1, 1) := by decide +kernel
theorem dX9_run_25 : decode cX9_run 25 = .ok (.aload_n 0, 1) := by decide +kernel
theorem dX9_run_26 : decode cX9_run 26 = .ok (.iload_n 2, 1) := by decide +kernel
theorem dX9_run_27 : decode cX9_run 27 = .ok (.iload_n 3, 1) := by decide +kernel
theorem dX9_run_28 : decode cX9_run 28 = .ok (.iload 4, 2) := by decide +kernel
theorem dX9_run_30 : decode cX9_run 30 = .ok (.iload 5, 2) := by decide +kernel
theorem dX9_run_32 : decode cX9_run 32 = .ok (.invokevirtual 55, 3) := by decide +kernel
theorem dX9_run_35 : decode cX9_run 35 = .ok (.invokevirtual 157, 3) := by decide +kernel
theorem dX9_run_38 : decode cX9_run 38 = .ok (.ireturn, 1) := by decide +kernel
theorem dX9_latest_0 : decode cX9_latest 0 = .ok (.iload_n 1, 1) := by decide +kernel
theorem dX9_latest_1 : decode cX9_latest 1 = .ok (.iconst 0, 1) := by decide +kernel
theorem dX9_latest_2 : decode cX9_latest 2 = .ok (.bipush 7, 2) := by decide +kernel
theorem dX9_latest_4 : decode cX9_latest 4 = .ok (.invokestatic 38, 3) := by decide +kernel
theorem dX9_latest_7 : decode cX9_latest 7 = .ok (.ifCond .ne 5, 3) := by decide +kernel
theorem dX9_latest_10 : decode cX9_latest 10 = .ok (.iconst (-1), 1) := by decide +kernel
theorem dX9_latest_11 : decode cX9_latest 11 = .ok (.ireturn, 1) := by decide +kernel
theorem dX9_latest_12 : decode cX9_latest 12 = .ok (.aload_n 0, 1) := by decide +kernel
theorem dX9_latest_13 : decode cX9_latest 13 = .ok (.getfield 10, 3) := by decide +kernel
theorem dX9_latest_16 : decode cX9_latest 16 = .ok (.getfield 161, 3) := by decide +kernel
theorem dX9_latest_19 : decode cX9_latest 19 = .ok (.iload_n 1, 1) := by decide +kernel
theorem dX9_latest_20 : decode cX9_latest 20 = .ok (.invokevirtual 165, 3) := by decide +kernel
theorem dX9_latest_23 : decode cX9_latest 23 = .ok (.ireturn, 1) := by decide +kernel
theorem dX9_pin_0 : decode cX9_pin 0 = .ok (.aload_n 0, 1) := by decide +kernel
theorem dX9_pin_1 : decode cX9_pin 1 = .ok (.getfield 10, 3) := by decide +kernel
theorem dX9_pin_4 : decode cX9_pin 4 = .ok (.getfield 132, 3) := by decide +kernel
theorem dX9_pin_7 : decode cX9_pin 7 = .ok (.iload_n 1, 1) := by decide +kernel
theorem dX9_pin_8 : decode cX9_pin 8 = .ok (.invokevirtual 170, 3) := by decide +kernel
theorem dX9_pin_11 : decode cX9_pin 11 = .ok (.istore_n 3, 1) := by decide +kernel
theorem dX9_pin_12 : decode cX9_pin 12 = .ok (.iload_n 3, 1) := by decide +kernel
theorem dX9_pin_13 : decode cX9_pin 13 = .ok (.iconst (-1), 1) := by decide +kernel
theorem dX9_pin_14 : decode cX9_pin 14 = .ok (.if_icmp .eq 12, 3) := by decide +kernel
theorem dX9_pin_17 : decode cX9_pin 17 = .ok (.iload_n 2, 1) := by decide +kernel
theorem dX9_pin_18 : decode cX9_pin 18 = .ok (.iconst 0, 1) := by decide +kernel
theorem dX9_pin_19 : decode cX9_pin 19 = .ok (.iconst 1, 1) := by decide +kernel
theorem dX9_pin_20 : decode cX9_pin 20 = .ok (.invokestatic 38, 3) := by decide +kernel
theorem dX9_pin_23 : decode cX9_pin 23 = .ok (.ifCond .ne 5, 3) := by decide +kernel
theorem dX9_pin_26 : decode cX9_pin 26 = .ok (.iconst (-1), 1) := by decide +kernel
theorem dX9_pin_27 : decode cX9_pin 27 = .ok (.ireturn, 1) := by decide +kernel
theorem dX9_pin_28 : decode cX9_pin 28 = .ok (.aload_n 0, 1) := by decide +kernel
theorem dX9_pin_29 : decode cX9_pin 29 = .ok (.invokevirtual 52, 3) := by decide +kernel
theorem dX9_pin_32 : decode cX9_pin 32 = .ok (.aload_n 0, 1) := by decide +kernel
theorem dX9_pin_33 : decode cX9_pin 33 = .ok (.getfield 10, 3) := by decide +kernel
theorem dX9_pin_36 : decode cX9_pin 36 = .ok (.getfield 132, 3) := by decide +kernel
theorem dX9_pin_39 : decode cX9_pin 39 = .ok (.iload_n 3, 1) := by decide +kernel
theorem dX9_pin_40 : decode cX9_pin 40 = .ok (.invokevirtual 173, 3) := by decide +kernel
theorem dX9_pin_43 : decode cX9_pin 43 = .ok (.iload_n 2, 1) := by decide +kernel
theorem dX9_pin_44 : decode cX9_pin 44 = .ok (.iconst 1, 1) := by decide +kernel
theorem dX9_pin_45 : decode cX9_pin 45 = .ok (.if_icmp .ne 7, 3) := by decide +kernel
theorem dX9_pin_48 : decode cX9_pin 48 = .ok (.iconst 1, 1) := by decide +kernel
theorem dX9_pin_49 : decode cX9_pin 49 = .ok (.goto 4, 3) := by decide +kernel
theorem dX9_pin_52 : decode cX9_pin 52 = .ok (.iconst 0, 1) := by decide +kernel
theorem dX9_pin_53 : decode cX9_pin 53 = .ok (.putfield 177, 3) := by decide +kernel
theorem dX9_pin_56 : decode cX9_pin 56 = .ok (.aload_n 0, 1) := by decide +kernel
theorem dX9_pin_57 : decode cX9_pin 57 = .ok (.getfield 10, 3) := by decide +kernel
theorem dX9_pin_60 : decode cX9_pin 60 = .ok (.getfield 132, 3) := by decide +kernel
theorem dX9_pin_63 : decode cX9_pin 63 = .ok (.invokevirtual 183, 3) := by decide +kernel
theorem dX9_pin_66 : decode cX9_pin 66 = .ok (.ireturn, 1) := by decide +kernel
theorem dX9_drop_0 : decode cX9_drop 0 = .ok (.aload_n 0, 1) := by decide +kernel
theorem dX9_drop_1 : decode cX9_drop 1 = .ok (.getfield 10, 3) := by decide +kernel
theorem dX9_drop_4 : decode cX9_drop 4 = .ok (.getfield 132, 3) := by decide +kernel
theorem dX9_drop_7 : decode cX9_drop 7 = .ok (.iload_n 1, 1) := by decide +kernel
theorem dX9_drop_8 : decode cX9_drop 8 = .ok (.invokevirtual 170, 3) := by decide +kernel
theorem dX9_drop_11 : decode cX9_drop 11 = .ok (.istore_n 2, 1) := by decide +kernel
theorem dX9_drop_12 : decode cX9_drop 12 = .ok (.iload_n 2, 1) := by decide +kernel
theorem dX9_drop_13 : decode cX9_drop 13 = .ok (.iconst (-1), 1) := by decide +kernel
theorem dX9_drop_14 : decode cX9_drop 14 = .ok (.if_icmp .ne 5, 3) := by decide +kernel
theorem dX9_drop_17 : decode cX9_drop 17 = .ok (.iconst (-1), 1) := by decide +kernel
theorem dX9_drop_18 : decode cX9_drop 18 = .ok (.ireturn, 1) := by decide +kernel
theorem dX9_drop_19 : decode cX9_drop 19 = .ok (.aload_n 0, 1) := by decide +kernel
theorem dX9_drop_20 : decode cX9_drop 20 = .ok (.getfield 10, 3) := by decide +kernel
theorem dX9_drop_23 : decode cX9_drop 23 = .ok (.getfield 132, 3) := by decide +kernel
theorem dX9_drop_26 : decode cX9_drop 26 = .ok (.iload_n 2, 1) := by decide +kernel
theorem dX9_drop_27 : decode cX9_drop 27 = .ok (.invokevirtual 173, 3) := by decide +kernel
theorem dX9_drop_30 : decode cX9_drop 30 = .ok (.getfield 177, 3) := by decide +kernel
theorem dX9_drop_33 : decode cX9_drop 33 = .ok (.ifCond .eq 6, 3) := by decide +kernel
theorem dX9_drop_36 : decode cX9_drop 36 = .ok (.bipush (-2), 2) := by decide +kernel
theorem dX9_drop_38 : decode cX9_drop 38 = .ok (.ireturn, 1) := by decide +kernel
theorem dX9_drop_39 : decode cX9_drop 39 = .ok (.aload_n 0, 1) := by decide +kernel
theorem dX9_drop_40 : decode cX9_drop 40 = .ok (.invokevirtual 52, 3) := by decide +kernel
theorem dX9_drop_43 : decode cX9_drop 43 = .ok (.aload_n 0, 1) := by decide +kernel
theorem dX9_drop_44 : decode cX9_drop 44 = .ok (.getfield 10, 3) := by decide +kernel
theorem dX9_drop_47 : decode cX9_drop 47 = .ok (.getfield 132, 3) := by decide +kernel
theorem dX9_drop_50 : decode cX9_drop 50 = .ok (.iload_n 2, 1) := by decide +kernel
theorem dX9_drop_51 : decode cX9_drop 51 = .ok (.invokevirtual 185, 3) := by decide +kernel
theorem dX9_drop_54 : decode cX9_drop 54 = .ok (.aload_n 0, 1) := by decide +kernel
theorem dX9_drop_55 : decode cX9_drop 55 = .ok (.getfield 10, 3) := by decide +kernel
theorem dX9_drop_58 : decode cX9_drop 58 = .ok (.getfield 132, 3) := by decide +kernel
theorem dX9_drop_61 : decode cX9_drop 61 = .ok (.getfield 188, 3) := by decide +kernel
theorem dX9_drop_64 : decode cX9_drop 64 = .ok (.ireturn, 1) := by decide +kernel
theorem dX9_set_0 : decode cX9_set 0 = .ok (.iload_n 1, 1) := by decide +kernel
theorem dX9_set_1 : decode cX9_set 1 = .ok (.iconst 0, 1) := by decide +kernel
theorem dX9_set_2 : decode cX9_set 2 = .ok (.iconst 4, 1) := by decide +kernel
theorem dX9_set_3 : decode cX9_set 3 = .ok (.invokestatic 38, 3) := by decide +kernel
theorem dX9_set_6 : decode cX9_set 6 = .ok (.ifCond .eq 24, 3) := by decide +kernel
theorem dX9_set_9 : decode cX9_set 9 = .ok (.iload_n 2, 1) := by decide +kernel
theorem dX9_set_10 : decode cX9_set 10 = .ok (.getstatic 191, 3) := by decide +kernel
theorem dX9_set_13 : decode cX9_set 13 = .ok (.iload_n 1, 1) := by decide +kernel
theorem dX9_set_14 : decode cX9_set 14 = .ok (.invokestatic 194, 3) := by decide +kernel
theorem dX9_set_17 : decode cX9_set 17 = .ok (.getstatic 197, 3) := by decide +kernel
theorem dX9_set_20 : decode cX9_set 20 = .ok (.iload_n 1, 1) := by decide +kernel
theorem dX9_set_21 : decode cX9_set 21 = .ok (.invokestatic 194, 3) := by decide +kernel
theorem dX9_set_24 : decode cX9_set 24 = .ok (.invokestatic 38, 3) := by decide +kernel
theorem dX9_set_27 : decode cX9_set 27 = .ok (.ifCond .ne 5, 3) := by decide +kernel
theorem dX9_set_30 : decode cX9_set 30 = .ok (.iconst (-1), 1) := by decide +kernel
theorem dX9_set_31 : decode cX9_set 31 = .ok (.ireturn, 1) := by decide +kernel
theorem dX9_set_32 : decode cX9_set 32 = .ok (.aload_n 0, 1) := by decide +kernel
theorem dX9_set_33 : decode cX9_set 33 = .ok (.invokevirtual 52, 3) := by decide +kernel
theorem dX9_set_36 : decode cX9_set 36 = .ok (.aload_n 0, 1) := by decide +kernel
theorem dX9_set_37 : decode cX9_set 37 = .ok (.getfield 10, 3) := by decide +kernel
theorem dX9_set_40 : decode cX9_set 40 = .ok (.iload_n 1, 1) := by decide +kernel
theorem dX9_set_41 : decode cX9_set 41 = .ok (.iload_n 2, 1) := by decide +kernel
theorem dX9_set_42 : decode cX9_set 42 = .ok (.invokevirtual 200, 3) := by decide +kernel
theorem dX9_set_45 : decode cX9_set 45 = .ok (.ireturn, 1) := by decide +kernel
theorem dX9_planOf_0 : decode cX9_planOf 0 = .ok (.aload_n 0, 1) := by decide +kernel
theorem dX9_planOf_1 : decode cX9_planOf 1 = .ok (.getfield 10, 3) := by decide +kernel
theorem dX9_planOf_4 : decode cX9_planOf 4 = .ok (.getfield 132, 3) := by decide +kernel
theorem dX9_planOf_7 : decode cX9_planOf 7 = .ok (.iload_n 1, 1) := by decide +kernel
theorem dX9_planOf_8 : decode cX9_planOf 8 = .ok (.invokevirtual 170, 3) := by decide +kernel
theorem dX9_planOf_11 : decode cX9_planOf 11 = .ok (.istore_n 3, 1) := by decide +kernel
theorem dX9_planOf_12 : decode cX9_planOf 12 = .ok (.iload_n 3, 1) := by decide +kernel
theorem dX9_planOf_13 : decode cX9_planOf 13 = .ok (.iconst (-1), 1) := by decide +kernel
theorem dX9_planOf_14 : decode cX9_planOf 14 = .ok (.if_icmp .eq 13, 3) := by decide +kernel
theorem dX9_planOf_17 : decode cX9_planOf 17 = .ok (.iload_n 2, 1) := by decide +kernel
theorem dX9_planOf_18 : decode cX9_planOf 18 = .ok (.iconst 0, 1) := by decide +kernel
theorem dX9_planOf_19 : decode cX9_planOf 19 = .ok (.bipush 7, 2) := by decide +kernel
theorem dX9_planOf_21 : decode cX9_planOf 21 = .ok (.invokestatic 38, 3) := by decide +kernel
theorem dX9_planOf_24 : decode cX9_planOf 24 = .ok (.ifCond .ne 5, 3) := by decide +kernel
theorem dX9_planOf_27 : decode cX9_planOf 27 = .ok (.iconst (-1), 1) := by decide +kernel
theorem dX9_planOf_28 : decode cX9_planOf 28 = .ok (.ireturn, 1) := by decide +kernel
theorem dX9_planOf_29 : decode cX9_planOf 29 = .ok (.aload_n 0, 1) := by decide +kernel
theorem dX9_planOf_30 : decode cX9_planOf 30 = .ok (.getfield 10, 3) := by decide +kernel
theorem dX9_planOf_33 : decode cX9_planOf 33 = .ok (.getfield 132, 3) := by decide +kernel
theorem dX9_planOf_36 : decode cX9_planOf 36 = .ok (.iload_n 3, 1) := by decide +kernel
theorem dX9_planOf_37 : decode cX9_planOf 37 = .ok (.invokevirtual 173, 3) := by decide +kernel
theorem dX9_planOf_40 : decode cX9_planOf 40 = .ok (.iload_n 2, 1) := by decide +kernel
theorem dX9_planOf_41 : decode cX9_planOf 41 = .ok (.aload_n 0, 1) := by decide +kernel
theorem dX9_planOf_42 : decode cX9_planOf 42 = .ok (.getfield 10, 3) := by decide +kernel
theorem dX9_planOf_45 : decode cX9_planOf 45 = .ok (.getfield 203, 3) := by decide +kernel
theorem dX9_planOf_48 : decode cX9_planOf 48 = .ok (.invokevirtual 204, 3) := by decide +kernel
theorem dX9_planOf_51 : decode cX9_planOf 51 = .ok (.ireturn, 1) := by decide +kernel
theorem dX9_planFor_0 : decode cX9_planFor 0 = .ok (.aload_n 0, 1) := by decide +kernel
theorem dX9_planFor_1 : decode cX9_planFor 1 = .ok (.getfield 10, 3) := by decide +kernel
theorem dX9_planFor_4 : decode cX9_planFor 4 = .ok (.iload_n 1, 1) := by decide +kernel
theorem dX9_planFor_5 : decode cX9_planFor 5 = .ok (.invokevirtual 120, 3) := by decide +kernel
theorem dX9_planFor_8 : decode cX9_planFor 8 = .ok (.ifCond .eq 13, 3) := by decide +kernel
theorem dX9_planFor_11 : decode cX9_planFor 11 = .ok (.iload_n 2, 1) := by decide +kernel
theorem dX9_planFor_12 : decode cX9_planFor 12 = .ok (.iconst 0, 1) := by decide +kernel
theorem dX9_planFor_13 : decode cX9_planFor 13 = .ok (.bipush 80, 2) := by decide +kernel
theorem dX9_planFor_15 : decode cX9_planFor 15 = .ok (.invokestatic 38, 3) := by decide +kernel
theorem dX9_planFor_18 : decode cX9_planFor 18 = .ok (.ifCond .ne 5, 3) := by decide +kernel
theorem dX9_planFor_21 : decode cX9_planFor 21 = .ok (.iconst (-1), 1) := by decide +kernel
theorem dX9_planFor_22 : decode cX9_planFor 22 = .ok (.ireturn, 1) := by decide +kernel
theorem dX9_planFor_23 : decode cX9_planFor 23 = .ok (.aload_n 0, 1) := by decide +kernel
theorem dX9_planFor_24 : decode cX9_planFor 24 = .ok (.getfield 10, 3) := by decide +kernel
theorem dX9_planFor_27 : decode cX9_planFor 27 = .ok (.getfield 132, 3) := by decide +kernel
theorem dX9_planFor_30 : decode cX9_planFor 30 = .ok (.aload_n 0, 1) := by decide +kernel
theorem dX9_planFor_31 : decode cX9_planFor 31 = .ok (.getfield 10, 3) := by decide +kernel
theorem dX9_planFor_34 : decode cX9_planFor 34 = .ok (.getfield 132, 3) := by decide +kernel
theorem dX9_planFor_37 : decode cX9_planFor 37 = .ok (.iload_n 1, 1) := by decide +kernel
theorem dX9_planFor_38 : decode cX9_planFor 38 = .ok (.iload_n 2, 1) := by decide +kernel
theorem dX9_planFor_39 : decode cX9_planFor 39 = .ok (.invokevirtual 206, 3) := by decide +kernel
theorem dX9_planFor_42 : decode cX9_planFor 42 = .ok (.invokevirtual 209, 3) := by decide +kernel
theorem dX9_planFor_45 : decode cX9_planFor 45 = .ok (.ireturn, 1) := by decide +kernel
theorem dX9_dropsNext_0 : decode cX9_dropsNext 0 = .ok (.iload_n 1, 1) := by decide +kernel
theorem dX9_dropsNext_1 : decode cX9_dropsNext 1 = .ok (.ifCond .ge 5, 3) := by decide +kernel
theorem dX9_dropsNext_4 : decode cX9_dropsNext 4 = .ok (.iconst (-1), 1) := by decide +kernel
theorem dX9_dropsNext_5 : decode cX9_dropsNext 5 = .ok (.ireturn, 1) := by decide +kernel
theorem dX9_dropsNext_6 : decode cX9_dropsNext 6 = .ok (.aload_n 0, 1) := by decide +kernel
theorem dX9_dropsNext_7 : decode cX9_dropsNext 7 = .ok (.getfield 10, 3) := by decide +kernel
theorem dX9_dropsNext_10 : decode cX9_dropsNext 10 = .ok (.getfield 132, 3) := by decide +kernel
theorem dX9_dropsNext_13 : decode cX9_dropsNext 13 = .ok (.aload_n 0, 1) := by decide +kernel
theorem dX9_dropsNext_14 : decode cX9_dropsNext 14 = .ok (.getfield 10, 3) := by decide +kernel
theorem dX9_dropsNext_17 : decode cX9_dropsNext 17 = .ok (.getfield 132, 3) := by decide +kernel
theorem dX9_dropsNext_20 : decode cX9_dropsNext 20 = .ok (.iload_n 1, 1) := by decide +kernel
theorem dX9_dropsNext_21 : decode cX9_dropsNext 21 = .ok (.invokevirtual 212, 3) := by decide +kernel
theorem dX9_dropsNext_24 : decode cX9_dropsNext 24 = .ok (.invokevirtual 209, 3) := by decide +kernel
theorem dX9_dropsNext_27 : decode cX9_dropsNext 27 = .ok (.ireturn, 1) := by decide +kernel
theorem dX9_count_0 : decode cX9_count 0 = .ok (.iload_n 1, 1) := by decide +kernel
theorem dX9_count_1 : decode cX9_count 1 = .ok (.tableswitch 266 0 24 #[115, 126, 140, 151, 159, 167, 178, 189, 197, 205, 216, 224, 235, 243, 266, 266, 266, 266, 266, 266, 251, 251, 251, 251, 251], 115) := by decide +kernel
theorem dX9_count_116 : decode cX9_count 116 = .ok (.aload_n 0, 1) := by decide +kernel
theorem dX9_count_117 : decode cX9_count 117 = .ok (.getfield 10, 3) := by decide +kernel
theorem dX9_count_120 : decode cX9_count 120 = .ok (.getfield 42, 3) := by decide +kernel
theorem dX9_count_123 : decode cX9_count 123 = .ok (.getfield 46, 3) := by decide +kernel
theorem dX9_count_126 : decode cX9_count 126 = .ok (.ireturn, 1) := by decide +kernel
theorem dX9_count_127 : decode cX9_count 127 = .ok (.aload_n 0, 1) := by decide +kernel
theorem dX9_count_128 : decode cX9_count 128 = .ok (.getfield 10, 3) := by decide +kernel
theorem dX9_count_131 : decode cX9_count 131 = .ok (.getfield 42, 3) := by decide +kernel
theorem dX9_count_134 : decode cX9_count 134 = .ok (.getfield 87, 3) := by decide +kernel
theorem dX9_count_137 : decode cX9_count 137 = .ok (.getfield 96, 3) := by decide +kernel
theorem dX9_count_140 : decode cX9_count 140 = .ok (.ireturn, 1) := by decide +kernel
theorem dX9_count_141 : decode cX9_count 141 = .ok (.aload_n 0, 1) := by decide +kernel
theorem dX9_count_142 : decode cX9_count 142 = .ok (.getfield 10, 3) := by decide +kernel
theorem dX9_count_145 : decode cX9_count 145 = .ok (.getfield 83, 3) := by decide +kernel
theorem dX9_count_148 : decode cX9_count 148 = .ok (.getfield 96, 3) := by decide +kernel
theorem dX9_count_151 : decode cX9_count 151 = .ok (.ireturn, 1) := by decide +kernel
theorem dX9_count_152 : decode cX9_count 152 = .ok (.aload_n 0, 1) := by decide +kernel
theorem dX9_count_153 : decode cX9_count 153 = .ok (.getfield 10, 3) := by decide +kernel
theorem dX9_count_156 : decode cX9_count 156 = .ok (.getfield 215, 3) := by decide +kernel
theorem dX9_count_159 : decode cX9_count 159 = .ok (.ireturn, 1) := by decide +kernel
theorem dX9_count_160 : decode cX9_count 160 = .ok (.aload_n 0, 1) := by decide +kernel
theorem dX9_count_161 : decode cX9_count 161 = .ok (.getfield 10, 3) := by decide +kernel
theorem dX9_count_164 : decode cX9_count 164 = .ok (.getfield 114, 3) := by decide +kernel
theorem dX9_count_167 : decode cX9_count 167 = .ok (.ireturn, 1) := by decide +kernel
theorem dX9_count_168 : decode cX9_count 168 = .ok (.aload_n 0, 1) := by decide +kernel
theorem dX9_count_169 : decode cX9_count 169 = .ok (.getfield 10, 3) := by decide +kernel
theorem dX9_count_172 : decode cX9_count 172 = .ok (.getfield 132, 3) := by decide +kernel
theorem dX9_count_175 : decode cX9_count 175 = .ok (.getfield 188, 3) := by decide +kernel
theorem dX9_count_178 : decode cX9_count 178 = .ok (.ireturn, 1) := by decide +kernel
theorem dX9_count_179 : decode cX9_count 179 = .ok (.aload_n 0, 1) := by decide +kernel
theorem dX9_count_180 : decode cX9_count 180 = .ok (.getfield 10, 3) := by decide +kernel
theorem dX9_count_183 : decode cX9_count 183 = .ok (.getfield 132, 3) := by decide +kernel
theorem dX9_count_186 : decode cX9_count 186 = .ok (.invokevirtual 183, 3) := by decide +kernel
theorem dX9_count_189 : decode cX9_count 189 = .ok (.ireturn, 1) := by decide +kernel
theorem dX9_count_190 : decode cX9_count 190 = .ok (.aload_n 0, 1) := by decide +kernel
theorem dX9_count_191 : decode cX9_count 191 = .ok (.getfield 10, 3) := by decide +kernel
theorem dX9_count_194 : decode cX9_count 194 = .ok (.getfield 203, 3) := by decide +kernel
theorem dX9_count_197 : decode cX9_count 197 = .ok (.ireturn, 1) := by decide +kernel
theorem dX9_count_198 : decode cX9_count 198 = .ok (.aload_n 0, 1) := by decide +kernel
theorem dX9_count_199 : decode cX9_count 199 = .ok (.getfield 10, 3) := by decide +kernel
theorem dX9_count_202 : decode cX9_count 202 = .ok (.getfield 218, 3) := by decide +kernel
theorem dX9_count_205 : decode cX9_count 205 = .ok (.ireturn, 1) := by decide +kernel
theorem dX9_count_206 : decode cX9_count 206 = .ok (.aload_n 0, 1) := by decide +kernel
theorem dX9_count_207 : decode cX9_count 207 = .ok (.getfield 10, 3) := by decide +kernel
theorem dX9_count_210 : decode cX9_count 210 = .ok (.getfield 132, 3) := by decide +kernel
theorem dX9_count_213 : decode cX9_count 213 = .ok (.getfield 221, 3) := by decide +kernel
theorem dX9_count_216 : decode cX9_count 216 = .ok (.ireturn, 1) := by decide +kernel
theorem dX9_count_217 : decode cX9_count 217 = .ok (.aload_n 0, 1) := by decide +kernel
theorem dX9_count_218 : decode cX9_count 218 = .ok (.getfield 10, 3) := by decide +kernel
theorem dX9_count_221 : decode cX9_count 221 = .ok (.getfield 224, 3) := by decide +kernel
theorem dX9_count_224 : decode cX9_count 224 = .ok (.ireturn, 1) := by decide +kernel
theorem dX9_count_225 : decode cX9_count 225 = .ok (.aload_n 0, 1) := by decide +kernel
theorem dX9_count_226 : decode cX9_count 226 = .ok (.getfield 10, 3) := by decide +kernel
theorem dX9_count_229 : decode cX9_count 229 = .ok (.getfield 132, 3) := by decide +kernel
theorem dX9_count_232 : decode cX9_count 232 = .ok (.getfield 227, 3) := by decide +kernel
theorem dX9_count_235 : decode cX9_count 235 = .ok (.ireturn, 1) := by decide +kernel
theorem dX9_count_236 : decode cX9_count 236 = .ok (.aload_n 0, 1) := by decide +kernel
theorem dX9_count_237 : decode cX9_count 237 = .ok (.getfield 19, 3) := by decide +kernel
theorem dX9_count_240 : decode cX9_count 240 = .ok (.getfield 230, 3) := by decide +kernel
theorem dX9_count_243 : decode cX9_count 243 = .ok (.ireturn, 1) := by decide +kernel
theorem dX9_count_244 : decode cX9_count 244 = .ok (.aload_n 0, 1) := by decide +kernel
theorem dX9_count_245 : decode cX9_count 245 = .ok (.getfield 26, 3) := by decide +kernel
theorem dX9_count_248 : decode cX9_count 248 = .ok (.getfield 231, 3) := by decide +kernel
theorem dX9_count_251 : decode cX9_count 251 = .ok (.ireturn, 1) := by decide +kernel
theorem dX9_count_252 : decode cX9_count 252 = .ok (.aload_n 0, 1) := by decide +kernel
theorem dX9_count_253 : decode cX9_count 253 = .ok (.getfield 10, 3) := by decide +kernel
theorem dX9_count_256 : decode cX9_count 256 = .ok (.getfield 234, 3) := by decide +kernel
theorem dX9_count_259 : decode cX9_count 259 = .ok (.iload_n 1, 1) := by decide +kernel
theorem dX9_count_260 : decode cX9_count 260 = .ok (.bipush 20, 2) := by decide +kernel
theorem dX9_count_262 : decode cX9_count 262 = .ok (.isub, 1) := by decide +kernel
theorem dX9_count_263 : decode cX9_count 263 = .ok (.invokestatic 194, 3) := by decide +kernel
theorem dX9_count_266 : decode cX9_count 266 = .ok (.ireturn, 1) := by decide +kernel
theorem dX9_count_267 : decode cX9_count 267 = .ok (.iconst (-1), 1) := by decide +kernel
theorem dX9_count_268 : decode cX9_count 268 = .ok (.ireturn, 1) := by decide +kernel
theorem dX9_classOf_0 : decode cX9_classOf 0 = .ok (.aload_n 0, 1) := by decide +kernel
theorem dX9_classOf_1 : decode cX9_classOf 1 = .ok (.iload_n 1, 1) := by decide +kernel
theorem dX9_classOf_2 : decode cX9_classOf 2 = .ok (.iload_n 2, 1) := by decide +kernel
theorem dX9_classOf_3 : decode cX9_classOf 3 = .ok (.iload_n 3, 1) := by decide +kernel
theorem dX9_classOf_4 : decode cX9_classOf 4 = .ok (.iload 4, 2) := by decide +kernel
theorem dX9_classOf_6 : decode cX9_classOf 6 = .ok (.iload 5, 2) := by decide +kernel
theorem dX9_classOf_8 : decode cX9_classOf 8 = .ok (.invokevirtual 153, 3) := by decide +kernel
theorem dX9_classOf_11 : decode cX9_classOf 11 = .ok (.ifCond .ne 5, 3) := by decide +kernel
theorem dX9_classOf_14 : decode cX9_classOf 14 = .ok (.iconst (-1), 1) := by decide +kernel
theorem dX9_classOf_15 : decode cX9_classOf 15 = .ok (.ireturn, 1) := by decide +kernel
theorem dX9_classOf_16 : decode cX9_classOf 16 = .ok (.aload_n 0, 1) := by decide +kernel
theorem dX9_classOf_17 : decode cX9_classOf 17 = .ok (.getfield 10, 3) := by decide +kernel
theorem dX9_classOf_20 : decode cX9_classOf 20 = .ok (.aload_n 0, 1) := by decide +kernel
theorem dX9_classOf_21 : decode cX9_classOf 21 = .ok (.getfield 10, 3) := by decide +kernel
theorem dX9_classOf_24 : decode cX9_classOf 24 = .ok (.iload_n 1, 1) := by decide +kernel
theorem dX9_classOf_25 : decode cX9_classOf 25 = .ok (.invokevirtual 123, 3) := by decide +kernel
theorem dX9_classOf_28 : decode cX9_classOf 28 = .ok (.aload_n 0, 1) := by decide +kernel
theorem dX9_classOf_29 : decode cX9_classOf 29 = .ok (.iload_n 2, 1) := by decide +kernel
theorem dX9_classOf_30 : decode cX9_classOf 30 = .ok (.iload_n 3, 1) := by decide +kernel
theorem dX9_classOf_31 : decode cX9_classOf 31 = .ok (.iload 4, 2) := by decide +kernel
theorem dX9_classOf_33 : decode cX9_classOf 33 = .ok (.iload 5, 2) := by decide +kernel
theorem dX9_classOf_35 : decode cX9_classOf 35 = .ok (.invokevirtual 55, 3) := by decide +kernel
theorem dX9_classOf_38 : decode cX9_classOf 38 = .ok (.invokevirtual 237, 3) := by decide +kernel
theorem dX9_classOf_41 : decode cX9_classOf 41 = .ok (.ireturn, 1) := by decide +kernel
theorem dX9_way_0 : decode cX9_way 0 = .ok (.aload_n 0, 1) := by decide +kernel
theorem dX9_way_1 : decode cX9_way 1 = .ok (.iload_n 1, 1) := by decide +kernel
theorem dX9_way_2 : decode cX9_way 2 = .ok (.iload_n 2, 1) := by decide +kernel
theorem dX9_way_3 : decode cX9_way 3 = .ok (.iload_n 3, 1) := by decide +kernel
theorem dX9_way_4 : decode cX9_way 4 = .ok (.iload 4, 2) := by decide +kernel
theorem dX9_way_6 : decode cX9_way 6 = .ok (.iload 5, 2) := by decide +kernel
theorem dX9_way_8 : decode cX9_way 8 = .ok (.invokevirtual 153, 3) := by decide +kernel
theorem dX9_way_11 : decode cX9_way 11 = .ok (.ifCond .ne 5, 3) := by decide +kernel
theorem dX9_way_14 : decode cX9_way 14 = .ok (.iconst (-1), 1) := by decide +kernel
theorem dX9_way_15 : decode cX9_way 15 = .ok (.ireturn, 1) := by decide +kernel
theorem dX9_way_16 : decode cX9_way 16 = .ok (.aload_n 0, 1) := by decide +kernel
theorem dX9_way_17 : decode cX9_way 17 = .ok (.getfield 10, 3) := by decide +kernel
theorem dX9_way_20 : decode cX9_way 20 = .ok (.aload_n 0, 1) := by decide +kernel
theorem dX9_way_21 : decode cX9_way 21 = .ok (.getfield 10, 3) := by decide +kernel
theorem dX9_way_24 : decode cX9_way 24 = .ok (.getfield 83, 3) := by decide +kernel
theorem dX9_way_27 : decode cX9_way 27 = .ok (.aload_n 0, 1) := by decide +kernel
theorem dX9_way_28 : decode cX9_way 28 = .ok (.getfield 10, 3) := by decide +kernel
theorem dX9_way_31 : decode cX9_way 31 = .ok (.iload_n 1, 1) := by decide +kernel
theorem dX9_way_32 : decode cX9_way 32 = .ok (.invokevirtual 123, 3) := by decide +kernel
theorem dX9_way_35 : decode cX9_way 35 = .ok (.aload_n 0, 1) := by decide +kernel
theorem dX9_way_36 : decode cX9_way 36 = .ok (.iload_n 2, 1) := by decide +kernel
theorem dX9_way_37 : decode cX9_way 37 = .ok (.iload_n 3, 1) := by decide +kernel
theorem dX9_way_38 : decode cX9_way 38 = .ok (.iload 4, 2) := by decide +kernel
theorem dX9_way_40 : decode cX9_way 40 = .ok (.iload 5, 2) := by decide +kernel
theorem dX9_way_42 : decode cX9_way 42 = .ok (.invokevirtual 55, 3) := by decide +kernel
theorem dX9_way_45 : decode cX9_way 45 = .ok (.invokevirtual 241, 3) := by decide +kernel
theorem dX9_way_48 : decode cX9_way 48 = .ok (.ireturn, 1) := by decide +kernel
theorem dX9_bestCost_0 : decode cX9_bestCost 0 = .ok (.aload_n 0, 1) := by decide +kernel
theorem dX9_bestCost_1 : decode cX9_bestCost 1 = .ok (.getfield 10, 3) := by decide +kernel
theorem dX9_bestCost_4 : decode cX9_bestCost 4 = .ok (.getfield 161, 3) := by decide +kernel
theorem dX9_bestCost_7 : decode cX9_bestCost 7 = .ok (.getfield 245, 3) := by decide +kernel
theorem dX9_bestCost_10 : decode cX9_bestCost 10 = .ok (.ifCond .ne 6, 3) := by decide +kernel
theorem dX9_bestCost_13 : decode cX9_bestCost 13 = .ok (.bipush (-4), 2) := by decide +kernel
theorem dX9_bestCost_15 : decode cX9_bestCost 15 = .ok (.ireturn, 1) := by decide +kernel
theorem dX9_bestCost_16 : decode cX9_bestCost 16 = .ok (.aload_n 0, 1) := by decide +kernel
theorem dX9_bestCost_17 : decode cX9_bestCost 17 = .ok (.getfield 10, 3) := by decide +kernel
theorem dX9_bestCost_20 : decode cX9_bestCost 20 = .ok (.aload_n 0, 1) := by decide +kernel
theorem dX9_bestCost_21 : decode cX9_bestCost 21 = .ok (.getfield 10, 3) := by decide +kernel
theorem dX9_bestCost_24 : decode cX9_bestCost 24 = .ok (.getfield 161, 3) := by decide +kernel
theorem dX9_bestCost_27 : decode cX9_bestCost 27 = .ok (.getfield 248, 3) := by decide +kernel
theorem dX9_bestCost_30 : decode cX9_bestCost 30 = .ok (.invokevirtual 123, 3) := by decide +kernel
theorem dX9_bestCost_33 : decode cX9_bestCost 33 = .ok (.astore_n 1, 1) := by decide +kernel
theorem dX9_bestCost_34 : decode cX9_bestCost 34 = .ok (.aload_n 0, 1) := by decide +kernel
theorem dX9_bestCost_35 : decode cX9_bestCost 35 = .ok (.getfield 10, 3) := by decide +kernel
theorem dX9_bestCost_38 : decode cX9_bestCost 38 = .ok (.aload_n 0, 1) := by decide +kernel
theorem dX9_bestCost_39 : decode cX9_bestCost 39 = .ok (.getfield 10, 3) := by decide +kernel
theorem dX9_bestCost_42 : decode cX9_bestCost 42 = .ok (.getfield 42, 3) := by decide +kernel
theorem dX9_bestCost_45 : decode cX9_bestCost 45 = .ok (.getfield 87, 3) := by decide +kernel
theorem dX9_bestCost_48 : decode cX9_bestCost 48 = .ok (.aload_n 1, 1) := by decide +kernel
theorem dX9_bestCost_49 : decode cX9_bestCost 49 = .ok (.aload_n 0, 1) := by decide +kernel
theorem dX9_bestCost_50 : decode cX9_bestCost 50 = .ok (.getfield 10, 3) := by decide +kernel
theorem dX9_bestCost_53 : decode cX9_bestCost 53 = .ok (.getfield 161, 3) := by decide +kernel
theorem dX9_bestCost_56 : decode cX9_bestCost 56 = .ok (.getfield 251, 3) := by decide +kernel
theorem dX9_bestCost_59 : decode cX9_bestCost 59 = .ok (.invokevirtual 241, 3) := by decide +kernel
theorem dX9_bestCost_62 : decode cX9_bestCost 62 = .ok (.istore_n 2, 1) := by decide +kernel
theorem dX9_bestCost_63 : decode cX9_bestCost 63 = .ok (.aload_n 0, 1) := by decide +kernel
theorem dX9_bestCost_64 : decode cX9_bestCost 64 = .ok (.getfield 10, 3) := by decide +kernel
theorem dX9_bestCost_67 : decode cX9_bestCost 67 = .ok (.getfield 42, 3) := by decide +kernel
theorem dX9_bestCost_70 : decode cX9_bestCost 70 = .ok (.getfield 87, 3) := by decide +kernel
theorem dX9_bestCost_73 : decode cX9_bestCost 73 = .ok (.aload_n 1, 1) := by decide +kernel
theorem dX9_bestCost_74 : decode cX9_bestCost 74 = .ok (.aload_n 0, 1) := by decide +kernel
theorem dX9_bestCost_75 : decode cX9_bestCost 75 = .ok (.getfield 10, 3) := by decide +kernel
theorem dX9_bestCost_78 : decode cX9_bestCost 78 = .ok (.getfield 161, 3) := by decide +kernel
theorem dX9_bestCost_81 : decode cX9_bestCost 81 = .ok (.getfield 251, 3) := by decide +kernel
theorem dX9_bestCost_84 : decode cX9_bestCost 84 = .ok (.iload_n 2, 1) := by decide +kernel
theorem dX9_bestCost_85 : decode cX9_bestCost 85 = .ok (.invokestatic 254, 3) := by decide +kernel
theorem dX9_bestCost_88 : decode cX9_bestCost 88 = .ok (.ireturn, 1) := by decide +kernel
theorem dX9_undo_0 : decode cX9_undo 0 = .ok (.aload_n 0, 1) := by decide +kernel
theorem dX9_undo_1 : decode cX9_undo 1 = .ok (.getfield 19, 3) := by decide +kernel
theorem dX9_undo_4 : decode cX9_undo 4 = .ok (.getfield 230, 3) := by decide +kernel
theorem dX9_undo_7 : decode cX9_undo 7 = .ok (.ifCond .ne 6, 3) := by decide +kernel
theorem dX9_undo_10 : decode cX9_undo 10 = .ok (.bipush (-2), 2) := by decide +kernel
theorem dX9_undo_12 : decode cX9_undo 12 = .ok (.ireturn, 1) := by decide +kernel
theorem dX9_undo_13 : decode cX9_undo 13 = .ok (.aload_n 0, 1) := by decide +kernel
theorem dX9_undo_14 : decode cX9_undo 14 = .ok (.getfield 19, 3) := by decide +kernel
theorem dX9_undo_17 : decode cX9_undo 17 = .ok (.aload_n 0, 1) := by decide +kernel
theorem dX9_undo_18 : decode cX9_undo 18 = .ok (.getfield 10, 3) := by decide +kernel
theorem dX9_undo_21 : decode cX9_undo 21 = .ok (.invokevirtual 258, 3) := by decide +kernel
theorem dX9_undo_24 : decode cX9_undo 24 = .ok (.aload_n 0, 1) := by decide +kernel
theorem dX9_undo_25 : decode cX9_undo 25 = .ok (.getfield 19, 3) := by decide +kernel
theorem dX9_undo_28 : decode cX9_undo 28 = .ok (.getfield 230, 3) := by decide +kernel
theorem dX9_undo_31 : decode cX9_undo 31 = .ok (.ireturn, 1) := by decide +kernel
theorem dX9_type_0 : decode cX9_type 0 = .ok (.iload_n 1, 1) := by decide +kernel
theorem dX9_type_1 : decode cX9_type 1 = .ok (.bipush 32, 2) := by decide +kernel
theorem dX9_type_3 : decode cX9_type 3 = .ok (.bipush 126, 2) := by decide +kernel
theorem dX9_type_5 : decode cX9_type 5 = .ok (.invokestatic 38, 3) := by decide +kernel
theorem dX9_type_8 : decode cX9_type 8 = .ok (.ifCond .ne 5, 3) := by decide +kernel
theorem dX9_type_11 : decode cX9_type 11 = .ok (.iconst (-1), 1) := by decide +kernel
theorem dX9_type_12 : decode cX9_type 12 = .ok (.ireturn, 1) := by decide +kernel
theorem dX9_type_13 : decode cX9_type 13 = .ok (.aload_n 0, 1) := by decide +kernel
theorem dX9_type_14 : decode cX9_type 14 = .ok (.getfield 26, 3) := by decide +kernel
theorem dX9_type_17 : decode cX9_type 17 = .ok (.getfield 231, 3) := by decide +kernel
theorem dX9_type_20 : decode cX9_type 20 = .ok (.bipush 30, 2) := by decide +kernel
theorem dX9_type_22 : decode cX9_type 22 = .ok (.if_icmp .lt 6, 3) := by decide +kernel
theorem dX9_type_25 : decode cX9_type 25 = .ok (.bipush (-3), 2) := by decide +kernel
theorem dX9_type_27 : decode cX9_type 27 = .ok (.ireturn, 1) := by decide +kernel
theorem dX9_type_28 : decode cX9_type 28 = .ok (.aload_n 0, 1) := by decide +kernel
theorem dX9_type_29 : decode cX9_type 29 = .ok (.getfield 26, 3) := by decide +kernel
theorem dX9_type_32 : decode cX9_type 32 = .ok (.iload_n 1, 1) := by decide +kernel
theorem dX9_type_33 : decode cX9_type 33 = .ok (.i2c, 1) := by decide +kernel
theorem dX9_type_34 : decode cX9_type 34 = .ok (.invokevirtual 262, 3) := by decide +kernel
theorem dX9_type_37 : decode cX9_type 37 = .ok (.ireturn, 1) := by decide +kernel
theorem dX9_clearText_0 : decode cX9_clearText 0 = .ok (.aload_n 0, 1) := by decide +kernel
theorem dX9_clearText_1 : decode cX9_clearText 1 = .ok (.getfield 26, 3) := by decide +kernel
theorem dX9_clearText_4 : decode cX9_clearText 4 = .ok (.invokevirtual 265, 3) := by decide +kernel
theorem dX9_clearText_7 : decode cX9_clearText 7 = .ok (.ireturn, 1) := by decide +kernel
theorem dX9_fault_0 : decode cX9_fault 0 = .ok (.iload_n 1, 1) := by decide +kernel
theorem dX9_fault_1 : decode cX9_fault 1 = .ok (.iconst 0, 1) := by decide +kernel
theorem dX9_fault_2 : decode cX9_fault 2 = .ok (.iconst 1, 1) := by decide +kernel
theorem dX9_fault_3 : decode cX9_fault 3 = .ok (.invokestatic 38, 3) := by decide +kernel
theorem dX9_fault_6 : decode cX9_fault 6 = .ok (.ifCond .ne 5, 3) := by decide +kernel
theorem dX9_fault_9 : decode cX9_fault 9 = .ok (.iconst (-1), 1) := by decide +kernel
theorem dX9_fault_10 : decode cX9_fault 10 = .ok (.ireturn, 1) := by decide +kernel
theorem dX9_fault_11 : decode cX9_fault 11 = .ok (.aload_n 0, 1) := by decide +kernel
theorem dX9_fault_12 : decode cX9_fault 12 = .ok (.getfield 26, 3) := by decide +kernel
theorem dX9_fault_15 : decode cX9_fault 15 = .ok (.invokevirtual 106, 3) := by decide +kernel
theorem dX9_fault_18 : decode cX9_fault 18 = .ok (.istore_n 2, 1) := by decide +kernel
theorem dX9_fault_19 : decode cX9_fault 19 = .ok (.iload_n 2, 1) := by decide +kernel
theorem dX9_fault_20 : decode cX9_fault 20 = .ok (.iconst (-1), 1) := by decide +kernel
theorem dX9_fault_21 : decode cX9_fault 21 = .ok (.if_icmp .ne 6, 3) := by decide +kernel
theorem dX9_fault_24 : decode cX9_fault 24 = .ok (.bipush (-4), 2) := by decide +kernel
theorem dX9_fault_26 : decode cX9_fault 26 = .ok (.ireturn, 1) := by decide +kernel
theorem dX9_fault_27 : decode cX9_fault 27 = .ok (.iload_n 1, 1) := by decide +kernel
theorem dX9_fault_28 : decode cX9_fault 28 = .ok (.ifCond .ne 7, 3) := by decide +kernel
theorem dX9_fault_31 : decode cX9_fault 31 = .ok (.iload_n 2, 1) := by decide +kernel
theorem dX9_fault_32 : decode cX9_fault 32 = .ok (.goto 11, 3) := by decide +kernel
theorem dX9_fault_35 : decode cX9_fault 35 = .ok (.aload_n 0, 1) := by decide +kernel
theorem dX9_fault_36 : decode cX9_fault 36 = .ok (.getfield 26, 3) := by decide +kernel
theorem dX9_fault_39 : decode cX9_fault 39 = .ok (.iload_n 2, 1) := by decide +kernel
theorem dX9_fault_40 : decode cX9_fault 40 = .ok (.invokevirtual 268, 3) := by decide +kernel
theorem dX9_fault_43 : decode cX9_fault 43 = .ok (.ireturn, 1) := by decide +kernel
theorem dX9_record_0 : decode cX9_record 0 = .ok (.aload_n 0, 1) := by decide +kernel
theorem dX9_record_1 : decode cX9_record 1 = .ok (.getfield 19, 3) := by decide +kernel
theorem dX9_record_4 : decode cX9_record 4 = .ok (.aload_n 0, 1) := by decide +kernel
theorem dX9_record_5 : decode cX9_record 5 = .ok (.getfield 10, 3) := by decide +kernel
theorem dX9_record_8 : decode cX9_record 8 = .ok (.invokevirtual 271, 3) := by decide +kernel
theorem dX9_record_11 : decode cX9_record 11 = .ok (.return_, 1) := by decide +kernel
theorem dX9_accepts_0 : decode cX9_accepts 0 = .ok (.aload_n 0, 1) := by decide +kernel
theorem dX9_accepts_1 : decode cX9_accepts 1 = .ok (.getfield 10, 3) := by decide +kernel
theorem dX9_accepts_4 : decode cX9_accepts 4 = .ok (.iload_n 1, 1) := by decide +kernel
theorem dX9_accepts_5 : decode cX9_accepts 5 = .ok (.invokevirtual 120, 3) := by decide +kernel
theorem dX9_accepts_8 : decode cX9_accepts 8 = .ok (.ifCond .ne 5, 3) := by decide +kernel
theorem dX9_accepts_11 : decode cX9_accepts 11 = .ok (.iconst 0, 1) := by decide +kernel
theorem dX9_accepts_12 : decode cX9_accepts 12 = .ok (.ireturn, 1) := by decide +kernel
theorem dX9_accepts_13 : decode cX9_accepts 13 = .ok (.aload_n 0, 1) := by decide +kernel
theorem dX9_accepts_14 : decode cX9_accepts 14 = .ok (.getfield 10, 3) := by decide +kernel
theorem dX9_accepts_17 : decode cX9_accepts 17 = .ok (.iload_n 1, 1) := by decide +kernel
theorem dX9_accepts_18 : decode cX9_accepts 18 = .ok (.invokevirtual 123, 3) := by decide +kernel
theorem dX9_accepts_21 : decode cX9_accepts 21 = .ok (.astore 6, 2) := by decide +kernel
theorem dX9_accepts_23 : decode cX9_accepts 23 = .ok (.aload 6, 2) := by decide +kernel
theorem dX9_accepts_25 : decode cX9_accepts 25 = .ok (.iconst 0, 1) := by decide +kernel
theorem dX9_accepts_26 : decode cX9_accepts 26 = .ok (.iload_n 2, 1) := by decide +kernel
theorem dX9_accepts_27 : decode cX9_accepts 27 = .ok (.invokevirtual 274, 3) := by decide +kernel
theorem dX9_accepts_30 : decode cX9_accepts 30 = .ok (.ifCond .eq 39, 3) := by decide +kernel
theorem dX9_accepts_33 : decode cX9_accepts 33 = .ok (.aload 6, 2) := by decide +kernel
theorem dX9_accepts_35 : decode cX9_accepts 35 = .ok (.iconst 1, 1) := by decide +kernel
theorem dX9_accepts_36 : decode cX9_accepts 36 = .ok (.iload_n 3, 1) := by decide +kernel
theorem dX9_accepts_37 : decode cX9_accepts 37 = .ok (.invokevirtual 274, 3) := by decide +kernel
theorem dX9_accepts_40 : decode cX9_accepts 40 = .ok (.ifCond .eq 29, 3) := by decide +kernel
theorem dX9_accepts_43 : decode cX9_accepts 43 = .ok (.aload 6, 2) := by decide +kernel
theorem dX9_accepts_45 : decode cX9_accepts 45 = .ok (.iconst 2, 1) := by decide +kernel
theorem dX9_accepts_46 : decode cX9_accepts 46 = .ok (.iload 4, 2) := by decide +kernel
theorem dX9_accepts_48 : decode cX9_accepts 48 = .ok (.invokevirtual 274, 3) := by decide +kernel
theorem dX9_accepts_51 : decode cX9_accepts 51 = .ok (.ifCond .eq 18, 3) := by decide +kernel
theorem dX9_accepts_54 : decode cX9_accepts 54 = .ok (.aload 6, 2) := by decide +kernel
theorem dX9_accepts_56 : decode cX9_accepts 56 = .ok (.iconst 3, 1) := by decide +kernel
theorem dX9_accepts_57 : decode cX9_accepts 57 = .ok (.iload 5, 2) := by decide +kernel
theorem dX9_accepts_59 : decode cX9_accepts 59 = .ok (.invokevirtual 274, 3) := by decide +kernel
theorem dX9_accepts_62 : decode cX9_accepts 62 = .ok (.ifCond .eq 7, 3) := by decide +kernel
theorem dX9_accepts_65 : decode cX9_accepts 65 = .ok (.iconst 1, 1) := by decide +kernel
theorem dX9_accepts_66 : decode cX9_accepts 66 = .ok (.goto 4, 3) := by decide +kernel
theorem dX9_accepts_69 : decode cX9_accepts 69 = .ok (.iconst 0, 1) := by decide +kernel
theorem dX9_accepts_70 : decode cX9_accepts 70 = .ok (.ireturn, 1) := by decide +kernel
theorem dX9_gathered_0 : decode cX9_gathered 0 = .ok (.aload_n 0, 1) := by decide +kernel
theorem dX9_gathered_1 : decode cX9_gathered 1 = .ok (.getfield 30, 3) := by decide +kernel
theorem dX9_gathered_4 : decode cX9_gathered 4 = .ok (.iconst 0, 1) := by decide +kernel
theorem dX9_gathered_5 : decode cX9_gathered 5 = .ok (.iload_n 1, 1) := by decide +kernel
theorem dX9_gathered_6 : decode cX9_gathered 6 = .ok (.iastore, 1) := by decide +kernel
theorem dX9_gathered_7 : decode cX9_gathered 7 = .ok (.aload_n 0, 1) := by decide +kernel
theorem dX9_gathered_8 : decode cX9_gathered 8 = .ok (.getfield 30, 3) := by decide +kernel
theorem dX9_gathered_11 : decode cX9_gathered 11 = .ok (.iconst 1, 1) := by decide +kernel
theorem dX9_gathered_12 : decode cX9_gathered 12 = .ok (.iload_n 2, 1) := by decide +kernel
theorem dX9_gathered_13 : decode cX9_gathered 13 = .ok (.iastore, 1) := by decide +kernel
theorem dX9_gathered_14 : decode cX9_gathered 14 = .ok (.aload_n 0, 1) := by decide +kernel
theorem dX9_gathered_15 : decode cX9_gathered 15 = .ok (.getfield 30, 3) := by decide +kernel
theorem dX9_gathered_18 : decode cX9_gathered 18 = .ok (.iconst 2, 1) := by decide +kernel
theorem dX9_gathered_19 : decode cX9_gathered 19 = .ok (.iload_n 3, 1) := by decide +kernel
theorem dX9_gathered_20 : decode cX9_gathered 20 = .ok (.iastore, 1) := by decide +kernel
theorem dX9_gathered_21 : decode cX9_gathered 21 = .ok (.aload_n 0, 1) := by decide +kernel
theorem dX9_gathered_22 : decode cX9_gathered 22 = .ok (.getfield 30, 3) := by decide +kernel
theorem dX9_gathered_25 : decode cX9_gathered 25 = .ok (.iconst 3, 1) := by decide +kernel
theorem dX9_gathered_26 : decode cX9_gathered 26 = .ok (.iload 4, 2) := by decide +kernel
theorem dX9_gathered_28 : decode cX9_gathered 28 = .ok (.iastore, 1) := by decide +kernel
theorem dX9_gathered_29 : decode cX9_gathered 29 = .ok (.aload_n 0, 1) := by decide +kernel
theorem dX9_gathered_30 : decode cX9_gathered 30 = .ok (.getfield 30, 3) := by decide +kernel
theorem dX9_gathered_33 : decode cX9_gathered 33 = .ok (.areturn, 1) := by decide +kernel
theorem dX9_within_0 : decode cX9_within 0 = .ok (.iload_n 0, 1) := by decide +kernel
theorem dX9_within_1 : decode cX9_within 1 = .ok (.iload_n 1, 1) := by decide +kernel
theorem dX9_within_2 : decode cX9_within 2 = .ok (.if_icmp .lt 12, 3) := by decide +kernel
theorem dX9_within_5 : decode cX9_within 5 = .ok (.iload_n 0, 1) := by decide +kernel
theorem dX9_within_6 : decode cX9_within 6 = .ok (.iload_n 2, 1) := by decide +kernel
theorem dX9_within_7 : decode cX9_within 7 = .ok (.if_icmp .gt 7, 3) := by decide +kernel
theorem dX9_within_10 : decode cX9_within 10 = .ok (.iconst 1, 1) := by decide +kernel
theorem dX9_within_11 : decode cX9_within 11 = .ok (.goto 4, 3) := by decide +kernel
theorem dX9_within_14 : decode cX9_within 14 = .ok (.iconst 0, 1) := by decide +kernel
theorem dX9_within_15 : decode cX9_within 15 = .ok (.ireturn, 1) := by decide +kernel
theorem dX9_isValue_0 : decode cX9_isValue 0 = .ok (.iload_n 0, 1) := by decide +kernel
theorem dX9_isValue_1 : decode cX9_isValue 1 = .ok (.iconst 0, 1) := by decide +kernel
theorem dX9_isValue_2 : decode cX9_isValue 2 = .ok (.bipush 31, 2) := by decide +kernel
theorem dX9_isValue_4 : decode cX9_isValue 4 = .ok (.invokestatic 38, 3) := by decide +kernel
theorem dX9_isValue_7 : decode cX9_isValue 7 = .ok (.ireturn, 1) := by decide +kernel
theorem dX9_isColumn_0 : decode cX9_isColumn 0 = .ok (.iload_n 0, 1) := by decide +kernel
theorem dX9_isColumn_1 : decode cX9_isColumn 1 = .ok (.iconst 0, 1) := by decide +kernel
theorem dX9_isColumn_2 : decode cX9_isColumn 2 = .ok (.iconst 3, 1) := by decide +kernel
theorem dX9_isColumn_3 : decode cX9_isColumn 3 = .ok (.invokestatic 38, 3) := by decide +kernel
theorem dX9_isColumn_6 : decode cX9_isColumn 6 = .ok (.ireturn, 1) := by decide +kernel
theorem dX9_at_0 : decode cX9_at 0 = .ok (.iload_n 1, 1) := by decide +kernel
theorem dX9_at_1 : decode cX9_at 1 = .ok (.ifCond .lt 15, 3) := by decide +kernel
theorem dX9_at_4 : decode cX9_at 4 = .ok (.iload_n 1, 1) := by decide +kernel
theorem dX9_at_5 : decode cX9_at 5 = .ok (.aload_n 0, 1) := by decide +kernel
theorem dX9_at_6 : decode cX9_at 6 = .ok (.arraylength, 1) := by decide +kernel
theorem dX9_at_7 : decode cX9_at 7 = .ok (.if_icmp .ge 9, 3) := by decide +kernel
theorem dX9_at_10 : decode cX9_at 10 = .ok (.aload_n 0, 1) := by decide +kernel
theorem dX9_at_11 : decode cX9_at 11 = .ok (.iload_n 1, 1) := by decide +kernel
theorem dX9_at_12 : decode cX9_at 12 = .ok (.iaload, 1) := by decide +kernel
theorem dX9_at_13 : decode cX9_at 13 = .ok (.goto 4, 3) := by decide +kernel
theorem dX9_at_16 : decode cX9_at 16 = .ok (.iconst 0, 1) := by decide +kernel
theorem dX9_at_17 : decode cX9_at 17 = .ok (.ireturn, 1) := by decide +kernel
theorem dX9_copy_0 : decode cX9_copy 0 = .ok (.iconst 0, 1) := by decide +kernel
theorem dX9_copy_1 : decode cX9_copy 1 = .ok (.istore_n 2, 1) := by decide +kernel
theorem dX9_copy_2 : decode cX9_copy 2 = .ok (.iload_n 2, 1) := by decide +kernel
theorem dX9_copy_3 : decode cX9_copy 3 = .ok (.aload_n 0, 1) := by decide +kernel
theorem dX9_copy_4 : decode cX9_copy 4 = .ok (.arraylength, 1) := by decide +kernel
theorem dX9_copy_5 : decode cX9_copy 5 = .ok (.if_icmp .ge 21, 3) := by decide +kernel
theorem dX9_copy_8 : decode cX9_copy 8 = .ok (.iload_n 2, 1) := by decide +kernel
theorem dX9_copy_9 : decode cX9_copy 9 = .ok (.aload_n 1, 1) := by decide +kernel
theorem dX9_copy_10 : decode cX9_copy 10 = .ok (.arraylength, 1) := by decide +kernel
theorem dX9_copy_11 : decode cX9_copy 11 = .ok (.if_icmp .ge 15, 3) := by decide +kernel
theorem dX9_copy_14 : decode cX9_copy 14 = .ok (.aload_n 1, 1) := by decide +kernel
theorem dX9_copy_15 : decode cX9_copy 15 = .ok (.iload_n 2, 1) := by decide +kernel
theorem dX9_copy_16 : decode cX9_copy 16 = .ok (.aload_n 0, 1) := by decide +kernel
theorem dX9_copy_17 : decode cX9_copy 17 = .ok (.iload_n 2, 1) := by decide +kernel
theorem dX9_copy_18 : decode cX9_copy 18 = .ok (.iaload, 1) := by decide +kernel
theorem dX9_copy_19 : decode cX9_copy 19 = .ok (.iastore, 1) := by decide +kernel
theorem dX9_copy_20 : decode cX9_copy 20 = .ok (.iinc 2 1, 3) := by decide +kernel
theorem dX9_copy_23 : decode cX9_copy 23 = .ok (.goto (-21), 3) := by decide +kernel
theorem dX9_copy_26 : decode cX9_copy 26 = .ok (.return_, 1) := by decide +kernel
theorem dX9_holds_0 : decode cX9_holds 0 = .ok (.iload_n 1, 1) := by decide +kernel
theorem dX9_holds_1 : decode cX9_holds 1 = .ok (.lookupswitch 49 #[(1, 27), (2, 38)], 27) := by decide +kernel
theorem dX9_holds_28 : decode cX9_holds 28 = .ok (.iload_n 0, 1) := by decide +kernel
theorem dX9_holds_29 : decode cX9_holds 29 = .ok (.iload_n 2, 1) := by decide +kernel
theorem dX9_holds_30 : decode cX9_holds 30 = .ok (.if_icmp .ge 7, 3) := by decide +kernel
theorem dX9_holds_33 : decode cX9_holds 33 = .ok (.iconst 1, 1) := by decide +kernel
theorem dX9_holds_34 : decode cX9_holds 34 = .ok (.goto 4, 3) := by decide +kernel
theorem dX9_holds_37 : decode cX9_holds 37 = .ok (.iconst 0, 1) := by decide +kernel
theorem dX9_holds_38 : decode cX9_holds 38 = .ok (.ireturn, 1) := by decide +kernel
theorem dX9_holds_39 : decode cX9_holds 39 = .ok (.iload_n 0, 1) := by decide +kernel
theorem dX9_holds_40 : decode cX9_holds 40 = .ok (.iload_n 2, 1) := by decide +kernel
theorem dX9_holds_41 : decode cX9_holds 41 = .ok (.if_icmp .le 7, 3) := by decide +kernel
theorem dX9_holds_44 : decode cX9_holds 44 = .ok (.iconst 1, 1) := by decide +kernel
theorem dX9_holds_45 : decode cX9_holds 45 = .ok (.goto 4, 3) := by decide +kernel
theorem dX9_holds_48 : decode cX9_holds 48 = .ok (.iconst 0, 1) := by decide +kernel
theorem dX9_holds_49 : decode cX9_holds 49 = .ok (.ireturn, 1) := by decide +kernel
theorem dX9_holds_50 : decode cX9_holds 50 = .ok (.iload_n 0, 1) := by decide +kernel
theorem dX9_holds_51 : decode cX9_holds 51 = .ok (.iload_n 2, 1) := by decide +kernel
theorem dX9_holds_52 : decode cX9_holds 52 = .ok (.if_icmp .ne 7, 3) := by decide +kernel
theorem dX9_holds_55 : decode cX9_holds 55 = .ok (.iconst 1, 1) := by decide +kernel
theorem dX9_holds_56 : decode cX9_holds 56 = .ok (.goto 4, 3) := by decide +kernel
theorem dX9_holds_59 : decode cX9_holds 59 = .ok (.iconst 0, 1) := by decide +kernel
theorem dX9_holds_60 : decode cX9_holds 60 = .ok (.ireturn, 1) := by decide +kernel
theorem dX9_cost_0 : decode cX9_cost 0 = .ok (.iload_n 3, 1) := by decide +kernel
theorem dX9_cost_1 : decode cX9_cost 1 = .ok (.bipush 9, 2) := by decide +kernel
theorem dX9_cost_3 : decode cX9_cost 3 = .ok (.if_icmp .ne 8, 3) := by decide +kernel
theorem dX9_cost_6 : decode cX9_cost 6 = .ok (.aload_n 0, 1) := by decide +kernel
theorem dX9_cost_7 : decode cX9_cost 7 = .ok (.getfield 96, 3) := by decide +kernel
theorem dX9_cost_10 : decode cX9_cost 10 = .ok (.ireturn, 1) := by decide +kernel
theorem dX9_cost_11 : decode cX9_cost 11 = .ok (.bipush 10, 2) := by decide +kernel
theorem dX9_cost_13 : decode cX9_cost 13 = .ok (.aload_n 0, 1) := by decide +kernel
theorem dX9_cost_14 : decode cX9_cost 14 = .ok (.aload_n 1, 1) := by decide +kernel
theorem dX9_cost_15 : decode cX9_cost 15 = .ok (.iload_n 3, 1) := by decide +kernel
theorem dX9_cost_16 : decode cX9_cost 16 = .ok (.invokevirtual 147, 3) := by decide +kernel
theorem dX9_cost_19 : decode cX9_cost 19 = .ok (.aload_n 1, 1) := by decide +kernel
theorem dX9_cost_20 : decode cX9_cost 20 = .ok (.iload_n 3, 1) := by decide +kernel
theorem dX9_cost_21 : decode cX9_cost 21 = .ok (.invokevirtual 150, 3) := by decide +kernel
theorem dX9_cost_24 : decode cX9_cost 24 = .ok (.aload_n 2, 1) := by decide +kernel
theorem dX9_cost_25 : decode cX9_cost 25 = .ok (.iload_n 3, 1) := by decide +kernel
theorem dX9_cost_26 : decode cX9_cost 26 = .ok (.invokestatic 194, 3) := by decide +kernel
theorem dX9_cost_29 : decode cX9_cost 29 = .ok (.invokevirtual 278, 3) := by decide +kernel
theorem dX9_cost_32 : decode cX9_cost 32 = .ok (.iadd, 1) := by decide +kernel
theorem dX9_cost_33 : decode cX9_cost 33 = .ok (.ireturn, 1) := by decide +kernel
end
section
theorem dX10_init_0 : decode cX10_init 0 = .ok (.aload_n 0, 1) := by decide +kernel
theorem dX10_init_1 : decode cX10_init 1 = .ok (.invokespecial 1, 3) := by decide +kernel
theorem dX10_init_4 : decode cX10_init 4 = .ok (.aload_n 0, 1) := by decide +kernel
theorem dX10_init_5 : decode cX10_init 5 = .ok (.sipush 439, 3) := by decide +kernel
theorem dX10_init_8 : decode cX10_init 8 = .ok (.newarray .int, 2) := by decide +kernel
theorem dX10_init_10 : decode cX10_init 10 = .ok (.putfield 7, 3) := by decide +kernel
theorem dX10_init_13 : decode cX10_init 13 = .ok (.aload_n 0, 1) := by decide +kernel
theorem dX10_init_14 : decode cX10_init 14 = .ok (.sipush 1756, 3) := by decide +kernel
theorem dX10_init_17 : decode cX10_init 17 = .ok (.newarray .int, 2) := by decide +kernel
theorem dX10_init_19 : decode cX10_init 19 = .ok (.putfield 13, 3) := by decide +kernel
theorem dX10_init_22 : decode cX10_init 22 = .ok (.aload_n 0, 1) := by decide +kernel
theorem dX10_init_23 : decode cX10_init 23 = .ok (.bipush 30, 2) := by decide +kernel
theorem dX10_init_25 : decode cX10_init 25 = .ok (.newarray .int, 2) := by decide +kernel
theorem dX10_init_27 : decode cX10_init 27 = .ok (.putfield 16, 3) := by decide +kernel
theorem dX10_init_30 : decode cX10_init 30 = .ok (.aload_n 0, 1) := by decide +kernel
theorem dX10_init_31 : decode cX10_init 31 = .ok (.iconst 4, 1) := by decide +kernel
theorem dX10_init_32 : decode cX10_init 32 = .ok (.newarray .int, 2) := by decide +kernel
theorem dX10_init_34 : decode cX10_init 34 = .ok (.putfield 19, 3) := by decide +kernel
theorem dX10_init_37 : decode cX10_init 37 = .ok (.aload_n 0, 1) := by decide +kernel
theorem dX10_init_38 : decode cX10_init 38 = .ok (.getfield 7, 3) := by decide +kernel
theorem dX10_init_41 : decode cX10_init 41 = .ok (.bipush 11, 2) := by decide +kernel
theorem dX10_init_43 : decode cX10_init 43 = .ok (.bipush 50, 2) := by decide +kernel
theorem dX10_init_45 : decode cX10_init 45 = .ok (.iastore, 1) := by decide +kernel
theorem dX10_init_46 : decode cX10_init 46 = .ok (.aload_n 0, 1) := by decide +kernel
theorem dX10_init_47 : decode cX10_init 47 = .ok (.getfield 7, 3) := by decide +kernel
theorem dX10_init_50 : decode cX10_init 50 = .ok (.bipush 12, 2) := by decide +kernel
theorem dX10_init_52 : decode cX10_init 52 = .ok (.sipush 300, 3) := by decide +kernel
theorem dX10_init_55 : decode cX10_init 55 = .ok (.iastore, 1) := by decide +kernel
theorem dX10_init_56 : decode cX10_init 56 = .ok (.aload_n 0, 1) := by decide +kernel
theorem dX10_init_57 : decode cX10_init 57 = .ok (.getfield 7, 3) := by decide +kernel
theorem dX10_init_60 : decode cX10_init 60 = .ok (.bipush 13, 2) := by decide +kernel
theorem dX10_init_62 : decode cX10_init 62 = .ok (.iconst 4, 1) := by decide +kernel
theorem dX10_init_63 : decode cX10_init 63 = .ok (.iastore, 1) := by decide +kernel
theorem dX10_init_64 : decode cX10_init 64 = .ok (.aload_n 0, 1) := by decide +kernel
theorem dX10_init_65 : decode cX10_init 65 = .ok (.getfield 7, 3) := by decide +kernel
theorem dX10_init_68 : decode cX10_init 68 = .ok (.bipush 14, 2) := by decide +kernel
theorem dX10_init_70 : decode cX10_init 70 = .ok (.iconst 2, 1) := by decide +kernel
theorem dX10_init_71 : decode cX10_init 71 = .ok (.iastore, 1) := by decide +kernel
theorem dX10_init_72 : decode cX10_init 72 = .ok (.aload_n 0, 1) := by decide +kernel
theorem dX10_init_73 : decode cX10_init 73 = .ok (.getfield 7, 3) := by decide +kernel
theorem dX10_init_76 : decode cX10_init 76 = .ok (.bipush 15, 2) := by decide +kernel
theorem dX10_init_78 : decode cX10_init 78 = .ok (.iconst 4, 1) := by decide +kernel
theorem dX10_init_79 : decode cX10_init 79 = .ok (.iastore, 1) := by decide +kernel
theorem dX10_init_80 : decode cX10_init 80 = .ok (.aload_n 0, 1) := by decide +kernel
theorem dX10_init_81 : decode cX10_init 81 = .ok (.getfield 7, 3) := by decide +kernel
theorem dX10_init_84 : decode cX10_init 84 = .ok (.bipush 16, 2) := by decide +kernel
theorem dX10_init_86 : decode cX10_init 86 = .ok (.bipush (-4), 2) := by decide +kernel
theorem dX10_init_88 : decode cX10_init 88 = .ok (.iastore, 1) := by decide +kernel
theorem dX10_init_89 : decode cX10_init 89 = .ok (.return_, 1) := by decide +kernel
theorem dX10_in_0 : decode cX10_in 0 = .ok (.iload_n 0, 1) := by decide +kernel
theorem dX10_in_1 : decode cX10_in 1 = .ok (.iload_n 1, 1) := by decide +kernel
theorem dX10_in_2 : decode cX10_in 2 = .ok (.if_icmp .lt 12, 3) := by decide +kernel
theorem dX10_in_5 : decode cX10_in 5 = .ok (.iload_n 0, 1) := by decide +kernel
theorem dX10_in_6 : decode cX10_in 6 = .ok (.iload_n 2, 1) := by decide +kernel
theorem dX10_in_7 : decode cX10_in 7 = .ok (.if_icmp .gt 7, 3) := by decide +kernel
theorem dX10_in_10 : decode cX10_in 10 = .ok (.iconst 1, 1) := by decide +kernel
theorem dX10_in_11 : decode cX10_in 11 = .ok (.goto 4, 3) := by decide +kernel
theorem dX10_in_14 : decode cX10_in 14 = .ok (.iconst 0, 1) := by decide +kernel
theorem dX10_in_15 : decode cX10_in 15 = .ok (.ireturn, 1) := by decide +kernel
theorem dX10_changes_0 : decode cX10_changes 0 = .ok (.aload_n 0, 1) := by decide +kernel
theorem dX10_changes_1 : decode cX10_changes 1 = .ok (.getfield 22, 3) := by decide +kernel
theorem dX10_changes_4 : decode cX10_changes 4 = .ok (.iconst 4, 1) := by decide +kernel
theorem dX10_changes_5 : decode cX10_changes 5 = .ok (.if_icmp .ne 44, 3) := by decide +kernel
theorem dX10_changes_8 : decode cX10_changes 8 = .ok (.iconst 0, 1) := by decide +kernel
theorem dX10_changes_9 : decode cX10_changes 9 = .ok (.istore_n 1, 1) := by decide +kernel
theorem dX10_changes_10 : decode cX10_changes 10 = .ok (.iload_n 1, 1) := by decide +kernel
theorem dX10_changes_11 : decode cX10_changes 11 = .ok (.sipush 1317, 3) := by decide +kernel
theorem dX10_changes_14 : decode cX10_changes 14 = .ok (.if_icmp .ge 25, 3) := by decide +kernel
theorem dX10_changes_17 : decode cX10_changes 17 = .ok (.aload_n 0, 1) := by decide +kernel
theorem dX10_changes_18 : decode cX10_changes 18 = .ok (.getfield 13, 3) := by decide +kernel
theorem dX10_changes_21 : decode cX10_changes 21 = .ok (.iload_n 1, 1) := by decide +kernel
theorem dX10_changes_22 : decode cX10_changes 22 = .ok (.aload_n 0, 1) := by decide +kernel
theorem dX10_changes_23 : decode cX10_changes 23 = .ok (.getfield 13, 3) := by decide +kernel
theorem dX10_changes_26 : decode cX10_changes 26 = .ok (.iload_n 1, 1) := by decide +kernel
theorem dX10_changes_27 : decode cX10_changes 27 = .ok (.sipush 439, 3) := by decide +kernel
theorem dX10_changes_30 : decode cX10_changes 30 = .ok (.iadd, 1) := by decide +kernel
theorem dX10_changes_31 : decode cX10_changes 31 = .ok (.iaload, 1) := by decide +kernel
theorem dX10_changes_32 : decode cX10_changes 32 = .ok (.iastore, 1) := by decide +kernel
theorem dX10_changes_33 : decode cX10_changes 33 = .ok (.iinc 1 1, 3) := by decide +kernel
theorem dX10_changes_36 : decode cX10_changes 36 = .ok (.goto (-26), 3) := by decide +kernel
theorem dX10_changes_39 : decode cX10_changes 39 = .ok (.aload_n 0, 1) := by decide +kernel
theorem dX10_changes_40 : decode cX10_changes 40 = .ok (.dup, 1) := by decide +kernel
theorem dX10_changes_41 : decode cX10_changes 41 = .ok (.getfield 22, 3) := by decide +kernel
theorem dX10_changes_44 : decode cX10_changes 44 = .ok (.iconst 1, 1) := by decide +kernel
theorem dX10_changes_45 : decode cX10_changes 45 = .ok (.isub, 1) := by decide +kernel
theorem dX10_changes_46 : decode cX10_changes 46 = .ok (.putfield 22, 3) := by decide +kernel
theorem dX10_changes_49 : decode cX10_changes 49 = .ok (.iconst 0, 1) := by decide +kernel
theorem dX10_changes_50 : decode cX10_changes 50 = .ok (.istore_n 1, 1) := by decide +kernel
theorem dX10_changes_51 : decode cX10_changes 51 = .ok (.iload_n 1, 1) := by decide +kernel
theorem dX10_changes_52 : decode cX10_changes 52 = .ok (.sipush 439, 3) := by decide +kernel
theorem dX10_changes_55 : decode cX10_changes 55 = .ok (.if_icmp .ge 30, 3) := by decide +kernel
theorem dX10_changes_58 : decode cX10_changes 58 = .ok (.aload_n 0, 1) := by decide +kernel
theorem dX10_changes_59 : decode cX10_changes 59 = .ok (.getfield 13, 3) := by decide +kernel
theorem dX10_changes_62 : decode cX10_changes 62 = .ok (.sipush 439, 3) := by decide +kernel
theorem dX10_changes_65 : decode cX10_changes 65 = .ok (.aload_n 0, 1) := by decide +kernel
theorem dX10_changes_66 : decode cX10_changes 66 = .ok (.getfield 22, 3) := by decide +kernel
theorem dX10_changes_69 : decode cX10_changes 69 = .ok (.imul, 1) := by decide +kernel
theorem dX10_changes_70 : decode cX10_changes 70 = .ok (.iload_n 1, 1) := by decide +kernel
theorem dX10_changes_71 : decode cX10_changes 71 = .ok (.iadd, 1) := by decide +kernel
theorem dX10_changes_72 : decode cX10_changes 72 = .ok (.aload_n 0, 1) := by decide +kernel
theorem dX10_changes_73 : decode cX10_changes 73 = .ok (.getfield 7, 3) := by decide +kernel
theorem dX10_changes_76 : decode cX10_changes 76 = .ok (.iload_n 1, 1) := by decide +kernel
theorem dX10_changes_77 : decode cX10_changes 77 = .ok (.iaload, 1) := by decide +kernel
theorem dX10_changes_78 : decode cX10_changes 78 = .ok (.iastore, 1) := by decide +kernel
theorem dX10_changes_79 : decode cX10_changes 79 = .ok (.iinc 1 1, 3) := by decide +kernel
theorem dX10_changes_82 : decode cX10_changes 82 = .ok (.goto (-31), 3) := by decide +kernel
theorem dX10_changes_85 : decode cX10_changes 85 = .ok (.aload_n 0, 1) := by decide +kernel
theorem dX10_changes_86 : decode cX10_changes 86 = .ok (.dup, 1) := by decide +kernel
theorem dX10_changes_87 : decode cX10_changes 87 = .ok (.getfield 22, 3) := by decide +kernel
theorem dX10_changes_90 : decode cX10_changes 90 = .ok (.iconst 1, 1) := by decide +kernel
theorem dX10_changes_91 : decode cX10_changes 91 = .ok (.iadd, 1) := by decide +kernel
theorem dX10_changes_92 : decode cX10_changes 92 = .ok (.putfield 22, 3) := by decide +kernel
theorem dX10_changes_95 : decode cX10_changes 95 = .ok (.return_, 1) := by decide +kernel
theorem dX10_isValue_0 : decode cX10_isValue 0 = .ok (.iload_n 0, 1) := by decide +kernel
theorem dX10_isValue_1 : decode cX10_isValue 1 = .ok (.iconst 0, 1) := by decide +kernel
theorem dX10_isValue_2 : decode cX10_isValue 2 = .ok (.bipush 31, 2) := by decide +kernel
theorem dX10_isValue_4 : decode cX10_isValue 4 = .ok (.invokestatic 26, 3) := by decide +kernel
theorem dX10_isValue_7 : decode cX10_isValue 7 = .ok (.ireturn, 1) := by decide +kernel
theorem dX10_isRow_0 : decode cX10_isRow 0 = .ok (.iload_n 1, 1) := by decide +kernel
theorem dX10_isRow_1 : decode cX10_isRow 1 = .ok (.ifCond .lt 17, 3) := by decide +kernel
theorem dX10_isRow_4 : decode cX10_isRow 4 = .ok (.iload_n 1, 1) := by decide +kernel
theorem dX10_isRow_5 : decode cX10_isRow 5 = .ok (.aload_n 0, 1) := by decide +kernel
theorem dX10_isRow_6 : decode cX10_isRow 6 = .ok (.getfield 7, 3) := by decide +kernel
theorem dX10_isRow_9 : decode cX10_isRow 9 = .ok (.iconst 0, 1) := by decide +kernel
theorem dX10_isRow_10 : decode cX10_isRow 10 = .ok (.iaload, 1) := by decide +kernel
theorem dX10_isRow_11 : decode cX10_isRow 11 = .ok (.if_icmp .ge 7, 3) := by decide +kernel
theorem dX10_isRow_14 : decode cX10_isRow 14 = .ok (.iconst 1, 1) := by decide +kernel
theorem dX10_isRow_15 : decode cX10_isRow 15 = .ok (.goto 4, 3) := by decide +kernel
theorem dX10_isRow_18 : decode cX10_isRow 18 = .ok (.iconst 0, 1) := by decide +kernel
theorem dX10_isRow_19 : decode cX10_isRow 19 = .ok (.ireturn, 1) := by decide +kernel
theorem dX10_ofRow_0 : decode cX10_ofRow 0 = .ok (.aload_n 0, 1) := by decide +kernel
theorem dX10_ofRow_1 : decode cX10_ofRow 1 = .ok (.getfield 7, 3) := by decide +kernel
theorem dX10_ofRow_4 : decode cX10_ofRow 4 = .ok (.bipush 29, 2) := by decide +kernel
theorem dX10_ofRow_6 : decode cX10_ofRow 6 = .ok (.iconst 5, 1) := by decide +kernel
theorem dX10_ofRow_7 : decode cX10_ofRow 7 = .ok (.iload_n 1, 1) := by decide +kernel
theorem dX10_ofRow_8 : decode cX10_ofRow 8 = .ok (.imul, 1) := by decide +kernel
theorem dX10_ofRow_9 : decode cX10_ofRow 9 = .ok (.iadd, 1) := by decide +kernel
theorem dX10_ofRow_10 : decode cX10_ofRow 10 = .ok (.iload_n 2, 1) := by decide +kernel
theorem dX10_ofRow_11 : decode cX10_ofRow 11 = .ok (.iadd, 1) := by decide +kernel
theorem dX10_ofRow_12 : decode cX10_ofRow 12 = .ok (.iaload, 1) := by decide +kernel
theorem dX10_ofRow_13 : decode cX10_ofRow 13 = .ok (.ireturn, 1) := by decide +kernel
theorem dX10_row_0 : decode cX10_row 0 = .ok (.iload_n 1, 1) := by decide +kernel
theorem dX10_row_1 : decode cX10_row 1 = .ok (.invokestatic 30, 3) := by decide +kernel
theorem dX10_row_4 : decode cX10_row 4 = .ok (.ifCond .eq 37, 3) := by decide +kernel
theorem dX10_row_7 : decode cX10_row 7 = .ok (.iload_n 2, 1) := by decide +kernel
theorem dX10_row_8 : decode cX10_row 8 = .ok (.invokestatic 30, 3) := by decide +kernel
theorem dX10_row_11 : decode cX10_row 11 = .ok (.ifCond .eq 30, 3) := by decide +kernel
theorem dX10_row_14 : decode cX10_row 14 = .ok (.iload_n 3, 1) := by decide +kernel
theorem dX10_row_15 : decode cX10_row 15 = .ok (.invokestatic 30, 3) := by decide +kernel
theorem dX10_row_18 : decode cX10_row 18 = .ok (.ifCond .eq 23, 3) := by decide +kernel
theorem dX10_row_21 : decode cX10_row 21 = .ok (.iload 4, 2) := by decide +kernel
theorem dX10_row_23 : decode cX10_row 23 = .ok (.invokestatic 30, 3) := by decide +kernel
theorem dX10_row_26 : decode cX10_row 26 = .ok (.ifCond .eq 15, 3) := by decide +kernel
theorem dX10_row_29 : decode cX10_row 29 = .ok (.iload 5, 2) := by decide +kernel
theorem dX10_row_31 : decode cX10_row 31 = .ok (.iconst 1, 1) := by decide +kernel
theorem dX10_row_32 : decode cX10_row 32 = .ok (.sipush 999, 3) := by decide +kernel
theorem dX10_row_35 : decode cX10_row 35 = .ok (.invokestatic 26, 3) := by decide +kernel
theorem dX10_row_38 : decode cX10_row 38 = .ok (.ifCond .ne 5, 3) := by decide +kernel
theorem dX10_row_41 : decode cX10_row 41 = .ok (.iconst (-1), 1) := by decide +kernel
theorem dX10_row_42 : decode cX10_row 42 = .ok (.ireturn, 1) := by decide +kernel
theorem dX10_row_43 : decode cX10_row 43 = .ok (.aload_n 0, 1) := by decide +kernel
theorem dX10_row_44 : decode cX10_row 44 = .ok (.getfield 7, 3) := by decide +kernel
theorem dX10_row_47 : decode cX10_row 47 = .ok (.iconst 0, 1) := by decide +kernel
theorem dX10_row_48 : decode cX10_row 48 = .ok (.iaload, 1) := by decide +kernel
theorem dX10_row_49 : decode cX10_row 49 = .ok (.istore 6, 2) := by decide +kernel
theorem dX10_row_51 : decode cX10_row 51 = .ok (.iload 6, 2) := by decide +kernel
theorem dX10_row_53 : decode cX10_row 53 = .ok (.bipush 30, 2) := by decide +kernel
theorem dX10_row_55 : decode cX10_row 55 = .ok (.if_icmp .ne 6, 3) := by decide +kernel
theorem dX10_row_58 : decode cX10_row 58 = .ok (.bipush (-3), 2) := by decide +kernel
theorem dX10_row_60 : decode cX10_row 60 = .ok (.ireturn, 1) := by decide +kernel
theorem dX10_row_61 : decode cX10_row 61 = .ok (.aload_n 0, 1) := by decide +kernel
theorem dX10_row_62 : decode cX10_row 62 = .ok (.invokevirtual 34, 3) := by decide +kernel
theorem dX10_row_65 : decode cX10_row 65 = .ok (.aload_n 0, 1) := by decide +kernel
theorem dX10_row_66 : decode cX10_row 66 = .ok (.getfield 7, 3) := by decide +kernel
theorem dX10_row_69 : decode cX10_row 69 = .ok (.bipush 29, 2) := by decide +kernel
theorem dX10_row_71 : decode cX10_row 71 = .ok (.iconst 5, 1) := by decide +kernel
theorem dX10_row_72 : decode cX10_row 72 = .ok (.iload 6, 2) := by decide +kernel
theorem dX10_row_74 : decode cX10_row 74 = .ok (.imul, 1) := by decide +kernel
theorem dX10_row_75 : decode cX10_row 75 = .ok (.iadd, 1) := by decide +kernel
theorem dX10_row_76 : decode cX10_row 76 = .ok (.iload_n 1, 1) := by decide +kernel
theorem dX10_row_77 : decode cX10_row 77 = .ok (.iastore, 1) := by decide +kernel
theorem dX10_row_78 : decode cX10_row 78 = .ok (.aload_n 0, 1) := by decide +kernel
theorem dX10_row_79 : decode cX10_row 79 = .ok (.getfield 7, 3) := by decide +kernel
theorem dX10_row_82 : decode cX10_row 82 = .ok (.bipush 29, 2) := by decide +kernel
theorem dX10_row_84 : decode cX10_row 84 = .ok (.iconst 5, 1) := by decide +kernel
theorem dX10_row_85 : decode cX10_row 85 = .ok (.iload 6, 2) := by decide +kernel
theorem dX10_row_87 : decode cX10_row 87 = .ok (.imul, 1) := by decide +kernel
theorem dX10_row_88 : decode cX10_row 88 = .ok (.iadd, 1) := by decide +kernel
theorem dX10_row_89 : decode cX10_row 89 = .ok (.iconst 1, 1) := by decide +kernel
theorem dX10_row_90 : decode cX10_row 90 = .ok (.iadd, 1) := by decide +kernel
theorem dX10_row_91 : decode cX10_row 91 = .ok (.iload_n 2, 1) := by decide +kernel
theorem dX10_row_92 : decode cX10_row 92 = .ok (.iastore, 1) := by decide +kernel
theorem dX10_row_93 : decode cX10_row 93 = .ok (.aload_n 0, 1) := by decide +kernel
theorem dX10_row_94 : decode cX10_row 94 = .ok (.getfield 7, 3) := by decide +kernel
theorem dX10_row_97 : decode cX10_row 97 = .ok (.bipush 29, 2) := by decide +kernel
theorem dX10_row_99 : decode cX10_row 99 = .ok (.iconst 5, 1) := by decide +kernel
theorem dX10_row_100 : decode cX10_row 100 = .ok (.iload 6, 2) := by decide +kernel
theorem dX10_row_102 : decode cX10_row 102 = .ok (.imul, 1) := by decide +kernel
theorem dX10_row_103 : decode cX10_row 103 = .ok (.iadd, 1) := by decide +kernel
theorem dX10_row_104 : decode cX10_row 104 = .ok (.iconst 2, 1) := by decide +kernel
theorem dX10_row_105 : decode cX10_row 105 = .ok (.iadd, 1) := by decide +kernel
theorem dX10_row_106 : decode cX10_row 106 = .ok (.iload_n 3, 1) := by decide +kernel
theorem dX10_row_107 : decode cX10_row 107 = .ok (.iastore, 1) := by decide +kernel
theorem dX10_row_108 : decode cX10_row 108 = .ok (.aload_n 0, 1) := by decide +kernel
theorem dX10_row_109 : decode cX10_row 109 = .ok (.getfield 7, 3) := by decide +kernel
theorem dX10_row_112 : decode cX10_row 112 = .ok (.bipush 29, 2) := by decide +kernel
theorem dX10_row_114 : decode cX10_row 114 = .ok (.iconst 5, 1) := by decide +kernel
theorem dX10_row_115 : decode cX10_row 115 = .ok (.iload 6, 2) := by decide +kernel
theorem dX10_row_117 : decode cX10_row 117 = .ok (.imul, 1) := by decide +kernel
theorem dX10_row_118 : decode cX10_row 118 = .ok (.iadd, 1) := by decide +kernel
theorem dX10_row_119 : decode cX10_row 119 = .ok (.iconst 3, 1) := by decide +kernel
theorem dX10_row_120 : decode cX10_row 120 = .ok (.iadd, 1) := by decide +kernel
theorem dX10_row_121 : decode cX10_row 121 = .ok (.iload 4, 2) := by decide +kernel
theorem dX10_row_123 : decode cX10_row 123 = .ok (.iastore, 1) := by decide +kernel
theorem dX10_row_124 : decode cX10_row 124 = .ok (.aload_n 0, 1) := by decide +kernel
theorem dX10_row_125 : decode cX10_row 125 = .ok (.getfield 7, 3) := by decide +kernel
theorem dX10_row_128 : decode cX10_row 128 = .ok (.bipush 29, 2) := by decide +kernel
theorem dX10_row_130 : decode cX10_row 130 = .ok (.iconst 5, 1) := by decide +kernel
theorem dX10_row_131 : decode cX10_row 131 = .ok (.iload 6, 2) := by decide +kernel
theorem dX10_row_133 : decode cX10_row 133 = .ok (.imul, 1) := by decide +kernel
theorem dX10_row_134 : decode cX10_row 134 = .ok (.iadd, 1) := by decide +kernel
theorem dX10_row_135 : decode cX10_row 135 = .ok (.iconst 4, 1) := by decide +kernel
theorem dX10_row_136 : decode cX10_row 136 = .ok (.iadd, 1) := by decide +kernel
theorem dX10_row_137 : decode cX10_row 137 = .ok (.iload 5, 2) := by decide +kernel
theorem dX10_row_139 : decode cX10_row 139 = .ok (.iastore, 1) := by decide +kernel
theorem dX10_row_140 : decode cX10_row 140 = .ok (.aload_n 0, 1) := by decide +kernel
theorem dX10_row_141 : decode cX10_row 141 = .ok (.getfield 7, 3) := by decide +kernel
theorem dX10_row_144 : decode cX10_row 144 = .ok (.iconst 0, 1) := by decide +kernel
theorem dX10_row_145 : decode cX10_row 145 = .ok (.dup2, 1) := by decide +kernel
theorem dX10_row_146 : decode cX10_row 146 = .ok (.iaload, 1) := by decide +kernel
theorem dX10_row_147 : decode cX10_row 147 = .ok (.iconst 1, 1) := by decide +kernel
theorem dX10_row_148 : decode cX10_row 148 = .ok (.iadd, 1) := by decide +kernel
theorem dX10_row_149 : decode cX10_row 149 = .ok (.iastore, 1) := by decide +kernel
theorem dX10_row_150 : decode cX10_row 150 = .ok (.iload 6, 2) := by decide +kernel
theorem dX10_row_152 : decode cX10_row 152 = .ok (.ireturn, 1) := by decide +kernel
theorem dX10_dropRow_0 : decode cX10_dropRow 0 = .ok (.aload_n 0, 1) := by decide +kernel
theorem dX10_dropRow_1 : decode cX10_dropRow 1 = .ok (.iload_n 1, 1) := by decide +kernel
theorem dX10_dropRow_2 : decode cX10_dropRow 2 = .ok (.invokevirtual 37, 3) := by decide +kernel
theorem dX10_dropRow_5 : decode cX10_dropRow 5 = .ok (.ifCond .ne 5, 3) := by decide +kernel
theorem dX10_dropRow_8 : decode cX10_dropRow 8 = .ok (.iconst (-1), 1) := by decide +kernel
theorem dX10_dropRow_9 : decode cX10_dropRow 9 = .ok (.ireturn, 1) := by decide +kernel
theorem dX10_dropRow_10 : decode cX10_dropRow 10 = .ok (.aload_n 0, 1) := by decide +kernel
theorem dX10_dropRow_11 : decode cX10_dropRow 11 = .ok (.invokevirtual 34, 3) := by decide +kernel
theorem dX10_dropRow_14 : decode cX10_dropRow 14 = .ok (.aload_n 0, 1) := by decide +kernel
theorem dX10_dropRow_15 : decode cX10_dropRow 15 = .ok (.iload_n 1, 1) := by decide +kernel
theorem dX10_dropRow_16 : decode cX10_dropRow 16 = .ok (.iconst 4, 1) := by decide +kernel
theorem dX10_dropRow_17 : decode cX10_dropRow 17 = .ok (.invokevirtual 40, 3) := by decide +kernel
theorem dX10_dropRow_20 : decode cX10_dropRow 20 = .ok (.istore_n 2, 1) := by decide +kernel
theorem dX10_dropRow_21 : decode cX10_dropRow 21 = .ok (.aload_n 0, 1) := by decide +kernel
theorem dX10_dropRow_22 : decode cX10_dropRow 22 = .ok (.getfield 7, 3) := by decide +kernel
theorem dX10_dropRow_25 : decode cX10_dropRow 25 = .ok (.iconst 0, 1) := by decide +kernel
theorem dX10_dropRow_26 : decode cX10_dropRow 26 = .ok (.dup2, 1) := by decide +kernel
theorem dX10_dropRow_27 : decode cX10_dropRow 27 = .ok (.iaload, 1) := by decide +kernel
theorem dX10_dropRow_28 : decode cX10_dropRow 28 = .ok (.iconst 1, 1) := by decide +kernel
theorem dX10_dropRow_29 : decode cX10_dropRow 29 = .ok (.isub, 1) := by decide +kernel
theorem dX10_dropRow_30 : decode cX10_dropRow 30 = .ok (.iastore, 1) := by decide +kernel
theorem dX10_dropRow_31 : decode cX10_dropRow 31 = .ok (.bipush 29, 2) := by decide +kernel
theorem dX10_dropRow_33 : decode cX10_dropRow 33 = .ok (.iconst 5, 1) := by decide +kernel
theorem dX10_dropRow_34 : decode cX10_dropRow 34 = .ok (.iload_n 1, 1) := by decide +kernel
theorem dX10_dropRow_35 : decode cX10_dropRow 35 = .ok (.imul, 1) := by decide +kernel
theorem dX10_dropRow_36 : decode cX10_dropRow 36 = .ok (.iadd, 1) := by decide +kernel
theorem dX10_dropRow_37 : decode cX10_dropRow 37 = .ok (.istore_n 3, 1) := by decide +kernel
theorem dX10_dropRow_38 : decode cX10_dropRow 38 = .ok (.iload_n 3, 1) := by decide +kernel
theorem dX10_dropRow_39 : decode cX10_dropRow 39 = .ok (.bipush 29, 2) := by decide +kernel
theorem dX10_dropRow_41 : decode cX10_dropRow 41 = .ok (.iconst 5, 1) := by decide +kernel
theorem dX10_dropRow_42 : decode cX10_dropRow 42 = .ok (.aload_n 0, 1) := by decide +kernel
theorem dX10_dropRow_43 : decode cX10_dropRow 43 = .ok (.getfield 7, 3) := by decide +kernel
theorem dX10_dropRow_46 : decode cX10_dropRow 46 = .ok (.iconst 0, 1) := by decide +kernel
theorem dX10_dropRow_47 : decode cX10_dropRow 47 = .ok (.iaload, 1) := by decide +kernel
theorem dX10_dropRow_48 : decode cX10_dropRow 48 = .ok (.imul, 1) := by decide +kernel
theorem dX10_dropRow_49 : decode cX10_dropRow 49 = .ok (.iadd, 1) := by decide +kernel
theorem dX10_dropRow_50 : decode cX10_dropRow 50 = .ok (.if_icmp .ge 23, 3) := by decide +kernel
theorem dX10_dropRow_53 : decode cX10_dropRow 53 = .ok (.aload_n 0, 1) := by decide +kernel
theorem dX10_dropRow_54 : decode cX10_dropRow 54 = .ok (.getfield 7, 3) := by decide +kernel
theorem dX10_dropRow_57 : decode cX10_dropRow 57 = .ok (.iload_n 3, 1) := by decide +kernel
theorem dX10_dropRow_58 : decode cX10_dropRow 58 = .ok (.aload_n 0, 1) := by decide +kernel
theorem dX10_dropRow_59 : decode cX10_dropRow 59 = .ok (.getfield 7, 3) := by decide +kernel
theorem dX10_dropRow_62 : decode cX10_dropRow 62 = .ok (.iload_n 3, 1) := by decide +kernel
theorem dX10_dropRow_63 : decode cX10_dropRow 63 = .ok (.iconst 5, 1) := by decide +kernel
theorem dX10_dropRow_64 : decode cX10_dropRow 64 = .ok (.iadd, 1) := by decide +kernel
theorem dX10_dropRow_65 : decode cX10_dropRow 65 = .ok (.iaload, 1) := by decide +kernel
theorem dX10_dropRow_66 : decode cX10_dropRow 66 = .ok (.iastore, 1) := by decide +kernel
theorem dX10_dropRow_67 : decode cX10_dropRow 67 = .ok (.iinc 3 1, 3) := by decide +kernel
theorem dX10_dropRow_70 : decode cX10_dropRow 70 = .ok (.goto (-32), 3) := by decide +kernel
theorem dX10_dropRow_73 : decode cX10_dropRow 73 = .ok (.iload_n 2, 1) := by decide +kernel
theorem dX10_dropRow_74 : decode cX10_dropRow 74 = .ok (.ireturn, 1) := by decide +kernel
theorem dX10_hasIndex_0 : decode cX10_hasIndex 0 = .ok (.aload_n 0, 1) := by decide +kernel
theorem dX10_hasIndex_1 : decode cX10_hasIndex 1 = .ok (.getfield 7, 3) := by decide +kernel
theorem dX10_hasIndex_4 : decode cX10_hasIndex 4 = .ok (.iconst 1, 1) := by decide +kernel
theorem dX10_hasIndex_5 : decode cX10_hasIndex 5 = .ok (.iaload, 1) := by decide +kernel
theorem dX10_hasIndex_6 : decode cX10_hasIndex 6 = .ok (.iload_n 1, 1) := by decide +kernel
theorem dX10_hasIndex_7 : decode cX10_hasIndex 7 = .ok (.ishr, 1) := by decide +kernel
theorem dX10_hasIndex_8 : decode cX10_hasIndex 8 = .ok (.iconst 1, 1) := by decide +kernel
theorem dX10_hasIndex_9 : decode cX10_hasIndex 9 = .ok (.iand, 1) := by decide +kernel
theorem dX10_hasIndex_10 : decode cX10_hasIndex 10 = .ok (.iconst 1, 1) := by decide +kernel
theorem dX10_hasIndex_11 : decode cX10_hasIndex 11 = .ok (.if_icmp .ne 7, 3) := by decide +kernel
theorem dX10_hasIndex_14 : decode cX10_hasIndex 14 = .ok (.iconst 1, 1) := by decide +kernel
theorem dX10_hasIndex_15 : decode cX10_hasIndex 15 = .ok (.goto 4, 3) := by decide +kernel
theorem dX10_hasIndex_18 : decode cX10_hasIndex 18 = .ok (.iconst 0, 1) := by decide +kernel
theorem dX10_hasIndex_19 : decode cX10_hasIndex 19 = .ok (.ireturn, 1) := by decide +kernel
theorem dX10_index_0 : decode cX10_index 0 = .ok (.iload_n 1, 1) := by decide +kernel
theorem dX10_index_1 : decode cX10_index 1 = .ok (.iconst 0, 1) := by decide +kernel
theorem dX10_index_2 : decode cX10_index 2 = .ok (.iconst 3, 1) := by decide +kernel
theorem dX10_index_3 : decode cX10_index 3 = .ok (.invokestatic 26, 3) := by decide +kernel
theorem dX10_index_6 : decode cX10_index 6 = .ok (.ifCond .eq 12, 3) := by decide +kernel
theorem dX10_index_9 : decode cX10_index 9 = .ok (.iload_n 2, 1) := by decide +kernel
theorem dX10_index_10 : decode cX10_index 10 = .ok (.iconst 0, 1) := by decide +kernel
theorem dX10_index_11 : decode cX10_index 11 = .ok (.iconst 1, 1) := by decide +kernel
theorem dX10_index_12 : decode cX10_index 12 = .ok (.invokestatic 26, 3) := by decide +kernel
theorem dX10_index_15 : decode cX10_index 15 = .ok (.ifCond .ne 5, 3) := by decide +kernel
theorem dX10_index_18 : decode cX10_index 18 = .ok (.iconst (-1), 1) := by decide +kernel
theorem dX10_index_19 : decode cX10_index 19 = .ok (.ireturn, 1) := by decide +kernel
theorem dX10_index_20 : decode cX10_index 20 = .ok (.aload_n 0, 1) := by decide +kernel
theorem dX10_index_21 : decode cX10_index 21 = .ok (.iload_n 1, 1) := by decide +kernel
theorem dX10_index_22 : decode cX10_index 22 = .ok (.invokevirtual 44, 3) := by decide +kernel
theorem dX10_index_25 : decode cX10_index 25 = .ok (.iload_n 2, 1) := by decide +kernel
theorem dX10_index_26 : decode cX10_index 26 = .ok (.iconst 1, 1) := by decide +kernel
theorem dX10_index_27 : decode cX10_index 27 = .ok (.if_icmp .ne 7, 3) := by decide +kernel
theorem dX10_index_30 : decode cX10_index 30 = .ok (.iconst 1, 1) := by decide +kernel
theorem dX10_index_31 : decode cX10_index 31 = .ok (.goto 4, 3) := by decide +kernel
theorem dX10_index_34 : decode cX10_index 34 = .ok (.iconst 0, 1) := by decide +kernel
theorem dX10_index_35 : decode cX10_index 35 = .ok (.if_icmp .ne 6, 3) := by decide +kernel
theorem dX10_index_38 : decode cX10_index 38 = .ok (.bipush (-2), 2) := by decide +kernel
theorem dX10_index_40 : decode cX10_index 40 = .ok (.ireturn, 1) := by decide +kernel
theorem dX10_index_41 : decode cX10_index 41 = .ok (.aload_n 0, 1) := by decide +kernel
theorem dX10_index_42 : decode cX10_index 42 = .ok (.invokevirtual 34, 3) := by decide +kernel
theorem dX10_index_45 : decode cX10_index 45 = .ok (.aload_n 0, 1) := by decide +kernel
theorem dX10_index_46 : decode cX10_index 46 = .ok (.getfield 7, 3) := by decide +kernel
theorem dX10_index_49 : decode cX10_index 49 = .ok (.iconst 1, 1) := by decide +kernel
theorem dX10_index_50 : decode cX10_index 50 = .ok (.dup2, 1) := by decide +kernel
theorem dX10_index_51 : decode cX10_index 51 = .ok (.iaload, 1) := by decide +kernel
theorem dX10_index_52 : decode cX10_index 52 = .ok (.iconst 1, 1) := by decide +kernel
theorem dX10_index_53 : decode cX10_index 53 = .ok (.iload_n 1, 1) := by decide +kernel
theorem dX10_index_54 : decode cX10_index 54 = .ok (.ishl, 1) := by decide +kernel
theorem dX10_index_55 : decode cX10_index 55 = .ok (.ixor, 1) := by decide +kernel
theorem dX10_index_56 : decode cX10_index 56 = .ok (.iastore, 1) := by decide +kernel
theorem dX10_index_57 : decode cX10_index 57 = .ok (.iconst 0, 1) := by decide +kernel
theorem dX10_index_58 : decode cX10_index 58 = .ok (.istore_n 3, 1) := by decide +kernel
theorem dX10_index_59 : decode cX10_index 59 = .ok (.aload_n 0, 1) := by decide +kernel
theorem dX10_index_60 : decode cX10_index 60 = .ok (.getfield 7, 3) := by decide +kernel
theorem dX10_index_63 : decode cX10_index 63 = .ok (.iconst 4, 1) := by decide +kernel
theorem dX10_index_64 : decode cX10_index 64 = .ok (.iaload, 1) := by decide +kernel
theorem dX10_index_65 : decode cX10_index 65 = .ok (.iconst 1, 1) := by decide +kernel
theorem dX10_index_66 : decode cX10_index 66 = .ok (.isub, 1) := by decide +kernel
theorem dX10_index_67 : decode cX10_index 67 = .ok (.istore 4, 2) := by decide +kernel
theorem dX10_index_69 : decode cX10_index 69 = .ok (.iload 4, 2) := by decide +kernel
theorem dX10_index_71 : decode cX10_index 71 = .ok (.ifCond .lt 68, 3) := by decide +kernel
theorem dX10_index_74 : decode cX10_index 74 = .ok (.aload_n 0, 1) := by decide +kernel
theorem dX10_index_75 : decode cX10_index 75 = .ok (.iload 4, 2) := by decide +kernel
theorem dX10_index_77 : decode cX10_index 77 = .ok (.iconst 3, 1) := by decide +kernel
theorem dX10_index_78 : decode cX10_index 78 = .ok (.invokevirtual 47, 3) := by decide +kernel
theorem dX10_index_81 : decode cX10_index 81 = .ok (.bipush 9, 2) := by decide +kernel
theorem dX10_index_83 : decode cX10_index 83 = .ok (.if_icmp .eq 29, 3) := by decide +kernel
theorem dX10_index_86 : decode cX10_index 86 = .ok (.aload_n 0, 1) := by decide +kernel
theorem dX10_index_87 : decode cX10_index 87 = .ok (.aload_n 0, 1) := by decide +kernel
theorem dX10_index_88 : decode cX10_index 88 = .ok (.iload 4, 2) := by decide +kernel
theorem dX10_index_90 : decode cX10_index 90 = .ok (.iconst 1, 1) := by decide +kernel
theorem dX10_index_91 : decode cX10_index 91 = .ok (.invokevirtual 47, 3) := by decide +kernel
theorem dX10_index_94 : decode cX10_index 94 = .ok (.aload_n 0, 1) := by decide +kernel
theorem dX10_index_95 : decode cX10_index 95 = .ok (.iload 4, 2) := by decide +kernel
theorem dX10_index_97 : decode cX10_index 97 = .ok (.iconst 3, 1) := by decide +kernel
theorem dX10_index_98 : decode cX10_index 98 = .ok (.invokevirtual 47, 3) := by decide +kernel
theorem dX10_index_101 : decode cX10_index 101 = .ok (.invokevirtual 50, 3) := by decide +kernel
theorem dX10_index_104 : decode cX10_index 104 = .ok (.iload_n 1, 1) := by decide +kernel
theorem dX10_index_105 : decode cX10_index 105 = .ok (.if_icmp .ne 7, 3) := by decide +kernel
theorem dX10_index_108 : decode cX10_index 108 = .ok (.iconst 1, 1) := by decide +kernel
theorem dX10_index_109 : decode cX10_index 109 = .ok (.goto 4, 3) := by decide +kernel
theorem dX10_index_112 : decode cX10_index 112 = .ok (.iconst 0, 1) := by decide +kernel
theorem dX10_index_113 : decode cX10_index 113 = .ok (.istore 5, 2) := by decide +kernel
theorem dX10_index_115 : decode cX10_index 115 = .ok (.iload 5, 2) := by decide +kernel
theorem dX10_index_117 : decode cX10_index 117 = .ok (.ifCond .eq 16, 3) := by decide +kernel
theorem dX10_index_120 : decode cX10_index 120 = .ok (.iload_n 2, 1) := by decide +kernel
theorem dX10_index_121 : decode cX10_index 121 = .ok (.ifCond .ne 12, 3) := by decide +kernel
theorem dX10_index_124 : decode cX10_index 124 = .ok (.aload_n 0, 1) := by decide +kernel
theorem dX10_index_125 : decode cX10_index 125 = .ok (.iload 4, 2) := by decide +kernel
theorem dX10_index_127 : decode cX10_index 127 = .ok (.invokevirtual 53, 3) := by decide +kernel
theorem dX10_index_130 : decode cX10_index 130 = .ok (.iinc 3 1, 3) := by decide +kernel
theorem dX10_index_133 : decode cX10_index 133 = .ok (.iinc 4 (-1), 3) := by decide +kernel
theorem dX10_index_136 : decode cX10_index 136 = .ok (.goto (-67), 3) := by decide +kernel
theorem dX10_index_139 : decode cX10_index 139 = .ok (.aload_n 0, 1) := by decide +kernel
theorem dX10_index_140 : decode cX10_index 140 = .ok (.getfield 7, 3) := by decide +kernel
theorem dX10_index_143 : decode cX10_index 143 = .ok (.bipush 10, 2) := by decide +kernel
theorem dX10_index_145 : decode cX10_index 145 = .ok (.dup2, 1) := by decide +kernel
theorem dX10_index_146 : decode cX10_index 146 = .ok (.iaload, 1) := by decide +kernel
theorem dX10_index_147 : decode cX10_index 147 = .ok (.iload_n 3, 1) := by decide +kernel
theorem dX10_index_148 : decode cX10_index 148 = .ok (.iadd, 1) := by decide +kernel
theorem dX10_index_149 : decode cX10_index 149 = .ok (.iastore, 1) := by decide +kernel
theorem dX10_index_150 : decode cX10_index 150 = .ok (.iload_n 3, 1) := by decide +kernel
theorem dX10_index_151 : decode cX10_index 151 = .ok (.ireturn, 1) := by decide +kernel
theorem dX10_size_0 : decode cX10_size 0 = .ok (.iconst 0, 1) := by decide +kernel
theorem dX10_size_1 : decode cX10_size 1 = .ok (.istore_n 1, 1) := by decide +kernel
theorem dX10_size_2 : decode cX10_size 2 = .ok (.iconst 0, 1) := by decide +kernel
theorem dX10_size_3 : decode cX10_size 3 = .ok (.istore_n 2, 1) := by decide +kernel
theorem dX10_size_4 : decode cX10_size 4 = .ok (.iload_n 2, 1) := by decide +kernel
theorem dX10_size_5 : decode cX10_size 5 = .ok (.aload_n 0, 1) := by decide +kernel
theorem dX10_size_6 : decode cX10_size 6 = .ok (.getfield 7, 3) := by decide +kernel
theorem dX10_size_9 : decode cX10_size 9 = .ok (.iconst 0, 1) := by decide +kernel
theorem dX10_size_10 : decode cX10_size 10 = .ok (.iaload, 1) := by decide +kernel
theorem dX10_size_11 : decode cX10_size 11 = .ok (.if_icmp .ge 18, 3) := by decide +kernel
theorem dX10_size_14 : decode cX10_size 14 = .ok (.iload_n 1, 1) := by decide +kernel
theorem dX10_size_15 : decode cX10_size 15 = .ok (.aload_n 0, 1) := by decide +kernel
theorem dX10_size_16 : decode cX10_size 16 = .ok (.iload_n 2, 1) := by decide +kernel
theorem dX10_size_17 : decode cX10_size 17 = .ok (.iconst 4, 1) := by decide +kernel
theorem dX10_size_18 : decode cX10_size 18 = .ok (.invokevirtual 40, 3) := by decide +kernel
theorem dX10_size_21 : decode cX10_size 21 = .ok (.iadd, 1) := by decide +kernel
theorem dX10_size_22 : decode cX10_size 22 = .ok (.istore_n 1, 1) := by decide +kernel
theorem dX10_size_23 : decode cX10_size 23 = .ok (.iinc 2 1, 3) := by decide +kernel
theorem dX10_size_26 : decode cX10_size 26 = .ok (.goto (-22), 3) := by decide +kernel
theorem dX10_size_29 : decode cX10_size 29 = .ok (.iload_n 1, 1) := by decide +kernel
theorem dX10_size_30 : decode cX10_size 30 = .ok (.ireturn, 1) := by decide +kernel
theorem dX10_analyse_0 : decode cX10_analyse 0 = .ok (.aload_n 0, 1) := by decide +kernel
theorem dX10_analyse_1 : decode cX10_analyse 1 = .ok (.invokevirtual 34, 3) := by decide +kernel
theorem dX10_analyse_4 : decode cX10_analyse 4 = .ok (.iconst 0, 1) := by decide +kernel
theorem dX10_analyse_5 : decode cX10_analyse 5 = .ok (.istore_n 1, 1) := by decide +kernel
theorem dX10_analyse_6 : decode cX10_analyse 6 = .ok (.iload_n 1, 1) := by decide +kernel
theorem dX10_analyse_7 : decode cX10_analyse 7 = .ok (.sipush 128, 3) := by decide +kernel
theorem dX10_analyse_10 : decode cX10_analyse 10 = .ok (.if_icmp .ge 20, 3) := by decide +kernel
theorem dX10_analyse_13 : decode cX10_analyse 13 = .ok (.aload_n 0, 1) := by decide +kernel
theorem dX10_analyse_14 : decode cX10_analyse 14 = .ok (.getfield 7, 3) := by decide +kernel
theorem dX10_analyse_17 : decode cX10_analyse 17 = .ok (.sipush 179, 3) := by decide +kernel
theorem dX10_analyse_20 : decode cX10_analyse 20 = .ok (.iload_n 1, 1) := by decide +kernel
theorem dX10_analyse_21 : decode cX10_analyse 21 = .ok (.iadd, 1) := by decide +kernel
theorem dX10_analyse_22 : decode cX10_analyse 22 = .ok (.iconst 0, 1) := by decide +kernel
theorem dX10_analyse_23 : decode cX10_analyse 23 = .ok (.iastore, 1) := by decide +kernel
theorem dX10_analyse_24 : decode cX10_analyse 24 = .ok (.iinc 1 1, 3) := by decide +kernel
theorem dX10_analyse_27 : decode cX10_analyse 27 = .ok (.goto (-21), 3) := by decide +kernel
theorem dX10_analyse_30 : decode cX10_analyse 30 = .ok (.iconst 0, 1) := by decide +kernel
theorem dX10_analyse_31 : decode cX10_analyse 31 = .ok (.istore_n 1, 1) := by decide +kernel
theorem dX10_analyse_32 : decode cX10_analyse 32 = .ok (.iload_n 1, 1) := by decide +kernel
theorem dX10_analyse_33 : decode cX10_analyse 33 = .ok (.aload_n 0, 1) := by decide +kernel
theorem dX10_analyse_34 : decode cX10_analyse 34 = .ok (.getfield 7, 3) := by decide +kernel
theorem dX10_analyse_37 : decode cX10_analyse 37 = .ok (.iconst 0, 1) := by decide +kernel
theorem dX10_analyse_38 : decode cX10_analyse 38 = .ok (.iaload, 1) := by decide +kernel
theorem dX10_analyse_39 : decode cX10_analyse 39 = .ok (.if_icmp .ge 51, 3) := by decide +kernel
theorem dX10_analyse_42 : decode cX10_analyse 42 = .ok (.iconst 0, 1) := by decide +kernel
theorem dX10_analyse_43 : decode cX10_analyse 43 = .ok (.istore_n 2, 1) := by decide +kernel
theorem dX10_analyse_44 : decode cX10_analyse 44 = .ok (.iload_n 2, 1) := by decide +kernel
theorem dX10_analyse_45 : decode cX10_analyse 45 = .ok (.iconst 4, 1) := by decide +kernel
theorem dX10_analyse_46 : decode cX10_analyse 46 = .ok (.if_icmp .ge 38, 3) := by decide +kernel
theorem dX10_analyse_49 : decode cX10_analyse 49 = .ok (.aload_n 0, 1) := by decide +kernel
theorem dX10_analyse_50 : decode cX10_analyse 50 = .ok (.getfield 7, 3) := by decide +kernel
theorem dX10_analyse_53 : decode cX10_analyse 53 = .ok (.sipush 179, 3) := by decide +kernel
theorem dX10_analyse_56 : decode cX10_analyse 56 = .ok (.bipush 32, 2) := by decide +kernel
theorem dX10_analyse_58 : decode cX10_analyse 58 = .ok (.iload_n 2, 1) := by decide +kernel
theorem dX10_analyse_59 : decode cX10_analyse 59 = .ok (.imul, 1) := by decide +kernel
theorem dX10_analyse_60 : decode cX10_analyse 60 = .ok (.iadd, 1) := by decide +kernel
theorem dX10_analyse_61 : decode cX10_analyse 61 = .ok (.aload_n 0, 1) := by decide +kernel
theorem dX10_analyse_62 : decode cX10_analyse 62 = .ok (.iload_n 1, 1) := by decide +kernel
theorem dX10_analyse_63 : decode cX10_analyse 63 = .ok (.iload_n 2, 1) := by decide +kernel
theorem dX10_analyse_64 : decode cX10_analyse 64 = .ok (.invokevirtual 40, 3) := by decide +kernel
theorem dX10_analyse_67 : decode cX10_analyse 67 = .ok (.iadd, 1) := by decide +kernel
theorem dX10_analyse_68 : decode cX10_analyse 68 = .ok (.dup2, 1) := by decide +kernel
theorem dX10_analyse_69 : decode cX10_analyse 69 = .ok (.iaload, 1) := by decide +kernel
theorem dX10_analyse_70 : decode cX10_analyse 70 = .ok (.aload_n 0, 1) := by decide +kernel
theorem dX10_analyse_71 : decode cX10_analyse 71 = .ok (.iload_n 1, 1) := by decide +kernel
theorem dX10_analyse_72 : decode cX10_analyse 72 = .ok (.iconst 4, 1) := by decide +kernel
theorem dX10_analyse_73 : decode cX10_analyse 73 = .ok (.invokevirtual 40, 3) := by decide +kernel
theorem dX10_analyse_76 : decode cX10_analyse 76 = .ok (.iadd, 1) := by decide +kernel
theorem dX10_analyse_77 : decode cX10_analyse 77 = .ok (.iastore, 1) := by decide +kernel
theorem dX10_analyse_78 : decode cX10_analyse 78 = .ok (.iinc 2 1, 3) := by decide +kernel
theorem dX10_analyse_81 : decode cX10_analyse 81 = .ok (.goto (-37), 3) := by decide +kernel
theorem dX10_analyse_84 : decode cX10_analyse 84 = .ok (.iinc 1 1, 3) := by decide +kernel
theorem dX10_analyse_87 : decode cX10_analyse 87 = .ok (.goto (-55), 3) := by decide +kernel
theorem dX10_analyse_90 : decode cX10_analyse 90 = .ok (.aload_n 0, 1) := by decide +kernel
theorem dX10_analyse_91 : decode cX10_analyse 91 = .ok (.getfield 7, 3) := by decide +kernel
theorem dX10_analyse_94 : decode cX10_analyse 94 = .ok (.iconst 2, 1) := by decide +kernel
theorem dX10_analyse_95 : decode cX10_analyse 95 = .ok (.aload_n 0, 1) := by decide +kernel
theorem dX10_analyse_96 : decode cX10_analyse 96 = .ok (.invokevirtual 57, 3) := by decide +kernel
theorem dX10_analyse_99 : decode cX10_analyse 99 = .ok (.iastore, 1) := by decide +kernel
theorem dX10_analyse_100 : decode cX10_analyse 100 = .ok (.aload_n 0, 1) := by decide +kernel
theorem dX10_analyse_101 : decode cX10_analyse 101 = .ok (.getfield 7, 3) := by decide +kernel
theorem dX10_analyse_104 : decode cX10_analyse 104 = .ok (.iconst 2, 1) := by decide +kernel
theorem dX10_analyse_105 : decode cX10_analyse 105 = .ok (.iaload, 1) := by decide +kernel
theorem dX10_analyse_106 : decode cX10_analyse 106 = .ok (.ireturn, 1) := by decide +kernel
theorem dX10_rowOf_0 : decode cX10_rowOf 0 = .ok (.aload_n 0, 1) := by decide +kernel
theorem dX10_rowOf_1 : decode cX10_rowOf 1 = .ok (.iload_n 1, 1) := by decide +kernel
theorem dX10_rowOf_2 : decode cX10_rowOf 2 = .ok (.invokevirtual 37, 3) := by decide +kernel
theorem dX10_rowOf_5 : decode cX10_rowOf 5 = .ok (.ifCond .eq 21, 3) := by decide +kernel
theorem dX10_rowOf_8 : decode cX10_rowOf 8 = .ok (.iload_n 2, 1) := by decide +kernel
theorem dX10_rowOf_9 : decode cX10_rowOf 9 = .ok (.iconst 0, 1) := by decide +kernel
theorem dX10_rowOf_10 : decode cX10_rowOf 10 = .ok (.iconst 4, 1) := by decide +kernel
theorem dX10_rowOf_11 : decode cX10_rowOf 11 = .ok (.invokestatic 26, 3) := by decide +kernel
theorem dX10_rowOf_14 : decode cX10_rowOf 14 = .ok (.ifCond .eq 12, 3) := by decide +kernel
theorem dX10_rowOf_17 : decode cX10_rowOf 17 = .ok (.aload_n 0, 1) := by decide +kernel
theorem dX10_rowOf_18 : decode cX10_rowOf 18 = .ok (.iload_n 1, 1) := by decide +kernel
theorem dX10_rowOf_19 : decode cX10_rowOf 19 = .ok (.iload_n 2, 1) := by decide +kernel
theorem dX10_rowOf_20 : decode cX10_rowOf 20 = .ok (.invokevirtual 40, 3) := by decide +kernel
theorem dX10_rowOf_23 : decode cX10_rowOf 23 = .ok (.goto 4, 3) := by decide +kernel
theorem dX10_rowOf_26 : decode cX10_rowOf 26 = .ok (.iconst (-1), 1) := by decide +kernel
theorem dX10_rowOf_27 : decode cX10_rowOf 27 = .ok (.ireturn, 1) := by decide +kernel
theorem dX10_known_0 : decode cX10_known 0 = .ok (.iload_n 1, 1) := by decide +kernel
theorem dX10_known_1 : decode cX10_known 1 = .ok (.iconst 0, 1) := by decide +kernel
theorem dX10_known_2 : decode cX10_known 2 = .ok (.iconst 3, 1) := by decide +kernel
theorem dX10_known_3 : decode cX10_known 3 = .ok (.invokestatic 26, 3) := by decide +kernel
theorem dX10_known_6 : decode cX10_known 6 = .ok (.ifCond .eq 28, 3) := by decide +kernel
theorem dX10_known_9 : decode cX10_known 9 = .ok (.iload_n 2, 1) := by decide +kernel
theorem dX10_known_10 : decode cX10_known 10 = .ok (.invokestatic 30, 3) := by decide +kernel
theorem dX10_known_13 : decode cX10_known 13 = .ok (.ifCond .eq 21, 3) := by decide +kernel
theorem dX10_known_16 : decode cX10_known 16 = .ok (.aload_n 0, 1) := by decide +kernel
theorem dX10_known_17 : decode cX10_known 17 = .ok (.getfield 7, 3) := by decide +kernel
theorem dX10_known_20 : decode cX10_known 20 = .ok (.sipush 179, 3) := by decide +kernel
theorem dX10_known_23 : decode cX10_known 23 = .ok (.bipush 32, 2) := by decide +kernel
theorem dX10_known_25 : decode cX10_known 25 = .ok (.iload_n 1, 1) := by decide +kernel
theorem dX10_known_26 : decode cX10_known 26 = .ok (.imul, 1) := by decide +kernel
theorem dX10_known_27 : decode cX10_known 27 = .ok (.iadd, 1) := by decide +kernel
theorem dX10_known_28 : decode cX10_known 28 = .ok (.iload_n 2, 1) := by decide +kernel
theorem dX10_known_29 : decode cX10_known 29 = .ok (.iadd, 1) := by decide +kernel
theorem dX10_known_30 : decode cX10_known 30 = .ok (.iaload, 1) := by decide +kernel
theorem dX10_known_31 : decode cX10_known 31 = .ok (.goto 4, 3) := by decide +kernel
theorem dX10_known_34 : decode cX10_known 34 = .ok (.iconst (-1), 1) := by decide +kernel
theorem dX10_known_35 : decode cX10_known 35 = .ok (.ireturn, 1) := by decide +kernel
theorem dX10_isStatement_0 : decode cX10_isStatement 0 = .ok (.iload_n 1, 1) := by decide +kernel
theorem dX10_isStatement_1 : decode cX10_isStatement 1 = .ok (.ifCond .lt 17, 3) := by decide +kernel
theorem dX10_isStatement_4 : decode cX10_isStatement 4 = .ok (.iload_n 1, 1) := by decide +kernel
theorem dX10_isStatement_5 : decode cX10_isStatement 5 = .ok (.aload_n 0, 1) := by decide +kernel
theorem dX10_isStatement_6 : decode cX10_isStatement 6 = .ok (.getfield 7, 3) := by decide +kernel
theorem dX10_isStatement_9 : decode cX10_isStatement 9 = .ok (.iconst 3, 1) := by decide +kernel
theorem dX10_isStatement_10 : decode cX10_isStatement 10 = .ok (.iaload, 1) := by decide +kernel
theorem dX10_isStatement_11 : decode cX10_isStatement 11 = .ok (.if_icmp .ge 7, 3) := by decide +kernel
theorem dX10_isStatement_14 : decode cX10_isStatement 14 = .ok (.iconst 1, 1) := by decide +kernel
theorem dX10_isStatement_15 : decode cX10_isStatement 15 = .ok (.goto 4, 3) := by decide +kernel
theorem dX10_isStatement_18 : decode cX10_isStatement 18 = .ok (.iconst 0, 1) := by decide +kernel
theorem dX10_isStatement_19 : decode cX10_isStatement 19 = .ok (.ireturn, 1) := by decide +kernel
theorem dX10_conditions_0 : decode cX10_conditions 0 = .ok (.aload_n 0, 1) := by decide +kernel
theorem dX10_conditions_1 : decode cX10_conditions 1 = .ok (.getfield 7, 3) := by decide +kernel
theorem dX10_conditions_4 : decode cX10_conditions 4 = .ok (.sipush 307, 3) := by decide +kernel
theorem dX10_conditions_7 : decode cX10_conditions 7 = .ok (.bipush 10, 2) := by decide +kernel
theorem dX10_conditions_9 : decode cX10_conditions 9 = .ok (.iload_n 1, 1) := by decide +kernel
theorem dX10_conditions_10 : decode cX10_conditions 10 = .ok (.imul, 1) := by decide +kernel
theorem dX10_conditions_11 : decode cX10_conditions 11 = .ok (.iadd, 1) := by decide +kernel
theorem dX10_conditions_12 : decode cX10_conditions 12 = .ok (.iaload, 1) := by decide +kernel
theorem dX10_conditions_13 : decode cX10_conditions 13 = .ok (.ireturn, 1) := by decide +kernel
theorem dX10_columnOf_0 : decode cX10_columnOf 0 = .ok (.aload_n 0, 1) := by decide +kernel
theorem dX10_columnOf_1 : decode cX10_columnOf 1 = .ok (.getfield 7, 3) := by decide +kernel
theorem dX10_columnOf_4 : decode cX10_columnOf 4 = .ok (.sipush 307, 3) := by decide +kernel
theorem dX10_columnOf_7 : decode cX10_columnOf 7 = .ok (.bipush 10, 2) := by decide +kernel
theorem dX10_columnOf_9 : decode cX10_columnOf 9 = .ok (.iload_n 1, 1) := by decide +kernel
theorem dX10_columnOf_10 : decode cX10_columnOf 10 = .ok (.imul, 1) := by decide +kernel
theorem dX10_columnOf_11 : decode cX10_columnOf 11 = .ok (.iadd, 1) := by decide +kernel
theorem dX10_columnOf_12 : decode cX10_columnOf 12 = .ok (.iconst 1, 1) := by decide +kernel
theorem dX10_columnOf_13 : decode cX10_columnOf 13 = .ok (.iadd, 1) := by decide +kernel
theorem dX10_columnOf_14 : decode cX10_columnOf 14 = .ok (.iload_n 2, 1) := by decide +kernel
theorem dX10_columnOf_15 : decode cX10_columnOf 15 = .ok (.iadd, 1) := by decide +kernel
theorem dX10_columnOf_16 : decode cX10_columnOf 16 = .ok (.iaload, 1) := by decide +kernel
theorem dX10_columnOf_17 : decode cX10_columnOf 17 = .ok (.ireturn, 1) := by decide +kernel
theorem dX10_operatorOf_0 : decode cX10_operatorOf 0 = .ok (.aload_n 0, 1) := by decide +kernel
theorem dX10_operatorOf_1 : decode cX10_operatorOf 1 = .ok (.getfield 7, 3) := by decide +kernel
theorem dX10_operatorOf_4 : decode cX10_operatorOf 4 = .ok (.sipush 307, 3) := by decide +kernel
theorem dX10_operatorOf_7 : decode cX10_operatorOf 7 = .ok (.bipush 10, 2) := by decide +kernel
theorem dX10_operatorOf_9 : decode cX10_operatorOf 9 = .ok (.iload_n 1, 1) := by decide +kernel
theorem dX10_operatorOf_10 : decode cX10_operatorOf 10 = .ok (.imul, 1) := by decide +kernel
theorem dX10_operatorOf_11 : decode cX10_operatorOf 11 = .ok (.iadd, 1) := by decide +kernel
theorem dX10_operatorOf_12 : decode cX10_operatorOf 12 = .ok (.iconst 5, 1) := by decide +kernel
theorem dX10_operatorOf_13 : decode cX10_operatorOf 13 = .ok (.iadd, 1) := by decide +kernel
theorem dX10_operatorOf_14 : decode cX10_operatorOf 14 = .ok (.iload_n 2, 1) := by decide +kernel
theorem dX10_operatorOf_15 : decode cX10_operatorOf 15 = .ok (.iadd, 1) := by decide +kernel
theorem dX10_operatorOf_16 : decode cX10_operatorOf 16 = .ok (.iaload, 1) := by decide +kernel
theorem dX10_operatorOf_17 : decode cX10_operatorOf 17 = .ok (.ireturn, 1) := by decide +kernel
theorem dX10_isRight_0 : decode cX10_isRight 0 = .ok (.aload_n 0, 1) := by decide +kernel
theorem dX10_isRight_1 : decode cX10_isRight 1 = .ok (.iconst 0, 1) := by decide +kernel
theorem dX10_isRight_2 : decode cX10_isRight 2 = .ok (.putfield 61, 3) := by decide +kernel
theorem dX10_isRight_5 : decode cX10_isRight 5 = .ok (.aload_n 0, 1) := by decide +kernel
theorem dX10_isRight_6 : decode cX10_isRight 6 = .ok (.getfield 61, 3) := by decide +kernel
theorem dX10_isRight_9 : decode cX10_isRight 9 = .ok (.aload_n 0, 1) := by decide +kernel
theorem dX10_isRight_10 : decode cX10_isRight 10 = .ok (.getfield 64, 3) := by decide +kernel
theorem dX10_isRight_13 : decode cX10_isRight 13 = .ok (.if_icmp .ge 122, 3) := by decide +kernel
theorem dX10_isRight_16 : decode cX10_isRight 16 = .ok (.aload_n 0, 1) := by decide +kernel
theorem dX10_isRight_17 : decode cX10_isRight 17 = .ok (.getfield 16, 3) := by decide +kernel
theorem dX10_isRight_20 : decode cX10_isRight 20 = .ok (.aload_n 0, 1) := by decide +kernel
theorem dX10_isRight_21 : decode cX10_isRight 21 = .ok (.getfield 61, 3) := by decide +kernel
theorem dX10_isRight_24 : decode cX10_isRight 24 = .ok (.iaload, 1) := by decide +kernel
theorem dX10_isRight_25 : decode cX10_isRight 25 = .ok (.istore_n 1, 1) := by decide +kernel
theorem dX10_isRight_26 : decode cX10_isRight 26 = .ok (.aload_n 0, 1) := by decide +kernel
theorem dX10_isRight_27 : decode cX10_isRight 27 = .ok (.getfield 61, 3) := by decide +kernel
theorem dX10_isRight_30 : decode cX10_isRight 30 = .ok (.iconst 4, 1) := by decide +kernel
theorem dX10_isRight_31 : decode cX10_isRight 31 = .ok (.irem, 1) := by decide +kernel
theorem dX10_isRight_32 : decode cX10_isRight 32 = .ok (.ifCond .ne 14, 3) := by decide +kernel
theorem dX10_isRight_35 : decode cX10_isRight 35 = .ok (.iload_n 1, 1) := by decide +kernel
theorem dX10_isRight_36 : decode cX10_isRight 36 = .ok (.bipush 97, 2) := by decide +kernel
theorem dX10_isRight_38 : decode cX10_isRight 38 = .ok (.bipush 100, 2) := by decide +kernel
theorem dX10_isRight_40 : decode cX10_isRight 40 = .ok (.invokestatic 26, 3) := by decide +kernel
theorem dX10_isRight_43 : decode cX10_isRight 43 = .ok (.goto 50, 3) := by decide +kernel
theorem dX10_isRight_46 : decode cX10_isRight 46 = .ok (.aload_n 0, 1) := by decide +kernel
theorem dX10_isRight_47 : decode cX10_isRight 47 = .ok (.getfield 61, 3) := by decide +kernel
theorem dX10_isRight_50 : decode cX10_isRight 50 = .ok (.iconst 4, 1) := by decide +kernel
theorem dX10_isRight_51 : decode cX10_isRight 51 = .ok (.irem, 1) := by decide +kernel
theorem dX10_isRight_52 : decode cX10_isRight 52 = .ok (.iconst 1, 1) := by decide +kernel
theorem dX10_isRight_53 : decode cX10_isRight 53 = .ok (.if_icmp .ne 14, 3) := by decide +kernel
theorem dX10_isRight_56 : decode cX10_isRight 56 = .ok (.iload_n 1, 1) := by decide +kernel
theorem dX10_isRight_57 : decode cX10_isRight 57 = .ok (.bipush 60, 2) := by decide +kernel
theorem dX10_isRight_59 : decode cX10_isRight 59 = .ok (.bipush 62, 2) := by decide +kernel
theorem dX10_isRight_61 : decode cX10_isRight 61 = .ok (.invokestatic 26, 3) := by decide +kernel
theorem dX10_isRight_64 : decode cX10_isRight 64 = .ok (.goto 29, 3) := by decide +kernel
theorem dX10_isRight_67 : decode cX10_isRight 67 = .ok (.iload_n 1, 1) := by decide +kernel
theorem dX10_isRight_68 : decode cX10_isRight 68 = .ok (.aload_n 0, 1) := by decide +kernel
theorem dX10_isRight_69 : decode cX10_isRight 69 = .ok (.getfield 61, 3) := by decide +kernel
theorem dX10_isRight_72 : decode cX10_isRight 72 = .ok (.iconst 4, 1) := by decide +kernel
theorem dX10_isRight_73 : decode cX10_isRight 73 = .ok (.irem, 1) := by decide +kernel
theorem dX10_isRight_74 : decode cX10_isRight 74 = .ok (.iconst 2, 1) := by decide +kernel
theorem dX10_isRight_75 : decode cX10_isRight 75 = .ok (.if_icmp .ne 8, 3) := by decide +kernel
theorem dX10_isRight_78 : decode cX10_isRight 78 = .ok (.bipush 63, 2) := by decide +kernel
theorem dX10_isRight_80 : decode cX10_isRight 80 = .ok (.goto 5, 3) := by decide +kernel
theorem dX10_isRight_83 : decode cX10_isRight 83 = .ok (.bipush 38, 2) := by decide +kernel
theorem dX10_isRight_85 : decode cX10_isRight 85 = .ok (.if_icmp .ne 7, 3) := by decide +kernel
theorem dX10_isRight_88 : decode cX10_isRight 88 = .ok (.iconst 1, 1) := by decide +kernel
theorem dX10_isRight_89 : decode cX10_isRight 89 = .ok (.goto 4, 3) := by decide +kernel
theorem dX10_isRight_92 : decode cX10_isRight 92 = .ok (.iconst 0, 1) := by decide +kernel
theorem dX10_isRight_93 : decode cX10_isRight 93 = .ok (.istore_n 2, 1) := by decide +kernel
theorem dX10_isRight_94 : decode cX10_isRight 94 = .ok (.aload_n 0, 1) := by decide +kernel
theorem dX10_isRight_95 : decode cX10_isRight 95 = .ok (.iload_n 2, 1) := by decide +kernel
theorem dX10_isRight_96 : decode cX10_isRight 96 = .ok (.ifCond .eq 7, 3) := by decide +kernel
theorem dX10_isRight_99 : decode cX10_isRight 99 = .ok (.iconst 2, 1) := by decide +kernel
theorem dX10_isRight_100 : decode cX10_isRight 100 = .ok (.goto 4, 3) := by decide +kernel
theorem dX10_isRight_103 : decode cX10_isRight 103 = .ok (.iconst 1, 1) := by decide +kernel
theorem dX10_isRight_104 : decode cX10_isRight 104 = .ok (.putfield 67, 3) := by decide +kernel
theorem dX10_isRight_107 : decode cX10_isRight 107 = .ok (.iload_n 2, 1) := by decide +kernel
theorem dX10_isRight_108 : decode cX10_isRight 108 = .ok (.ifCond .eq 12, 3) := by decide +kernel
theorem dX10_isRight_111 : decode cX10_isRight 111 = .ok (.aload_n 0, 1) := by decide +kernel
theorem dX10_isRight_112 : decode cX10_isRight 112 = .ok (.getfield 61, 3) := by decide +kernel
theorem dX10_isRight_115 : decode cX10_isRight 115 = .ok (.bipush 15, 2) := by decide +kernel
theorem dX10_isRight_117 : decode cX10_isRight 117 = .ok (.if_icmp .ne 5, 3) := by decide +kernel
theorem dX10_isRight_120 : decode cX10_isRight 120 = .ok (.iconst 0, 1) := by decide +kernel
theorem dX10_isRight_121 : decode cX10_isRight 121 = .ok (.ireturn, 1) := by decide +kernel
theorem dX10_isRight_122 : decode cX10_isRight 122 = .ok (.aload_n 0, 1) := by decide +kernel
theorem dX10_isRight_123 : decode cX10_isRight 123 = .ok (.dup, 1) := by decide +kernel
theorem dX10_isRight_124 : decode cX10_isRight 124 = .ok (.getfield 61, 3) := by decide +kernel
theorem dX10_isRight_127 : decode cX10_isRight 127 = .ok (.iconst 1, 1) := by decide +kernel
theorem dX10_isRight_128 : decode cX10_isRight 128 = .ok (.iadd, 1) := by decide +kernel
theorem dX10_isRight_129 : decode cX10_isRight 129 = .ok (.putfield 61, 3) := by decide +kernel
theorem dX10_isRight_132 : decode cX10_isRight 132 = .ok (.goto (-127), 3) := by decide +kernel
theorem dX10_isRight_135 : decode cX10_isRight 135 = .ok (.aload_n 0, 1) := by decide +kernel
theorem dX10_isRight_136 : decode cX10_isRight 136 = .ok (.iconst 1, 1) := by decide +kernel
theorem dX10_isRight_137 : decode cX10_isRight 137 = .ok (.putfield 67, 3) := by decide +kernel
theorem dX10_isRight_140 : decode cX10_isRight 140 = .ok (.aload_n 0, 1) := by decide +kernel
theorem dX10_isRight_141 : decode cX10_isRight 141 = .ok (.getfield 64, 3) := by decide +kernel
theorem dX10_isRight_144 : decode cX10_isRight 144 = .ok (.iconst 4, 1) := by decide +kernel
theorem dX10_isRight_145 : decode cX10_isRight 145 = .ok (.irem, 1) := by decide +kernel
theorem dX10_isRight_146 : decode cX10_isRight 146 = .ok (.iconst 3, 1) := by decide +kernel
theorem dX10_isRight_147 : decode cX10_isRight 147 = .ok (.if_icmp .ne 7, 3) := by decide +kernel
theorem dX10_isRight_150 : decode cX10_isRight 150 = .ok (.iconst 1, 1) := by decide +kernel
theorem dX10_isRight_151 : decode cX10_isRight 151 = .ok (.goto 4, 3) := by decide +kernel
theorem dX10_isRight_154 : decode cX10_isRight 154 = .ok (.iconst 0, 1) := by decide +kernel
theorem dX10_isRight_155 : decode cX10_isRight 155 = .ok (.ireturn, 1) := by decide +kernel
theorem dX10_meant_0 : decode cX10_meant 0 = .ok (.iload_n 2, 1) := by decide +kernel
theorem dX10_meant_1 : decode cX10_meant 1 = .ok (.ifCond .eq 17, 3) := by decide +kernel
theorem dX10_meant_4 : decode cX10_meant 4 = .ok (.aload_n 0, 1) := by decide +kernel
theorem dX10_meant_5 : decode cX10_meant 5 = .ok (.getfield 16, 3) := by decide +kernel
theorem dX10_meant_8 : decode cX10_meant 8 = .ok (.iconst 4, 1) := by decide +kernel
theorem dX10_meant_9 : decode cX10_meant 9 = .ok (.iload_n 1, 1) := by decide +kernel
theorem dX10_meant_10 : decode cX10_meant 10 = .ok (.imul, 1) := by decide +kernel
theorem dX10_meant_11 : decode cX10_meant 11 = .ok (.iaload, 1) := by decide +kernel
theorem dX10_meant_12 : decode cX10_meant 12 = .ok (.bipush 97, 2) := by decide +kernel
theorem dX10_meant_14 : decode cX10_meant 14 = .ok (.isub, 1) := by decide +kernel
theorem dX10_meant_15 : decode cX10_meant 15 = .ok (.goto 42, 3) := by decide +kernel
theorem dX10_meant_18 : decode cX10_meant 18 = .ok (.aload_n 0, 1) := by decide +kernel
theorem dX10_meant_19 : decode cX10_meant 19 = .ok (.getfield 16, 3) := by decide +kernel
theorem dX10_meant_22 : decode cX10_meant 22 = .ok (.iconst 4, 1) := by decide +kernel
theorem dX10_meant_23 : decode cX10_meant 23 = .ok (.iload_n 1, 1) := by decide +kernel
theorem dX10_meant_24 : decode cX10_meant 24 = .ok (.imul, 1) := by decide +kernel
theorem dX10_meant_25 : decode cX10_meant 25 = .ok (.iconst 1, 1) := by decide +kernel
theorem dX10_meant_26 : decode cX10_meant 26 = .ok (.iadd, 1) := by decide +kernel
theorem dX10_meant_27 : decode cX10_meant 27 = .ok (.iaload, 1) := by decide +kernel
theorem dX10_meant_28 : decode cX10_meant 28 = .ok (.bipush 61, 2) := by decide +kernel
theorem dX10_meant_30 : decode cX10_meant 30 = .ok (.if_icmp .ne 7, 3) := by decide +kernel
theorem dX10_meant_33 : decode cX10_meant 33 = .ok (.iconst 0, 1) := by decide +kernel
theorem dX10_meant_34 : decode cX10_meant 34 = .ok (.goto 23, 3) := by decide +kernel
theorem dX10_meant_37 : decode cX10_meant 37 = .ok (.aload_n 0, 1) := by decide +kernel
theorem dX10_meant_38 : decode cX10_meant 38 = .ok (.getfield 16, 3) := by decide +kernel
theorem dX10_meant_41 : decode cX10_meant 41 = .ok (.iconst 4, 1) := by decide +kernel
theorem dX10_meant_42 : decode cX10_meant 42 = .ok (.iload_n 1, 1) := by decide +kernel
theorem dX10_meant_43 : decode cX10_meant 43 = .ok (.imul, 1) := by decide +kernel
theorem dX10_meant_44 : decode cX10_meant 44 = .ok (.iconst 1, 1) := by decide +kernel
theorem dX10_meant_45 : decode cX10_meant 45 = .ok (.iadd, 1) := by decide +kernel
theorem dX10_meant_46 : decode cX10_meant 46 = .ok (.iaload, 1) := by decide +kernel
theorem dX10_meant_47 : decode cX10_meant 47 = .ok (.bipush 60, 2) := by decide +kernel
theorem dX10_meant_49 : decode cX10_meant 49 = .ok (.if_icmp .ne 7, 3) := by decide +kernel
theorem dX10_meant_52 : decode cX10_meant 52 = .ok (.iconst 1, 1) := by decide +kernel
theorem dX10_meant_53 : decode cX10_meant 53 = .ok (.goto 4, 3) := by decide +kernel
theorem dX10_meant_56 : decode cX10_meant 56 = .ok (.iconst 2, 1) := by decide +kernel
theorem dX10_meant_57 : decode cX10_meant 57 = .ok (.ireturn, 1) := by decide +kernel
theorem dX10_isText_0 : decode cX10_isText 0 = .ok (.aload_n 0, 1) := by decide +kernel
theorem dX10_isText_1 : decode cX10_isText 1 = .ok (.iload_n 1, 1) := by decide +kernel
theorem dX10_isText_2 : decode cX10_isText 2 = .ok (.invokevirtual 70, 3) := by decide +kernel
theorem dX10_isText_5 : decode cX10_isText 5 = .ok (.aload_n 0, 1) := by decide +kernel
theorem dX10_isText_6 : decode cX10_isText 6 = .ok (.getfield 64, 3) := by decide +kernel
theorem dX10_isText_9 : decode cX10_isText 9 = .ok (.iconst 1, 1) := by decide +kernel
theorem dX10_isText_10 : decode cX10_isText 10 = .ok (.iadd, 1) := by decide +kernel
theorem dX10_isText_11 : decode cX10_isText 11 = .ok (.iconst 4, 1) := by decide +kernel
theorem dX10_isText_12 : decode cX10_isText 12 = .ok (.idiv, 1) := by decide +kernel
theorem dX10_isText_13 : decode cX10_isText 13 = .ok (.if_icmp .ne 7, 3) := by decide +kernel
theorem dX10_isText_16 : decode cX10_isText 16 = .ok (.iconst 1, 1) := by decide +kernel
theorem dX10_isText_17 : decode cX10_isText 17 = .ok (.goto 4, 3) := by decide +kernel
theorem dX10_isText_20 : decode cX10_isText 20 = .ok (.iconst 0, 1) := by decide +kernel
theorem dX10_isText_21 : decode cX10_isText 21 = .ok (.istore_n 2, 1) := by decide +kernel
theorem dX10_isText_22 : decode cX10_isText 22 = .ok (.iconst 0, 1) := by decide +kernel
theorem dX10_isText_23 : decode cX10_isText 23 = .ok (.istore_n 3, 1) := by decide +kernel
theorem dX10_isText_24 : decode cX10_isText 24 = .ok (.iload_n 3, 1) := by decide +kernel
theorem dX10_isText_25 : decode cX10_isText 25 = .ok (.aload_n 0, 1) := by decide +kernel
theorem dX10_isText_26 : decode cX10_isText 26 = .ok (.iload_n 1, 1) := by decide +kernel
theorem dX10_isText_27 : decode cX10_isText 27 = .ok (.invokevirtual 70, 3) := by decide +kernel
theorem dX10_isText_30 : decode cX10_isText 30 = .ok (.if_icmp .ge 49, 3) := by decide +kernel
theorem dX10_isText_33 : decode cX10_isText 33 = .ok (.iload_n 2, 1) := by decide +kernel
theorem dX10_isText_34 : decode cX10_isText 34 = .ok (.ifCond .eq 45, 3) := by decide +kernel
theorem dX10_isText_37 : decode cX10_isText 37 = .ok (.aload_n 0, 1) := by decide +kernel
theorem dX10_isText_38 : decode cX10_isText 38 = .ok (.iload_n 1, 1) := by decide +kernel
theorem dX10_isText_39 : decode cX10_isText 39 = .ok (.iload_n 3, 1) := by decide +kernel
theorem dX10_isText_40 : decode cX10_isText 40 = .ok (.invokevirtual 50, 3) := by decide +kernel
theorem dX10_isText_43 : decode cX10_isText 43 = .ok (.aload_n 0, 1) := by decide +kernel
theorem dX10_isText_44 : decode cX10_isText 44 = .ok (.iload_n 3, 1) := by decide +kernel
theorem dX10_isText_45 : decode cX10_isText 45 = .ok (.iconst 1, 1) := by decide +kernel
theorem dX10_isText_46 : decode cX10_isText 46 = .ok (.invokevirtual 74, 3) := by decide +kernel
theorem dX10_isText_49 : decode cX10_isText 49 = .ok (.if_icmp .ne 22, 3) := by decide +kernel
theorem dX10_isText_52 : decode cX10_isText 52 = .ok (.aload_n 0, 1) := by decide +kernel
theorem dX10_isText_53 : decode cX10_isText 53 = .ok (.iload_n 1, 1) := by decide +kernel
theorem dX10_isText_54 : decode cX10_isText 54 = .ok (.iload_n 3, 1) := by decide +kernel
theorem dX10_isText_55 : decode cX10_isText 55 = .ok (.invokevirtual 78, 3) := by decide +kernel
theorem dX10_isText_58 : decode cX10_isText 58 = .ok (.aload_n 0, 1) := by decide +kernel
theorem dX10_isText_59 : decode cX10_isText 59 = .ok (.iload_n 3, 1) := by decide +kernel
theorem dX10_isText_60 : decode cX10_isText 60 = .ok (.iconst 0, 1) := by decide +kernel
theorem dX10_isText_61 : decode cX10_isText 61 = .ok (.invokevirtual 74, 3) := by decide +kernel
theorem dX10_isText_64 : decode cX10_isText 64 = .ok (.if_icmp .ne 7, 3) := by decide +kernel
theorem dX10_isText_67 : decode cX10_isText 67 = .ok (.iconst 1, 1) := by decide +kernel
theorem dX10_isText_68 : decode cX10_isText 68 = .ok (.goto 4, 3) := by decide +kernel
theorem dX10_isText_71 : decode cX10_isText 71 = .ok (.iconst 0, 1) := by decide +kernel
theorem dX10_isText_72 : decode cX10_isText 72 = .ok (.istore_n 2, 1) := by decide +kernel
theorem dX10_isText_73 : decode cX10_isText 73 = .ok (.iinc 3 1, 3) := by decide +kernel
theorem dX10_isText_76 : decode cX10_isText 76 = .ok (.goto (-52), 3) := by decide +kernel
theorem dX10_isText_79 : decode cX10_isText 79 = .ok (.iload_n 2, 1) := by decide +kernel
theorem dX10_isText_80 : decode cX10_isText 80 = .ok (.ireturn, 1) := by decide +kernel
theorem dX10_statement_0 : decode cX10_statement 0 = .ok (.aload_n 0, 1) := by decide +kernel
theorem dX10_statement_1 : decode cX10_statement 1 = .ok (.invokevirtual 81, 3) := by decide +kernel
theorem dX10_statement_4 : decode cX10_statement 4 = .ok (.ifCond .ne 6, 3) := by decide +kernel
theorem dX10_statement_7 : decode cX10_statement 7 = .ok (.bipush (-2), 2) := by decide +kernel
theorem dX10_statement_9 : decode cX10_statement 9 = .ok (.ireturn, 1) := by decide +kernel
theorem dX10_statement_10 : decode cX10_statement 10 = .ok (.iconst 0, 1) := by decide +kernel
theorem dX10_statement_11 : decode cX10_statement 11 = .ok (.istore_n 1, 1) := by decide +kernel
theorem dX10_statement_12 : decode cX10_statement 12 = .ok (.iload_n 1, 1) := by decide +kernel
theorem dX10_statement_13 : decode cX10_statement 13 = .ok (.aload_n 0, 1) := by decide +kernel
theorem dX10_statement_14 : decode cX10_statement 14 = .ok (.getfield 7, 3) := by decide +kernel
theorem dX10_statement_17 : decode cX10_statement 17 = .ok (.iconst 3, 1) := by decide +kernel
theorem dX10_statement_18 : decode cX10_statement 18 = .ok (.iaload, 1) := by decide +kernel
theorem dX10_statement_19 : decode cX10_statement 19 = .ok (.if_icmp .ge 23, 3) := by decide +kernel
theorem dX10_statement_22 : decode cX10_statement 22 = .ok (.aload_n 0, 1) := by decide +kernel
theorem dX10_statement_23 : decode cX10_statement 23 = .ok (.iload_n 1, 1) := by decide +kernel
theorem dX10_statement_24 : decode cX10_statement 24 = .ok (.invokevirtual 85, 3) := by decide +kernel
theorem dX10_statement_27 : decode cX10_statement 27 = .ok (.ifCond .eq 9, 3) := by decide +kernel
theorem dX10_statement_30 : decode cX10_statement 30 = .ok (.aload_n 0, 1) := by decide +kernel
theorem dX10_statement_31 : decode cX10_statement 31 = .ok (.invokevirtual 34, 3) := by decide +kernel
theorem dX10_statement_34 : decode cX10_statement 34 = .ok (.iload_n 1, 1) := by decide +kernel
theorem dX10_statement_35 : decode cX10_statement 35 = .ok (.ireturn, 1) := by decide +kernel
theorem dX10_statement_36 : decode cX10_statement 36 = .ok (.iinc 1 1, 3) := by decide +kernel
theorem dX10_statement_39 : decode cX10_statement 39 = .ok (.goto (-27), 3) := by decide +kernel
theorem dX10_statement_42 : decode cX10_statement 42 = .ok (.aload_n 0, 1) := by decide +kernel
theorem dX10_statement_43 : decode cX10_statement 43 = .ok (.getfield 7, 3) := by decide +kernel
theorem dX10_statement_46 : decode cX10_statement 46 = .ok (.iconst 3, 1) := by decide +kernel
theorem dX10_statement_47 : decode cX10_statement 47 = .ok (.iaload, 1) := by decide +kernel
theorem dX10_statement_48 : decode cX10_statement 48 = .ok (.istore_n 1, 1) := by decide +kernel
theorem dX10_statement_49 : decode cX10_statement 49 = .ok (.iload_n 1, 1) := by decide +kernel
theorem dX10_statement_50 : decode cX10_statement 50 = .ok (.bipush 6, 2) := by decide +kernel
theorem dX10_statement_52 : decode cX10_statement 52 = .ok (.if_icmp .ne 6, 3) := by decide +kernel
theorem dX10_statement_55 : decode cX10_statement 55 = .ok (.bipush (-3), 2) := by decide +kernel
theorem dX10_statement_57 : decode cX10_statement 57 = .ok (.ireturn, 1) := by decide +kernel
theorem dX10_statement_58 : decode cX10_statement 58 = .ok (.aload_n 0, 1) := by decide +kernel
theorem dX10_statement_59 : decode cX10_statement 59 = .ok (.invokevirtual 34, 3) := by decide +kernel
theorem dX10_statement_62 : decode cX10_statement 62 = .ok (.sipush 307, 3) := by decide +kernel
theorem dX10_statement_65 : decode cX10_statement 65 = .ok (.bipush 10, 2) := by decide +kernel
theorem dX10_statement_67 : decode cX10_statement 67 = .ok (.iload_n 1, 1) := by decide +kernel
theorem dX10_statement_68 : decode cX10_statement 68 = .ok (.imul, 1) := by decide +kernel
theorem dX10_statement_69 : decode cX10_statement 69 = .ok (.iadd, 1) := by decide +kernel
theorem dX10_statement_70 : decode cX10_statement 70 = .ok (.istore_n 2, 1) := by decide +kernel
theorem dX10_statement_71 : decode cX10_statement 71 = .ok (.aload_n 0, 1) := by decide +kernel
theorem dX10_statement_72 : decode cX10_statement 72 = .ok (.getfield 7, 3) := by decide +kernel
theorem dX10_statement_75 : decode cX10_statement 75 = .ok (.iload_n 2, 1) := by decide +kernel
theorem dX10_statement_76 : decode cX10_statement 76 = .ok (.aload_n 0, 1) := by decide +kernel
theorem dX10_statement_77 : decode cX10_statement 77 = .ok (.getfield 64, 3) := by decide +kernel
theorem dX10_statement_80 : decode cX10_statement 80 = .ok (.iconst 1, 1) := by decide +kernel
theorem dX10_statement_81 : decode cX10_statement 81 = .ok (.iadd, 1) := by decide +kernel
theorem dX10_statement_82 : decode cX10_statement 82 = .ok (.iconst 4, 1) := by decide +kernel
theorem dX10_statement_83 : decode cX10_statement 83 = .ok (.idiv, 1) := by decide +kernel
theorem dX10_statement_84 : decode cX10_statement 84 = .ok (.iastore, 1) := by decide +kernel
theorem dX10_statement_85 : decode cX10_statement 85 = .ok (.iconst 0, 1) := by decide +kernel
theorem dX10_statement_86 : decode cX10_statement 86 = .ok (.istore_n 3, 1) := by decide +kernel
theorem dX10_statement_87 : decode cX10_statement 87 = .ok (.iload_n 3, 1) := by decide +kernel
theorem dX10_statement_88 : decode cX10_statement 88 = .ok (.iconst 4, 1) := by decide +kernel
theorem dX10_statement_89 : decode cX10_statement 89 = .ok (.if_icmp .ge 69, 3) := by decide +kernel
theorem dX10_statement_92 : decode cX10_statement 92 = .ok (.aload_n 0, 1) := by decide +kernel
theorem dX10_statement_93 : decode cX10_statement 93 = .ok (.getfield 7, 3) := by decide +kernel
theorem dX10_statement_96 : decode cX10_statement 96 = .ok (.iload_n 2, 1) := by decide +kernel
theorem dX10_statement_97 : decode cX10_statement 97 = .ok (.iconst 1, 1) := by decide +kernel
theorem dX10_statement_98 : decode cX10_statement 98 = .ok (.iadd, 1) := by decide +kernel
theorem dX10_statement_99 : decode cX10_statement 99 = .ok (.iload_n 3, 1) := by decide +kernel
theorem dX10_statement_100 : decode cX10_statement 100 = .ok (.iadd, 1) := by decide +kernel
theorem dX10_statement_101 : decode cX10_statement 101 = .ok (.iload_n 3, 1) := by decide +kernel
theorem dX10_statement_102 : decode cX10_statement 102 = .ok (.aload_n 0, 1) := by decide +kernel
theorem dX10_statement_103 : decode cX10_statement 103 = .ok (.getfield 7, 3) := by decide +kernel
theorem dX10_statement_106 : decode cX10_statement 106 = .ok (.iload_n 2, 1) := by decide +kernel
theorem dX10_statement_107 : decode cX10_statement 107 = .ok (.iaload, 1) := by decide +kernel
theorem dX10_statement_108 : decode cX10_statement 108 = .ok (.if_icmp .ge 12, 3) := by decide +kernel
theorem dX10_statement_111 : decode cX10_statement 111 = .ok (.aload_n 0, 1) := by decide +kernel
theorem dX10_statement_112 : decode cX10_statement 112 = .ok (.iload_n 3, 1) := by decide +kernel
theorem dX10_statement_113 : decode cX10_statement 113 = .ok (.iconst 1, 1) := by decide +kernel
theorem dX10_statement_114 : decode cX10_statement 114 = .ok (.invokevirtual 74, 3) := by decide +kernel
theorem dX10_statement_117 : decode cX10_statement 117 = .ok (.goto 4, 3) := by decide +kernel
theorem dX10_statement_120 : decode cX10_statement 120 = .ok (.iconst 0, 1) := by decide +kernel
theorem dX10_statement_121 : decode cX10_statement 121 = .ok (.iastore, 1) := by decide +kernel
theorem dX10_statement_122 : decode cX10_statement 122 = .ok (.aload_n 0, 1) := by decide +kernel
theorem dX10_statement_123 : decode cX10_statement 123 = .ok (.getfield 7, 3) := by decide +kernel
theorem dX10_statement_126 : decode cX10_statement 126 = .ok (.iload_n 2, 1) := by decide +kernel
theorem dX10_statement_127 : decode cX10_statement 127 = .ok (.iconst 5, 1) := by decide +kernel
theorem dX10_statement_128 : decode cX10_statement 128 = .ok (.iadd, 1) := by decide +kernel
theorem dX10_statement_129 : decode cX10_statement 129 = .ok (.iload_n 3, 1) := by decide +kernel
theorem dX10_statement_130 : decode cX10_statement 130 = .ok (.iadd, 1) := by decide +kernel
theorem dX10_statement_131 : decode cX10_statement 131 = .ok (.iload_n 3, 1) := by decide +kernel
theorem dX10_statement_132 : decode cX10_statement 132 = .ok (.aload_n 0, 1) := by decide +kernel
theorem dX10_statement_133 : decode cX10_statement 133 = .ok (.getfield 7, 3) := by decide +kernel
theorem dX10_statement_136 : decode cX10_statement 136 = .ok (.iload_n 2, 1) := by decide +kernel
theorem dX10_statement_137 : decode cX10_statement 137 = .ok (.iaload, 1) := by decide +kernel
theorem dX10_statement_138 : decode cX10_statement 138 = .ok (.if_icmp .ge 12, 3) := by decide +kernel
theorem dX10_statement_141 : decode cX10_statement 141 = .ok (.aload_n 0, 1) := by decide +kernel
theorem dX10_statement_142 : decode cX10_statement 142 = .ok (.iload_n 3, 1) := by decide +kernel
theorem dX10_statement_143 : decode cX10_statement 143 = .ok (.iconst 0, 1) := by decide +kernel
theorem dX10_statement_144 : decode cX10_statement 144 = .ok (.invokevirtual 74, 3) := by decide +kernel
theorem dX10_statement_147 : decode cX10_statement 147 = .ok (.goto 4, 3) := by decide +kernel
theorem dX10_statement_150 : decode cX10_statement 150 = .ok (.iconst 0, 1) := by decide +kernel
theorem dX10_statement_151 : decode cX10_statement 151 = .ok (.iastore, 1) := by decide +kernel
theorem dX10_statement_152 : decode cX10_statement 152 = .ok (.iinc 3 1, 3) := by decide +kernel
theorem dX10_statement_155 : decode cX10_statement 155 = .ok (.goto (-68), 3) := by decide +kernel
theorem dX10_statement_158 : decode cX10_statement 158 = .ok (.aload_n 0, 1) := by decide +kernel
theorem dX10_statement_159 : decode cX10_statement 159 = .ok (.getfield 7, 3) := by decide +kernel
theorem dX10_statement_162 : decode cX10_statement 162 = .ok (.iload_n 2, 1) := by decide +kernel
theorem dX10_statement_163 : decode cX10_statement 163 = .ok (.bipush 9, 2) := by decide +kernel
theorem dX10_statement_165 : decode cX10_statement 165 = .ok (.iadd, 1) := by decide +kernel
theorem dX10_statement_166 : decode cX10_statement 166 = .ok (.iconst 0, 1) := by decide +kernel
theorem dX10_statement_167 : decode cX10_statement 167 = .ok (.iastore, 1) := by decide +kernel
theorem dX10_statement_168 : decode cX10_statement 168 = .ok (.aload_n 0, 1) := by decide +kernel
theorem dX10_statement_169 : decode cX10_statement 169 = .ok (.getfield 7, 3) := by decide +kernel
theorem dX10_statement_172 : decode cX10_statement 172 = .ok (.iconst 3, 1) := by decide +kernel
theorem dX10_statement_173 : decode cX10_statement 173 = .ok (.dup2, 1) := by decide +kernel
theorem dX10_statement_174 : decode cX10_statement 174 = .ok (.iaload, 1) := by decide +kernel
theorem dX10_statement_175 : decode cX10_statement 175 = .ok (.iconst 1, 1) := by decide +kernel
theorem dX10_statement_176 : decode cX10_statement 176 = .ok (.iadd, 1) := by decide +kernel
theorem dX10_statement_177 : decode cX10_statement 177 = .ok (.iastore, 1) := by decide +kernel
theorem dX10_statement_178 : decode cX10_statement 178 = .ok (.iload_n 1, 1) := by decide +kernel
theorem dX10_statement_179 : decode cX10_statement 179 = .ok (.ireturn, 1) := by decide +kernel
theorem dX10_plansOf_0 : decode cX10_plansOf 0 = .ok (.iconst 0, 1) := by decide +kernel
theorem dX10_plansOf_1 : decode cX10_plansOf 1 = .ok (.istore_n 2, 1) := by decide +kernel
theorem dX10_plansOf_2 : decode cX10_plansOf 2 = .ok (.iconst 0, 1) := by decide +kernel
theorem dX10_plansOf_3 : decode cX10_plansOf 3 = .ok (.istore_n 3, 1) := by decide +kernel
theorem dX10_plansOf_4 : decode cX10_plansOf 4 = .ok (.iload_n 3, 1) := by decide +kernel
theorem dX10_plansOf_5 : decode cX10_plansOf 5 = .ok (.aload_n 0, 1) := by decide +kernel
theorem dX10_plansOf_6 : decode cX10_plansOf 6 = .ok (.getfield 7, 3) := by decide +kernel
theorem dX10_plansOf_9 : decode cX10_plansOf 9 = .ok (.iconst 4, 1) := by decide +kernel
theorem dX10_plansOf_10 : decode cX10_plansOf 10 = .ok (.iaload, 1) := by decide +kernel
theorem dX10_plansOf_11 : decode cX10_plansOf 11 = .ok (.if_icmp .ge 27, 3) := by decide +kernel
theorem dX10_plansOf_14 : decode cX10_plansOf 14 = .ok (.iload_n 2, 1) := by decide +kernel
theorem dX10_plansOf_15 : decode cX10_plansOf 15 = .ok (.aload_n 0, 1) := by decide +kernel
theorem dX10_plansOf_16 : decode cX10_plansOf 16 = .ok (.iload_n 3, 1) := by decide +kernel
theorem dX10_plansOf_17 : decode cX10_plansOf 17 = .ok (.iconst 1, 1) := by decide +kernel
theorem dX10_plansOf_18 : decode cX10_plansOf 18 = .ok (.invokevirtual 47, 3) := by decide +kernel
theorem dX10_plansOf_21 : decode cX10_plansOf 21 = .ok (.iload_n 1, 1) := by decide +kernel
theorem dX10_plansOf_22 : decode cX10_plansOf 22 = .ok (.if_icmp .ne 7, 3) := by decide +kernel
theorem dX10_plansOf_25 : decode cX10_plansOf 25 = .ok (.iconst 1, 1) := by decide +kernel
theorem dX10_plansOf_26 : decode cX10_plansOf 26 = .ok (.goto 4, 3) := by decide +kernel
theorem dX10_plansOf_29 : decode cX10_plansOf 29 = .ok (.iconst 0, 1) := by decide +kernel
theorem dX10_plansOf_30 : decode cX10_plansOf 30 = .ok (.iadd, 1) := by decide +kernel
theorem dX10_plansOf_31 : decode cX10_plansOf 31 = .ok (.istore_n 2, 1) := by decide +kernel
theorem dX10_plansOf_32 : decode cX10_plansOf 32 = .ok (.iinc 3 1, 3) := by decide +kernel
theorem dX10_plansOf_35 : decode cX10_plansOf 35 = .ok (.goto (-31), 3) := by decide +kernel
theorem dX10_plansOf_38 : decode cX10_plansOf 38 = .ok (.iload_n 2, 1) := by decide +kernel
theorem dX10_plansOf_39 : decode cX10_plansOf 39 = .ok (.ireturn, 1) := by decide +kernel
theorem dX10_statementOf_0 : decode cX10_statementOf 0 = .ok (.aload_n 0, 1) := by decide +kernel
theorem dX10_statementOf_1 : decode cX10_statementOf 1 = .ok (.iload_n 1, 1) := by decide +kernel
theorem dX10_statementOf_2 : decode cX10_statementOf 2 = .ok (.invokevirtual 88, 3) := by decide +kernel
theorem dX10_statementOf_5 : decode cX10_statementOf 5 = .ok (.ifCond .ne 5, 3) := by decide +kernel
theorem dX10_statementOf_8 : decode cX10_statementOf 8 = .ok (.iconst (-1), 1) := by decide +kernel
theorem dX10_statementOf_9 : decode cX10_statementOf 9 = .ok (.ireturn, 1) := by decide +kernel
theorem dX10_statementOf_10 : decode cX10_statementOf 10 = .ok (.iload_n 2, 1) := by decide +kernel
theorem dX10_statementOf_11 : decode cX10_statementOf 11 = .ok (.iconst 0, 1) := by decide +kernel
theorem dX10_statementOf_12 : decode cX10_statementOf 12 = .ok (.iconst 2, 1) := by decide +kernel
theorem dX10_statementOf_13 : decode cX10_statementOf 13 = .ok (.invokestatic 26, 3) := by decide +kernel
theorem dX10_statementOf_16 : decode cX10_statementOf 16 = .ok (.ifCond .eq 45, 3) := by decide +kernel
theorem dX10_statementOf_19 : decode cX10_statementOf 19 = .ok (.iload_n 2, 1) := by decide +kernel
theorem dX10_statementOf_20 : decode cX10_statementOf 20 = .ok (.ifCond .ne 11, 3) := by decide +kernel
theorem dX10_statementOf_23 : decode cX10_statementOf 23 = .ok (.aload_n 0, 1) := by decide +kernel
theorem dX10_statementOf_24 : decode cX10_statementOf 24 = .ok (.iload_n 1, 1) := by decide +kernel
theorem dX10_statementOf_25 : decode cX10_statementOf 25 = .ok (.invokevirtual 70, 3) := by decide +kernel
theorem dX10_statementOf_28 : decode cX10_statementOf 28 = .ok (.goto 32, 3) := by decide +kernel
theorem dX10_statementOf_31 : decode cX10_statementOf 31 = .ok (.iload_n 2, 1) := by decide +kernel
theorem dX10_statementOf_32 : decode cX10_statementOf 32 = .ok (.iconst 1, 1) := by decide +kernel
theorem dX10_statementOf_33 : decode cX10_statementOf 33 = .ok (.if_icmp .ne 11, 3) := by decide +kernel
theorem dX10_statementOf_36 : decode cX10_statementOf 36 = .ok (.aload_n 0, 1) := by decide +kernel
theorem dX10_statementOf_37 : decode cX10_statementOf 37 = .ok (.iload_n 1, 1) := by decide +kernel
theorem dX10_statementOf_38 : decode cX10_statementOf 38 = .ok (.invokevirtual 91, 3) := by decide +kernel
theorem dX10_statementOf_41 : decode cX10_statementOf 41 = .ok (.goto 19, 3) := by decide +kernel
theorem dX10_statementOf_44 : decode cX10_statementOf 44 = .ok (.aload_n 0, 1) := by decide +kernel
theorem dX10_statementOf_45 : decode cX10_statementOf 45 = .ok (.getfield 7, 3) := by decide +kernel
theorem dX10_statementOf_48 : decode cX10_statementOf 48 = .ok (.sipush 307, 3) := by decide +kernel
theorem dX10_statementOf_51 : decode cX10_statementOf 51 = .ok (.bipush 10, 2) := by decide +kernel
theorem dX10_statementOf_53 : decode cX10_statementOf 53 = .ok (.iload_n 1, 1) := by decide +kernel
theorem dX10_statementOf_54 : decode cX10_statementOf 54 = .ok (.imul, 1) := by decide +kernel
theorem dX10_statementOf_55 : decode cX10_statementOf 55 = .ok (.iadd, 1) := by decide +kernel
theorem dX10_statementOf_56 : decode cX10_statementOf 56 = .ok (.bipush 9, 2) := by decide +kernel
theorem dX10_statementOf_58 : decode cX10_statementOf 58 = .ok (.iadd, 1) := by decide +kernel
theorem dX10_statementOf_59 : decode cX10_statementOf 59 = .ok (.iaload, 1) := by decide +kernel
theorem dX10_statementOf_60 : decode cX10_statementOf 60 = .ok (.ireturn, 1) := by decide +kernel
theorem dX10_statementOf_61 : decode cX10_statementOf 61 = .ok (.iload_n 2, 1) := by decide +kernel
theorem dX10_statementOf_62 : decode cX10_statementOf 62 = .ok (.bipush 10, 2) := by decide +kernel
theorem dX10_statementOf_64 : decode cX10_statementOf 64 = .ok (.irem, 1) := by decide +kernel
theorem dX10_statementOf_65 : decode cX10_statementOf 65 = .ok (.istore_n 3, 1) := by decide +kernel
theorem dX10_statementOf_66 : decode cX10_statementOf 66 = .ok (.iload_n 2, 1) := by decide +kernel
theorem dX10_statementOf_67 : decode cX10_statementOf 67 = .ok (.bipush 10, 2) := by decide +kernel
theorem dX10_statementOf_69 : decode cX10_statementOf 69 = .ok (.bipush 29, 2) := by decide +kernel
theorem dX10_statementOf_71 : decode cX10_statementOf 71 = .ok (.invokestatic 26, 3) := by decide +kernel
theorem dX10_statementOf_74 : decode cX10_statementOf 74 = .ok (.ifCond .eq 8, 3) := by decide +kernel
theorem dX10_statementOf_77 : decode cX10_statementOf 77 = .ok (.iload_n 3, 1) := by decide +kernel
theorem dX10_statementOf_78 : decode cX10_statementOf 78 = .ok (.iconst 3, 1) := by decide +kernel
theorem dX10_statementOf_79 : decode cX10_statementOf 79 = .ok (.if_icmp .le 5, 3) := by decide +kernel
theorem dX10_statementOf_82 : decode cX10_statementOf 82 = .ok (.iconst (-1), 1) := by decide +kernel
theorem dX10_statementOf_83 : decode cX10_statementOf 83 = .ok (.ireturn, 1) := by decide +kernel
theorem dX10_statementOf_84 : decode cX10_statementOf 84 = .ok (.iload_n 3, 1) := by decide +kernel
theorem dX10_statementOf_85 : decode cX10_statementOf 85 = .ok (.aload_n 0, 1) := by decide +kernel
theorem dX10_statementOf_86 : decode cX10_statementOf 86 = .ok (.iload_n 1, 1) := by decide +kernel
theorem dX10_statementOf_87 : decode cX10_statementOf 87 = .ok (.invokevirtual 70, 3) := by decide +kernel
theorem dX10_statementOf_90 : decode cX10_statementOf 90 = .ok (.if_icmp .lt 8, 3) := by decide +kernel
theorem dX10_statementOf_93 : decode cX10_statementOf 93 = .ok (.bipush (-4), 2) := by decide +kernel
theorem dX10_statementOf_95 : decode cX10_statementOf 95 = .ok (.goto 24, 3) := by decide +kernel
theorem dX10_statementOf_98 : decode cX10_statementOf 98 = .ok (.iload_n 2, 1) := by decide +kernel
theorem dX10_statementOf_99 : decode cX10_statementOf 99 = .ok (.bipush 20, 2) := by decide +kernel
theorem dX10_statementOf_101 : decode cX10_statementOf 101 = .ok (.if_icmp .ge 12, 3) := by decide +kernel
theorem dX10_statementOf_104 : decode cX10_statementOf 104 = .ok (.aload_n 0, 1) := by decide +kernel
theorem dX10_statementOf_105 : decode cX10_statementOf 105 = .ok (.iload_n 1, 1) := by decide +kernel
theorem dX10_statementOf_106 : decode cX10_statementOf 106 = .ok (.iload_n 3, 1) := by decide +kernel
theorem dX10_statementOf_107 : decode cX10_statementOf 107 = .ok (.invokevirtual 50, 3) := by decide +kernel
theorem dX10_statementOf_110 : decode cX10_statementOf 110 = .ok (.goto 9, 3) := by decide +kernel
theorem dX10_statementOf_113 : decode cX10_statementOf 113 = .ok (.aload_n 0, 1) := by decide +kernel
theorem dX10_statementOf_114 : decode cX10_statementOf 114 = .ok (.iload_n 1, 1) := by decide +kernel
theorem dX10_statementOf_115 : decode cX10_statementOf 115 = .ok (.iload_n 3, 1) := by decide +kernel
theorem dX10_statementOf_116 : decode cX10_statementOf 116 = .ok (.invokevirtual 78, 3) := by decide +kernel
theorem dX10_statementOf_119 : decode cX10_statementOf 119 = .ok (.ireturn, 1) := by decide +kernel
theorem dX10_takes_0 : decode cX10_takes 0 = .ok (.aload_n 0, 1) := by decide +kernel
theorem dX10_takes_1 : decode cX10_takes 1 = .ok (.getfield 19, 3) := by decide +kernel
theorem dX10_takes_4 : decode cX10_takes 4 = .ok (.iconst 0, 1) := by decide +kernel
theorem dX10_takes_5 : decode cX10_takes 5 = .ok (.iload_n 2, 1) := by decide +kernel
theorem dX10_takes_6 : decode cX10_takes 6 = .ok (.iastore, 1) := by decide +kernel
theorem dX10_takes_7 : decode cX10_takes 7 = .ok (.aload_n 0, 1) := by decide +kernel
theorem dX10_takes_8 : decode cX10_takes 8 = .ok (.getfield 19, 3) := by decide +kernel
theorem dX10_takes_11 : decode cX10_takes 11 = .ok (.iconst 1, 1) := by decide +kernel
theorem dX10_takes_12 : decode cX10_takes 12 = .ok (.iload_n 3, 1) := by decide +kernel
theorem dX10_takes_13 : decode cX10_takes 13 = .ok (.iastore, 1) := by decide +kernel
theorem dX10_takes_14 : decode cX10_takes 14 = .ok (.aload_n 0, 1) := by decide +kernel
theorem dX10_takes_15 : decode cX10_takes 15 = .ok (.getfield 19, 3) := by decide +kernel
theorem dX10_takes_18 : decode cX10_takes 18 = .ok (.iconst 2, 1) := by decide +kernel
theorem dX10_takes_19 : decode cX10_takes 19 = .ok (.iload 4, 2) := by decide +kernel
theorem dX10_takes_21 : decode cX10_takes 21 = .ok (.iastore, 1) := by decide +kernel
theorem dX10_takes_22 : decode cX10_takes 22 = .ok (.aload_n 0, 1) := by decide +kernel
theorem dX10_takes_23 : decode cX10_takes 23 = .ok (.getfield 19, 3) := by decide +kernel
theorem dX10_takes_26 : decode cX10_takes 26 = .ok (.iconst 3, 1) := by decide +kernel
theorem dX10_takes_27 : decode cX10_takes 27 = .ok (.iload 5, 2) := by decide +kernel
theorem dX10_takes_29 : decode cX10_takes 29 = .ok (.iastore, 1) := by decide +kernel
theorem dX10_takes_30 : decode cX10_takes 30 = .ok (.aload_n 0, 1) := by decide +kernel
theorem dX10_takes_31 : decode cX10_takes 31 = .ok (.iload_n 1, 1) := by decide +kernel
theorem dX10_takes_32 : decode cX10_takes 32 = .ok (.invokevirtual 88, 3) := by decide +kernel
theorem dX10_takes_35 : decode cX10_takes 35 = .ok (.istore 6, 2) := by decide +kernel
theorem dX10_takes_37 : decode cX10_takes 37 = .ok (.iconst 0, 1) := by decide +kernel
theorem dX10_takes_38 : decode cX10_takes 38 = .ok (.istore 7, 2) := by decide +kernel
theorem dX10_takes_40 : decode cX10_takes 40 = .ok (.iload 7, 2) := by decide +kernel
theorem dX10_takes_42 : decode cX10_takes 42 = .ok (.iconst 4, 1) := by decide +kernel
theorem dX10_takes_43 : decode cX10_takes 43 = .ok (.if_icmp .ge 54, 3) := by decide +kernel
theorem dX10_takes_46 : decode cX10_takes 46 = .ok (.iload 6, 2) := by decide +kernel
theorem dX10_takes_48 : decode cX10_takes 48 = .ok (.ifCond .eq 49, 3) := by decide +kernel
theorem dX10_takes_51 : decode cX10_takes 51 = .ok (.iload 7, 2) := by decide +kernel
theorem dX10_takes_53 : decode cX10_takes 53 = .ok (.aload_n 0, 1) := by decide +kernel
theorem dX10_takes_54 : decode cX10_takes 54 = .ok (.iload_n 1, 1) := by decide +kernel
theorem dX10_takes_55 : decode cX10_takes 55 = .ok (.invokevirtual 70, 3) := by decide +kernel
theorem dX10_takes_58 : decode cX10_takes 58 = .ok (.if_icmp .ge 16, 3) := by decide +kernel
theorem dX10_takes_61 : decode cX10_takes 61 = .ok (.aload_n 0, 1) := by decide +kernel
theorem dX10_takes_62 : decode cX10_takes 62 = .ok (.getfield 19, 3) := by decide +kernel
theorem dX10_takes_65 : decode cX10_takes 65 = .ok (.iload 7, 2) := by decide +kernel
theorem dX10_takes_67 : decode cX10_takes 67 = .ok (.iaload, 1) := by decide +kernel
theorem dX10_takes_68 : decode cX10_takes 68 = .ok (.invokestatic 30, 3) := by decide +kernel
theorem dX10_takes_71 : decode cX10_takes 71 = .ok (.goto 18, 3) := by decide +kernel
theorem dX10_takes_74 : decode cX10_takes 74 = .ok (.aload_n 0, 1) := by decide +kernel
theorem dX10_takes_75 : decode cX10_takes 75 = .ok (.getfield 19, 3) := by decide +kernel
theorem dX10_takes_78 : decode cX10_takes 78 = .ok (.iload 7, 2) := by decide +kernel
theorem dX10_takes_80 : decode cX10_takes 80 = .ok (.iaload, 1) := by decide +kernel
theorem dX10_takes_81 : decode cX10_takes 81 = .ok (.ifCond .ne 7, 3) := by decide +kernel
theorem dX10_takes_84 : decode cX10_takes 84 = .ok (.iconst 1, 1) := by decide +kernel
theorem dX10_takes_85 : decode cX10_takes 85 = .ok (.goto 4, 3) := by decide +kernel
theorem dX10_takes_88 : decode cX10_takes 88 = .ok (.iconst 0, 1) := by decide +kernel
theorem dX10_takes_89 : decode cX10_takes 89 = .ok (.istore 6, 2) := by decide +kernel
theorem dX10_takes_91 : decode cX10_takes 91 = .ok (.iinc 7 1, 3) := by decide +kernel
theorem dX10_takes_94 : decode cX10_takes 94 = .ok (.goto (-54), 3) := by decide +kernel
theorem dX10_takes_97 : decode cX10_takes 97 = .ok (.iload 6, 2) := by decide +kernel
theorem dX10_takes_99 : decode cX10_takes 99 = .ok (.ireturn, 1) := by decide +kernel
theorem dX10_holds_0 : decode cX10_holds 0 = .ok (.aload_n 0, 1) := by decide +kernel
theorem dX10_holds_1 : decode cX10_holds 1 = .ok (.iload_n 1, 1) := by decide +kernel
theorem dX10_holds_2 : decode cX10_holds 2 = .ok (.iload_n 2, 1) := by decide +kernel
theorem dX10_holds_3 : decode cX10_holds 3 = .ok (.invokevirtual 78, 3) := by decide +kernel
theorem dX10_holds_6 : decode cX10_holds 6 = .ok (.istore 4, 2) := by decide +kernel
theorem dX10_holds_8 : decode cX10_holds 8 = .ok (.iload 4, 2) := by decide +kernel
theorem dX10_holds_10 : decode cX10_holds 10 = .ok (.ifCond .ne 21, 3) := by decide +kernel
theorem dX10_holds_13 : decode cX10_holds 13 = .ok (.iload_n 3, 1) := by decide +kernel
theorem dX10_holds_14 : decode cX10_holds 14 = .ok (.aload_n 0, 1) := by decide +kernel
theorem dX10_holds_15 : decode cX10_holds 15 = .ok (.getfield 19, 3) := by decide +kernel
theorem dX10_holds_18 : decode cX10_holds 18 = .ok (.iload_n 2, 1) := by decide +kernel
theorem dX10_holds_19 : decode cX10_holds 19 = .ok (.iaload, 1) := by decide +kernel
theorem dX10_holds_20 : decode cX10_holds 20 = .ok (.if_icmp .ne 7, 3) := by decide +kernel
theorem dX10_holds_23 : decode cX10_holds 23 = .ok (.iconst 1, 1) := by decide +kernel
theorem dX10_holds_24 : decode cX10_holds 24 = .ok (.goto 46, 3) := by decide +kernel
theorem dX10_holds_27 : decode cX10_holds 27 = .ok (.iconst 0, 1) := by decide +kernel
theorem dX10_holds_28 : decode cX10_holds 28 = .ok (.goto 42, 3) := by decide +kernel
theorem dX10_holds_31 : decode cX10_holds 31 = .ok (.iload 4, 2) := by decide +kernel
theorem dX10_holds_33 : decode cX10_holds 33 = .ok (.iconst 1, 1) := by decide +kernel
theorem dX10_holds_34 : decode cX10_holds 34 = .ok (.if_icmp .ne 21, 3) := by decide +kernel
theorem dX10_holds_37 : decode cX10_holds 37 = .ok (.iload_n 3, 1) := by decide +kernel
theorem dX10_holds_38 : decode cX10_holds 38 = .ok (.aload_n 0, 1) := by decide +kernel
theorem dX10_holds_39 : decode cX10_holds 39 = .ok (.getfield 19, 3) := by decide +kernel
theorem dX10_holds_42 : decode cX10_holds 42 = .ok (.iload_n 2, 1) := by decide +kernel
theorem dX10_holds_43 : decode cX10_holds 43 = .ok (.iaload, 1) := by decide +kernel
theorem dX10_holds_44 : decode cX10_holds 44 = .ok (.if_icmp .ge 7, 3) := by decide +kernel
theorem dX10_holds_47 : decode cX10_holds 47 = .ok (.iconst 1, 1) := by decide +kernel
theorem dX10_holds_48 : decode cX10_holds 48 = .ok (.goto 22, 3) := by decide +kernel
theorem dX10_holds_51 : decode cX10_holds 51 = .ok (.iconst 0, 1) := by decide +kernel
theorem dX10_holds_52 : decode cX10_holds 52 = .ok (.goto 18, 3) := by decide +kernel
theorem dX10_holds_55 : decode cX10_holds 55 = .ok (.iload_n 3, 1) := by decide +kernel
theorem dX10_holds_56 : decode cX10_holds 56 = .ok (.aload_n 0, 1) := by decide +kernel
theorem dX10_holds_57 : decode cX10_holds 57 = .ok (.getfield 19, 3) := by decide +kernel
theorem dX10_holds_60 : decode cX10_holds 60 = .ok (.iload_n 2, 1) := by decide +kernel
theorem dX10_holds_61 : decode cX10_holds 61 = .ok (.iaload, 1) := by decide +kernel
theorem dX10_holds_62 : decode cX10_holds 62 = .ok (.if_icmp .le 7, 3) := by decide +kernel
theorem dX10_holds_65 : decode cX10_holds 65 = .ok (.iconst 1, 1) := by decide +kernel
theorem dX10_holds_66 : decode cX10_holds 66 = .ok (.goto 4, 3) := by decide +kernel
theorem dX10_holds_69 : decode cX10_holds 69 = .ok (.iconst 0, 1) := by decide +kernel
theorem dX10_holds_70 : decode cX10_holds 70 = .ok (.ireturn, 1) := by decide +kernel
theorem dX10_weights_0 : decode cX10_weights 0 = .ok (.iconst 0, 1) := by decide +kernel
theorem dX10_weights_1 : decode cX10_weights 1 = .ok (.istore 4, 2) := by decide +kernel
theorem dX10_weights_3 : decode cX10_weights 3 = .ok (.aload_n 0, 1) := by decide +kernel
theorem dX10_weights_4 : decode cX10_weights 4 = .ok (.iload_n 1, 1) := by decide +kernel
theorem dX10_weights_5 : decode cX10_weights 5 = .ok (.iload_n 2, 1) := by decide +kernel
theorem dX10_weights_6 : decode cX10_weights 6 = .ok (.invokevirtual 50, 3) := by decide +kernel
theorem dX10_weights_9 : decode cX10_weights 9 = .ok (.istore 5, 2) := by decide +kernel
theorem dX10_weights_11 : decode cX10_weights 11 = .ok (.iconst 0, 1) := by decide +kernel
theorem dX10_weights_12 : decode cX10_weights 12 = .ok (.istore 6, 2) := by decide +kernel
theorem dX10_weights_14 : decode cX10_weights 14 = .ok (.iload 6, 2) := by decide +kernel
theorem dX10_weights_16 : decode cX10_weights 16 = .ok (.bipush 32, 2) := by decide +kernel
theorem dX10_weights_18 : decode cX10_weights 18 = .ok (.if_icmp .ge 50, 3) := by decide +kernel
theorem dX10_weights_21 : decode cX10_weights 21 = .ok (.iload_n 3, 1) := by decide +kernel
theorem dX10_weights_22 : decode cX10_weights 22 = .ok (.ifCond .ne 46, 3) := by decide +kernel
theorem dX10_weights_25 : decode cX10_weights 25 = .ok (.iload 4, 2) := by decide +kernel
theorem dX10_weights_27 : decode cX10_weights 27 = .ok (.aload_n 0, 1) := by decide +kernel
theorem dX10_weights_28 : decode cX10_weights 28 = .ok (.iload_n 1, 1) := by decide +kernel
theorem dX10_weights_29 : decode cX10_weights 29 = .ok (.iload_n 2, 1) := by decide +kernel
theorem dX10_weights_30 : decode cX10_weights 30 = .ok (.iload 6, 2) := by decide +kernel
theorem dX10_weights_32 : decode cX10_weights 32 = .ok (.invokevirtual 94, 3) := by decide +kernel
theorem dX10_weights_35 : decode cX10_weights 35 = .ok (.ifCond .eq 23, 3) := by decide +kernel
theorem dX10_weights_38 : decode cX10_weights 38 = .ok (.aload_n 0, 1) := by decide +kernel
theorem dX10_weights_39 : decode cX10_weights 39 = .ok (.getfield 7, 3) := by decide +kernel
theorem dX10_weights_42 : decode cX10_weights 42 = .ok (.sipush 179, 3) := by decide +kernel
theorem dX10_weights_45 : decode cX10_weights 45 = .ok (.bipush 32, 2) := by decide +kernel
theorem dX10_weights_47 : decode cX10_weights 47 = .ok (.iload 5, 2) := by decide +kernel
theorem dX10_weights_49 : decode cX10_weights 49 = .ok (.imul, 1) := by decide +kernel
theorem dX10_weights_50 : decode cX10_weights 50 = .ok (.iadd, 1) := by decide +kernel
theorem dX10_weights_51 : decode cX10_weights 51 = .ok (.iload 6, 2) := by decide +kernel
theorem dX10_weights_53 : decode cX10_weights 53 = .ok (.iadd, 1) := by decide +kernel
theorem dX10_weights_54 : decode cX10_weights 54 = .ok (.iaload, 1) := by decide +kernel
theorem dX10_weights_55 : decode cX10_weights 55 = .ok (.goto 4, 3) := by decide +kernel
theorem dX10_weights_58 : decode cX10_weights 58 = .ok (.iconst 0, 1) := by decide +kernel
theorem dX10_weights_59 : decode cX10_weights 59 = .ok (.iadd, 1) := by decide +kernel
theorem dX10_weights_60 : decode cX10_weights 60 = .ok (.istore 4, 2) := by decide +kernel
theorem dX10_weights_62 : decode cX10_weights 62 = .ok (.iinc 6 1, 3) := by decide +kernel
theorem dX10_weights_65 : decode cX10_weights 65 = .ok (.goto (-51), 3) := by decide +kernel
theorem dX10_weights_68 : decode cX10_weights 68 = .ok (.iconst 0, 1) := by decide +kernel
theorem dX10_weights_69 : decode cX10_weights 69 = .ok (.istore 6, 2) := by decide +kernel
theorem dX10_weights_71 : decode cX10_weights 71 = .ok (.iload 6, 2) := by decide +kernel
theorem dX10_weights_73 : decode cX10_weights 73 = .ok (.aload_n 0, 1) := by decide +kernel
theorem dX10_weights_74 : decode cX10_weights 74 = .ok (.getfield 7, 3) := by decide +kernel
theorem dX10_weights_77 : decode cX10_weights 77 = .ok (.iconst 0, 1) := by decide +kernel
theorem dX10_weights_78 : decode cX10_weights 78 = .ok (.iaload, 1) := by decide +kernel
theorem dX10_weights_79 : decode cX10_weights 79 = .ok (.if_icmp .ge 46, 3) := by decide +kernel
theorem dX10_weights_82 : decode cX10_weights 82 = .ok (.iload_n 3, 1) := by decide +kernel
theorem dX10_weights_83 : decode cX10_weights 83 = .ok (.ifCond .eq 42, 3) := by decide +kernel
theorem dX10_weights_86 : decode cX10_weights 86 = .ok (.iload 4, 2) := by decide +kernel
theorem dX10_weights_88 : decode cX10_weights 88 = .ok (.aload_n 0, 1) := by decide +kernel
theorem dX10_weights_89 : decode cX10_weights 89 = .ok (.iload_n 1, 1) := by decide +kernel
theorem dX10_weights_90 : decode cX10_weights 90 = .ok (.iload_n 2, 1) := by decide +kernel
theorem dX10_weights_91 : decode cX10_weights 91 = .ok (.aload_n 0, 1) := by decide +kernel
theorem dX10_weights_92 : decode cX10_weights 92 = .ok (.iload 6, 2) := by decide +kernel
theorem dX10_weights_94 : decode cX10_weights 94 = .ok (.iload 5, 2) := by decide +kernel
theorem dX10_weights_96 : decode cX10_weights 96 = .ok (.invokevirtual 40, 3) := by decide +kernel
theorem dX10_weights_99 : decode cX10_weights 99 = .ok (.invokevirtual 94, 3) := by decide +kernel
theorem dX10_weights_102 : decode cX10_weights 102 = .ok (.ifCond .eq 13, 3) := by decide +kernel
theorem dX10_weights_105 : decode cX10_weights 105 = .ok (.aload_n 0, 1) := by decide +kernel
theorem dX10_weights_106 : decode cX10_weights 106 = .ok (.iload 6, 2) := by decide +kernel
theorem dX10_weights_108 : decode cX10_weights 108 = .ok (.iconst 4, 1) := by decide +kernel
theorem dX10_weights_109 : decode cX10_weights 109 = .ok (.invokevirtual 40, 3) := by decide +kernel
theorem dX10_weights_112 : decode cX10_weights 112 = .ok (.goto 4, 3) := by decide +kernel
theorem dX10_weights_115 : decode cX10_weights 115 = .ok (.iconst 0, 1) := by decide +kernel
theorem dX10_weights_116 : decode cX10_weights 116 = .ok (.iadd, 1) := by decide +kernel
theorem dX10_weights_117 : decode cX10_weights 117 = .ok (.istore 4, 2) := by decide +kernel
theorem dX10_weights_119 : decode cX10_weights 119 = .ok (.iinc 6 1, 3) := by decide +kernel
theorem dX10_weights_122 : decode cX10_weights 122 = .ok (.goto (-51), 3) := by decide +kernel
theorem dX10_weights_125 : decode cX10_weights 125 = .ok (.iload 4, 2) := by decide +kernel
theorem dX10_weights_127 : decode cX10_weights 127 = .ok (.ireturn, 1) := by decide +kernel
theorem dX10_cost_0 : decode cX10_cost 0 = .ok (.iload_n 2, 1) := by decide +kernel
theorem dX10_cost_1 : decode cX10_cost 1 = .ok (.bipush 9, 2) := by decide +kernel
theorem dX10_cost_3 : decode cX10_cost 3 = .ok (.if_icmp .ne 23, 3) := by decide +kernel
theorem dX10_cost_6 : decode cX10_cost 6 = .ok (.iload_n 3, 1) := by decide +kernel
theorem dX10_cost_7 : decode cX10_cost 7 = .ok (.ifCond .eq 10, 3) := by decide +kernel
theorem dX10_cost_10 : decode cX10_cost 10 = .ok (.aload_n 0, 1) := by decide +kernel
theorem dX10_cost_11 : decode cX10_cost 11 = .ok (.invokevirtual 57, 3) := by decide +kernel
theorem dX10_cost_14 : decode cX10_cost 14 = .ok (.goto 22, 3) := by decide +kernel
theorem dX10_cost_17 : decode cX10_cost 17 = .ok (.aload_n 0, 1) := by decide +kernel
theorem dX10_cost_18 : decode cX10_cost 18 = .ok (.getfield 7, 3) := by decide +kernel
theorem dX10_cost_21 : decode cX10_cost 21 = .ok (.iconst 2, 1) := by decide +kernel
theorem dX10_cost_22 : decode cX10_cost 22 = .ok (.iaload, 1) := by decide +kernel
theorem dX10_cost_23 : decode cX10_cost 23 = .ok (.goto 13, 3) := by decide +kernel
theorem dX10_cost_26 : decode cX10_cost 26 = .ok (.bipush 10, 2) := by decide +kernel
theorem dX10_cost_28 : decode cX10_cost 28 = .ok (.aload_n 0, 1) := by decide +kernel
theorem dX10_cost_29 : decode cX10_cost 29 = .ok (.iload_n 1, 1) := by decide +kernel
theorem dX10_cost_30 : decode cX10_cost 30 = .ok (.iload_n 2, 1) := by decide +kernel
theorem dX10_cost_31 : decode cX10_cost 31 = .ok (.iload_n 3, 1) := by decide +kernel
theorem dX10_cost_32 : decode cX10_cost 32 = .ok (.invokevirtual 97, 3) := by decide +kernel
theorem dX10_cost_35 : decode cX10_cost 35 = .ok (.iadd, 1) := by decide +kernel
theorem dX10_cost_36 : decode cX10_cost 36 = .ok (.ireturn, 1) := by decide +kernel
theorem dX10_bestWay_0 : decode cX10_bestWay 0 = .ok (.bipush 9, 2) := by decide +kernel
theorem dX10_bestWay_2 : decode cX10_bestWay 2 = .ok (.istore_n 3, 1) := by decide +kernel
theorem dX10_bestWay_3 : decode cX10_bestWay 3 = .ok (.aload_n 0, 1) := by decide +kernel
theorem dX10_bestWay_4 : decode cX10_bestWay 4 = .ok (.iload_n 1, 1) := by decide +kernel
theorem dX10_bestWay_5 : decode cX10_bestWay 5 = .ok (.invokevirtual 70, 3) := by decide +kernel
theorem dX10_bestWay_8 : decode cX10_bestWay 8 = .ok (.iconst 1, 1) := by decide +kernel
theorem dX10_bestWay_9 : decode cX10_bestWay 9 = .ok (.isub, 1) := by decide +kernel
theorem dX10_bestWay_10 : decode cX10_bestWay 10 = .ok (.istore 4, 2) := by decide +kernel
theorem dX10_bestWay_12 : decode cX10_bestWay 12 = .ok (.iload 4, 2) := by decide +kernel
theorem dX10_bestWay_14 : decode cX10_bestWay 14 = .ok (.ifCond .lt 48, 3) := by decide +kernel
theorem dX10_bestWay_17 : decode cX10_bestWay 17 = .ok (.aload_n 0, 1) := by decide +kernel
theorem dX10_bestWay_18 : decode cX10_bestWay 18 = .ok (.aload_n 0, 1) := by decide +kernel
theorem dX10_bestWay_19 : decode cX10_bestWay 19 = .ok (.iload_n 1, 1) := by decide +kernel
theorem dX10_bestWay_20 : decode cX10_bestWay 20 = .ok (.iload 4, 2) := by decide +kernel
theorem dX10_bestWay_22 : decode cX10_bestWay 22 = .ok (.invokevirtual 50, 3) := by decide +kernel
theorem dX10_bestWay_25 : decode cX10_bestWay 25 = .ok (.invokevirtual 44, 3) := by decide +kernel
theorem dX10_bestWay_28 : decode cX10_bestWay 28 = .ok (.ifCond .eq 26, 3) := by decide +kernel
theorem dX10_bestWay_31 : decode cX10_bestWay 31 = .ok (.aload_n 0, 1) := by decide +kernel
theorem dX10_bestWay_32 : decode cX10_bestWay 32 = .ok (.iload_n 1, 1) := by decide +kernel
theorem dX10_bestWay_33 : decode cX10_bestWay 33 = .ok (.iload 4, 2) := by decide +kernel
theorem dX10_bestWay_35 : decode cX10_bestWay 35 = .ok (.iload_n 2, 1) := by decide +kernel
theorem dX10_bestWay_36 : decode cX10_bestWay 36 = .ok (.invokevirtual 101, 3) := by decide +kernel
theorem dX10_bestWay_39 : decode cX10_bestWay 39 = .ok (.aload_n 0, 1) := by decide +kernel
theorem dX10_bestWay_40 : decode cX10_bestWay 40 = .ok (.iload_n 1, 1) := by decide +kernel
theorem dX10_bestWay_41 : decode cX10_bestWay 41 = .ok (.iload_n 3, 1) := by decide +kernel
theorem dX10_bestWay_42 : decode cX10_bestWay 42 = .ok (.iload_n 2, 1) := by decide +kernel
theorem dX10_bestWay_43 : decode cX10_bestWay 43 = .ok (.invokevirtual 101, 3) := by decide +kernel
theorem dX10_bestWay_46 : decode cX10_bestWay 46 = .ok (.if_icmp .gt 8, 3) := by decide +kernel
theorem dX10_bestWay_49 : decode cX10_bestWay 49 = .ok (.iload 4, 2) := by decide +kernel
theorem dX10_bestWay_51 : decode cX10_bestWay 51 = .ok (.goto 4, 3) := by decide +kernel
theorem dX10_bestWay_54 : decode cX10_bestWay 54 = .ok (.iload_n 3, 1) := by decide +kernel
theorem dX10_bestWay_55 : decode cX10_bestWay 55 = .ok (.istore_n 3, 1) := by decide +kernel
theorem dX10_bestWay_56 : decode cX10_bestWay 56 = .ok (.iinc 4 (-1), 3) := by decide +kernel
theorem dX10_bestWay_59 : decode cX10_bestWay 59 = .ok (.goto (-47), 3) := by decide +kernel
theorem dX10_bestWay_62 : decode cX10_bestWay 62 = .ok (.iload_n 3, 1) := by decide +kernel
theorem dX10_bestWay_63 : decode cX10_bestWay 63 = .ok (.ireturn, 1) := by decide +kernel
theorem dX10_ownClass_0 : decode cX10_ownClass 0 = .ok (.iconst 0, 1) := by decide +kernel
theorem dX10_ownClass_1 : decode cX10_ownClass 1 = .ok (.istore_n 2, 1) := by decide +kernel
theorem dX10_ownClass_2 : decode cX10_ownClass 2 = .ok (.aload_n 0, 1) := by decide +kernel
theorem dX10_ownClass_3 : decode cX10_ownClass 3 = .ok (.iload_n 1, 1) := by decide +kernel
theorem dX10_ownClass_4 : decode cX10_ownClass 4 = .ok (.invokevirtual 70, 3) := by decide +kernel
theorem dX10_ownClass_7 : decode cX10_ownClass 7 = .ok (.iconst 1, 1) := by decide +kernel
theorem dX10_ownClass_8 : decode cX10_ownClass 8 = .ok (.isub, 1) := by decide +kernel
theorem dX10_ownClass_9 : decode cX10_ownClass 9 = .ok (.istore_n 3, 1) := by decide +kernel
theorem dX10_ownClass_10 : decode cX10_ownClass 10 = .ok (.iload_n 3, 1) := by decide +kernel
theorem dX10_ownClass_11 : decode cX10_ownClass 11 = .ok (.ifCond .lt 80, 3) := by decide +kernel
theorem dX10_ownClass_14 : decode cX10_ownClass 14 = .ok (.aload_n 0, 1) := by decide +kernel
theorem dX10_ownClass_15 : decode cX10_ownClass 15 = .ok (.getfield 7, 3) := by decide +kernel
theorem dX10_ownClass_18 : decode cX10_ownClass 18 = .ok (.iconst 2, 1) := by decide +kernel
theorem dX10_ownClass_19 : decode cX10_ownClass 19 = .ok (.iaload, 1) := by decide +kernel
theorem dX10_ownClass_20 : decode cX10_ownClass 20 = .ok (.ifCond .ne 7, 3) := by decide +kernel
theorem dX10_ownClass_23 : decode cX10_ownClass 23 = .ok (.iconst 0, 1) := by decide +kernel
theorem dX10_ownClass_24 : decode cX10_ownClass 24 = .ok (.goto 21, 3) := by decide +kernel
theorem dX10_ownClass_27 : decode cX10_ownClass 27 = .ok (.sipush 1000, 3) := by decide +kernel
theorem dX10_ownClass_30 : decode cX10_ownClass 30 = .ok (.aload_n 0, 1) := by decide +kernel
theorem dX10_ownClass_31 : decode cX10_ownClass 31 = .ok (.iload_n 1, 1) := by decide +kernel
theorem dX10_ownClass_32 : decode cX10_ownClass 32 = .ok (.iload_n 3, 1) := by decide +kernel
theorem dX10_ownClass_33 : decode cX10_ownClass 33 = .ok (.iconst 0, 1) := by decide +kernel
theorem dX10_ownClass_34 : decode cX10_ownClass 34 = .ok (.invokevirtual 97, 3) := by decide +kernel
theorem dX10_ownClass_37 : decode cX10_ownClass 37 = .ok (.imul, 1) := by decide +kernel
theorem dX10_ownClass_38 : decode cX10_ownClass 38 = .ok (.aload_n 0, 1) := by decide +kernel
theorem dX10_ownClass_39 : decode cX10_ownClass 39 = .ok (.getfield 7, 3) := by decide +kernel
theorem dX10_ownClass_42 : decode cX10_ownClass 42 = .ok (.iconst 2, 1) := by decide +kernel
theorem dX10_ownClass_43 : decode cX10_ownClass 43 = .ok (.iaload, 1) := by decide +kernel
theorem dX10_ownClass_44 : decode cX10_ownClass 44 = .ok (.idiv, 1) := by decide +kernel
theorem dX10_ownClass_45 : decode cX10_ownClass 45 = .ok (.istore 4, 2) := by decide +kernel
theorem dX10_ownClass_47 : decode cX10_ownClass 47 = .ok (.iconst 3, 1) := by decide +kernel
theorem dX10_ownClass_48 : decode cX10_ownClass 48 = .ok (.iload_n 2, 1) := by decide +kernel
theorem dX10_ownClass_49 : decode cX10_ownClass 49 = .ok (.imul, 1) := by decide +kernel
theorem dX10_ownClass_50 : decode cX10_ownClass 50 = .ok (.iload 4, 2) := by decide +kernel
theorem dX10_ownClass_52 : decode cX10_ownClass 52 = .ok (.aload_n 0, 1) := by decide +kernel
theorem dX10_ownClass_53 : decode cX10_ownClass 53 = .ok (.getfield 7, 3) := by decide +kernel
theorem dX10_ownClass_56 : decode cX10_ownClass 56 = .ok (.bipush 11, 2) := by decide +kernel
theorem dX10_ownClass_58 : decode cX10_ownClass 58 = .ok (.iaload, 1) := by decide +kernel
theorem dX10_ownClass_59 : decode cX10_ownClass 59 = .ok (.if_icmp .ge 7, 3) := by decide +kernel
theorem dX10_ownClass_62 : decode cX10_ownClass 62 = .ok (.iconst 0, 1) := by decide +kernel
theorem dX10_ownClass_63 : decode cX10_ownClass 63 = .ok (.goto 20, 3) := by decide +kernel
theorem dX10_ownClass_66 : decode cX10_ownClass 66 = .ok (.iload 4, 2) := by decide +kernel
theorem dX10_ownClass_68 : decode cX10_ownClass 68 = .ok (.aload_n 0, 1) := by decide +kernel
theorem dX10_ownClass_69 : decode cX10_ownClass 69 = .ok (.getfield 7, 3) := by decide +kernel
theorem dX10_ownClass_72 : decode cX10_ownClass 72 = .ok (.bipush 12, 2) := by decide +kernel
theorem dX10_ownClass_74 : decode cX10_ownClass 74 = .ok (.iaload, 1) := by decide +kernel
theorem dX10_ownClass_75 : decode cX10_ownClass 75 = .ok (.if_icmp .ge 7, 3) := by decide +kernel
theorem dX10_ownClass_78 : decode cX10_ownClass 78 = .ok (.iconst 1, 1) := by decide +kernel
theorem dX10_ownClass_79 : decode cX10_ownClass 79 = .ok (.goto 4, 3) := by decide +kernel
theorem dX10_ownClass_82 : decode cX10_ownClass 82 = .ok (.iconst 2, 1) := by decide +kernel
theorem dX10_ownClass_83 : decode cX10_ownClass 83 = .ok (.iadd, 1) := by decide +kernel
theorem dX10_ownClass_84 : decode cX10_ownClass 84 = .ok (.istore_n 2, 1) := by decide +kernel
theorem dX10_ownClass_85 : decode cX10_ownClass 85 = .ok (.iinc 3 (-1), 3) := by decide +kernel
theorem dX10_ownClass_88 : decode cX10_ownClass 88 = .ok (.goto (-78), 3) := by decide +kernel
theorem dX10_ownClass_91 : decode cX10_ownClass 91 = .ok (.iload_n 2, 1) := by decide +kernel
theorem dX10_ownClass_92 : decode cX10_ownClass 92 = .ok (.ireturn, 1) := by decide +kernel
theorem dX10_ofPlan_0 : decode cX10_ofPlan 0 = .ok (.aload_n 0, 1) := by decide +kernel
theorem dX10_ofPlan_1 : decode cX10_ofPlan 1 = .ok (.getfield 7, 3) := by decide +kernel
theorem dX10_ofPlan_4 : decode cX10_ofPlan 4 = .ok (.sipush 367, 3) := by decide +kernel
theorem dX10_ofPlan_7 : decode cX10_ofPlan 7 = .ok (.bipush 9, 2) := by decide +kernel
theorem dX10_ofPlan_9 : decode cX10_ofPlan 9 = .ok (.iload_n 1, 1) := by decide +kernel
theorem dX10_ofPlan_10 : decode cX10_ofPlan 10 = .ok (.imul, 1) := by decide +kernel
theorem dX10_ofPlan_11 : decode cX10_ofPlan 11 = .ok (.iadd, 1) := by decide +kernel
theorem dX10_ofPlan_12 : decode cX10_ofPlan 12 = .ok (.iload_n 2, 1) := by decide +kernel
theorem dX10_ofPlan_13 : decode cX10_ofPlan 13 = .ok (.iadd, 1) := by decide +kernel
theorem dX10_ofPlan_14 : decode cX10_ofPlan 14 = .ok (.iaload, 1) := by decide +kernel
theorem dX10_ofPlan_15 : decode cX10_ofPlan 15 = .ok (.ireturn, 1) := by decide +kernel
theorem dX10_takesOut_0 : decode cX10_takesOut 0 = .ok (.aload_n 0, 1) := by decide +kernel
theorem dX10_takesOut_1 : decode cX10_takesOut 1 = .ok (.getfield 7, 3) := by decide +kernel
theorem dX10_takesOut_4 : decode cX10_takesOut 4 = .ok (.iconst 4, 1) := by decide +kernel
theorem dX10_takesOut_5 : decode cX10_takesOut 5 = .ok (.dup2, 1) := by decide +kernel
theorem dX10_takesOut_6 : decode cX10_takesOut 6 = .ok (.iaload, 1) := by decide +kernel
theorem dX10_takesOut_7 : decode cX10_takesOut 7 = .ok (.iconst 1, 1) := by decide +kernel
theorem dX10_takesOut_8 : decode cX10_takesOut 8 = .ok (.isub, 1) := by decide +kernel
theorem dX10_takesOut_9 : decode cX10_takesOut 9 = .ok (.iastore, 1) := by decide +kernel
theorem dX10_takesOut_10 : decode cX10_takesOut 10 = .ok (.sipush 367, 3) := by decide +kernel
theorem dX10_takesOut_13 : decode cX10_takesOut 13 = .ok (.bipush 9, 2) := by decide +kernel
theorem dX10_takesOut_15 : decode cX10_takesOut 15 = .ok (.iload_n 1, 1) := by decide +kernel
theorem dX10_takesOut_16 : decode cX10_takesOut 16 = .ok (.imul, 1) := by decide +kernel
theorem dX10_takesOut_17 : decode cX10_takesOut 17 = .ok (.iadd, 1) := by decide +kernel
theorem dX10_takesOut_18 : decode cX10_takesOut 18 = .ok (.istore_n 2, 1) := by decide +kernel
theorem dX10_takesOut_19 : decode cX10_takesOut 19 = .ok (.iload_n 2, 1) := by decide +kernel
theorem dX10_takesOut_20 : decode cX10_takesOut 20 = .ok (.sipush 367, 3) := by decide +kernel
theorem dX10_takesOut_23 : decode cX10_takesOut 23 = .ok (.bipush 9, 2) := by decide +kernel
theorem dX10_takesOut_25 : decode cX10_takesOut 25 = .ok (.aload_n 0, 1) := by decide +kernel
theorem dX10_takesOut_26 : decode cX10_takesOut 26 = .ok (.getfield 7, 3) := by decide +kernel
theorem dX10_takesOut_29 : decode cX10_takesOut 29 = .ok (.iconst 4, 1) := by decide +kernel
theorem dX10_takesOut_30 : decode cX10_takesOut 30 = .ok (.iaload, 1) := by decide +kernel
theorem dX10_takesOut_31 : decode cX10_takesOut 31 = .ok (.imul, 1) := by decide +kernel
theorem dX10_takesOut_32 : decode cX10_takesOut 32 = .ok (.iadd, 1) := by decide +kernel
theorem dX10_takesOut_33 : decode cX10_takesOut 33 = .ok (.if_icmp .ge 24, 3) := by decide +kernel
theorem dX10_takesOut_36 : decode cX10_takesOut 36 = .ok (.aload_n 0, 1) := by decide +kernel
theorem dX10_takesOut_37 : decode cX10_takesOut 37 = .ok (.getfield 7, 3) := by decide +kernel
theorem dX10_takesOut_40 : decode cX10_takesOut 40 = .ok (.iload_n 2, 1) := by decide +kernel
theorem dX10_takesOut_41 : decode cX10_takesOut 41 = .ok (.aload_n 0, 1) := by decide +kernel
theorem dX10_takesOut_42 : decode cX10_takesOut 42 = .ok (.getfield 7, 3) := by decide +kernel
theorem dX10_takesOut_45 : decode cX10_takesOut 45 = .ok (.iload_n 2, 1) := by decide +kernel
theorem dX10_takesOut_46 : decode cX10_takesOut 46 = .ok (.bipush 9, 2) := by decide +kernel
theorem dX10_takesOut_48 : decode cX10_takesOut 48 = .ok (.iadd, 1) := by decide +kernel
theorem dX10_takesOut_49 : decode cX10_takesOut 49 = .ok (.iaload, 1) := by decide +kernel
theorem dX10_takesOut_50 : decode cX10_takesOut 50 = .ok (.iastore, 1) := by decide +kernel
theorem dX10_takesOut_51 : decode cX10_takesOut 51 = .ok (.iinc 2 1, 3) := by decide +kernel
theorem dX10_takesOut_54 : decode cX10_takesOut 54 = .ok (.goto (-35), 3) := by decide +kernel
theorem dX10_takesOut_57 : decode cX10_takesOut 57 = .ok (.return_, 1) := by decide +kernel
theorem dX10_placeOf_0 : decode cX10_placeOf 0 = .ok (.bipush (-4), 2) := by decide +kernel
theorem dX10_placeOf_2 : decode cX10_placeOf 2 = .ok (.istore_n 2, 1) := by decide +kernel
theorem dX10_placeOf_3 : decode cX10_placeOf 3 = .ok (.iconst 0, 1) := by decide +kernel
theorem dX10_placeOf_4 : decode cX10_placeOf 4 = .ok (.istore_n 3, 1) := by decide +kernel
theorem dX10_placeOf_5 : decode cX10_placeOf 5 = .ok (.iload_n 3, 1) := by decide +kernel
theorem dX10_placeOf_6 : decode cX10_placeOf 6 = .ok (.aload_n 0, 1) := by decide +kernel
theorem dX10_placeOf_7 : decode cX10_placeOf 7 = .ok (.getfield 7, 3) := by decide +kernel
theorem dX10_placeOf_10 : decode cX10_placeOf 10 = .ok (.iconst 4, 1) := by decide +kernel
theorem dX10_placeOf_11 : decode cX10_placeOf 11 = .ok (.iaload, 1) := by decide +kernel
theorem dX10_placeOf_12 : decode cX10_placeOf 12 = .ok (.if_icmp .ge 25, 3) := by decide +kernel
theorem dX10_placeOf_15 : decode cX10_placeOf 15 = .ok (.aload_n 0, 1) := by decide +kernel
theorem dX10_placeOf_16 : decode cX10_placeOf 16 = .ok (.iload_n 3, 1) := by decide +kernel
theorem dX10_placeOf_17 : decode cX10_placeOf 17 = .ok (.iconst 0, 1) := by decide +kernel
theorem dX10_placeOf_18 : decode cX10_placeOf 18 = .ok (.invokevirtual 47, 3) := by decide +kernel
theorem dX10_placeOf_21 : decode cX10_placeOf 21 = .ok (.iload_n 1, 1) := by decide +kernel
theorem dX10_placeOf_22 : decode cX10_placeOf 22 = .ok (.if_icmp .ne 7, 3) := by decide +kernel
theorem dX10_placeOf_25 : decode cX10_placeOf 25 = .ok (.iload_n 3, 1) := by decide +kernel
theorem dX10_placeOf_26 : decode cX10_placeOf 26 = .ok (.goto 4, 3) := by decide +kernel
theorem dX10_placeOf_29 : decode cX10_placeOf 29 = .ok (.iload_n 2, 1) := by decide +kernel
theorem dX10_placeOf_30 : decode cX10_placeOf 30 = .ok (.istore_n 2, 1) := by decide +kernel
theorem dX10_placeOf_31 : decode cX10_placeOf 31 = .ok (.iinc 3 1, 3) := by decide +kernel
theorem dX10_placeOf_34 : decode cX10_placeOf 34 = .ok (.goto (-29), 3) := by decide +kernel
theorem dX10_placeOf_37 : decode cX10_placeOf 37 = .ok (.iload_n 2, 1) := by decide +kernel
theorem dX10_placeOf_38 : decode cX10_placeOf 38 = .ok (.ireturn, 1) := by decide +kernel
theorem dX10_placeFor_0 : decode cX10_placeFor 0 = .ok (.bipush (-4), 2) := by decide +kernel
theorem dX10_placeFor_2 : decode cX10_placeFor 2 = .ok (.istore_n 3, 1) := by decide +kernel
theorem dX10_placeFor_3 : decode cX10_placeFor 3 = .ok (.iconst 0, 1) := by decide +kernel
theorem dX10_placeFor_4 : decode cX10_placeFor 4 = .ok (.istore 4, 2) := by decide +kernel
theorem dX10_placeFor_6 : decode cX10_placeFor 6 = .ok (.iload 4, 2) := by decide +kernel
theorem dX10_placeFor_8 : decode cX10_placeFor 8 = .ok (.aload_n 0, 1) := by decide +kernel
theorem dX10_placeFor_9 : decode cX10_placeFor 9 = .ok (.getfield 7, 3) := by decide +kernel
theorem dX10_placeFor_12 : decode cX10_placeFor 12 = .ok (.iconst 4, 1) := by decide +kernel
theorem dX10_placeFor_13 : decode cX10_placeFor 13 = .ok (.iaload, 1) := by decide +kernel
theorem dX10_placeFor_14 : decode cX10_placeFor 14 = .ok (.if_icmp .ge 38, 3) := by decide +kernel
theorem dX10_placeFor_17 : decode cX10_placeFor 17 = .ok (.aload_n 0, 1) := by decide +kernel
theorem dX10_placeFor_18 : decode cX10_placeFor 18 = .ok (.iload 4, 2) := by decide +kernel
theorem dX10_placeFor_20 : decode cX10_placeFor 20 = .ok (.iconst 1, 1) := by decide +kernel
theorem dX10_placeFor_21 : decode cX10_placeFor 21 = .ok (.invokevirtual 47, 3) := by decide +kernel
theorem dX10_placeFor_24 : decode cX10_placeFor 24 = .ok (.iload_n 1, 1) := by decide +kernel
theorem dX10_placeFor_25 : decode cX10_placeFor 25 = .ok (.if_icmp .ne 19, 3) := by decide +kernel
theorem dX10_placeFor_28 : decode cX10_placeFor 28 = .ok (.aload_n 0, 1) := by decide +kernel
theorem dX10_placeFor_29 : decode cX10_placeFor 29 = .ok (.iload 4, 2) := by decide +kernel
theorem dX10_placeFor_31 : decode cX10_placeFor 31 = .ok (.iconst 2, 1) := by decide +kernel
theorem dX10_placeFor_32 : decode cX10_placeFor 32 = .ok (.invokevirtual 47, 3) := by decide +kernel
theorem dX10_placeFor_35 : decode cX10_placeFor 35 = .ok (.iload_n 2, 1) := by decide +kernel
theorem dX10_placeFor_36 : decode cX10_placeFor 36 = .ok (.if_icmp .ne 8, 3) := by decide +kernel
theorem dX10_placeFor_39 : decode cX10_placeFor 39 = .ok (.iload 4, 2) := by decide +kernel
theorem dX10_placeFor_41 : decode cX10_placeFor 41 = .ok (.goto 4, 3) := by decide +kernel
theorem dX10_placeFor_44 : decode cX10_placeFor 44 = .ok (.iload_n 3, 1) := by decide +kernel
theorem dX10_placeFor_45 : decode cX10_placeFor 45 = .ok (.istore_n 3, 1) := by decide +kernel
theorem dX10_placeFor_46 : decode cX10_placeFor 46 = .ok (.iinc 4 1, 3) := by decide +kernel
theorem dX10_placeFor_49 : decode cX10_placeFor 49 = .ok (.goto (-43), 3) := by decide +kernel
theorem dX10_placeFor_52 : decode cX10_placeFor 52 = .ok (.iload_n 3, 1) := by decide +kernel
theorem dX10_placeFor_53 : decode cX10_placeFor 53 = .ok (.ireturn, 1) := by decide +kernel
theorem dX10_isAhead_0 : decode cX10_isAhead 0 = .ok (.aload_n 0, 1) := by decide +kernel
theorem dX10_isAhead_1 : decode cX10_isAhead 1 = .ok (.iload_n 1, 1) := by decide +kernel
theorem dX10_isAhead_2 : decode cX10_isAhead 2 = .ok (.iconst 5, 1) := by decide +kernel
theorem dX10_isAhead_3 : decode cX10_isAhead 3 = .ok (.invokevirtual 47, 3) := by decide +kernel
theorem dX10_isAhead_6 : decode cX10_isAhead 6 = .ok (.aload_n 0, 1) := by decide +kernel
theorem dX10_isAhead_7 : decode cX10_isAhead 7 = .ok (.iload_n 2, 1) := by decide +kernel
theorem dX10_isAhead_8 : decode cX10_isAhead 8 = .ok (.iconst 5, 1) := by decide +kernel
theorem dX10_isAhead_9 : decode cX10_isAhead 9 = .ok (.invokevirtual 47, 3) := by decide +kernel
theorem dX10_isAhead_12 : decode cX10_isAhead 12 = .ok (.isub, 1) := by decide +kernel
theorem dX10_isAhead_13 : decode cX10_isAhead 13 = .ok (.istore_n 3, 1) := by decide +kernel
theorem dX10_isAhead_14 : decode cX10_isAhead 14 = .ok (.iload_n 3, 1) := by decide +kernel
theorem dX10_isAhead_15 : decode cX10_isAhead 15 = .ok (.ifCond .lt 24, 3) := by decide +kernel
theorem dX10_isAhead_18 : decode cX10_isAhead 18 = .ok (.iload_n 3, 1) := by decide +kernel
theorem dX10_isAhead_19 : decode cX10_isAhead 19 = .ok (.ifCond .ne 24, 3) := by decide +kernel
theorem dX10_isAhead_22 : decode cX10_isAhead 22 = .ok (.aload_n 0, 1) := by decide +kernel
theorem dX10_isAhead_23 : decode cX10_isAhead 23 = .ok (.iload_n 1, 1) := by decide +kernel
theorem dX10_isAhead_24 : decode cX10_isAhead 24 = .ok (.bipush 8, 2) := by decide +kernel
theorem dX10_isAhead_26 : decode cX10_isAhead 26 = .ok (.invokevirtual 47, 3) := by decide +kernel
theorem dX10_isAhead_29 : decode cX10_isAhead 29 = .ok (.aload_n 0, 1) := by decide +kernel
theorem dX10_isAhead_30 : decode cX10_isAhead 30 = .ok (.iload_n 2, 1) := by decide +kernel
theorem dX10_isAhead_31 : decode cX10_isAhead 31 = .ok (.bipush 8, 2) := by decide +kernel
theorem dX10_isAhead_33 : decode cX10_isAhead 33 = .ok (.invokevirtual 47, 3) := by decide +kernel
theorem dX10_isAhead_36 : decode cX10_isAhead 36 = .ok (.if_icmp .ge 7, 3) := by decide +kernel
theorem dX10_isAhead_39 : decode cX10_isAhead 39 = .ok (.iconst 1, 1) := by decide +kernel
theorem dX10_isAhead_40 : decode cX10_isAhead 40 = .ok (.goto 4, 3) := by decide +kernel
theorem dX10_isAhead_43 : decode cX10_isAhead 43 = .ok (.iconst 0, 1) := by decide +kernel
theorem dX10_isAhead_44 : decode cX10_isAhead 44 = .ok (.ireturn, 1) := by decide +kernel
theorem dX10_dropsAt_0 : decode cX10_dropsAt 0 = .ok (.bipush (-4), 2) := by decide +kernel
theorem dX10_dropsAt_2 : decode cX10_dropsAt 2 = .ok (.istore_n 2, 1) := by decide +kernel
theorem dX10_dropsAt_3 : decode cX10_dropsAt 3 = .ok (.iconst 0, 1) := by decide +kernel
theorem dX10_dropsAt_4 : decode cX10_dropsAt 4 = .ok (.istore_n 3, 1) := by decide +kernel
theorem dX10_dropsAt_5 : decode cX10_dropsAt 5 = .ok (.iload_n 3, 1) := by decide +kernel
theorem dX10_dropsAt_6 : decode cX10_dropsAt 6 = .ok (.aload_n 0, 1) := by decide +kernel
theorem dX10_dropsAt_7 : decode cX10_dropsAt 7 = .ok (.getfield 7, 3) := by decide +kernel
theorem dX10_dropsAt_10 : decode cX10_dropsAt 10 = .ok (.iconst 4, 1) := by decide +kernel
theorem dX10_dropsAt_11 : decode cX10_dropsAt 11 = .ok (.iaload, 1) := by decide +kernel
theorem dX10_dropsAt_12 : decode cX10_dropsAt 12 = .ok (.if_icmp .ge 85, 3) := by decide +kernel
theorem dX10_dropsAt_15 : decode cX10_dropsAt 15 = .ok (.iconst 0, 1) := by decide +kernel
theorem dX10_dropsAt_16 : decode cX10_dropsAt 16 = .ok (.istore 4, 2) := by decide +kernel
theorem dX10_dropsAt_18 : decode cX10_dropsAt 18 = .ok (.iconst 0, 1) := by decide +kernel
theorem dX10_dropsAt_19 : decode cX10_dropsAt 19 = .ok (.istore 5, 2) := by decide +kernel
theorem dX10_dropsAt_21 : decode cX10_dropsAt 21 = .ok (.iload 5, 2) := by decide +kernel
theorem dX10_dropsAt_23 : decode cX10_dropsAt 23 = .ok (.aload_n 0, 1) := by decide +kernel
theorem dX10_dropsAt_24 : decode cX10_dropsAt 24 = .ok (.getfield 7, 3) := by decide +kernel
theorem dX10_dropsAt_27 : decode cX10_dropsAt 27 = .ok (.iconst 4, 1) := by decide +kernel
theorem dX10_dropsAt_28 : decode cX10_dropsAt 28 = .ok (.iaload, 1) := by decide +kernel
theorem dX10_dropsAt_29 : decode cX10_dropsAt 29 = .ok (.if_icmp .ge 40, 3) := by decide +kernel
theorem dX10_dropsAt_32 : decode cX10_dropsAt 32 = .ok (.iload 4, 2) := by decide +kernel
theorem dX10_dropsAt_34 : decode cX10_dropsAt 34 = .ok (.aload_n 0, 1) := by decide +kernel
theorem dX10_dropsAt_35 : decode cX10_dropsAt 35 = .ok (.iload 5, 2) := by decide +kernel
theorem dX10_dropsAt_37 : decode cX10_dropsAt 37 = .ok (.bipush 7, 2) := by decide +kernel
theorem dX10_dropsAt_39 : decode cX10_dropsAt 39 = .ok (.invokevirtual 47, 3) := by decide +kernel
theorem dX10_dropsAt_42 : decode cX10_dropsAt 42 = .ok (.ifCond .ne 17, 3) := by decide +kernel
theorem dX10_dropsAt_45 : decode cX10_dropsAt 45 = .ok (.aload_n 0, 1) := by decide +kernel
theorem dX10_dropsAt_46 : decode cX10_dropsAt 46 = .ok (.iload 5, 2) := by decide +kernel
theorem dX10_dropsAt_48 : decode cX10_dropsAt 48 = .ok (.iload_n 3, 1) := by decide +kernel
theorem dX10_dropsAt_49 : decode cX10_dropsAt 49 = .ok (.invokevirtual 104, 3) := by decide +kernel
theorem dX10_dropsAt_52 : decode cX10_dropsAt 52 = .ok (.ifCond .eq 7, 3) := by decide +kernel
theorem dX10_dropsAt_55 : decode cX10_dropsAt 55 = .ok (.iconst 1, 1) := by decide +kernel
theorem dX10_dropsAt_56 : decode cX10_dropsAt 56 = .ok (.goto 4, 3) := by decide +kernel
theorem dX10_dropsAt_59 : decode cX10_dropsAt 59 = .ok (.iconst 0, 1) := by decide +kernel
theorem dX10_dropsAt_60 : decode cX10_dropsAt 60 = .ok (.iadd, 1) := by decide +kernel
theorem dX10_dropsAt_61 : decode cX10_dropsAt 61 = .ok (.istore 4, 2) := by decide +kernel
theorem dX10_dropsAt_63 : decode cX10_dropsAt 63 = .ok (.iinc 5 1, 3) := by decide +kernel
theorem dX10_dropsAt_66 : decode cX10_dropsAt 66 = .ok (.goto (-45), 3) := by decide +kernel
theorem dX10_dropsAt_69 : decode cX10_dropsAt 69 = .ok (.aload_n 0, 1) := by decide +kernel
theorem dX10_dropsAt_70 : decode cX10_dropsAt 70 = .ok (.iload_n 3, 1) := by decide +kernel
theorem dX10_dropsAt_71 : decode cX10_dropsAt 71 = .ok (.bipush 7, 2) := by decide +kernel
theorem dX10_dropsAt_73 : decode cX10_dropsAt 73 = .ok (.invokevirtual 47, 3) := by decide +kernel
theorem dX10_dropsAt_76 : decode cX10_dropsAt 76 = .ok (.ifCond .ne 13, 3) := by decide +kernel
theorem dX10_dropsAt_79 : decode cX10_dropsAt 79 = .ok (.iload 4, 2) := by decide +kernel
theorem dX10_dropsAt_81 : decode cX10_dropsAt 81 = .ok (.iload_n 1, 1) := by decide +kernel
theorem dX10_dropsAt_82 : decode cX10_dropsAt 82 = .ok (.if_icmp .ne 7, 3) := by decide +kernel
theorem dX10_dropsAt_85 : decode cX10_dropsAt 85 = .ok (.iload_n 3, 1) := by decide +kernel
theorem dX10_dropsAt_86 : decode cX10_dropsAt 86 = .ok (.goto 4, 3) := by decide +kernel
theorem dX10_dropsAt_89 : decode cX10_dropsAt 89 = .ok (.iload_n 2, 1) := by decide +kernel
theorem dX10_dropsAt_90 : decode cX10_dropsAt 90 = .ok (.istore_n 2, 1) := by decide +kernel
theorem dX10_dropsAt_91 : decode cX10_dropsAt 91 = .ok (.iinc 3 1, 3) := by decide +kernel
theorem dX10_dropsAt_94 : decode cX10_dropsAt 94 = .ok (.goto (-89), 3) := by decide +kernel
theorem dX10_dropsAt_97 : decode cX10_dropsAt 97 = .ok (.iload_n 2, 1) := by decide +kernel
theorem dX10_dropsAt_98 : decode cX10_dropsAt 98 = .ok (.ireturn, 1) := by decide +kernel
theorem dX10_clears_0 : decode cX10_clears 0 = .ok (.bipush (-4), 2) := by decide +kernel
theorem dX10_clears_2 : decode cX10_clears 2 = .ok (.istore_n 1, 1) := by decide +kernel
theorem dX10_clears_3 : decode cX10_clears 3 = .ok (.aload_n 0, 1) := by decide +kernel
theorem dX10_clears_4 : decode cX10_clears 4 = .ok (.iconst 0, 1) := by decide +kernel
theorem dX10_clears_5 : decode cX10_clears 5 = .ok (.invokevirtual 108, 3) := by decide +kernel
theorem dX10_clears_8 : decode cX10_clears 8 = .ok (.istore_n 2, 1) := by decide +kernel
theorem dX10_clears_9 : decode cX10_clears 9 = .ok (.aload_n 0, 1) := by decide +kernel
theorem dX10_clears_10 : decode cX10_clears 10 = .ok (.getfield 7, 3) := by decide +kernel
theorem dX10_clears_13 : decode cX10_clears 13 = .ok (.iconst 4, 1) := by decide +kernel
theorem dX10_clears_14 : decode cX10_clears 14 = .ok (.iaload, 1) := by decide +kernel
theorem dX10_clears_15 : decode cX10_clears 15 = .ok (.aload_n 0, 1) := by decide +kernel
theorem dX10_clears_16 : decode cX10_clears 16 = .ok (.getfield 7, 3) := by decide +kernel
theorem dX10_clears_19 : decode cX10_clears 19 = .ok (.bipush 15, 2) := by decide +kernel
theorem dX10_clears_21 : decode cX10_clears 21 = .ok (.iaload, 1) := by decide +kernel
theorem dX10_clears_22 : decode cX10_clears 22 = .ok (.if_icmp .lt 47, 3) := by decide +kernel
theorem dX10_clears_25 : decode cX10_clears 25 = .ok (.iload_n 2, 1) := by decide +kernel
theorem dX10_clears_26 : decode cX10_clears 26 = .ok (.ifCond .lt 43, 3) := by decide +kernel
theorem dX10_clears_29 : decode cX10_clears 29 = .ok (.iload_n 1, 1) := by decide +kernel
theorem dX10_clears_30 : decode cX10_clears 30 = .ok (.ifCond .ge 12, 3) := by decide +kernel
theorem dX10_clears_33 : decode cX10_clears 33 = .ok (.aload_n 0, 1) := by decide +kernel
theorem dX10_clears_34 : decode cX10_clears 34 = .ok (.iload_n 2, 1) := by decide +kernel
theorem dX10_clears_35 : decode cX10_clears 35 = .ok (.iconst 0, 1) := by decide +kernel
theorem dX10_clears_36 : decode cX10_clears 36 = .ok (.invokevirtual 47, 3) := by decide +kernel
theorem dX10_clears_39 : decode cX10_clears 39 = .ok (.goto 4, 3) := by decide +kernel
theorem dX10_clears_42 : decode cX10_clears 42 = .ok (.iload_n 1, 1) := by decide +kernel
theorem dX10_clears_43 : decode cX10_clears 43 = .ok (.istore_n 1, 1) := by decide +kernel
theorem dX10_clears_44 : decode cX10_clears 44 = .ok (.aload_n 0, 1) := by decide +kernel
theorem dX10_clears_45 : decode cX10_clears 45 = .ok (.iload_n 2, 1) := by decide +kernel
theorem dX10_clears_46 : decode cX10_clears 46 = .ok (.invokevirtual 53, 3) := by decide +kernel
theorem dX10_clears_49 : decode cX10_clears 49 = .ok (.aload_n 0, 1) := by decide +kernel
theorem dX10_clears_50 : decode cX10_clears 50 = .ok (.getfield 7, 3) := by decide +kernel
theorem dX10_clears_53 : decode cX10_clears 53 = .ok (.bipush 8, 2) := by decide +kernel
theorem dX10_clears_55 : decode cX10_clears 55 = .ok (.dup2, 1) := by decide +kernel
theorem dX10_clears_56 : decode cX10_clears 56 = .ok (.iaload, 1) := by decide +kernel
theorem dX10_clears_57 : decode cX10_clears 57 = .ok (.iconst 1, 1) := by decide +kernel
theorem dX10_clears_58 : decode cX10_clears 58 = .ok (.iadd, 1) := by decide +kernel
theorem dX10_clears_59 : decode cX10_clears 59 = .ok (.iastore, 1) := by decide +kernel
theorem dX10_clears_60 : decode cX10_clears 60 = .ok (.aload_n 0, 1) := by decide +kernel
theorem dX10_clears_61 : decode cX10_clears 61 = .ok (.iconst 0, 1) := by decide +kernel
theorem dX10_clears_62 : decode cX10_clears 62 = .ok (.invokevirtual 108, 3) := by decide +kernel
theorem dX10_clears_65 : decode cX10_clears 65 = .ok (.istore_n 2, 1) := by decide +kernel
theorem dX10_clears_66 : decode cX10_clears 66 = .ok (.goto (-57), 3) := by decide +kernel
theorem dX10_clears_69 : decode cX10_clears 69 = .ok (.iload_n 1, 1) := by decide +kernel
theorem dX10_clears_70 : decode cX10_clears 70 = .ok (.ireturn, 1) := by decide +kernel
theorem dX10_tells_0 : decode cX10_tells 0 = .ok (.aload_n 0, 1) := by decide +kernel
theorem dX10_tells_1 : decode cX10_tells 1 = .ok (.getfield 7, 3) := by decide +kernel
theorem dX10_tells_4 : decode cX10_tells 4 = .ok (.bipush 21, 2) := by decide +kernel
theorem dX10_tells_6 : decode cX10_tells 6 = .ok (.iload_n 1, 1) := by decide +kernel
theorem dX10_tells_7 : decode cX10_tells 7 = .ok (.iastore, 1) := by decide +kernel
theorem dX10_tells_8 : decode cX10_tells 8 = .ok (.aload_n 0, 1) := by decide +kernel
theorem dX10_tells_9 : decode cX10_tells 9 = .ok (.getfield 7, 3) := by decide +kernel
theorem dX10_tells_12 : decode cX10_tells 12 = .ok (.bipush 22, 2) := by decide +kernel
theorem dX10_tells_14 : decode cX10_tells 14 = .ok (.iload_n 2, 1) := by decide +kernel
theorem dX10_tells_15 : decode cX10_tells 15 = .ok (.iastore, 1) := by decide +kernel
theorem dX10_tells_16 : decode cX10_tells 16 = .ok (.aload_n 0, 1) := by decide +kernel
theorem dX10_tells_17 : decode cX10_tells 17 = .ok (.getfield 7, 3) := by decide +kernel
theorem dX10_tells_20 : decode cX10_tells 20 = .ok (.bipush 23, 2) := by decide +kernel
theorem dX10_tells_22 : decode cX10_tells 22 = .ok (.iload_n 3, 1) := by decide +kernel
theorem dX10_tells_23 : decode cX10_tells 23 = .ok (.iastore, 1) := by decide +kernel
theorem dX10_tells_24 : decode cX10_tells 24 = .ok (.aload_n 0, 1) := by decide +kernel
theorem dX10_tells_25 : decode cX10_tells 25 = .ok (.getfield 7, 3) := by decide +kernel
theorem dX10_tells_28 : decode cX10_tells 28 = .ok (.bipush 24, 2) := by decide +kernel
theorem dX10_tells_30 : decode cX10_tells 30 = .ok (.iload 4, 2) := by decide +kernel
theorem dX10_tells_32 : decode cX10_tells 32 = .ok (.iastore, 1) := by decide +kernel
theorem dX10_tells_33 : decode cX10_tells 33 = .ok (.aload_n 0, 1) := by decide +kernel
theorem dX10_tells_34 : decode cX10_tells 34 = .ok (.getfield 7, 3) := by decide +kernel
theorem dX10_tells_37 : decode cX10_tells 37 = .ok (.bipush 25, 2) := by decide +kernel
theorem dX10_tells_39 : decode cX10_tells 39 = .ok (.iload 5, 2) := by decide +kernel
theorem dX10_tells_41 : decode cX10_tells 41 = .ok (.iastore, 1) := by decide +kernel
theorem dX10_tells_42 : decode cX10_tells 42 = .ok (.aload_n 0, 1) := by decide +kernel
theorem dX10_tells_43 : decode cX10_tells 43 = .ok (.getfield 7, 3) := by decide +kernel
theorem dX10_tells_46 : decode cX10_tells 46 = .ok (.bipush 26, 2) := by decide +kernel
theorem dX10_tells_48 : decode cX10_tells 48 = .ok (.iload 6, 2) := by decide +kernel
theorem dX10_tells_50 : decode cX10_tells 50 = .ok (.iastore, 1) := by decide +kernel
theorem dX10_tells_51 : decode cX10_tells 51 = .ok (.return_, 1) := by decide +kernel
theorem dX10_keeps_0 : decode cX10_keeps 0 = .ok (.aload_n 0, 1) := by decide +kernel
theorem dX10_keeps_1 : decode cX10_keeps 1 = .ok (.getfield 7, 3) := by decide +kernel
theorem dX10_keeps_4 : decode cX10_keeps 4 = .ok (.iconst 4, 1) := by decide +kernel
theorem dX10_keeps_5 : decode cX10_keeps 5 = .ok (.iaload, 1) := by decide +kernel
theorem dX10_keeps_6 : decode cX10_keeps 6 = .ok (.aload_n 0, 1) := by decide +kernel
theorem dX10_keeps_7 : decode cX10_keeps 7 = .ok (.getfield 7, 3) := by decide +kernel
theorem dX10_keeps_10 : decode cX10_keeps 10 = .ok (.bipush 15, 2) := by decide +kernel
theorem dX10_keeps_12 : decode cX10_keeps 12 = .ok (.iaload, 1) := by decide +kernel
theorem dX10_keeps_13 : decode cX10_keeps 13 = .ok (.if_icmp .lt 6, 3) := by decide +kernel
theorem dX10_keeps_16 : decode cX10_keeps 16 = .ok (.bipush (-4), 2) := by decide +kernel
theorem dX10_keeps_18 : decode cX10_keeps 18 = .ok (.ireturn, 1) := by decide +kernel
theorem dX10_keeps_19 : decode cX10_keeps 19 = .ok (.sipush 367, 3) := by decide +kernel
theorem dX10_keeps_22 : decode cX10_keeps 22 = .ok (.bipush 9, 2) := by decide +kernel
theorem dX10_keeps_24 : decode cX10_keeps 24 = .ok (.aload_n 0, 1) := by decide +kernel
theorem dX10_keeps_25 : decode cX10_keeps 25 = .ok (.getfield 7, 3) := by decide +kernel
theorem dX10_keeps_28 : decode cX10_keeps 28 = .ok (.iconst 4, 1) := by decide +kernel
theorem dX10_keeps_29 : decode cX10_keeps 29 = .ok (.iaload, 1) := by decide +kernel
theorem dX10_keeps_30 : decode cX10_keeps 30 = .ok (.imul, 1) := by decide +kernel
theorem dX10_keeps_31 : decode cX10_keeps 31 = .ok (.iadd, 1) := by decide +kernel
theorem dX10_keeps_32 : decode cX10_keeps 32 = .ok (.istore 5, 2) := by decide +kernel
theorem dX10_keeps_34 : decode cX10_keeps 34 = .ok (.aload_n 0, 1) := by decide +kernel
theorem dX10_keeps_35 : decode cX10_keeps 35 = .ok (.getfield 7, 3) := by decide +kernel
theorem dX10_keeps_38 : decode cX10_keeps 38 = .ok (.iload 5, 2) := by decide +kernel
theorem dX10_keeps_40 : decode cX10_keeps 40 = .ok (.iconst 0, 1) := by decide +kernel
theorem dX10_keeps_41 : decode cX10_keeps 41 = .ok (.iadd, 1) := by decide +kernel
theorem dX10_keeps_42 : decode cX10_keeps 42 = .ok (.aload_n 0, 1) := by decide +kernel
theorem dX10_keeps_43 : decode cX10_keeps 43 = .ok (.getfield 7, 3) := by decide +kernel
theorem dX10_keeps_46 : decode cX10_keeps 46 = .ok (.iconst 5, 1) := by decide +kernel
theorem dX10_keeps_47 : decode cX10_keeps 47 = .ok (.iaload, 1) := by decide +kernel
theorem dX10_keeps_48 : decode cX10_keeps 48 = .ok (.iastore, 1) := by decide +kernel
theorem dX10_keeps_49 : decode cX10_keeps 49 = .ok (.aload_n 0, 1) := by decide +kernel
theorem dX10_keeps_50 : decode cX10_keeps 50 = .ok (.getfield 7, 3) := by decide +kernel
theorem dX10_keeps_53 : decode cX10_keeps 53 = .ok (.iload 5, 2) := by decide +kernel
theorem dX10_keeps_55 : decode cX10_keeps 55 = .ok (.iconst 1, 1) := by decide +kernel
theorem dX10_keeps_56 : decode cX10_keeps 56 = .ok (.iadd, 1) := by decide +kernel
theorem dX10_keeps_57 : decode cX10_keeps 57 = .ok (.iload_n 1, 1) := by decide +kernel
theorem dX10_keeps_58 : decode cX10_keeps 58 = .ok (.iastore, 1) := by decide +kernel
theorem dX10_keeps_59 : decode cX10_keeps 59 = .ok (.aload_n 0, 1) := by decide +kernel
theorem dX10_keeps_60 : decode cX10_keeps 60 = .ok (.getfield 7, 3) := by decide +kernel
theorem dX10_keeps_63 : decode cX10_keeps 63 = .ok (.iload 5, 2) := by decide +kernel
theorem dX10_keeps_65 : decode cX10_keeps 65 = .ok (.iconst 2, 1) := by decide +kernel
theorem dX10_keeps_66 : decode cX10_keeps 66 = .ok (.iadd, 1) := by decide +kernel
theorem dX10_keeps_67 : decode cX10_keeps 67 = .ok (.iload_n 2, 1) := by decide +kernel
theorem dX10_keeps_68 : decode cX10_keeps 68 = .ok (.iastore, 1) := by decide +kernel
theorem dX10_keeps_69 : decode cX10_keeps 69 = .ok (.aload_n 0, 1) := by decide +kernel
theorem dX10_keeps_70 : decode cX10_keeps 70 = .ok (.getfield 7, 3) := by decide +kernel
theorem dX10_keeps_73 : decode cX10_keeps 73 = .ok (.iload 5, 2) := by decide +kernel
theorem dX10_keeps_75 : decode cX10_keeps 75 = .ok (.iconst 3, 1) := by decide +kernel
theorem dX10_keeps_76 : decode cX10_keeps 76 = .ok (.iadd, 1) := by decide +kernel
theorem dX10_keeps_77 : decode cX10_keeps 77 = .ok (.iload_n 3, 1) := by decide +kernel
theorem dX10_keeps_78 : decode cX10_keeps 78 = .ok (.iastore, 1) := by decide +kernel
theorem dX10_keeps_79 : decode cX10_keeps 79 = .ok (.aload_n 0, 1) := by decide +kernel
theorem dX10_keeps_80 : decode cX10_keeps 80 = .ok (.getfield 7, 3) := by decide +kernel
theorem dX10_keeps_83 : decode cX10_keeps 83 = .ok (.iload 5, 2) := by decide +kernel
theorem dX10_keeps_85 : decode cX10_keeps 85 = .ok (.iconst 4, 1) := by decide +kernel
theorem dX10_keeps_86 : decode cX10_keeps 86 = .ok (.iadd, 1) := by decide +kernel
theorem dX10_keeps_87 : decode cX10_keeps 87 = .ok (.iload 4, 2) := by decide +kernel
theorem dX10_keeps_89 : decode cX10_keeps 89 = .ok (.iastore, 1) := by decide +kernel
theorem dX10_keeps_90 : decode cX10_keeps 90 = .ok (.aload_n 0, 1) := by decide +kernel
theorem dX10_keeps_91 : decode cX10_keeps 91 = .ok (.getfield 7, 3) := by decide +kernel
theorem dX10_keeps_94 : decode cX10_keeps 94 = .ok (.iload 5, 2) := by decide +kernel
theorem dX10_keeps_96 : decode cX10_keeps 96 = .ok (.iconst 5, 1) := by decide +kernel
theorem dX10_keeps_97 : decode cX10_keeps 97 = .ok (.iadd, 1) := by decide +kernel
theorem dX10_keeps_98 : decode cX10_keeps 98 = .ok (.iconst 0, 1) := by decide +kernel
theorem dX10_keeps_99 : decode cX10_keeps 99 = .ok (.iastore, 1) := by decide +kernel
theorem dX10_keeps_100 : decode cX10_keeps 100 = .ok (.aload_n 0, 1) := by decide +kernel
theorem dX10_keeps_101 : decode cX10_keeps 101 = .ok (.getfield 7, 3) := by decide +kernel
theorem dX10_keeps_104 : decode cX10_keeps 104 = .ok (.iload 5, 2) := by decide +kernel
theorem dX10_keeps_106 : decode cX10_keeps 106 = .ok (.bipush 6, 2) := by decide +kernel
theorem dX10_keeps_108 : decode cX10_keeps 108 = .ok (.iadd, 1) := by decide +kernel
theorem dX10_keeps_109 : decode cX10_keeps 109 = .ok (.iconst 0, 1) := by decide +kernel
theorem dX10_keeps_110 : decode cX10_keeps 110 = .ok (.iastore, 1) := by decide +kernel
theorem dX10_keeps_111 : decode cX10_keeps 111 = .ok (.aload_n 0, 1) := by decide +kernel
theorem dX10_keeps_112 : decode cX10_keeps 112 = .ok (.getfield 7, 3) := by decide +kernel
theorem dX10_keeps_115 : decode cX10_keeps 115 = .ok (.iload 5, 2) := by decide +kernel
theorem dX10_keeps_117 : decode cX10_keeps 117 = .ok (.bipush 7, 2) := by decide +kernel
theorem dX10_keeps_119 : decode cX10_keeps 119 = .ok (.iadd, 1) := by decide +kernel
theorem dX10_keeps_120 : decode cX10_keeps 120 = .ok (.iconst 0, 1) := by decide +kernel
theorem dX10_keeps_121 : decode cX10_keeps 121 = .ok (.iastore, 1) := by decide +kernel
theorem dX10_keeps_122 : decode cX10_keeps 122 = .ok (.aload_n 0, 1) := by decide +kernel
theorem dX10_keeps_123 : decode cX10_keeps 123 = .ok (.getfield 7, 3) := by decide +kernel
theorem dX10_keeps_126 : decode cX10_keeps 126 = .ok (.iload 5, 2) := by decide +kernel
theorem dX10_keeps_128 : decode cX10_keeps 128 = .ok (.bipush 8, 2) := by decide +kernel
theorem dX10_keeps_130 : decode cX10_keeps 130 = .ok (.iadd, 1) := by decide +kernel
theorem dX10_keeps_131 : decode cX10_keeps 131 = .ok (.iconst 0, 1) := by decide +kernel
theorem dX10_keeps_132 : decode cX10_keeps 132 = .ok (.iastore, 1) := by decide +kernel
theorem dX10_keeps_133 : decode cX10_keeps 133 = .ok (.aload_n 0, 1) := by decide +kernel
theorem dX10_keeps_134 : decode cX10_keeps 134 = .ok (.getfield 7, 3) := by decide +kernel
theorem dX10_keeps_137 : decode cX10_keeps 137 = .ok (.iconst 5, 1) := by decide +kernel
theorem dX10_keeps_138 : decode cX10_keeps 138 = .ok (.dup2, 1) := by decide +kernel
theorem dX10_keeps_139 : decode cX10_keeps 139 = .ok (.iaload, 1) := by decide +kernel
theorem dX10_keeps_140 : decode cX10_keeps 140 = .ok (.iconst 1, 1) := by decide +kernel
theorem dX10_keeps_141 : decode cX10_keeps 141 = .ok (.iadd, 1) := by decide +kernel
theorem dX10_keeps_142 : decode cX10_keeps 142 = .ok (.iastore, 1) := by decide +kernel
theorem dX10_keeps_143 : decode cX10_keeps 143 = .ok (.aload_n 0, 1) := by decide +kernel
theorem dX10_keeps_144 : decode cX10_keeps 144 = .ok (.getfield 7, 3) := by decide +kernel
theorem dX10_keeps_147 : decode cX10_keeps 147 = .ok (.iconst 4, 1) := by decide +kernel
theorem dX10_keeps_148 : decode cX10_keeps 148 = .ok (.dup2, 1) := by decide +kernel
theorem dX10_keeps_149 : decode cX10_keeps 149 = .ok (.iaload, 1) := by decide +kernel
theorem dX10_keeps_150 : decode cX10_keeps 150 = .ok (.iconst 1, 1) := by decide +kernel
theorem dX10_keeps_151 : decode cX10_keeps 151 = .ok (.iadd, 1) := by decide +kernel
theorem dX10_keeps_152 : decode cX10_keeps 152 = .ok (.iastore, 1) := by decide +kernel
theorem dX10_keeps_153 : decode cX10_keeps 153 = .ok (.aload_n 0, 1) := by decide +kernel
theorem dX10_keeps_154 : decode cX10_keeps 154 = .ok (.getfield 7, 3) := by decide +kernel
theorem dX10_keeps_157 : decode cX10_keeps 157 = .ok (.iconst 4, 1) := by decide +kernel
theorem dX10_keeps_158 : decode cX10_keeps 158 = .ok (.iaload, 1) := by decide +kernel
theorem dX10_keeps_159 : decode cX10_keeps 159 = .ok (.iconst 1, 1) := by decide +kernel
theorem dX10_keeps_160 : decode cX10_keeps 160 = .ok (.isub, 1) := by decide +kernel
theorem dX10_keeps_161 : decode cX10_keeps 161 = .ok (.ireturn, 1) := by decide +kernel
theorem dX10_goes_0 : decode cX10_goes 0 = .ok (.aload_n 0, 1) := by decide +kernel
theorem dX10_goes_1 : decode cX10_goes 1 = .ok (.iload_n 1, 1) := by decide +kernel
theorem dX10_goes_2 : decode cX10_goes 2 = .ok (.invokevirtual 111, 3) := by decide +kernel
theorem dX10_goes_5 : decode cX10_goes 5 = .ok (.istore_n 2, 1) := by decide +kernel
theorem dX10_goes_6 : decode cX10_goes 6 = .ok (.aload_n 0, 1) := by decide +kernel
theorem dX10_goes_7 : decode cX10_goes 7 = .ok (.iload_n 1, 1) := by decide +kernel
theorem dX10_goes_8 : decode cX10_goes 8 = .ok (.iload_n 2, 1) := by decide +kernel
theorem dX10_goes_9 : decode cX10_goes 9 = .ok (.invokevirtual 114, 3) := by decide +kernel
theorem dX10_goes_12 : decode cX10_goes 12 = .ok (.istore_n 3, 1) := by decide +kernel
theorem dX10_goes_13 : decode cX10_goes 13 = .ok (.iload_n 3, 1) := by decide +kernel
theorem dX10_goes_14 : decode cX10_goes 14 = .ok (.ifCond .lt 7, 3) := by decide +kernel
theorem dX10_goes_17 : decode cX10_goes 17 = .ok (.iconst 1, 1) := by decide +kernel
theorem dX10_goes_18 : decode cX10_goes 18 = .ok (.goto 4, 3) := by decide +kernel
theorem dX10_goes_21 : decode cX10_goes 21 = .ok (.iconst 0, 1) := by decide +kernel
theorem dX10_goes_22 : decode cX10_goes 22 = .ok (.istore 4, 2) := by decide +kernel
theorem dX10_goes_24 : decode cX10_goes 24 = .ok (.iload 4, 2) := by decide +kernel
theorem dX10_goes_26 : decode cX10_goes 26 = .ok (.ifCond .eq 12, 3) := by decide +kernel
theorem dX10_goes_29 : decode cX10_goes 29 = .ok (.aload_n 0, 1) := by decide +kernel
theorem dX10_goes_30 : decode cX10_goes 30 = .ok (.iload_n 3, 1) := by decide +kernel
theorem dX10_goes_31 : decode cX10_goes 31 = .ok (.iconst 3, 1) := by decide +kernel
theorem dX10_goes_32 : decode cX10_goes 32 = .ok (.invokevirtual 47, 3) := by decide +kernel
theorem dX10_goes_35 : decode cX10_goes 35 = .ok (.goto 9, 3) := by decide +kernel
theorem dX10_goes_38 : decode cX10_goes 38 = .ok (.aload_n 0, 1) := by decide +kernel
theorem dX10_goes_39 : decode cX10_goes 39 = .ok (.iload_n 1, 1) := by decide +kernel
theorem dX10_goes_40 : decode cX10_goes 40 = .ok (.iconst 0, 1) := by decide +kernel
theorem dX10_goes_41 : decode cX10_goes 41 = .ok (.invokevirtual 117, 3) := by decide +kernel
theorem dX10_goes_44 : decode cX10_goes 44 = .ok (.istore 5, 2) := by decide +kernel
theorem dX10_goes_46 : decode cX10_goes 46 = .ok (.iload 4, 2) := by decide +kernel
theorem dX10_goes_48 : decode cX10_goes 48 = .ok (.ifCond .eq 12, 3) := by decide +kernel
theorem dX10_goes_51 : decode cX10_goes 51 = .ok (.aload_n 0, 1) := by decide +kernel
theorem dX10_goes_52 : decode cX10_goes 52 = .ok (.iload_n 3, 1) := by decide +kernel
theorem dX10_goes_53 : decode cX10_goes 53 = .ok (.iconst 4, 1) := by decide +kernel
theorem dX10_goes_54 : decode cX10_goes 54 = .ok (.invokevirtual 47, 3) := by decide +kernel
theorem dX10_goes_57 : decode cX10_goes 57 = .ok (.goto 11, 3) := by decide +kernel
theorem dX10_goes_60 : decode cX10_goes 60 = .ok (.aload_n 0, 1) := by decide +kernel
theorem dX10_goes_61 : decode cX10_goes 61 = .ok (.iload_n 1, 1) := by decide +kernel
theorem dX10_goes_62 : decode cX10_goes 62 = .ok (.iload 5, 2) := by decide +kernel
theorem dX10_goes_64 : decode cX10_goes 64 = .ok (.iconst 0, 1) := by decide +kernel
theorem dX10_goes_65 : decode cX10_goes 65 = .ok (.invokevirtual 101, 3) := by decide +kernel
theorem dX10_goes_68 : decode cX10_goes 68 = .ok (.istore 6, 2) := by decide +kernel
theorem dX10_goes_70 : decode cX10_goes 70 = .ok (.aload_n 0, 1) := by decide +kernel
theorem dX10_goes_71 : decode cX10_goes 71 = .ok (.getfield 7, 3) := by decide +kernel
theorem dX10_goes_74 : decode cX10_goes 74 = .ok (.bipush 28, 2) := by decide +kernel
theorem dX10_goes_76 : decode cX10_goes 76 = .ok (.iload 4, 2) := by decide +kernel
theorem dX10_goes_78 : decode cX10_goes 78 = .ok (.ifCond .eq 8, 3) := by decide +kernel
theorem dX10_goes_81 : decode cX10_goes 81 = .ok (.bipush (-4), 2) := by decide +kernel
theorem dX10_goes_83 : decode cX10_goes 83 = .ok (.goto 7, 3) := by decide +kernel
theorem dX10_goes_86 : decode cX10_goes 86 = .ok (.aload_n 0, 1) := by decide +kernel
theorem dX10_goes_87 : decode cX10_goes 87 = .ok (.invokevirtual 120, 3) := by decide +kernel
theorem dX10_goes_90 : decode cX10_goes 90 = .ok (.iastore, 1) := by decide +kernel
theorem dX10_goes_91 : decode cX10_goes 91 = .ok (.iload 4, 2) := by decide +kernel
theorem dX10_goes_93 : decode cX10_goes 93 = .ok (.ifCond .eq 7, 3) := by decide +kernel
theorem dX10_goes_96 : decode cX10_goes 96 = .ok (.iload_n 3, 1) := by decide +kernel
theorem dX10_goes_97 : decode cX10_goes 97 = .ok (.goto 13, 3) := by decide +kernel
theorem dX10_goes_100 : decode cX10_goes 100 = .ok (.aload_n 0, 1) := by decide +kernel
theorem dX10_goes_101 : decode cX10_goes 101 = .ok (.iload_n 1, 1) := by decide +kernel
theorem dX10_goes_102 : decode cX10_goes 102 = .ok (.iload_n 2, 1) := by decide +kernel
theorem dX10_goes_103 : decode cX10_goes 103 = .ok (.iload 5, 2) := by decide +kernel
theorem dX10_goes_105 : decode cX10_goes 105 = .ok (.iload 6, 2) := by decide +kernel
theorem dX10_goes_107 : decode cX10_goes 107 = .ok (.invokevirtual 123, 3) := by decide +kernel
theorem dX10_goes_110 : decode cX10_goes 110 = .ok (.istore_n 3, 1) := by decide +kernel
theorem dX10_goes_111 : decode cX10_goes 111 = .ok (.aload_n 0, 1) := by decide +kernel
theorem dX10_goes_112 : decode cX10_goes 112 = .ok (.getfield 7, 3) := by decide +kernel
theorem dX10_goes_115 : decode cX10_goes 115 = .ok (.bipush 6, 2) := by decide +kernel
theorem dX10_goes_117 : decode cX10_goes 117 = .ok (.dup2, 1) := by decide +kernel
theorem dX10_goes_118 : decode cX10_goes 118 = .ok (.iaload, 1) := by decide +kernel
theorem dX10_goes_119 : decode cX10_goes 119 = .ok (.iconst 1, 1) := by decide +kernel
theorem dX10_goes_120 : decode cX10_goes 120 = .ok (.iadd, 1) := by decide +kernel
theorem dX10_goes_121 : decode cX10_goes 121 = .ok (.iastore, 1) := by decide +kernel
theorem dX10_goes_122 : decode cX10_goes 122 = .ok (.aload_n 0, 1) := by decide +kernel
theorem dX10_goes_123 : decode cX10_goes 123 = .ok (.getfield 7, 3) := by decide +kernel
theorem dX10_goes_126 : decode cX10_goes 126 = .ok (.sipush 307, 3) := by decide +kernel
theorem dX10_goes_129 : decode cX10_goes 129 = .ok (.bipush 10, 2) := by decide +kernel
theorem dX10_goes_131 : decode cX10_goes 131 = .ok (.iload_n 1, 1) := by decide +kernel
theorem dX10_goes_132 : decode cX10_goes 132 = .ok (.imul, 1) := by decide +kernel
theorem dX10_goes_133 : decode cX10_goes 133 = .ok (.iadd, 1) := by decide +kernel
theorem dX10_goes_134 : decode cX10_goes 134 = .ok (.bipush 9, 2) := by decide +kernel
theorem dX10_goes_136 : decode cX10_goes 136 = .ok (.iadd, 1) := by decide +kernel
theorem dX10_goes_137 : decode cX10_goes 137 = .ok (.dup2, 1) := by decide +kernel
theorem dX10_goes_138 : decode cX10_goes 138 = .ok (.iaload, 1) := by decide +kernel
theorem dX10_goes_139 : decode cX10_goes 139 = .ok (.iconst 1, 1) := by decide +kernel
theorem dX10_goes_140 : decode cX10_goes 140 = .ok (.iadd, 1) := by decide +kernel
theorem dX10_goes_141 : decode cX10_goes 141 = .ok (.iastore, 1) := by decide +kernel
theorem dX10_goes_142 : decode cX10_goes 142 = .ok (.aload_n 0, 1) := by decide +kernel
theorem dX10_goes_143 : decode cX10_goes 143 = .ok (.getfield 7, 3) := by decide +kernel
theorem dX10_goes_146 : decode cX10_goes 146 = .ok (.bipush 7, 2) := by decide +kernel
theorem dX10_goes_148 : decode cX10_goes 148 = .ok (.dup2, 1) := by decide +kernel
theorem dX10_goes_149 : decode cX10_goes 149 = .ok (.iaload, 1) := by decide +kernel
theorem dX10_goes_150 : decode cX10_goes 150 = .ok (.iload 4, 2) := by decide +kernel
theorem dX10_goes_152 : decode cX10_goes 152 = .ok (.ifCond .eq 7, 3) := by decide +kernel
theorem dX10_goes_155 : decode cX10_goes 155 = .ok (.iconst 1, 1) := by decide +kernel
theorem dX10_goes_156 : decode cX10_goes 156 = .ok (.goto 4, 3) := by decide +kernel
theorem dX10_goes_159 : decode cX10_goes 159 = .ok (.iconst 0, 1) := by decide +kernel
theorem dX10_goes_160 : decode cX10_goes 160 = .ok (.iadd, 1) := by decide +kernel
theorem dX10_goes_161 : decode cX10_goes 161 = .ok (.iastore, 1) := by decide +kernel
theorem dX10_goes_162 : decode cX10_goes 162 = .ok (.aload_n 0, 1) := by decide +kernel
theorem dX10_goes_163 : decode cX10_goes 163 = .ok (.iload_n 1, 1) := by decide +kernel
theorem dX10_goes_164 : decode cX10_goes 164 = .ok (.iload 5, 2) := by decide +kernel
theorem dX10_goes_166 : decode cX10_goes 166 = .ok (.iconst 1, 1) := by decide +kernel
theorem dX10_goes_167 : decode cX10_goes 167 = .ok (.invokevirtual 101, 3) := by decide +kernel
theorem dX10_goes_170 : decode cX10_goes 170 = .ok (.istore 7, 2) := by decide +kernel
theorem dX10_goes_172 : decode cX10_goes 172 = .ok (.aload_n 0, 1) := by decide +kernel
theorem dX10_goes_173 : decode cX10_goes 173 = .ok (.iload_n 2, 1) := by decide +kernel
theorem dX10_goes_174 : decode cX10_goes 174 = .ok (.iload_n 3, 1) := by decide +kernel
theorem dX10_goes_175 : decode cX10_goes 175 = .ok (.ifCond .ge 8, 3) := by decide +kernel
theorem dX10_goes_178 : decode cX10_goes 178 = .ok (.bipush (-4), 2) := by decide +kernel
theorem dX10_goes_180 : decode cX10_goes 180 = .ok (.goto 9, 3) := by decide +kernel
theorem dX10_goes_183 : decode cX10_goes 183 = .ok (.aload_n 0, 1) := by decide +kernel
theorem dX10_goes_184 : decode cX10_goes 184 = .ok (.iload_n 3, 1) := by decide +kernel
theorem dX10_goes_185 : decode cX10_goes 185 = .ok (.iconst 0, 1) := by decide +kernel
theorem dX10_goes_186 : decode cX10_goes 186 = .ok (.invokevirtual 47, 3) := by decide +kernel
theorem dX10_goes_189 : decode cX10_goes 189 = .ok (.iload 5, 2) := by decide +kernel
theorem dX10_goes_191 : decode cX10_goes 191 = .ok (.iload 6, 2) := by decide +kernel
theorem dX10_goes_193 : decode cX10_goes 193 = .ok (.iload 7, 2) := by decide +kernel
theorem dX10_goes_195 : decode cX10_goes 195 = .ok (.iload 4, 2) := by decide +kernel
theorem dX10_goes_197 : decode cX10_goes 197 = .ok (.ifCond .eq 7, 3) := by decide +kernel
theorem dX10_goes_200 : decode cX10_goes 200 = .ok (.iconst 0, 1) := by decide +kernel
theorem dX10_goes_201 : decode cX10_goes 201 = .ok (.goto 12, 3) := by decide +kernel
theorem dX10_goes_204 : decode cX10_goes 204 = .ok (.iload_n 3, 1) := by decide +kernel
theorem dX10_goes_205 : decode cX10_goes 205 = .ok (.ifCond .ge 7, 3) := by decide +kernel
theorem dX10_goes_208 : decode cX10_goes 208 = .ok (.iconst 2, 1) := by decide +kernel
theorem dX10_goes_209 : decode cX10_goes 209 = .ok (.goto 4, 3) := by decide +kernel
theorem dX10_goes_212 : decode cX10_goes 212 = .ok (.iconst 1, 1) := by decide +kernel
theorem dX10_goes_213 : decode cX10_goes 213 = .ok (.invokevirtual 127, 3) := by decide +kernel
theorem dX10_goes_216 : decode cX10_goes 216 = .ok (.iload 7, 2) := by decide +kernel
theorem dX10_goes_218 : decode cX10_goes 218 = .ok (.aload_n 0, 1) := by decide +kernel
theorem dX10_goes_219 : decode cX10_goes 219 = .ok (.getfield 7, 3) := by decide +kernel
theorem dX10_goes_222 : decode cX10_goes 222 = .ok (.bipush 13, 2) := by decide +kernel
theorem dX10_goes_224 : decode cX10_goes 224 = .ok (.iaload, 1) := by decide +kernel
theorem dX10_goes_225 : decode cX10_goes 225 = .ok (.iload 6, 2) := by decide +kernel
theorem dX10_goes_227 : decode cX10_goes 227 = .ok (.imul, 1) := by decide +kernel
theorem dX10_goes_228 : decode cX10_goes 228 = .ok (.if_icmp .le 7, 3) := by decide +kernel
theorem dX10_goes_231 : decode cX10_goes 231 = .ok (.iconst 1, 1) := by decide +kernel
theorem dX10_goes_232 : decode cX10_goes 232 = .ok (.goto 4, 3) := by decide +kernel
theorem dX10_goes_235 : decode cX10_goes 235 = .ok (.iconst 0, 1) := by decide +kernel
theorem dX10_goes_236 : decode cX10_goes 236 = .ok (.istore 8, 2) := by decide +kernel
theorem dX10_goes_238 : decode cX10_goes 238 = .ok (.aload_n 0, 1) := by decide +kernel
theorem dX10_goes_239 : decode cX10_goes 239 = .ok (.getfield 7, 3) := by decide +kernel
theorem dX10_goes_242 : decode cX10_goes 242 = .ok (.bipush 27, 2) := by decide +kernel
theorem dX10_goes_244 : decode cX10_goes 244 = .ok (.iload 8, 2) := by decide +kernel
theorem dX10_goes_246 : decode cX10_goes 246 = .ok (.ifCond .eq 7, 3) := by decide +kernel
theorem dX10_goes_249 : decode cX10_goes 249 = .ok (.iconst 1, 1) := by decide +kernel
theorem dX10_goes_250 : decode cX10_goes 250 = .ok (.goto 4, 3) := by decide +kernel
theorem dX10_goes_253 : decode cX10_goes 253 = .ok (.iconst 0, 1) := by decide +kernel
theorem dX10_goes_254 : decode cX10_goes 254 = .ok (.iastore, 1) := by decide +kernel
theorem dX10_goes_255 : decode cX10_goes 255 = .ok (.aload_n 0, 1) := by decide +kernel
theorem dX10_goes_256 : decode cX10_goes 256 = .ok (.getfield 7, 3) := by decide +kernel
theorem dX10_goes_259 : decode cX10_goes 259 = .ok (.bipush 9, 2) := by decide +kernel
theorem dX10_goes_261 : decode cX10_goes 261 = .ok (.dup2, 1) := by decide +kernel
theorem dX10_goes_262 : decode cX10_goes 262 = .ok (.iaload, 1) := by decide +kernel
theorem dX10_goes_263 : decode cX10_goes 263 = .ok (.iload 8, 2) := by decide +kernel
theorem dX10_goes_265 : decode cX10_goes 265 = .ok (.ifCond .eq 7, 3) := by decide +kernel
theorem dX10_goes_268 : decode cX10_goes 268 = .ok (.iconst 1, 1) := by decide +kernel
theorem dX10_goes_269 : decode cX10_goes 269 = .ok (.goto 4, 3) := by decide +kernel
theorem dX10_goes_272 : decode cX10_goes 272 = .ok (.iconst 0, 1) := by decide +kernel
theorem dX10_goes_273 : decode cX10_goes 273 = .ok (.iadd, 1) := by decide +kernel
theorem dX10_goes_274 : decode cX10_goes 274 = .ok (.iastore, 1) := by decide +kernel
theorem dX10_goes_275 : decode cX10_goes 275 = .ok (.iload_n 3, 1) := by decide +kernel
theorem dX10_goes_276 : decode cX10_goes 276 = .ok (.ifCond .lt 112, 3) := by decide +kernel
theorem dX10_goes_279 : decode cX10_goes 279 = .ok (.aload_n 0, 1) := by decide +kernel
theorem dX10_goes_280 : decode cX10_goes 280 = .ok (.getfield 7, 3) := by decide +kernel
theorem dX10_goes_283 : decode cX10_goes 283 = .ok (.sipush 367, 3) := by decide +kernel
theorem dX10_goes_286 : decode cX10_goes 286 = .ok (.bipush 9, 2) := by decide +kernel
theorem dX10_goes_288 : decode cX10_goes 288 = .ok (.iload_n 3, 1) := by decide +kernel
theorem dX10_goes_289 : decode cX10_goes 289 = .ok (.imul, 1) := by decide +kernel
theorem dX10_goes_290 : decode cX10_goes 290 = .ok (.iadd, 1) := by decide +kernel
theorem dX10_goes_291 : decode cX10_goes 291 = .ok (.iconst 5, 1) := by decide +kernel
theorem dX10_goes_292 : decode cX10_goes 292 = .ok (.iadd, 1) := by decide +kernel
theorem dX10_goes_293 : decode cX10_goes 293 = .ok (.dup2, 1) := by decide +kernel
theorem dX10_goes_294 : decode cX10_goes 294 = .ok (.iaload, 1) := by decide +kernel
theorem dX10_goes_295 : decode cX10_goes 295 = .ok (.iconst 1, 1) := by decide +kernel
theorem dX10_goes_296 : decode cX10_goes 296 = .ok (.iadd, 1) := by decide +kernel
theorem dX10_goes_297 : decode cX10_goes 297 = .ok (.iastore, 1) := by decide +kernel
theorem dX10_goes_298 : decode cX10_goes 298 = .ok (.aload_n 0, 1) := by decide +kernel
theorem dX10_goes_299 : decode cX10_goes 299 = .ok (.getfield 7, 3) := by decide +kernel
theorem dX10_goes_302 : decode cX10_goes 302 = .ok (.sipush 367, 3) := by decide +kernel
theorem dX10_goes_305 : decode cX10_goes 305 = .ok (.bipush 9, 2) := by decide +kernel
theorem dX10_goes_307 : decode cX10_goes 307 = .ok (.iload_n 3, 1) := by decide +kernel
theorem dX10_goes_308 : decode cX10_goes 308 = .ok (.imul, 1) := by decide +kernel
theorem dX10_goes_309 : decode cX10_goes 309 = .ok (.iadd, 1) := by decide +kernel
theorem dX10_goes_310 : decode cX10_goes 310 = .ok (.bipush 8, 2) := by decide +kernel
theorem dX10_goes_312 : decode cX10_goes 312 = .ok (.iadd, 1) := by decide +kernel
theorem dX10_goes_313 : decode cX10_goes 313 = .ok (.aload_n 0, 1) := by decide +kernel
theorem dX10_goes_314 : decode cX10_goes 314 = .ok (.getfield 7, 3) := by decide +kernel
theorem dX10_goes_317 : decode cX10_goes 317 = .ok (.bipush 6, 2) := by decide +kernel
theorem dX10_goes_319 : decode cX10_goes 319 = .ok (.iaload, 1) := by decide +kernel
theorem dX10_goes_320 : decode cX10_goes 320 = .ok (.iastore, 1) := by decide +kernel
theorem dX10_goes_321 : decode cX10_goes 321 = .ok (.aload_n 0, 1) := by decide +kernel
theorem dX10_goes_322 : decode cX10_goes 322 = .ok (.getfield 7, 3) := by decide +kernel
theorem dX10_goes_325 : decode cX10_goes 325 = .ok (.sipush 367, 3) := by decide +kernel
theorem dX10_goes_328 : decode cX10_goes 328 = .ok (.bipush 9, 2) := by decide +kernel
theorem dX10_goes_330 : decode cX10_goes 330 = .ok (.iload_n 3, 1) := by decide +kernel
theorem dX10_goes_331 : decode cX10_goes 331 = .ok (.imul, 1) := by decide +kernel
theorem dX10_goes_332 : decode cX10_goes 332 = .ok (.iadd, 1) := by decide +kernel
theorem dX10_goes_333 : decode cX10_goes 333 = .ok (.bipush 6, 2) := by decide +kernel
theorem dX10_goes_335 : decode cX10_goes 335 = .ok (.iadd, 1) := by decide +kernel
theorem dX10_goes_336 : decode cX10_goes 336 = .ok (.dup2, 1) := by decide +kernel
theorem dX10_goes_337 : decode cX10_goes 337 = .ok (.iaload, 1) := by decide +kernel
theorem dX10_goes_338 : decode cX10_goes 338 = .ok (.iload 8, 2) := by decide +kernel
theorem dX10_goes_340 : decode cX10_goes 340 = .ok (.ifCond .eq 7, 3) := by decide +kernel
theorem dX10_goes_343 : decode cX10_goes 343 = .ok (.iconst 1, 1) := by decide +kernel
theorem dX10_goes_344 : decode cX10_goes 344 = .ok (.goto 4, 3) := by decide +kernel
theorem dX10_goes_347 : decode cX10_goes 347 = .ok (.iconst 0, 1) := by decide +kernel
theorem dX10_goes_348 : decode cX10_goes 348 = .ok (.iadd, 1) := by decide +kernel
theorem dX10_goes_349 : decode cX10_goes 349 = .ok (.iastore, 1) := by decide +kernel
theorem dX10_goes_350 : decode cX10_goes 350 = .ok (.iload 8, 2) := by decide +kernel
theorem dX10_goes_352 : decode cX10_goes 352 = .ok (.ifCond .eq 36, 3) := by decide +kernel
theorem dX10_goes_355 : decode cX10_goes 355 = .ok (.aload_n 0, 1) := by decide +kernel
theorem dX10_goes_356 : decode cX10_goes 356 = .ok (.iload_n 3, 1) := by decide +kernel
theorem dX10_goes_357 : decode cX10_goes 357 = .ok (.bipush 6, 2) := by decide +kernel
theorem dX10_goes_359 : decode cX10_goes 359 = .ok (.invokevirtual 47, 3) := by decide +kernel
theorem dX10_goes_362 : decode cX10_goes 362 = .ok (.aload_n 0, 1) := by decide +kernel
theorem dX10_goes_363 : decode cX10_goes 363 = .ok (.getfield 7, 3) := by decide +kernel
theorem dX10_goes_366 : decode cX10_goes 366 = .ok (.bipush 14, 2) := by decide +kernel
theorem dX10_goes_368 : decode cX10_goes 368 = .ok (.iaload, 1) := by decide +kernel
theorem dX10_goes_369 : decode cX10_goes 369 = .ok (.if_icmp .lt 19, 3) := by decide +kernel
theorem dX10_goes_372 : decode cX10_goes 372 = .ok (.aload_n 0, 1) := by decide +kernel
theorem dX10_goes_373 : decode cX10_goes 373 = .ok (.iload_n 3, 1) := by decide +kernel
theorem dX10_goes_374 : decode cX10_goes 374 = .ok (.invokevirtual 53, 3) := by decide +kernel
theorem dX10_goes_377 : decode cX10_goes 377 = .ok (.aload_n 0, 1) := by decide +kernel
theorem dX10_goes_378 : decode cX10_goes 378 = .ok (.getfield 7, 3) := by decide +kernel
theorem dX10_goes_381 : decode cX10_goes 381 = .ok (.bipush 10, 2) := by decide +kernel
theorem dX10_goes_383 : decode cX10_goes 383 = .ok (.dup2, 1) := by decide +kernel
theorem dX10_goes_384 : decode cX10_goes 384 = .ok (.iaload, 1) := by decide +kernel
theorem dX10_goes_385 : decode cX10_goes 385 = .ok (.iconst 1, 1) := by decide +kernel
theorem dX10_goes_386 : decode cX10_goes 386 = .ok (.iadd, 1) := by decide +kernel
theorem dX10_goes_387 : decode cX10_goes 387 = .ok (.iastore, 1) := by decide +kernel
theorem dX10_goes_388 : decode cX10_goes 388 = .ok (.return_, 1) := by decide +kernel
theorem dX10_run_0 : decode cX10_run 0 = .ok (.aload_n 0, 1) := by decide +kernel
theorem dX10_run_1 : decode cX10_run 1 = .ok (.iload_n 1, 1) := by decide +kernel
theorem dX10_run_2 : decode cX10_run 2 = .ok (.iload_n 2, 1) := by decide +kernel
theorem dX10_run_3 : decode cX10_run 3 = .ok (.iload_n 3, 1) := by decide +kernel
theorem dX10_run_4 : decode cX10_run 4 = .ok (.iload 4, 2) := by decide +kernel
theorem dX10_run_6 : decode cX10_run 6 = .ok (.iload 5, 2) := by decide +kernel
theorem dX10_run_8 : decode cX10_run 8 = .ok (.invokevirtual 131, 3) := by decide +kernel
theorem dX10_run_11 : decode cX10_run 11 = .ok (.ifCond .ne 5, 3) := by decide +kernel
theorem dX10_run_14 : decode cX10_run 14 = .ok (.iconst (-1), 1) := by decide +kernel
theorem dX10_run_15 : decode cX10_run 15 = .ok (.ireturn, 1) := by decide +kernel
theorem dX10_run_16 : decode cX10_run 16 = .ok (.aload_n 0, 1) := by decide +kernel
theorem dX10_run_17 : decode cX10_run 17 = .ok (.invokevirtual 34, 3) := by decide +kernel
theorem dX10_run_20 : decode cX10_run 20 = .ok (.aload_n 0, 1) := by decide +kernel
theorem dX10_run_21 : decode cX10_run 21 = .ok (.getfield 7, 3) := by decide +kernel
theorem dX10_run_24 : decode cX10_run 24 = .ok (.bipush 16, 2) := by decide +kernel
theorem dX10_run_26 : decode cX10_run 26 = .ok (.iload_n 1, 1) := by decide +kernel
theorem dX10_run_27 : decode cX10_run 27 = .ok (.iastore, 1) := by decide +kernel
theorem dX10_run_28 : decode cX10_run 28 = .ok (.iconst 0, 1) := by decide +kernel
theorem dX10_run_29 : decode cX10_run 29 = .ok (.istore 6, 2) := by decide +kernel
theorem dX10_run_31 : decode cX10_run 31 = .ok (.iload 6, 2) := by decide +kernel
theorem dX10_run_33 : decode cX10_run 33 = .ok (.iconst 4, 1) := by decide +kernel
theorem dX10_run_34 : decode cX10_run 34 = .ok (.if_icmp .ge 26, 3) := by decide +kernel
theorem dX10_run_37 : decode cX10_run 37 = .ok (.aload_n 0, 1) := by decide +kernel
theorem dX10_run_38 : decode cX10_run 38 = .ok (.getfield 7, 3) := by decide +kernel
theorem dX10_run_41 : decode cX10_run 41 = .ok (.bipush 17, 2) := by decide +kernel
theorem dX10_run_43 : decode cX10_run 43 = .ok (.iload 6, 2) := by decide +kernel
theorem dX10_run_45 : decode cX10_run 45 = .ok (.iadd, 1) := by decide +kernel
theorem dX10_run_46 : decode cX10_run 46 = .ok (.aload_n 0, 1) := by decide +kernel
theorem dX10_run_47 : decode cX10_run 47 = .ok (.getfield 19, 3) := by decide +kernel
theorem dX10_run_50 : decode cX10_run 50 = .ok (.iload 6, 2) := by decide +kernel
theorem dX10_run_52 : decode cX10_run 52 = .ok (.iaload, 1) := by decide +kernel
theorem dX10_run_53 : decode cX10_run 53 = .ok (.iastore, 1) := by decide +kernel
theorem dX10_run_54 : decode cX10_run 54 = .ok (.iinc 6 1, 3) := by decide +kernel
theorem dX10_run_57 : decode cX10_run 57 = .ok (.goto (-26), 3) := by decide +kernel
theorem dX10_run_60 : decode cX10_run 60 = .ok (.aload_n 0, 1) := by decide +kernel
theorem dX10_run_61 : decode cX10_run 61 = .ok (.iload_n 1, 1) := by decide +kernel
theorem dX10_run_62 : decode cX10_run 62 = .ok (.invokevirtual 135, 3) := by decide +kernel
theorem dX10_run_65 : decode cX10_run 65 = .ok (.iconst 0, 1) := by decide +kernel
theorem dX10_run_66 : decode cX10_run 66 = .ok (.istore 6, 2) := by decide +kernel
theorem dX10_run_68 : decode cX10_run 68 = .ok (.iconst 0, 1) := by decide +kernel
theorem dX10_run_69 : decode cX10_run 69 = .ok (.istore 7, 2) := by decide +kernel
theorem dX10_run_71 : decode cX10_run 71 = .ok (.iload 7, 2) := by decide +kernel
theorem dX10_run_73 : decode cX10_run 73 = .ok (.aload_n 0, 1) := by decide +kernel
theorem dX10_run_74 : decode cX10_run 74 = .ok (.getfield 7, 3) := by decide +kernel
theorem dX10_run_77 : decode cX10_run 77 = .ok (.iconst 0, 1) := by decide +kernel
theorem dX10_run_78 : decode cX10_run 78 = .ok (.iaload, 1) := by decide +kernel
theorem dX10_run_79 : decode cX10_run 79 = .ok (.if_icmp .ge 87, 3) := by decide +kernel
theorem dX10_run_82 : decode cX10_run 82 = .ok (.iconst 1, 1) := by decide +kernel
theorem dX10_run_83 : decode cX10_run 83 = .ok (.istore 8, 2) := by decide +kernel
theorem dX10_run_85 : decode cX10_run 85 = .ok (.iconst 0, 1) := by decide +kernel
theorem dX10_run_86 : decode cX10_run 86 = .ok (.istore 9, 2) := by decide +kernel
theorem dX10_run_88 : decode cX10_run 88 = .ok (.iload 9, 2) := by decide +kernel
theorem dX10_run_90 : decode cX10_run 90 = .ok (.aload_n 0, 1) := by decide +kernel
theorem dX10_run_91 : decode cX10_run 91 = .ok (.iload_n 1, 1) := by decide +kernel
theorem dX10_run_92 : decode cX10_run 92 = .ok (.invokevirtual 70, 3) := by decide +kernel
theorem dX10_run_95 : decode cX10_run 95 = .ok (.if_icmp .ge 44, 3) := by decide +kernel
theorem dX10_run_98 : decode cX10_run 98 = .ok (.iload 8, 2) := by decide +kernel
theorem dX10_run_100 : decode cX10_run 100 = .ok (.ifCond .eq 30, 3) := by decide +kernel
theorem dX10_run_103 : decode cX10_run 103 = .ok (.aload_n 0, 1) := by decide +kernel
theorem dX10_run_104 : decode cX10_run 104 = .ok (.iload_n 1, 1) := by decide +kernel
theorem dX10_run_105 : decode cX10_run 105 = .ok (.iload 9, 2) := by decide +kernel
theorem dX10_run_107 : decode cX10_run 107 = .ok (.aload_n 0, 1) := by decide +kernel
theorem dX10_run_108 : decode cX10_run 108 = .ok (.iload 7, 2) := by decide +kernel
theorem dX10_run_110 : decode cX10_run 110 = .ok (.aload_n 0, 1) := by decide +kernel
theorem dX10_run_111 : decode cX10_run 111 = .ok (.iload_n 1, 1) := by decide +kernel
theorem dX10_run_112 : decode cX10_run 112 = .ok (.iload 9, 2) := by decide +kernel
theorem dX10_run_114 : decode cX10_run 114 = .ok (.invokevirtual 50, 3) := by decide +kernel
theorem dX10_run_117 : decode cX10_run 117 = .ok (.invokevirtual 40, 3) := by decide +kernel
theorem dX10_run_120 : decode cX10_run 120 = .ok (.invokevirtual 94, 3) := by decide +kernel
theorem dX10_run_123 : decode cX10_run 123 = .ok (.ifCond .eq 7, 3) := by decide +kernel
theorem dX10_run_126 : decode cX10_run 126 = .ok (.iconst 1, 1) := by decide +kernel
theorem dX10_run_127 : decode cX10_run 127 = .ok (.goto 4, 3) := by decide +kernel
theorem dX10_run_130 : decode cX10_run 130 = .ok (.iconst 0, 1) := by decide +kernel
theorem dX10_run_131 : decode cX10_run 131 = .ok (.istore 8, 2) := by decide +kernel
theorem dX10_run_133 : decode cX10_run 133 = .ok (.iinc 9 1, 3) := by decide +kernel
theorem dX10_run_136 : decode cX10_run 136 = .ok (.goto (-48), 3) := by decide +kernel
theorem dX10_run_139 : decode cX10_run 139 = .ok (.iload 6, 2) := by decide +kernel
theorem dX10_run_141 : decode cX10_run 141 = .ok (.iload 8, 2) := by decide +kernel
theorem dX10_run_143 : decode cX10_run 143 = .ok (.ifCond .eq 13, 3) := by decide +kernel
theorem dX10_run_146 : decode cX10_run 146 = .ok (.aload_n 0, 1) := by decide +kernel
theorem dX10_run_147 : decode cX10_run 147 = .ok (.iload 7, 2) := by decide +kernel
theorem dX10_run_149 : decode cX10_run 149 = .ok (.iconst 4, 1) := by decide +kernel
theorem dX10_run_150 : decode cX10_run 150 = .ok (.invokevirtual 40, 3) := by decide +kernel
theorem dX10_run_153 : decode cX10_run 153 = .ok (.goto 4, 3) := by decide +kernel
theorem dX10_run_156 : decode cX10_run 156 = .ok (.iconst 0, 1) := by decide +kernel
theorem dX10_run_157 : decode cX10_run 157 = .ok (.iadd, 1) := by decide +kernel
theorem dX10_run_158 : decode cX10_run 158 = .ok (.istore 6, 2) := by decide +kernel
theorem dX10_run_160 : decode cX10_run 160 = .ok (.iinc 7 1, 3) := by decide +kernel
theorem dX10_run_163 : decode cX10_run 163 = .ok (.goto (-92), 3) := by decide +kernel
theorem dX10_run_166 : decode cX10_run 166 = .ok (.iload 6, 2) := by decide +kernel
theorem dX10_run_168 : decode cX10_run 168 = .ok (.ireturn, 1) := by decide +kernel
theorem dX10_latest_0 : decode cX10_latest 0 = .ok (.iload_n 1, 1) := by decide +kernel
theorem dX10_latest_1 : decode cX10_latest 1 = .ok (.iconst 0, 1) := by decide +kernel
theorem dX10_latest_2 : decode cX10_latest 2 = .ok (.bipush 7, 2) := by decide +kernel
theorem dX10_latest_4 : decode cX10_latest 4 = .ok (.invokestatic 26, 3) := by decide +kernel
theorem dX10_latest_7 : decode cX10_latest 7 = .ok (.ifCond .ne 5, 3) := by decide +kernel
theorem dX10_latest_10 : decode cX10_latest 10 = .ok (.iconst (-1), 1) := by decide +kernel
theorem dX10_latest_11 : decode cX10_latest 11 = .ok (.ireturn, 1) := by decide +kernel
theorem dX10_latest_12 : decode cX10_latest 12 = .ok (.aload_n 0, 1) := by decide +kernel
theorem dX10_latest_13 : decode cX10_latest 13 = .ok (.getfield 7, 3) := by decide +kernel
theorem dX10_latest_16 : decode cX10_latest 16 = .ok (.bipush 16, 2) := by decide +kernel
theorem dX10_latest_18 : decode cX10_latest 18 = .ok (.iaload, 1) := by decide +kernel
theorem dX10_latest_19 : decode cX10_latest 19 = .ok (.ifCond .ge 8, 3) := by decide +kernel
theorem dX10_latest_22 : decode cX10_latest 22 = .ok (.bipush (-4), 2) := by decide +kernel
theorem dX10_latest_24 : decode cX10_latest 24 = .ok (.goto 12, 3) := by decide +kernel
theorem dX10_latest_27 : decode cX10_latest 27 = .ok (.aload_n 0, 1) := by decide +kernel
theorem dX10_latest_28 : decode cX10_latest 28 = .ok (.getfield 7, 3) := by decide +kernel
theorem dX10_latest_31 : decode cX10_latest 31 = .ok (.bipush 21, 2) := by decide +kernel
theorem dX10_latest_33 : decode cX10_latest 33 = .ok (.iload_n 1, 1) := by decide +kernel
theorem dX10_latest_34 : decode cX10_latest 34 = .ok (.iadd, 1) := by decide +kernel
theorem dX10_latest_35 : decode cX10_latest 35 = .ok (.iaload, 1) := by decide +kernel
theorem dX10_latest_36 : decode cX10_latest 36 = .ok (.ireturn, 1) := by decide +kernel
theorem dX10_pinned_0 : decode cX10_pinned 0 = .ok (.iconst 0, 1) := by decide +kernel
theorem dX10_pinned_1 : decode cX10_pinned 1 = .ok (.istore_n 1, 1) := by decide +kernel
theorem dX10_pinned_2 : decode cX10_pinned 2 = .ok (.iconst 0, 1) := by decide +kernel
theorem dX10_pinned_3 : decode cX10_pinned 3 = .ok (.istore_n 2, 1) := by decide +kernel
theorem dX10_pinned_4 : decode cX10_pinned 4 = .ok (.iload_n 2, 1) := by decide +kernel
theorem dX10_pinned_5 : decode cX10_pinned 5 = .ok (.aload_n 0, 1) := by decide +kernel
theorem dX10_pinned_6 : decode cX10_pinned 6 = .ok (.getfield 7, 3) := by decide +kernel
theorem dX10_pinned_9 : decode cX10_pinned 9 = .ok (.iconst 4, 1) := by decide +kernel
theorem dX10_pinned_10 : decode cX10_pinned 10 = .ok (.iaload, 1) := by decide +kernel
theorem dX10_pinned_11 : decode cX10_pinned 11 = .ok (.if_icmp .ge 19, 3) := by decide +kernel
theorem dX10_pinned_14 : decode cX10_pinned 14 = .ok (.iload_n 1, 1) := by decide +kernel
theorem dX10_pinned_15 : decode cX10_pinned 15 = .ok (.aload_n 0, 1) := by decide +kernel
theorem dX10_pinned_16 : decode cX10_pinned 16 = .ok (.iload_n 2, 1) := by decide +kernel
theorem dX10_pinned_17 : decode cX10_pinned 17 = .ok (.bipush 7, 2) := by decide +kernel
theorem dX10_pinned_19 : decode cX10_pinned 19 = .ok (.invokevirtual 47, 3) := by decide +kernel
theorem dX10_pinned_22 : decode cX10_pinned 22 = .ok (.iadd, 1) := by decide +kernel
theorem dX10_pinned_23 : decode cX10_pinned 23 = .ok (.istore_n 1, 1) := by decide +kernel
theorem dX10_pinned_24 : decode cX10_pinned 24 = .ok (.iinc 2 1, 3) := by decide +kernel
theorem dX10_pinned_27 : decode cX10_pinned 27 = .ok (.goto (-23), 3) := by decide +kernel
theorem dX10_pinned_30 : decode cX10_pinned 30 = .ok (.iload_n 1, 1) := by decide +kernel
theorem dX10_pinned_31 : decode cX10_pinned 31 = .ok (.ireturn, 1) := by decide +kernel
theorem dX10_pin_0 : decode cX10_pin 0 = .ok (.aload_n 0, 1) := by decide +kernel
theorem dX10_pin_1 : decode cX10_pin 1 = .ok (.iload_n 1, 1) := by decide +kernel
theorem dX10_pin_2 : decode cX10_pin 2 = .ok (.invokevirtual 138, 3) := by decide +kernel
theorem dX10_pin_5 : decode cX10_pin 5 = .ok (.istore_n 3, 1) := by decide +kernel
theorem dX10_pin_6 : decode cX10_pin 6 = .ok (.iload_n 3, 1) := by decide +kernel
theorem dX10_pin_7 : decode cX10_pin 7 = .ok (.ifCond .lt 12, 3) := by decide +kernel
theorem dX10_pin_10 : decode cX10_pin 10 = .ok (.iload_n 2, 1) := by decide +kernel
theorem dX10_pin_11 : decode cX10_pin 11 = .ok (.iconst 0, 1) := by decide +kernel
theorem dX10_pin_12 : decode cX10_pin 12 = .ok (.iconst 1, 1) := by decide +kernel
theorem dX10_pin_13 : decode cX10_pin 13 = .ok (.invokestatic 26, 3) := by decide +kernel
theorem dX10_pin_16 : decode cX10_pin 16 = .ok (.ifCond .ne 5, 3) := by decide +kernel
theorem dX10_pin_19 : decode cX10_pin 19 = .ok (.iconst (-1), 1) := by decide +kernel
theorem dX10_pin_20 : decode cX10_pin 20 = .ok (.ireturn, 1) := by decide +kernel
theorem dX10_pin_21 : decode cX10_pin 21 = .ok (.aload_n 0, 1) := by decide +kernel
theorem dX10_pin_22 : decode cX10_pin 22 = .ok (.invokevirtual 34, 3) := by decide +kernel
theorem dX10_pin_25 : decode cX10_pin 25 = .ok (.aload_n 0, 1) := by decide +kernel
theorem dX10_pin_26 : decode cX10_pin 26 = .ok (.getfield 7, 3) := by decide +kernel
theorem dX10_pin_29 : decode cX10_pin 29 = .ok (.sipush 367, 3) := by decide +kernel
theorem dX10_pin_32 : decode cX10_pin 32 = .ok (.bipush 9, 2) := by decide +kernel
theorem dX10_pin_34 : decode cX10_pin 34 = .ok (.iload_n 3, 1) := by decide +kernel
theorem dX10_pin_35 : decode cX10_pin 35 = .ok (.imul, 1) := by decide +kernel
theorem dX10_pin_36 : decode cX10_pin 36 = .ok (.iadd, 1) := by decide +kernel
theorem dX10_pin_37 : decode cX10_pin 37 = .ok (.bipush 7, 2) := by decide +kernel
theorem dX10_pin_39 : decode cX10_pin 39 = .ok (.iadd, 1) := by decide +kernel
theorem dX10_pin_40 : decode cX10_pin 40 = .ok (.iload_n 2, 1) := by decide +kernel
theorem dX10_pin_41 : decode cX10_pin 41 = .ok (.iastore, 1) := by decide +kernel
theorem dX10_pin_42 : decode cX10_pin 42 = .ok (.aload_n 0, 1) := by decide +kernel
theorem dX10_pin_43 : decode cX10_pin 43 = .ok (.invokevirtual 141, 3) := by decide +kernel
theorem dX10_pin_46 : decode cX10_pin 46 = .ok (.ireturn, 1) := by decide +kernel
theorem dX10_drop_0 : decode cX10_drop 0 = .ok (.aload_n 0, 1) := by decide +kernel
theorem dX10_drop_1 : decode cX10_drop 1 = .ok (.iload_n 1, 1) := by decide +kernel
theorem dX10_drop_2 : decode cX10_drop 2 = .ok (.invokevirtual 138, 3) := by decide +kernel
theorem dX10_drop_5 : decode cX10_drop 5 = .ok (.istore_n 2, 1) := by decide +kernel
theorem dX10_drop_6 : decode cX10_drop 6 = .ok (.iload_n 2, 1) := by decide +kernel
theorem dX10_drop_7 : decode cX10_drop 7 = .ok (.ifCond .ge 5, 3) := by decide +kernel
theorem dX10_drop_10 : decode cX10_drop 10 = .ok (.iconst (-1), 1) := by decide +kernel
theorem dX10_drop_11 : decode cX10_drop 11 = .ok (.ireturn, 1) := by decide +kernel
theorem dX10_drop_12 : decode cX10_drop 12 = .ok (.aload_n 0, 1) := by decide +kernel
theorem dX10_drop_13 : decode cX10_drop 13 = .ok (.iload_n 2, 1) := by decide +kernel
theorem dX10_drop_14 : decode cX10_drop 14 = .ok (.bipush 7, 2) := by decide +kernel
theorem dX10_drop_16 : decode cX10_drop 16 = .ok (.invokevirtual 47, 3) := by decide +kernel
theorem dX10_drop_19 : decode cX10_drop 19 = .ok (.iconst 1, 1) := by decide +kernel
theorem dX10_drop_20 : decode cX10_drop 20 = .ok (.if_icmp .ne 6, 3) := by decide +kernel
theorem dX10_drop_23 : decode cX10_drop 23 = .ok (.bipush (-2), 2) := by decide +kernel
theorem dX10_drop_25 : decode cX10_drop 25 = .ok (.ireturn, 1) := by decide +kernel
theorem dX10_drop_26 : decode cX10_drop 26 = .ok (.aload_n 0, 1) := by decide +kernel
theorem dX10_drop_27 : decode cX10_drop 27 = .ok (.invokevirtual 34, 3) := by decide +kernel
theorem dX10_drop_30 : decode cX10_drop 30 = .ok (.aload_n 0, 1) := by decide +kernel
theorem dX10_drop_31 : decode cX10_drop 31 = .ok (.iload_n 2, 1) := by decide +kernel
theorem dX10_drop_32 : decode cX10_drop 32 = .ok (.invokevirtual 53, 3) := by decide +kernel
theorem dX10_drop_35 : decode cX10_drop 35 = .ok (.aload_n 0, 1) := by decide +kernel
theorem dX10_drop_36 : decode cX10_drop 36 = .ok (.getfield 7, 3) := by decide +kernel
theorem dX10_drop_39 : decode cX10_drop 39 = .ok (.bipush 10, 2) := by decide +kernel
theorem dX10_drop_41 : decode cX10_drop 41 = .ok (.dup2, 1) := by decide +kernel
theorem dX10_drop_42 : decode cX10_drop 42 = .ok (.iaload, 1) := by decide +kernel
theorem dX10_drop_43 : decode cX10_drop 43 = .ok (.iconst 1, 1) := by decide +kernel
theorem dX10_drop_44 : decode cX10_drop 44 = .ok (.iadd, 1) := by decide +kernel
theorem dX10_drop_45 : decode cX10_drop 45 = .ok (.iastore, 1) := by decide +kernel
theorem dX10_drop_46 : decode cX10_drop 46 = .ok (.aload_n 0, 1) := by decide +kernel
theorem dX10_drop_47 : decode cX10_drop 47 = .ok (.getfield 7, 3) := by decide +kernel
theorem dX10_drop_50 : decode cX10_drop 50 = .ok (.iconst 4, 1) := by decide +kernel
theorem dX10_drop_51 : decode cX10_drop 51 = .ok (.iaload, 1) := by decide +kernel
theorem dX10_drop_52 : decode cX10_drop 52 = .ok (.ireturn, 1) := by decide +kernel
theorem dX10_set_0 : decode cX10_set 0 = .ok (.iload_n 1, 1) := by decide +kernel
theorem dX10_set_1 : decode cX10_set 1 = .ok (.iconst 0, 1) := by decide +kernel
theorem dX10_set_2 : decode cX10_set 2 = .ok (.iconst 4, 1) := by decide +kernel
theorem dX10_set_3 : decode cX10_set 3 = .ok (.invokestatic 26, 3) := by decide +kernel
theorem dX10_set_6 : decode cX10_set 6 = .ok (.ifCond .eq 53, 3) := by decide +kernel
theorem dX10_set_9 : decode cX10_set 9 = .ok (.iload_n 2, 1) := by decide +kernel
theorem dX10_set_10 : decode cX10_set 10 = .ok (.iload_n 1, 1) := by decide +kernel
theorem dX10_set_11 : decode cX10_set 11 = .ok (.iconst 2, 1) := by decide +kernel
theorem dX10_set_12 : decode cX10_set 12 = .ok (.if_icmp .ge 7, 3) := by decide +kernel
theorem dX10_set_15 : decode cX10_set 15 = .ok (.iconst 0, 1) := by decide +kernel
theorem dX10_set_16 : decode cX10_set 16 = .ok (.goto 4, 3) := by decide +kernel
theorem dX10_set_19 : decode cX10_set 19 = .ok (.iconst 1, 1) := by decide +kernel
theorem dX10_set_20 : decode cX10_set 20 = .ok (.iload_n 1, 1) := by decide +kernel
theorem dX10_set_21 : decode cX10_set 21 = .ok (.iconst 2, 1) := by decide +kernel
theorem dX10_set_22 : decode cX10_set 22 = .ok (.if_icmp .ge 9, 3) := by decide +kernel
theorem dX10_set_25 : decode cX10_set 25 = .ok (.sipush 1000, 3) := by decide +kernel
theorem dX10_set_28 : decode cX10_set 28 = .ok (.goto 25, 3) := by decide +kernel
theorem dX10_set_31 : decode cX10_set 31 = .ok (.iload_n 1, 1) := by decide +kernel
theorem dX10_set_32 : decode cX10_set 32 = .ok (.iconst 2, 1) := by decide +kernel
theorem dX10_set_33 : decode cX10_set 33 = .ok (.if_icmp .ne 8, 3) := by decide +kernel
theorem dX10_set_36 : decode cX10_set 36 = .ok (.bipush 99, 2) := by decide +kernel
theorem dX10_set_38 : decode cX10_set 38 = .ok (.goto 15, 3) := by decide +kernel
theorem dX10_set_41 : decode cX10_set 41 = .ok (.iload_n 1, 1) := by decide +kernel
theorem dX10_set_42 : decode cX10_set 42 = .ok (.iconst 3, 1) := by decide +kernel
theorem dX10_set_43 : decode cX10_set 43 = .ok (.if_icmp .ne 8, 3) := by decide +kernel
theorem dX10_set_46 : decode cX10_set 46 = .ok (.bipush 9, 2) := by decide +kernel
theorem dX10_set_48 : decode cX10_set 48 = .ok (.goto 5, 3) := by decide +kernel
theorem dX10_set_51 : decode cX10_set 51 = .ok (.bipush 8, 2) := by decide +kernel
theorem dX10_set_53 : decode cX10_set 53 = .ok (.invokestatic 26, 3) := by decide +kernel
theorem dX10_set_56 : decode cX10_set 56 = .ok (.ifCond .ne 5, 3) := by decide +kernel
theorem dX10_set_59 : decode cX10_set 59 = .ok (.iconst (-1), 1) := by decide +kernel
theorem dX10_set_60 : decode cX10_set 60 = .ok (.ireturn, 1) := by decide +kernel
theorem dX10_set_61 : decode cX10_set 61 = .ok (.aload_n 0, 1) := by decide +kernel
theorem dX10_set_62 : decode cX10_set 62 = .ok (.invokevirtual 34, 3) := by decide +kernel
theorem dX10_set_65 : decode cX10_set 65 = .ok (.aload_n 0, 1) := by decide +kernel
theorem dX10_set_66 : decode cX10_set 66 = .ok (.getfield 7, 3) := by decide +kernel
theorem dX10_set_69 : decode cX10_set 69 = .ok (.bipush 11, 2) := by decide +kernel
theorem dX10_set_71 : decode cX10_set 71 = .ok (.iload_n 1, 1) := by decide +kernel
theorem dX10_set_72 : decode cX10_set 72 = .ok (.iadd, 1) := by decide +kernel
theorem dX10_set_73 : decode cX10_set 73 = .ok (.iaload, 1) := by decide +kernel
theorem dX10_set_74 : decode cX10_set 74 = .ok (.istore_n 3, 1) := by decide +kernel
theorem dX10_set_75 : decode cX10_set 75 = .ok (.aload_n 0, 1) := by decide +kernel
theorem dX10_set_76 : decode cX10_set 76 = .ok (.getfield 7, 3) := by decide +kernel
theorem dX10_set_79 : decode cX10_set 79 = .ok (.bipush 11, 2) := by decide +kernel
theorem dX10_set_81 : decode cX10_set 81 = .ok (.iload_n 1, 1) := by decide +kernel
theorem dX10_set_82 : decode cX10_set 82 = .ok (.iadd, 1) := by decide +kernel
theorem dX10_set_83 : decode cX10_set 83 = .ok (.iload_n 2, 1) := by decide +kernel
theorem dX10_set_84 : decode cX10_set 84 = .ok (.iastore, 1) := by decide +kernel
theorem dX10_set_85 : decode cX10_set 85 = .ok (.iload_n 3, 1) := by decide +kernel
theorem dX10_set_86 : decode cX10_set 86 = .ok (.ireturn, 1) := by decide +kernel
theorem dX10_planOf_0 : decode cX10_planOf 0 = .ok (.aload_n 0, 1) := by decide +kernel
theorem dX10_planOf_1 : decode cX10_planOf 1 = .ok (.iload_n 1, 1) := by decide +kernel
theorem dX10_planOf_2 : decode cX10_planOf 2 = .ok (.invokevirtual 138, 3) := by decide +kernel
theorem dX10_planOf_5 : decode cX10_planOf 5 = .ok (.istore_n 3, 1) := by decide +kernel
theorem dX10_planOf_6 : decode cX10_planOf 6 = .ok (.iload_n 3, 1) := by decide +kernel
theorem dX10_planOf_7 : decode cX10_planOf 7 = .ok (.ifCond .lt 13, 3) := by decide +kernel
theorem dX10_planOf_10 : decode cX10_planOf 10 = .ok (.iload_n 2, 1) := by decide +kernel
theorem dX10_planOf_11 : decode cX10_planOf 11 = .ok (.iconst 0, 1) := by decide +kernel
theorem dX10_planOf_12 : decode cX10_planOf 12 = .ok (.bipush 7, 2) := by decide +kernel
theorem dX10_planOf_14 : decode cX10_planOf 14 = .ok (.invokestatic 26, 3) := by decide +kernel
theorem dX10_planOf_17 : decode cX10_planOf 17 = .ok (.ifCond .ne 5, 3) := by decide +kernel
theorem dX10_planOf_20 : decode cX10_planOf 20 = .ok (.iconst (-1), 1) := by decide +kernel
theorem dX10_planOf_21 : decode cX10_planOf 21 = .ok (.ireturn, 1) := by decide +kernel
theorem dX10_planOf_22 : decode cX10_planOf 22 = .ok (.iload_n 2, 1) := by decide +kernel
theorem dX10_planOf_23 : decode cX10_planOf 23 = .ok (.bipush 7, 2) := by decide +kernel
theorem dX10_planOf_25 : decode cX10_planOf 25 = .ok (.if_icmp .ge 14, 3) := by decide +kernel
theorem dX10_planOf_28 : decode cX10_planOf 28 = .ok (.aload_n 0, 1) := by decide +kernel
theorem dX10_planOf_29 : decode cX10_planOf 29 = .ok (.iload_n 3, 1) := by decide +kernel
theorem dX10_planOf_30 : decode cX10_planOf 30 = .ok (.iload_n 2, 1) := by decide +kernel
theorem dX10_planOf_31 : decode cX10_planOf 31 = .ok (.iconst 1, 1) := by decide +kernel
theorem dX10_planOf_32 : decode cX10_planOf 32 = .ok (.iadd, 1) := by decide +kernel
theorem dX10_planOf_33 : decode cX10_planOf 33 = .ok (.invokevirtual 47, 3) := by decide +kernel
theorem dX10_planOf_36 : decode cX10_planOf 36 = .ok (.goto 18, 3) := by decide +kernel
theorem dX10_planOf_39 : decode cX10_planOf 39 = .ok (.aload_n 0, 1) := by decide +kernel
theorem dX10_planOf_40 : decode cX10_planOf 40 = .ok (.getfield 7, 3) := by decide +kernel
theorem dX10_planOf_43 : decode cX10_planOf 43 = .ok (.bipush 6, 2) := by decide +kernel
theorem dX10_planOf_45 : decode cX10_planOf 45 = .ok (.iaload, 1) := by decide +kernel
theorem dX10_planOf_46 : decode cX10_planOf 46 = .ok (.aload_n 0, 1) := by decide +kernel
theorem dX10_planOf_47 : decode cX10_planOf 47 = .ok (.iload_n 3, 1) := by decide +kernel
theorem dX10_planOf_48 : decode cX10_planOf 48 = .ok (.bipush 8, 2) := by decide +kernel
theorem dX10_planOf_50 : decode cX10_planOf 50 = .ok (.invokevirtual 47, 3) := by decide +kernel
theorem dX10_planOf_53 : decode cX10_planOf 53 = .ok (.isub, 1) := by decide +kernel
theorem dX10_planOf_54 : decode cX10_planOf 54 = .ok (.ireturn, 1) := by decide +kernel
theorem dX10_planFor_0 : decode cX10_planFor 0 = .ok (.aload_n 0, 1) := by decide +kernel
theorem dX10_planFor_1 : decode cX10_planFor 1 = .ok (.iload_n 1, 1) := by decide +kernel
theorem dX10_planFor_2 : decode cX10_planFor 2 = .ok (.invokevirtual 88, 3) := by decide +kernel
theorem dX10_planFor_5 : decode cX10_planFor 5 = .ok (.ifCond .eq 13, 3) := by decide +kernel
theorem dX10_planFor_8 : decode cX10_planFor 8 = .ok (.iload_n 2, 1) := by decide +kernel
theorem dX10_planFor_9 : decode cX10_planFor 9 = .ok (.iconst 0, 1) := by decide +kernel
theorem dX10_planFor_10 : decode cX10_planFor 10 = .ok (.bipush 80, 2) := by decide +kernel
theorem dX10_planFor_12 : decode cX10_planFor 12 = .ok (.invokestatic 26, 3) := by decide +kernel
theorem dX10_planFor_15 : decode cX10_planFor 15 = .ok (.ifCond .ne 5, 3) := by decide +kernel
theorem dX10_planFor_18 : decode cX10_planFor 18 = .ok (.iconst (-1), 1) := by decide +kernel
theorem dX10_planFor_19 : decode cX10_planFor 19 = .ok (.ireturn, 1) := by decide +kernel
theorem dX10_planFor_20 : decode cX10_planFor 20 = .ok (.aload_n 0, 1) := by decide +kernel
theorem dX10_planFor_21 : decode cX10_planFor 21 = .ok (.iload_n 1, 1) := by decide +kernel
theorem dX10_planFor_22 : decode cX10_planFor 22 = .ok (.iload_n 2, 1) := by decide +kernel
theorem dX10_planFor_23 : decode cX10_planFor 23 = .ok (.invokevirtual 114, 3) := by decide +kernel
theorem dX10_planFor_26 : decode cX10_planFor 26 = .ok (.istore_n 3, 1) := by decide +kernel
theorem dX10_planFor_27 : decode cX10_planFor 27 = .ok (.iload_n 3, 1) := by decide +kernel
theorem dX10_planFor_28 : decode cX10_planFor 28 = .ok (.ifCond .ge 8, 3) := by decide +kernel
theorem dX10_planFor_31 : decode cX10_planFor 31 = .ok (.bipush (-4), 2) := by decide +kernel
theorem dX10_planFor_33 : decode cX10_planFor 33 = .ok (.goto 9, 3) := by decide +kernel
theorem dX10_planFor_36 : decode cX10_planFor 36 = .ok (.aload_n 0, 1) := by decide +kernel
theorem dX10_planFor_37 : decode cX10_planFor 37 = .ok (.iload_n 3, 1) := by decide +kernel
theorem dX10_planFor_38 : decode cX10_planFor 38 = .ok (.iconst 0, 1) := by decide +kernel
theorem dX10_planFor_39 : decode cX10_planFor 39 = .ok (.invokevirtual 47, 3) := by decide +kernel
theorem dX10_planFor_42 : decode cX10_planFor 42 = .ok (.ireturn, 1) := by decide +kernel
theorem dX10_dropsNext_0 : decode cX10_dropsNext 0 = .ok (.iload_n 1, 1) := by decide +kernel
theorem dX10_dropsNext_1 : decode cX10_dropsNext 1 = .ok (.ifCond .ge 5, 3) := by decide +kernel
theorem dX10_dropsNext_4 : decode cX10_dropsNext 4 = .ok (.iconst (-1), 1) := by decide +kernel
theorem dX10_dropsNext_5 : decode cX10_dropsNext 5 = .ok (.ireturn, 1) := by decide +kernel
theorem dX10_dropsNext_6 : decode cX10_dropsNext 6 = .ok (.aload_n 0, 1) := by decide +kernel
theorem dX10_dropsNext_7 : decode cX10_dropsNext 7 = .ok (.iload_n 1, 1) := by decide +kernel
theorem dX10_dropsNext_8 : decode cX10_dropsNext 8 = .ok (.invokevirtual 108, 3) := by decide +kernel
theorem dX10_dropsNext_11 : decode cX10_dropsNext 11 = .ok (.istore_n 2, 1) := by decide +kernel
theorem dX10_dropsNext_12 : decode cX10_dropsNext 12 = .ok (.iload_n 2, 1) := by decide +kernel
theorem dX10_dropsNext_13 : decode cX10_dropsNext 13 = .ok (.ifCond .ge 8, 3) := by decide +kernel
theorem dX10_dropsNext_16 : decode cX10_dropsNext 16 = .ok (.bipush (-4), 2) := by decide +kernel
theorem dX10_dropsNext_18 : decode cX10_dropsNext 18 = .ok (.goto 9, 3) := by decide +kernel
theorem dX10_dropsNext_21 : decode cX10_dropsNext 21 = .ok (.aload_n 0, 1) := by decide +kernel
theorem dX10_dropsNext_22 : decode cX10_dropsNext 22 = .ok (.iload_n 2, 1) := by decide +kernel
theorem dX10_dropsNext_23 : decode cX10_dropsNext 23 = .ok (.iconst 0, 1) := by decide +kernel
theorem dX10_dropsNext_24 : decode cX10_dropsNext 24 = .ok (.invokevirtual 47, 3) := by decide +kernel
theorem dX10_dropsNext_27 : decode cX10_dropsNext 27 = .ok (.ireturn, 1) := by decide +kernel
theorem dX10_count_0 : decode cX10_count 0 = .ok (.iload_n 1, 1) := by decide +kernel
theorem dX10_count_1 : decode cX10_count 1 = .ok (.tableswitch 139 0 13 #[71, 78, 83, 90, 97, 104, 111, 116, 116, 116, 116, 116, 129, 134], 71) := by decide +kernel
theorem dX10_count_72 : decode cX10_count 72 = .ok (.aload_n 0, 1) := by decide +kernel
theorem dX10_count_73 : decode cX10_count 73 = .ok (.getfield 7, 3) := by decide +kernel
theorem dX10_count_76 : decode cX10_count 76 = .ok (.iconst 0, 1) := by decide +kernel
theorem dX10_count_77 : decode cX10_count 77 = .ok (.iaload, 1) := by decide +kernel
theorem dX10_count_78 : decode cX10_count 78 = .ok (.ireturn, 1) := by decide +kernel
theorem dX10_count_79 : decode cX10_count 79 = .ok (.aload_n 0, 1) := by decide +kernel
theorem dX10_count_80 : decode cX10_count 80 = .ok (.invokevirtual 57, 3) := by decide +kernel
theorem dX10_count_83 : decode cX10_count 83 = .ok (.ireturn, 1) := by decide +kernel
theorem dX10_count_84 : decode cX10_count 84 = .ok (.aload_n 0, 1) := by decide +kernel
theorem dX10_count_85 : decode cX10_count 85 = .ok (.getfield 7, 3) := by decide +kernel
theorem dX10_count_88 : decode cX10_count 88 = .ok (.iconst 2, 1) := by decide +kernel
theorem dX10_count_89 : decode cX10_count 89 = .ok (.iaload, 1) := by decide +kernel
theorem dX10_count_90 : decode cX10_count 90 = .ok (.ireturn, 1) := by decide +kernel
theorem dX10_count_91 : decode cX10_count 91 = .ok (.aload_n 0, 1) := by decide +kernel
theorem dX10_count_92 : decode cX10_count 92 = .ok (.getfield 7, 3) := by decide +kernel
theorem dX10_count_95 : decode cX10_count 95 = .ok (.iconst 1, 1) := by decide +kernel
theorem dX10_count_96 : decode cX10_count 96 = .ok (.iaload, 1) := by decide +kernel
theorem dX10_count_97 : decode cX10_count 97 = .ok (.ireturn, 1) := by decide +kernel
theorem dX10_count_98 : decode cX10_count 98 = .ok (.aload_n 0, 1) := by decide +kernel
theorem dX10_count_99 : decode cX10_count 99 = .ok (.getfield 7, 3) := by decide +kernel
theorem dX10_count_102 : decode cX10_count 102 = .ok (.iconst 3, 1) := by decide +kernel
theorem dX10_count_103 : decode cX10_count 103 = .ok (.iaload, 1) := by decide +kernel
theorem dX10_count_104 : decode cX10_count 104 = .ok (.ireturn, 1) := by decide +kernel
theorem dX10_count_105 : decode cX10_count 105 = .ok (.aload_n 0, 1) := by decide +kernel
theorem dX10_count_106 : decode cX10_count 106 = .ok (.getfield 7, 3) := by decide +kernel
theorem dX10_count_109 : decode cX10_count 109 = .ok (.iconst 4, 1) := by decide +kernel
theorem dX10_count_110 : decode cX10_count 110 = .ok (.iaload, 1) := by decide +kernel
theorem dX10_count_111 : decode cX10_count 111 = .ok (.ireturn, 1) := by decide +kernel
theorem dX10_count_112 : decode cX10_count 112 = .ok (.aload_n 0, 1) := by decide +kernel
theorem dX10_count_113 : decode cX10_count 113 = .ok (.invokevirtual 141, 3) := by decide +kernel
theorem dX10_count_116 : decode cX10_count 116 = .ok (.ireturn, 1) := by decide +kernel
theorem dX10_count_117 : decode cX10_count 117 = .ok (.aload_n 0, 1) := by decide +kernel
theorem dX10_count_118 : decode cX10_count 118 = .ok (.getfield 7, 3) := by decide +kernel
theorem dX10_count_121 : decode cX10_count 121 = .ok (.bipush 6, 2) := by decide +kernel
theorem dX10_count_123 : decode cX10_count 123 = .ok (.iload_n 1, 1) := by decide +kernel
theorem dX10_count_124 : decode cX10_count 124 = .ok (.iadd, 1) := by decide +kernel
theorem dX10_count_125 : decode cX10_count 125 = .ok (.bipush 7, 2) := by decide +kernel
theorem dX10_count_127 : decode cX10_count 127 = .ok (.isub, 1) := by decide +kernel
theorem dX10_count_128 : decode cX10_count 128 = .ok (.iaload, 1) := by decide +kernel
theorem dX10_count_129 : decode cX10_count 129 = .ok (.ireturn, 1) := by decide +kernel
theorem dX10_count_130 : decode cX10_count 130 = .ok (.aload_n 0, 1) := by decide +kernel
theorem dX10_count_131 : decode cX10_count 131 = .ok (.getfield 22, 3) := by decide +kernel
theorem dX10_count_134 : decode cX10_count 134 = .ok (.ireturn, 1) := by decide +kernel
theorem dX10_count_135 : decode cX10_count 135 = .ok (.aload_n 0, 1) := by decide +kernel
theorem dX10_count_136 : decode cX10_count 136 = .ok (.getfield 64, 3) := by decide +kernel
theorem dX10_count_139 : decode cX10_count 139 = .ok (.ireturn, 1) := by decide +kernel
theorem dX10_count_140 : decode cX10_count 140 = .ok (.iload_n 1, 1) := by decide +kernel
theorem dX10_count_141 : decode cX10_count 141 = .ok (.bipush 20, 2) := by decide +kernel
theorem dX10_count_143 : decode cX10_count 143 = .ok (.bipush 24, 2) := by decide +kernel
theorem dX10_count_145 : decode cX10_count 145 = .ok (.invokestatic 26, 3) := by decide +kernel
theorem dX10_count_148 : decode cX10_count 148 = .ok (.ifCond .eq 18, 3) := by decide +kernel
theorem dX10_count_151 : decode cX10_count 151 = .ok (.aload_n 0, 1) := by decide +kernel
theorem dX10_count_152 : decode cX10_count 152 = .ok (.getfield 7, 3) := by decide +kernel
theorem dX10_count_155 : decode cX10_count 155 = .ok (.bipush 11, 2) := by decide +kernel
theorem dX10_count_157 : decode cX10_count 157 = .ok (.iload_n 1, 1) := by decide +kernel
theorem dX10_count_158 : decode cX10_count 158 = .ok (.iadd, 1) := by decide +kernel
theorem dX10_count_159 : decode cX10_count 159 = .ok (.bipush 20, 2) := by decide +kernel
theorem dX10_count_161 : decode cX10_count 161 = .ok (.isub, 1) := by decide +kernel
theorem dX10_count_162 : decode cX10_count 162 = .ok (.iaload, 1) := by decide +kernel
theorem dX10_count_163 : decode cX10_count 163 = .ok (.goto 4, 3) := by decide +kernel
theorem dX10_count_166 : decode cX10_count 166 = .ok (.iconst (-1), 1) := by decide +kernel
theorem dX10_count_167 : decode cX10_count 167 = .ok (.ireturn, 1) := by decide +kernel
theorem dX10_classOf_0 : decode cX10_classOf 0 = .ok (.aload_n 0, 1) := by decide +kernel
theorem dX10_classOf_1 : decode cX10_classOf 1 = .ok (.iload_n 1, 1) := by decide +kernel
theorem dX10_classOf_2 : decode cX10_classOf 2 = .ok (.iload_n 2, 1) := by decide +kernel
theorem dX10_classOf_3 : decode cX10_classOf 3 = .ok (.iload_n 3, 1) := by decide +kernel
theorem dX10_classOf_4 : decode cX10_classOf 4 = .ok (.iload 4, 2) := by decide +kernel
theorem dX10_classOf_6 : decode cX10_classOf 6 = .ok (.iload 5, 2) := by decide +kernel
theorem dX10_classOf_8 : decode cX10_classOf 8 = .ok (.invokevirtual 131, 3) := by decide +kernel
theorem dX10_classOf_11 : decode cX10_classOf 11 = .ok (.ifCond .eq 11, 3) := by decide +kernel
theorem dX10_classOf_14 : decode cX10_classOf 14 = .ok (.aload_n 0, 1) := by decide +kernel
theorem dX10_classOf_15 : decode cX10_classOf 15 = .ok (.iload_n 1, 1) := by decide +kernel
theorem dX10_classOf_16 : decode cX10_classOf 16 = .ok (.invokevirtual 111, 3) := by decide +kernel
theorem dX10_classOf_19 : decode cX10_classOf 19 = .ok (.goto 4, 3) := by decide +kernel
theorem dX10_classOf_22 : decode cX10_classOf 22 = .ok (.iconst (-1), 1) := by decide +kernel
theorem dX10_classOf_23 : decode cX10_classOf 23 = .ok (.ireturn, 1) := by decide +kernel
theorem dX10_way_0 : decode cX10_way 0 = .ok (.aload_n 0, 1) := by decide +kernel
theorem dX10_way_1 : decode cX10_way 1 = .ok (.iload_n 1, 1) := by decide +kernel
theorem dX10_way_2 : decode cX10_way 2 = .ok (.iload_n 2, 1) := by decide +kernel
theorem dX10_way_3 : decode cX10_way 3 = .ok (.iload_n 3, 1) := by decide +kernel
theorem dX10_way_4 : decode cX10_way 4 = .ok (.iload 4, 2) := by decide +kernel
theorem dX10_way_6 : decode cX10_way 6 = .ok (.iload 5, 2) := by decide +kernel
theorem dX10_way_8 : decode cX10_way 8 = .ok (.invokevirtual 131, 3) := by decide +kernel
theorem dX10_way_11 : decode cX10_way 11 = .ok (.ifCond .eq 12, 3) := by decide +kernel
theorem dX10_way_14 : decode cX10_way 14 = .ok (.aload_n 0, 1) := by decide +kernel
theorem dX10_way_15 : decode cX10_way 15 = .ok (.iload_n 1, 1) := by decide +kernel
theorem dX10_way_16 : decode cX10_way 16 = .ok (.iconst 0, 1) := by decide +kernel
theorem dX10_way_17 : decode cX10_way 17 = .ok (.invokevirtual 117, 3) := by decide +kernel
theorem dX10_way_20 : decode cX10_way 20 = .ok (.goto 4, 3) := by decide +kernel
theorem dX10_way_23 : decode cX10_way 23 = .ok (.iconst (-1), 1) := by decide +kernel
theorem dX10_way_24 : decode cX10_way 24 = .ok (.ireturn, 1) := by decide +kernel
theorem dX10_bestCost_0 : decode cX10_bestCost 0 = .ok (.aload_n 0, 1) := by decide +kernel
theorem dX10_bestCost_1 : decode cX10_bestCost 1 = .ok (.getfield 7, 3) := by decide +kernel
theorem dX10_bestCost_4 : decode cX10_bestCost 4 = .ok (.bipush 16, 2) := by decide +kernel
theorem dX10_bestCost_6 : decode cX10_bestCost 6 = .ok (.iaload, 1) := by decide +kernel
theorem dX10_bestCost_7 : decode cX10_bestCost 7 = .ok (.istore_n 1, 1) := by decide +kernel
theorem dX10_bestCost_8 : decode cX10_bestCost 8 = .ok (.iload_n 1, 1) := by decide +kernel
theorem dX10_bestCost_9 : decode cX10_bestCost 9 = .ok (.ifCond .ge 6, 3) := by decide +kernel
theorem dX10_bestCost_12 : decode cX10_bestCost 12 = .ok (.bipush (-4), 2) := by decide +kernel
theorem dX10_bestCost_14 : decode cX10_bestCost 14 = .ok (.ireturn, 1) := by decide +kernel
theorem dX10_bestCost_15 : decode cX10_bestCost 15 = .ok (.aload_n 0, 1) := by decide +kernel
theorem dX10_bestCost_16 : decode cX10_bestCost 16 = .ok (.iload_n 1, 1) := by decide +kernel
theorem dX10_bestCost_17 : decode cX10_bestCost 17 = .ok (.aload_n 0, 1) := by decide +kernel
theorem dX10_bestCost_18 : decode cX10_bestCost 18 = .ok (.getfield 7, 3) := by decide +kernel
theorem dX10_bestCost_21 : decode cX10_bestCost 21 = .ok (.bipush 17, 2) := by decide +kernel
theorem dX10_bestCost_23 : decode cX10_bestCost 23 = .ok (.iaload, 1) := by decide +kernel
theorem dX10_bestCost_24 : decode cX10_bestCost 24 = .ok (.aload_n 0, 1) := by decide +kernel
theorem dX10_bestCost_25 : decode cX10_bestCost 25 = .ok (.getfield 7, 3) := by decide +kernel
theorem dX10_bestCost_28 : decode cX10_bestCost 28 = .ok (.bipush 18, 2) := by decide +kernel
theorem dX10_bestCost_30 : decode cX10_bestCost 30 = .ok (.iaload, 1) := by decide +kernel
theorem dX10_bestCost_31 : decode cX10_bestCost 31 = .ok (.aload_n 0, 1) := by decide +kernel
theorem dX10_bestCost_32 : decode cX10_bestCost 32 = .ok (.getfield 7, 3) := by decide +kernel
theorem dX10_bestCost_35 : decode cX10_bestCost 35 = .ok (.bipush 19, 2) := by decide +kernel
theorem dX10_bestCost_37 : decode cX10_bestCost 37 = .ok (.iaload, 1) := by decide +kernel
theorem dX10_bestCost_38 : decode cX10_bestCost 38 = .ok (.aload_n 0, 1) := by decide +kernel
theorem dX10_bestCost_39 : decode cX10_bestCost 39 = .ok (.getfield 7, 3) := by decide +kernel
theorem dX10_bestCost_42 : decode cX10_bestCost 42 = .ok (.bipush 20, 2) := by decide +kernel
theorem dX10_bestCost_44 : decode cX10_bestCost 44 = .ok (.iaload, 1) := by decide +kernel
theorem dX10_bestCost_45 : decode cX10_bestCost 45 = .ok (.invokevirtual 131, 3) := by decide +kernel
theorem dX10_bestCost_48 : decode cX10_bestCost 48 = .ok (.istore_n 2, 1) := by decide +kernel
theorem dX10_bestCost_49 : decode cX10_bestCost 49 = .ok (.iload_n 2, 1) := by decide +kernel
theorem dX10_bestCost_50 : decode cX10_bestCost 50 = .ok (.ifCond .eq 18, 3) := by decide +kernel
theorem dX10_bestCost_53 : decode cX10_bestCost 53 = .ok (.aload_n 0, 1) := by decide +kernel
theorem dX10_bestCost_54 : decode cX10_bestCost 54 = .ok (.iload_n 1, 1) := by decide +kernel
theorem dX10_bestCost_55 : decode cX10_bestCost 55 = .ok (.aload_n 0, 1) := by decide +kernel
theorem dX10_bestCost_56 : decode cX10_bestCost 56 = .ok (.iload_n 1, 1) := by decide +kernel
theorem dX10_bestCost_57 : decode cX10_bestCost 57 = .ok (.iconst 1, 1) := by decide +kernel
theorem dX10_bestCost_58 : decode cX10_bestCost 58 = .ok (.invokevirtual 117, 3) := by decide +kernel
theorem dX10_bestCost_61 : decode cX10_bestCost 61 = .ok (.iconst 1, 1) := by decide +kernel
theorem dX10_bestCost_62 : decode cX10_bestCost 62 = .ok (.invokevirtual 101, 3) := by decide +kernel
theorem dX10_bestCost_65 : decode cX10_bestCost 65 = .ok (.goto 5, 3) := by decide +kernel
theorem dX10_bestCost_68 : decode cX10_bestCost 68 = .ok (.bipush (-4), 2) := by decide +kernel
theorem dX10_bestCost_70 : decode cX10_bestCost 70 = .ok (.ireturn, 1) := by decide +kernel
theorem dX10_undo_0 : decode cX10_undo 0 = .ok (.aload_n 0, 1) := by decide +kernel
theorem dX10_undo_1 : decode cX10_undo 1 = .ok (.getfield 22, 3) := by decide +kernel
theorem dX10_undo_4 : decode cX10_undo 4 = .ok (.ifCond .ne 6, 3) := by decide +kernel
theorem dX10_undo_7 : decode cX10_undo 7 = .ok (.bipush (-2), 2) := by decide +kernel
theorem dX10_undo_9 : decode cX10_undo 9 = .ok (.ireturn, 1) := by decide +kernel
theorem dX10_undo_10 : decode cX10_undo 10 = .ok (.aload_n 0, 1) := by decide +kernel
theorem dX10_undo_11 : decode cX10_undo 11 = .ok (.dup, 1) := by decide +kernel
theorem dX10_undo_12 : decode cX10_undo 12 = .ok (.getfield 22, 3) := by decide +kernel
theorem dX10_undo_15 : decode cX10_undo 15 = .ok (.iconst 1, 1) := by decide +kernel
theorem dX10_undo_16 : decode cX10_undo 16 = .ok (.isub, 1) := by decide +kernel
theorem dX10_undo_17 : decode cX10_undo 17 = .ok (.putfield 22, 3) := by decide +kernel
theorem dX10_undo_20 : decode cX10_undo 20 = .ok (.iconst 0, 1) := by decide +kernel
theorem dX10_undo_21 : decode cX10_undo 21 = .ok (.istore_n 1, 1) := by decide +kernel
theorem dX10_undo_22 : decode cX10_undo 22 = .ok (.iload_n 1, 1) := by decide +kernel
theorem dX10_undo_23 : decode cX10_undo 23 = .ok (.sipush 439, 3) := by decide +kernel
theorem dX10_undo_26 : decode cX10_undo 26 = .ok (.if_icmp .ge 30, 3) := by decide +kernel
theorem dX10_undo_29 : decode cX10_undo 29 = .ok (.aload_n 0, 1) := by decide +kernel
theorem dX10_undo_30 : decode cX10_undo 30 = .ok (.getfield 7, 3) := by decide +kernel
theorem dX10_undo_33 : decode cX10_undo 33 = .ok (.iload_n 1, 1) := by decide +kernel
theorem dX10_undo_34 : decode cX10_undo 34 = .ok (.aload_n 0, 1) := by decide +kernel
theorem dX10_undo_35 : decode cX10_undo 35 = .ok (.getfield 13, 3) := by decide +kernel
theorem dX10_undo_38 : decode cX10_undo 38 = .ok (.sipush 439, 3) := by decide +kernel
theorem dX10_undo_41 : decode cX10_undo 41 = .ok (.aload_n 0, 1) := by decide +kernel
theorem dX10_undo_42 : decode cX10_undo 42 = .ok (.getfield 22, 3) := by decide +kernel
theorem dX10_undo_45 : decode cX10_undo 45 = .ok (.imul, 1) := by decide +kernel
theorem dX10_undo_46 : decode cX10_undo 46 = .ok (.iload_n 1, 1) := by decide +kernel
theorem dX10_undo_47 : decode cX10_undo 47 = .ok (.iadd, 1) := by decide +kernel
theorem dX10_undo_48 : decode cX10_undo 48 = .ok (.iaload, 1) := by decide +kernel
theorem dX10_undo_49 : decode cX10_undo 49 = .ok (.iastore, 1) := by decide +kernel
theorem dX10_undo_50 : decode cX10_undo 50 = .ok (.iinc 1 1, 3) := by decide +kernel
theorem dX10_undo_53 : decode cX10_undo 53 = .ok (.goto (-31), 3) := by decide +kernel
theorem dX10_undo_56 : decode cX10_undo 56 = .ok (.aload_n 0, 1) := by decide +kernel
theorem dX10_undo_57 : decode cX10_undo 57 = .ok (.getfield 22, 3) := by decide +kernel
theorem dX10_undo_60 : decode cX10_undo 60 = .ok (.ireturn, 1) := by decide +kernel
theorem dX10_type_0 : decode cX10_type 0 = .ok (.iload_n 1, 1) := by decide +kernel
theorem dX10_type_1 : decode cX10_type 1 = .ok (.bipush 32, 2) := by decide +kernel
theorem dX10_type_3 : decode cX10_type 3 = .ok (.bipush 126, 2) := by decide +kernel
theorem dX10_type_5 : decode cX10_type 5 = .ok (.invokestatic 26, 3) := by decide +kernel
theorem dX10_type_8 : decode cX10_type 8 = .ok (.ifCond .ne 5, 3) := by decide +kernel
theorem dX10_type_11 : decode cX10_type 11 = .ok (.iconst (-1), 1) := by decide +kernel
theorem dX10_type_12 : decode cX10_type 12 = .ok (.ireturn, 1) := by decide +kernel
theorem dX10_type_13 : decode cX10_type 13 = .ok (.aload_n 0, 1) := by decide +kernel
theorem dX10_type_14 : decode cX10_type 14 = .ok (.getfield 64, 3) := by decide +kernel
theorem dX10_type_17 : decode cX10_type 17 = .ok (.bipush 30, 2) := by decide +kernel
theorem dX10_type_19 : decode cX10_type 19 = .ok (.if_icmp .ne 6, 3) := by decide +kernel
theorem dX10_type_22 : decode cX10_type 22 = .ok (.bipush (-3), 2) := by decide +kernel
theorem dX10_type_24 : decode cX10_type 24 = .ok (.ireturn, 1) := by decide +kernel
theorem dX10_type_25 : decode cX10_type 25 = .ok (.aload_n 0, 1) := by decide +kernel
theorem dX10_type_26 : decode cX10_type 26 = .ok (.getfield 16, 3) := by decide +kernel
theorem dX10_type_29 : decode cX10_type 29 = .ok (.aload_n 0, 1) := by decide +kernel
theorem dX10_type_30 : decode cX10_type 30 = .ok (.getfield 64, 3) := by decide +kernel
theorem dX10_type_33 : decode cX10_type 33 = .ok (.iload_n 1, 1) := by decide +kernel
theorem dX10_type_34 : decode cX10_type 34 = .ok (.iastore, 1) := by decide +kernel
theorem dX10_type_35 : decode cX10_type 35 = .ok (.aload_n 0, 1) := by decide +kernel
theorem dX10_type_36 : decode cX10_type 36 = .ok (.dup, 1) := by decide +kernel
theorem dX10_type_37 : decode cX10_type 37 = .ok (.getfield 64, 3) := by decide +kernel
theorem dX10_type_40 : decode cX10_type 40 = .ok (.iconst 1, 1) := by decide +kernel
theorem dX10_type_41 : decode cX10_type 41 = .ok (.iadd, 1) := by decide +kernel
theorem dX10_type_42 : decode cX10_type 42 = .ok (.putfield 64, 3) := by decide +kernel
theorem dX10_type_45 : decode cX10_type 45 = .ok (.aload_n 0, 1) := by decide +kernel
theorem dX10_type_46 : decode cX10_type 46 = .ok (.getfield 64, 3) := by decide +kernel
theorem dX10_type_49 : decode cX10_type 49 = .ok (.ireturn, 1) := by decide +kernel
theorem dX10_clearText_0 : decode cX10_clearText 0 = .ok (.aload_n 0, 1) := by decide +kernel
theorem dX10_clearText_1 : decode cX10_clearText 1 = .ok (.getfield 64, 3) := by decide +kernel
theorem dX10_clearText_4 : decode cX10_clearText 4 = .ok (.istore_n 1, 1) := by decide +kernel
theorem dX10_clearText_5 : decode cX10_clearText 5 = .ok (.aload_n 0, 1) := by decide +kernel
theorem dX10_clearText_6 : decode cX10_clearText 6 = .ok (.iconst 0, 1) := by decide +kernel
theorem dX10_clearText_7 : decode cX10_clearText 7 = .ok (.putfield 64, 3) := by decide +kernel
theorem dX10_clearText_10 : decode cX10_clearText 10 = .ok (.iload_n 1, 1) := by decide +kernel
theorem dX10_clearText_11 : decode cX10_clearText 11 = .ok (.ireturn, 1) := by decide +kernel
theorem dX10_fault_0 : decode cX10_fault 0 = .ok (.iload_n 1, 1) := by decide +kernel
theorem dX10_fault_1 : decode cX10_fault 1 = .ok (.iconst 0, 1) := by decide +kernel
theorem dX10_fault_2 : decode cX10_fault 2 = .ok (.iconst 1, 1) := by decide +kernel
theorem dX10_fault_3 : decode cX10_fault 3 = .ok (.invokestatic 26, 3) := by decide +kernel
theorem dX10_fault_6 : decode cX10_fault 6 = .ok (.ifCond .ne 5, 3) := by decide +kernel
theorem dX10_fault_9 : decode cX10_fault 9 = .ok (.iconst (-1), 1) := by decide +kernel
theorem dX10_fault_10 : decode cX10_fault 10 = .ok (.ireturn, 1) := by decide +kernel
theorem dX10_fault_11 : decode cX10_fault 11 = .ok (.aload_n 0, 1) := by decide +kernel
theorem dX10_fault_12 : decode cX10_fault 12 = .ok (.invokevirtual 81, 3) := by decide +kernel
theorem dX10_fault_15 : decode cX10_fault 15 = .ok (.ifCond .eq 8, 3) := by decide +kernel
theorem dX10_fault_18 : decode cX10_fault 18 = .ok (.bipush (-4), 2) := by decide +kernel
theorem dX10_fault_20 : decode cX10_fault 20 = .ok (.goto 18, 3) := by decide +kernel
theorem dX10_fault_23 : decode cX10_fault 23 = .ok (.iload_n 1, 1) := by decide +kernel
theorem dX10_fault_24 : decode cX10_fault 24 = .ok (.ifCond .ne 10, 3) := by decide +kernel
theorem dX10_fault_27 : decode cX10_fault 27 = .ok (.aload_n 0, 1) := by decide +kernel
theorem dX10_fault_28 : decode cX10_fault 28 = .ok (.getfield 61, 3) := by decide +kernel
theorem dX10_fault_31 : decode cX10_fault 31 = .ok (.goto 7, 3) := by decide +kernel
theorem dX10_fault_34 : decode cX10_fault 34 = .ok (.aload_n 0, 1) := by decide +kernel
theorem dX10_fault_35 : decode cX10_fault 35 = .ok (.getfield 67, 3) := by decide +kernel
theorem dX10_fault_38 : decode cX10_fault 38 = .ok (.ireturn, 1) := by decide +kernel
theorem dL_law_0 : decode cL_law 0 = .ok (.new 7, 3) := by decide +kernel
theorem dL_law_3 : decode cL_law 3 = .ok (.dup, 1) := by decide +kernel
theorem dL_law_4 : decode cL_law 4 = .ok (.invokespecial 9, 3) := by decide +kernel
theorem dL_law_7 : decode cL_law 7 = .ok (.astore_n 1, 1) := by decide +kernel
theorem dL_law_8 : decode cL_law 8 = .ok (.new 10, 3) := by decide +kernel
theorem dL_law_11 : decode cL_law 11 = .ok (.dup, 1) := by decide +kernel
theorem dL_law_12 : decode cL_law 12 = .ok (.invokespecial 12, 3) := by decide +kernel
theorem dL_law_15 : decode cL_law 15 = .ok (.astore_n 2, 1) := by decide +kernel
theorem dL_law_16 : decode cL_law 16 = .ok (.iconst 0, 1) := by decide +kernel
theorem dL_law_17 : decode cL_law 17 = .ok (.istore_n 3, 1) := by decide +kernel
theorem dL_law_18 : decode cL_law 18 = .ok (.iload_n 3, 1) := by decide +kernel
theorem dL_law_19 : decode cL_law 19 = .ok (.aload_n 0, 1) := by decide +kernel
theorem dL_law_20 : decode cL_law 20 = .ok (.arraylength, 1) := by decide +kernel
theorem dL_law_21 : decode cL_law 21 = .ok (.bipush 6, 2) := by decide +kernel
theorem dL_law_23 : decode cL_law 23 = .ok (.isub, 1) := by decide +kernel
theorem dL_law_24 : decode cL_law 24 = .ok (.if_icmp .gt 868, 3) := by decide +kernel
theorem dL_law_27 : decode cL_law 27 = .ok (.aload_n 0, 1) := by decide +kernel
theorem dL_law_28 : decode cL_law 28 = .ok (.iload_n 3, 1) := by decide +kernel
theorem dL_law_29 : decode cL_law 29 = .ok (.iaload, 1) := by decide +kernel
theorem dL_law_30 : decode cL_law 30 = .ok (.bipush 31, 2) := by decide +kernel
theorem dL_law_32 : decode cL_law 32 = .ok (.iand, 1) := by decide +kernel
theorem dL_law_33 : decode cL_law 33 = .ok (.tableswitch 853 0 23 #[111, 174, 197, 230, 243, 276, 309, 322, 355, 418, 441, 474, 497, 530, 563, 596, 619, 642, 705, 768, 781, 794, 817, 830], 111) := by decide +kernel
theorem dL_law_144 : decode cL_law 144 = .ok (.aload_n 1, 1) := by decide +kernel
theorem dL_law_145 : decode cL_law 145 = .ok (.aload_n 0, 1) := by decide +kernel
theorem dL_law_146 : decode cL_law 146 = .ok (.iload_n 3, 1) := by decide +kernel
theorem dL_law_147 : decode cL_law 147 = .ok (.iconst 1, 1) := by decide +kernel
theorem dL_law_148 : decode cL_law 148 = .ok (.iadd, 1) := by decide +kernel
theorem dL_law_149 : decode cL_law 149 = .ok (.iaload, 1) := by decide +kernel
theorem dL_law_150 : decode cL_law 150 = .ok (.aload_n 0, 1) := by decide +kernel
theorem dL_law_151 : decode cL_law 151 = .ok (.iload_n 3, 1) := by decide +kernel
theorem dL_law_152 : decode cL_law 152 = .ok (.iconst 2, 1) := by decide +kernel
theorem dL_law_153 : decode cL_law 153 = .ok (.iadd, 1) := by decide +kernel
theorem dL_law_154 : decode cL_law 154 = .ok (.iaload, 1) := by decide +kernel
theorem dL_law_155 : decode cL_law 155 = .ok (.aload_n 0, 1) := by decide +kernel
theorem dL_law_156 : decode cL_law 156 = .ok (.iload_n 3, 1) := by decide +kernel
theorem dL_law_157 : decode cL_law 157 = .ok (.iconst 3, 1) := by decide +kernel
theorem dL_law_158 : decode cL_law 158 = .ok (.iadd, 1) := by decide +kernel
theorem dL_law_159 : decode cL_law 159 = .ok (.iaload, 1) := by decide +kernel
theorem dL_law_160 : decode cL_law 160 = .ok (.aload_n 0, 1) := by decide +kernel
theorem dL_law_161 : decode cL_law 161 = .ok (.iload_n 3, 1) := by decide +kernel
theorem dL_law_162 : decode cL_law 162 = .ok (.iconst 4, 1) := by decide +kernel
theorem dL_law_163 : decode cL_law 163 = .ok (.iadd, 1) := by decide +kernel
theorem dL_law_164 : decode cL_law 164 = .ok (.iaload, 1) := by decide +kernel
theorem dL_law_165 : decode cL_law 165 = .ok (.aload_n 0, 1) := by decide +kernel
theorem dL_law_166 : decode cL_law 166 = .ok (.iload_n 3, 1) := by decide +kernel
theorem dL_law_167 : decode cL_law 167 = .ok (.iconst 5, 1) := by decide +kernel
theorem dL_law_168 : decode cL_law 168 = .ok (.iadd, 1) := by decide +kernel
theorem dL_law_169 : decode cL_law 169 = .ok (.iaload, 1) := by decide +kernel
theorem dL_law_170 : decode cL_law 170 = .ok (.invokevirtual 13, 3) := by decide +kernel
theorem dL_law_173 : decode cL_law 173 = .ok (.aload_n 2, 1) := by decide +kernel
theorem dL_law_174 : decode cL_law 174 = .ok (.aload_n 0, 1) := by decide +kernel
theorem dL_law_175 : decode cL_law 175 = .ok (.iload_n 3, 1) := by decide +kernel
theorem dL_law_176 : decode cL_law 176 = .ok (.iconst 1, 1) := by decide +kernel
theorem dL_law_177 : decode cL_law 177 = .ok (.iadd, 1) := by decide +kernel
theorem dL_law_178 : decode cL_law 178 = .ok (.iaload, 1) := by decide +kernel
theorem dL_law_179 : decode cL_law 179 = .ok (.aload_n 0, 1) := by decide +kernel
theorem dL_law_180 : decode cL_law 180 = .ok (.iload_n 3, 1) := by decide +kernel
theorem dL_law_181 : decode cL_law 181 = .ok (.iconst 2, 1) := by decide +kernel
theorem dL_law_182 : decode cL_law 182 = .ok (.iadd, 1) := by decide +kernel
theorem dL_law_183 : decode cL_law 183 = .ok (.iaload, 1) := by decide +kernel
theorem dL_law_184 : decode cL_law 184 = .ok (.aload_n 0, 1) := by decide +kernel
theorem dL_law_185 : decode cL_law 185 = .ok (.iload_n 3, 1) := by decide +kernel
theorem dL_law_186 : decode cL_law 186 = .ok (.iconst 3, 1) := by decide +kernel
theorem dL_law_187 : decode cL_law 187 = .ok (.iadd, 1) := by decide +kernel
theorem dL_law_188 : decode cL_law 188 = .ok (.iaload, 1) := by decide +kernel
theorem dL_law_189 : decode cL_law 189 = .ok (.aload_n 0, 1) := by decide +kernel
theorem dL_law_190 : decode cL_law 190 = .ok (.iload_n 3, 1) := by decide +kernel
theorem dL_law_191 : decode cL_law 191 = .ok (.iconst 4, 1) := by decide +kernel
theorem dL_law_192 : decode cL_law 192 = .ok (.iadd, 1) := by decide +kernel
theorem dL_law_193 : decode cL_law 193 = .ok (.iaload, 1) := by decide +kernel
theorem dL_law_194 : decode cL_law 194 = .ok (.aload_n 0, 1) := by decide +kernel
theorem dL_law_195 : decode cL_law 195 = .ok (.iload_n 3, 1) := by decide +kernel
theorem dL_law_196 : decode cL_law 196 = .ok (.iconst 5, 1) := by decide +kernel
theorem dL_law_197 : decode cL_law 197 = .ok (.iadd, 1) := by decide +kernel
theorem dL_law_198 : decode cL_law 198 = .ok (.iaload, 1) := by decide +kernel
theorem dL_law_199 : decode cL_law 199 = .ok (.invokevirtual 17, 3) := by decide +kernel
theorem dL_law_202 : decode cL_law 202 = .ok (.if_icmp .eq 684, 3) := by decide +kernel
theorem dL_law_205 : decode cL_law 205 = .ok (.iconst 0, 1) := by decide +kernel
theorem dL_law_206 : decode cL_law 206 = .ok (.ireturn, 1) := by decide +kernel
theorem dL_law_207 : decode cL_law 207 = .ok (.aload_n 1, 1) := by decide +kernel
theorem dL_law_208 : decode cL_law 208 = .ok (.aload_n 0, 1) := by decide +kernel
theorem dL_law_209 : decode cL_law 209 = .ok (.iload_n 3, 1) := by decide +kernel
theorem dL_law_210 : decode cL_law 210 = .ok (.iconst 1, 1) := by decide +kernel
theorem dL_law_211 : decode cL_law 211 = .ok (.iadd, 1) := by decide +kernel
theorem dL_law_212 : decode cL_law 212 = .ok (.iaload, 1) := by decide +kernel
theorem dL_law_213 : decode cL_law 213 = .ok (.invokevirtual 18, 3) := by decide +kernel
theorem dL_law_216 : decode cL_law 216 = .ok (.aload_n 2, 1) := by decide +kernel
theorem dL_law_217 : decode cL_law 217 = .ok (.aload_n 0, 1) := by decide +kernel
theorem dL_law_218 : decode cL_law 218 = .ok (.iload_n 3, 1) := by decide +kernel
theorem dL_law_219 : decode cL_law 219 = .ok (.iconst 1, 1) := by decide +kernel
theorem dL_law_220 : decode cL_law 220 = .ok (.iadd, 1) := by decide +kernel
theorem dL_law_221 : decode cL_law 221 = .ok (.iaload, 1) := by decide +kernel
theorem dL_law_222 : decode cL_law 222 = .ok (.invokevirtual 22, 3) := by decide +kernel
theorem dL_law_225 : decode cL_law 225 = .ok (.if_icmp .eq 661, 3) := by decide +kernel
theorem dL_law_228 : decode cL_law 228 = .ok (.iconst 0, 1) := by decide +kernel
theorem dL_law_229 : decode cL_law 229 = .ok (.ireturn, 1) := by decide +kernel
theorem dL_law_230 : decode cL_law 230 = .ok (.aload_n 1, 1) := by decide +kernel
theorem dL_law_231 : decode cL_law 231 = .ok (.aload_n 0, 1) := by decide +kernel
theorem dL_law_232 : decode cL_law 232 = .ok (.iload_n 3, 1) := by decide +kernel
theorem dL_law_233 : decode cL_law 233 = .ok (.iconst 1, 1) := by decide +kernel
theorem dL_law_234 : decode cL_law 234 = .ok (.iadd, 1) := by decide +kernel
theorem dL_law_235 : decode cL_law 235 = .ok (.iaload, 1) := by decide +kernel
theorem dL_law_236 : decode cL_law 236 = .ok (.aload_n 0, 1) := by decide +kernel
theorem dL_law_237 : decode cL_law 237 = .ok (.iload_n 3, 1) := by decide +kernel
theorem dL_law_238 : decode cL_law 238 = .ok (.iconst 2, 1) := by decide +kernel
theorem dL_law_239 : decode cL_law 239 = .ok (.iadd, 1) := by decide +kernel
theorem dL_law_240 : decode cL_law 240 = .ok (.iaload, 1) := by decide +kernel
theorem dL_law_241 : decode cL_law 241 = .ok (.invokevirtual 23, 3) := by decide +kernel
theorem dL_law_244 : decode cL_law 244 = .ok (.aload_n 2, 1) := by decide +kernel
theorem dL_law_245 : decode cL_law 245 = .ok (.aload_n 0, 1) := by decide +kernel
theorem dL_law_246 : decode cL_law 246 = .ok (.iload_n 3, 1) := by decide +kernel
theorem dL_law_247 : decode cL_law 247 = .ok (.iconst 1, 1) := by decide +kernel
theorem dL_law_248 : decode cL_law 248 = .ok (.iadd, 1) := by decide +kernel
theorem dL_law_249 : decode cL_law 249 = .ok (.iaload, 1) := by decide +kernel
theorem dL_law_250 : decode cL_law 250 = .ok (.aload_n 0, 1) := by decide +kernel
theorem dL_law_251 : decode cL_law 251 = .ok (.iload_n 3, 1) := by decide +kernel
theorem dL_law_252 : decode cL_law 252 = .ok (.iconst 2, 1) := by decide +kernel
theorem dL_law_253 : decode cL_law 253 = .ok (.iadd, 1) := by decide +kernel
theorem dL_law_254 : decode cL_law 254 = .ok (.iaload, 1) := by decide +kernel
theorem dL_law_255 : decode cL_law 255 = .ok (.invokevirtual 27, 3) := by decide +kernel
theorem dL_law_258 : decode cL_law 258 = .ok (.if_icmp .eq 628, 3) := by decide +kernel
theorem dL_law_261 : decode cL_law 261 = .ok (.iconst 0, 1) := by decide +kernel
theorem dL_law_262 : decode cL_law 262 = .ok (.ireturn, 1) := by decide +kernel
theorem dL_law_263 : decode cL_law 263 = .ok (.aload_n 1, 1) := by decide +kernel
theorem dL_law_264 : decode cL_law 264 = .ok (.invokevirtual 28, 3) := by decide +kernel
theorem dL_law_267 : decode cL_law 267 = .ok (.aload_n 2, 1) := by decide +kernel
theorem dL_law_268 : decode cL_law 268 = .ok (.invokevirtual 32, 3) := by decide +kernel
theorem dL_law_271 : decode cL_law 271 = .ok (.if_icmp .eq 615, 3) := by decide +kernel
theorem dL_law_274 : decode cL_law 274 = .ok (.iconst 0, 1) := by decide +kernel
theorem dL_law_275 : decode cL_law 275 = .ok (.ireturn, 1) := by decide +kernel
theorem dL_law_276 : decode cL_law 276 = .ok (.aload_n 1, 1) := by decide +kernel
theorem dL_law_277 : decode cL_law 277 = .ok (.aload_n 0, 1) := by decide +kernel
theorem dL_law_278 : decode cL_law 278 = .ok (.iload_n 3, 1) := by decide +kernel
theorem dL_law_279 : decode cL_law 279 = .ok (.iconst 1, 1) := by decide +kernel
theorem dL_law_280 : decode cL_law 280 = .ok (.iadd, 1) := by decide +kernel
theorem dL_law_281 : decode cL_law 281 = .ok (.iaload, 1) := by decide +kernel
theorem dL_law_282 : decode cL_law 282 = .ok (.aload_n 0, 1) := by decide +kernel
theorem dL_law_283 : decode cL_law 283 = .ok (.iload_n 3, 1) := by decide +kernel
theorem dL_law_284 : decode cL_law 284 = .ok (.iconst 2, 1) := by decide +kernel
theorem dL_law_285 : decode cL_law 285 = .ok (.iadd, 1) := by decide +kernel
theorem dL_law_286 : decode cL_law 286 = .ok (.iaload, 1) := by decide +kernel
theorem dL_law_287 : decode cL_law 287 = .ok (.invokevirtual 33, 3) := by decide +kernel
theorem dL_law_290 : decode cL_law 290 = .ok (.aload_n 2, 1) := by decide +kernel
theorem dL_law_291 : decode cL_law 291 = .ok (.aload_n 0, 1) := by decide +kernel
theorem dL_law_292 : decode cL_law 292 = .ok (.iload_n 3, 1) := by decide +kernel
theorem dL_law_293 : decode cL_law 293 = .ok (.iconst 1, 1) := by decide +kernel
theorem dL_law_294 : decode cL_law 294 = .ok (.iadd, 1) := by decide +kernel
theorem dL_law_295 : decode cL_law 295 = .ok (.iaload, 1) := by decide +kernel
theorem dL_law_296 : decode cL_law 296 = .ok (.aload_n 0, 1) := by decide +kernel
theorem dL_law_297 : decode cL_law 297 = .ok (.iload_n 3, 1) := by decide +kernel
theorem dL_law_298 : decode cL_law 298 = .ok (.iconst 2, 1) := by decide +kernel
theorem dL_law_299 : decode cL_law 299 = .ok (.iadd, 1) := by decide +kernel
theorem dL_law_300 : decode cL_law 300 = .ok (.iaload, 1) := by decide +kernel
theorem dL_law_301 : decode cL_law 301 = .ok (.invokevirtual 36, 3) := by decide +kernel
theorem dL_law_304 : decode cL_law 304 = .ok (.if_icmp .eq 582, 3) := by decide +kernel
theorem dL_law_307 : decode cL_law 307 = .ok (.iconst 0, 1) := by decide +kernel
theorem dL_law_308 : decode cL_law 308 = .ok (.ireturn, 1) := by decide +kernel
theorem dL_law_309 : decode cL_law 309 = .ok (.aload_n 1, 1) := by decide +kernel
theorem dL_law_310 : decode cL_law 310 = .ok (.aload_n 0, 1) := by decide +kernel
theorem dL_law_311 : decode cL_law 311 = .ok (.iload_n 3, 1) := by decide +kernel
theorem dL_law_312 : decode cL_law 312 = .ok (.iconst 1, 1) := by decide +kernel
theorem dL_law_313 : decode cL_law 313 = .ok (.iadd, 1) := by decide +kernel
theorem dL_law_314 : decode cL_law 314 = .ok (.iaload, 1) := by decide +kernel
theorem dL_law_315 : decode cL_law 315 = .ok (.aload_n 0, 1) := by decide +kernel
theorem dL_law_316 : decode cL_law 316 = .ok (.iload_n 3, 1) := by decide +kernel
theorem dL_law_317 : decode cL_law 317 = .ok (.iconst 2, 1) := by decide +kernel
theorem dL_law_318 : decode cL_law 318 = .ok (.iadd, 1) := by decide +kernel
theorem dL_law_319 : decode cL_law 319 = .ok (.iaload, 1) := by decide +kernel
theorem dL_law_320 : decode cL_law 320 = .ok (.invokevirtual 37, 3) := by decide +kernel
theorem dL_law_323 : decode cL_law 323 = .ok (.aload_n 2, 1) := by decide +kernel
theorem dL_law_324 : decode cL_law 324 = .ok (.aload_n 0, 1) := by decide +kernel
theorem dL_law_325 : decode cL_law 325 = .ok (.iload_n 3, 1) := by decide +kernel
theorem dL_law_326 : decode cL_law 326 = .ok (.iconst 1, 1) := by decide +kernel
theorem dL_law_327 : decode cL_law 327 = .ok (.iadd, 1) := by decide +kernel
theorem dL_law_328 : decode cL_law 328 = .ok (.iaload, 1) := by decide +kernel
theorem dL_law_329 : decode cL_law 329 = .ok (.aload_n 0, 1) := by decide +kernel
theorem dL_law_330 : decode cL_law 330 = .ok (.iload_n 3, 1) := by decide +kernel
theorem dL_law_331 : decode cL_law 331 = .ok (.iconst 2, 1) := by decide +kernel
theorem dL_law_332 : decode cL_law 332 = .ok (.iadd, 1) := by decide +kernel
theorem dL_law_333 : decode cL_law 333 = .ok (.iaload, 1) := by decide +kernel
theorem dL_law_334 : decode cL_law 334 = .ok (.invokevirtual 40, 3) := by decide +kernel
theorem dL_law_337 : decode cL_law 337 = .ok (.if_icmp .eq 549, 3) := by decide +kernel
theorem dL_law_340 : decode cL_law 340 = .ok (.iconst 0, 1) := by decide +kernel
theorem dL_law_341 : decode cL_law 341 = .ok (.ireturn, 1) := by decide +kernel
theorem dL_law_342 : decode cL_law 342 = .ok (.aload_n 1, 1) := by decide +kernel
theorem dL_law_343 : decode cL_law 343 = .ok (.invokevirtual 41, 3) := by decide +kernel
theorem dL_law_346 : decode cL_law 346 = .ok (.aload_n 2, 1) := by decide +kernel
theorem dL_law_347 : decode cL_law 347 = .ok (.invokevirtual 44, 3) := by decide +kernel
theorem dL_law_350 : decode cL_law 350 = .ok (.if_icmp .eq 536, 3) := by decide +kernel
theorem dL_law_353 : decode cL_law 353 = .ok (.iconst 0, 1) := by decide +kernel
theorem dL_law_354 : decode cL_law 354 = .ok (.ireturn, 1) := by decide +kernel
theorem dL_law_355 : decode cL_law 355 = .ok (.aload_n 1, 1) := by decide +kernel
theorem dL_law_356 : decode cL_law 356 = .ok (.aload_n 0, 1) := by decide +kernel
theorem dL_law_357 : decode cL_law 357 = .ok (.iload_n 3, 1) := by decide +kernel
theorem dL_law_358 : decode cL_law 358 = .ok (.iconst 1, 1) := by decide +kernel
theorem dL_law_359 : decode cL_law 359 = .ok (.iadd, 1) := by decide +kernel
theorem dL_law_360 : decode cL_law 360 = .ok (.iaload, 1) := by decide +kernel
theorem dL_law_361 : decode cL_law 361 = .ok (.aload_n 0, 1) := by decide +kernel
theorem dL_law_362 : decode cL_law 362 = .ok (.iload_n 3, 1) := by decide +kernel
theorem dL_law_363 : decode cL_law 363 = .ok (.iconst 2, 1) := by decide +kernel
theorem dL_law_364 : decode cL_law 364 = .ok (.iadd, 1) := by decide +kernel
theorem dL_law_365 : decode cL_law 365 = .ok (.iaload, 1) := by decide +kernel
theorem dL_law_366 : decode cL_law 366 = .ok (.invokevirtual 45, 3) := by decide +kernel
theorem dL_law_369 : decode cL_law 369 = .ok (.aload_n 2, 1) := by decide +kernel
theorem dL_law_370 : decode cL_law 370 = .ok (.aload_n 0, 1) := by decide +kernel
theorem dL_law_371 : decode cL_law 371 = .ok (.iload_n 3, 1) := by decide +kernel
theorem dL_law_372 : decode cL_law 372 = .ok (.iconst 1, 1) := by decide +kernel
theorem dL_law_373 : decode cL_law 373 = .ok (.iadd, 1) := by decide +kernel
theorem dL_law_374 : decode cL_law 374 = .ok (.iaload, 1) := by decide +kernel
theorem dL_law_375 : decode cL_law 375 = .ok (.aload_n 0, 1) := by decide +kernel
theorem dL_law_376 : decode cL_law 376 = .ok (.iload_n 3, 1) := by decide +kernel
theorem dL_law_377 : decode cL_law 377 = .ok (.iconst 2, 1) := by decide +kernel
theorem dL_law_378 : decode cL_law 378 = .ok (.iadd, 1) := by decide +kernel
theorem dL_law_379 : decode cL_law 379 = .ok (.iaload, 1) := by decide +kernel
theorem dL_law_380 : decode cL_law 380 = .ok (.invokevirtual 48, 3) := by decide +kernel
theorem dL_law_383 : decode cL_law 383 = .ok (.if_icmp .eq 503, 3) := by decide +kernel
theorem dL_law_386 : decode cL_law 386 = .ok (.iconst 0, 1) := by decide +kernel
theorem dL_law_387 : decode cL_law 387 = .ok (.ireturn, 1) := by decide +kernel
theorem dL_law_388 : decode cL_law 388 = .ok (.aload_n 1, 1) := by decide +kernel
theorem dL_law_389 : decode cL_law 389 = .ok (.aload_n 0, 1) := by decide +kernel
theorem dL_law_390 : decode cL_law 390 = .ok (.iload_n 3, 1) := by decide +kernel
theorem dL_law_391 : decode cL_law 391 = .ok (.iconst 1, 1) := by decide +kernel
theorem dL_law_392 : decode cL_law 392 = .ok (.iadd, 1) := by decide +kernel
theorem dL_law_393 : decode cL_law 393 = .ok (.iaload, 1) := by decide +kernel
theorem dL_law_394 : decode cL_law 394 = .ok (.aload_n 0, 1) := by decide +kernel
theorem dL_law_395 : decode cL_law 395 = .ok (.iload_n 3, 1) := by decide +kernel
theorem dL_law_396 : decode cL_law 396 = .ok (.iconst 2, 1) := by decide +kernel
theorem dL_law_397 : decode cL_law 397 = .ok (.iadd, 1) := by decide +kernel
theorem dL_law_398 : decode cL_law 398 = .ok (.iaload, 1) := by decide +kernel
theorem dL_law_399 : decode cL_law 399 = .ok (.aload_n 0, 1) := by decide +kernel
theorem dL_law_400 : decode cL_law 400 = .ok (.iload_n 3, 1) := by decide +kernel
theorem dL_law_401 : decode cL_law 401 = .ok (.iconst 3, 1) := by decide +kernel
theorem dL_law_402 : decode cL_law 402 = .ok (.iadd, 1) := by decide +kernel
theorem dL_law_403 : decode cL_law 403 = .ok (.iaload, 1) := by decide +kernel
theorem dL_law_404 : decode cL_law 404 = .ok (.aload_n 0, 1) := by decide +kernel
theorem dL_law_405 : decode cL_law 405 = .ok (.iload_n 3, 1) := by decide +kernel
theorem dL_law_406 : decode cL_law 406 = .ok (.iconst 4, 1) := by decide +kernel
theorem dL_law_407 : decode cL_law 407 = .ok (.iadd, 1) := by decide +kernel
theorem dL_law_408 : decode cL_law 408 = .ok (.iaload, 1) := by decide +kernel
theorem dL_law_409 : decode cL_law 409 = .ok (.aload_n 0, 1) := by decide +kernel
theorem dL_law_410 : decode cL_law 410 = .ok (.iload_n 3, 1) := by decide +kernel
theorem dL_law_411 : decode cL_law 411 = .ok (.iconst 5, 1) := by decide +kernel
theorem dL_law_412 : decode cL_law 412 = .ok (.iadd, 1) := by decide +kernel
theorem dL_law_413 : decode cL_law 413 = .ok (.iaload, 1) := by decide +kernel
theorem dL_law_414 : decode cL_law 414 = .ok (.invokevirtual 49, 3) := by decide +kernel
theorem dL_law_417 : decode cL_law 417 = .ok (.aload_n 2, 1) := by decide +kernel
theorem dL_law_418 : decode cL_law 418 = .ok (.aload_n 0, 1) := by decide +kernel
theorem dL_law_419 : decode cL_law 419 = .ok (.iload_n 3, 1) := by decide +kernel
theorem dL_law_420 : decode cL_law 420 = .ok (.iconst 1, 1) := by decide +kernel
theorem dL_law_421 : decode cL_law 421 = .ok (.iadd, 1) := by decide +kernel
theorem dL_law_422 : decode cL_law 422 = .ok (.iaload, 1) := by decide +kernel
theorem dL_law_423 : decode cL_law 423 = .ok (.aload_n 0, 1) := by decide +kernel
theorem dL_law_424 : decode cL_law 424 = .ok (.iload_n 3, 1) := by decide +kernel
theorem dL_law_425 : decode cL_law 425 = .ok (.iconst 2, 1) := by decide +kernel
theorem dL_law_426 : decode cL_law 426 = .ok (.iadd, 1) := by decide +kernel
theorem dL_law_427 : decode cL_law 427 = .ok (.iaload, 1) := by decide +kernel
theorem dL_law_428 : decode cL_law 428 = .ok (.aload_n 0, 1) := by decide +kernel
theorem dL_law_429 : decode cL_law 429 = .ok (.iload_n 3, 1) := by decide +kernel
theorem dL_law_430 : decode cL_law 430 = .ok (.iconst 3, 1) := by decide +kernel
theorem dL_law_431 : decode cL_law 431 = .ok (.iadd, 1) := by decide +kernel
theorem dL_law_432 : decode cL_law 432 = .ok (.iaload, 1) := by decide +kernel
theorem dL_law_433 : decode cL_law 433 = .ok (.aload_n 0, 1) := by decide +kernel
theorem dL_law_434 : decode cL_law 434 = .ok (.iload_n 3, 1) := by decide +kernel
theorem dL_law_435 : decode cL_law 435 = .ok (.iconst 4, 1) := by decide +kernel
theorem dL_law_436 : decode cL_law 436 = .ok (.iadd, 1) := by decide +kernel
theorem dL_law_437 : decode cL_law 437 = .ok (.iaload, 1) := by decide +kernel
theorem dL_law_438 : decode cL_law 438 = .ok (.aload_n 0, 1) := by decide +kernel
theorem dL_law_439 : decode cL_law 439 = .ok (.iload_n 3, 1) := by decide +kernel
theorem dL_law_440 : decode cL_law 440 = .ok (.iconst 5, 1) := by decide +kernel
theorem dL_law_441 : decode cL_law 441 = .ok (.iadd, 1) := by decide +kernel
theorem dL_law_442 : decode cL_law 442 = .ok (.iaload, 1) := by decide +kernel
theorem dL_law_443 : decode cL_law 443 = .ok (.invokevirtual 52, 3) := by decide +kernel
theorem dL_law_446 : decode cL_law 446 = .ok (.if_icmp .eq 440, 3) := by decide +kernel
theorem dL_law_449 : decode cL_law 449 = .ok (.iconst 0, 1) := by decide +kernel
theorem dL_law_450 : decode cL_law 450 = .ok (.ireturn, 1) := by decide +kernel
theorem dL_law_451 : decode cL_law 451 = .ok (.aload_n 1, 1) := by decide +kernel
theorem dL_law_452 : decode cL_law 452 = .ok (.aload_n 0, 1) := by decide +kernel
theorem dL_law_453 : decode cL_law 453 = .ok (.iload_n 3, 1) := by decide +kernel
theorem dL_law_454 : decode cL_law 454 = .ok (.iconst 1, 1) := by decide +kernel
theorem dL_law_455 : decode cL_law 455 = .ok (.iadd, 1) := by decide +kernel
theorem dL_law_456 : decode cL_law 456 = .ok (.iaload, 1) := by decide +kernel
theorem dL_law_457 : decode cL_law 457 = .ok (.invokevirtual 53, 3) := by decide +kernel
theorem dL_law_460 : decode cL_law 460 = .ok (.aload_n 2, 1) := by decide +kernel
theorem dL_law_461 : decode cL_law 461 = .ok (.aload_n 0, 1) := by decide +kernel
theorem dL_law_462 : decode cL_law 462 = .ok (.iload_n 3, 1) := by decide +kernel
theorem dL_law_463 : decode cL_law 463 = .ok (.iconst 1, 1) := by decide +kernel
theorem dL_law_464 : decode cL_law 464 = .ok (.iadd, 1) := by decide +kernel
theorem dL_law_465 : decode cL_law 465 = .ok (.iaload, 1) := by decide +kernel
theorem dL_law_466 : decode cL_law 466 = .ok (.invokevirtual 56, 3) := by decide +kernel
theorem dL_law_469 : decode cL_law 469 = .ok (.if_icmp .eq 417, 3) := by decide +kernel
theorem dL_law_472 : decode cL_law 472 = .ok (.iconst 0, 1) := by decide +kernel
theorem dL_law_473 : decode cL_law 473 = .ok (.ireturn, 1) := by decide +kernel
theorem dL_law_474 : decode cL_law 474 = .ok (.aload_n 1, 1) := by decide +kernel
theorem dL_law_475 : decode cL_law 475 = .ok (.aload_n 0, 1) := by decide +kernel
theorem dL_law_476 : decode cL_law 476 = .ok (.iload_n 3, 1) := by decide +kernel
theorem dL_law_477 : decode cL_law 477 = .ok (.iconst 1, 1) := by decide +kernel
theorem dL_law_478 : decode cL_law 478 = .ok (.iadd, 1) := by decide +kernel
theorem dL_law_479 : decode cL_law 479 = .ok (.iaload, 1) := by decide +kernel
theorem dL_law_480 : decode cL_law 480 = .ok (.aload_n 0, 1) := by decide +kernel
theorem dL_law_481 : decode cL_law 481 = .ok (.iload_n 3, 1) := by decide +kernel
theorem dL_law_482 : decode cL_law 482 = .ok (.iconst 2, 1) := by decide +kernel
theorem dL_law_483 : decode cL_law 483 = .ok (.iadd, 1) := by decide +kernel
theorem dL_law_484 : decode cL_law 484 = .ok (.iaload, 1) := by decide +kernel
theorem dL_law_485 : decode cL_law 485 = .ok (.invokevirtual 57, 3) := by decide +kernel
theorem dL_law_488 : decode cL_law 488 = .ok (.aload_n 2, 1) := by decide +kernel
theorem dL_law_489 : decode cL_law 489 = .ok (.aload_n 0, 1) := by decide +kernel
theorem dL_law_490 : decode cL_law 490 = .ok (.iload_n 3, 1) := by decide +kernel
theorem dL_law_491 : decode cL_law 491 = .ok (.iconst 1, 1) := by decide +kernel
theorem dL_law_492 : decode cL_law 492 = .ok (.iadd, 1) := by decide +kernel
theorem dL_law_493 : decode cL_law 493 = .ok (.iaload, 1) := by decide +kernel
theorem dL_law_494 : decode cL_law 494 = .ok (.aload_n 0, 1) := by decide +kernel
theorem dL_law_495 : decode cL_law 495 = .ok (.iload_n 3, 1) := by decide +kernel
theorem dL_law_496 : decode cL_law 496 = .ok (.iconst 2, 1) := by decide +kernel
theorem dL_law_497 : decode cL_law 497 = .ok (.iadd, 1) := by decide +kernel
theorem dL_law_498 : decode cL_law 498 = .ok (.iaload, 1) := by decide +kernel
theorem dL_law_499 : decode cL_law 499 = .ok (.invokevirtual 60, 3) := by decide +kernel
theorem dL_law_502 : decode cL_law 502 = .ok (.if_icmp .eq 384, 3) := by decide +kernel
theorem dL_law_505 : decode cL_law 505 = .ok (.iconst 0, 1) := by decide +kernel
theorem dL_law_506 : decode cL_law 506 = .ok (.ireturn, 1) := by decide +kernel
theorem dL_law_507 : decode cL_law 507 = .ok (.aload_n 1, 1) := by decide +kernel
theorem dL_law_508 : decode cL_law 508 = .ok (.aload_n 0, 1) := by decide +kernel
theorem dL_law_509 : decode cL_law 509 = .ok (.iload_n 3, 1) := by decide +kernel
theorem dL_law_510 : decode cL_law 510 = .ok (.iconst 1, 1) := by decide +kernel
theorem dL_law_511 : decode cL_law 511 = .ok (.iadd, 1) := by decide +kernel
theorem dL_law_512 : decode cL_law 512 = .ok (.iaload, 1) := by decide +kernel
theorem dL_law_513 : decode cL_law 513 = .ok (.invokevirtual 61, 3) := by decide +kernel
theorem dL_law_516 : decode cL_law 516 = .ok (.aload_n 2, 1) := by decide +kernel
theorem dL_law_517 : decode cL_law 517 = .ok (.aload_n 0, 1) := by decide +kernel
theorem dL_law_518 : decode cL_law 518 = .ok (.iload_n 3, 1) := by decide +kernel
theorem dL_law_519 : decode cL_law 519 = .ok (.iconst 1, 1) := by decide +kernel
theorem dL_law_520 : decode cL_law 520 = .ok (.iadd, 1) := by decide +kernel
theorem dL_law_521 : decode cL_law 521 = .ok (.iaload, 1) := by decide +kernel
theorem dL_law_522 : decode cL_law 522 = .ok (.invokevirtual 64, 3) := by decide +kernel
theorem dL_law_525 : decode cL_law 525 = .ok (.if_icmp .eq 361, 3) := by decide +kernel
theorem dL_law_528 : decode cL_law 528 = .ok (.iconst 0, 1) := by decide +kernel
theorem dL_law_529 : decode cL_law 529 = .ok (.ireturn, 1) := by decide +kernel
theorem dL_law_530 : decode cL_law 530 = .ok (.aload_n 1, 1) := by decide +kernel
theorem dL_law_531 : decode cL_law 531 = .ok (.aload_n 0, 1) := by decide +kernel
theorem dL_law_532 : decode cL_law 532 = .ok (.iload_n 3, 1) := by decide +kernel
theorem dL_law_533 : decode cL_law 533 = .ok (.iconst 1, 1) := by decide +kernel
theorem dL_law_534 : decode cL_law 534 = .ok (.iadd, 1) := by decide +kernel
theorem dL_law_535 : decode cL_law 535 = .ok (.iaload, 1) := by decide +kernel
theorem dL_law_536 : decode cL_law 536 = .ok (.aload_n 0, 1) := by decide +kernel
theorem dL_law_537 : decode cL_law 537 = .ok (.iload_n 3, 1) := by decide +kernel
theorem dL_law_538 : decode cL_law 538 = .ok (.iconst 2, 1) := by decide +kernel
theorem dL_law_539 : decode cL_law 539 = .ok (.iadd, 1) := by decide +kernel
theorem dL_law_540 : decode cL_law 540 = .ok (.iaload, 1) := by decide +kernel
theorem dL_law_541 : decode cL_law 541 = .ok (.invokevirtual 65, 3) := by decide +kernel
theorem dL_law_544 : decode cL_law 544 = .ok (.aload_n 2, 1) := by decide +kernel
theorem dL_law_545 : decode cL_law 545 = .ok (.aload_n 0, 1) := by decide +kernel
theorem dL_law_546 : decode cL_law 546 = .ok (.iload_n 3, 1) := by decide +kernel
theorem dL_law_547 : decode cL_law 547 = .ok (.iconst 1, 1) := by decide +kernel
theorem dL_law_548 : decode cL_law 548 = .ok (.iadd, 1) := by decide +kernel
theorem dL_law_549 : decode cL_law 549 = .ok (.iaload, 1) := by decide +kernel
theorem dL_law_550 : decode cL_law 550 = .ok (.aload_n 0, 1) := by decide +kernel
theorem dL_law_551 : decode cL_law 551 = .ok (.iload_n 3, 1) := by decide +kernel
theorem dL_law_552 : decode cL_law 552 = .ok (.iconst 2, 1) := by decide +kernel
theorem dL_law_553 : decode cL_law 553 = .ok (.iadd, 1) := by decide +kernel
theorem dL_law_554 : decode cL_law 554 = .ok (.iaload, 1) := by decide +kernel
theorem dL_law_555 : decode cL_law 555 = .ok (.invokevirtual 68, 3) := by decide +kernel
theorem dL_law_558 : decode cL_law 558 = .ok (.if_icmp .eq 328, 3) := by decide +kernel
theorem dL_law_561 : decode cL_law 561 = .ok (.iconst 0, 1) := by decide +kernel
theorem dL_law_562 : decode cL_law 562 = .ok (.ireturn, 1) := by decide +kernel
theorem dL_law_563 : decode cL_law 563 = .ok (.aload_n 1, 1) := by decide +kernel
theorem dL_law_564 : decode cL_law 564 = .ok (.aload_n 0, 1) := by decide +kernel
theorem dL_law_565 : decode cL_law 565 = .ok (.iload_n 3, 1) := by decide +kernel
theorem dL_law_566 : decode cL_law 566 = .ok (.iconst 1, 1) := by decide +kernel
theorem dL_law_567 : decode cL_law 567 = .ok (.iadd, 1) := by decide +kernel
theorem dL_law_568 : decode cL_law 568 = .ok (.iaload, 1) := by decide +kernel
theorem dL_law_569 : decode cL_law 569 = .ok (.aload_n 0, 1) := by decide +kernel
theorem dL_law_570 : decode cL_law 570 = .ok (.iload_n 3, 1) := by decide +kernel
theorem dL_law_571 : decode cL_law 571 = .ok (.iconst 2, 1) := by decide +kernel
theorem dL_law_572 : decode cL_law 572 = .ok (.iadd, 1) := by decide +kernel
theorem dL_law_573 : decode cL_law 573 = .ok (.iaload, 1) := by decide +kernel
theorem dL_law_574 : decode cL_law 574 = .ok (.invokevirtual 69, 3) := by decide +kernel
theorem dL_law_577 : decode cL_law 577 = .ok (.aload_n 2, 1) := by decide +kernel
theorem dL_law_578 : decode cL_law 578 = .ok (.aload_n 0, 1) := by decide +kernel
theorem dL_law_579 : decode cL_law 579 = .ok (.iload_n 3, 1) := by decide +kernel
theorem dL_law_580 : decode cL_law 580 = .ok (.iconst 1, 1) := by decide +kernel
theorem dL_law_581 : decode cL_law 581 = .ok (.iadd, 1) := by decide +kernel
theorem dL_law_582 : decode cL_law 582 = .ok (.iaload, 1) := by decide +kernel
theorem dL_law_583 : decode cL_law 583 = .ok (.aload_n 0, 1) := by decide +kernel
theorem dL_law_584 : decode cL_law 584 = .ok (.iload_n 3, 1) := by decide +kernel
theorem dL_law_585 : decode cL_law 585 = .ok (.iconst 2, 1) := by decide +kernel
theorem dL_law_586 : decode cL_law 586 = .ok (.iadd, 1) := by decide +kernel
theorem dL_law_587 : decode cL_law 587 = .ok (.iaload, 1) := by decide +kernel
theorem dL_law_588 : decode cL_law 588 = .ok (.invokevirtual 72, 3) := by decide +kernel
theorem dL_law_591 : decode cL_law 591 = .ok (.if_icmp .eq 295, 3) := by decide +kernel
theorem dL_law_594 : decode cL_law 594 = .ok (.iconst 0, 1) := by decide +kernel
theorem dL_law_595 : decode cL_law 595 = .ok (.ireturn, 1) := by decide +kernel
theorem dL_law_596 : decode cL_law 596 = .ok (.aload_n 1, 1) := by decide +kernel
theorem dL_law_597 : decode cL_law 597 = .ok (.aload_n 0, 1) := by decide +kernel
theorem dL_law_598 : decode cL_law 598 = .ok (.iload_n 3, 1) := by decide +kernel
theorem dL_law_599 : decode cL_law 599 = .ok (.iconst 1, 1) := by decide +kernel
theorem dL_law_600 : decode cL_law 600 = .ok (.iadd, 1) := by decide +kernel
theorem dL_law_601 : decode cL_law 601 = .ok (.iaload, 1) := by decide +kernel
theorem dL_law_602 : decode cL_law 602 = .ok (.aload_n 0, 1) := by decide +kernel
theorem dL_law_603 : decode cL_law 603 = .ok (.iload_n 3, 1) := by decide +kernel
theorem dL_law_604 : decode cL_law 604 = .ok (.iconst 2, 1) := by decide +kernel
theorem dL_law_605 : decode cL_law 605 = .ok (.iadd, 1) := by decide +kernel
theorem dL_law_606 : decode cL_law 606 = .ok (.iaload, 1) := by decide +kernel
theorem dL_law_607 : decode cL_law 607 = .ok (.invokevirtual 73, 3) := by decide +kernel
theorem dL_law_610 : decode cL_law 610 = .ok (.aload_n 2, 1) := by decide +kernel
theorem dL_law_611 : decode cL_law 611 = .ok (.aload_n 0, 1) := by decide +kernel
theorem dL_law_612 : decode cL_law 612 = .ok (.iload_n 3, 1) := by decide +kernel
theorem dL_law_613 : decode cL_law 613 = .ok (.iconst 1, 1) := by decide +kernel
theorem dL_law_614 : decode cL_law 614 = .ok (.iadd, 1) := by decide +kernel
theorem dL_law_615 : decode cL_law 615 = .ok (.iaload, 1) := by decide +kernel
theorem dL_law_616 : decode cL_law 616 = .ok (.aload_n 0, 1) := by decide +kernel
theorem dL_law_617 : decode cL_law 617 = .ok (.iload_n 3, 1) := by decide +kernel
theorem dL_law_618 : decode cL_law 618 = .ok (.iconst 2, 1) := by decide +kernel
theorem dL_law_619 : decode cL_law 619 = .ok (.iadd, 1) := by decide +kernel
theorem dL_law_620 : decode cL_law 620 = .ok (.iaload, 1) := by decide +kernel
theorem dL_law_621 : decode cL_law 621 = .ok (.invokevirtual 76, 3) := by decide +kernel
theorem dL_law_624 : decode cL_law 624 = .ok (.if_icmp .eq 262, 3) := by decide +kernel
theorem dL_law_627 : decode cL_law 627 = .ok (.iconst 0, 1) := by decide +kernel
theorem dL_law_628 : decode cL_law 628 = .ok (.ireturn, 1) := by decide +kernel
theorem dL_law_629 : decode cL_law 629 = .ok (.aload_n 1, 1) := by decide +kernel
theorem dL_law_630 : decode cL_law 630 = .ok (.aload_n 0, 1) := by decide +kernel
theorem dL_law_631 : decode cL_law 631 = .ok (.iload_n 3, 1) := by decide +kernel
theorem dL_law_632 : decode cL_law 632 = .ok (.iconst 1, 1) := by decide +kernel
theorem dL_law_633 : decode cL_law 633 = .ok (.iadd, 1) := by decide +kernel
theorem dL_law_634 : decode cL_law 634 = .ok (.iaload, 1) := by decide +kernel
theorem dL_law_635 : decode cL_law 635 = .ok (.invokevirtual 77, 3) := by decide +kernel
theorem dL_law_638 : decode cL_law 638 = .ok (.aload_n 2, 1) := by decide +kernel
theorem dL_law_639 : decode cL_law 639 = .ok (.aload_n 0, 1) := by decide +kernel
theorem dL_law_640 : decode cL_law 640 = .ok (.iload_n 3, 1) := by decide +kernel
theorem dL_law_641 : decode cL_law 641 = .ok (.iconst 1, 1) := by decide +kernel
theorem dL_law_642 : decode cL_law 642 = .ok (.iadd, 1) := by decide +kernel
theorem dL_law_643 : decode cL_law 643 = .ok (.iaload, 1) := by decide +kernel
theorem dL_law_644 : decode cL_law 644 = .ok (.invokevirtual 80, 3) := by decide +kernel
theorem dL_law_647 : decode cL_law 647 = .ok (.if_icmp .eq 239, 3) := by decide +kernel
theorem dL_law_650 : decode cL_law 650 = .ok (.iconst 0, 1) := by decide +kernel
theorem dL_law_651 : decode cL_law 651 = .ok (.ireturn, 1) := by decide +kernel
theorem dL_law_652 : decode cL_law 652 = .ok (.aload_n 1, 1) := by decide +kernel
theorem dL_law_653 : decode cL_law 653 = .ok (.aload_n 0, 1) := by decide +kernel
theorem dL_law_654 : decode cL_law 654 = .ok (.iload_n 3, 1) := by decide +kernel
theorem dL_law_655 : decode cL_law 655 = .ok (.iconst 1, 1) := by decide +kernel
theorem dL_law_656 : decode cL_law 656 = .ok (.iadd, 1) := by decide +kernel
theorem dL_law_657 : decode cL_law 657 = .ok (.iaload, 1) := by decide +kernel
theorem dL_law_658 : decode cL_law 658 = .ok (.invokevirtual 81, 3) := by decide +kernel
theorem dL_law_661 : decode cL_law 661 = .ok (.aload_n 2, 1) := by decide +kernel
theorem dL_law_662 : decode cL_law 662 = .ok (.aload_n 0, 1) := by decide +kernel
theorem dL_law_663 : decode cL_law 663 = .ok (.iload_n 3, 1) := by decide +kernel
theorem dL_law_664 : decode cL_law 664 = .ok (.iconst 1, 1) := by decide +kernel
theorem dL_law_665 : decode cL_law 665 = .ok (.iadd, 1) := by decide +kernel
theorem dL_law_666 : decode cL_law 666 = .ok (.iaload, 1) := by decide +kernel
theorem dL_law_667 : decode cL_law 667 = .ok (.invokevirtual 84, 3) := by decide +kernel
theorem dL_law_670 : decode cL_law 670 = .ok (.if_icmp .eq 216, 3) := by decide +kernel
theorem dL_law_673 : decode cL_law 673 = .ok (.iconst 0, 1) := by decide +kernel
theorem dL_law_674 : decode cL_law 674 = .ok (.ireturn, 1) := by decide +kernel
theorem dL_law_675 : decode cL_law 675 = .ok (.aload_n 1, 1) := by decide +kernel
theorem dL_law_676 : decode cL_law 676 = .ok (.aload_n 0, 1) := by decide +kernel
theorem dL_law_677 : decode cL_law 677 = .ok (.iload_n 3, 1) := by decide +kernel
theorem dL_law_678 : decode cL_law 678 = .ok (.iconst 1, 1) := by decide +kernel
theorem dL_law_679 : decode cL_law 679 = .ok (.iadd, 1) := by decide +kernel
theorem dL_law_680 : decode cL_law 680 = .ok (.iaload, 1) := by decide +kernel
theorem dL_law_681 : decode cL_law 681 = .ok (.aload_n 0, 1) := by decide +kernel
theorem dL_law_682 : decode cL_law 682 = .ok (.iload_n 3, 1) := by decide +kernel
theorem dL_law_683 : decode cL_law 683 = .ok (.iconst 2, 1) := by decide +kernel
theorem dL_law_684 : decode cL_law 684 = .ok (.iadd, 1) := by decide +kernel
theorem dL_law_685 : decode cL_law 685 = .ok (.iaload, 1) := by decide +kernel
theorem dL_law_686 : decode cL_law 686 = .ok (.aload_n 0, 1) := by decide +kernel
theorem dL_law_687 : decode cL_law 687 = .ok (.iload_n 3, 1) := by decide +kernel
theorem dL_law_688 : decode cL_law 688 = .ok (.iconst 3, 1) := by decide +kernel
theorem dL_law_689 : decode cL_law 689 = .ok (.iadd, 1) := by decide +kernel
theorem dL_law_690 : decode cL_law 690 = .ok (.iaload, 1) := by decide +kernel
theorem dL_law_691 : decode cL_law 691 = .ok (.aload_n 0, 1) := by decide +kernel
theorem dL_law_692 : decode cL_law 692 = .ok (.iload_n 3, 1) := by decide +kernel
theorem dL_law_693 : decode cL_law 693 = .ok (.iconst 4, 1) := by decide +kernel
theorem dL_law_694 : decode cL_law 694 = .ok (.iadd, 1) := by decide +kernel
theorem dL_law_695 : decode cL_law 695 = .ok (.iaload, 1) := by decide +kernel
theorem dL_law_696 : decode cL_law 696 = .ok (.aload_n 0, 1) := by decide +kernel
theorem dL_law_697 : decode cL_law 697 = .ok (.iload_n 3, 1) := by decide +kernel
theorem dL_law_698 : decode cL_law 698 = .ok (.iconst 5, 1) := by decide +kernel
theorem dL_law_699 : decode cL_law 699 = .ok (.iadd, 1) := by decide +kernel
theorem dL_law_700 : decode cL_law 700 = .ok (.iaload, 1) := by decide +kernel
theorem dL_law_701 : decode cL_law 701 = .ok (.invokevirtual 85, 3) := by decide +kernel
theorem dL_law_704 : decode cL_law 704 = .ok (.aload_n 2, 1) := by decide +kernel
theorem dL_law_705 : decode cL_law 705 = .ok (.aload_n 0, 1) := by decide +kernel
theorem dL_law_706 : decode cL_law 706 = .ok (.iload_n 3, 1) := by decide +kernel
theorem dL_law_707 : decode cL_law 707 = .ok (.iconst 1, 1) := by decide +kernel
theorem dL_law_708 : decode cL_law 708 = .ok (.iadd, 1) := by decide +kernel
theorem dL_law_709 : decode cL_law 709 = .ok (.iaload, 1) := by decide +kernel
theorem dL_law_710 : decode cL_law 710 = .ok (.aload_n 0, 1) := by decide +kernel
theorem dL_law_711 : decode cL_law 711 = .ok (.iload_n 3, 1) := by decide +kernel
theorem dL_law_712 : decode cL_law 712 = .ok (.iconst 2, 1) := by decide +kernel
theorem dL_law_713 : decode cL_law 713 = .ok (.iadd, 1) := by decide +kernel
theorem dL_law_714 : decode cL_law 714 = .ok (.iaload, 1) := by decide +kernel
theorem dL_law_715 : decode cL_law 715 = .ok (.aload_n 0, 1) := by decide +kernel
theorem dL_law_716 : decode cL_law 716 = .ok (.iload_n 3, 1) := by decide +kernel
theorem dL_law_717 : decode cL_law 717 = .ok (.iconst 3, 1) := by decide +kernel
theorem dL_law_718 : decode cL_law 718 = .ok (.iadd, 1) := by decide +kernel
theorem dL_law_719 : decode cL_law 719 = .ok (.iaload, 1) := by decide +kernel
theorem dL_law_720 : decode cL_law 720 = .ok (.aload_n 0, 1) := by decide +kernel
theorem dL_law_721 : decode cL_law 721 = .ok (.iload_n 3, 1) := by decide +kernel
theorem dL_law_722 : decode cL_law 722 = .ok (.iconst 4, 1) := by decide +kernel
theorem dL_law_723 : decode cL_law 723 = .ok (.iadd, 1) := by decide +kernel
theorem dL_law_724 : decode cL_law 724 = .ok (.iaload, 1) := by decide +kernel
theorem dL_law_725 : decode cL_law 725 = .ok (.aload_n 0, 1) := by decide +kernel
theorem dL_law_726 : decode cL_law 726 = .ok (.iload_n 3, 1) := by decide +kernel
theorem dL_law_727 : decode cL_law 727 = .ok (.iconst 5, 1) := by decide +kernel
theorem dL_law_728 : decode cL_law 728 = .ok (.iadd, 1) := by decide +kernel
theorem dL_law_729 : decode cL_law 729 = .ok (.iaload, 1) := by decide +kernel
theorem dL_law_730 : decode cL_law 730 = .ok (.invokevirtual 88, 3) := by decide +kernel
theorem dL_law_733 : decode cL_law 733 = .ok (.if_icmp .eq 153, 3) := by decide +kernel
theorem dL_law_736 : decode cL_law 736 = .ok (.iconst 0, 1) := by decide +kernel
theorem dL_law_737 : decode cL_law 737 = .ok (.ireturn, 1) := by decide +kernel
theorem dL_law_738 : decode cL_law 738 = .ok (.aload_n 1, 1) := by decide +kernel
theorem dL_law_739 : decode cL_law 739 = .ok (.aload_n 0, 1) := by decide +kernel
theorem dL_law_740 : decode cL_law 740 = .ok (.iload_n 3, 1) := by decide +kernel
theorem dL_law_741 : decode cL_law 741 = .ok (.iconst 1, 1) := by decide +kernel
theorem dL_law_742 : decode cL_law 742 = .ok (.iadd, 1) := by decide +kernel
theorem dL_law_743 : decode cL_law 743 = .ok (.iaload, 1) := by decide +kernel
theorem dL_law_744 : decode cL_law 744 = .ok (.aload_n 0, 1) := by decide +kernel
theorem dL_law_745 : decode cL_law 745 = .ok (.iload_n 3, 1) := by decide +kernel
theorem dL_law_746 : decode cL_law 746 = .ok (.iconst 2, 1) := by decide +kernel
theorem dL_law_747 : decode cL_law 747 = .ok (.iadd, 1) := by decide +kernel
theorem dL_law_748 : decode cL_law 748 = .ok (.iaload, 1) := by decide +kernel
theorem dL_law_749 : decode cL_law 749 = .ok (.aload_n 0, 1) := by decide +kernel
theorem dL_law_750 : decode cL_law 750 = .ok (.iload_n 3, 1) := by decide +kernel
theorem dL_law_751 : decode cL_law 751 = .ok (.iconst 3, 1) := by decide +kernel
theorem dL_law_752 : decode cL_law 752 = .ok (.iadd, 1) := by decide +kernel
theorem dL_law_753 : decode cL_law 753 = .ok (.iaload, 1) := by decide +kernel
theorem dL_law_754 : decode cL_law 754 = .ok (.aload_n 0, 1) := by decide +kernel
theorem dL_law_755 : decode cL_law 755 = .ok (.iload_n 3, 1) := by decide +kernel
theorem dL_law_756 : decode cL_law 756 = .ok (.iconst 4, 1) := by decide +kernel
theorem dL_law_757 : decode cL_law 757 = .ok (.iadd, 1) := by decide +kernel
theorem dL_law_758 : decode cL_law 758 = .ok (.iaload, 1) := by decide +kernel
theorem dL_law_759 : decode cL_law 759 = .ok (.aload_n 0, 1) := by decide +kernel
theorem dL_law_760 : decode cL_law 760 = .ok (.iload_n 3, 1) := by decide +kernel
theorem dL_law_761 : decode cL_law 761 = .ok (.iconst 5, 1) := by decide +kernel
theorem dL_law_762 : decode cL_law 762 = .ok (.iadd, 1) := by decide +kernel
theorem dL_law_763 : decode cL_law 763 = .ok (.iaload, 1) := by decide +kernel
theorem dL_law_764 : decode cL_law 764 = .ok (.invokevirtual 89, 3) := by decide +kernel
theorem dL_law_767 : decode cL_law 767 = .ok (.aload_n 2, 1) := by decide +kernel
theorem dL_law_768 : decode cL_law 768 = .ok (.aload_n 0, 1) := by decide +kernel
theorem dL_law_769 : decode cL_law 769 = .ok (.iload_n 3, 1) := by decide +kernel
theorem dL_law_770 : decode cL_law 770 = .ok (.iconst 1, 1) := by decide +kernel
theorem dL_law_771 : decode cL_law 771 = .ok (.iadd, 1) := by decide +kernel
theorem dL_law_772 : decode cL_law 772 = .ok (.iaload, 1) := by decide +kernel
theorem dL_law_773 : decode cL_law 773 = .ok (.aload_n 0, 1) := by decide +kernel
theorem dL_law_774 : decode cL_law 774 = .ok (.iload_n 3, 1) := by decide +kernel
theorem dL_law_775 : decode cL_law 775 = .ok (.iconst 2, 1) := by decide +kernel
theorem dL_law_776 : decode cL_law 776 = .ok (.iadd, 1) := by decide +kernel
theorem dL_law_777 : decode cL_law 777 = .ok (.iaload, 1) := by decide +kernel
theorem dL_law_778 : decode cL_law 778 = .ok (.aload_n 0, 1) := by decide +kernel
theorem dL_law_779 : decode cL_law 779 = .ok (.iload_n 3, 1) := by decide +kernel
theorem dL_law_780 : decode cL_law 780 = .ok (.iconst 3, 1) := by decide +kernel
theorem dL_law_781 : decode cL_law 781 = .ok (.iadd, 1) := by decide +kernel
theorem dL_law_782 : decode cL_law 782 = .ok (.iaload, 1) := by decide +kernel
theorem dL_law_783 : decode cL_law 783 = .ok (.aload_n 0, 1) := by decide +kernel
theorem dL_law_784 : decode cL_law 784 = .ok (.iload_n 3, 1) := by decide +kernel
theorem dL_law_785 : decode cL_law 785 = .ok (.iconst 4, 1) := by decide +kernel
theorem dL_law_786 : decode cL_law 786 = .ok (.iadd, 1) := by decide +kernel
theorem dL_law_787 : decode cL_law 787 = .ok (.iaload, 1) := by decide +kernel
theorem dL_law_788 : decode cL_law 788 = .ok (.aload_n 0, 1) := by decide +kernel
theorem dL_law_789 : decode cL_law 789 = .ok (.iload_n 3, 1) := by decide +kernel
theorem dL_law_790 : decode cL_law 790 = .ok (.iconst 5, 1) := by decide +kernel
theorem dL_law_791 : decode cL_law 791 = .ok (.iadd, 1) := by decide +kernel
theorem dL_law_792 : decode cL_law 792 = .ok (.iaload, 1) := by decide +kernel
theorem dL_law_793 : decode cL_law 793 = .ok (.invokevirtual 92, 3) := by decide +kernel
theorem dL_law_796 : decode cL_law 796 = .ok (.if_icmp .eq 90, 3) := by decide +kernel
theorem dL_law_799 : decode cL_law 799 = .ok (.iconst 0, 1) := by decide +kernel
theorem dL_law_800 : decode cL_law 800 = .ok (.ireturn, 1) := by decide +kernel
theorem dL_law_801 : decode cL_law 801 = .ok (.aload_n 1, 1) := by decide +kernel
theorem dL_law_802 : decode cL_law 802 = .ok (.invokevirtual 93, 3) := by decide +kernel
theorem dL_law_805 : decode cL_law 805 = .ok (.aload_n 2, 1) := by decide +kernel
theorem dL_law_806 : decode cL_law 806 = .ok (.invokevirtual 96, 3) := by decide +kernel
theorem dL_law_809 : decode cL_law 809 = .ok (.if_icmp .eq 77, 3) := by decide +kernel
theorem dL_law_812 : decode cL_law 812 = .ok (.iconst 0, 1) := by decide +kernel
theorem dL_law_813 : decode cL_law 813 = .ok (.ireturn, 1) := by decide +kernel
theorem dL_law_814 : decode cL_law 814 = .ok (.aload_n 1, 1) := by decide +kernel
theorem dL_law_815 : decode cL_law 815 = .ok (.invokevirtual 97, 3) := by decide +kernel
theorem dL_law_818 : decode cL_law 818 = .ok (.aload_n 2, 1) := by decide +kernel
theorem dL_law_819 : decode cL_law 819 = .ok (.invokevirtual 100, 3) := by decide +kernel
theorem dL_law_822 : decode cL_law 822 = .ok (.if_icmp .eq 64, 3) := by decide +kernel
theorem dL_law_825 : decode cL_law 825 = .ok (.iconst 0, 1) := by decide +kernel
theorem dL_law_826 : decode cL_law 826 = .ok (.ireturn, 1) := by decide +kernel
theorem dL_law_827 : decode cL_law 827 = .ok (.aload_n 1, 1) := by decide +kernel
theorem dL_law_828 : decode cL_law 828 = .ok (.aload_n 0, 1) := by decide +kernel
theorem dL_law_829 : decode cL_law 829 = .ok (.iload_n 3, 1) := by decide +kernel
theorem dL_law_830 : decode cL_law 830 = .ok (.iconst 1, 1) := by decide +kernel
theorem dL_law_831 : decode cL_law 831 = .ok (.iadd, 1) := by decide +kernel
theorem dL_law_832 : decode cL_law 832 = .ok (.iaload, 1) := by decide +kernel
theorem dL_law_833 : decode cL_law 833 = .ok (.invokevirtual 101, 3) := by decide +kernel
theorem dL_law_836 : decode cL_law 836 = .ok (.aload_n 2, 1) := by decide +kernel
theorem dL_law_837 : decode cL_law 837 = .ok (.aload_n 0, 1) := by decide +kernel
theorem dL_law_838 : decode cL_law 838 = .ok (.iload_n 3, 1) := by decide +kernel
theorem dL_law_839 : decode cL_law 839 = .ok (.iconst 1, 1) := by decide +kernel
theorem dL_law_840 : decode cL_law 840 = .ok (.iadd, 1) := by decide +kernel
theorem dL_law_841 : decode cL_law 841 = .ok (.iaload, 1) := by decide +kernel
theorem dL_law_842 : decode cL_law 842 = .ok (.invokevirtual 104, 3) := by decide +kernel
theorem dL_law_845 : decode cL_law 845 = .ok (.if_icmp .eq 41, 3) := by decide +kernel
theorem dL_law_848 : decode cL_law 848 = .ok (.iconst 0, 1) := by decide +kernel
theorem dL_law_849 : decode cL_law 849 = .ok (.ireturn, 1) := by decide +kernel
theorem dL_law_850 : decode cL_law 850 = .ok (.aload_n 1, 1) := by decide +kernel
theorem dL_law_851 : decode cL_law 851 = .ok (.invokevirtual 105, 3) := by decide +kernel
theorem dL_law_854 : decode cL_law 854 = .ok (.aload_n 2, 1) := by decide +kernel
theorem dL_law_855 : decode cL_law 855 = .ok (.invokevirtual 108, 3) := by decide +kernel
theorem dL_law_858 : decode cL_law 858 = .ok (.if_icmp .eq 28, 3) := by decide +kernel
theorem dL_law_861 : decode cL_law 861 = .ok (.iconst 0, 1) := by decide +kernel
theorem dL_law_862 : decode cL_law 862 = .ok (.ireturn, 1) := by decide +kernel
theorem dL_law_863 : decode cL_law 863 = .ok (.aload_n 1, 1) := by decide +kernel
theorem dL_law_864 : decode cL_law 864 = .ok (.aload_n 0, 1) := by decide +kernel
theorem dL_law_865 : decode cL_law 865 = .ok (.iload_n 3, 1) := by decide +kernel
theorem dL_law_866 : decode cL_law 866 = .ok (.iconst 1, 1) := by decide +kernel
theorem dL_law_867 : decode cL_law 867 = .ok (.iadd, 1) := by decide +kernel
theorem dL_law_868 : decode cL_law 868 = .ok (.iaload, 1) := by decide +kernel
theorem dL_law_869 : decode cL_law 869 = .ok (.invokevirtual 109, 3) := by decide +kernel
theorem dL_law_872 : decode cL_law 872 = .ok (.aload_n 2, 1) := by decide +kernel
theorem dL_law_873 : decode cL_law 873 = .ok (.aload_n 0, 1) := by decide +kernel
theorem dL_law_874 : decode cL_law 874 = .ok (.iload_n 3, 1) := by decide +kernel
theorem dL_law_875 : decode cL_law 875 = .ok (.iconst 1, 1) := by decide +kernel
theorem dL_law_876 : decode cL_law 876 = .ok (.iadd, 1) := by decide +kernel
theorem dL_law_877 : decode cL_law 877 = .ok (.iaload, 1) := by decide +kernel
theorem dL_law_878 : decode cL_law 878 = .ok (.invokevirtual 112, 3) := by decide +kernel
theorem dL_law_881 : decode cL_law 881 = .ok (.if_icmp .eq 5, 3) := by decide +kernel
theorem dL_law_884 : decode cL_law 884 = .ok (.iconst 0, 1) := by decide +kernel
theorem dL_law_885 : decode cL_law 885 = .ok (.ireturn, 1) := by decide +kernel
theorem dL_law_886 : decode cL_law 886 = .ok (.iinc 3 6, 3) := by decide +kernel
theorem dL_law_889 : decode cL_law 889 = .ok (.goto (-871), 3) := by decide +kernel
theorem dL_law_892 : decode cL_law 892 = .ok (.iconst 1, 1) := by decide +kernel
theorem dL_law_893 : decode cL_law 893 = .ok (.ireturn, 1) := by decide +kernel
end
section
/-! own framework: one pool of cells at the addresses lo .. lo + n, its ints M and its references R as functions of address and place -/
abbrev jM : Type := Nat → Nat → Int32
abbrev jR : Type := Nat → Nat → Option Nat
def jup {α : Type} (M : Nat → Nat → α) (a k : Nat) (v : α) : Nat → Nat → α := fun b j => if b = a ∧ j = k then v else M b j
theorem jup_eq {α : Type} (M : Nat → Nat → α) (a k : Nat) (v : α) : jup M a k v a k = v := by simp [jup]
theorem jup_ne {α : Type} (M : Nat → Nat → α) {a k b j : Nat} (v : α) (h : ¬ (b = a ∧ j = k)) : jup M a k v b j = M b j := by simp only [jup, if_neg h]
theorem jup_nk {α : Type} (M : Nat → Nat → α) {a k b j : Nat} (v : α) (h : j ≠ k) : jup M a k v b j = M b j := jup_ne M v (fun q => h q.2)
theorem jup_na {α : Type} (M : Nat → Nat → α) {a k b j : Nat} (v : α) (h : b ≠ a) : jup M a k v b j = M b j := jup_ne M v (fun q => h q.1)
theorem jup_row {α : Type} (M : Nat → Nat → α) {a k b : Nat} (v : α) (h : b ≠ a) : jup M a k v b = M b := funext fun _ => jup_na M v h
/-- geometry: how many cells, the kind of each, the length of each array, what the reference fields hold -/
abbrev jG : Type := Nat × (Nat → Nat) × (Nat → Nat) × jR
abbrev jn (γ : jG) : Nat := γ.1
abbrev jK (γ : jG) : Nat → Nat := γ.2.1
abbrev jL (γ : jG) : Nat → Nat := γ.2.2.1
abbrev jP (γ : jG) : jR := γ.2.2.2
/-- the fixed things of a run: base address, class numbers and slots, array classes by kind, addresses of the two static tables, of the String constant and its bytes -/
abbrev jW : Type := Nat × va_G × (Nat → ClassId) × Nat × Nat × Nat × Nat
abbrev jlo (ω : jW) : Nat := ω.1
def jlay : Nat → List Bool
  | 0 => [true, false]
  | 1 => [true, false, false, false, false, false, false, false, false, false, false]
  | 2 => [false, false, false, false, false, false, false, false, false]
  | 3 => [true, true, false, false, false, false]
  | 4 => [true, true, true, true, true, true, true, false, false, false, false, false]
  | 5 => [true, true, false, false]
  | 6 => [true, false]
  | 7 => [true, true, false]
  | 8 => [true, false]
  | 9 => [true, true, true, true]
  | 10 => [true, true, false, true, false, false, false, true]
  | _ => []
def jfs (G : Nat → Option Nat) (M : Nat → Int32) : Nat → List Bool → List Value
  | _, [] => []
  | k, true :: r => va_rf (G k) :: jfs G M (k + 1) r
  | k, false :: r => .int (M k) :: jfs G M (k + 1) r
theorem jfs_len (G : Nat → Option Nat) (M : Nat → Int32) : ∀ (l : List Bool) (k : Nat), (jfs G M k l).length = l.length
  | [], _ => rfl
  | true :: r, k => by simp [jfs, jfs_len G M r (k + 1)]
  | false :: r, k => by simp [jfs, jfs_len G M r (k + 1)]
theorem jfs_cong {G G' : Nat → Option Nat} {M M' : Nat → Int32} : ∀ (l : List Bool) (k : Nat), (∀ j, k ≤ j → G j = G' j) → (∀ j, k ≤ j → M j = M' j) → jfs G M k l = jfs G' M' k l
  | [], _, _, _ => rfl
  | true :: r, k, h, h' => by simp only [jfs, h k (Nat.le_refl k), jfs_cong r (k + 1) (fun j hj => h j (by omega)) (fun j hj => h' j (by omega))]
  | false :: r, k, h, h' => by simp only [jfs, h' k (Nat.le_refl k), jfs_cong r (k + 1) (fun j hj => h j (by omega)) (fun j hj => h' j (by omega))]
theorem jfs_getI (G : Nat → Option Nat) (M : Nat → Int32) : ∀ (l : List Bool) (k0 k : Nat), l[k]? = some false → (jfs G M k0 l)[k]? = some (.int (M (k0 + k)))
  | [], _, _, h => by simp at h
  | b :: r, k0, 0, h => by
    simp only [List.getElem?_cons_zero, Option.some.injEq] at h
    subst h
    rfl
  | b :: r, k0, k + 1, h => by
    rw [List.getElem?_cons_succ] at h
    have ih := jfs_getI G M r (k0 + 1) k h
    rw [show k0 + (k + 1) = k0 + 1 + k by omega]
    cases b <;> exact ih
theorem jfs_getR (G : Nat → Option Nat) (M : Nat → Int32) : ∀ (l : List Bool) (k0 k : Nat), l[k]? = some true → (jfs G M k0 l)[k]? = some (va_rf (G (k0 + k)))
  | [], _, _, h => by simp at h
  | b :: r, k0, 0, h => by
    simp only [List.getElem?_cons_zero, Option.some.injEq] at h
    subst h
    rfl
  | b :: r, k0, k + 1, h => by
    rw [List.getElem?_cons_succ] at h
    have ih := jfs_getR G M r (k0 + 1) k h
    rw [show k0 + (k + 1) = k0 + 1 + k by omega]
    cases b <;> exact ih
theorem jfs_setI (G : Nat → Option Nat) (M : Nat → Int32) (v : Int32) : ∀ (l : List Bool) (k0 k : Nat), l[k]? = some false → (jfs G M k0 l).set k (.int v) = jfs G (fun j => if j = k0 + k then v else M j) k0 l
  | [], _, _, h => by simp at h
  | b :: r, k0, 0, h => by
    simp only [List.getElem?_cons_zero, Option.some.injEq] at h
    subst h
    simp only [jfs, List.set_cons_zero, Nat.add_zero, if_true]
    rw [jfs_cong r (k0 + 1) (fun _ _ => rfl) (fun j hj => (if_neg (show ¬ j = k0 by omega)).symm)]
  | b :: r, k0, k + 1, h => by
    rw [List.getElem?_cons_succ] at h
    have ih := jfs_setI G M v r (k0 + 1) k h
    rw [show k0 + (k + 1) = k0 + 1 + k by omega]
    cases b
    · simp only [jfs, List.set_cons_succ, ih, if_neg (show ¬ k0 = k0 + 1 + k by omega)]
    · simp only [jfs, List.set_cons_succ, ih]
theorem jfs_setR (G : Nat → Option Nat) (M : Nat → Int32) (v : Option Nat) : ∀ (l : List Bool) (k0 k : Nat), l[k]? = some true → (jfs G M k0 l).set k (va_rf v) = jfs (fun j => if j = k0 + k then v else G j) M k0 l
  | [], _, _, h => by simp at h
  | b :: r, k0, 0, h => by
    simp only [List.getElem?_cons_zero, Option.some.injEq] at h
    subst h
    simp only [jfs, List.set_cons_zero, Nat.add_zero, if_true]
    rw [jfs_cong r (k0 + 1) (fun j hj => (if_neg (show ¬ j = k0 by omega)).symm) (fun _ _ => rfl)]
  | b :: r, k0, k + 1, h => by
    rw [List.getElem?_cons_succ] at h
    have ih := jfs_setR G M v r (k0 + 1) k h
    rw [show k0 + (k + 1) = k0 + 1 + k by omega]
    cases b
    · simp only [jfs, List.set_cons_succ, ih]
    · simp only [jfs, List.set_cons_succ, ih, if_neg (show ¬ k0 = k0 + 1 + k by omega)]
/-- what stands at an address -/
def jcell (ω : jW) (γ : jG) (M : jM) (R : jR) (a : Nat) : va_E :=
  if jK γ a < 11 then .inr (jK γ a, jfs (jP γ a) (M a) 0 (jlay (jK γ a)))
  else if jK γ a < 13 then .inl (ω.2.2.1 (jK γ a), jL γ a, .inl (M a))
  else .inl (ω.2.2.1 (jK γ a), jL γ a, .inr (.inr (.inr (.inr (R a)))))
def jpl (lo n : Nat) (f : Nat → va_E) : va_W := va_pl (List.range' lo n) f
theorem jpl_at {lo n : Nat} {f : Nat → va_E} {i : Nat} {q : Nat × va_E} (h : (jpl lo n f)[i]? = some q) : i < n ∧ q = (lo + i, f (lo + i)) := by
  unfold jpl va_pl at h
  rw [List.getElem?_map] at h
  by_cases hi : i < n
  · rw [List.getElem?_range' hi] at h
    refine ⟨hi, ?_⟩
    simp only [Option.map_some, Nat.one_mul, Option.some.injEq] at h
    exact h.symm
  · rw [List.getElem?_eq_none (by simp; omega)] at h
    simp at h
theorem jpl_get {lo n : Nat} {f : Nat → va_E} {a : Nat} (h1 : lo ≤ a) (h2 : a < lo + n) : (jpl lo n f)[a - lo]? = some (a, f a) := by
  unfold jpl va_pl
  rw [List.getElem?_map, List.getElem?_range' (by omega)]
  simp only [Option.map_some, Nat.one_mul]
  rw [show lo + (a - lo) = a by omega]
theorem jpl_D {lo n : Nat} {f : Nat → va_E} : va_D (fun q => lo ≤ q) (jpl lo n f) := by
  refine ⟨fun i j p q hp hq e => ?_, fun k q hq => ?_⟩
  · obtain ⟨-, rfl⟩ := jpl_at hp
    obtain ⟨-, rfl⟩ := jpl_at hq
    simp only at e
    omega
  · obtain ⟨-, rfl⟩ := jpl_at hq
    show lo ≤ lo + k
    omega
theorem jpl_set {lo n : Nat} {f g : Nat → va_E} {a : Nat} {e : va_E} (h1 : lo ≤ a) (h2 : a < lo + n) (hg : ∀ b, b ≠ a → g b = f b) (hga : g a = e) : (jpl lo n f).set (a - lo) (a, e) = jpl lo n g := by
  apply List.ext_getElem?
  intro i
  rw [List.getElem?_set]
  unfold jpl va_pl
  simp only [List.getElem?_map, List.length_map, List.length_range']
  by_cases hi : i < n
  · rw [List.getElem?_range' hi]
    by_cases ha : a - lo = i
    · have e1 : lo + 1 * i = a := by omega
      rw [if_pos ha, if_pos (by omega), e1]
      simp only [Option.map_some, hga]
    · rw [if_neg ha]
      simp only [Option.map_some]
      rw [hg (lo + 1 * i) (by omega)]
  · rw [if_neg (by omega), List.getElem?_eq_none (by simp; omega)]
    rfl
theorem jpl_push {lo n : Nat} {f g : Nat → va_E} {e : va_E} (hg : ∀ b, b < lo + n → g b = f b) (hga : g (lo + n) = e) : jpl lo n f ++ [(lo + n, e)] = jpl lo (n + 1) g := by
  unfold jpl va_pl
  rw [List.range'_concat, List.map_append]
  congr 1
  · apply List.map_congr_left
    intro b hb
    rw [List.mem_range'_1] at hb
    rw [hg b (by omega)]
  · simp only [List.map_cons, List.map_nil, Nat.one_mul, hga]
abbrev jpool (ω : jW) (γ : jG) (M : jM) (R : jR) : va_W := jpl (jlo ω) (jn γ) (jcell ω γ M R)
def jtys (ω : jW) : List (ClassId × FieldType) := [(ω.2.2.1 11, .char), (ω.2.2.1 12, .int), (ω.2.2.1 13, .object RX2), (ω.2.2.1 14, .object RX4), (ω.2.2.1 15, .object RX5)]
/-- an address of the pool, and its kind -/
def jAt (ω : jW) (γ : jG) (a ci : Nat) : Prop := jlo ω ≤ a ∧ a < jlo ω + jn γ ∧ jK γ a = ci
def jArr (ω : jW) (γ : jG) (a kd len : Nat) : Prop := jAt ω γ a kd ∧ jL γ a = len
theorem jcell_O {ω : jW} {γ : jG} {M : jM} {R : jR} {a ci : Nat} (h : jK γ a = ci) (hc : ci < 11) : jcell ω γ M R a = .inr (ci, jfs (jP γ a) (M a) 0 (jlay ci)) := by
  subst h
  simp only [jcell, if_pos hc]
theorem jcell_I {ω : jW} {γ : jG} {M : jM} {R : jR} {a kd : Nat} (h : jK γ a = kd) (h1 : 11 ≤ kd) (h2 : kd < 13) : jcell ω γ M R a = .inl (ω.2.2.1 kd, jL γ a, .inl (M a)) := by
  subst h
  simp only [jcell, if_neg (show ¬ jK γ a < 11 by omega), if_pos h2]
theorem jcell_R {ω : jW} {γ : jG} {M : jM} {R : jR} {a kd : Nat} (h : jK γ a = kd) (h1 : 13 ≤ kd) : jcell ω γ M R a = .inl (ω.2.2.1 kd, jL γ a, .inr (.inr (.inr (.inr (R a))))) := by
  subst h
  simp only [jcell, if_neg (show ¬ jK γ a < 11 by omega), if_neg (show ¬ jK γ a < 13 by omega)]
/-- the words of the tables that every method may use -/
def TBL : List Cond := lw_tbl.filter goodWord
def jNest : Cond → Bool
  | .fieldLinkNest _ _ _ _ _ _ => true
  | .methodLinkNest _ _ _ _ => true
  | _ => false
def NWL : List Cond := lw_tbl.filter jNest
theorem tb_in {w : Cond} (i : Nat) (h : tables_1[i]? = some w) (g : goodWord w = true) : w ∈ TBL := List.mem_filter.mpr ⟨List.mem_append_right _ (List.mem_of_getElem? h), g⟩
theorem tb_sel {w : Cond} (i : Nat) (h : (k2_sels lw_privs)[i]? = some w) (g : goodWord w = true) : w ∈ TBL := List.mem_filter.mpr ⟨List.mem_append_left _ (List.mem_of_getElem? h), g⟩
theorem nw_in {w : Cond} (i : Nat) (h : tables_1[i]? = some w) (g : jNest w = true) : w ∈ NWL := List.mem_filter.mpr ⟨List.mem_append_right _ (List.mem_of_getElem? h), g⟩
theorem nw_warm {s U : State} (hW : s.WarmedH U.vm) (h : ∀ w ∈ NWL, va_Nw w s) : ∀ w ∈ NWL, va_Nw w U := by
  intro w hw
  have h1 := h w hw
  have h2 : jNest w = true := (List.mem_filter.mp hw).2
  cases w <;> first | exact va_Nw.warmF hW h1 | exact va_Nw.warmM hW h1 | (simp [jNest] at h2)
theorem nw_same {u U : State} (hv : u.vm = U.vm) (h : ∀ w ∈ NWL, va_Nw w u) : ∀ w ∈ NWL, va_Nw w U := by
  intro w hw
  have h1 := h w hw
  have h2 : jNest w = true := (List.mem_filter.mp hw).2
  cases w <;> first | exact va_Nw.same rfl hv h1 | (simp [jNest] at h2)
theorem tb_good (y : MethodName) (b : ByteArray) (m : Nat) (r : Option FieldType) (hc : Cond.code y b m r ∈ TBL) (Ts : List Cond) (hT : ∀ w ∈ TBL, w ∈ Ts) : GoodIn Ts (Cond.code y b m r :: TBL) := by
  intro w hw
  rcases List.mem_cons.mp hw with rfl | hw
  · exact ⟨hT _ hc, good_of_word (List.mem_filter.mp hc).2⟩
  · exact ⟨hT _ hw, good_of_word (List.mem_filter.mp hw).2⟩
/-- a kind of objects: its class, fields, their types, what they hold at first -/
def jCl (ci : Nat) (C : String) (T : u_T) (N : Nat) (tyf : Nat → FieldType) : Prop :=
  vwCl[ci]? = some (C, T, N) ∧ (∀ w ∈ u_ws C T N, w ∈ TBL) ∧ (∀ k, k < N → parseFieldDescriptor (T k).2.2.1 = some (tyf k)) ∧ (∀ a, a < N → ∀ b, b < N → a ≠ b → (T a).2.1 ≠ (T b).2.1) ∧
  (∀ j, j < N → defaultValue (tyf j) = vp_V (jfs (fun _ => none) (fun _ => 0) 0 (jlay ci)) j) ∧ (∀ k, k < N → (T k).1 = C)
/-- a field as an instruction of 'own' names it -/
def jFL (own : String) (index ci k : Nat) (ty : FieldType) (fin : Bool) : Prop :=
  ∃ (C : String) (T : u_T) (N : Nat) (tyf : Nat → FieldType), jCl ci C T N tyf ∧ k < N ∧ tyf k = ty ∧ (T k).2.2.2 = fin ∧
    (Cond.fieldLink own index (T k).1 (T k).2.1 (T k).2.2.1 ∈ TBL ∨ ∃ host, Cond.fieldLinkNest own index (T k).1 (T k).2.1 (T k).2.2.1 host ∈ NWL)
/-- what a call links: by the table, or as a nest mate's -/
def jMN (own : String) (index : Nat) (y : MethodName) : Prop := Cond.methodLink own index y ∈ TBL ∨ ∃ host, Cond.methodLinkNest own index y host ∈ NWL
def jYC (y : MethodName) (cc : ByteArray) (maxL : Nat) (ret : Option FieldType) (n : Nat) : Prop :=
  Cond.code y cc maxL ret ∈ TBL ∧ Cond.initialized y.cls ∈ TBL ∧ (y.cls ≠ "java/lang/invoke/MethodHandle" ∧ y.cls ≠ "java/lang/invoke/VarHandle" ∧ (parseMethodDescriptor y.desc).map (fun d => d.parameters.length) = some n)
end
section
theorem cl0_ws : ∀ w ∈ u_ws RX0 TX0 2, w ∈ TBL := by
  intro w hw
  unfold u_ws at hw
  obtain ⟨k, hk, rfl⟩ := List.mem_map.mp hw
  have hk := List.mem_range.mp hk
  match k, hk with
  | 0, _ => exact tb_in 282 (by decide +kernel) (by decide +kernel)
  | 1, _ => exact tb_in 284 (by decide +kernel) (by decide +kernel)
  | n + 2, h => exact absurd h (by omega)
theorem cl0 : jCl 0 RX0 TX0 2 tyX0 := by
  refine ⟨rfl, cl0_ws, tyX0_ok, nmX0, fun j hj => ?_, fun j hj => ?_⟩
  · match j, hj with
    | 0, _ => rfl
    | 1, _ => rfl
    | n + 2, h => exact absurd h (by omega)
  · match j, hj with
    | 0, _ => rfl
    | 1, _ => rfl
    | n + 2, h => exact absurd h (by omega)
theorem in0 : Cond.initialized RX0 ∈ TBL := tb_in 9 (by decide +kernel) rfl
theorem inst0 : Cond.instantiable RX0 2 ∈ TBL := tb_in 271 (by decide +kernel) rfl
theorem cl1_ws : ∀ w ∈ u_ws RX1 TX1 11, w ∈ TBL := by
  intro w hw
  unfold u_ws at hw
  obtain ⟨k, hk, rfl⟩ := List.mem_map.mp hw
  have hk := List.mem_range.mp hk
  match k, hk with
  | 0, _ => exact tb_in 200 (by decide +kernel) (by decide +kernel)
  | 1, _ => exact tb_in 202 (by decide +kernel) (by decide +kernel)
  | 2, _ => exact tb_in 204 (by decide +kernel) (by decide +kernel)
  | 3, _ => exact tb_in 206 (by decide +kernel) (by decide +kernel)
  | 4, _ => exact tb_in 208 (by decide +kernel) (by decide +kernel)
  | 5, _ => exact tb_in 210 (by decide +kernel) (by decide +kernel)
  | 6, _ => exact tb_in 212 (by decide +kernel) (by decide +kernel)
  | 7, _ => exact tb_in 214 (by decide +kernel) (by decide +kernel)
  | 8, _ => exact tb_in 216 (by decide +kernel) (by decide +kernel)
  | 9, _ => exact tb_in 218 (by decide +kernel) (by decide +kernel)
  | 10, _ => exact tb_in 220 (by decide +kernel) (by decide +kernel)
  | n + 11, h => exact absurd h (by omega)
theorem cl1 : jCl 1 RX1 TX1 11 tyX1 := by
  refine ⟨rfl, cl1_ws, tyX1_ok, nmX1, fun j hj => ?_, fun j hj => ?_⟩
  · match j, hj with
    | 0, _ => rfl
    | 1, _ => rfl
    | 2, _ => rfl
    | 3, _ => rfl
    | 4, _ => rfl
    | 5, _ => rfl
    | 6, _ => rfl
    | 7, _ => rfl
    | 8, _ => rfl
    | 9, _ => rfl
    | 10, _ => rfl
    | n + 11, h => exact absurd h (by omega)
  · match j, hj with
    | 0, _ => rfl
    | 1, _ => rfl
    | 2, _ => rfl
    | 3, _ => rfl
    | 4, _ => rfl
    | 5, _ => rfl
    | 6, _ => rfl
    | 7, _ => rfl
    | 8, _ => rfl
    | 9, _ => rfl
    | 10, _ => rfl
    | n + 11, h => exact absurd h (by omega)
theorem in1 : Cond.initialized RX1 ∈ TBL := tb_in 8 (by decide +kernel) rfl
theorem inst1 : Cond.instantiable RX1 11 ∈ TBL := tb_in 172 (by decide +kernel) rfl
theorem cl2_ws : ∀ w ∈ u_ws RX2 TX2 9, w ∈ TBL := by
  intro w hw
  unfold u_ws at hw
  obtain ⟨k, hk, rfl⟩ := List.mem_map.mp hw
  have hk := List.mem_range.mp hk
  match k, hk with
  | 0, _ => exact tb_in 129 (by decide +kernel) (by decide +kernel)
  | 1, _ => exact tb_in 131 (by decide +kernel) (by decide +kernel)
  | 2, _ => exact tb_in 133 (by decide +kernel) (by decide +kernel)
  | 3, _ => exact tb_in 135 (by decide +kernel) (by decide +kernel)
  | 4, _ => exact tb_in 137 (by decide +kernel) (by decide +kernel)
  | 5, _ => exact tb_in 139 (by decide +kernel) (by decide +kernel)
  | 6, _ => exact tb_in 141 (by decide +kernel) (by decide +kernel)
  | 7, _ => exact tb_in 143 (by decide +kernel) (by decide +kernel)
  | 8, _ => exact tb_in 145 (by decide +kernel) (by decide +kernel)
  | n + 9, h => exact absurd h (by omega)
theorem cl2 : jCl 2 RX2 TX2 9 tyX2 := by
  refine ⟨rfl, cl2_ws, tyX2_ok, nmX2, fun j hj => ?_, fun j hj => ?_⟩
  · match j, hj with
    | 0, _ => rfl
    | 1, _ => rfl
    | 2, _ => rfl
    | 3, _ => rfl
    | 4, _ => rfl
    | 5, _ => rfl
    | 6, _ => rfl
    | 7, _ => rfl
    | 8, _ => rfl
    | n + 9, h => exact absurd h (by omega)
  · match j, hj with
    | 0, _ => rfl
    | 1, _ => rfl
    | 2, _ => rfl
    | 3, _ => rfl
    | 4, _ => rfl
    | 5, _ => rfl
    | 6, _ => rfl
    | 7, _ => rfl
    | 8, _ => rfl
    | n + 9, h => exact absurd h (by omega)
theorem in2 : Cond.initialized RX2 ∈ TBL := tb_in 7 (by decide +kernel) rfl
theorem inst2 : Cond.instantiable RX2 9 ∈ TBL := tb_in 103 (by decide +kernel) rfl
theorem cl3_ws : ∀ w ∈ u_ws RX3 TX3 6, w ∈ TBL := by
  intro w hw
  unfold u_ws at hw
  obtain ⟨k, hk, rfl⟩ := List.mem_map.mp hw
  have hk := List.mem_range.mp hk
  match k, hk with
  | 0, _ => exact tb_in 158 (by decide +kernel) (by decide +kernel)
  | 1, _ => exact tb_in 160 (by decide +kernel) (by decide +kernel)
  | 2, _ => exact tb_in 162 (by decide +kernel) (by decide +kernel)
  | 3, _ => exact tb_in 164 (by decide +kernel) (by decide +kernel)
  | 4, _ => exact tb_in 166 (by decide +kernel) (by decide +kernel)
  | 5, _ => exact tb_in 168 (by decide +kernel) (by decide +kernel)
  | n + 6, h => exact absurd h (by omega)
theorem cl3 : jCl 3 RX3 TX3 6 tyX3 := by
  refine ⟨rfl, cl3_ws, tyX3_ok, nmX3, fun j hj => ?_, fun j hj => ?_⟩
  · match j, hj with
    | 0, _ => rfl
    | 1, _ => rfl
    | 2, _ => rfl
    | 3, _ => rfl
    | 4, _ => rfl
    | 5, _ => rfl
    | n + 6, h => exact absurd h (by omega)
  · match j, hj with
    | 0, _ => rfl
    | 1, _ => rfl
    | 2, _ => rfl
    | 3, _ => rfl
    | 4, _ => rfl
    | 5, _ => rfl
    | n + 6, h => exact absurd h (by omega)
theorem in3 : Cond.initialized RX3 ∈ TBL := tb_in 6 (by decide +kernel) rfl
theorem inst3 : Cond.instantiable RX3 6 ∈ TBL := tb_in 96 (by decide +kernel) rfl
theorem cl4_ws : ∀ w ∈ u_ws RX4 TX4 12, w ∈ TBL := by
  intro w hw
  unfold u_ws at hw
  obtain ⟨k, hk, rfl⟩ := List.mem_map.mp hw
  have hk := List.mem_range.mp hk
  match k, hk with
  | 0, _ => exact tb_in 245 (by decide +kernel) (by decide +kernel)
  | 1, _ => exact tb_in 247 (by decide +kernel) (by decide +kernel)
  | 2, _ => exact tb_in 249 (by decide +kernel) (by decide +kernel)
  | 3, _ => exact tb_in 251 (by decide +kernel) (by decide +kernel)
  | 4, _ => exact tb_in 253 (by decide +kernel) (by decide +kernel)
  | 5, _ => exact tb_in 255 (by decide +kernel) (by decide +kernel)
  | 6, _ => exact tb_in 257 (by decide +kernel) (by decide +kernel)
  | 7, _ => exact tb_in 259 (by decide +kernel) (by decide +kernel)
  | 8, _ => exact tb_in 261 (by decide +kernel) (by decide +kernel)
  | 9, _ => exact tb_in 263 (by decide +kernel) (by decide +kernel)
  | 10, _ => exact tb_in 265 (by decide +kernel) (by decide +kernel)
  | 11, _ => exact tb_in 267 (by decide +kernel) (by decide +kernel)
  | n + 12, h => exact absurd h (by omega)
theorem cl4 : jCl 4 RX4 TX4 12 tyX4 := by
  refine ⟨rfl, cl4_ws, tyX4_ok, nmX4, fun j hj => ?_, fun j hj => ?_⟩
  · match j, hj with
    | 0, _ => rfl
    | 1, _ => rfl
    | 2, _ => rfl
    | 3, _ => rfl
    | 4, _ => rfl
    | 5, _ => rfl
    | 6, _ => rfl
    | 7, _ => rfl
    | 8, _ => rfl
    | 9, _ => rfl
    | 10, _ => rfl
    | 11, _ => rfl
    | n + 12, h => exact absurd h (by omega)
  · match j, hj with
    | 0, _ => rfl
    | 1, _ => rfl
    | 2, _ => rfl
    | 3, _ => rfl
    | 4, _ => rfl
    | 5, _ => rfl
    | 6, _ => rfl
    | 7, _ => rfl
    | 8, _ => rfl
    | 9, _ => rfl
    | 10, _ => rfl
    | 11, _ => rfl
    | n + 12, h => exact absurd h (by omega)
theorem in4 : Cond.initialized RX4 ∈ TBL := tb_in 2 (by decide +kernel) rfl
theorem inst4 : Cond.instantiable RX4 12 ∈ TBL := tb_in 27 (by decide +kernel) rfl
theorem cl5_ws : ∀ w ∈ u_ws RX5 TX5 4, w ∈ TBL := by
  intro w hw
  unfold u_ws at hw
  obtain ⟨k, hk, rfl⟩ := List.mem_map.mp hw
  have hk := List.mem_range.mp hk
  match k, hk with
  | 0, _ => exact tb_in 86 (by decide +kernel) (by decide +kernel)
  | 1, _ => exact tb_in 88 (by decide +kernel) (by decide +kernel)
  | 2, _ => exact tb_in 90 (by decide +kernel) (by decide +kernel)
  | 3, _ => exact tb_in 92 (by decide +kernel) (by decide +kernel)
  | n + 4, h => exact absurd h (by omega)
theorem cl5 : jCl 5 RX5 TX5 4 tyX5 := by
  refine ⟨rfl, cl5_ws, tyX5_ok, nmX5, fun j hj => ?_, fun j hj => ?_⟩
  · match j, hj with
    | 0, _ => rfl
    | 1, _ => rfl
    | 2, _ => rfl
    | 3, _ => rfl
    | n + 4, h => exact absurd h (by omega)
  · match j, hj with
    | 0, _ => rfl
    | 1, _ => rfl
    | 2, _ => rfl
    | 3, _ => rfl
    | n + 4, h => exact absurd h (by omega)
theorem in5 : Cond.initialized RX5 ∈ TBL := tb_in 5 (by decide +kernel) rfl
theorem inst5 : Cond.instantiable RX5 4 ∈ TBL := tb_in 72 (by decide +kernel) rfl
theorem cl6_ws : ∀ w ∈ u_ws RX6 TX6 2, w ∈ TBL := by
  intro w hw
  unfold u_ws at hw
  obtain ⟨k, hk, rfl⟩ := List.mem_map.mp hw
  have hk := List.mem_range.mp hk
  match k, hk with
  | 0, _ => exact tb_in 49 (by decide +kernel) (by decide +kernel)
  | 1, _ => exact tb_in 51 (by decide +kernel) (by decide +kernel)
  | n + 2, h => exact absurd h (by omega)
theorem cl6 : jCl 6 RX6 TX6 2 tyX6 := by
  refine ⟨rfl, cl6_ws, tyX6_ok, nmX6, fun j hj => ?_, fun j hj => ?_⟩
  · match j, hj with
    | 0, _ => rfl
    | 1, _ => rfl
    | n + 2, h => exact absurd h (by omega)
  · match j, hj with
    | 0, _ => rfl
    | 1, _ => rfl
    | n + 2, h => exact absurd h (by omega)
theorem in6 : Cond.initialized RX6 ∈ TBL := tb_in 4 (by decide +kernel) rfl
theorem inst6 : Cond.instantiable RX6 2 ∈ TBL := tb_in 39 (by decide +kernel) rfl
theorem cl7_ws : ∀ w ∈ u_ws RX7 TX7 3, w ∈ TBL := by
  intro w hw
  unfold u_ws at hw
  obtain ⟨k, hk, rfl⟩ := List.mem_map.mp hw
  have hk := List.mem_range.mp hk
  match k, hk with
  | 0, _ => exact tb_in 61 (by decide +kernel) (by decide +kernel)
  | 1, _ => exact tb_in 63 (by decide +kernel) (by decide +kernel)
  | 2, _ => exact tb_in 65 (by decide +kernel) (by decide +kernel)
  | n + 3, h => exact absurd h (by omega)
theorem cl7 : jCl 7 RX7 TX7 3 tyX7 := by
  refine ⟨rfl, cl7_ws, tyX7_ok, nmX7, fun j hj => ?_, fun j hj => ?_⟩
  · match j, hj with
    | 0, _ => rfl
    | 1, _ => rfl
    | 2, _ => rfl
    | n + 3, h => exact absurd h (by omega)
  · match j, hj with
    | 0, _ => rfl
    | 1, _ => rfl
    | 2, _ => rfl
    | n + 3, h => exact absurd h (by omega)
theorem in7 : Cond.initialized RX7 ∈ TBL := tb_in 3 (by decide +kernel) rfl
theorem inst7 : Cond.instantiable RX7 3 ∈ TBL := tb_in 33 (by decide +kernel) rfl
theorem cl8_ws : ∀ w ∈ u_ws RX8 TX8 2, w ∈ TBL := by
  intro w hw
  unfold u_ws at hw
  obtain ⟨k, hk, rfl⟩ := List.mem_map.mp hw
  have hk := List.mem_range.mp hk
  match k, hk with
  | 0, _ => exact tb_in 296 (by decide +kernel) (by decide +kernel)
  | 1, _ => exact tb_in 298 (by decide +kernel) (by decide +kernel)
  | n + 2, h => exact absurd h (by omega)
theorem cl8 : jCl 8 RX8 TX8 2 tyX8 := by
  refine ⟨rfl, cl8_ws, tyX8_ok, nmX8, fun j hj => ?_, fun j hj => ?_⟩
  · match j, hj with
    | 0, _ => rfl
    | 1, _ => rfl
    | n + 2, h => exact absurd h (by omega)
  · match j, hj with
    | 0, _ => rfl
    | 1, _ => rfl
    | n + 2, h => exact absurd h (by omega)
theorem in8 : Cond.initialized RX8 ∈ TBL := tb_in 10 (by decide +kernel) rfl
theorem inst8 : Cond.instantiable RX8 2 ∈ TBL := tb_in 288 (by decide +kernel) rfl
theorem cl9_ws : ∀ w ∈ u_ws RX9 TX9 4, w ∈ TBL := by
  intro w hw
  unfold u_ws at hw
  obtain ⟨k, hk, rfl⟩ := List.mem_map.mp hw
  have hk := List.mem_range.mp hk
  match k, hk with
  | 0, _ => exact tb_in 306 (by decide +kernel) (by decide +kernel)
  | 1, _ => exact tb_in 308 (by decide +kernel) (by decide +kernel)
  | 2, _ => exact tb_in 310 (by decide +kernel) (by decide +kernel)
  | 3, _ => exact tb_in 312 (by decide +kernel) (by decide +kernel)
  | n + 4, h => exact absurd h (by omega)
theorem cl9 : jCl 9 RX9 TX9 4 tyX9 := by
  refine ⟨rfl, cl9_ws, tyX9_ok, nmX9, fun j hj => ?_, fun j hj => ?_⟩
  · match j, hj with
    | 0, _ => rfl
    | 1, _ => rfl
    | 2, _ => rfl
    | 3, _ => rfl
    | n + 4, h => exact absurd h (by omega)
  · match j, hj with
    | 0, _ => rfl
    | 1, _ => rfl
    | 2, _ => rfl
    | 3, _ => rfl
    | n + 4, h => exact absurd h (by omega)
theorem in9 : Cond.initialized RX9 ∈ TBL := tb_in 1 (by decide +kernel) rfl
theorem inst9 : Cond.instantiable RX9 4 ∈ TBL := tb_in 19 (by decide +kernel) rfl
theorem cl10_ws : ∀ w ∈ u_ws RX10 TX10 8, w ∈ TBL := by
  intro w hw
  unfold u_ws at hw
  obtain ⟨k, hk, rfl⟩ := List.mem_map.mp hw
  have hk := List.mem_range.mp hk
  match k, hk with
  | 0, _ => exact tb_in 860 (by decide +kernel) (by decide +kernel)
  | 1, _ => exact tb_in 862 (by decide +kernel) (by decide +kernel)
  | 2, _ => exact tb_in 864 (by decide +kernel) (by decide +kernel)
  | 3, _ => exact tb_in 866 (by decide +kernel) (by decide +kernel)
  | 4, _ => exact tb_in 868 (by decide +kernel) (by decide +kernel)
  | 5, _ => exact tb_in 870 (by decide +kernel) (by decide +kernel)
  | 6, _ => exact tb_in 872 (by decide +kernel) (by decide +kernel)
  | 7, _ => exact tb_in 874 (by decide +kernel) (by decide +kernel)
  | n + 8, h => exact absurd h (by omega)
theorem cl10 : jCl 10 RX10 TX10 8 tyX10 := by
  refine ⟨rfl, cl10_ws, tyX10_ok, nmX10, fun j hj => ?_, fun j hj => ?_⟩
  · match j, hj with
    | 0, _ => rfl
    | 1, _ => rfl
    | 2, _ => rfl
    | 3, _ => rfl
    | 4, _ => rfl
    | 5, _ => rfl
    | 6, _ => rfl
    | 7, _ => rfl
    | n + 8, h => exact absurd h (by omega)
  · match j, hj with
    | 0, _ => rfl
    | 1, _ => rfl
    | 2, _ => rfl
    | 3, _ => rfl
    | 4, _ => rfl
    | 5, _ => rfl
    | 6, _ => rfl
    | 7, _ => rfl
    | n + 8, h => exact absurd h (by omega)
theorem in10 : Cond.initialized RX10 ∈ TBL := tb_in 11 (by decide +kernel) rfl
theorem inst10 : Cond.instantiable RX10 8 ∈ TBL := tb_in 847 (by decide +kernel) rfl
theorem fl_X9_10 : jFL RX9 10 9 0 (.object "PlanShelves$State") true := ⟨RX9, TX9, 4, tyX9, cl9, by decide, rfl, rfl, Or.inl (tb_in 302 (by decide +kernel) rfl)⟩
theorem flw_X9_10 : Cond.fieldLink RX9 10 (TX9 0).1 (TX9 0).2.1 (TX9 0).2.2.1 ∈ TBL := tb_in 302 (by decide +kernel) rfl
theorem fl_X9_19 : jFL RX9 19 9 1 (.object "PlanShelves$History") true := ⟨RX9, TX9, 4, tyX9, cl9, by decide, rfl, rfl, Or.inl (tb_in 303 (by decide +kernel) rfl)⟩
theorem flw_X9_19 : Cond.fieldLink RX9 19 (TX9 1).1 (TX9 1).2.1 (TX9 1).2.2.1 ∈ TBL := tb_in 303 (by decide +kernel) rfl
theorem fl_X9_26 : jFL RX9 26 9 2 (.object "PlanShelves$Text") true := ⟨RX9, TX9, 4, tyX9, cl9, by decide, rfl, rfl, Or.inl (tb_in 304 (by decide +kernel) rfl)⟩
theorem flw_X9_26 : Cond.fieldLink RX9 26 (TX9 2).1 (TX9 2).2.1 (TX9 2).2.2.1 ∈ TBL := tb_in 304 (by decide +kernel) rfl
theorem fl_X9_30 : jFL RX9 30 9 3 (.array .int) true := ⟨RX9, TX9, 4, tyX9, cl9, by decide, rfl, rfl, Or.inl (tb_in 305 (by decide +kernel) rfl)⟩
theorem flw_X9_30 : Cond.fieldLink RX9 30 (TX9 3).1 (TX9 3).2.1 (TX9 3).2.2.1 ∈ TBL := tb_in 305 (by decide +kernel) rfl
theorem fl_X9_42 : jFL RX9 42 4 0 (.object "PlanShelves$Table") true := ⟨RX4, TX4, 12, tyX4, cl4, by decide, rfl, rfl, Or.inr ⟨"PlanShelves", nw_in 224 (by decide +kernel) rfl⟩⟩
theorem fl_X9_46 : jFL RX9 46 7 2 .int false := ⟨RX7, TX7, 3, tyX7, cl7, by decide, rfl, rfl, Or.inr ⟨"PlanShelves", nw_in 60 (by decide +kernel) rfl⟩⟩
theorem fl_X9_83 : jFL RX9 83 4 1 (.object "PlanShelves$Sums") true := ⟨RX4, TX4, 12, tyX4, cl4, by decide, rfl, rfl, Or.inr ⟨"PlanShelves", nw_in 226 (by decide +kernel) rfl⟩⟩
theorem fl_X9_87 : jFL RX9 87 7 1 (.object "PlanShelves$Sums") true := ⟨RX7, TX7, 3, tyX7, cl7, by decide, rfl, rfl, Or.inr ⟨"PlanShelves", nw_in 57 (by decide +kernel) rfl⟩⟩
theorem fl_X9_96 : jFL RX9 96 6 1 .int false := ⟨RX6, TX6, 2, tyX6, cl6, by decide, rfl, rfl, Or.inr ⟨"PlanShelves", nw_in 46 (by decide +kernel) rfl⟩⟩
theorem fl_X9_114 : jFL RX9 114 4 8 .int false := ⟨RX4, TX4, 12, tyX4, cl4, by decide, rfl, rfl, Or.inr ⟨"PlanShelves", nw_in 238 (by decide +kernel) rfl⟩⟩
theorem fl_X9_127 : jFL RX9 127 5 2 .int false := ⟨RX5, TX5, 4, tyX5, cl5, by decide, rfl, rfl, Or.inr ⟨"PlanShelves", nw_in 81 (by decide +kernel) rfl⟩⟩
theorem fl_X9_132 : jFL RX9 132 4 4 (.object "PlanShelves$Shelf") true := ⟨RX4, TX4, 12, tyX4, cl4, by decide, rfl, rfl, Or.inr ⟨"PlanShelves", nw_in 230 (by decide +kernel) rfl⟩⟩
theorem fl_X9_141 : jFL RX9 141 5 3 .int false := ⟨RX5, TX5, 4, tyX5, cl5, by decide, rfl, rfl, Or.inr ⟨"PlanShelves", nw_in 84 (by decide +kernel) rfl⟩⟩
theorem fl_X9_161 : jFL RX9 161 4 5 (.object "PlanShelves$LastRun") true := ⟨RX4, TX4, 12, tyX4, cl4, by decide, rfl, rfl, Or.inr ⟨"PlanShelves", nw_in 232 (by decide +kernel) rfl⟩⟩
theorem fl_X9_177 : jFL RX9 177 2 7 .boolean false := ⟨RX2, TX2, 9, tyX2, cl2, by decide, rfl, rfl, Or.inr ⟨"PlanShelves", nw_in 126 (by decide +kernel) rfl⟩⟩
theorem fl_X9_188 : jFL RX9 188 3 2 .int false := ⟨RX3, TX3, 6, tyX3, cl3, by decide, rfl, rfl, Or.inr ⟨"PlanShelves", nw_in 152 (by decide +kernel) rfl⟩⟩
theorem fl_X9_203 : jFL RX9 203 4 9 .int false := ⟨RX4, TX4, 12, tyX4, cl4, by decide, rfl, rfl, Or.inr ⟨"PlanShelves", nw_in 240 (by decide +kernel) rfl⟩⟩
theorem fl_X9_215 : jFL RX9 215 4 7 .int false := ⟨RX4, TX4, 12, tyX4, cl4, by decide, rfl, rfl, Or.inr ⟨"PlanShelves", nw_in 236 (by decide +kernel) rfl⟩⟩
theorem fl_X9_218 : jFL RX9 218 4 10 .int false := ⟨RX4, TX4, 12, tyX4, cl4, by decide, rfl, rfl, Or.inr ⟨"PlanShelves", nw_in 242 (by decide +kernel) rfl⟩⟩
theorem fl_X9_221 : jFL RX9 221 3 4 .int false := ⟨RX3, TX3, 6, tyX3, cl3, by decide, rfl, rfl, Or.inr ⟨"PlanShelves", nw_in 155 (by decide +kernel) rfl⟩⟩
theorem fl_X9_224 : jFL RX9 224 4 11 .int false := ⟨RX4, TX4, 12, tyX4, cl4, by decide, rfl, rfl, Or.inr ⟨"PlanShelves", nw_in 244 (by decide +kernel) rfl⟩⟩
theorem fl_X9_227 : jFL RX9 227 3 5 .int false := ⟨RX3, TX3, 6, tyX3, cl3, by decide, rfl, rfl, Or.inr ⟨"PlanShelves", nw_in 157 (by decide +kernel) rfl⟩⟩
theorem fl_X9_230 : jFL RX9 230 0 1 .int false := ⟨RX0, TX0, 2, tyX0, cl0, by decide, rfl, rfl, Or.inr ⟨"PlanShelves", nw_in 281 (by decide +kernel) rfl⟩⟩
theorem fl_X9_231 : jFL RX9 231 8 1 .int false := ⟨RX8, TX8, 2, tyX8, cl8, by decide, rfl, rfl, Or.inr ⟨"PlanShelves", nw_in 295 (by decide +kernel) rfl⟩⟩
theorem fl_X9_234 : jFL RX9 234 4 6 (.array .int) true := ⟨RX4, TX4, 12, tyX4, cl4, by decide, rfl, rfl, Or.inr ⟨"PlanShelves", nw_in 234 (by decide +kernel) rfl⟩⟩
theorem fl_X9_245 : jFL RX9 245 1 1 .boolean false := ⟨RX1, TX1, 11, tyX1, cl1, by decide, rfl, rfl, Or.inr ⟨"PlanShelves", nw_in 180 (by decide +kernel) rfl⟩⟩
theorem fl_X9_248 : jFL RX9 248 1 2 .int false := ⟨RX1, TX1, 11, tyX1, cl1, by decide, rfl, rfl, Or.inr ⟨"PlanShelves", nw_in 183 (by decide +kernel) rfl⟩⟩
theorem fl_X9_251 : jFL RX9 251 1 0 (.array .int) true := ⟨RX1, TX1, 11, tyX1, cl1, by decide, rfl, rfl, Or.inr ⟨"PlanShelves", nw_in 178 (by decide +kernel) rfl⟩⟩
theorem fl_X0_11 : jFL RX0 11 0 0 (.array (.object "PlanShelves$State")) true := ⟨RX0, TX0, 2, tyX0, cl0, by decide, rfl, rfl, Or.inl (tb_in 279 (by decide +kernel) rfl)⟩
theorem flw_X0_11 : Cond.fieldLink RX0 11 (TX0 0).1 (TX0 0).2.1 (TX0 0).2.2.1 ∈ TBL := tb_in 279 (by decide +kernel) rfl
theorem fl_X0_18 : jFL RX0 18 0 1 .int false := ⟨RX0, TX0, 2, tyX0, cl0, by decide, rfl, rfl, Or.inl (tb_in 280 (by decide +kernel) rfl)⟩
theorem fl_X1_9 : jFL RX1 9 1 0 (.array .int) true := ⟨RX1, TX1, 11, tyX1, cl1, by decide, rfl, rfl, Or.inl (tb_in 177 (by decide +kernel) rfl)⟩
theorem flw_X1_9 : Cond.fieldLink RX1 9 (TX1 0).1 (TX1 0).2.1 (TX1 0).2.2.1 ∈ TBL := tb_in 177 (by decide +kernel) rfl
theorem fl_X1_15 : jFL RX1 15 1 1 .boolean false := ⟨RX1, TX1, 11, tyX1, cl1, by decide, rfl, rfl, Or.inl (tb_in 179 (by decide +kernel) rfl)⟩
theorem fl_X1_19 : jFL RX1 19 1 2 .int false := ⟨RX1, TX1, 11, tyX1, cl1, by decide, rfl, rfl, Or.inl (tb_in 181 (by decide +kernel) rfl)⟩
theorem fl_X1_27 : jFL RX1 27 1 3 .int false := ⟨RX1, TX1, 11, tyX1, cl1, by decide, rfl, rfl, Or.inl (tb_in 184 (by decide +kernel) rfl)⟩
theorem fl_X1_30 : jFL RX1 30 1 10 .int false := ⟨RX1, TX1, 11, tyX1, cl1, by decide, rfl, rfl, Or.inl (tb_in 198 (by decide +kernel) rfl)⟩
theorem fl_X1_33 : jFL RX1 33 1 4 .int false := ⟨RX1, TX1, 11, tyX1, cl1, by decide, rfl, rfl, Or.inl (tb_in 186 (by decide +kernel) rfl)⟩
theorem fl_X1_36 : jFL RX1 36 1 5 .int false := ⟨RX1, TX1, 11, tyX1, cl1, by decide, rfl, rfl, Or.inl (tb_in 188 (by decide +kernel) rfl)⟩
theorem fl_X1_39 : jFL RX1 39 1 6 .int false := ⟨RX1, TX1, 11, tyX1, cl1, by decide, rfl, rfl, Or.inl (tb_in 190 (by decide +kernel) rfl)⟩
theorem fl_X1_42 : jFL RX1 42 1 7 .int false := ⟨RX1, TX1, 11, tyX1, cl1, by decide, rfl, rfl, Or.inl (tb_in 192 (by decide +kernel) rfl)⟩
theorem fl_X1_45 : jFL RX1 45 1 8 .int false := ⟨RX1, TX1, 11, tyX1, cl1, by decide, rfl, rfl, Or.inl (tb_in 194 (by decide +kernel) rfl)⟩
theorem fl_X1_48 : jFL RX1 48 1 9 .boolean false := ⟨RX1, TX1, 11, tyX1, cl1, by decide, rfl, rfl, Or.inl (tb_in 196 (by decide +kernel) rfl)⟩
theorem fl_X2_9 : jFL RX2 9 2 0 .int false := ⟨RX2, TX2, 9, tyX2, cl2, by decide, rfl, rfl, Or.inl (tb_in 108 (by decide +kernel) rfl)⟩
theorem fl_X2_15 : jFL RX2 15 2 1 .int false := ⟨RX2, TX2, 9, tyX2, cl2, by decide, rfl, rfl, Or.inl (tb_in 111 (by decide +kernel) rfl)⟩
theorem fl_X2_18 : jFL RX2 18 2 2 .int false := ⟨RX2, TX2, 9, tyX2, cl2, by decide, rfl, rfl, Or.inl (tb_in 114 (by decide +kernel) rfl)⟩
theorem fl_X2_21 : jFL RX2 21 2 5 .int false := ⟨RX2, TX2, 9, tyX2, cl2, by decide, rfl, rfl, Or.inl (tb_in 120 (by decide +kernel) rfl)⟩
theorem fl_X2_24 : jFL RX2 24 2 6 .int false := ⟨RX2, TX2, 9, tyX2, cl2, by decide, rfl, rfl, Or.inl (tb_in 122 (by decide +kernel) rfl)⟩
theorem fl_X2_27 : jFL RX2 27 2 7 .boolean false := ⟨RX2, TX2, 9, tyX2, cl2, by decide, rfl, rfl, Or.inl (tb_in 124 (by decide +kernel) rfl)⟩
theorem fl_X2_31 : jFL RX2 31 2 8 .int false := ⟨RX2, TX2, 9, tyX2, cl2, by decide, rfl, rfl, Or.inl (tb_in 127 (by decide +kernel) rfl)⟩
theorem fl_X2_34 : jFL RX2 34 2 3 .int false := ⟨RX2, TX2, 9, tyX2, cl2, by decide, rfl, rfl, Or.inl (tb_in 117 (by decide +kernel) rfl)⟩
theorem fl_X2_37 : jFL RX2 37 2 4 .int false := ⟨RX2, TX2, 9, tyX2, cl2, by decide, rfl, rfl, Or.inl (tb_in 118 (by decide +kernel) rfl)⟩
theorem fl_X3_11 : jFL RX3 11 3 0 (.array (.object "PlanShelves$Plan")) true := ⟨RX3, TX3, 6, tyX3, cl3, by decide, rfl, rfl, Or.inl (tb_in 148 (by decide +kernel) rfl)⟩
theorem flw_X3_11 : Cond.fieldLink RX3 11 (TX3 0).1 (TX3 0).2.1 (TX3 0).2.2.1 ∈ TBL := tb_in 148 (by decide +kernel) rfl
theorem fl_X3_18 : jFL RX3 18 3 1 (.object "PlanShelves$Plan") true := ⟨RX3, TX3, 6, tyX3, cl3, by decide, rfl, rfl, Or.inl (tb_in 149 (by decide +kernel) rfl)⟩
theorem flw_X3_18 : Cond.fieldLink RX3 18 (TX3 1).1 (TX3 1).2.1 (TX3 1).2.2.1 ∈ TBL := tb_in 149 (by decide +kernel) rfl
theorem fl_X3_22 : jFL RX3 22 3 2 .int false := ⟨RX3, TX3, 6, tyX3, cl3, by decide, rfl, rfl, Or.inl (tb_in 150 (by decide +kernel) rfl)⟩
theorem fl_X3_30 : jFL RX3 30 2 0 .int false := ⟨RX2, TX2, 9, tyX2, cl2, by decide, rfl, rfl, Or.inr ⟨"PlanShelves", nw_in 109 (by decide +kernel) rfl⟩⟩
theorem fl_X3_33 : jFL RX3 33 2 1 .int false := ⟨RX2, TX2, 9, tyX2, cl2, by decide, rfl, rfl, Or.inr ⟨"PlanShelves", nw_in 113 (by decide +kernel) rfl⟩⟩
theorem fl_X3_36 : jFL RX3 36 2 2 .int false := ⟨RX2, TX2, 9, tyX2, cl2, by decide, rfl, rfl, Or.inr ⟨"PlanShelves", nw_in 115 (by decide +kernel) rfl⟩⟩
theorem fl_X3_39 : jFL RX3 39 2 7 .boolean false := ⟨RX2, TX2, 9, tyX2, cl2, by decide, rfl, rfl, Or.inr ⟨"PlanShelves", nw_in 125 (by decide +kernel) rfl⟩⟩
theorem fl_X3_62 : jFL RX3 62 3 4 .int false := ⟨RX3, TX3, 6, tyX3, cl3, by decide, rfl, rfl, Or.inl (tb_in 154 (by decide +kernel) rfl)⟩
theorem fl_X3_69 : jFL RX3 69 3 3 .int false := ⟨RX3, TX3, 6, tyX3, cl3, by decide, rfl, rfl, Or.inl (tb_in 153 (by decide +kernel) rfl)⟩
theorem fl_X3_72 : jFL RX3 72 3 5 .int false := ⟨RX3, TX3, 6, tyX3, cl3, by decide, rfl, rfl, Or.inl (tb_in 156 (by decide +kernel) rfl)⟩
theorem fl_X4_12 : jFL RX4 12 4 0 (.object "PlanShelves$Table") true := ⟨RX4, TX4, 12, tyX4, cl4, by decide, rfl, rfl, Or.inl (tb_in 223 (by decide +kernel) rfl)⟩
theorem flw_X4_12 : Cond.fieldLink RX4 12 (TX4 0).1 (TX4 0).2.1 (TX4 0).2.2.1 ∈ TBL := tb_in 223 (by decide +kernel) rfl
theorem fl_X4_21 : jFL RX4 21 4 1 (.object "PlanShelves$Sums") true := ⟨RX4, TX4, 12, tyX4, cl4, by decide, rfl, rfl, Or.inl (tb_in 225 (by decide +kernel) rfl)⟩
theorem flw_X4_21 : Cond.fieldLink RX4 21 (TX4 1).1 (TX4 1).2.1 (TX4 1).2.2.1 ∈ TBL := tb_in 225 (by decide +kernel) rfl
theorem fl_X4_27 : jFL RX4 27 4 2 (.array (.object "PlanShelves$Statement")) true := ⟨RX4, TX4, 12, tyX4, cl4, by decide, rfl, rfl, Or.inl (tb_in 227 (by decide +kernel) rfl)⟩
theorem flw_X4_27 : Cond.fieldLink RX4 27 (TX4 2).1 (TX4 2).2.1 (TX4 2).2.2.1 ∈ TBL := tb_in 227 (by decide +kernel) rfl
theorem fl_X4_32 : jFL RX4 32 4 3 (.object "PlanShelves$Statement") true := ⟨RX4, TX4, 12, tyX4, cl4, by decide, rfl, rfl, Or.inl (tb_in 228 (by decide +kernel) rfl)⟩
theorem flw_X4_32 : Cond.fieldLink RX4 32 (TX4 3).1 (TX4 3).2.1 (TX4 3).2.2.1 ∈ TBL := tb_in 228 (by decide +kernel) rfl
theorem fl_X4_39 : jFL RX4 39 4 4 (.object "PlanShelves$Shelf") true := ⟨RX4, TX4, 12, tyX4, cl4, by decide, rfl, rfl, Or.inl (tb_in 229 (by decide +kernel) rfl)⟩
theorem flw_X4_39 : Cond.fieldLink RX4 39 (TX4 4).1 (TX4 4).2.1 (TX4 4).2.2.1 ∈ TBL := tb_in 229 (by decide +kernel) rfl
theorem fl_X4_46 : jFL RX4 46 4 5 (.object "PlanShelves$LastRun") true := ⟨RX4, TX4, 12, tyX4, cl4, by decide, rfl, rfl, Or.inl (tb_in 231 (by decide +kernel) rfl)⟩
theorem flw_X4_46 : Cond.fieldLink RX4 46 (TX4 5).1 (TX4 5).2.1 (TX4 5).2.2.1 ∈ TBL := tb_in 231 (by decide +kernel) rfl
theorem fl_X4_50 : jFL RX4 50 4 6 (.array .int) true := ⟨RX4, TX4, 12, tyX4, cl4, by decide, rfl, rfl, Or.inl (tb_in 233 (by decide +kernel) rfl)⟩
theorem flw_X4_50 : Cond.fieldLink RX4 50 (TX4 6).1 (TX4 6).2.1 (TX4 6).2.2.1 ∈ TBL := tb_in 233 (by decide +kernel) rfl
theorem fl_X4_54 : jFL RX4 54 4 7 .int false := ⟨RX4, TX4, 12, tyX4, cl4, by decide, rfl, rfl, Or.inl (tb_in 235 (by decide +kernel) rfl)⟩
theorem fl_X4_58 : jFL RX4 58 3 2 .int false := ⟨RX3, TX3, 6, tyX3, cl3, by decide, rfl, rfl, Or.inr ⟨"PlanShelves", nw_in 151 (by decide +kernel) rfl⟩⟩
theorem fl_X4_65 : jFL RX4 65 2 3 .int false := ⟨RX2, TX2, 9, tyX2, cl2, by decide, rfl, rfl, Or.inr ⟨"PlanShelves", nw_in 116 (by decide +kernel) rfl⟩⟩
theorem fl_X4_70 : jFL RX4 70 2 1 .int false := ⟨RX2, TX2, 9, tyX2, cl2, by decide, rfl, rfl, Or.inr ⟨"PlanShelves", nw_in 112 (by decide +kernel) rfl⟩⟩
theorem fl_X4_89 : jFL RX4 89 4 8 .int false := ⟨RX4, TX4, 12, tyX4, cl4, by decide, rfl, rfl, Or.inl (tb_in 237 (by decide +kernel) rfl)⟩
theorem fl_X4_100 : jFL RX4 100 5 2 .int false := ⟨RX5, TX5, 4, tyX5, cl5, by decide, rfl, rfl, Or.inr ⟨"PlanShelves", nw_in 82 (by decide +kernel) rfl⟩⟩
theorem fl_X4_110 : jFL RX4 110 6 1 .int false := ⟨RX6, TX6, 2, tyX6, cl6, by decide, rfl, rfl, Or.inr ⟨"PlanShelves", nw_in 48 (by decide +kernel) rfl⟩⟩
theorem fl_X4_124 : jFL RX4 124 4 9 .int false := ⟨RX4, TX4, 12, tyX4, cl4, by decide, rfl, rfl, Or.inl (tb_in 239 (by decide +kernel) rfl)⟩
theorem fl_X4_127 : jFL RX4 127 5 3 .int false := ⟨RX5, TX5, 4, tyX5, cl5, by decide, rfl, rfl, Or.inr ⟨"PlanShelves", nw_in 85 (by decide +kernel) rfl⟩⟩
theorem fl_X4_146 : jFL RX4 146 1 2 .int false := ⟨RX1, TX1, 11, tyX1, cl1, by decide, rfl, rfl, Or.inr ⟨"PlanShelves", nw_in 182 (by decide +kernel) rfl⟩⟩
theorem fl_X4_147 : jFL RX4 147 1 3 .int false := ⟨RX1, TX1, 11, tyX1, cl1, by decide, rfl, rfl, Or.inr ⟨"PlanShelves", nw_in 185 (by decide +kernel) rfl⟩⟩
theorem fl_X4_154 : jFL RX4 154 4 10 .int false := ⟨RX4, TX4, 12, tyX4, cl4, by decide, rfl, rfl, Or.inl (tb_in 241 (by decide +kernel) rfl)⟩
theorem fl_X4_157 : jFL RX4 157 1 8 .int false := ⟨RX1, TX1, 11, tyX1, cl1, by decide, rfl, rfl, Or.inr ⟨"PlanShelves", nw_in 195 (by decide +kernel) rfl⟩⟩
theorem fl_X4_163 : jFL RX4 163 1 10 .int false := ⟨RX1, TX1, 11, tyX1, cl1, by decide, rfl, rfl, Or.inr ⟨"PlanShelves", nw_in 199 (by decide +kernel) rfl⟩⟩
theorem fl_X4_174 : jFL RX4 174 2 4 .int false := ⟨RX2, TX2, 9, tyX2, cl2, by decide, rfl, rfl, Or.inr ⟨"PlanShelves", nw_in 119 (by decide +kernel) rfl⟩⟩
theorem fl_X4_177 : jFL RX4 177 2 0 .int false := ⟨RX2, TX2, 9, tyX2, cl2, by decide, rfl, rfl, Or.inr ⟨"PlanShelves", nw_in 110 (by decide +kernel) rfl⟩⟩
theorem fl_X4_180 : jFL RX4 180 2 5 .int false := ⟨RX2, TX2, 9, tyX2, cl2, by decide, rfl, rfl, Or.inr ⟨"PlanShelves", nw_in 121 (by decide +kernel) rfl⟩⟩
theorem fl_X4_183 : jFL RX4 183 2 8 .int false := ⟨RX2, TX2, 9, tyX2, cl2, by decide, rfl, rfl, Or.inr ⟨"PlanShelves", nw_in 128 (by decide +kernel) rfl⟩⟩
theorem fl_X4_186 : jFL RX4 186 1 4 .int false := ⟨RX1, TX1, 11, tyX1, cl1, by decide, rfl, rfl, Or.inr ⟨"PlanShelves", nw_in 187 (by decide +kernel) rfl⟩⟩
theorem fl_X4_189 : jFL RX4 189 1 5 .int false := ⟨RX1, TX1, 11, tyX1, cl1, by decide, rfl, rfl, Or.inr ⟨"PlanShelves", nw_in 189 (by decide +kernel) rfl⟩⟩
theorem fl_X4_190 : jFL RX4 190 1 6 .int false := ⟨RX1, TX1, 11, tyX1, cl1, by decide, rfl, rfl, Or.inr ⟨"PlanShelves", nw_in 191 (by decide +kernel) rfl⟩⟩
theorem fl_X4_191 : jFL RX4 191 7 1 (.object "PlanShelves$Sums") true := ⟨RX7, TX7, 3, tyX7, cl7, by decide, rfl, rfl, Or.inr ⟨"PlanShelves", nw_in 58 (by decide +kernel) rfl⟩⟩
theorem fl_X4_194 : jFL RX4 194 1 7 .int false := ⟨RX1, TX1, 11, tyX1, cl1, by decide, rfl, rfl, Or.inr ⟨"PlanShelves", nw_in 193 (by decide +kernel) rfl⟩⟩
theorem fl_X4_196 : jFL RX4 196 1 9 .boolean false := ⟨RX1, TX1, 11, tyX1, cl1, by decide, rfl, rfl, Or.inr ⟨"PlanShelves", nw_in 197 (by decide +kernel) rfl⟩⟩
theorem fl_X4_203 : jFL RX4 203 4 11 .int false := ⟨RX4, TX4, 12, tyX4, cl4, by decide, rfl, rfl, Or.inl (tb_in 243 (by decide +kernel) rfl)⟩
theorem fl_X4_206 : jFL RX4 206 2 6 .int false := ⟨RX2, TX2, 9, tyX2, cl2, by decide, rfl, rfl, Or.inr ⟨"PlanShelves", nw_in 123 (by decide +kernel) rfl⟩⟩
theorem fl_X5_9 : jFL RX5 9 5 0 (.array .int) true := ⟨RX5, TX5, 4, tyX5, cl5, by decide, rfl, rfl, Or.inl (tb_in 77 (by decide +kernel) rfl)⟩
theorem flw_X5_9 : Cond.fieldLink RX5 9 (TX5 0).1 (TX5 0).2.1 (TX5 0).2.2.1 ∈ TBL := tb_in 77 (by decide +kernel) rfl
theorem fl_X5_15 : jFL RX5 15 5 1 (.array .int) true := ⟨RX5, TX5, 4, tyX5, cl5, by decide, rfl, rfl, Or.inl (tb_in 78 (by decide +kernel) rfl)⟩
theorem flw_X5_15 : Cond.fieldLink RX5 15 (TX5 1).1 (TX5 1).2.1 (TX5 1).2.2.1 ∈ TBL := tb_in 78 (by decide +kernel) rfl
theorem fl_X5_18 : jFL RX5 18 5 2 .int false := ⟨RX5, TX5, 4, tyX5, cl5, by decide, rfl, rfl, Or.inl (tb_in 79 (by decide +kernel) rfl)⟩
theorem fl_X5_57 : jFL RX5 57 5 3 .int false := ⟨RX5, TX5, 4, tyX5, cl5, by decide, rfl, rfl, Or.inl (tb_in 83 (by decide +kernel) rfl)⟩
theorem fl_X6_9 : jFL RX6 9 6 0 (.array .int) true := ⟨RX6, TX6, 2, tyX6, cl6, by decide, rfl, rfl, Or.inl (tb_in 44 (by decide +kernel) rfl)⟩
theorem flw_X6_9 : Cond.fieldLink RX6 9 (TX6 0).1 (TX6 0).2.1 (TX6 0).2.2.1 ∈ TBL := tb_in 44 (by decide +kernel) rfl
theorem fl_X6_27 : jFL RX6 27 6 1 .int false := ⟨RX6, TX6, 2, tyX6, cl6, by decide, rfl, rfl, Or.inl (tb_in 45 (by decide +kernel) rfl)⟩
theorem fl_X7_11 : jFL RX7 11 7 0 (.array .int) true := ⟨RX7, TX7, 3, tyX7, cl7, by decide, rfl, rfl, Or.inl (tb_in 55 (by decide +kernel) rfl)⟩
theorem flw_X7_11 : Cond.fieldLink RX7 11 (TX7 0).1 (TX7 0).2.1 (TX7 0).2.2.1 ∈ TBL := tb_in 55 (by decide +kernel) rfl
theorem fl_X7_18 : jFL RX7 18 7 1 (.object "PlanShelves$Sums") true := ⟨RX7, TX7, 3, tyX7, cl7, by decide, rfl, rfl, Or.inl (tb_in 56 (by decide +kernel) rfl)⟩
theorem flw_X7_18 : Cond.fieldLink RX7 18 (TX7 1).1 (TX7 1).2.1 (TX7 1).2.2.1 ∈ TBL := tb_in 56 (by decide +kernel) rfl
theorem fl_X7_22 : jFL RX7 22 7 2 .int false := ⟨RX7, TX7, 3, tyX7, cl7, by decide, rfl, rfl, Or.inl (tb_in 59 (by decide +kernel) rfl)⟩
theorem fl_X7_46 : jFL RX7 46 5 2 .int false := ⟨RX5, TX5, 4, tyX5, cl5, by decide, rfl, rfl, Or.inr ⟨"PlanShelves", nw_in 80 (by decide +kernel) rfl⟩⟩
theorem fl_X7_65 : jFL RX7 65 6 1 .int false := ⟨RX6, TX6, 2, tyX6, cl6, by decide, rfl, rfl, Or.inr ⟨"PlanShelves", nw_in 47 (by decide +kernel) rfl⟩⟩
theorem fl_X8_9 : jFL RX8 9 8 0 (.array .char) true := ⟨RX8, TX8, 2, tyX8, cl8, by decide, rfl, rfl, Or.inl (tb_in 293 (by decide +kernel) rfl)⟩
theorem flw_X8_9 : Cond.fieldLink RX8 9 (TX8 0).1 (TX8 0).2.1 (TX8 0).2.2.1 ∈ TBL := tb_in 293 (by decide +kernel) rfl
theorem fl_X8_15 : jFL RX8 15 8 1 .int false := ⟨RX8, TX8, 2, tyX8, cl8, by decide, rfl, rfl, Or.inl (tb_in 294 (by decide +kernel) rfl)⟩
theorem fl_X10_7 : jFL RX10 7 10 0 (.array .int) true := ⟨RX10, TX10, 8, tyX10, cl10, by decide, rfl, rfl, Or.inl (tb_in 852 (by decide +kernel) rfl)⟩
theorem flw_X10_7 : Cond.fieldLink RX10 7 (TX10 0).1 (TX10 0).2.1 (TX10 0).2.2.1 ∈ TBL := tb_in 852 (by decide +kernel) rfl
theorem fl_X10_13 : jFL RX10 13 10 1 (.array .int) true := ⟨RX10, TX10, 8, tyX10, cl10, by decide, rfl, rfl, Or.inl (tb_in 853 (by decide +kernel) rfl)⟩
theorem flw_X10_13 : Cond.fieldLink RX10 13 (TX10 1).1 (TX10 1).2.1 (TX10 1).2.2.1 ∈ TBL := tb_in 853 (by decide +kernel) rfl
theorem fl_X10_16 : jFL RX10 16 10 3 (.array .int) true := ⟨RX10, TX10, 8, tyX10, cl10, by decide, rfl, rfl, Or.inl (tb_in 855 (by decide +kernel) rfl)⟩
theorem flw_X10_16 : Cond.fieldLink RX10 16 (TX10 3).1 (TX10 3).2.1 (TX10 3).2.2.1 ∈ TBL := tb_in 855 (by decide +kernel) rfl
theorem fl_X10_19 : jFL RX10 19 10 7 (.array .int) true := ⟨RX10, TX10, 8, tyX10, cl10, by decide, rfl, rfl, Or.inl (tb_in 859 (by decide +kernel) rfl)⟩
theorem flw_X10_19 : Cond.fieldLink RX10 19 (TX10 7).1 (TX10 7).2.1 (TX10 7).2.2.1 ∈ TBL := tb_in 859 (by decide +kernel) rfl
theorem fl_X10_22 : jFL RX10 22 10 2 .int false := ⟨RX10, TX10, 8, tyX10, cl10, by decide, rfl, rfl, Or.inl (tb_in 854 (by decide +kernel) rfl)⟩
theorem fl_X10_61 : jFL RX10 61 10 5 .int false := ⟨RX10, TX10, 8, tyX10, cl10, by decide, rfl, rfl, Or.inl (tb_in 857 (by decide +kernel) rfl)⟩
theorem fl_X10_64 : jFL RX10 64 10 4 .int false := ⟨RX10, TX10, 8, tyX10, cl10, by decide, rfl, rfl, Or.inl (tb_in 856 (by decide +kernel) rfl)⟩
theorem fl_X10_67 : jFL RX10 67 10 6 .int false := ⟨RX10, TX10, 8, tyX10, cl10, by decide, rfl, rfl, Or.inl (tb_in 858 (by decide +kernel) rfl)⟩
theorem yc_X0_init : jYC yX0_init cX0_init 2 none 0 := ⟨tb_in 274 (by decide +kernel) rfl, in0, by decide +kernel⟩
theorem im_X0_init : Cond.instanceMethod yX0_init ∈ TBL := tb_in 273 (by decide +kernel) rfl
theorem yc_X0_push : jYC yX0_push cX0_push 3 none 1 := ⟨tb_in 332 (by decide +kernel) rfl, in0, by decide +kernel⟩
theorem im_X0_push : Cond.instanceMethod yX0_push ∈ TBL := tb_in 330 (by decide +kernel) rfl
theorem se_X0_push : Cond.selects RX0 yX0_push yX0_push ∈ TBL := tb_in 331 (by decide +kernel) rfl
theorem yc_X0_popInto : jYC yX0_popInto cX0_popInto 4 none 1 := ⟨tb_in 821 (by decide +kernel) rfl, in0, by decide +kernel⟩
theorem im_X0_popInto : Cond.instanceMethod yX0_popInto ∈ TBL := tb_in 819 (by decide +kernel) rfl
theorem se_X0_popInto : Cond.selects RX0 yX0_popInto yX0_popInto ∈ TBL := tb_in 820 (by decide +kernel) rfl
theorem yc_X0_forgetOldest : jYC yX0_forgetOldest cX0_forgetOldest 3 none 0 := ⟨tb_in 336 (by decide +kernel) rfl, in0, by decide +kernel⟩
theorem im_X0_forgetOldest : Cond.instanceMethod yX0_forgetOldest ∈ TBL := tb_in 335 (by decide +kernel) rfl
theorem se_X0_forgetOldest : Cond.selects RX0 yX0_forgetOldest yX0_forgetOldest ∈ TBL := tb_sel 1 (by decide +kernel) rfl
theorem yc_X1_init : jYC yX1_init cX1_init 1 none 0 := ⟨tb_in 175 (by decide +kernel) rfl, in1, by decide +kernel⟩
theorem im_X1_init : Cond.instanceMethod yX1_init ∈ TBL := tb_in 174 (by decide +kernel) rfl
theorem yc_X1_begin : jYC yX1_begin cX1_begin 4 none 3 := ⟨tb_in 671 (by decide +kernel) rfl, in1, by decide +kernel⟩
theorem im_X1_begin : Cond.instanceMethod yX1_begin ∈ TBL := tb_in 669 (by decide +kernel) rfl
theorem se_X1_begin : Cond.selects RX1 yX1_begin yX1_begin ∈ TBL := tb_in 670 (by decide +kernel) rfl
theorem yc_X1_tell : jYC yX1_tell cX1_tell 2 (some .int) 1 := ⟨tb_in 748 (by decide +kernel) rfl, in1, by decide +kernel⟩
theorem im_X1_tell : Cond.instanceMethod yX1_tell ∈ TBL := tb_in 746 (by decide +kernel) rfl
theorem se_X1_tell : Cond.selects RX1 yX1_tell yX1_tell ∈ TBL := tb_in 747 (by decide +kernel) rfl
theorem yc_X1_takeFrom : jYC yX1_takeFrom cX1_takeFrom 2 none 1 := ⟨tb_in 378 (by decide +kernel) rfl, in1, by decide +kernel⟩
theorem im_X1_takeFrom : Cond.instanceMethod yX1_takeFrom ∈ TBL := tb_in 376 (by decide +kernel) rfl
theorem se_X1_takeFrom : Cond.selects RX1 yX1_takeFrom yX1_takeFrom ∈ TBL := tb_in 377 (by decide +kernel) rfl
theorem yc_X2_init : jYC yX2_init cX2_init 1 none 0 := ⟨tb_in 106 (by decide +kernel) rfl, in2, by decide +kernel⟩
theorem im_X2_init : Cond.instanceMethod yX2_init ∈ TBL := tb_in 105 (by decide +kernel) rfl
theorem yc_X2_begin : jYC yX2_begin cX2_begin 4 none 3 := ⟨tb_in 707 (by decide +kernel) rfl, in2, by decide +kernel⟩
theorem im_X2_begin : Cond.instanceMethod yX2_begin ∈ TBL := tb_in 705 (by decide +kernel) rfl
theorem se_X2_begin : Cond.selects RX2 yX2_begin yX2_begin ∈ TBL := tb_in 706 (by decide +kernel) rfl
theorem yc_X2_dropsAheadOf : jYC yX2_dropsAheadOf cX2_dropsAheadOf 2 (some .boolean) 1 := ⟨tb_in 695 (by decide +kernel) rfl, in2, by decide +kernel⟩
theorem im_X2_dropsAheadOf : Cond.instanceMethod yX2_dropsAheadOf ∈ TBL := tb_in 693 (by decide +kernel) rfl
theorem se_X2_dropsAheadOf : Cond.selects RX2 yX2_dropsAheadOf yX2_dropsAheadOf ∈ TBL := tb_in 694 (by decide +kernel) rfl
theorem yc_X2_tell : jYC yX2_tell cX2_tell 3 (some .int) 2 := ⟨tb_in 783 (by decide +kernel) rfl, in2, by decide +kernel⟩
theorem im_X2_tell : Cond.instanceMethod yX2_tell ∈ TBL := tb_in 781 (by decide +kernel) rfl
theorem se_X2_tell : Cond.selects RX2 yX2_tell yX2_tell ∈ TBL := tb_in 782 (by decide +kernel) rfl
theorem yc_X2_takeFrom : jYC yX2_takeFrom cX2_takeFrom 2 none 1 := ⟨tb_in 374 (by decide +kernel) rfl, in2, by decide +kernel⟩
theorem im_X2_takeFrom : Cond.instanceMethod yX2_takeFrom ∈ TBL := tb_in 372 (by decide +kernel) rfl
theorem se_X2_takeFrom : Cond.selects RX2 yX2_takeFrom yX2_takeFrom ∈ TBL := tb_in 373 (by decide +kernel) rfl
theorem yc_X3_init : jYC yX3_init cX3_init 2 none 0 := ⟨tb_in 99 (by decide +kernel) rfl, in3, by decide +kernel⟩
theorem im_X3_init : Cond.instanceMethod yX3_init ∈ TBL := tb_in 98 (by decide +kernel) rfl
theorem yc_X3_planAt : jYC yX3_planAt cX3_planAt 3 (some (.object "PlanShelves$Plan")) 1 := ⟨tb_in 370 (by decide +kernel) rfl, in3, by decide +kernel⟩
theorem im_X3_planAt : Cond.instanceMethod yX3_planAt ∈ TBL := tb_in 368 (by decide +kernel) rfl
theorem se_X3_planAt : Cond.selects RX3 yX3_planAt yX3_planAt ∈ TBL := tb_in 369 (by decide +kernel) rfl
theorem yc_X3_numberAt : jYC yX3_numberAt cX3_numberAt 2 (some .int) 1 := ⟨tb_in 699 (by decide +kernel) rfl, in3, by decide +kernel⟩
theorem im_X3_numberAt : Cond.instanceMethod yX3_numberAt ∈ TBL := tb_in 697 (by decide +kernel) rfl
theorem se_X3_numberAt : Cond.selects RX3 yX3_numberAt yX3_numberAt ∈ TBL := tb_in 698 (by decide +kernel) rfl
theorem yc_X3_placeOf : jYC yX3_placeOf cX3_placeOf 3 (some .int) 1 := ⟨tb_in 729 (by decide +kernel) rfl, in3, by decide +kernel⟩
theorem im_X3_placeOf : Cond.instanceMethod yX3_placeOf ∈ TBL := tb_in 727 (by decide +kernel) rfl
theorem se_X3_placeOf : Cond.selects RX3 yX3_placeOf yX3_placeOf ∈ TBL := tb_in 728 (by decide +kernel) rfl
theorem yc_X3_placeFor : jYC yX3_placeFor cX3_placeFor 5 (some .int) 2 := ⟨tb_in 679 (by decide +kernel) rfl, in3, by decide +kernel⟩
theorem im_X3_placeFor : Cond.instanceMethod yX3_placeFor ∈ TBL := tb_in 677 (by decide +kernel) rfl
theorem se_X3_placeFor : Cond.selects RX3 yX3_placeFor yX3_placeFor ∈ TBL := tb_in 678 (by decide +kernel) rfl
theorem yc_X3_keptFor : jYC yX3_keptFor cX3_keptFor 4 (some .int) 1 := ⟨tb_in 625 (by decide +kernel) rfl, in3, by decide +kernel⟩
theorem im_X3_keptFor : Cond.instanceMethod yX3_keptFor ∈ TBL := tb_in 623 (by decide +kernel) rfl
theorem se_X3_keptFor : Cond.selects RX3 yX3_keptFor yX3_keptFor ∈ TBL := tb_in 624 (by decide +kernel) rfl
theorem yc_X3_pinned : jYC yX3_pinned cX3_pinned 3 (some .int) 0 := ⟨tb_in 758 (by decide +kernel) rfl, in3, by decide +kernel⟩
theorem im_X3_pinned : Cond.instanceMethod yX3_pinned ∈ TBL := tb_in 756 (by decide +kernel) rfl
theorem se_X3_pinned : Cond.selects RX3 yX3_pinned yX3_pinned ∈ TBL := tb_in 757 (by decide +kernel) rfl
theorem yc_X3_placeToDrop : jYC yX3_placeToDrop cX3_placeToDrop 3 (some .int) 1 := ⟨tb_in 687 (by decide +kernel) rfl, in3, by decide +kernel⟩
theorem im_X3_placeToDrop : Cond.instanceMethod yX3_placeToDrop ∈ TBL := tb_in 685 (by decide +kernel) rfl
theorem se_X3_placeToDrop : Cond.selects RX3 yX3_placeToDrop yX3_placeToDrop ∈ TBL := tb_in 686 (by decide +kernel) rfl
theorem yc_X3_droppedAheadOf : jYC yX3_droppedAheadOf cX3_droppedAheadOf 5 (some .int) 1 := ⟨tb_in 691 (by decide +kernel) rfl, in3, by decide +kernel⟩
theorem im_X3_droppedAheadOf : Cond.instanceMethod yX3_droppedAheadOf ∈ TBL := tb_in 690 (by decide +kernel) rfl
theorem se_X3_droppedAheadOf : Cond.selects RX3 yX3_droppedAheadOf yX3_droppedAheadOf ∈ TBL := tb_sel 12 (by decide +kernel) rfl
theorem yc_X3_makeRoom : jYC yX3_makeRoom cX3_makeRoom 5 (some .int) 1 := ⟨tb_in 683 (by decide +kernel) rfl, in3, by decide +kernel⟩
theorem im_X3_makeRoom : Cond.instanceMethod yX3_makeRoom ∈ TBL := tb_in 681 (by decide +kernel) rfl
theorem se_X3_makeRoom : Cond.selects RX3 yX3_makeRoom yX3_makeRoom ∈ TBL := tb_in 682 (by decide +kernel) rfl
theorem yc_X3_newPlan : jYC yX3_newPlan cX3_newPlan 5 (some (.object "PlanShelves$Plan")) 3 := ⟨tb_in 703 (by decide +kernel) rfl, in3, by decide +kernel⟩
theorem im_X3_newPlan : Cond.instanceMethod yX3_newPlan ∈ TBL := tb_in 701 (by decide +kernel) rfl
theorem se_X3_newPlan : Cond.selects RX3 yX3_newPlan yX3_newPlan ∈ TBL := tb_in 702 (by decide +kernel) rfl
theorem yc_X3_throwAway : jYC yX3_throwAway cX3_throwAway 2 none 1 := ⟨tb_in 448 (by decide +kernel) rfl, in3, by decide +kernel⟩
theorem im_X3_throwAway : Cond.instanceMethod yX3_throwAway ∈ TBL := tb_in 446 (by decide +kernel) rfl
theorem se_X3_throwAway : Cond.selects RX3 yX3_throwAway yX3_throwAway ∈ TBL := tb_in 447 (by decide +kernel) rfl
theorem yc_X3_remove : jYC yX3_remove cX3_remove 4 none 1 := ⟨tb_in 452 (by decide +kernel) rfl, in3, by decide +kernel⟩
theorem im_X3_remove : Cond.instanceMethod yX3_remove ∈ TBL := tb_in 451 (by decide +kernel) rfl
theorem se_X3_remove : Cond.selects RX3 yX3_remove yX3_remove ∈ TBL := tb_sel 5 (by decide +kernel) rfl
theorem yc_X3_takeFrom : jYC yX3_takeFrom cX3_takeFrom 3 none 1 := ⟨tb_in 366 (by decide +kernel) rfl, in3, by decide +kernel⟩
theorem im_X3_takeFrom : Cond.instanceMethod yX3_takeFrom ∈ TBL := tb_in 364 (by decide +kernel) rfl
theorem se_X3_takeFrom : Cond.selects RX3 yX3_takeFrom yX3_takeFrom ∈ TBL := tb_in 365 (by decide +kernel) rfl
theorem yc_X4_init : jYC yX4_init cX4_init 2 none 0 := ⟨tb_in 30 (by decide +kernel) rfl, in4, by decide +kernel⟩
theorem im_X4_init : Cond.instanceMethod yX4_init ∈ TBL := tb_in 29 (by decide +kernel) rfl
theorem yc_X4_isIndexed : jYC yX4_isIndexed cX4_isIndexed 2 (some .boolean) 1 := ⟨tb_in 430 (by decide +kernel) rfl, in4, by decide +kernel⟩
theorem im_X4_isIndexed : Cond.instanceMethod yX4_isIndexed ∈ TBL := tb_in 428 (by decide +kernel) rfl
theorem se_X4_isIndexed : Cond.selects RX4 yX4_isIndexed yX4_isIndexed ∈ TBL := tb_in 429 (by decide +kernel) rfl
theorem yc_X4_flipIndex : jYC yX4_flipIndex cX4_flipIndex 2 none 1 := ⟨tb_in 434 (by decide +kernel) rfl, in4, by decide +kernel⟩
theorem im_X4_flipIndex : Cond.instanceMethod yX4_flipIndex ∈ TBL := tb_in 432 (by decide +kernel) rfl
theorem se_X4_flipIndex : Cond.selects RX4 yX4_flipIndex yX4_flipIndex ∈ TBL := tb_in 433 (by decide +kernel) rfl
theorem yc_X4_throwAwayPlansBy : jYC yX4_throwAwayPlansBy cX4_throwAwayPlansBy 5 (some .int) 1 := ⟨tb_in 438 (by decide +kernel) rfl, in4, by decide +kernel⟩
theorem im_X4_throwAwayPlansBy : Cond.instanceMethod yX4_throwAwayPlansBy ∈ TBL := tb_in 436 (by decide +kernel) rfl
theorem se_X4_throwAwayPlansBy : Cond.selects RX4 yX4_throwAwayPlansBy yX4_throwAwayPlansBy ∈ TBL := tb_in 437 (by decide +kernel) rfl
theorem yc_X4_changeSetting : jYC yX4_changeSetting cX4_changeSetting 4 (some .int) 2 := ⟨tb_in 775 (by decide +kernel) rfl, in4, by decide +kernel⟩
theorem im_X4_changeSetting : Cond.instanceMethod yX4_changeSetting ∈ TBL := tb_in 773 (by decide +kernel) rfl
theorem se_X4_changeSetting : Cond.selects RX4 yX4_changeSetting yX4_changeSetting ∈ TBL := tb_in 774 (by decide +kernel) rfl
theorem yc_X4_hasStatement : jYC yX4_hasStatement cX4_hasStatement 2 (some .boolean) 1 := ⟨tb_in 620 (by decide +kernel) rfl, in4, by decide +kernel⟩
theorem im_X4_hasStatement : Cond.instanceMethod yX4_hasStatement ∈ TBL := tb_in 618 (by decide +kernel) rfl
theorem se_X4_hasStatement : Cond.selects RX4 yX4_hasStatement yX4_hasStatement ∈ TBL := tb_in 619 (by decide +kernel) rfl
theorem yc_X4_statementAt : jYC yX4_statementAt cX4_statementAt 3 (some (.object "PlanShelves$Statement")) 1 := ⟨tb_in 357 (by decide +kernel) rfl, in4, by decide +kernel⟩
theorem im_X4_statementAt : Cond.instanceMethod yX4_statementAt ∈ TBL := tb_in 355 (by decide +kernel) rfl
theorem se_X4_statementAt : Cond.selects RX4 yX4_statementAt yX4_statementAt ∈ TBL := tb_in 356 (by decide +kernel) rfl
theorem yc_X4_statementWith : jYC yX4_statementWith cX4_statementWith 3 (some .int) 1 := ⟨tb_in 581 (by decide +kernel) rfl, in4, by decide +kernel⟩
theorem im_X4_statementWith : Cond.instanceMethod yX4_statementWith ∈ TBL := tb_in 579 (by decide +kernel) rfl
theorem se_X4_statementWith : Cond.selects RX4 yX4_statementWith yX4_statementWith ∈ TBL := tb_in 580 (by decide +kernel) rfl
theorem yc_X4_addStatement : jYC yX4_addStatement cX4_addStatement 2 (some .int) 1 := ⟨tb_in 606 (by decide +kernel) rfl, in4, by decide +kernel⟩
theorem im_X4_addStatement : Cond.instanceMethod yX4_addStatement ∈ TBL := tb_in 604 (by decide +kernel) rfl
theorem se_X4_addStatement : Cond.selects RX4 yX4_addStatement yX4_addStatement ∈ TBL := tb_in 605 (by decide +kernel) rfl
theorem yc_X4_classWith : jYC yX4_classWith cX4_classWith 7 (some .int) 2 := ⟨tb_in 653 (by decide +kernel) rfl, in4, by decide +kernel⟩
theorem im_X4_classWith : Cond.instanceMethod yX4_classWith ∈ TBL := tb_in 651 (by decide +kernel) rfl
theorem se_X4_classWith : Cond.selects RX4 yX4_classWith yX4_classWith ∈ TBL := tb_in 652 (by decide +kernel) rfl
theorem yc_X4_classOfShare : jYC yX4_classOfShare cX4_classOfShare 2 (some .int) 1 := ⟨tb_in 667 (by decide +kernel) rfl, in4, by decide +kernel⟩
theorem im_X4_classOfShare : Cond.instanceMethod yX4_classOfShare ∈ TBL := tb_in 666 (by decide +kernel) rfl
theorem se_X4_classOfShare : Cond.selects RX4 yX4_classOfShare yX4_classOfShare ∈ TBL := tb_sel 10 (by decide +kernel) rfl
theorem yc_X4_bestWay : jYC yX4_bestWay cX4_bestWay 8 (some .int) 3 := ⟨tb_in 711 (by decide +kernel) rfl, in4, by decide +kernel⟩
theorem im_X4_bestWay : Cond.instanceMethod yX4_bestWay ∈ TBL := tb_in 709 (by decide +kernel) rfl
theorem se_X4_bestWay : Cond.selects RX4 yX4_bestWay yX4_bestWay ∈ TBL := tb_in 710 (by decide +kernel) rfl
theorem yc_X4_execute : jYC yX4_execute cX4_execute 4 (some .int) 2 := ⟨tb_in 649 (by decide +kernel) rfl, in4, by decide +kernel⟩
theorem im_X4_execute : Cond.instanceMethod yX4_execute ∈ TBL := tb_in 647 (by decide +kernel) rfl
theorem se_X4_execute : Cond.selects RX4 yX4_execute yX4_execute ∈ TBL := tb_in 648 (by decide +kernel) rfl
theorem yc_X4_planForLastRun : jYC yX4_planForLastRun cX4_planForLastRun 5 (some (.object "PlanShelves$Plan")) 2 := ⟨tb_in 675 (by decide +kernel) rfl, in4, by decide +kernel⟩
theorem im_X4_planForLastRun : Cond.instanceMethod yX4_planForLastRun ∈ TBL := tb_in 674 (by decide +kernel) rfl
theorem se_X4_planForLastRun : Cond.selects RX4 yX4_planForLastRun yX4_planForLastRun ∈ TBL := tb_sel 11 (by decide +kernel) rfl
theorem yc_X4_use : jYC yX4_use cX4_use 4 none 3 := ⟨tb_in 721 (by decide +kernel) rfl, in4, by decide +kernel⟩
theorem im_X4_use : Cond.instanceMethod yX4_use ∈ TBL := tb_in 720 (by decide +kernel) rfl
theorem se_X4_use : Cond.selects RX4 yX4_use yX4_use ∈ TBL := tb_sel 13 (by decide +kernel) rfl
theorem yc_X4_surprise : jYC yX4_surprise cX4_surprise 2 none 1 := ⟨tb_in 725 (by decide +kernel) rfl, in4, by decide +kernel⟩
theorem im_X4_surprise : Cond.instanceMethod yX4_surprise ∈ TBL := tb_in 724 (by decide +kernel) rfl
theorem se_X4_surprise : Cond.selects RX4 yX4_surprise yX4_surprise ∈ TBL := tb_sel 14 (by decide +kernel) rfl
theorem yc_X4_takeFrom : jYC yX4_takeFrom cX4_takeFrom 3 none 1 := ⟨tb_in 340 (by decide +kernel) rfl, in4, by decide +kernel⟩
theorem im_X4_takeFrom : Cond.instanceMethod yX4_takeFrom ∈ TBL := tb_in 338 (by decide +kernel) rfl
theorem se_X4_takeFrom : Cond.selects RX4 yX4_takeFrom yX4_takeFrom ∈ TBL := tb_in 339 (by decide +kernel) rfl
theorem yc_X5_init : jYC yX5_init cX5_init 1 none 0 := ⟨tb_in 75 (by decide +kernel) rfl, in5, by decide +kernel⟩
theorem im_X5_init : Cond.instanceMethod yX5_init ∈ TBL := tb_in 74 (by decide +kernel) rfl
theorem yc_X5_hasCondition : jYC yX5_hasCondition cX5_hasCondition 2 (some .boolean) 1 := ⟨tb_in 629 (by decide +kernel) rfl, in5, by decide +kernel⟩
theorem im_X5_hasCondition : Cond.instanceMethod yX5_hasCondition ∈ TBL := tb_in 627 (by decide +kernel) rfl
theorem se_X5_hasCondition : Cond.selects RX5 yX5_hasCondition yX5_hasCondition ∈ TBL := tb_in 628 (by decide +kernel) rfl
theorem yc_X5_columnAt : jYC yX5_columnAt cX5_columnAt 2 (some .int) 1 := ⟨tb_in 443 (by decide +kernel) rfl, in5, by decide +kernel⟩
theorem im_X5_columnAt : Cond.instanceMethod yX5_columnAt ∈ TBL := tb_in 441 (by decide +kernel) rfl
theorem se_X5_columnAt : Cond.selects RX5 yX5_columnAt yX5_columnAt ∈ TBL := tb_in 442 (by decide +kernel) rfl
theorem yc_X5_operatorAt : jYC yX5_operatorAt cX5_operatorAt 2 (some .int) 1 := ⟨tb_in 598 (by decide +kernel) rfl, in5, by decide +kernel⟩
theorem im_X5_operatorAt : Cond.instanceMethod yX5_operatorAt ∈ TBL := tb_in 596 (by decide +kernel) rfl
theorem se_X5_operatorAt : Cond.selects RX5 yX5_operatorAt yX5_operatorAt ∈ TBL := tb_in 597 (by decide +kernel) rfl
theorem yc_X5_takes : jYC yX5_takes cX5_takes 3 (some .boolean) 2 := ⟨tb_in 643 (by decide +kernel) rfl, in5, by decide +kernel⟩
theorem im_X5_takes : Cond.instanceMethod yX5_takes ∈ TBL := tb_in 641 (by decide +kernel) rfl
theorem se_X5_takes : Cond.selects RX5 yX5_takes yX5_takes ∈ TBL := tb_in 642 (by decide +kernel) rfl
theorem yc_X5_isOf : jYC yX5_isOf cX5_isOf 3 (some .boolean) 1 := ⟨tb_in 585 (by decide +kernel) rfl, in5, by decide +kernel⟩
theorem im_X5_isOf : Cond.instanceMethod yX5_isOf ∈ TBL := tb_in 583 (by decide +kernel) rfl
theorem se_X5_isOf : Cond.selects RX5 yX5_isOf yX5_isOf ∈ TBL := tb_in 584 (by decide +kernel) rfl
theorem yc_X5_readFrom : jYC yX5_readFrom cX5_readFrom 3 none 1 := ⟨tb_in 610 (by decide +kernel) rfl, in5, by decide +kernel⟩
theorem im_X5_readFrom : Cond.instanceMethod yX5_readFrom ∈ TBL := tb_in 608 (by decide +kernel) rfl
theorem se_X5_readFrom : Cond.selects RX5 yX5_readFrom yX5_readFrom ∈ TBL := tb_in 609 (by decide +kernel) rfl
theorem yc_X5_takeFrom : jYC yX5_takeFrom cX5_takeFrom 2 none 1 := ⟨tb_in 361 (by decide +kernel) rfl, in5, by decide +kernel⟩
theorem im_X5_takeFrom : Cond.instanceMethod yX5_takeFrom ∈ TBL := tb_in 359 (by decide +kernel) rfl
theorem se_X5_takeFrom : Cond.selects RX5 yX5_takeFrom yX5_takeFrom ∈ TBL := tb_in 360 (by decide +kernel) rfl
theorem yc_X6_init : jYC yX6_init cX6_init 1 none 0 := ⟨tb_in 42 (by decide +kernel) rfl, in6, by decide +kernel⟩
theorem im_X6_init : Cond.instanceMethod yX6_init ∈ TBL := tb_in 41 (by decide +kernel) rfl
theorem yc_X6_weightOf : jYC yX6_weightOf cX6_weightOf 4 (some .int) 2 := ⟨tb_in 470 (by decide +kernel) rfl, in6, by decide +kernel⟩
theorem im_X6_weightOf : Cond.instanceMethod yX6_weightOf ∈ TBL := tb_in 468 (by decide +kernel) rfl
theorem se_X6_weightOf : Cond.selects RX6 yX6_weightOf yX6_weightOf ∈ TBL := tb_in 469 (by decide +kernel) rfl
theorem yc_X6_add : jYC yX6_add cX6_add 5 none 3 := ⟨tb_in 407 (by decide +kernel) rfl, in6, by decide +kernel⟩
theorem im_X6_add : Cond.instanceMethod yX6_add ∈ TBL := tb_in 405 (by decide +kernel) rfl
theorem se_X6_add : Cond.selects RX6 yX6_add yX6_add ∈ TBL := tb_in 406 (by decide +kernel) rfl
theorem yc_X6_weightWhere : jYC yX6_weightWhere cX6_weightWhere 6 (some .int) 3 := ⟨tb_in 659 (by decide +kernel) rfl, in6, by decide +kernel⟩
theorem im_X6_weightWhere : Cond.instanceMethod yX6_weightWhere ∈ TBL := tb_in 657 (by decide +kernel) rfl
theorem se_X6_weightWhere : Cond.selects RX6 yX6_weightWhere yX6_weightWhere ∈ TBL := tb_in 658 (by decide +kernel) rfl
theorem yc_X6_takeFrom : jYC yX6_takeFrom cX6_takeFrom 2 none 1 := ⟨tb_in 351 (by decide +kernel) rfl, in6, by decide +kernel⟩
theorem im_X6_takeFrom : Cond.instanceMethod yX6_takeFrom ∈ TBL := tb_in 349 (by decide +kernel) rfl
theorem se_X6_takeFrom : Cond.selects RX6 yX6_takeFrom yX6_takeFrom ∈ TBL := tb_in 350 (by decide +kernel) rfl
theorem yc_X7_init : jYC yX7_init cX7_init 1 none 0 := ⟨tb_in 36 (by decide +kernel) rfl, in7, by decide +kernel⟩
theorem im_X7_init : Cond.instanceMethod yX7_init ∈ TBL := tb_in 35 (by decide +kernel) rfl
theorem yc_X7_hasRow : jYC yX7_hasRow cX7_hasRow 2 (some .boolean) 1 := ⟨tb_in 415 (by decide +kernel) rfl, in7, by decide +kernel⟩
theorem im_X7_hasRow : Cond.instanceMethod yX7_hasRow ∈ TBL := tb_in 413 (by decide +kernel) rfl
theorem se_X7_hasRow : Cond.selects RX7 yX7_hasRow yX7_hasRow ∈ TBL := tb_in 414 (by decide +kernel) rfl
theorem yc_X7_cellAt : jYC yX7_cellAt cX7_cellAt 3 (some .int) 2 := ⟨tb_in 403 (by decide +kernel) rfl, in7, by decide +kernel⟩
theorem im_X7_cellAt : Cond.instanceMethod yX7_cellAt ∈ TBL := tb_in 401 (by decide +kernel) rfl
theorem se_X7_cellAt : Cond.selects RX7 yX7_cellAt yX7_cellAt ∈ TBL := tb_in 402 (by decide +kernel) rfl
theorem yc_X7_append : jYC yX7_append cX7_append 4 (some .int) 2 := ⟨tb_in 388 (by decide +kernel) rfl, in7, by decide +kernel⟩
theorem im_X7_append : Cond.instanceMethod yX7_append ∈ TBL := tb_in 386 (by decide +kernel) rfl
theorem se_X7_append : Cond.selects RX7 yX7_append yX7_append ∈ TBL := tb_in 387 (by decide +kernel) rfl
theorem yc_X7_remove : jYC yX7_remove cX7_remove 4 (some .int) 1 := ⟨tb_in 419 (by decide +kernel) rfl, in7, by decide +kernel⟩
theorem im_X7_remove : Cond.instanceMethod yX7_remove ∈ TBL := tb_in 417 (by decide +kernel) rfl
theorem se_X7_remove : Cond.selects RX7 yX7_remove yX7_remove ∈ TBL := tb_in 418 (by decide +kernel) rfl
theorem yc_X7_weightWhere : jYC yX7_weightWhere cX7_weightWhere 5 (some .int) 2 := ⟨tb_in 733 (by decide +kernel) rfl, in7, by decide +kernel⟩
theorem im_X7_weightWhere : Cond.instanceMethod yX7_weightWhere ∈ TBL := tb_in 731 (by decide +kernel) rfl
theorem se_X7_weightWhere : Cond.selects RX7 yX7_weightWhere yX7_weightWhere ∈ TBL := tb_in 732 (by decide +kernel) rfl
theorem yc_X7_fits : jYC yX7_fits cX7_fits 6 (some .boolean) 3 := ⟨tb_in 737 (by decide +kernel) rfl, in7, by decide +kernel⟩
theorem im_X7_fits : Cond.instanceMethod yX7_fits ∈ TBL := tb_in 736 (by decide +kernel) rfl
theorem se_X7_fits : Cond.selects RX7 yX7_fits yX7_fits ∈ TBL := tb_sel 15 (by decide +kernel) rfl
theorem yc_X7_put : jYC yX7_put cX7_put 5 none 3 := ⟨tb_in 395 (by decide +kernel) rfl, in7, by decide +kernel⟩
theorem im_X7_put : Cond.instanceMethod yX7_put ∈ TBL := tb_in 394 (by decide +kernel) rfl
theorem se_X7_put : Cond.selects RX7 yX7_put yX7_put ∈ TBL := tb_sel 3 (by decide +kernel) rfl
theorem yc_X7_addToSums : jYC yX7_addToSums cX7_addToSums 4 none 2 := ⟨tb_in 399 (by decide +kernel) rfl, in7, by decide +kernel⟩
theorem im_X7_addToSums : Cond.instanceMethod yX7_addToSums ∈ TBL := tb_in 398 (by decide +kernel) rfl
theorem se_X7_addToSums : Cond.selects RX7 yX7_addToSums yX7_addToSums ∈ TBL := tb_sel 4 (by decide +kernel) rfl
theorem yc_X7_takeFrom : jYC yX7_takeFrom cX7_takeFrom 2 none 1 := ⟨tb_in 344 (by decide +kernel) rfl, in7, by decide +kernel⟩
theorem im_X7_takeFrom : Cond.instanceMethod yX7_takeFrom ∈ TBL := tb_in 342 (by decide +kernel) rfl
theorem se_X7_takeFrom : Cond.selects RX7 yX7_takeFrom yX7_takeFrom ∈ TBL := tb_in 343 (by decide +kernel) rfl
theorem yc_X8_init : jYC yX8_init cX8_init 1 none 0 := ⟨tb_in 291 (by decide +kernel) rfl, in8, by decide +kernel⟩
theorem im_X8_init : Cond.instanceMethod yX8_init ∈ TBL := tb_in 290 (by decide +kernel) rfl
theorem yc_X8_append : jYC yX8_append cX8_append 2 (some .int) 1 := ⟨tb_in 829 (by decide +kernel) rfl, in8, by decide +kernel⟩
theorem im_X8_append : Cond.instanceMethod yX8_append ∈ TBL := tb_in 827 (by decide +kernel) rfl
theorem se_X8_append : Cond.selects RX8 yX8_append yX8_append ∈ TBL := tb_in 828 (by decide +kernel) rfl
theorem yc_X8_empty : jYC yX8_empty cX8_empty 2 (some .int) 0 := ⟨tb_in 837 (by decide +kernel) rfl, in8, by decide +kernel⟩
theorem im_X8_empty : Cond.instanceMethod yX8_empty ∈ TBL := tb_in 835 (by decide +kernel) rfl
theorem se_X8_empty : Cond.selects RX8 yX8_empty yX8_empty ∈ TBL := tb_in 836 (by decide +kernel) rfl
theorem yc_X8_faultPlace : jYC yX8_faultPlace cX8_faultPlace 2 (some .int) 0 := ⟨tb_in 478 (by decide +kernel) rfl, in8, by decide +kernel⟩
theorem im_X8_faultPlace : Cond.instanceMethod yX8_faultPlace ∈ TBL := tb_in 476 (by decide +kernel) rfl
theorem se_X8_faultPlace : Cond.selects RX8 yX8_faultPlace yX8_faultPlace ∈ TBL := tb_in 477 (by decide +kernel) rfl
theorem yc_X8_reasonAt : jYC yX8_reasonAt cX8_reasonAt 2 (some .int) 1 := ⟨tb_in 845 (by decide +kernel) rfl, in8, by decide +kernel⟩
theorem im_X8_reasonAt : Cond.instanceMethod yX8_reasonAt ∈ TBL := tb_in 843 (by decide +kernel) rfl
theorem se_X8_reasonAt : Cond.selects RX8 yX8_reasonAt yX8_reasonAt ∈ TBL := tb_in 844 (by decide +kernel) rfl
theorem yc_X8_conditions : jYC yX8_conditions cX8_conditions 1 (some .int) 0 := ⟨tb_in 589 (by decide +kernel) rfl, in8, by decide +kernel⟩
theorem im_X8_conditions : Cond.instanceMethod yX8_conditions ∈ TBL := tb_in 587 (by decide +kernel) rfl
theorem se_X8_conditions : Cond.selects RX8 yX8_conditions yX8_conditions ∈ TBL := tb_in 588 (by decide +kernel) rfl
theorem yc_X8_columnOf : jYC yX8_columnOf cX8_columnOf 2 (some .int) 1 := ⟨tb_in 594 (by decide +kernel) rfl, in8, by decide +kernel⟩
theorem im_X8_columnOf : Cond.instanceMethod yX8_columnOf ∈ TBL := tb_in 592 (by decide +kernel) rfl
theorem se_X8_columnOf : Cond.selects RX8 yX8_columnOf yX8_columnOf ∈ TBL := tb_in 593 (by decide +kernel) rfl
theorem yc_X8_operatorOf : jYC yX8_operatorOf cX8_operatorOf 2 (some .int) 1 := ⟨tb_in 602 (by decide +kernel) rfl, in8, by decide +kernel⟩
theorem im_X8_operatorOf : Cond.instanceMethod yX8_operatorOf ∈ TBL := tb_in 600 (by decide +kernel) rfl
theorem se_X8_operatorOf : Cond.selects RX8 yX8_operatorOf yX8_operatorOf ∈ TBL := tb_in 601 (by decide +kernel) rfl
theorem yc_X8_canStandAt : jYC yX8_canStandAt cX8_canStandAt 3 (some .boolean) 1 := ⟨tb_in 482 (by decide +kernel) rfl, in8, by decide +kernel⟩
theorem im_X8_canStandAt : Cond.instanceMethod yX8_canStandAt ∈ TBL := tb_in 481 (by decide +kernel) rfl
theorem se_X8_canStandAt : Cond.selects RX8 yX8_canStandAt yX8_canStandAt ∈ TBL := tb_sel 6 (by decide +kernel) rfl
theorem yc_X8_isBehindLastCondition : jYC yX8_isBehindLastCondition cX8_isBehindLastCondition 2 (some .boolean) 1 := ⟨tb_in 577 (by decide +kernel) rfl, in8, by decide +kernel⟩
theorem im_X8_isBehindLastCondition : Cond.instanceMethod yX8_isBehindLastCondition ∈ TBL := tb_in 576 (by decide +kernel) rfl
theorem se_X8_isBehindLastCondition : Cond.selects RX8 yX8_isBehindLastCondition yX8_isBehindLastCondition ∈ TBL := tb_sel 8 (by decide +kernel) rfl
theorem yc_X8_characterAt : jYC yX8_characterAt cX8_characterAt 2 (some .char) 1 := ⟨tb_in 486 (by decide +kernel) rfl, in8, by decide +kernel⟩
theorem im_X8_characterAt : Cond.instanceMethod yX8_characterAt ∈ TBL := tb_in 485 (by decide +kernel) rfl
theorem se_X8_characterAt : Cond.selects RX8 yX8_characterAt yX8_characterAt ∈ TBL := tb_sel 7 (by decide +kernel) rfl
theorem yc_X9_init : jYC yX9_init cX9_init 1 none 0 := ⟨tb_in 22 (by decide +kernel) rfl, in9, by decide +kernel⟩
theorem im_X9_init : Cond.instanceMethod yX9_init ∈ TBL := tb_in 21 (by decide +kernel) rfl
theorem yc_X9_row : jYC yX9_row cX9_row 6 (some .int) 5 := ⟨tb_in 318 (by decide +kernel) rfl, in9, by decide +kernel⟩
theorem im_X9_row : Cond.instanceMethod yX9_row ∈ TBL := tb_in 316 (by decide +kernel) rfl
theorem se_X9_row : Cond.selects RX9 yX9_row yX9_row ∈ TBL := tb_in 317 (by decide +kernel) rfl
theorem yc_X9_dropRow : jYC yX9_dropRow cX9_dropRow 2 (some .int) 1 := ⟨tb_in 411 (by decide +kernel) rfl, in9, by decide +kernel⟩
theorem im_X9_dropRow : Cond.instanceMethod yX9_dropRow ∈ TBL := tb_in 409 (by decide +kernel) rfl
theorem se_X9_dropRow : Cond.selects RX9 yX9_dropRow yX9_dropRow ∈ TBL := tb_in 410 (by decide +kernel) rfl
theorem yc_X9_index : jYC yX9_index cX9_index 3 (some .int) 2 := ⟨tb_in 423 (by decide +kernel) rfl, in9, by decide +kernel⟩
theorem im_X9_index : Cond.instanceMethod yX9_index ∈ TBL := tb_in 421 (by decide +kernel) rfl
theorem se_X9_index : Cond.selects RX9 yX9_index yX9_index ∈ TBL := tb_in 422 (by decide +kernel) rfl
theorem yc_X9_analyse : jYC yX9_analyse cX9_analyse 1 (some .int) 0 := ⟨tb_in 456 (by decide +kernel) rfl, in9, by decide +kernel⟩
theorem im_X9_analyse : Cond.instanceMethod yX9_analyse ∈ TBL := tb_in 454 (by decide +kernel) rfl
theorem se_X9_analyse : Cond.selects RX9 yX9_analyse yX9_analyse ∈ TBL := tb_in 455 (by decide +kernel) rfl
theorem yc_X9_rowOf : jYC yX9_rowOf cX9_rowOf 3 (some .int) 2 := ⟨tb_in 461 (by decide +kernel) rfl, in9, by decide +kernel⟩
theorem im_X9_rowOf : Cond.instanceMethod yX9_rowOf ∈ TBL := tb_in 459 (by decide +kernel) rfl
theorem se_X9_rowOf : Cond.selects RX9 yX9_rowOf yX9_rowOf ∈ TBL := tb_in 460 (by decide +kernel) rfl
theorem yc_X9_known : jYC yX9_known cX9_known 3 (some .int) 2 := ⟨tb_in 466 (by decide +kernel) rfl, in9, by decide +kernel⟩
theorem im_X9_known : Cond.instanceMethod yX9_known ∈ TBL := tb_in 464 (by decide +kernel) rfl
theorem se_X9_known : Cond.selects RX9 yX9_known yX9_known ∈ TBL := tb_in 465 (by decide +kernel) rfl
theorem yc_X9_statement : jYC yX9_statement cX9_statement 2 (some .int) 0 := ⟨tb_in 474 (by decide +kernel) rfl, in9, by decide +kernel⟩
theorem im_X9_statement : Cond.instanceMethod yX9_statement ∈ TBL := tb_in 472 (by decide +kernel) rfl
theorem se_X9_statement : Cond.selects RX9 yX9_statement yX9_statement ∈ TBL := tb_in 473 (by decide +kernel) rfl
theorem yc_X9_statementOf : jYC yX9_statementOf cX9_statementOf 4 (some .int) 2 := ⟨tb_in 616 (by decide +kernel) rfl, in9, by decide +kernel⟩
theorem im_X9_statementOf : Cond.instanceMethod yX9_statementOf ∈ TBL := tb_in 614 (by decide +kernel) rfl
theorem se_X9_statementOf : Cond.selects RX9 yX9_statementOf yX9_statementOf ∈ TBL := tb_in 615 (by decide +kernel) rfl
theorem yc_X9_run : jYC yX9_run cX9_run 6 (some .int) 5 := ⟨tb_in 635 (by decide +kernel) rfl, in9, by decide +kernel⟩
theorem im_X9_run : Cond.instanceMethod yX9_run ∈ TBL := tb_in 633 (by decide +kernel) rfl
theorem se_X9_run : Cond.selects RX9 yX9_run yX9_run ∈ TBL := tb_in 634 (by decide +kernel) rfl
theorem yc_X9_latest : jYC yX9_latest cX9_latest 2 (some .int) 1 := ⟨tb_in 744 (by decide +kernel) rfl, in9, by decide +kernel⟩
theorem im_X9_latest : Cond.instanceMethod yX9_latest ∈ TBL := tb_in 742 (by decide +kernel) rfl
theorem se_X9_latest : Cond.selects RX9 yX9_latest yX9_latest ∈ TBL := tb_in 743 (by decide +kernel) rfl
theorem yc_X9_pin : jYC yX9_pin cX9_pin 4 (some .int) 2 := ⟨tb_in 752 (by decide +kernel) rfl, in9, by decide +kernel⟩
theorem im_X9_pin : Cond.instanceMethod yX9_pin ∈ TBL := tb_in 750 (by decide +kernel) rfl
theorem se_X9_pin : Cond.selects RX9 yX9_pin yX9_pin ∈ TBL := tb_in 751 (by decide +kernel) rfl
theorem yc_X9_drop : jYC yX9_drop cX9_drop 3 (some .int) 1 := ⟨tb_in 762 (by decide +kernel) rfl, in9, by decide +kernel⟩
theorem im_X9_drop : Cond.instanceMethod yX9_drop ∈ TBL := tb_in 760 (by decide +kernel) rfl
theorem se_X9_drop : Cond.selects RX9 yX9_drop yX9_drop ∈ TBL := tb_in 761 (by decide +kernel) rfl
theorem yc_X9_set : jYC yX9_set cX9_set 3 (some .int) 2 := ⟨tb_in 767 (by decide +kernel) rfl, in9, by decide +kernel⟩
theorem im_X9_set : Cond.instanceMethod yX9_set ∈ TBL := tb_in 765 (by decide +kernel) rfl
theorem se_X9_set : Cond.selects RX9 yX9_set yX9_set ∈ TBL := tb_in 766 (by decide +kernel) rfl
theorem yc_X9_planOf : jYC yX9_planOf cX9_planOf 4 (some .int) 2 := ⟨tb_in 779 (by decide +kernel) rfl, in9, by decide +kernel⟩
theorem im_X9_planOf : Cond.instanceMethod yX9_planOf ∈ TBL := tb_in 777 (by decide +kernel) rfl
theorem se_X9_planOf : Cond.selects RX9 yX9_planOf yX9_planOf ∈ TBL := tb_in 778 (by decide +kernel) rfl
theorem yc_X9_planFor : jYC yX9_planFor cX9_planFor 3 (some .int) 2 := ⟨tb_in 787 (by decide +kernel) rfl, in9, by decide +kernel⟩
theorem im_X9_planFor : Cond.instanceMethod yX9_planFor ∈ TBL := tb_in 785 (by decide +kernel) rfl
theorem se_X9_planFor : Cond.selects RX9 yX9_planFor yX9_planFor ∈ TBL := tb_in 786 (by decide +kernel) rfl
theorem yc_X9_dropsNext : jYC yX9_dropsNext cX9_dropsNext 2 (some .int) 1 := ⟨tb_in 793 (by decide +kernel) rfl, in9, by decide +kernel⟩
theorem im_X9_dropsNext : Cond.instanceMethod yX9_dropsNext ∈ TBL := tb_in 791 (by decide +kernel) rfl
theorem se_X9_dropsNext : Cond.selects RX9 yX9_dropsNext yX9_dropsNext ∈ TBL := tb_in 792 (by decide +kernel) rfl
theorem yc_X9_count : jYC yX9_count cX9_count 2 (some .int) 1 := ⟨tb_in 798 (by decide +kernel) rfl, in9, by decide +kernel⟩
theorem im_X9_count : Cond.instanceMethod yX9_count ∈ TBL := tb_in 796 (by decide +kernel) rfl
theorem se_X9_count : Cond.selects RX9 yX9_count yX9_count ∈ TBL := tb_in 797 (by decide +kernel) rfl
theorem yc_X9_classOf : jYC yX9_classOf cX9_classOf 6 (some .int) 5 := ⟨tb_in 802 (by decide +kernel) rfl, in9, by decide +kernel⟩
theorem im_X9_classOf : Cond.instanceMethod yX9_classOf ∈ TBL := tb_in 800 (by decide +kernel) rfl
theorem se_X9_classOf : Cond.selects RX9 yX9_classOf yX9_classOf ∈ TBL := tb_in 801 (by decide +kernel) rfl
theorem yc_X9_way : jYC yX9_way cX9_way 6 (some .int) 5 := ⟨tb_in 807 (by decide +kernel) rfl, in9, by decide +kernel⟩
theorem im_X9_way : Cond.instanceMethod yX9_way ∈ TBL := tb_in 805 (by decide +kernel) rfl
theorem se_X9_way : Cond.selects RX9 yX9_way yX9_way ∈ TBL := tb_in 806 (by decide +kernel) rfl
theorem yc_X9_bestCost : jYC yX9_bestCost cX9_bestCost 3 (some .int) 0 := ⟨tb_in 812 (by decide +kernel) rfl, in9, by decide +kernel⟩
theorem im_X9_bestCost : Cond.instanceMethod yX9_bestCost ∈ TBL := tb_in 810 (by decide +kernel) rfl
theorem se_X9_bestCost : Cond.selects RX9 yX9_bestCost yX9_bestCost ∈ TBL := tb_in 811 (by decide +kernel) rfl
theorem yc_X9_undo : jYC yX9_undo cX9_undo 1 (some .int) 0 := ⟨tb_in 817 (by decide +kernel) rfl, in9, by decide +kernel⟩
theorem im_X9_undo : Cond.instanceMethod yX9_undo ∈ TBL := tb_in 815 (by decide +kernel) rfl
theorem se_X9_undo : Cond.selects RX9 yX9_undo yX9_undo ∈ TBL := tb_in 816 (by decide +kernel) rfl
theorem yc_X9_type : jYC yX9_type cX9_type 2 (some .int) 1 := ⟨tb_in 825 (by decide +kernel) rfl, in9, by decide +kernel⟩
theorem im_X9_type : Cond.instanceMethod yX9_type ∈ TBL := tb_in 823 (by decide +kernel) rfl
theorem se_X9_type : Cond.selects RX9 yX9_type yX9_type ∈ TBL := tb_in 824 (by decide +kernel) rfl
theorem yc_X9_clearText : jYC yX9_clearText cX9_clearText 1 (some .int) 0 := ⟨tb_in 833 (by decide +kernel) rfl, in9, by decide +kernel⟩
theorem im_X9_clearText : Cond.instanceMethod yX9_clearText ∈ TBL := tb_in 831 (by decide +kernel) rfl
theorem se_X9_clearText : Cond.selects RX9 yX9_clearText yX9_clearText ∈ TBL := tb_in 832 (by decide +kernel) rfl
theorem yc_X9_fault : jYC yX9_fault cX9_fault 3 (some .int) 1 := ⟨tb_in 841 (by decide +kernel) rfl, in9, by decide +kernel⟩
theorem im_X9_fault : Cond.instanceMethod yX9_fault ∈ TBL := tb_in 839 (by decide +kernel) rfl
theorem se_X9_fault : Cond.selects RX9 yX9_fault yX9_fault ∈ TBL := tb_in 840 (by decide +kernel) rfl
theorem yc_X9_record : jYC yX9_record cX9_record 1 none 0 := ⟨tb_in 328 (by decide +kernel) rfl, in9, by decide +kernel⟩
theorem im_X9_record : Cond.instanceMethod yX9_record ∈ TBL := tb_in 327 (by decide +kernel) rfl
theorem se_X9_record : Cond.selects RX9 yX9_record yX9_record ∈ TBL := tb_sel 0 (by decide +kernel) rfl
theorem yc_X9_accepts : jYC yX9_accepts cX9_accepts 7 (some .boolean) 5 := ⟨tb_in 639 (by decide +kernel) rfl, in9, by decide +kernel⟩
theorem im_X9_accepts : Cond.instanceMethod yX9_accepts ∈ TBL := tb_in 638 (by decide +kernel) rfl
theorem se_X9_accepts : Cond.selects RX9 yX9_accepts yX9_accepts ∈ TBL := tb_sel 9 (by decide +kernel) rfl
theorem yc_X9_gathered : jYC yX9_gathered cX9_gathered 5 (some (.array .int)) 4 := ⟨tb_in 384 (by decide +kernel) rfl, in9, by decide +kernel⟩
theorem im_X9_gathered : Cond.instanceMethod yX9_gathered ∈ TBL := tb_in 383 (by decide +kernel) rfl
theorem se_X9_gathered : Cond.selects RX9 yX9_gathered yX9_gathered ∈ TBL := tb_sel 2 (by decide +kernel) rfl
theorem yc_X9_within : jYC yX9_within cX9_within 3 (some .boolean) 3 := ⟨tb_in 324 (by decide +kernel) rfl, in9, by decide +kernel⟩
theorem st_X9_within : Cond.static yX9_within ∈ TBL := tb_in 323 (by decide +kernel) rfl
theorem yc_X9_isValue : jYC yX9_isValue cX9_isValue 1 (some .boolean) 1 := ⟨tb_in 321 (by decide +kernel) rfl, in9, by decide +kernel⟩
theorem st_X9_isValue : Cond.static yX9_isValue ∈ TBL := tb_in 320 (by decide +kernel) rfl
theorem yc_X9_isColumn : jYC yX9_isColumn cX9_isColumn 1 (some .boolean) 1 := ⟨tb_in 426 (by decide +kernel) rfl, in9, by decide +kernel⟩
theorem st_X9_isColumn : Cond.static yX9_isColumn ∈ TBL := tb_in 425 (by decide +kernel) rfl
theorem yc_X9_at : jYC yX9_at cX9_at 2 (some .int) 2 := ⟨tb_in 391 (by decide +kernel) rfl, in9, by decide +kernel⟩
theorem st_X9_at : Cond.static yX9_at ∈ TBL := tb_in 390 (by decide +kernel) rfl
theorem yc_X9_copy : jYC yX9_copy cX9_copy 3 none 2 := ⟨tb_in 347 (by decide +kernel) rfl, in9, by decide +kernel⟩
theorem st_X9_copy : Cond.static yX9_copy ∈ TBL := tb_in 346 (by decide +kernel) rfl
theorem yc_X9_holds : jYC yX9_holds cX9_holds 3 (some .boolean) 3 := ⟨tb_in 662 (by decide +kernel) rfl, in9, by decide +kernel⟩
theorem st_X9_holds : Cond.static yX9_holds ∈ TBL := tb_in 661 (by decide +kernel) rfl
theorem yc_X9_cost : jYC yX9_cost cX9_cost 4 (some .int) 4 := ⟨tb_in 715 (by decide +kernel) rfl, in9, by decide +kernel⟩
theorem st_X9_cost : Cond.static yX9_cost ∈ TBL := tb_in 714 (by decide +kernel) rfl
theorem yc_X10_init : jYC yX10_init cX10_init 1 none 0 := ⟨tb_in 850 (by decide +kernel) rfl, in10, by decide +kernel⟩
theorem im_X10_init : Cond.instanceMethod yX10_init ∈ TBL := tb_in 849 (by decide +kernel) rfl
theorem yc_X10_in : jYC yX10_in cX10_in 3 (some .boolean) 3 := ⟨tb_in 886 (by decide +kernel) rfl, in10, by decide +kernel⟩
theorem st_X10_in : Cond.static yX10_in ∈ TBL := tb_in 885 (by decide +kernel) rfl
theorem yc_X10_changes : jYC yX10_changes cX10_changes 2 none 0 := ⟨tb_in 890 (by decide +kernel) rfl, in10, by decide +kernel⟩
theorem im_X10_changes : Cond.instanceMethod yX10_changes ∈ TBL := tb_in 889 (by decide +kernel) rfl
theorem se_X10_changes : Cond.selects RX10 yX10_changes yX10_changes ∈ TBL := tb_sel 16 (by decide +kernel) rfl
theorem yc_X10_isValue : jYC yX10_isValue cX10_isValue 1 (some .boolean) 1 := ⟨tb_in 883 (by decide +kernel) rfl, in10, by decide +kernel⟩
theorem st_X10_isValue : Cond.static yX10_isValue ∈ TBL := tb_in 882 (by decide +kernel) rfl
theorem yc_X10_isRow : jYC yX10_isRow cX10_isRow 2 (some .boolean) 1 := ⟨tb_in 898 (by decide +kernel) rfl, in10, by decide +kernel⟩
theorem im_X10_isRow : Cond.instanceMethod yX10_isRow ∈ TBL := tb_in 897 (by decide +kernel) rfl
theorem se_X10_isRow : Cond.selects RX10 yX10_isRow yX10_isRow ∈ TBL := tb_sel 17 (by decide +kernel) rfl
theorem yc_X10_ofRow : jYC yX10_ofRow cX10_ofRow 3 (some .int) 2 := ⟨tb_in 902 (by decide +kernel) rfl, in10, by decide +kernel⟩
theorem im_X10_ofRow : Cond.instanceMethod yX10_ofRow ∈ TBL := tb_in 901 (by decide +kernel) rfl
theorem se_X10_ofRow : Cond.selects RX10 yX10_ofRow yX10_ofRow ∈ TBL := tb_sel 18 (by decide +kernel) rfl
theorem yc_X10_row : jYC yX10_row cX10_row 7 (some .int) 5 := ⟨tb_in 880 (by decide +kernel) rfl, in10, by decide +kernel⟩
theorem im_X10_row : Cond.instanceMethod yX10_row ∈ TBL := tb_in 878 (by decide +kernel) rfl
theorem se_X10_row : Cond.selects RX10 yX10_row yX10_row ∈ TBL := tb_in 879 (by decide +kernel) rfl
theorem yc_X10_dropRow : jYC yX10_dropRow cX10_dropRow 4 (some .int) 1 := ⟨tb_in 894 (by decide +kernel) rfl, in10, by decide +kernel⟩
theorem im_X10_dropRow : Cond.instanceMethod yX10_dropRow ∈ TBL := tb_in 892 (by decide +kernel) rfl
theorem se_X10_dropRow : Cond.selects RX10 yX10_dropRow yX10_dropRow ∈ TBL := tb_in 893 (by decide +kernel) rfl
theorem yc_X10_hasIndex : jYC yX10_hasIndex cX10_hasIndex 2 (some .boolean) 1 := ⟨tb_in 910 (by decide +kernel) rfl, in10, by decide +kernel⟩
theorem im_X10_hasIndex : Cond.instanceMethod yX10_hasIndex ∈ TBL := tb_in 909 (by decide +kernel) rfl
theorem se_X10_hasIndex : Cond.selects RX10 yX10_hasIndex yX10_hasIndex ∈ TBL := tb_sel 19 (by decide +kernel) rfl
theorem yc_X10_index : jYC yX10_index cX10_index 6 (some .int) 2 := ⟨tb_in 906 (by decide +kernel) rfl, in10, by decide +kernel⟩
theorem im_X10_index : Cond.instanceMethod yX10_index ∈ TBL := tb_in 904 (by decide +kernel) rfl
theorem se_X10_index : Cond.selects RX10 yX10_index yX10_index ∈ TBL := tb_in 905 (by decide +kernel) rfl
theorem yc_X10_size : jYC yX10_size cX10_size 3 (some .int) 0 := ⟨tb_in 930 (by decide +kernel) rfl, in10, by decide +kernel⟩
theorem im_X10_size : Cond.instanceMethod yX10_size ∈ TBL := tb_in 929 (by decide +kernel) rfl
theorem se_X10_size : Cond.selects RX10 yX10_size yX10_size ∈ TBL := tb_sel 23 (by decide +kernel) rfl
theorem yc_X10_analyse : jYC yX10_analyse cX10_analyse 3 (some .int) 0 := ⟨tb_in 926 (by decide +kernel) rfl, in10, by decide +kernel⟩
theorem im_X10_analyse : Cond.instanceMethod yX10_analyse ∈ TBL := tb_in 924 (by decide +kernel) rfl
theorem se_X10_analyse : Cond.selects RX10 yX10_analyse yX10_analyse ∈ TBL := tb_in 925 (by decide +kernel) rfl
theorem yc_X10_rowOf : jYC yX10_rowOf cX10_rowOf 3 (some .int) 2 := ⟨tb_in 934 (by decide +kernel) rfl, in10, by decide +kernel⟩
theorem im_X10_rowOf : Cond.instanceMethod yX10_rowOf ∈ TBL := tb_in 932 (by decide +kernel) rfl
theorem se_X10_rowOf : Cond.selects RX10 yX10_rowOf yX10_rowOf ∈ TBL := tb_in 933 (by decide +kernel) rfl
theorem yc_X10_known : jYC yX10_known cX10_known 3 (some .int) 2 := ⟨tb_in 938 (by decide +kernel) rfl, in10, by decide +kernel⟩
theorem im_X10_known : Cond.instanceMethod yX10_known ∈ TBL := tb_in 936 (by decide +kernel) rfl
theorem se_X10_known : Cond.selects RX10 yX10_known yX10_known ∈ TBL := tb_in 937 (by decide +kernel) rfl
theorem yc_X10_isStatement : jYC yX10_isStatement cX10_isStatement 2 (some .boolean) 1 := ⟨tb_in 970 (by decide +kernel) rfl, in10, by decide +kernel⟩
theorem im_X10_isStatement : Cond.instanceMethod yX10_isStatement ∈ TBL := tb_in 969 (by decide +kernel) rfl
theorem se_X10_isStatement : Cond.selects RX10 yX10_isStatement yX10_isStatement ∈ TBL := tb_sel 29 (by decide +kernel) rfl
theorem yc_X10_conditions : jYC yX10_conditions cX10_conditions 2 (some .int) 1 := ⟨tb_in 954 (by decide +kernel) rfl, in10, by decide +kernel⟩
theorem im_X10_conditions : Cond.instanceMethod yX10_conditions ∈ TBL := tb_in 953 (by decide +kernel) rfl
theorem se_X10_conditions : Cond.selects RX10 yX10_conditions yX10_conditions ∈ TBL := tb_sel 26 (by decide +kernel) rfl
theorem yc_X10_columnOf : jYC yX10_columnOf cX10_columnOf 3 (some .int) 2 := ⟨tb_in 918 (by decide +kernel) rfl, in10, by decide +kernel⟩
theorem im_X10_columnOf : Cond.instanceMethod yX10_columnOf ∈ TBL := tb_in 917 (by decide +kernel) rfl
theorem se_X10_columnOf : Cond.selects RX10 yX10_columnOf yX10_columnOf ∈ TBL := tb_sel 21 (by decide +kernel) rfl
theorem yc_X10_operatorOf : jYC yX10_operatorOf cX10_operatorOf 3 (some .int) 2 := ⟨tb_in 962 (by decide +kernel) rfl, in10, by decide +kernel⟩
theorem im_X10_operatorOf : Cond.instanceMethod yX10_operatorOf ∈ TBL := tb_in 961 (by decide +kernel) rfl
theorem se_X10_operatorOf : Cond.selects RX10 yX10_operatorOf yX10_operatorOf ∈ TBL := tb_sel 28 (by decide +kernel) rfl
theorem yc_X10_isRight : jYC yX10_isRight cX10_isRight 3 (some .boolean) 0 := ⟨tb_in 946 (by decide +kernel) rfl, in10, by decide +kernel⟩
theorem im_X10_isRight : Cond.instanceMethod yX10_isRight ∈ TBL := tb_in 945 (by decide +kernel) rfl
theorem se_X10_isRight : Cond.selects RX10 yX10_isRight yX10_isRight ∈ TBL := tb_sel 24 (by decide +kernel) rfl
theorem yc_X10_meant : jYC yX10_meant cX10_meant 3 (some .int) 2 := ⟨tb_in 958 (by decide +kernel) rfl, in10, by decide +kernel⟩
theorem im_X10_meant : Cond.instanceMethod yX10_meant ∈ TBL := tb_in 957 (by decide +kernel) rfl
theorem se_X10_meant : Cond.selects RX10 yX10_meant yX10_meant ∈ TBL := tb_sel 27 (by decide +kernel) rfl
theorem yc_X10_isText : jYC yX10_isText cX10_isText 4 (some .boolean) 1 := ⟨tb_in 950 (by decide +kernel) rfl, in10, by decide +kernel⟩
theorem im_X10_isText : Cond.instanceMethod yX10_isText ∈ TBL := tb_in 949 (by decide +kernel) rfl
theorem se_X10_isText : Cond.selects RX10 yX10_isText yX10_isText ∈ TBL := tb_sel 25 (by decide +kernel) rfl
theorem yc_X10_statement : jYC yX10_statement cX10_statement 4 (some .int) 0 := ⟨tb_in 942 (by decide +kernel) rfl, in10, by decide +kernel⟩
theorem im_X10_statement : Cond.instanceMethod yX10_statement ∈ TBL := tb_in 940 (by decide +kernel) rfl
theorem se_X10_statement : Cond.selects RX10 yX10_statement yX10_statement ∈ TBL := tb_in 941 (by decide +kernel) rfl
theorem yc_X10_plansOf : jYC yX10_plansOf cX10_plansOf 4 (some .int) 1 := ⟨tb_in 974 (by decide +kernel) rfl, in10, by decide +kernel⟩
theorem im_X10_plansOf : Cond.instanceMethod yX10_plansOf ∈ TBL := tb_in 973 (by decide +kernel) rfl
theorem se_X10_plansOf : Cond.selects RX10 yX10_plansOf yX10_plansOf ∈ TBL := tb_sel 30 (by decide +kernel) rfl
theorem yc_X10_statementOf : jYC yX10_statementOf cX10_statementOf 4 (some .int) 2 := ⟨tb_in 966 (by decide +kernel) rfl, in10, by decide +kernel⟩
theorem im_X10_statementOf : Cond.instanceMethod yX10_statementOf ∈ TBL := tb_in 964 (by decide +kernel) rfl
theorem se_X10_statementOf : Cond.selects RX10 yX10_statementOf yX10_statementOf ∈ TBL := tb_in 965 (by decide +kernel) rfl
theorem yc_X10_takes : jYC yX10_takes cX10_takes 8 (some .boolean) 5 := ⟨tb_in 982 (by decide +kernel) rfl, in10, by decide +kernel⟩
theorem im_X10_takes : Cond.instanceMethod yX10_takes ∈ TBL := tb_in 981 (by decide +kernel) rfl
theorem se_X10_takes : Cond.selects RX10 yX10_takes yX10_takes ∈ TBL := tb_sel 31 (by decide +kernel) rfl
theorem yc_X10_holds : jYC yX10_holds cX10_holds 5 (some .boolean) 3 := ⟨tb_in 998 (by decide +kernel) rfl, in10, by decide +kernel⟩
theorem im_X10_holds : Cond.instanceMethod yX10_holds ∈ TBL := tb_in 997 (by decide +kernel) rfl
theorem se_X10_holds : Cond.selects RX10 yX10_holds yX10_holds ∈ TBL := tb_sel 35 (by decide +kernel) rfl
theorem yc_X10_weights : jYC yX10_weights cX10_weights 7 (some .int) 3 := ⟨tb_in 994 (by decide +kernel) rfl, in10, by decide +kernel⟩
theorem im_X10_weights : Cond.instanceMethod yX10_weights ∈ TBL := tb_in 993 (by decide +kernel) rfl
theorem se_X10_weights : Cond.selects RX10 yX10_weights yX10_weights ∈ TBL := tb_sel 34 (by decide +kernel) rfl
theorem yc_X10_cost : jYC yX10_cost cX10_cost 4 (some .int) 3 := ⟨tb_in 1010 (by decide +kernel) rfl, in10, by decide +kernel⟩
theorem im_X10_cost : Cond.instanceMethod yX10_cost ∈ TBL := tb_in 1009 (by decide +kernel) rfl
theorem se_X10_cost : Cond.selects RX10 yX10_cost yX10_cost ∈ TBL := tb_sel 38 (by decide +kernel) rfl
theorem yc_X10_bestWay : jYC yX10_bestWay cX10_bestWay 5 (some .int) 2 := ⟨tb_in 1006 (by decide +kernel) rfl, in10, by decide +kernel⟩
theorem im_X10_bestWay : Cond.instanceMethod yX10_bestWay ∈ TBL := tb_in 1005 (by decide +kernel) rfl
theorem se_X10_bestWay : Cond.selects RX10 yX10_bestWay yX10_bestWay ∈ TBL := tb_sel 37 (by decide +kernel) rfl
theorem yc_X10_ownClass : jYC yX10_ownClass cX10_ownClass 5 (some .int) 1 := ⟨tb_in 990 (by decide +kernel) rfl, in10, by decide +kernel⟩
theorem im_X10_ownClass : Cond.instanceMethod yX10_ownClass ∈ TBL := tb_in 989 (by decide +kernel) rfl
theorem se_X10_ownClass : Cond.selects RX10 yX10_ownClass yX10_ownClass ∈ TBL := tb_sel 33 (by decide +kernel) rfl
theorem yc_X10_ofPlan : jYC yX10_ofPlan cX10_ofPlan 3 (some .int) 2 := ⟨tb_in 914 (by decide +kernel) rfl, in10, by decide +kernel⟩
theorem im_X10_ofPlan : Cond.instanceMethod yX10_ofPlan ∈ TBL := tb_in 913 (by decide +kernel) rfl
theorem se_X10_ofPlan : Cond.selects RX10 yX10_ofPlan yX10_ofPlan ∈ TBL := tb_sel 20 (by decide +kernel) rfl
theorem yc_X10_takesOut : jYC yX10_takesOut cX10_takesOut 3 none 1 := ⟨tb_in 922 (by decide +kernel) rfl, in10, by decide +kernel⟩
theorem im_X10_takesOut : Cond.instanceMethod yX10_takesOut ∈ TBL := tb_in 921 (by decide +kernel) rfl
theorem se_X10_takesOut : Cond.selects RX10 yX10_takesOut yX10_takesOut ∈ TBL := tb_sel 22 (by decide +kernel) rfl
theorem yc_X10_placeOf : jYC yX10_placeOf cX10_placeOf 4 (some .int) 1 := ⟨tb_in 1042 (by decide +kernel) rfl, in10, by decide +kernel⟩
theorem im_X10_placeOf : Cond.instanceMethod yX10_placeOf ∈ TBL := tb_in 1041 (by decide +kernel) rfl
theorem se_X10_placeOf : Cond.selects RX10 yX10_placeOf yX10_placeOf ∈ TBL := tb_sel 44 (by decide +kernel) rfl
theorem yc_X10_placeFor : jYC yX10_placeFor cX10_placeFor 5 (some .int) 2 := ⟨tb_in 1002 (by decide +kernel) rfl, in10, by decide +kernel⟩
theorem im_X10_placeFor : Cond.instanceMethod yX10_placeFor ∈ TBL := tb_in 1001 (by decide +kernel) rfl
theorem se_X10_placeFor : Cond.selects RX10 yX10_placeFor yX10_placeFor ∈ TBL := tb_sel 36 (by decide +kernel) rfl
theorem yc_X10_isAhead : jYC yX10_isAhead cX10_isAhead 4 (some .boolean) 2 := ⟨tb_in 1022 (by decide +kernel) rfl, in10, by decide +kernel⟩
theorem im_X10_isAhead : Cond.instanceMethod yX10_isAhead ∈ TBL := tb_in 1021 (by decide +kernel) rfl
theorem se_X10_isAhead : Cond.selects RX10 yX10_isAhead yX10_isAhead ∈ TBL := tb_sel 41 (by decide +kernel) rfl
theorem yc_X10_dropsAt : jYC yX10_dropsAt cX10_dropsAt 6 (some .int) 1 := ⟨tb_in 1018 (by decide +kernel) rfl, in10, by decide +kernel⟩
theorem im_X10_dropsAt : Cond.instanceMethod yX10_dropsAt ∈ TBL := tb_in 1017 (by decide +kernel) rfl
theorem se_X10_dropsAt : Cond.selects RX10 yX10_dropsAt yX10_dropsAt ∈ TBL := tb_sel 40 (by decide +kernel) rfl
theorem yc_X10_clears : jYC yX10_clears cX10_clears 3 (some .int) 0 := ⟨tb_in 1014 (by decide +kernel) rfl, in10, by decide +kernel⟩
theorem im_X10_clears : Cond.instanceMethod yX10_clears ∈ TBL := tb_in 1013 (by decide +kernel) rfl
theorem se_X10_clears : Cond.selects RX10 yX10_clears yX10_clears ∈ TBL := tb_sel 39 (by decide +kernel) rfl
theorem yc_X10_tells : jYC yX10_tells cX10_tells 7 none 6 := ⟨tb_in 1030 (by decide +kernel) rfl, in10, by decide +kernel⟩
theorem im_X10_tells : Cond.instanceMethod yX10_tells ∈ TBL := tb_in 1029 (by decide +kernel) rfl
theorem se_X10_tells : Cond.selects RX10 yX10_tells yX10_tells ∈ TBL := tb_sel 43 (by decide +kernel) rfl
theorem yc_X10_keeps : jYC yX10_keeps cX10_keeps 6 (some .int) 4 := ⟨tb_in 1026 (by decide +kernel) rfl, in10, by decide +kernel⟩
theorem im_X10_keeps : Cond.instanceMethod yX10_keeps ∈ TBL := tb_in 1025 (by decide +kernel) rfl
theorem se_X10_keeps : Cond.selects RX10 yX10_keeps yX10_keeps ∈ TBL := tb_sel 42 (by decide +kernel) rfl
theorem yc_X10_goes : jYC yX10_goes cX10_goes 9 none 1 := ⟨tb_in 986 (by decide +kernel) rfl, in10, by decide +kernel⟩
theorem im_X10_goes : Cond.instanceMethod yX10_goes ∈ TBL := tb_in 985 (by decide +kernel) rfl
theorem se_X10_goes : Cond.selects RX10 yX10_goes yX10_goes ∈ TBL := tb_sel 32 (by decide +kernel) rfl
theorem yc_X10_run : jYC yX10_run cX10_run 10 (some .int) 5 := ⟨tb_in 978 (by decide +kernel) rfl, in10, by decide +kernel⟩
theorem im_X10_run : Cond.instanceMethod yX10_run ∈ TBL := tb_in 976 (by decide +kernel) rfl
theorem se_X10_run : Cond.selects RX10 yX10_run yX10_run ∈ TBL := tb_in 977 (by decide +kernel) rfl
theorem yc_X10_latest : jYC yX10_latest cX10_latest 2 (some .int) 1 := ⟨tb_in 1034 (by decide +kernel) rfl, in10, by decide +kernel⟩
theorem im_X10_latest : Cond.instanceMethod yX10_latest ∈ TBL := tb_in 1032 (by decide +kernel) rfl
theorem se_X10_latest : Cond.selects RX10 yX10_latest yX10_latest ∈ TBL := tb_in 1033 (by decide +kernel) rfl
theorem yc_X10_pinned : jYC yX10_pinned cX10_pinned 3 (some .int) 0 := ⟨tb_in 1046 (by decide +kernel) rfl, in10, by decide +kernel⟩
theorem im_X10_pinned : Cond.instanceMethod yX10_pinned ∈ TBL := tb_in 1045 (by decide +kernel) rfl
theorem se_X10_pinned : Cond.selects RX10 yX10_pinned yX10_pinned ∈ TBL := tb_sel 45 (by decide +kernel) rfl
theorem yc_X10_pin : jYC yX10_pin cX10_pin 4 (some .int) 2 := ⟨tb_in 1038 (by decide +kernel) rfl, in10, by decide +kernel⟩
theorem im_X10_pin : Cond.instanceMethod yX10_pin ∈ TBL := tb_in 1036 (by decide +kernel) rfl
theorem se_X10_pin : Cond.selects RX10 yX10_pin yX10_pin ∈ TBL := tb_in 1037 (by decide +kernel) rfl
theorem yc_X10_drop : jYC yX10_drop cX10_drop 3 (some .int) 1 := ⟨tb_in 1050 (by decide +kernel) rfl, in10, by decide +kernel⟩
theorem im_X10_drop : Cond.instanceMethod yX10_drop ∈ TBL := tb_in 1048 (by decide +kernel) rfl
theorem se_X10_drop : Cond.selects RX10 yX10_drop yX10_drop ∈ TBL := tb_in 1049 (by decide +kernel) rfl
theorem yc_X10_set : jYC yX10_set cX10_set 4 (some .int) 2 := ⟨tb_in 1054 (by decide +kernel) rfl, in10, by decide +kernel⟩
theorem im_X10_set : Cond.instanceMethod yX10_set ∈ TBL := tb_in 1052 (by decide +kernel) rfl
theorem se_X10_set : Cond.selects RX10 yX10_set yX10_set ∈ TBL := tb_in 1053 (by decide +kernel) rfl
theorem yc_X10_planOf : jYC yX10_planOf cX10_planOf 4 (some .int) 2 := ⟨tb_in 1058 (by decide +kernel) rfl, in10, by decide +kernel⟩
theorem im_X10_planOf : Cond.instanceMethod yX10_planOf ∈ TBL := tb_in 1056 (by decide +kernel) rfl
theorem se_X10_planOf : Cond.selects RX10 yX10_planOf yX10_planOf ∈ TBL := tb_in 1057 (by decide +kernel) rfl
theorem yc_X10_planFor : jYC yX10_planFor cX10_planFor 4 (some .int) 2 := ⟨tb_in 1062 (by decide +kernel) rfl, in10, by decide +kernel⟩
theorem im_X10_planFor : Cond.instanceMethod yX10_planFor ∈ TBL := tb_in 1060 (by decide +kernel) rfl
theorem se_X10_planFor : Cond.selects RX10 yX10_planFor yX10_planFor ∈ TBL := tb_in 1061 (by decide +kernel) rfl
theorem yc_X10_dropsNext : jYC yX10_dropsNext cX10_dropsNext 3 (some .int) 1 := ⟨tb_in 1066 (by decide +kernel) rfl, in10, by decide +kernel⟩
theorem im_X10_dropsNext : Cond.instanceMethod yX10_dropsNext ∈ TBL := tb_in 1064 (by decide +kernel) rfl
theorem se_X10_dropsNext : Cond.selects RX10 yX10_dropsNext yX10_dropsNext ∈ TBL := tb_in 1065 (by decide +kernel) rfl
theorem yc_X10_count : jYC yX10_count cX10_count 2 (some .int) 1 := ⟨tb_in 1070 (by decide +kernel) rfl, in10, by decide +kernel⟩
theorem im_X10_count : Cond.instanceMethod yX10_count ∈ TBL := tb_in 1068 (by decide +kernel) rfl
theorem se_X10_count : Cond.selects RX10 yX10_count yX10_count ∈ TBL := tb_in 1069 (by decide +kernel) rfl
theorem yc_X10_classOf : jYC yX10_classOf cX10_classOf 6 (some .int) 5 := ⟨tb_in 1074 (by decide +kernel) rfl, in10, by decide +kernel⟩
theorem im_X10_classOf : Cond.instanceMethod yX10_classOf ∈ TBL := tb_in 1072 (by decide +kernel) rfl
theorem se_X10_classOf : Cond.selects RX10 yX10_classOf yX10_classOf ∈ TBL := tb_in 1073 (by decide +kernel) rfl
theorem yc_X10_way : jYC yX10_way cX10_way 6 (some .int) 5 := ⟨tb_in 1078 (by decide +kernel) rfl, in10, by decide +kernel⟩
theorem im_X10_way : Cond.instanceMethod yX10_way ∈ TBL := tb_in 1076 (by decide +kernel) rfl
theorem se_X10_way : Cond.selects RX10 yX10_way yX10_way ∈ TBL := tb_in 1077 (by decide +kernel) rfl
theorem yc_X10_bestCost : jYC yX10_bestCost cX10_bestCost 3 (some .int) 0 := ⟨tb_in 1082 (by decide +kernel) rfl, in10, by decide +kernel⟩
theorem im_X10_bestCost : Cond.instanceMethod yX10_bestCost ∈ TBL := tb_in 1080 (by decide +kernel) rfl
theorem se_X10_bestCost : Cond.selects RX10 yX10_bestCost yX10_bestCost ∈ TBL := tb_in 1081 (by decide +kernel) rfl
theorem yc_X10_undo : jYC yX10_undo cX10_undo 2 (some .int) 0 := ⟨tb_in 1086 (by decide +kernel) rfl, in10, by decide +kernel⟩
theorem im_X10_undo : Cond.instanceMethod yX10_undo ∈ TBL := tb_in 1084 (by decide +kernel) rfl
theorem se_X10_undo : Cond.selects RX10 yX10_undo yX10_undo ∈ TBL := tb_in 1085 (by decide +kernel) rfl
theorem yc_X10_type : jYC yX10_type cX10_type 2 (some .int) 1 := ⟨tb_in 1090 (by decide +kernel) rfl, in10, by decide +kernel⟩
theorem im_X10_type : Cond.instanceMethod yX10_type ∈ TBL := tb_in 1088 (by decide +kernel) rfl
theorem se_X10_type : Cond.selects RX10 yX10_type yX10_type ∈ TBL := tb_in 1089 (by decide +kernel) rfl
theorem yc_X10_clearText : jYC yX10_clearText cX10_clearText 2 (some .int) 0 := ⟨tb_in 1094 (by decide +kernel) rfl, in10, by decide +kernel⟩
theorem im_X10_clearText : Cond.instanceMethod yX10_clearText ∈ TBL := tb_in 1092 (by decide +kernel) rfl
theorem se_X10_clearText : Cond.selects RX10 yX10_clearText yX10_clearText ∈ TBL := tb_in 1093 (by decide +kernel) rfl
theorem yc_X10_fault : jYC yX10_fault cX10_fault 2 (some .int) 1 := ⟨tb_in 1098 (by decide +kernel) rfl, in10, by decide +kernel⟩
theorem im_X10_fault : Cond.instanceMethod yX10_fault ∈ TBL := tb_in 1096 (by decide +kernel) rfl
theorem se_X10_fault : Cond.selects RX10 yX10_fault yX10_fault ∈ TBL := tb_in 1097 (by decide +kernel) rfl
theorem mn_X9_9 : jMN RX9 9 yX4_init := Or.inl (tb_in 28 (by decide +kernel) rfl)
theorem mn_X9_18 : jMN RX9 18 yX0_init := Or.inl (tb_in 272 (by decide +kernel) rfl)
theorem mn_X9_25 : jMN RX9 25 yX8_init := Or.inr ⟨"PlanShelves", nw_in 289 (by decide +kernel) rfl⟩
theorem mn_X9_34 : jMN RX9 34 yX9_isValue := Or.inl (tb_in 319 (by decide +kernel) rfl)
theorem mn_X9_38 : jMN RX9 38 yX9_within := Or.inl (tb_in 322 (by decide +kernel) rfl)
theorem mn_X9_52 : jMN RX9 52 yX9_record := Or.inl (tb_in 325 (by decide +kernel) rfl)
theorem mn_X9_55 : jMN RX9 55 yX9_gathered := Or.inl (tb_in 381 (by decide +kernel) rfl)
theorem mn_X9_59 : jMN RX9 59 yX7_append := Or.inl (tb_in 385 (by decide +kernel) rfl)
theorem mn_X9_63 : jMN RX9 63 yX7_hasRow := Or.inl (tb_in 412 (by decide +kernel) rfl)
theorem mn_X9_66 : jMN RX9 66 yX7_remove := Or.inl (tb_in 416 (by decide +kernel) rfl)
theorem mn_X9_70 : jMN RX9 70 yX9_isColumn := Or.inl (tb_in 424 (by decide +kernel) rfl)
theorem mn_X9_73 : jMN RX9 73 yX4_isIndexed := Or.inl (tb_in 427 (by decide +kernel) rfl)
theorem mn_X9_76 : jMN RX9 76 yX4_flipIndex := Or.inl (tb_in 431 (by decide +kernel) rfl)
theorem mn_X9_80 : jMN RX9 80 yX4_throwAwayPlansBy := Or.inl (tb_in 435 (by decide +kernel) rfl)
theorem mn_X9_90 : jMN RX9 90 yX6_takeFrom := Or.inl (tb_in 457 (by decide +kernel) rfl)
theorem mn_X9_99 : jMN RX9 99 yX7_cellAt := Or.inl (tb_in 462 (by decide +kernel) rfl)
theorem mn_X9_103 : jMN RX9 103 yX6_weightOf := Or.inl (tb_in 467 (by decide +kernel) rfl)
theorem mn_X9_106 : jMN RX9 106 yX8_faultPlace := Or.inl (tb_in 475 (by decide +kernel) rfl)
theorem mn_X9_110 : jMN RX9 110 yX4_statementWith := Or.inl (tb_in 578 (by decide +kernel) rfl)
theorem mn_X9_117 : jMN RX9 117 yX4_addStatement := Or.inl (tb_in 603 (by decide +kernel) rfl)
theorem mn_X9_120 : jMN RX9 120 yX4_hasStatement := Or.inl (tb_in 617 (by decide +kernel) rfl)
theorem mn_X9_123 : jMN RX9 123 yX4_statementAt := Or.inl (tb_in 621 (by decide +kernel) rfl)
theorem mn_X9_136 : jMN RX9 136 yX3_keptFor := Or.inl (tb_in 622 (by decide +kernel) rfl)
theorem mn_X9_144 : jMN RX9 144 yX5_hasCondition := Or.inl (tb_in 626 (by decide +kernel) rfl)
theorem mn_X9_147 : jMN RX9 147 yX5_columnAt := Or.inl (tb_in 630 (by decide +kernel) rfl)
theorem mn_X9_150 : jMN RX9 150 yX5_operatorAt := Or.inl (tb_in 631 (by decide +kernel) rfl)
theorem mn_X9_153 : jMN RX9 153 yX9_accepts := Or.inl (tb_in 636 (by decide +kernel) rfl)
theorem mn_X9_157 : jMN RX9 157 yX4_execute := Or.inl (tb_in 646 (by decide +kernel) rfl)
theorem mn_X9_165 : jMN RX9 165 yX1_tell := Or.inl (tb_in 745 (by decide +kernel) rfl)
theorem mn_X9_170 : jMN RX9 170 yX3_placeOf := Or.inl (tb_in 753 (by decide +kernel) rfl)
theorem mn_X9_173 : jMN RX9 173 yX3_planAt := Or.inl (tb_in 754 (by decide +kernel) rfl)
theorem mn_X9_183 : jMN RX9 183 yX3_pinned := Or.inl (tb_in 755 (by decide +kernel) rfl)
theorem mn_X9_185 : jMN RX9 185 yX3_throwAway := Or.inl (tb_in 763 (by decide +kernel) rfl)
theorem mn_X9_194 : jMN RX9 194 yX9_at := Or.inl (tb_in 716 (by decide +kernel) rfl)
theorem mn_X9_200 : jMN RX9 200 yX4_changeSetting := Or.inl (tb_in 772 (by decide +kernel) rfl)
theorem mn_X9_204 : jMN RX9 204 yX2_tell := Or.inl (tb_in 780 (by decide +kernel) rfl)
theorem mn_X9_206 : jMN RX9 206 yX3_placeFor := Or.inl (tb_in 788 (by decide +kernel) rfl)
theorem mn_X9_209 : jMN RX9 209 yX3_numberAt := Or.inl (tb_in 789 (by decide +kernel) rfl)
theorem mn_X9_212 : jMN RX9 212 yX3_placeToDrop := Or.inl (tb_in 794 (by decide +kernel) rfl)
theorem mn_X9_237 : jMN RX9 237 yX4_classWith := Or.inl (tb_in 803 (by decide +kernel) rfl)
theorem mn_X9_241 : jMN RX9 241 yX4_bestWay := Or.inl (tb_in 808 (by decide +kernel) rfl)
theorem mn_X9_254 : jMN RX9 254 yX9_cost := Or.inl (tb_in 813 (by decide +kernel) rfl)
theorem mn_X9_258 : jMN RX9 258 yX0_popInto := Or.inl (tb_in 818 (by decide +kernel) rfl)
theorem mn_X9_262 : jMN RX9 262 yX8_append := Or.inl (tb_in 826 (by decide +kernel) rfl)
theorem mn_X9_265 : jMN RX9 265 yX8_empty := Or.inl (tb_in 834 (by decide +kernel) rfl)
theorem mn_X9_268 : jMN RX9 268 yX8_reasonAt := Or.inl (tb_in 842 (by decide +kernel) rfl)
theorem mn_X9_271 : jMN RX9 271 yX0_push := Or.inl (tb_in 329 (by decide +kernel) rfl)
theorem mn_X9_274 : jMN RX9 274 yX5_takes := Or.inl (tb_in 640 (by decide +kernel) rfl)
theorem mn_X9_278 : jMN RX9 278 yX6_weightWhere := Or.inl (tb_in 717 (by decide +kernel) rfl)
theorem mn_X0_17 : jMN RX0 17 yX4_init := Or.inl (tb_in 278 (by decide +kernel) rfl)
theorem mn_X0_22 : jMN RX0 22 yX0_forgetOldest := Or.inl (tb_in 333 (by decide +kernel) rfl)
theorem mn_X0_25 : jMN RX0 25 yX4_takeFrom := Or.inl (tb_in 337 (by decide +kernel) rfl)
theorem mn_X1_23 : jMN RX1 23 yX9_copy := Or.inr ⟨"PlanShelves", nw_in 379 (by decide +kernel) rfl⟩
theorem mn_X3_17 : jMN RX3 17 yX2_init := Or.inr ⟨"PlanShelves", nw_in 104 (by decide +kernel) rfl⟩
theorem mn_X3_26 : jMN RX3 26 yX3_planAt := Or.inl (tb_in 367 (by decide +kernel) rfl)
theorem mn_X3_43 : jMN RX3 43 yX3_droppedAheadOf := Or.inl (tb_in 688 (by decide +kernel) rfl)
theorem mn_X3_47 : jMN RX3 47 yX2_dropsAheadOf := Or.inl (tb_in 692 (by decide +kernel) rfl)
theorem mn_X3_51 : jMN RX3 51 yX3_placeToDrop := Or.inl (tb_in 684 (by decide +kernel) rfl)
theorem mn_X3_55 : jMN RX3 55 yX3_numberAt := Or.inl (tb_in 696 (by decide +kernel) rfl)
theorem mn_X3_58 : jMN RX3 58 yX3_remove := Or.inl (tb_in 449 (by decide +kernel) rfl)
theorem mn_X3_65 : jMN RX3 65 yX2_begin := Or.inl (tb_in 704 (by decide +kernel) rfl)
theorem mn_X3_75 : jMN RX3 75 yX2_takeFrom := Or.inl (tb_in 371 (by decide +kernel) rfl)
theorem mn_X4_11 : jMN RX4 11 yX7_init := Or.inr ⟨"PlanShelves", nw_in 34 (by decide +kernel) rfl⟩
theorem mn_X4_20 : jMN RX4 20 yX6_init := Or.inr ⟨"PlanShelves", nw_in 69 (by decide +kernel) rfl⟩
theorem mn_X4_31 : jMN RX4 31 yX5_init := Or.inr ⟨"PlanShelves", nw_in 73 (by decide +kernel) rfl⟩
theorem mn_X4_38 : jMN RX4 38 yX3_init := Or.inl (tb_in 97 (by decide +kernel) rfl)
theorem mn_X4_45 : jMN RX4 45 yX1_init := Or.inr ⟨"PlanShelves", nw_in 173 (by decide +kernel) rfl⟩
theorem mn_X4_61 : jMN RX4 61 yX3_planAt := Or.inl (tb_in 439 (by decide +kernel) rfl)
theorem mn_X4_73 : jMN RX4 73 yX4_statementAt := Or.inl (tb_in 354 (by decide +kernel) rfl)
theorem mn_X4_77 : jMN RX4 77 yX5_columnAt := Or.inl (tb_in 440 (by decide +kernel) rfl)
theorem mn_X4_81 : jMN RX4 81 yX3_throwAway := Or.inl (tb_in 445 (by decide +kernel) rfl)
theorem mn_X4_85 : jMN RX4 85 yX9_at := Or.inr ⟨"PlanShelves", nw_in 655 (by decide +kernel) rfl⟩
theorem mn_X4_92 : jMN RX4 92 yX5_isOf := Or.inl (tb_in 582 (by decide +kernel) rfl)
theorem mn_X4_96 : jMN RX4 96 yX5_readFrom := Or.inl (tb_in 607 (by decide +kernel) rfl)
theorem mn_X4_103 : jMN RX4 103 yX5_operatorAt := Or.inl (tb_in 654 (by decide +kernel) rfl)
theorem mn_X4_106 : jMN RX4 106 yX6_weightWhere := Or.inl (tb_in 656 (by decide +kernel) rfl)
theorem mn_X4_113 : jMN RX4 113 yX4_classOfShare := Or.inl (tb_in 664 (by decide +kernel) rfl)
theorem mn_X4_116 : jMN RX4 116 yX4_isIndexed := Or.inl (tb_in 712 (by decide +kernel) rfl)
theorem mn_X4_120 : jMN RX4 120 yX9_cost := Or.inr ⟨"PlanShelves", nw_in 713 (by decide +kernel) rfl⟩
theorem mn_X4_128 : jMN RX4 128 yX4_classWith := Or.inl (tb_in 650 (by decide +kernel) rfl)
theorem mn_X4_132 : jMN RX4 132 yX1_begin := Or.inl (tb_in 668 (by decide +kernel) rfl)
theorem mn_X4_136 : jMN RX4 136 yX4_planForLastRun := Or.inl (tb_in 672 (by decide +kernel) rfl)
theorem mn_X4_140 : jMN RX4 140 yX4_use := Or.inl (tb_in 718 (by decide +kernel) rfl)
theorem mn_X4_144 : jMN RX4 144 yX7_weightWhere := Or.inl (tb_in 730 (by decide +kernel) rfl)
theorem mn_X4_150 : jMN RX4 150 yX3_placeFor := Or.inl (tb_in 676 (by decide +kernel) rfl)
theorem mn_X4_160 : jMN RX4 160 yX3_makeRoom := Or.inl (tb_in 680 (by decide +kernel) rfl)
theorem mn_X4_166 : jMN RX4 166 yX3_newPlan := Or.inl (tb_in 700 (by decide +kernel) rfl)
theorem mn_X4_170 : jMN RX4 170 yX4_bestWay := Or.inl (tb_in 708 (by decide +kernel) rfl)
theorem mn_X4_200 : jMN RX4 200 yX4_surprise := Or.inl (tb_in 722 (by decide +kernel) rfl)
theorem mn_X4_207 : jMN RX4 207 yX3_placeOf := Or.inl (tb_in 726 (by decide +kernel) rfl)
theorem mn_X4_210 : jMN RX4 210 yX7_takeFrom := Or.inl (tb_in 341 (by decide +kernel) rfl)
theorem mn_X4_214 : jMN RX4 214 yX6_takeFrom := Or.inl (tb_in 353 (by decide +kernel) rfl)
theorem mn_X4_217 : jMN RX4 217 yX5_takeFrom := Or.inl (tb_in 358 (by decide +kernel) rfl)
theorem mn_X4_220 : jMN RX4 220 yX3_takeFrom := Or.inl (tb_in 363 (by decide +kernel) rfl)
theorem mn_X4_223 : jMN RX4 223 yX1_takeFrom := Or.inl (tb_in 375 (by decide +kernel) rfl)
theorem mn_X4_226 : jMN RX4 226 yX9_copy := Or.inr ⟨"PlanShelves", nw_in 380 (by decide +kernel) rfl⟩
theorem mn_X5_22 : jMN RX5 22 yX9_at := Or.inr ⟨"PlanShelves", nw_in 444 (by decide +kernel) rfl⟩
theorem mn_X5_26 : jMN RX5 26 yX5_hasCondition := Or.inl (tb_in 644 (by decide +kernel) rfl)
theorem mn_X5_30 : jMN RX5 30 yX9_isValue := Or.inr ⟨"PlanShelves", nw_in 645 (by decide +kernel) rfl⟩
theorem mn_X5_33 : jMN RX5 33 yX8_conditions := Or.inl (tb_in 586 (by decide +kernel) rfl)
theorem mn_X5_38 : jMN RX5 38 yX5_columnAt := Or.inl (tb_in 590 (by decide +kernel) rfl)
theorem mn_X5_42 : jMN RX5 42 yX8_columnOf := Or.inl (tb_in 591 (by decide +kernel) rfl)
theorem mn_X5_45 : jMN RX5 45 yX5_operatorAt := Or.inl (tb_in 595 (by decide +kernel) rfl)
theorem mn_X5_48 : jMN RX5 48 yX8_operatorOf := Or.inl (tb_in 599 (by decide +kernel) rfl)
theorem mn_X5_60 : jMN RX5 60 yX9_copy := Or.inr ⟨"PlanShelves", nw_in 362 (by decide +kernel) rfl⟩
theorem mn_X6_15 : jMN RX6 15 yX9_holds := Or.inr ⟨"PlanShelves", nw_in 660 (by decide +kernel) rfl⟩
theorem mn_X6_19 : jMN RX6 19 yX6_weightOf := Or.inl (tb_in 663 (by decide +kernel) rfl)
theorem mn_X6_23 : jMN RX6 23 yX9_copy := Or.inr ⟨"PlanShelves", nw_in 352 (by decide +kernel) rfl⟩
theorem mn_X7_17 : jMN RX7 17 yX6_init := Or.inr ⟨"PlanShelves", nw_in 40 (by decide +kernel) rfl⟩
theorem mn_X7_26 : jMN RX7 26 yX9_at := Or.inr ⟨"PlanShelves", nw_in 389 (by decide +kernel) rfl⟩
theorem mn_X7_30 : jMN RX7 30 yX7_put := Or.inl (tb_in 392 (by decide +kernel) rfl)
theorem mn_X7_34 : jMN RX7 34 yX7_addToSums := Or.inl (tb_in 396 (by decide +kernel) rfl)
theorem mn_X7_38 : jMN RX7 38 yX7_cellAt := Or.inl (tb_in 400 (by decide +kernel) rfl)
theorem mn_X7_42 : jMN RX7 42 yX7_fits := Or.inl (tb_in 734 (by decide +kernel) rfl)
theorem mn_X7_51 : jMN RX7 51 yX5_columnAt := Or.inl (tb_in 738 (by decide +kernel) rfl)
theorem mn_X7_55 : jMN RX7 55 yX5_operatorAt := Or.inl (tb_in 739 (by decide +kernel) rfl)
theorem mn_X7_58 : jMN RX7 58 yX9_holds := Or.inr ⟨"PlanShelves", nw_in 740 (by decide +kernel) rfl⟩
theorem mn_X7_62 : jMN RX7 62 yX6_add := Or.inl (tb_in 404 (by decide +kernel) rfl)
theorem mn_X7_68 : jMN RX7 68 yX9_copy := Or.inr ⟨"PlanShelves", nw_in 345 (by decide +kernel) rfl⟩
theorem mn_X7_72 : jMN RX7 72 yX6_takeFrom := Or.inl (tb_in 348 (by decide +kernel) rfl)
theorem mn_X8_19 : jMN RX8 19 yX8_canStandAt := Or.inl (tb_in 479 (by decide +kernel) rfl)
theorem mn_X8_23 : jMN RX8 23 yX8_isBehindLastCondition := Or.inl (tb_in 574 (by decide +kernel) rfl)
theorem mn_X8_26 : jMN RX8 26 yX8_characterAt := Or.inl (tb_in 483 (by decide +kernel) rfl)
theorem mn_L_9 : jMN "PlanShelvesLaw" 9 yX9_init := Or.inl (tb_in 20 (by decide +kernel) rfl)
theorem mn_L_12 : jMN "PlanShelvesLaw" 12 yX10_init := Or.inl (tb_in 848 (by decide +kernel) rfl)
theorem mn_L_13 : jMN "PlanShelvesLaw" 13 yX9_row := Or.inl (tb_in 315 (by decide +kernel) rfl)
theorem mn_L_17 : jMN "PlanShelvesLaw" 17 yX10_row := Or.inl (tb_in 877 (by decide +kernel) rfl)
theorem mn_L_18 : jMN "PlanShelvesLaw" 18 yX9_dropRow := Or.inl (tb_in 408 (by decide +kernel) rfl)
theorem mn_L_22 : jMN "PlanShelvesLaw" 22 yX10_dropRow := Or.inl (tb_in 891 (by decide +kernel) rfl)
theorem mn_L_23 : jMN "PlanShelvesLaw" 23 yX9_index := Or.inl (tb_in 420 (by decide +kernel) rfl)
theorem mn_L_27 : jMN "PlanShelvesLaw" 27 yX10_index := Or.inl (tb_in 903 (by decide +kernel) rfl)
theorem mn_L_28 : jMN "PlanShelvesLaw" 28 yX9_analyse := Or.inl (tb_in 453 (by decide +kernel) rfl)
theorem mn_L_32 : jMN "PlanShelvesLaw" 32 yX10_analyse := Or.inl (tb_in 923 (by decide +kernel) rfl)
theorem mn_L_33 : jMN "PlanShelvesLaw" 33 yX9_rowOf := Or.inl (tb_in 458 (by decide +kernel) rfl)
theorem mn_L_36 : jMN "PlanShelvesLaw" 36 yX10_rowOf := Or.inl (tb_in 931 (by decide +kernel) rfl)
theorem mn_L_37 : jMN "PlanShelvesLaw" 37 yX9_known := Or.inl (tb_in 463 (by decide +kernel) rfl)
theorem mn_L_40 : jMN "PlanShelvesLaw" 40 yX10_known := Or.inl (tb_in 935 (by decide +kernel) rfl)
theorem mn_L_41 : jMN "PlanShelvesLaw" 41 yX9_statement := Or.inl (tb_in 471 (by decide +kernel) rfl)
theorem mn_L_44 : jMN "PlanShelvesLaw" 44 yX10_statement := Or.inl (tb_in 939 (by decide +kernel) rfl)
theorem mn_L_45 : jMN "PlanShelvesLaw" 45 yX9_statementOf := Or.inl (tb_in 613 (by decide +kernel) rfl)
theorem mn_L_48 : jMN "PlanShelvesLaw" 48 yX10_statementOf := Or.inl (tb_in 963 (by decide +kernel) rfl)
theorem mn_L_49 : jMN "PlanShelvesLaw" 49 yX9_run := Or.inl (tb_in 632 (by decide +kernel) rfl)
theorem mn_L_52 : jMN "PlanShelvesLaw" 52 yX10_run := Or.inl (tb_in 975 (by decide +kernel) rfl)
theorem mn_L_53 : jMN "PlanShelvesLaw" 53 yX9_latest := Or.inl (tb_in 741 (by decide +kernel) rfl)
theorem mn_L_56 : jMN "PlanShelvesLaw" 56 yX10_latest := Or.inl (tb_in 1031 (by decide +kernel) rfl)
theorem mn_L_57 : jMN "PlanShelvesLaw" 57 yX9_pin := Or.inl (tb_in 749 (by decide +kernel) rfl)
theorem mn_L_60 : jMN "PlanShelvesLaw" 60 yX10_pin := Or.inl (tb_in 1035 (by decide +kernel) rfl)
theorem mn_L_61 : jMN "PlanShelvesLaw" 61 yX9_drop := Or.inl (tb_in 759 (by decide +kernel) rfl)
theorem mn_L_64 : jMN "PlanShelvesLaw" 64 yX10_drop := Or.inl (tb_in 1047 (by decide +kernel) rfl)
theorem mn_L_65 : jMN "PlanShelvesLaw" 65 yX9_set := Or.inl (tb_in 764 (by decide +kernel) rfl)
theorem mn_L_68 : jMN "PlanShelvesLaw" 68 yX10_set := Or.inl (tb_in 1051 (by decide +kernel) rfl)
theorem mn_L_69 : jMN "PlanShelvesLaw" 69 yX9_planOf := Or.inl (tb_in 776 (by decide +kernel) rfl)
theorem mn_L_72 : jMN "PlanShelvesLaw" 72 yX10_planOf := Or.inl (tb_in 1055 (by decide +kernel) rfl)
theorem mn_L_73 : jMN "PlanShelvesLaw" 73 yX9_planFor := Or.inl (tb_in 784 (by decide +kernel) rfl)
theorem mn_L_76 : jMN "PlanShelvesLaw" 76 yX10_planFor := Or.inl (tb_in 1059 (by decide +kernel) rfl)
theorem mn_L_77 : jMN "PlanShelvesLaw" 77 yX9_dropsNext := Or.inl (tb_in 790 (by decide +kernel) rfl)
theorem mn_L_80 : jMN "PlanShelvesLaw" 80 yX10_dropsNext := Or.inl (tb_in 1063 (by decide +kernel) rfl)
theorem mn_L_81 : jMN "PlanShelvesLaw" 81 yX9_count := Or.inl (tb_in 795 (by decide +kernel) rfl)
theorem mn_L_84 : jMN "PlanShelvesLaw" 84 yX10_count := Or.inl (tb_in 1067 (by decide +kernel) rfl)
theorem mn_L_85 : jMN "PlanShelvesLaw" 85 yX9_classOf := Or.inl (tb_in 799 (by decide +kernel) rfl)
theorem mn_L_88 : jMN "PlanShelvesLaw" 88 yX10_classOf := Or.inl (tb_in 1071 (by decide +kernel) rfl)
theorem mn_L_89 : jMN "PlanShelvesLaw" 89 yX9_way := Or.inl (tb_in 804 (by decide +kernel) rfl)
theorem mn_L_92 : jMN "PlanShelvesLaw" 92 yX10_way := Or.inl (tb_in 1075 (by decide +kernel) rfl)
theorem mn_L_93 : jMN "PlanShelvesLaw" 93 yX9_bestCost := Or.inl (tb_in 809 (by decide +kernel) rfl)
theorem mn_L_96 : jMN "PlanShelvesLaw" 96 yX10_bestCost := Or.inl (tb_in 1079 (by decide +kernel) rfl)
theorem mn_L_97 : jMN "PlanShelvesLaw" 97 yX9_undo := Or.inl (tb_in 814 (by decide +kernel) rfl)
theorem mn_L_100 : jMN "PlanShelvesLaw" 100 yX10_undo := Or.inl (tb_in 1083 (by decide +kernel) rfl)
theorem mn_L_101 : jMN "PlanShelvesLaw" 101 yX9_type := Or.inl (tb_in 822 (by decide +kernel) rfl)
theorem mn_L_104 : jMN "PlanShelvesLaw" 104 yX10_type := Or.inl (tb_in 1087 (by decide +kernel) rfl)
theorem mn_L_105 : jMN "PlanShelvesLaw" 105 yX9_clearText := Or.inl (tb_in 830 (by decide +kernel) rfl)
theorem mn_L_108 : jMN "PlanShelvesLaw" 108 yX10_clearText := Or.inl (tb_in 1091 (by decide +kernel) rfl)
theorem mn_L_109 : jMN "PlanShelvesLaw" 109 yX9_fault := Or.inl (tb_in 838 (by decide +kernel) rfl)
theorem mn_L_112 : jMN "PlanShelvesLaw" 112 yX10_fault := Or.inl (tb_in 1095 (by decide +kernel) rfl)
theorem mn_X10_26 : jMN RX10 26 yX10_in := Or.inl (tb_in 884 (by decide +kernel) rfl)
theorem mn_X10_30 : jMN RX10 30 yX10_isValue := Or.inl (tb_in 881 (by decide +kernel) rfl)
theorem mn_X10_34 : jMN RX10 34 yX10_changes := Or.inl (tb_in 887 (by decide +kernel) rfl)
theorem mn_X10_37 : jMN RX10 37 yX10_isRow := Or.inl (tb_in 895 (by decide +kernel) rfl)
theorem mn_X10_40 : jMN RX10 40 yX10_ofRow := Or.inl (tb_in 899 (by decide +kernel) rfl)
theorem mn_X10_44 : jMN RX10 44 yX10_hasIndex := Or.inl (tb_in 907 (by decide +kernel) rfl)
theorem mn_X10_47 : jMN RX10 47 yX10_ofPlan := Or.inl (tb_in 911 (by decide +kernel) rfl)
theorem mn_X10_50 : jMN RX10 50 yX10_columnOf := Or.inl (tb_in 915 (by decide +kernel) rfl)
theorem mn_X10_53 : jMN RX10 53 yX10_takesOut := Or.inl (tb_in 919 (by decide +kernel) rfl)
theorem mn_X10_57 : jMN RX10 57 yX10_size := Or.inl (tb_in 927 (by decide +kernel) rfl)
theorem mn_X10_70 : jMN RX10 70 yX10_conditions := Or.inl (tb_in 951 (by decide +kernel) rfl)
theorem mn_X10_74 : jMN RX10 74 yX10_meant := Or.inl (tb_in 955 (by decide +kernel) rfl)
theorem mn_X10_78 : jMN RX10 78 yX10_operatorOf := Or.inl (tb_in 959 (by decide +kernel) rfl)
theorem mn_X10_81 : jMN RX10 81 yX10_isRight := Or.inl (tb_in 943 (by decide +kernel) rfl)
theorem mn_X10_85 : jMN RX10 85 yX10_isText := Or.inl (tb_in 947 (by decide +kernel) rfl)
theorem mn_X10_88 : jMN RX10 88 yX10_isStatement := Or.inl (tb_in 967 (by decide +kernel) rfl)
theorem mn_X10_91 : jMN RX10 91 yX10_plansOf := Or.inl (tb_in 971 (by decide +kernel) rfl)
theorem mn_X10_94 : jMN RX10 94 yX10_holds := Or.inl (tb_in 995 (by decide +kernel) rfl)
theorem mn_X10_97 : jMN RX10 97 yX10_weights := Or.inl (tb_in 991 (by decide +kernel) rfl)
theorem mn_X10_101 : jMN RX10 101 yX10_cost := Or.inl (tb_in 1007 (by decide +kernel) rfl)
theorem mn_X10_104 : jMN RX10 104 yX10_isAhead := Or.inl (tb_in 1019 (by decide +kernel) rfl)
theorem mn_X10_108 : jMN RX10 108 yX10_dropsAt := Or.inl (tb_in 1015 (by decide +kernel) rfl)
theorem mn_X10_111 : jMN RX10 111 yX10_ownClass := Or.inl (tb_in 987 (by decide +kernel) rfl)
theorem mn_X10_114 : jMN RX10 114 yX10_placeFor := Or.inl (tb_in 999 (by decide +kernel) rfl)
theorem mn_X10_117 : jMN RX10 117 yX10_bestWay := Or.inl (tb_in 1003 (by decide +kernel) rfl)
theorem mn_X10_120 : jMN RX10 120 yX10_clears := Or.inl (tb_in 1011 (by decide +kernel) rfl)
theorem mn_X10_123 : jMN RX10 123 yX10_keeps := Or.inl (tb_in 1023 (by decide +kernel) rfl)
theorem mn_X10_127 : jMN RX10 127 yX10_tells := Or.inl (tb_in 1027 (by decide +kernel) rfl)
theorem mn_X10_131 : jMN RX10 131 yX10_takes := Or.inl (tb_in 979 (by decide +kernel) rfl)
theorem mn_X10_135 : jMN RX10 135 yX10_goes := Or.inl (tb_in 983 (by decide +kernel) rfl)
theorem mn_X10_138 : jMN RX10 138 yX10_placeOf := Or.inl (tb_in 1039 (by decide +kernel) rfl)
theorem mn_X10_141 : jMN RX10 141 yX10_pinned := Or.inl (tb_in 1043 (by decide +kernel) rfl)
theorem cw_L_7 : Cond.classLink "PlanShelvesLaw" 7 RX9 ∈ TBL := tb_in 18 (by decide +kernel) rfl
theorem cw_X9_7 : Cond.classLink RX9 7 RX4 ∈ TBL := tb_in 26 (by decide +kernel) rfl
theorem cw_X4_9 : Cond.classLink RX4 9 RX7 ∈ TBL := tb_in 32 (by decide +kernel) rfl
theorem cw_X7_15 : Cond.classLink RX7 15 RX6 ∈ TBL := tb_in 38 (by decide +kernel) rfl
theorem cw_X4_18 : Cond.classLink RX4 18 RX6 ∈ TBL := tb_in 68 (by decide +kernel) rfl
theorem cw_X4_25 : Cond.classLink RX4 25 RX5 ∈ TBL := tb_in 70 (by decide +kernel) rfl
theorem cw_X4_36 : Cond.classLink RX4 36 RX3 ∈ TBL := tb_in 95 (by decide +kernel) rfl
theorem cw_X3_9 : Cond.classLink RX3 9 RX2 ∈ TBL := tb_in 101 (by decide +kernel) rfl
theorem cw_X4_43 : Cond.classLink RX4 43 RX1 ∈ TBL := tb_in 171 (by decide +kernel) rfl
theorem cw_X9_16 : Cond.classLink RX9 16 RX0 ∈ TBL := tb_in 270 (by decide +kernel) rfl
theorem cw_X0_9 : Cond.classLink RX0 9 RX4 ∈ TBL := tb_in 276 (by decide +kernel) rfl
theorem cw_X9_23 : Cond.classLink RX9 23 RX8 ∈ TBL := tb_in 287 (by decide +kernel) rfl
theorem cw_L_10 : Cond.classLink "PlanShelvesLaw" 10 RX10 ∈ TBL := tb_in 846 (by decide +kernel) rfl
theorem oi_im : Cond.instanceMethod objectInit ∈ TBL := tb_in 24 (by decide +kernel) rfl
theorem oi_c : Cond.code objectInit ⟨#[0xb1]⟩ 1 none ∈ TBL := tb_in 25 (by decide +kernel) rfl
theorem oi_X9_1 : Cond.methodLink RX9 1 objectInit ∈ TBL := tb_in 23 (by decide +kernel) rfl
theorem oi_X4_3 : Cond.methodLink RX4 3 objectInit ∈ TBL := tb_in 31 (by decide +kernel) rfl
theorem oi_X7_3 : Cond.methodLink RX7 3 objectInit ∈ TBL := tb_in 37 (by decide +kernel) rfl
theorem oi_X6_3 : Cond.methodLink RX6 3 objectInit ∈ TBL := tb_in 43 (by decide +kernel) rfl
theorem oi_X5_3 : Cond.methodLink RX5 3 objectInit ∈ TBL := tb_in 76 (by decide +kernel) rfl
theorem oi_X3_3 : Cond.methodLink RX3 3 objectInit ∈ TBL := tb_in 100 (by decide +kernel) rfl
theorem oi_X2_3 : Cond.methodLink RX2 3 objectInit ∈ TBL := tb_in 107 (by decide +kernel) rfl
theorem oi_X1_3 : Cond.methodLink RX1 3 objectInit ∈ TBL := tb_in 176 (by decide +kernel) rfl
theorem oi_X0_3 : Cond.methodLink RX0 3 objectInit ∈ TBL := tb_in 275 (by decide +kernel) rfl
theorem oi_X8_3 : Cond.methodLink RX8 3 objectInit ∈ TBL := tb_in 292 (by decide +kernel) rfl
theorem oi_X10_1 : Cond.methodLink RX10 1 objectInit ∈ TBL := tb_in 851 (by decide +kernel) rfl
-- 54 (Jvm.Cond.arrayClass Jvm.ClassFile.FieldType.int)
-- 71 (Jvm.Cond.arrayOver (Jvm.ClassFile.FieldType.object "PlanShelves$Statement"))
-- 102 (Jvm.Cond.arrayOver (Jvm.ClassFile.FieldType.object "PlanShelves$Plan"))
-- 277 (Jvm.Cond.arrayOver (Jvm.ClassFile.FieldType.object "PlanShelves$State"))
-- 301 (Jvm.Cond.arrayClass Jvm.ClassFile.FieldType.char)
-- 487 (Jvm.Cond.stringRef "PlanShelves$Text" (30 : Nat) "=<>")
-- 501 (Jvm.Cond.laysStatic "java/lang/String" "COMPACT_STRINGS" "Z")
-- 530 (Jvm.Cond.constant "java/lang/StringUTF16" (227 : Nat) (65536 : Int32))
-- 544 (Jvm.Cond.laysStatic "jdk/internal/util/Preconditions" "SIOOBE_FORMATTER" "Ljava/util/function/BiFunction;")
-- 555 (Jvm.Cond.laysStatic "java/lang/StringUTF16" "$assertionsDisabled" "Z")
-- 557 (Jvm.Cond.laysStatic "java/lang/StringUTF16" "HI_BYTE_SHIFT" "I")
-- 559 (Jvm.Cond.laysStatic "java/lang/StringUTF16" "LO_BYTE_SHIFT" "I")
-- 569 (Jvm.Cond.constant "java/lang/Character" (110 : Nat) (55232 : Int32))
-- 573 (Jvm.Cond.constant "java/lang/Character" (76 : Nat) (56320 : Int32))
-- 612 (Jvm.Cond.arrayClass Jvm.ClassFile.FieldType.byte)
-- 769 (Jvm.Cond.laysStatic "PlanShelves" "LEAST_SETTING" "[I")
-- 771 (Jvm.Cond.laysStatic "PlanShelves" "MOST_SETTING" "[I")
end
section
abbrev jX : Type := Program × Launch × Env × Room × State × MethodId × Array Value × List Frame × Method × Code × (State → Prop) × Nat
abbrev xp (X : jX) : Program := X.1
abbrev xl (X : jX) : Launch := X.2.1
abbrev xe (X : jX) : Env := X.2.2.1
abbrev xR (X : jX) : Room := X.2.2.2.1
abbrev xs (X : jX) : State := X.2.2.2.2.1
abbrev xm (X : jX) : MethodId := X.2.2.2.2.2.1
abbrev xargs (X : jX) : Array Value := X.2.2.2.2.2.2.1
abbrev xbelow (X : jX) : List Frame := X.2.2.2.2.2.2.2.1
abbrev xmeth (X : jX) : Method := X.2.2.2.2.2.2.2.2.1
abbrev xc (X : jX) : Code := X.2.2.2.2.2.2.2.2.2.1
abbrev xQ (X : jX) : State → Prop := X.2.2.2.2.2.2.2.2.2.2.1
abbrev xn (X : jX) : Nat := X.2.2.2.2.2.2.2.2.2.2.2
/-- the cells that anyone may write -/
abbrev jA (ω : jW) : Nat → Prop := fun q => jlo ω ≤ q
def jW0 (X : jX) (H : Heap) (locs : List Loc) (cells slots : Nat) (g : JFrame) : Prop := W (xp X) (xl X) (xe X) (xR X) (xs X) (xm X) (xargs X) (xbelow X) (xmeth X) (xc X) H locs cells slots (xQ X) g
/-- the judgement: the machine at pc, with these locals and this stack, the pool's ints M and references R, goes to its end -/
def J (X : jX) (ω : jW) (γ : jG) (M : jM) (R : jR) (cells slots pc : Nat) (l : List (Nat × Value)) (st : List Value) : Prop :=
  ∀ (H : Heap) (locs : List Loc) (ls : Array Slot), H.size = jlo ω + jn γ → va_P ω.2.1 vwCl (jpool ω γ M R) H → va_S (jA ω) (xs X).heap H locs → lv_has ls (xn X) l → (∀ q ∈ l, q.2.category = 1) →
    W (xp X) (xl X) (xe X) (xR X) (xs X) (xm X) (xargs X) (xbelow X) (xmeth X) (xc X) H locs cells slots (xQ X) (F0 (xm X) pc ls st)
def jLeast : Nat → Int32
  | 0 => 0
  | 1 => 0
  | _ => 1
def jMost : Nat → Int32
  | 0 => 1000
  | 1 => 1000
  | 2 => 99
  | 3 => 9
  | _ => 8
abbrev jtL (ω : jW) : Nat := ω.2.2.2.1
abbrev jtM (ω : jW) : Nat := ω.2.2.2.2.1
abbrev jsK (ω : jW) : Nat := ω.2.2.2.2.2.1
abbrev jsV (ω : jW) : Nat := ω.2.2.2.2.2.2
/-- what stands below the pool and never changes: two tables, the String "=<>", one static of String's -/
def jXi (ω : jW) (U : State) (H : Heap) : Prop :=
  va_Z "PlanShelves" "LEAST_SETTING" "[I" (.ref (jtL ω)) (jA ω) U H ∧ va_T .int (jtL ω) 5 (fun j => .int (jLeast j)) (jA ω) U H ∧
  va_Z "PlanShelves" "MOST_SETTING" "[I" (.ref (jtM ω)) (jA ω) U H ∧ va_T .int (jtM ω) 5 (fun j => .int (jMost j)) (jA ω) U H ∧
  va_Z "java/lang/String" "COMPACT_STRINGS" "Z" (.int 1) (jA ω) U H ∧
  vk_S 1 [3] [[61, 60, 62]] (fun _ => jsK ω) (fun _ => jsV ω) (jA ω) U H ∧ vk_R "PlanShelves$Text" 30 "=<>" (jsK ω) U ∧ va_AO RX2 U ∧ va_AO RX4 U ∧ va_AO RX5 U
theorem jXi_warm {ω : jW} {s U : State} {H : Heap} (hW : s.WarmedH U.vm) (h : jXi ω s H) : jXi ω U H :=
  ⟨va_Z.moved hW.alike h.1, va_T.moved hW.alike h.2.1, va_Z.moved hW.alike h.2.2.1, va_T.moved hW.alike h.2.2.2.1, va_Z.moved hW.alike h.2.2.2.2.1, vk_S.moved hW.alike h.2.2.2.2.2.1, vk_R.warm hW h.2.2.2.2.2.2.1, va_AO.moved hW.alike h.2.2.2.2.2.2.2.1, va_AO.moved hW.alike h.2.2.2.2.2.2.2.2.1, va_AO.moved hW.alike h.2.2.2.2.2.2.2.2.2⟩
theorem jXi_same {ω : jW} {u U : State} {H : Heap} (hv : U.vm = u.vm) (ha : u.vm.Alike U.vm) (h : jXi ω u H) : jXi ω U H :=
  ⟨va_Z.moved ha h.1, va_T.moved ha h.2.1, va_Z.moved ha h.2.2.1, va_T.moved ha h.2.2.2.1, va_Z.moved ha h.2.2.2.2.1, vk_S.moved ha h.2.2.2.2.2.1, vk_R.same hv h.2.2.2.2.2.2.1, va_AO.moved ha h.2.2.2.2.2.2.2.1, va_AO.moved ha h.2.2.2.2.2.2.2.2.1, va_AO.moved ha h.2.2.2.2.2.2.2.2.2⟩
theorem jXi_kept {ω : jW} {U : State} {H H1 : Heap} (hq : ∀ a : Nat, a < H.size → ¬ jA ω a → H1[a]? = H[a]?) (h : jXi ω U H) : jXi ω U H1 :=
  ⟨va_Z.kept h.1 hq, va_T.kept h.2.1 hq, va_Z.kept h.2.2.1 hq, va_T.kept h.2.2.2.1 hq, va_Z.kept h.2.2.2.2.1 hq, vk_S.kept h.2.2.2.2.2.1 hq, h.2.2.2.2.2.2⟩
def jC (X : jX) (ω : jW) (cc : ByteArray) (own : String) (dd mc ms : Nat) : Prop :=
  (xp X).tables.exec = Jvm.exec ∧ (xc X).code = cc ∧ (xc X).maxLocals = xn X ∧ (xs X).vm.findClass own = some (xm X).cls ∧ (∀ w ∈ TBL, w.before (xargs X) (xs X) = true) ∧
  va_K ω.2.1 vwCl (jtys ω) (xs X) ∧ (∀ w ∈ NWL, va_Nw w (xs X)) ∧ jXi ω (xs X) (xs X).heap ∧ jlo ω ≤ (xs X).heap.size ∧ (dd ≤ (xR X).frames ∧ 37 * dd ≤ (xR X).locals ∧ mc ≤ (xR X).cells ∧ ms ≤ (xR X).slots)
section JC
variable {X : jX} {ω : jW} {cc : ByteArray} {own : String} {dd mc ms : Nat}
theorem jC.ex (C : jC X ω cc own dd mc ms) : (xp X).tables.exec = Jvm.exec := C.1
theorem jC.cd (C : jC X ω cc own dd mc ms) : (xc X).code = cc := C.2.1
theorem jC.ml (C : jC X ω cc own dd mc ms) : (xc X).maxLocals = xn X := C.2.2.1
theorem jC.ow (C : jC X ω cc own dd mc ms) : (xs X).vm.findClass own = some (xm X).cls := C.2.2.2.1
theorem jC.ts (C : jC X ω cc own dd mc ms) : ∀ w ∈ TBL, w.before (xargs X) (xs X) = true := C.2.2.2.2.1
theorem jC.kk (C : jC X ω cc own dd mc ms) : va_K ω.2.1 vwCl (jtys ω) (xs X) := C.2.2.2.2.2.1
theorem jC.nw (C : jC X ω cc own dd mc ms) : ∀ w ∈ NWL, va_Nw w (xs X) := C.2.2.2.2.2.2.1
theorem jC.xi (C : jC X ω cc own dd mc ms) : jXi ω (xs X) (xs X).heap := C.2.2.2.2.2.2.2.1
theorem jC.lo (C : jC X ω cc own dd mc ms) : jlo ω ≤ (xs X).heap.size := C.2.2.2.2.2.2.2.2.1
theorem jC.rm (C : jC X ω cc own dd mc ms) : dd ≤ (xR X).frames ∧ 37 * dd ≤ (xR X).locals ∧ mc ≤ (xR X).cells ∧ ms ≤ (xR X).slots := C.2.2.2.2.2.2.2.2.2
theorem jC.fix (C : jC X ω cc own dd mc ms) : CallFix (xp X) (xm X) (xc X) cc (xn X) (xs X) (xargs X) TBL own := ⟨C.ex, C.cd, C.ml, C.ow, C.ts⟩
end JC
def jPre (ω : jW) (γ : jG) (M : jM) (R : jR) (U : State) : Prop :=
  U.heap.size = jlo ω + jn γ ∧ va_P ω.2.1 vwCl (jpool ω γ M R) U.heap ∧ va_K ω.2.1 vwCl (jtys ω) U ∧ (∀ w ∈ NWL, va_Nw w U) ∧ jXi ω U U.heap
abbrev jPost : Type := Option Value → jG → jM → jR → Prop
def jQ (ω : jW) (Post : jPost) : Array Value → State → Outcome → State → Prop := fun _ st oc t =>
  ∃ (v : Option Value) (γ : jG) (M : jM) (R : jR), oc = .returned v ∧ Post v γ M R ∧ t.heap.size = jlo ω + jn γ ∧ va_P ω.2.1 vwCl (jpool ω γ M R) t.heap ∧ va_F (jA ω) st t
abbrev jrm (d mc ms : Nat) : Room := { frames := d, cells := mc, slots := ms, locals := 37 * d }
/-- a contract -/
def Ct (l : Launch) (ω : jW) (y : MethodName) (cc : ByteArray) (maxL : Nat) (ret : Option FieldType) (d mc ms : Nat) (args : List Value) (γ : jG) (M : jM) (R : jR) (Post : jPost) : Prop :=
  Met l y (Cond.code y cc maxL ret :: TBL) (jrm d mc ms) (va_Pc args (jPre ω γ M R)) (jQ ω Post) mc ms (jA ω)
/-- how a method ends -/
def jE (X : jX) (ω : jW) (ret : Option FieldType) (mc ms : Nat) (Post : jPost) : Prop :=
  (xmeth X).sig.returnType = ret ∧ (xmeth X).locks = false ∧ xQ X = MQ (xbelow X) (jQ ω Post) (xargs X) (xs X) mc ms (jA ω)
theorem jPre_blind (args : List Value) (ω : jW) (γ : jG) (M : jM) (R : jR) : FrameBlind (va_Pc args (jPre ω γ M R)) := by
  intro a U g mk q
  obtain ⟨q0, q1, q2, q3, q4, q5⟩ := q
  exact ⟨q0, q1, q2, va_K.moved (u := U) (U := U.calling g mk a) (Vm.Alike.refl U.vm) q3, nw_same (u := U) (U := U.calling g mk a) rfl q4, jXi_same (u := U) (U := U.calling g mk a) rfl (Vm.Alike.refl U.vm) q5⟩
theorem Ct_of {l : Launch} {ω : jW} {y : MethodName} {cc : ByteArray} {maxL : Nat} {ret : Option FieldType} {d mc ms : Nat} {args : List Value} {γ : jG} {M : jM} {R : jR} {Post : jPost} (hy : plainName y.cls = true) (hargs : (lg_sl args).length ≤ maxL) {l0 : List (Nat × Value)} (hl0 : lv_args 0 args = l0) (hcat : ∀ q ∈ l0, q.2.category = 1)
    (body : ∀ X : jX, jC X ω cc y.cls d mc ms → jE X ω ret mc ms Post → (xmeth X).name = y.name → xl X = l → xn X = maxL → J X ω γ M R 0 0 0 l0 []) : Ct l ω y cc maxL ret d mc ms args γ M R Post := by
  refine Met.ofW (cc := cc) (maxL := maxL) (ret := ret) hy rfl ?_
  intro p e s m args' below meth c s₁ B hml hv
  obtain ⟨rfl, hz, hP, hK, hN, hX⟩ := hv
  have hts := atoms_spec (ws := Cond.code y cc maxL ret :: TBL) B.pre
  have hl := lv_entry args (n := maxL) hargs
  rw [hl0] at hl
  have h := body (p, l, e, (headSpec (Cond.code y cc maxL ret :: TBL) (jrm d mc ms)).room, s, m, args.toArray, below, meth, c, MQ below (jQ ω Post) args.toArray s mc ms (jA ω), maxL)
    ⟨B.exec, B.bytes, hml, findClass_of_methodNamed B.named, fun w hw => hts w (List.mem_cons_of_mem _ hw), hK, hN, hX, by rw [hz]; exact Nat.le_add_right _ _, Nat.le_refl _, Nat.le_refl _, Nat.le_refl _, Nat.le_refl _⟩
    ⟨B.returns, B.notSynchronized, rfl⟩ (name_of_methodNamed B.named B.method).1 rfl rfl
  rw [lg_entry_eq]
  exact h s.heap [] _ hz hP va_S.rf hl hcat
section JR
variable {X : jX} {ω : jW} {γ : jG} {M : jM} {R : jR} {cells slots pc : Nat} {l : List (Nat × Value)} {rest : List Value} {cc : ByteArray} {own : String} {dd mc ms : Nat} {Post : jPost}
theorem j_ireturn (C : jC X ω cc own dd mc ms) {ty : FieldType} (E : jE X ω (some ty) mc ms Post) {v : Int32} (hd : decode cc pc = .ok (.ireturn, 1)) (hn : narrow ty (.int v) = .int v) (hc : cells ≤ mc) (hs : slots ≤ ms) (hp : Post (some (.int v)) γ M R) : J X ω γ M R cells slots pc l [.int v] := by
  intro H locs ls hz hP hS hl hg
  refine W.widen hc hs ?_
  rw [E.2.2]
  exact W.zret C.ex C.cd E.1 hn (fun t ht hW => ⟨some (.int v), γ, M, R, rfl, hp, by rw [ht]; exact hz, by rw [ht]; exact hP, hS.F ht⟩) hS.2.2 hd E.2.1
theorem j_areturn (C : jC X ω cc own dd mc ms) {rt : FieldType} (E : jE X ω (some rt) mc ms Post) {a : Nat} (hd : decode cc pc = .ok (.areturn, 1)) (hrt : (∃ n, rt = .object n) ∨ ∃ t, rt = .array t) (hc : cells ≤ mc) (hs : slots ≤ ms) (hp : Post (some (.ref a)) γ M R) : J X ω γ M R cells slots pc l [.ref a] := by
  intro H locs ls hz hP hS hl hg
  refine W.widen hc hs ?_
  rw [E.2.2]
  exact W.aret C.ex C.cd E.1 hrt (Or.inr ⟨a, rfl⟩) (fun t ht hW => ⟨some (.ref a), γ, M, R, rfl, hp, by rw [ht]; exact hz, by rw [ht]; exact hP, hS.F ht⟩) hS.2.2 hd E.2.1
theorem j_return (C : jC X ω cc own dd mc ms) (E : jE X ω none mc ms Post) (hd : decode cc pc = .ok (.return_, 1)) (hc : cells ≤ mc) (hs : slots ≤ ms) (hp : Post none γ M R) : J X ω γ M R cells slots pc l [] := by
  intro H locs ls hz hP hS hl hg
  refine W.widen hc hs ?_
  rw [E.2.2]
  exact W.vret C.ex C.cd E.1 (fun t ht hW => ⟨none, γ, M, R, rfl, hp, by rw [ht]; exact hz, by rw [ht]; exact hP, hS.F ht⟩) hS.2.2 hd E.2.1
end JR
end
section
def jget : List (Nat × Value) → Nat → Option Value
  | [], _ => none
  | q :: r, i => bif Nat.beq q.1 i then some q.2 else jget r i
def jset : List (Nat × Value) → Nat → Value → List (Nat × Value)
  | [], i, v => [(i, v)]
  | q :: r, i, v => bif Nat.beq q.1 i then (i, v) :: r.filter (fun q => !(Nat.beq q.1 i)) else q :: jset r i v
theorem jget_mem : ∀ (l : List (Nat × Value)) (i : Nat) (v : Value), jget l i = some v → (i, v) ∈ l
  | [], _, _, h => by cases h
  | q :: r, i, v, h => by
    unfold jget at h
    cases hb : Nat.beq q.1 i with
    | true =>
      rw [hb] at h
      have e := Nat.eq_of_beq_eq_true hb
      simp only [cond_true, Option.some.injEq] at h
      obtain ⟨q1, q2⟩ := q
      simp only at e h
      subst e; subst h
      exact List.mem_cons_self
    | false =>
      rw [hb] at h
      exact List.mem_cons_of_mem _ (jget_mem r i v h)
theorem jset_mem : ∀ (l : List (Nat × Value)) (i : Nat) (v : Value) (x : Nat × Value), x ∈ jset l i v → x = (i, v) ∨ (x ∈ l ∧ x.1 ≠ i)
  | [], i, v, x, h => by
    left
    simpa [jset] using h
  | q :: r, i, v, x, h => by
    unfold jset at h
    cases hb : Nat.beq q.1 i with
    | true =>
      rw [hb] at h
      simp only [cond_true] at h
      rcases List.mem_cons.mp h with h | h
      · exact Or.inl h
      · obtain ⟨h1, h2⟩ := List.mem_filter.mp h
        refine Or.inr ⟨List.mem_cons_of_mem _ h1, fun e => ?_⟩
        rw [e, Nat.beq_refl] at h2
        cases h2
    | false =>
      rw [hb] at h
      simp only [cond_false] at h
      rcases List.mem_cons.mp h with h | h
      · subst h
        exact Or.inr ⟨List.mem_cons_self, Nat.ne_of_beq_eq_false hb⟩
      · rcases jset_mem r i v x h with h | ⟨h1, h2⟩
        · exact Or.inl h
        · exact Or.inr ⟨List.mem_cons_of_mem _ h1, h2⟩
theorem jset_cat {l : List (Nat × Value)} {i : Nat} {v : Value} (h : ∀ q ∈ l, q.2.category = 1) (hv : v.category = 1) : ∀ q ∈ jset l i v, q.2.category = 1 := by
  intro q hq
  rcases jset_mem l i v q hq with rfl | ⟨h1, -⟩
  · exact hv
  · exact h q h1
theorem jset_has {ls : Array Slot} {n : Nat} {l : List (Nat × Value)} {i : Nat} {v : Value} (hc : ∀ q ∈ l, q.2.category = 1) (h : lv_has ls n ((i, v) :: l.filter (fun q => !(q.1 == i) && !(q.1 + 1 == i && q.2.category == 2)))) : lv_has ls n (jset l i v) := by
  refine ⟨h.1, h.2.1, fun q hq => ?_⟩
  rcases jset_mem l i v q hq with rfl | ⟨h1, h2⟩
  · exact h.2.2 _ List.mem_cons_self
  · refine h.2.2 q (List.mem_cons_of_mem _ (List.mem_filter.mpr ⟨h1, ?_⟩))
    simp [h2, hc q h1]
section JI
variable {X : jX} {ω : jW} {γ : jG} {M : jM} {R : jR} {cells slots pc : Nat} {l : List (Nat × Value)} {rest : List Value} {cc : ByteArray} {own : String} {dd mc ms : Nat}
theorem lv_of {ls : Array Slot} {n i : Nat} {v : Value} (hl : lv_has ls n l) (h : jget l i = some v) : ls[i]? = some (.val v) := hl.2.2 _ (jget_mem l i v h)
theorem j_iconst (C : jC X ω cc own dd mc ms) {n : Int} (v : Int32) (hd : decode cc pc = .ok (.iconst n, 1)) (hv : Int32.ofInt n = v) (k : J X ω γ M R cells slots (pc + 1) l (.int v :: rest)) : J X ω γ M R cells slots pc l rest := by
  intro H locs ls hz hP hS hl hg
  exact lv_iconst C.ex C.cd hd hv (k H locs ls hz hP hS hl hg)
theorem j_bipush (C : jC X ω cc own dd mc ms) {n : Int} (v : Int32) (hd : decode cc pc = .ok (.bipush n, 2)) (hv : (Int8.ofInt n).toInt32 = v) (k : J X ω γ M R cells slots (pc + 2) l (.int v :: rest)) : J X ω γ M R cells slots pc l rest := by
  intro H locs ls hz hP hS hl hg
  exact lv_bipush C.ex C.cd hd hv (k H locs ls hz hP hS hl hg)
theorem j_sipush (C : jC X ω cc own dd mc ms) {n : Int} (v : Int32) (hd : decode cc pc = .ok (.sipush n, 3)) (hv : (Int16.ofInt n).toInt32 = v) (k : J X ω γ M R cells slots (pc + 3) l (.int v :: rest)) : J X ω γ M R cells slots pc l rest := by
  intro H locs ls hz hP hS hl hg
  exact lv_sipush C.ex C.cd hd hv (k H locs ls hz hP hS hl hg)
theorem j_iload_n (C : jC X ω cc own dd mc ms) {i : Fin 4} {x : Int32} (hd : decode cc pc = .ok (.iload_n i, 1)) (hx : jget l i = some (.int x)) (k : J X ω γ M R cells slots (pc + 1) l (.int x :: rest)) : J X ω γ M R cells slots pc l rest := by
  intro H locs ls hz hP hS hl hg
  exact lv_iload_n C.ex C.cd hd rfl (lv_of hl hx) (k H locs ls hz hP hS hl hg)
theorem j_iload (C : jC X ω cc own dd mc ms) {i : Nat} {x : Int32} (hd : decode cc pc = .ok (.iload i, 2)) (hx : jget l i = some (.int x)) (k : J X ω γ M R cells slots (pc + 2) l (.int x :: rest)) : J X ω γ M R cells slots pc l rest := by
  intro H locs ls hz hP hS hl hg
  exact lv_iload C.ex C.cd hd (lv_of hl hx) (k H locs ls hz hP hS hl hg)
theorem j_aload_n (C : jC X ω cc own dd mc ms) {i : Fin 4} {x : Nat} (hd : decode cc pc = .ok (.aload_n i, 1)) (hx : jget l i = some (.ref x)) (k : J X ω γ M R cells slots (pc + 1) l (.ref x :: rest)) : J X ω γ M R cells slots pc l rest := by
  intro H locs ls hz hP hS hl hg
  exact lv_aload_n C.ex C.cd hd rfl (lv_of hl hx) (k H locs ls hz hP hS hl hg)
theorem j_aload (C : jC X ω cc own dd mc ms) {i : Nat} {x : Nat} (hd : decode cc pc = .ok (.aload i, 2)) (hx : jget l i = some (.ref x)) (k : J X ω γ M R cells slots (pc + 2) l (.ref x :: rest)) : J X ω γ M R cells slots pc l rest := by
  intro H locs ls hz hP hS hl hg
  exact lv_aload C.ex C.cd hd (lv_of hl hx) (k H locs ls hz hP hS hl hg)
theorem j_istore_n (C : jC X ω cc own dd mc ms) {i : Fin 4} {x : Int32} (hd : decode cc pc = .ok (.istore_n i, 1)) (hn : (i : Nat) < xn X) (k : J X ω γ M R cells slots (pc + 1) (jset l i (.int x)) rest) : J X ω γ M R cells slots pc l (.int x :: rest) := by
  intro H locs ls hz hP hS hl hg
  exact lv_istore_n C.ex C.cd hd rfl hl hn rfl (fun ls' h' => k H locs ls' hz hP hS (jset_has hg h') (jset_cat hg rfl))
theorem j_istore (C : jC X ω cc own dd mc ms) {i : Nat} {x : Int32} (hd : decode cc pc = .ok (.istore i, 2)) (hn : i < xn X) (k : J X ω γ M R cells slots (pc + 2) (jset l i (.int x)) rest) : J X ω γ M R cells slots pc l (.int x :: rest) := by
  intro H locs ls hz hP hS hl hg
  exact lv_istore C.ex C.cd hd hl hn rfl (fun ls' h' => k H locs ls' hz hP hS (jset_has hg h') (jset_cat hg rfl))
theorem j_astore_n (C : jC X ω cc own dd mc ms) {i : Fin 4} {x : Nat} (hd : decode cc pc = .ok (.astore_n i, 1)) (hn : (i : Nat) < xn X) (k : J X ω γ M R cells slots (pc + 1) (jset l i (.ref x)) rest) : J X ω γ M R cells slots pc l (.ref x :: rest) := by
  intro H locs ls hz hP hS hl hg
  exact lv_astore_n C.ex C.cd hd rfl hl hn rfl (fun ls' h' => k H locs ls' hz hP hS (jset_has hg h') (jset_cat hg rfl))
theorem j_astore (C : jC X ω cc own dd mc ms) {i : Nat} {x : Nat} (hd : decode cc pc = .ok (.astore i, 2)) (hn : i < xn X) (k : J X ω γ M R cells slots (pc + 2) (jset l i (.ref x)) rest) : J X ω γ M R cells slots pc l (.ref x :: rest) := by
  intro H locs ls hz hP hS hl hg
  exact lv_astore C.ex C.cd hd hl hn rfl (fun ls' h' => k H locs ls' hz hP hS (jset_has hg h') (jset_cat hg rfl))
theorem j_iinc (C : jC X ω cc own dd mc ms) {i : Nat} {n : Int} {x : Int32} (v : Int32) (hd : decode cc pc = .ok (.iinc i n, 3)) (hx : jget l i = some (.int x)) (hv : x + Int32.ofInt n = v) (hn : i < xn X) (k : J X ω γ M R cells slots (pc + 3) (jset l i (.int v)) rest) : J X ω γ M R cells slots pc l rest := by
  intro H locs ls hz hP hS hl hg
  obtain ⟨kk, hk⟩ := List.getElem?_of_mem (jget_mem l i _ hx)
  exact lv_iinc C.ex C.cd hd hl hk hv hn rfl (fun ls' h' => k H locs ls' hz hP hS (jset_has hg h') (jset_cat hg rfl))
/-- other words for what is on top -/
theorem j_top {x : Int32} (y : Int32) (h : x = y) (k : J X ω γ M R cells slots pc l (.int y :: rest)) : J X ω γ M R cells slots pc l (.int x :: rest) := h ▸ k
/-- fewer locals, by their places -/
theorem j_locs (ks : List Nat) {l' : List (Nat × Value)} (h : lv_pick l ks = l') (k : J X ω γ M R cells slots pc l' rest) : J X ω γ M R cells slots pc l rest := by
  intro H locs ls hz hP hS hl hg
  refine k H locs ls hz hP hS (lv_sub hl ks h) (fun q hq => ?_)
  subst h
  obtain ⟨i, -, hi⟩ := List.mem_filterMap.mp hq
  exact hg q (List.mem_of_getElem? hi)
theorem j_iadd (C : jC X ω cc own dd mc ms) {x y : Int32} (hd : decode cc pc = .ok (.iadd, 1)) (k : J X ω γ M R cells slots (pc + 1) l (.int (x + y) :: rest)) : J X ω γ M R cells slots pc l (.int y :: .int x :: rest) := by
  intro H locs ls hz hP hS hl hg
  exact lv_iadd C.ex C.cd hd (k H locs ls hz hP hS hl hg)
theorem j_iaddN (C : jC X ω cc own dd mc ms) {x y : Nat} (hd : decode cc pc = .ok (.iadd, 1)) (k : J X ω γ M R cells slots (pc + 1) l (.int (nI (x + y)) :: rest)) : J X ω γ M R cells slots pc l (.int (nI y) :: .int (nI x) :: rest) :=
  j_iadd C hd (by rw [nI_add]; exact k)
theorem j_isub (C : jC X ω cc own dd mc ms) {x y : Int32} (hd : decode cc pc = .ok (.isub, 1)) (k : J X ω γ M R cells slots (pc + 1) l (.int (x - y) :: rest)) : J X ω γ M R cells slots pc l (.int y :: .int x :: rest) := by
  intro H locs ls hz hP hS hl hg
  exact lv_isub C.ex C.cd hd (k H locs ls hz hP hS hl hg)
theorem j_isubN (C : jC X ω cc own dd mc ms) {x y : Nat} (hd : decode cc pc = .ok (.isub, 1)) (h : y ≤ x) (k : J X ω γ M R cells slots (pc + 1) l (.int (nI (x - y)) :: rest)) : J X ω γ M R cells slots pc l (.int (nI y) :: .int (nI x) :: rest) :=
  j_isub C hd (by rw [pk_sub h]; exact k)
theorem j_imul (C : jC X ω cc own dd mc ms) {x y : Int32} (hd : decode cc pc = .ok (.imul, 1)) (k : J X ω γ M R cells slots (pc + 1) l (.int (x * y) :: rest)) : J X ω γ M R cells slots pc l (.int y :: .int x :: rest) := by
  intro H locs ls hz hP hS hl hg
  exact lv_imul C.ex C.cd hd (k H locs ls hz hP hS hl hg)
theorem j_imulN (C : jC X ω cc own dd mc ms) {x y : Nat} (hd : decode cc pc = .ok (.imul, 1)) (k : J X ω γ M R cells slots (pc + 1) l (.int (nI (x * y)) :: rest)) : J X ω γ M R cells slots pc l (.int (nI y) :: .int (nI x) :: rest) :=
  j_imul C hd (by rw [pk_mul]; exact k)
theorem j_idiv (C : jC X ω cc own dd mc ms) {x y : Int32} (hd : decode cc pc = .ok (.idiv, 1)) (hne : ¬ y = 0) (k : J X ω γ M R cells slots (pc + 1) l (.int (x / y) :: rest)) : J X ω γ M R cells slots pc l (.int y :: .int x :: rest) := by
  intro H locs ls hz hP hS hl hg
  exact lv_idiv C.ex C.cd hd hne (k H locs ls hz hP hS hl hg)
theorem j_irem (C : jC X ω cc own dd mc ms) {x y : Int32} (hd : decode cc pc = .ok (.irem, 1)) (hne : ¬ y = 0) (k : J X ω γ M R cells slots (pc + 1) l (.int (x - x / y * y) :: rest)) : J X ω γ M R cells slots pc l (.int y :: .int x :: rest) := by
  intro H locs ls hz hP hS hl hg
  exact lv_irem C.ex C.cd hd hne (k H locs ls hz hP hS hl hg)
theorem j_iand (C : jC X ω cc own dd mc ms) {x y : Int32} (hd : decode cc pc = .ok (.iand, 1)) (k : J X ω γ M R cells slots (pc + 1) l (.int (x &&& y) :: rest)) : J X ω γ M R cells slots pc l (.int y :: .int x :: rest) := by
  intro H locs ls hz hP hS hl hg
  exact lv_iand C.ex C.cd hd (k H locs ls hz hP hS hl hg)
theorem j_ixor (C : jC X ω cc own dd mc ms) {x y : Int32} (hd : decode cc pc = .ok (.ixor, 1)) (k : J X ω γ M R cells slots (pc + 1) l (.int (x ^^^ y) :: rest)) : J X ω γ M R cells slots pc l (.int y :: .int x :: rest) := by
  intro H locs ls hz hP hS hl hg
  exact lv_ixor C.ex C.cd hd (k H locs ls hz hP hS hl hg)
theorem j_ineg (C : jC X ω cc own dd mc ms) {x : Int32} (hd : decode cc pc = .ok (.ineg, 1)) (k : J X ω γ M R cells slots (pc + 1) l (.int (-x) :: rest)) : J X ω γ M R cells slots pc l (.int x :: rest) := by
  intro H locs ls hz hP hS hl hg
  exact lv_ineg C.ex C.cd hd (k H locs ls hz hP hS hl hg)
theorem j_ishl (C : jC X ω cc own dd mc ms) {x y : Int32} (hd : decode cc pc = .ok (.ishl, 1)) (k : J X ω γ M R cells slots (pc + 1) l (.int (x <<< (y &&& 31)) :: rest)) : J X ω γ M R cells slots pc l (.int y :: .int x :: rest) := by
  intro H locs ls hz hP hS hl hg
  exact lv_ishl C.ex C.cd hd (k H locs ls hz hP hS hl hg)
theorem j_ishr (C : jC X ω cc own dd mc ms) {x y : Int32} (hd : decode cc pc = .ok (.ishr, 1)) (k : J X ω γ M R cells slots (pc + 1) l (.int (x >>> (y &&& 31)) :: rest)) : J X ω γ M R cells slots pc l (.int y :: .int x :: rest) := by
  intro H locs ls hz hP hS hl hg
  exact lv_ishr C.ex C.cd hd (k H locs ls hz hP hS hl hg)
theorem j_i2c (C : jC X ω cc own dd mc ms) {x : Int32} (v : Int32) (hd : decode cc pc = .ok (.i2c, 1)) (hv : (x.toUInt32 % 65536).toInt32 = v) (k : J X ω γ M R cells slots (pc + 1) l (.int v :: rest)) : J X ω γ M R cells slots pc l (.int x :: rest) := by
  intro H locs ls hz hP hS hl hg
  exact lv_i2c C.ex C.cd hd hv (k H locs ls hz hP hS hl hg)
theorem j_i2b (C : jC X ω cc own dd mc ms) {x : Int32} (v : Int32) (hd : decode cc pc = .ok (.i2b, 1)) (hv : x.toInt8.toInt32 = v) (k : J X ω γ M R cells slots (pc + 1) l (.int v :: rest)) : J X ω γ M R cells slots pc l (.int x :: rest) := by
  intro H locs ls hz hP hS hl hg
  exact lv_i2b C.ex C.cd hd hv (k H locs ls hz hP hS hl hg)
theorem j_iushr (C : jC X ω cc own dd mc ms) {x y : Int32} (v : Int32) (hd : decode cc pc = .ok (.iushr, 1)) (hv : (x.toUInt32 >>> (y.toUInt32 &&& Int32.toUInt32 31)).toInt32 = v) (k : J X ω γ M R cells slots (pc + 1) l (.int v :: rest)) : J X ω γ M R cells slots pc l (.int y :: .int x :: rest) := by
  intro H locs ls hz hP hS hl hg
  exact lv_iushr C.ex C.cd hd hv (k H locs ls hz hP hS hl hg)
theorem j_dup (C : jC X ω cc own dd mc ms) {v : Value} (hd : decode cc pc = .ok (.dup, 1)) (hv : v.category = 1) (k : J X ω γ M R cells slots (pc + 1) l (v :: v :: rest)) : J X ω γ M R cells slots pc l (v :: rest) := by
  intro H locs ls hz hP hS hl hg
  exact lv_dup C.ex C.cd hd hv (k H locs ls hz hP hS hl hg)
theorem j_dup2 (C : jC X ω cc own dd mc ms) {v w : Value} (hd : decode cc pc = .ok (.dup2, 1)) (hv : v.category = 1) (hw : w.category = 1) (k : J X ω γ M R cells slots (pc + 1) l (v :: w :: v :: w :: rest)) : J X ω γ M R cells slots pc l (v :: w :: rest) := by
  intro H locs ls hz hP hS hl hg
  exact lv_dup2_11 C.ex C.cd hd hv hw (k H locs ls hz hP hS hl hg)
theorem j_goto (C : jC X ω cc own dd mc ms) {off : Int} (tgt : Nat) (hd : decode cc pc = .ok (.goto off, 3)) (ht : (pc : Int) + off = (tgt : Int)) (k : J X ω γ M R cells slots tgt l rest) : J X ω γ M R cells slots pc l rest := by
  intro H locs ls hz hP hS hl hg
  exact lv_goto C.ex C.cd hd ht (k H locs ls hz hP hS hl hg)
theorem j_if_eq (C : jC X ω cc own dd mc ms) {x : Int32} {off : Int} (tgt : Nat) (hd : decode cc pc = .ok (.ifCond .eq off, 3)) (ht : (pc : Int) + off = (tgt : Int)) (kt : x = 0 → J X ω γ M R cells slots tgt l rest) (kf : ¬ x = 0 → J X ω γ M R cells slots (pc + 3) l rest) : J X ω γ M R cells slots pc l (.int x :: rest) := by
  intro H locs ls hz hP hS hl hg
  exact lv_if_eq C.ex C.cd hd ht (fun h => kt h H locs ls hz hP hS hl hg) (fun h => kf h H locs ls hz hP hS hl hg)
theorem j_icmp_eq (C : jC X ω cc own dd mc ms) {x y : Int32} {off : Int} (tgt : Nat) (hd : decode cc pc = .ok (.if_icmp .eq off, 3)) (ht : (pc : Int) + off = (tgt : Int)) (kt : x = y → J X ω γ M R cells slots tgt l rest) (kf : ¬ x = y → J X ω γ M R cells slots (pc + 3) l rest) : J X ω γ M R cells slots pc l (.int y :: .int x :: rest) := by
  intro H locs ls hz hP hS hl hg
  exact lv_icmp_eq C.ex C.cd hd ht (fun h => kt h H locs ls hz hP hS hl hg) (fun h => kf h H locs ls hz hP hS hl hg)
theorem j_if_ne (C : jC X ω cc own dd mc ms) {x : Int32} {off : Int} (tgt : Nat) (hd : decode cc pc = .ok (.ifCond .ne off, 3)) (ht : (pc : Int) + off = (tgt : Int)) (kt : ¬ x = 0 → J X ω γ M R cells slots tgt l rest) (kf : x = 0 → J X ω γ M R cells slots (pc + 3) l rest) : J X ω γ M R cells slots pc l (.int x :: rest) := by
  intro H locs ls hz hP hS hl hg
  exact lv_if_ne C.ex C.cd hd ht (fun h => kt h H locs ls hz hP hS hl hg) (fun h => kf h H locs ls hz hP hS hl hg)
theorem j_icmp_ne (C : jC X ω cc own dd mc ms) {x y : Int32} {off : Int} (tgt : Nat) (hd : decode cc pc = .ok (.if_icmp .ne off, 3)) (ht : (pc : Int) + off = (tgt : Int)) (kt : ¬ x = y → J X ω γ M R cells slots tgt l rest) (kf : x = y → J X ω γ M R cells slots (pc + 3) l rest) : J X ω γ M R cells slots pc l (.int y :: .int x :: rest) := by
  intro H locs ls hz hP hS hl hg
  exact lv_icmp_ne C.ex C.cd hd ht (fun h => kt h H locs ls hz hP hS hl hg) (fun h => kf h H locs ls hz hP hS hl hg)
theorem j_if_lt (C : jC X ω cc own dd mc ms) {x : Int32} {off : Int} (tgt : Nat) (hd : decode cc pc = .ok (.ifCond .lt off, 3)) (ht : (pc : Int) + off = (tgt : Int)) (kt : x < 0 → J X ω γ M R cells slots tgt l rest) (kf : ¬ x < 0 → J X ω γ M R cells slots (pc + 3) l rest) : J X ω γ M R cells slots pc l (.int x :: rest) := by
  intro H locs ls hz hP hS hl hg
  exact lv_if_lt C.ex C.cd hd ht (fun h => kt h H locs ls hz hP hS hl hg) (fun h => kf h H locs ls hz hP hS hl hg)
theorem j_icmp_lt (C : jC X ω cc own dd mc ms) {x y : Int32} {off : Int} (tgt : Nat) (hd : decode cc pc = .ok (.if_icmp .lt off, 3)) (ht : (pc : Int) + off = (tgt : Int)) (kt : x < y → J X ω γ M R cells slots tgt l rest) (kf : ¬ x < y → J X ω γ M R cells slots (pc + 3) l rest) : J X ω γ M R cells slots pc l (.int y :: .int x :: rest) := by
  intro H locs ls hz hP hS hl hg
  exact lv_icmp_lt C.ex C.cd hd ht (fun h => kt h H locs ls hz hP hS hl hg) (fun h => kf h H locs ls hz hP hS hl hg)
theorem j_if_ge (C : jC X ω cc own dd mc ms) {x : Int32} {off : Int} (tgt : Nat) (hd : decode cc pc = .ok (.ifCond .ge off, 3)) (ht : (pc : Int) + off = (tgt : Int)) (kt : 0 ≤ x → J X ω γ M R cells slots tgt l rest) (kf : ¬ 0 ≤ x → J X ω γ M R cells slots (pc + 3) l rest) : J X ω γ M R cells slots pc l (.int x :: rest) := by
  intro H locs ls hz hP hS hl hg
  exact lv_if_ge C.ex C.cd hd ht (fun h => kt h H locs ls hz hP hS hl hg) (fun h => kf h H locs ls hz hP hS hl hg)
theorem j_icmp_ge (C : jC X ω cc own dd mc ms) {x y : Int32} {off : Int} (tgt : Nat) (hd : decode cc pc = .ok (.if_icmp .ge off, 3)) (ht : (pc : Int) + off = (tgt : Int)) (kt : y ≤ x → J X ω γ M R cells slots tgt l rest) (kf : ¬ y ≤ x → J X ω γ M R cells slots (pc + 3) l rest) : J X ω γ M R cells slots pc l (.int y :: .int x :: rest) := by
  intro H locs ls hz hP hS hl hg
  exact lv_icmp_ge C.ex C.cd hd ht (fun h => kt h H locs ls hz hP hS hl hg) (fun h => kf h H locs ls hz hP hS hl hg)
theorem j_if_gt (C : jC X ω cc own dd mc ms) {x : Int32} {off : Int} (tgt : Nat) (hd : decode cc pc = .ok (.ifCond .gt off, 3)) (ht : (pc : Int) + off = (tgt : Int)) (kt : 0 < x → J X ω γ M R cells slots tgt l rest) (kf : ¬ 0 < x → J X ω γ M R cells slots (pc + 3) l rest) : J X ω γ M R cells slots pc l (.int x :: rest) := by
  intro H locs ls hz hP hS hl hg
  exact lv_if_gt C.ex C.cd hd ht (fun h => kt h H locs ls hz hP hS hl hg) (fun h => kf h H locs ls hz hP hS hl hg)
theorem j_icmp_gt (C : jC X ω cc own dd mc ms) {x y : Int32} {off : Int} (tgt : Nat) (hd : decode cc pc = .ok (.if_icmp .gt off, 3)) (ht : (pc : Int) + off = (tgt : Int)) (kt : y < x → J X ω γ M R cells slots tgt l rest) (kf : ¬ y < x → J X ω γ M R cells slots (pc + 3) l rest) : J X ω γ M R cells slots pc l (.int y :: .int x :: rest) := by
  intro H locs ls hz hP hS hl hg
  exact lv_icmp_gt C.ex C.cd hd ht (fun h => kt h H locs ls hz hP hS hl hg) (fun h => kf h H locs ls hz hP hS hl hg)
theorem j_if_le (C : jC X ω cc own dd mc ms) {x : Int32} {off : Int} (tgt : Nat) (hd : decode cc pc = .ok (.ifCond .le off, 3)) (ht : (pc : Int) + off = (tgt : Int)) (kt : x ≤ 0 → J X ω γ M R cells slots tgt l rest) (kf : ¬ x ≤ 0 → J X ω γ M R cells slots (pc + 3) l rest) : J X ω γ M R cells slots pc l (.int x :: rest) := by
  intro H locs ls hz hP hS hl hg
  exact lv_if_le C.ex C.cd hd ht (fun h => kt h H locs ls hz hP hS hl hg) (fun h => kf h H locs ls hz hP hS hl hg)
theorem j_icmp_le (C : jC X ω cc own dd mc ms) {x y : Int32} {off : Int} (tgt : Nat) (hd : decode cc pc = .ok (.if_icmp .le off, 3)) (ht : (pc : Int) + off = (tgt : Int)) (kt : x ≤ y → J X ω γ M R cells slots tgt l rest) (kf : ¬ x ≤ y → J X ω γ M R cells slots (pc + 3) l rest) : J X ω γ M R cells slots pc l (.int y :: .int x :: rest) := by
  intro H locs ls hz hP hS hl hg
  exact lv_icmp_le C.ex C.cd hd ht (fun h => kt h H locs ls hz hP hS hl hg) (fun h => kf h H locs ls hz hP hS hl hg)
end JI
end
section
theorem jcell_upI {ω : jW} {γ : jG} {M : jM} {R : jR} {a k : Nat} {v : Int32} : ∀ b, b ≠ a → jcell ω γ (jup M a k v) R b = jcell ω γ M R b := by
  intro b hb
  simp only [jcell, jup_row M v hb]
theorem jcell_upR {ω : jW} {γ : jG} {M : jM} {R : jR} {a k : Nat} {v : Option Nat} : ∀ b, b ≠ a → jcell ω γ M (jup R a k v) b = jcell ω γ M R b := by
  intro b hb
  simp only [jcell, jup_row R v hb]
/-- a reference field gets its value -/
def jset_P (γ : jG) (a k : Nat) (v : Option Nat) : jG := (jn γ, jK γ, jL γ, jup (jP γ) a k v)
theorem jcell_upP {ω : jW} {γ : jG} {M : jM} {R : jR} {a k : Nat} {v : Option Nat} : ∀ b, b ≠ a → jcell ω (jset_P γ a k v) M R b = jcell ω γ M R b := by
  intro b hb
  simp only [jcell, jset_P, jK, jL, jP, jup_row _ _ hb]
  rfl
section JM
variable {X : jX} {ω : jW} {γ : jG} {M : jM} {R : jR} {cells slots pc : Nat} {l : List (Nat × Value)} {rest : List Value} {cc : ByteArray} {own : String} {dd mc ms : Nat}
theorem j_getV (C : jC X ω cc own dd mc ms) {index ci k a : Nat} {ty : FieldType} {fin : Bool} {v : Value} (F : jFL own index ci k ty fin) (hA : jAt ω γ a ci) (hci : ci < 11) (hv : (jfs (jP γ a) (M a) 0 (jlay ci))[k]? = some v) (hd : decode cc pc = .ok (.getfield index, 3))
    (kk : J X ω γ M R cells slots (pc + 3) l (v :: rest)) : J X ω γ M R cells slots pc l (.ref a :: rest) := by
  obtain ⟨Cn, T, N, tyf, ⟨hcl, hin, -, -, -, -⟩, hk, -, -, hL⟩ := F
  obtain ⟨h1, h2, h3⟩ := hA
  intro H locs ls hz hP hS hl hg
  have he : (jpool ω γ M R)[a - jlo ω]? = some (a, .inr (ci, jfs (jP γ a) (M a) 0 (jlay ci))) := by rw [jpl_get h1 h2, jcell_O h3 hci]
  rcases hL with hL | ⟨host, hL⟩
  · exact va_get C.ex C.cd C.ts hin C.ow C.kk hP (a - jlo ω) he hcl k hk (C.ts _ hL) (fun _ h => h) hv hd (kk H locs ls hz hP hS hl hg)
  · exact va_getN C.ex C.cd C.ts hin C.ow C.kk hP (a - jlo ω) he hcl k hk (va_Nw.use rfl (C.nw _ hL)) (fun _ h => h) hv hd (kk H locs ls hz hP hS hl hg)
theorem j_getI (C : jC X ω cc own dd mc ms) {index ci k a : Nat} {ty : FieldType} {fin : Bool} (F : jFL own index ci k ty fin) (hA : jAt ω γ a ci) (hd : decode cc pc = .ok (.getfield index, 3)) (hci : ci < 11) (hlay : (jlay ci)[k]? = some false)
    (kk : J X ω γ M R cells slots (pc + 3) l (.int (M a k) :: rest)) : J X ω γ M R cells slots pc l (.ref a :: rest) := by
  refine j_getV C F hA hci (v := .int (M a k)) ?_ hd kk
  have h := jfs_getI (jP γ a) (M a) (jlay ci) 0 k hlay
  rwa [Nat.zero_add] at h
theorem j_getR (C : jC X ω cc own dd mc ms) {index ci k a b : Nat} {ty : FieldType} {fin : Bool} (F : jFL own index ci k ty fin) (hA : jAt ω γ a ci) (hd : decode cc pc = .ok (.getfield index, 3)) (hci : ci < 11) (hlay : (jlay ci)[k]? = some true) (hp : jP γ a k = some b)
    (kk : J X ω γ M R cells slots (pc + 3) l (.ref b :: rest)) : J X ω γ M R cells slots pc l (.ref a :: rest) := by
  refine j_getV C F hA hci (v := .ref b) ?_ hd kk
  have h := jfs_getR (jP γ a) (M a) (jlay ci) 0 k hlay
  rw [Nat.zero_add, hp] at h
  exact h
/-- a field is written: any value, any of the two kinds of fields -/
theorem j_putV (C : jC X ω cc own dd mc ms) {index ci k a : Nat} {ty : FieldType} {fin : Bool} {v : Value} {γ' : jG} {M' : jM} (F : jFL own index ci k ty fin) (hfin : fin = false ∨ (xmeth X).name = "<init>")
    (hA : jAt ω γ a ci) (hci : ci < 11) (hn : narrow ty v = v) (hf : fits ty v = true) (hγ : jn γ' = jn γ) (hne : ∀ b, b ≠ a → jcell ω γ' M' R b = jcell ω γ M R b) (hat : jcell ω γ' M' R a = .inr (ci, (jfs (jP γ a) (M a) 0 (jlay ci)).set k v)) (hlen : k < (jlay ci).length)
    (hd : decode cc pc = .ok (.putfield index, 3)) (hnest : fin = true → ∀ C' T' N' t', jCl ci C' T' N' t' → C' = own ∧ Cond.fieldLink own index (T' k).1 (T' k).2.1 (T' k).2.2.1 ∈ TBL)
    (kk : J X ω γ' M' R cells slots (pc + 3) l rest) : J X ω γ M R cells slots pc l (v :: .ref a :: rest) := by
  obtain ⟨Cn, T, N, tyf, hCl, hk, rfl, hfi, hL⟩ := F
  have hCl' := hCl
  obtain ⟨hcl, hin, hty, hnm, -, hown⟩ := hCl
  obtain ⟨h1, h2, h3⟩ := hA
  intro H locs ls hz hP hS hl hg
  have he : (jpool ω γ M R)[a - jlo ω]? = some (a, .inr (ci, jfs (jP γ a) (M a) 0 (jlay ci))) := by rw [jpl_get h1 h2, jcell_O h3 hci]
  have hap := va_apart (own := own) C.ts hin tyf hty hnm C.kk hcl
  obtain ⟨r, g1, cell, q1, q2, q3, q4⟩ := hP _ _ he
  have hr : r = (Cn, T, N) := Option.some.inj (g1.symm.trans hcl)
  subst hr
  obtain ⟨hSl, hfc, kC, hkC, hkind⟩ := C.kk.1 ci _ hcl
  obtain ⟨cf, kf, fi, f, hi, hsl⟩ := hSl k hk
  have hst := (u_facts hfc hkC (u_lays C.ts hin hk) hi).1
  have hlen' : k < (jfs (jP γ a) (M a) 0 (jlay ci)).length := by rw [jfs_len]; exact hlen
  have fin' : ∀ (H' : Heap), H'[a]? = some (cell.setSlot f.slot v) → H'.size = H.size → (∀ q, q ≠ a → H'[q]? = H[q]?) →
      W (xp X) (xl X) (xe X) (xR X) (xs X) (xm X) (xargs X) (xbelow X) (xmeth X) (xc X) H' (locs ++ [⟨a, f.slot⟩]) cells slots (xQ X) (F0 (xm X) (pc + 3) ls rest) := by
    intro H' e1 e2 e3
    rw [hsl] at e1
    have hP' := hP.set (e := .inr (ci, (jfs (jP γ a) (M a) 0 (jlay ci)).set k v)) jpl_D he ⟨_, hcl, t_OB.to (V := updV (vp_V (jfs (jP γ a) (M a) 0 (jlay ci))) k v) ⟨_, e1, q2, q3, t_set q4 hap hk v⟩ (fun j _ => vp_updV_set hlen' v j)⟩ e3
    rw [jpl_set (g := jcell ω γ' M' R) h1 h2 hne hat] at hP'
    refine kk H' _ ls (by rw [e2, hz, hγ]) (by show va_P ω.2.1 vwCl (jpl (jlo ω) (jn γ') (jcell ω γ' M' R)) H'; rw [hγ]; exact hP') (hS.put e2 e3 h1) hl hg
  have hlay := C.ts _ (hin _ (u_in_lay hk))
  unfold u_lay at hlay
  cases fin with
  | false =>
    rw [if_neg (by rw [hfi]; decide)] at hlay
    have h6 := u_store hfc hkC hkind hlay hi (hty k hk) hn hf
    rcases hL with hL | ⟨host, hL⟩
    · exact W.putK C.ex C.cd (f := f) ⟨C.ow, C.ts _ hL, ⟨_, _, _, hi⟩, hst⟩ (by rw [q2]; exact h6) q1 q3 (by rw [hsl]; exact k2_hasslot (q4 k hk)) rfl rfl hd fin'
    · exact va_WputK C.ex C.cd (f := f) C.ow (va_Nw.use rfl (C.nw _ hL)) hi hst (by rw [q2]; exact h6) q1 q3 (by rw [hsl]; exact k2_hasslot (q4 k hk)) rfl rfl hd fin'
  | true =>
    obtain ⟨hC', hL'⟩ := hnest rfl _ _ _ _ hCl'
    rw [if_pos hfi] at hlay
    have hcf : (xm X).cls = cf := by
      obtain ⟨_, _, c', _, _, _, -, -, hf', -, -, -, hown2, -⟩ := Cond.laysFinal_spec hlay
      have e1 : c' = cf := by have := hi.symm.trans hf'; simp at this; exact this.1.symm
      rw [hown k hk, hC'] at hown2
      rw [← e1]
      exact Option.some.inj (C.ow.symm.trans hown2)
    have hin2 : (xmeth X).name = "<init>" := by
      rcases hfin with h | h
      · cases h
      · exact h
    have h6 := u_fits hfc hkC hkind (Or.inr hlay) hi (hty k hk) hn hf
    exact W.putFinK C.ex C.cd C.ow (C.ts _ hL') hi hst hcf hin2 (by rw [q2]; exact h6) q1 q3 (by rw [hsl]; exact k2_hasslot (q4 k hk)) rfl rfl hd fin'
theorem j_putI (C : jC X ω cc own dd mc ms) {index ci k a : Nat} {ty : FieldType} {v : Int32} (F : jFL own index ci k ty false) (hA : jAt ω γ a ci) (hd : decode cc pc = .ok (.putfield index, 3)) (hci : ci < 11) (hlay : (jlay ci)[k]? = some false) (hn : narrow ty (.int v) = .int v) (hf : fits ty (.int v) = true)
    (kk : J X ω γ (jup M a k v) R cells slots (pc + 3) l rest) : J X ω γ M R cells slots pc l (.int v :: .ref a :: rest) := by
  refine j_putV C F (Or.inl rfl) hA hci hn hf rfl jcell_upI ?_ ((List.getElem?_eq_some_iff.mp hlay).1) hd (fun h => by cases h) kk
  rw [jcell_O hA.2.2 hci, jfs_setI _ _ _ _ _ _ hlay]
  congr 2
  refine jfs_cong _ _ (fun _ _ => rfl) (fun j _ => ?_)
  simp [jup]
/-- a final reference field, in its constructor -/
theorem j_putP (C : jC X ω cc own dd mc ms) {index ci k a b : Nat} {ty : FieldType} {T : u_T} {N : Nat} {tyf : Nat → FieldType} (hCl : jCl ci own T N tyf) (hk : k < N) (hfi : (T k).2.2.2 = true) (hL : Cond.fieldLink own index (T k).1 (T k).2.1 (T k).2.2.1 ∈ TBL) (hnm : (xmeth X).name = "<init>")
    (hA : jAt ω γ a ci) (hd : decode cc pc = .ok (.putfield index, 3)) (hci : ci < 11) (hlay : (jlay ci)[k]? = some true) (hn : narrow (tyf k) (.ref b) = .ref b) (hf : fits (tyf k) (.ref b) = true)
    (kk : J X ω (jset_P γ a k (some b)) M R cells slots (pc + 3) l rest) : J X ω γ M R cells slots pc l (.ref b :: .ref a :: rest) := by
  have F : jFL own index ci k (tyf k) true := ⟨own, T, N, tyf, hCl, hk, rfl, hfi, Or.inl hL⟩
  refine j_putV (γ' := jset_P γ a k (some b)) (M' := M) C F (Or.inr hnm) hA hci hn hf rfl jcell_upP ?_ ((List.getElem?_eq_some_iff.mp hlay).1) hd ?_ kk
  · rw [jcell_O (γ := jset_P γ a k (some b)) hA.2.2 hci, show (Value.ref b) = va_rf (some b) from rfl, jfs_setR _ _ _ _ _ _ hlay]
    congr 2
    refine jfs_cong _ _ (fun j _ => ?_) (fun _ _ => rfl)
    show jup (jP γ) a k (some b) a j = _
    simp [jup]
  · intro _ C' T' N' t' h'
    have e := h'.1.symm.trans hCl.1
    simp only [Option.some.injEq, Prod.mk.injEq] at e
    obtain ⟨e1, e2, e3⟩ := e
    subst e1; subst e2; subst e3
    exact ⟨rfl, hL⟩
theorem j_iald (C : jC X ω cc own dd mc ms) {a n : Nat} {i : Int32} (hA : jArr ω γ a 12 n) (hin : vp_in i n) (hd : decode cc pc = .ok (.iaload, 1))
    (kk : J X ω γ M R cells slots (pc + 1) l (.int (M a i.toNatClampNeg) :: rest)) : J X ω γ M R cells slots pc l (.int i :: .ref a :: rest) := by
  obtain ⟨⟨h1, h2, h3⟩, rfl⟩ := hA
  intro H locs ls hz hP hS hl hg
  exact va_iald C.ex C.cd C.kk hP (a - jlo ω) 1 (by rw [jpl_get h1 h2, jcell_I h3 (by decide) (by decide)]) rfl hin hd (kk H locs ls hz hP hS hl hg)
theorem j_ialdN (C : jC X ω cc own dd mc ms) {a n : Nat} {i : Nat} (hA : jArr ω γ a 12 n) (hd : decode cc pc = .ok (.iaload, 1)) (hin : i < n) (hn : n < 2 ^ 31)
    (kk : J X ω γ M R cells slots (pc + 1) l (.int (M a i) :: rest)) : J X ω γ M R cells slots pc l (.int (nI i) :: .ref a :: rest) :=
  j_iald C hA (vp_in_nI hin hn) hd (by rw [nI_clamp (by omega)]; exact kk)
theorem j_cald (C : jC X ω cc own dd mc ms) {a n : Nat} {i : Int32} (hA : jArr ω γ a 11 n) (hin : vp_in i n) (hd : decode cc pc = .ok (.caload, 1))
    (kk : J X ω γ M R cells slots (pc + 1) l (.int (M a i.toNatClampNeg) :: rest)) : J X ω γ M R cells slots pc l (.int i :: .ref a :: rest) := by
  obtain ⟨⟨h1, h2, h3⟩, rfl⟩ := hA
  intro H locs ls hz hP hS hl hg
  exact va_cald C.ex C.cd C.kk hP (a - jlo ω) 0 (by rw [jpl_get h1 h2, jcell_I h3 (by decide) (by decide)]) rfl hin hd (kk H locs ls hz hP hS hl hg)
theorem j_aald (C : jC X ω cc own dd mc ms) {a n kd : Nat} {i : Int32} {b : Nat} {Cn : String} (hA : jArr ω γ a kd n) (hkd : 13 ≤ kd) (ht : (jtys ω)[kd - 11]? = some (ω.2.2.1 kd, .object Cn)) (hin : vp_in i n) (hb : R a i.toNatClampNeg = some b) (hd : decode cc pc = .ok (.aaload, 1))
    (kk : J X ω γ M R cells slots (pc + 1) l (.ref b :: rest)) : J X ω γ M R cells slots pc l (.int i :: .ref a :: rest) := by
  obtain ⟨⟨h1, h2, h3⟩, rfl⟩ := hA
  intro H locs ls hz hP hS hl hg
  refine va_aldq C.ex C.cd C.kk hP (a - jlo ω) (kd - 11) (by rw [jpl_get h1 h2, jcell_R h3 hkd]) ht hin hd ?_
  rw [hb]
  exact kk H locs ls hz hP hS hl hg
theorem j_alen (C : jC X ω cc own dd mc ms) {a n kd : Nat} {ty : FieldType} (hA : jArr ω γ a kd n) (ht : (jtys ω)[kd - 11]? = some (ω.2.2.1 kd, ty)) (hkd : 11 ≤ kd) (hd : decode cc pc = .ok (.arraylength, 1))
    (kk : J X ω γ M R cells slots (pc + 1) l (.int (nI n) :: rest)) : J X ω γ M R cells slots pc l (.ref a :: rest) := by
  obtain ⟨⟨h1, h2, h3⟩, rfl⟩ := hA
  intro H locs ls hz hP hS hl hg
  by_cases h : kd < 13
  · exact va_alen (x := (jL γ a, .inl (M a))) C.ex C.cd C.kk hP (a - jlo ω) (kd - 11) (by rw [jpl_get h1 h2, jcell_I h3 hkd h]) ht rfl hd (kk H locs ls hz hP hS hl hg)
  · exact va_alen (x := (jL γ a, .inr (.inr (.inr (.inr (R a)))))) C.ex C.cd C.kk hP (a - jlo ω) (kd - 11) (by rw [jpl_get h1 h2, jcell_R h3 (by omega)]) ht rfl hd (kk H locs ls hz hP hS hl hg)
theorem j_iast (C : jC X ω cc own dd mc ms) {a n : Nat} {i x : Int32} (hA : jArr ω γ a 12 n) (hin : vp_in i n) (hd : decode cc pc = .ok (.iastore, 1))
    (kk : J X ω γ (jup M a i.toNatClampNeg x) R cells slots (pc + 1) l rest) : J X ω γ M R cells slots pc l (.int x :: .int i :: .ref a :: rest) := by
  obtain ⟨⟨h1, h2, h3⟩, rfl⟩ := hA
  intro H locs ls hz hP hS hl hg
  have ha : (jpool ω γ M R)[a - jlo ω]? = some (a, .inl (ω.2.2.1 12, jL γ a, .inl (M a))) := by rw [jpl_get h1 h2, jcell_I h3 (by decide) (by decide)]
  refine W.iast C.ex C.cd (hP _ _ ha) ((C.kk.2 1 _ rfl).1 (jL γ a) (fun j => .int (M a j))) (fun q => by cases q) (by show ¬ (i < 0 ∨ (arrV _ _ _).slots.size ≤ _); rw [arrV_size]; exact hin) rfl rfl hd fun H1 e z oq => ?_
  have hP' := hP.set (e := .inl (ω.2.2.1 12, jL γ a, .inl (jup M a i.toNatClampNeg x a))) jpl_D ha (by
    show H1[a]? = some (vp_cell _ _)
    rw [e, vp_cell_i, vp_cell_i, arrV_store]
    congr 2
    funext q
    by_cases hq : q = i.toNatClampNeg
    · subst hq
      simp [updV, jup]
    · simp [updV, jup, hq]) oq
  rw [jpl_set (g := jcell ω γ (jup M a i.toNatClampNeg x) R) h1 h2 jcell_upI (jcell_I h3 (by decide) (by decide))] at hP'
  exact kk H1 _ ls (by rw [z, hz]) hP' (hS.put z oq h1) hl hg
theorem j_iastN (C : jC X ω cc own dd mc ms) {a n : Nat} {i : Nat} {x : Int32} (hA : jArr ω γ a 12 n) (hd : decode cc pc = .ok (.iastore, 1)) (hin : i < n) (hn : n < 2 ^ 31)
    (kk : J X ω γ (jup M a i x) R cells slots (pc + 1) l rest) : J X ω γ M R cells slots pc l (.int x :: .int (nI i) :: .ref a :: rest) :=
  j_iast C hA (vp_in_nI hin hn) hd (by rw [nI_clamp (by omega)]; exact kk)
theorem j_cast (C : jC X ω cc own dd mc ms) {a n : Nat} {i x : Int32} (hA : jArr ω γ a 11 n) (hin : vp_in i n) (hx : vp_nar .char x = x) (hd : decode cc pc = .ok (.castore, 1))
    (kk : J X ω γ (jup M a i.toNatClampNeg x) R cells slots (pc + 1) l rest) : J X ω γ M R cells slots pc l (.int x :: .int i :: .ref a :: rest) := by
  obtain ⟨⟨h1, h2, h3⟩, rfl⟩ := hA
  intro H locs ls hz hP hS hl hg
  have ha : (jpool ω γ M R)[a - jlo ω]? = some (a, .inl (ω.2.2.1 11, jL γ a, .inl (M a))) := by rw [jpl_get h1 h2, jcell_I h3 (by decide) (by decide)]
  refine W.cast C.ex C.cd (hP _ _ ha) ((C.kk.2 0 _ rfl).1 (jL γ a) (fun j => .int (M a j))) (fun q => by cases q) (by show ¬ (i < 0 ∨ (arrV _ _ _).slots.size ≤ _); rw [arrV_size]; exact hin) rfl rfl hd fun H1 e z oq => ?_
  have hx2 : narrow .char (.int x) = .int x := by
    have h : narrow .char (.int x) = .int (vp_nar .char x) := rfl
    rw [h, hx]
  have hP' := hP.set (e := .inl (ω.2.2.1 11, jL γ a, .inl (jup M a i.toNatClampNeg x a))) jpl_D ha (by
    show H1[a]? = some (vp_cell _ _)
    rw [e, vp_cell_i, vp_cell_i, arrV_store]
    congr 2
    funext q
    by_cases hq : q = i.toNatClampNeg
    · subst hq
      simp only [updV, jup, if_true, and_self]
      exact hx2
    · simp [updV, jup, hq]) oq
  rw [jpl_set (g := jcell ω γ (jup M a i.toNatClampNeg x) R) h1 h2 jcell_upI (jcell_I h3 (by decide) (by decide))] at hP'
  exact kk H1 _ ls (by rw [z, hz]) hP' (hS.put z oq h1) hl hg
theorem j_aast (C : jC X ω cc own dd mc ms) {a n kd ci v : Nat} {i : Int32} {r : vw_C} (hA : jArr ω γ a kd n) (hkd : 13 ≤ kd) (hV : jAt ω γ v ci) (hci : ci < 11) (hc : vwCl[ci]? = some r) (ht : (jtys ω)[kd - 11]? = some (ω.2.2.1 kd, .object r.1)) (hin : vp_in i n) (hd : decode cc pc = .ok (.aastore, 1))
    (kk : J X ω γ M (jup R a i.toNatClampNeg (some v)) cells slots (pc + 1) l rest) : J X ω γ M R cells slots pc l (.ref v :: .int i :: .ref a :: rest) := by
  obtain ⟨⟨h1, h2, h3⟩, rfl⟩ := hA
  obtain ⟨v1, v2, v3⟩ := hV
  intro H locs ls hz hP hS hl hg
  have hlt : i.toNatClampNeg < jL γ a := Nat.not_le.mp fun q => hin (Or.inr q)
  have h0 : ¬ i < 0 := fun q => hin (Or.inl q)
  have ha : (jpool ω γ M R)[a - jlo ω]? = some (a, .inl (ω.2.2.1 kd, jL γ a, .inr (.inr (.inr (.inr (R a)))))) := by rw [jpl_get h1 h2, jcell_R h3 hkd]
  have hv : (jpool ω γ M R)[v - jlo ω]? = some (v, .inr (ci, jfs (jP γ v) (M v) 0 (jlay ci))) := by rw [jpl_get v1 v2, jcell_O v3 hci]
  obtain ⟨r', hr', cellV, g1, g2, g3, -⟩ := hP _ _ hv
  have hcls := (C.kk.1 ci r hc).2
  obtain ⟨kA, comp, k1, k2, k3, -⟩ := (C.kk.2 _ _ ht).2
  have hcomp : comp = ω.2.1.1 ci := Option.some.inj (k3.symm.trans hcls.1)
  subst hcomp
  obtain ⟨kC, hkC, -⟩ := hcls.2
  refine W.aast C.ex C.cd (hP _ _ ha) (fun q h => by cases h) (fun h => by cases h) k1 k2 rfl hkC ⟨h0, by show _ < (arrV _ _ _).slots.size; rw [arrV_size]; exact hlt⟩ g1 (fun q h => by rw [g3] at h; cases h) (by rw [g2]; exact hkC) (by rw [g2]; exact va_assign hcls) rfl rfl hd fun H1 e z oq => ?_
  have hP' := hP.set (e := .inl (ω.2.2.1 kd, jL γ a, .inr (.inr (.inr (.inr (jup R a i.toNatClampNeg (some v) a)))))) jpl_D ha (by
    show H1[a]? = some (vp_cell _ _)
    rw [e, vp_cell_q, vp_cell_q, arrV_store]
    congr 2
    funext q
    by_cases hq : q = i.toNatClampNeg
    · subst hq
      simp [updV, jup, va_rf]
    · simp [updV, jup, hq]) oq
  rw [jpl_set (g := jcell ω γ M (jup R a i.toNatClampNeg (some v))) h1 h2 jcell_upR (jcell_R h3 hkd)] at hP'
  exact kk H1 _ ls (by rw [z, hz]) hP' (hS.put z oq h1) hl hg
end JM
end
section
theorem tb_all {Ts ws : List Cond} (hT : ∀ w ∈ TBL, w ∈ Ts) (h : ∀ w ∈ ws, w ∈ TBL) : GoodIn Ts ws := fun w hw => ⟨hT w (h w hw), good_of_word (List.mem_filter.mp (h w hw)).2⟩
theorem tb_cons {y : MethodName} {cc : ByteArray} {maxL : Nat} {ret : Option FieldType} (h : Cond.code y cc maxL ret ∈ TBL) : ∀ w ∈ Cond.code y cc maxL ret :: TBL, w ∈ TBL := fun w hw => by
  rcases List.mem_cons.mp hw with rfl | hw
  · exact h
  · exact hw
theorem vaF_S {A : Nat → Prop} {H0 H : Heap} {locs L : List Loc} {st t : State} (hS : va_S A H0 H locs) (h0 : st.heap = H) (hL : ∀ q ∈ L, A q.base) (hF : va_F A st t) : va_S A H0 t.heap (locs ++ L) := by
  obtain ⟨z, k⟩ := hF
  rw [h0] at z k
  refine ⟨Nat.le_trans hS.1 z, fun q h1 h2 => ?_, fun q hq => ?_⟩
  · rw [k q (Nat.lt_of_lt_of_le h1 hS.1) h2]
    exact hS.2.1 q h1 h2
  · rcases List.mem_append.mp hq with h | h
    · exact hS.2.2 q h
    · exact hL q h
section JK
variable {X : jX} {ω : jW} {γ : jG} {M : jM} {R : jR} {cells slots pc : Nat} {l : List (Nat × Value)} {rest : List Value} {cc : ByteArray} {own : String} {dd mc ms : Nat}
theorem j_run {H : Heap} {locs : List Loc} {ls : Array Slot} {mcc msc : Nat} {st : List Value} {Post' : jPost} {a : Array Value} (hr : va_Run (xp X) (xl X) (xe X) (xR X) (xs X) (xm X) (xargs X) (xbelow X) (xmeth X) (xc X) H locs cells slots mcc msc (F0 (xm X) pc ls st) rest (jQ ω Post' a) (jA ω))
    (hS : va_S (jA ω) (xs X).heap H locs) (hl : lv_has ls (xn X) l) (hg : ∀ q ∈ l, q.2.category = 1)
    (kk : ∀ (v : Option Value) (γ' : jG) (M' : jM) (R' : jR), Post' v γ' M' R' → J X ω γ' M' R' (cells + mcc) (slots + msc) (pc + 3) l (v.toList ++ rest)) :
    W (xp X) (xl X) (xe X) (xR X) (xs X) (xm X) (xargs X) (xbelow X) (xmeth X) (xc X) H locs cells slots (xQ X) (F0 (xm X) pc ls st) := by
  intro T hT XX
  obtain ⟨v, st₀, t, T', L, h0, X', hL, e1, e2, ⟨v', γ', M', R', hv, hp, hz', hP', hF⟩, stp⟩ := hr T hT XX
  cases hv
  obtain ⟨t2, a1, b1⟩ := kk v γ' M' R' hp T'.heap (locs ++ L) ls (by rw [e1]; exact hz') (by rw [e1]; exact hP') (by rw [e1]; exact vaF_S hS h0 hL hF) hl hg T' rfl X'
  exact ⟨t2, stp t2 a1, b1⟩
theorem j_pre (C : jC X ω cc own dd mc ms) {H : Heap} {locs : List Loc} (hz : H.size = jlo ω + jn γ) (hP : va_P ω.2.1 vwCl (jpool ω γ M R) H) (hS : va_S (jA ω) (xs X).heap H locs) (args : List Value) : ∀ U : State, U.heap = H → (xs X).WarmedH U.vm → va_Pc args (jPre ω γ M R) args.toArray U :=
  fun U hU hW => ⟨rfl, by rw [hU]; exact hz, by rw [hU]; exact hP, va_K.moved hW.alike C.kk, nw_warm hW C.nw, by rw [hU]; exact jXi_warm hW (jXi_kept hS.2.1 C.xi)⟩
theorem j_callV (C : jC X ω cc own dd mc ms) {y : MethodName} {bytes : ByteArray} {maxL : Nat} {ret : Option FieldType} {d mcc msc n index b ci : Nat} {As st : List Value} {Post' : jPost} {Cn : String} {T : u_T} {N : Nat}
    (hct : Ct (xl X) ω y bytes maxL ret d mcc msc (.ref b :: As) γ M R Post') (hy : jYC y bytes maxL ret n) (hl : jMN own index y) (hi : Cond.instanceMethod y ∈ TBL) (hsel : Cond.selects Cn y y ∈ TBL) (hyc : y.cls = Cn) (hcl : vwCl[ci]? = some (Cn, T, N))
    (hd : decode cc pc = .ok (.invokevirtual index, 3)) (hst : st = As.reverse ++ .ref b :: rest) (hn : As.length = n) (hb : jAt ω γ b ci) (hci : ci < 11) (hcat : (rest.map fun v => v.category).sum ≤ 8) (hdd : d + 1 ≤ dd ∧ maxL ≤ 18) (hcs : cells + mcc ≤ mc ∧ slots + msc ≤ ms)
    (kk : ∀ (v : Option Value) (γ' : jG) (M' : jM) (R' : jR), Post' v γ' M' R' → J X ω γ' M' R' (cells + mcc) (slots + msc) (pc + 3) l (v.toList ++ rest)) : J X ω γ M R cells slots pc l st := by
  subst hst
  obtain ⟨hyw, hyi, hyd⟩ := hy
  obtain ⟨r1, r2, r3, r4⟩ := C.rm
  intro H locs ls hz hP hS hlv hg
  have hpre : PreV (xs X) H Cn b (va_Pc (.ref b :: As) (jPre ω γ M R)) As :=
    ⟨jPre_blind _ _ _ _ _, va_recv C.kk hP hcl (show (jpool ω γ M R)[b - jlo ω]? = some (b, .inr (ci, jfs (jP γ b) (M b) 0 (jlay ci))) by rw [jpl_get hb.1 hb.2.1, jcell_O hb.2.2 hci]), j_pre C hz hP hS _⟩
  have hR : (jrm d mcc msc).frames + 1 ≤ (xR X).frames ∧ 8 + (maxL + 11) + (jrm d mcc msc).locals ≤ (xR X).locals := ⟨Nat.le_trans hdd.1 r1, by show 8 + (maxL + 11) + 37 * d ≤ _; omega⟩
  have hf : cells + mcc ≤ (xR X).cells ∧ slots + msc ≤ (xR X).slots := ⟨Nat.le_trans hcs.1 r3, Nat.le_trans hcs.2 r4⟩
  rcases hl with hl | ⟨host, hl⟩
  · refine j_run (va_runV C.fix hct (cwV n C.ts (tb_all (fun _ h => h) ?_) rfl rfl rfl ⟨hyc, hyd⟩ hR) hpre rfl hn hlv.1 rfl (lv_room hcat) hd hf) hS hlv hg kk
    intro w hw
    unfold wsV at hw
    rcases List.mem_append.mp hw with h | h
    · simp only [List.mem_cons, List.not_mem_nil, or_false] at h
      rcases h with rfl | rfl | rfl | rfl
      · exact hl
      · exact hi
      · exact hsel
      · rw [← hyc]; exact hyi
    · exact tb_cons hyw w h
  · exact j_run (va_runVN C.fix hct ⟨va_cnB n C.ts (tb_all (fun _ h => h) (tb_cons hyw)) rfl rfl rfl (C.nw _ hl) (C.ts _ hyi) hyd hR, C.ts _ hi, C.ts _ hsel⟩ hpre rfl hn hlv.1 rfl (lv_room hcat) hd hf) hS hlv hg kk
theorem j_callS (C : jC X ω cc own dd mc ms) {y : MethodName} {bytes : ByteArray} {maxL : Nat} {ret : Option FieldType} {d mcc msc n index : Nat} {As st : List Value} {Post' : jPost}
    (hct : Ct (xl X) ω y bytes maxL ret d mcc msc As γ M R Post') (hy : jYC y bytes maxL ret n) (hl : jMN own index y) (hi : Cond.static y ∈ TBL)
    (hd : decode cc pc = .ok (.invokestatic index, 3)) (hst : st = As.reverse ++ rest) (hn : As.length = n) (hcat : (rest.map fun v => v.category).sum ≤ 8) (hdd : d + 1 ≤ dd ∧ maxL ≤ 18) (hcs : cells + mcc ≤ mc ∧ slots + msc ≤ ms)
    (kk : ∀ (v : Option Value) (γ' : jG) (M' : jM) (R' : jR), Post' v γ' M' R' → J X ω γ' M' R' (cells + mcc) (slots + msc) (pc + 3) l (v.toList ++ rest)) : J X ω γ M R cells slots pc l st := by
  subst hst
  obtain ⟨hyw, hyi, hyd⟩ := hy
  obtain ⟨r1, r2, r3, r4⟩ := C.rm
  intro H locs ls hz hP hS hlv hg
  have hpre : PreS (xs X) H (va_Pc As (jPre ω γ M R)) As := ⟨jPre_blind _ _ _ _ _, j_pre C hz hP hS _⟩
  have hR : (jrm d mcc msc).frames + 1 ≤ (xR X).frames ∧ 8 + (maxL + 11) + (jrm d mcc msc).locals ≤ (xR X).locals := ⟨Nat.le_trans hdd.1 r1, by show 8 + (maxL + 11) + 37 * d ≤ _; omega⟩
  have hf : cells + mcc ≤ (xR X).cells ∧ slots + msc ≤ (xR X).slots := ⟨Nat.le_trans hcs.1 r3, Nat.le_trans hcs.2 r4⟩
  rcases hl with hl | ⟨host, hl⟩
  · refine j_run (va_runS C.fix hct (va_cwS n C.ts (tb_all (fun _ h => h) ?_) rfl rfl rfl hyd hR) hpre rfl hn hlv.1 rfl (lv_room hcat) hd hf) hS hlv hg kk
    intro w hw
    unfold va_wsS at hw
    rcases List.mem_append.mp hw with h | h
    · simp only [List.mem_cons, List.not_mem_nil, or_false] at h
      rcases h with rfl | rfl | rfl
      · exact hl
      · exact hi
      · exact hyi
    · exact tb_cons hyw w h
  · exact j_run (va_runSN C.fix hct ⟨va_cnB n C.ts (tb_all (fun _ h => h) (tb_cons hyw)) rfl rfl rfl (C.nw _ hl) (C.ts _ hyi) hyd hR, C.ts _ hi, trivial⟩ hpre rfl hn hlv.1 rfl (lv_room hcat) hd hf) hS hlv hg kk
theorem j_callI (C : jC X ω cc own dd mc ms) {y : MethodName} {bytes : ByteArray} {maxL : Nat} {d mcc msc n index b : Nat} {As st : List Value} {Post' : jPost}
    (hct : Ct (xl X) ω y bytes maxL none d mcc msc (.ref b :: As) γ M R Post') (hy : jYC y bytes maxL none n) (hl : jMN own index y) (hi : Cond.instanceMethod y ∈ TBL) (hnm : y.name = "<init>")
    (hd : decode cc pc = .ok (.invokespecial index, 3)) (hst : st = As.reverse ++ .ref b :: rest) (hn : As.length = n) (hcat : (rest.map fun v => v.category).sum ≤ 8) (hdd : d + 1 ≤ dd ∧ maxL ≤ 18) (hcs : cells + mcc ≤ mc ∧ slots + msc ≤ ms)
    (kk : ∀ (v : Option Value) (γ' : jG) (M' : jM) (R' : jR), Post' v γ' M' R' → J X ω γ' M' R' (cells + mcc) (slots + msc) (pc + 3) l (v.toList ++ rest)) : J X ω γ M R cells slots pc l st := by
  subst hst
  obtain ⟨hyw, hyi, hyd⟩ := hy
  obtain ⟨r1, r2, r3, r4⟩ := C.rm
  intro H locs ls hz hP hS hlv hg
  have hpre : PreS (xs X) H (va_Pc (.ref b :: As) (jPre ω γ M R)) (.ref b :: As) := ⟨jPre_blind _ _ _ _ _, j_pre C hz hP hS _⟩
  have hR : (jrm d mcc msc).frames + 1 ≤ (xR X).frames ∧ 8 + (maxL + 11) + (jrm d mcc msc).locals ≤ (xR X).locals := ⟨Nat.le_trans hdd.1 r1, by show 8 + (maxL + 11) + 37 * d ≤ _; omega⟩
  have hf : cells + mcc ≤ (xR X).cells ∧ slots + msc ≤ (xR X).slots := ⟨Nat.le_trans hcs.1 r3, Nat.le_trans hcs.2 r4⟩
  rcases hl with hl | ⟨host, hl⟩
  · exact j_run (va_runI C.fix hct (cwI n C.ts (tb_all (fun _ h => h) (tb_cons hyw)) rfl rfl rfl (C.ts _ hyi) (C.ts _ hl) (C.ts _ hi) hnm hyd hR) hpre rfl hn hlv.1 rfl (lv_room hcat) hd hf) hS hlv hg kk
  · exact j_run (va_runIN C.fix hct ⟨va_cnB n C.ts (tb_all (fun _ h => h) (tb_cons hyw)) rfl rfl rfl (C.nw _ hl) (C.ts _ hyi) hyd hR, hnm, C.ts _ hi⟩ hpre rfl hn hlv.1 rfl (lv_room hcat) hd hf) hS hlv hg kk
theorem j_objInit (C : jC X ω cc own dd mc ms) {index a : Nat} (hl : Cond.methodLink own index objectInit ∈ TBL) (hi : Cond.instanceMethod objectInit ∈ TBL) (hc : Cond.code objectInit ⟨#[0xb1]⟩ 1 none ∈ TBL) (hd : decode cc pc = .ok (.invokespecial index, 3)) (hdd : 1 ≤ dd) (hcat : (rest.map fun v => v.category).sum ≤ 8)
    (kk : J X ω γ M R cells slots (pc + 3) l rest) : J X ω γ M R cells slots pc l (.ref a :: rest) := by
  obtain ⟨r1, r2, r3, r4⟩ := C.rm
  intro H locs ls hz hP hS hlv hg
  exact W.objInit C.ex C.cd C.ow (C.ts _ hl) (C.ts _ hi) (C.ts _ hc) rfl (by rw [C.ml]; exact hlv.1) rfl hd (by omega) (by show 2 * 0 + _ + 12 ≤ _; omega) (kk H locs ls hz hP hS hlv hg)
/-- a loop: N turns, the state at turn k, what is known there -/
theorem j_loop {st : List Value} (N : Nat) (L : Nat → List (Nat × Value)) (Mk : Nat → jM) (Rk : Nat → jR) (I : Nat → Prop) (h0 : I 0)
    (hs : ∀ k, k < N → I k → (I (k + 1) → J X ω γ (Mk (k + 1)) (Rk (k + 1)) cells slots pc (L (k + 1)) st) → J X ω γ (Mk k) (Rk k) cells slots pc (L k) st)
    (hx : I N → J X ω γ (Mk N) (Rk N) cells slots pc (L N) st) : J X ω γ (Mk 0) (Rk 0) cells slots pc (L 0) st := by
  have key : ∀ n k, k + n = N → I k → J X ω γ (Mk k) (Rk k) cells slots pc (L k) st := by
    intro n
    induction n with
    | zero =>
      intro k hk hI
      have e : k = N := by omega
      subst e
      exact hx hI
    | succ n ih =>
      intro k hk hI
      exact hs k (by omega) hI (fun hI' => ih (k + 1) (by omega) hI')
  exact key N 0 (by omega) h0
/-- a loop by a measure -/
theorem j_while {σ : Type} {st : List Value} (L : σ → List (Nat × Value)) (Mk : σ → jM) (Rk : σ → jR) (I : σ → Prop) (μ : σ → Nat)
    (hs : ∀ s, I s → (∀ s', I s' → μ s' < μ s → J X ω γ (Mk s') (Rk s') cells slots pc (L s') st) → J X ω γ (Mk s) (Rk s) cells slots pc (L s) st) (s : σ) (h : I s) : J X ω γ (Mk s) (Rk s) cells slots pc (L s) st := by
  have key : ∀ n s, μ s < n → I s → J X ω γ (Mk s) (Rk s) cells slots pc (L s) st := by
    intro n
    induction n with
    | zero => intro s h; omega
    | succ n ih => intro s hn hI; exact hs s hI (fun s' hI' hlt => ih s' (by omega) hI')
  exact key _ s (Nat.lt_succ_self _) h
end JK
end
section
def jz {α : Type} (M : Nat → Nat → α) (a : Nat) (v : α) : Nat → Nat → α := fun b j => if b = a then v else M b j
theorem jz_row {α : Type} (M : Nat → Nat → α) {a b : Nat} (v : α) (h : b ≠ a) : jz M a v b = M b := funext fun _ => if_neg h
theorem jz_at {α : Type} (M : Nat → Nat → α) (a : Nat) (v : α) : jz M a v a = fun _ => v := funext fun _ => if_pos rfl
/-- one cell more -/
def jnew (ω : jW) (γ : jG) (kd len : Nat) : jG := (jn γ + 1, va_up (jK γ) (jlo ω + jn γ) kd, va_up (jL γ) (jlo ω + jn γ) len, jz (jP γ) (jlo ω + jn γ) none)
theorem jva_up_self {α : Type} (f : Nat → α) (k : Nat) (v : α) : va_up f k v k = v := if_pos rfl
theorem jva_up_other {α : Type} (f : Nat → α) {k j : Nat} (v : α) (h : j ≠ k) : va_up f k v j = f j := if_neg h
theorem jcell_new {ω : jW} {γ : jG} {M : jM} {R : jR} {kd len : Nat} : ∀ b, b < jlo ω + jn γ → jcell ω (jnew ω γ kd len) (jz M (jlo ω + jn γ) 0) (jz R (jlo ω + jn γ) none) b = jcell ω γ M R b := by
  intro b hb
  have hne : b ≠ jlo ω + jn γ := by omega
  have e1 : jK (jnew ω γ kd len) b = jK γ b := jva_up_other _ _ hne
  have e2 : jL (jnew ω γ kd len) b = jL γ b := jva_up_other _ _ hne
  have e3 : jP (jnew ω γ kd len) b = jP γ b := jz_row _ _ hne
  simp only [jcell, e1, e2, e3, jz_row _ _ hne]
theorem jcell_newO {ω : jW} {γ : jG} {M : jM} {R : jR} {kd len : Nat} (h : kd < 11) : jcell ω (jnew ω γ kd len) (jz M (jlo ω + jn γ) 0) (jz R (jlo ω + jn γ) none) (jlo ω + jn γ) = .inr (kd, jfs (fun _ => none) (fun _ => 0) 0 (jlay kd)) := by
  have e1 : jK (jnew ω γ kd len) (jlo ω + jn γ) = kd := jva_up_self _ _ _
  have e3 : jP (jnew ω γ kd len) (jlo ω + jn γ) = fun _ => none := jz_at _ _ _
  rw [jcell_O e1 h, e3, jz_at]
theorem jcell_newI {ω : jW} {γ : jG} {M : jM} {R : jR} {kd len : Nat} (h1 : 11 ≤ kd) (h2 : kd < 13) : jcell ω (jnew ω γ kd len) (jz M (jlo ω + jn γ) 0) (jz R (jlo ω + jn γ) none) (jlo ω + jn γ) = .inl (ω.2.2.1 kd, len, .inl (fun _ => 0)) := by
  have e1 : jK (jnew ω γ kd len) (jlo ω + jn γ) = kd := jva_up_self _ _ _
  have e2 : jL (jnew ω γ kd len) (jlo ω + jn γ) = len := jva_up_self _ _ _
  rw [jcell_I e1 h1 h2, e2, jz_at]
theorem jcell_newR {ω : jW} {γ : jG} {M : jM} {R : jR} {kd len : Nat} (h1 : 13 ≤ kd) : jcell ω (jnew ω γ kd len) (jz M (jlo ω + jn γ) 0) (jz R (jlo ω + jn γ) none) (jlo ω + jn γ) = .inl (ω.2.2.1 kd, len, .inr (.inr (.inr (.inr (fun _ => none))))) := by
  have e1 : jK (jnew ω γ kd len) (jlo ω + jn γ) = kd := jva_up_self _ _ _
  have e2 : jL (jnew ω γ kd len) (jlo ω + jn γ) = len := jva_up_self _ _ _
  rw [jcell_R e1 h1, e2, jz_at]
theorem jpool_new {ω : jW} {γ : jG} {M : jM} {R : jR} {kd len : Nat} {e : va_E} {H H1 : Heap} (hz : H.size = jlo ω + jn γ) (hP : va_P ω.2.1 vwCl (jpool ω γ M R) H) (o1 : ∀ q, q < H.size → H1[q]? = H[q]?)
    (he : va_at ω.2.1 vwCl (jlo ω + jn γ, e) H1) (hc : jcell ω (jnew ω γ kd len) (jz M (jlo ω + jn γ) 0) (jz R (jlo ω + jn γ) none) (jlo ω + jn γ) = e) : va_P ω.2.1 vwCl (jpool ω (jnew ω γ kd len) (jz M (jlo ω + jn γ) 0) (jz R (jlo ω + jn γ) none)) H1 := by
  have h1 : va_P ω.2.1 vwCl (jpool ω γ M R ++ [(jlo ω + jn γ, e)]) H1 := by
    refine va_P.app (hP.kept (fun k x hx => o1 x.1 ((hP k x hx).lt))) (fun k x hx => ?_)
    have hk : k < 1 := (List.getElem?_eq_some_iff.mp hx).1
    rw [show k = 0 by omega] at hx
    cases hx
    exact he
  rw [jpl_push jcell_new hc] at h1
  exact h1
theorem vaS_new {A : Nat → Prop} {H0 H H1 : Heap} {locs : List Loc} (hS : va_S A H0 H locs) (z : H.size ≤ H1.size) (o1 : ∀ q, q < H.size → H1[q]? = H[q]?) : va_S A H0 H1 locs :=
  ⟨Nat.le_trans hS.1 z, fun x h1 h2 => (o1 x (Nat.lt_of_lt_of_le h1 hS.1)).trans (hS.2.1 x h1 h2), hS.2.2⟩
section JN
variable {X : jX} {ω : jW} {γ : jG} {M : jM} {R : jR} {cells slots pc : Nat} {l : List (Nat × Value)} {rest : List Value} {cc : ByteArray} {own : String} {dd mc ms : Nat}
theorem j_new (C : jC X ω cc own dd mc ms) {index ci : Nat} {Cn : String} {T : u_T} {N : Nat} {tyf : Nat → FieldType} (hCl : jCl ci Cn T N tyf) (hci : ci < 11) (hl : Cond.classLink own index Cn ∈ TBL) (hin : Cond.instantiable Cn N ∈ TBL) (hini : Cond.initialized Cn ∈ TBL) (hd : decode cc pc = .ok (.new index, 3)) (hcs : cells + 1 ≤ mc ∧ slots + N ≤ ms)
    (kk : J X ω (jnew ω γ ci 0) (jz M (jlo ω + jn γ) 0) (jz R (jlo ω + jn γ) none) (cells + 1) (slots + N) (pc + 3) l (.ref (jlo ω + jn γ) :: rest)) : J X ω γ M R cells slots pc l rest := by
  obtain ⟨hcl, hws, hty, -, hdef, -⟩ := hCl
  obtain ⟨-, -, r3, r4⟩ := C.rm
  intro H locs ls hz hP hS hlv hg
  have hKn := C.kk.1 ci _ hcl
  refine W.newcK C.ex C.cd C.ow (C.ts _ hl) (C.ts _ hin) (C.ts _ hini) rfl hd (by omega) (by omega) hKn.2.1 hz fun H1 kC hkC e1 z1 o1 => ?_
  rw [← hz] at o1
  refine kk H1 locs ls (by rw [z1]; show _ = jlo ω + (jn γ + 1); omega) (jpool_new (e := .inr (ci, jfs (fun _ => none) (fun _ => 0) 0 (jlay ci))) hz hP o1 ⟨_, hcl, (u_born tyf C.ts hws hKn hkC e1 hty).to hdef⟩ (jcell_newO hci)) (vaS_new hS (by omega) o1) hlv hg
theorem j_newI (C : jC X ω cc own dd mc ms) {N : Nat} (harr : Cond.arrayClass .int ∈ TBL) (hN : N ≤ 100000) (hd : decode cc pc = .ok (.newarray .int, 2)) (hcs : cells + 1 ≤ mc ∧ slots + N ≤ ms)
    (kk : J X ω (jnew ω γ 12 N) (jz M (jlo ω + jn γ) 0) (jz R (jlo ω + jn γ) none) (cells + 1) (slots + N) (pc + 2) l (.ref (jlo ω + jn γ) :: rest)) : J X ω γ M R cells slots pc l (.int (nI N) :: rest) := by
  obtain ⟨-, -, r3, r4⟩ := C.rm
  intro H locs ls hz hP hS hlv hg
  refine va_newaK (atype := .int) (N := N) C.ex C.cd (C.ts _ harr) rfl hd rfl (nI_pos (by omega)) (nI_clamp (by omega)) (by show N * 4 ≤ _; omega) (by omega) (by omega) hz fun H1 cA e1 z1 o1 hAr hNm => ?_
  rw [← hz] at o1
  have hcA : cA = ω.2.2.1 12 := Option.some.inj (hNm.symm.trans (C.kk.2 1 _ rfl).2)
  subst hcA
  refine kk H1 locs ls (by rw [z1]; show _ = jlo ω + (jn γ + 1); omega) (jpool_new (e := .inl (ω.2.2.1 12, N, .inl (fun _ => 0))) hz hP o1 e1 (jcell_newI (by decide) (by decide))) (vaS_new hS (by omega) o1) hlv hg
theorem j_newC (C : jC X ω cc own dd mc ms) {N : Nat} (harr : Cond.arrayClass .char ∈ TBL) (hN : N ≤ 100000) (hd : decode cc pc = .ok (.newarray .char, 2)) (hcs : cells + 1 ≤ mc ∧ slots + N ≤ ms)
    (kk : J X ω (jnew ω γ 11 N) (jz M (jlo ω + jn γ) 0) (jz R (jlo ω + jn γ) none) (cells + 1) (slots + N) (pc + 2) l (.ref (jlo ω + jn γ) :: rest)) : J X ω γ M R cells slots pc l (.int (nI N) :: rest) := by
  obtain ⟨-, -, r3, r4⟩ := C.rm
  intro H locs ls hz hP hS hlv hg
  refine va_newaK (atype := .char) (N := N) C.ex C.cd (C.ts _ harr) rfl hd rfl (nI_pos (by omega)) (nI_clamp (by omega)) (by show N * 2 ≤ _; omega) (by omega) (by omega) hz fun H1 cA e1 z1 o1 hAr hNm => ?_
  rw [← hz] at o1
  have hcA : cA = ω.2.2.1 11 := Option.some.inj (hNm.symm.trans (C.kk.2 0 _ rfl).2)
  subst hcA
  refine kk H1 locs ls (by rw [z1]; show _ = jlo ω + (jn γ + 1); omega) (jpool_new (e := .inl (ω.2.2.1 11, N, .inl (fun _ => 0))) hz hP o1 e1 (jcell_newI (by decide) (by decide))) (vaS_new hS (by omega) o1) hlv hg
theorem j_anew (C : jC X ω cc own dd mc ms) {N kd index : Nat} {Cn : String} (hl : Cond.classLink own index Cn ∈ TBL) (hov : va_AO Cn (xs X)) (hkd : 13 ≤ kd) (ht : (jtys ω)[kd - 11]? = some (ω.2.2.1 kd, .object Cn)) (hN : N ≤ 100000) (hd : decode cc pc = .ok (.anewarray index, 3)) (hcs : cells + 1 ≤ mc ∧ slots + N ≤ ms)
    (kk : J X ω (jnew ω γ kd N) (jz M (jlo ω + jn γ) 0) (jz R (jlo ω + jn γ) none) (cells + 1) (slots + N) (pc + 3) l (.ref (jlo ω + jn γ) :: rest)) : J X ω γ M R cells slots pc l (.int (nI N) :: rest) := by
  obtain ⟨-, -, r3, r4⟩ := C.rm
  have hcl : (nI N).toNatClampNeg = N := nI_clamp (by omega)
  intro H locs ls hz hP hS hlv hg
  refine W.anew C.ex C.cd C.ow (C.ts _ hl) (va_AO.use hov) rfl hd rfl (nI_pos (by omega)) (by rw [hcl]; omega) (by omega) (by rw [hcl]; omega) fun cA kA comp f1 f2 f3 f4 => ?_
  rw [hcl]
  generalize hH1 : H.push ({ cls := cA, slots := Array.replicate N .null, vm := .none } : Cell) = H1
  have z1 : H1.size = H.size + 1 := by rw [← hH1, Array.size_push]
  have e1 : H1[H.size]? = some (arrV cA N (fun _ => .null)) := by rw [← hH1, Array.getElem?_push_size, ← arrV_new]
  have o1 : ∀ q : Nat, q < H.size → H1[q]? = H[q]? := fun q hq => by rw [← hH1, Array.getElem?_push, if_neg (Nat.ne_of_lt hq)]
  obtain ⟨kA', comp', -, -, -, g4⟩ := (C.kk.2 _ _ ht).2
  have hcA : cA = ω.2.2.1 kd := Option.some.inj (f1.symm.trans g4)
  subst hcA
  rw [hz] at e1
  have e9 := kk H1 locs ls (by rw [z1, hz]; show _ = jlo ω + (jn γ + 1); omega) (jpool_new (e := .inl (ω.2.2.1 kd, N, .inr (.inr (.inr (.inr (fun _ => none)))))) hz hP o1 e1 (jcell_newR hkd)) (vaS_new hS (by omega) o1) hlv hg
  rw [hz]
  exact e9
/-- switches -/
theorem j_tableOut (C : jC X ω cc own dd mc ms) {dflt lo hi : Int} {offs : Array Int} {len : Nat} {x : Int32} (tgt : Nat) (hd : decode cc pc = .ok (.tableswitch dflt lo hi offs, len)) (h : x.toInt < lo ∨ hi < x.toInt) (ht : (pc : Int) + dflt = (tgt : Int)) (k : J X ω γ M R cells slots tgt l rest) : J X ω γ M R cells slots pc l (.int x :: rest) := by
  intro H locs ls hz hP hS hl hg
  exact lv_tableOut C.ex C.cd hd h ht (k H locs ls hz hP hS hl hg)
theorem j_tableIn (C : jC X ω cc own dd mc ms) {dflt lo hi : Int} {offs : Array Int} {len : Nat} {x : Int32} {off : Int} (j tgt : Nat) (hd : decode cc pc = .ok (.tableswitch dflt lo hi offs, len)) (hx : x.toInt = lo + j) (hj : lo + j ≤ hi) (ho : offs[j]? = some off) (ht : (pc : Int) + off = (tgt : Int)) (k : J X ω γ M R cells slots tgt l rest) : J X ω γ M R cells slots pc l (.int x :: rest) := by
  intro H locs ls hz hP hS hl hg
  exact lv_tableIn C.ex C.cd hd (by omega) (by omega) (by rw [show (x.toInt - lo).toNat = j by omega]; exact ho) ht (k H locs ls hz hP hS hl hg)
theorem j_lookup (C : jC X ω cc own dd mc ms) {dflt : Int} {ps : Array (Int × Int)} {len : Nat} {x : Int32} {off : Int} (tgt : Nat) (hd : decode cc pc = .ok (.lookupswitch dflt ps, len)) (hp : (ps.toList.zip (ps.toList.drop 1)).all (fun (a, next) => a.1 < next.1) = true) (ho : Op.lookupswitch.offset ps.toList dflt x.toInt = off) (ht : (pc : Int) + off = (tgt : Int)) (k : J X ω γ M R cells slots tgt l rest) : J X ω γ M R cells slots pc l (.int x :: rest) := by
  intro H locs ls hz hP hS hl hg
  exact lv_lookup C.ex C.cd hd hp ho ht (k H locs ls hz hP hS hl hg)
theorem j_ifnonnull (C : jC X ω cc own dd mc ms) {a : Nat} {off : Int} (tgt : Nat) (hd : decode cc pc = .ok (.ifnonnull off, 3)) (ht : (pc : Int) + off = (tgt : Int)) (k : J X ω γ M R cells slots tgt l rest) : J X ω γ M R cells slots pc l (.ref a :: rest) := by
  intro H locs ls hz hP hS hl hg
  exact lv_ifnonnull C.ex C.cd hd ht (k H locs ls hz hP hS hl hg)
theorem j_ifnull (C : jC X ω cc own dd mc ms) {a : Nat} {off : Int} (hd : decode cc pc = .ok (.ifnull off, 3)) (k : J X ω γ M R cells slots (pc + 3) l rest) : J X ω γ M R cells slots pc l (.ref a :: rest) := by
  intro H locs ls hz hP hS hl hg
  exact lv_ifnull C.ex C.cd hd (k H locs ls hz hP hS hl hg)
/-- the two static tables -/
theorem j_gets (C : jC X ω cc own dd mc ms) {Cn n d : String} {v : Value} {index : Nat} (hZ : va_Z Cn n d v (jA ω) (xs X) (xs X).heap) (hl : Cond.fieldLink own index Cn n d ∈ TBL) (hd : decode cc pc = .ok (.getstatic index, 3)) (k : J X ω γ M R cells slots (pc + 3) l (v :: rest)) : J X ω γ M R cells slots pc l rest := by
  intro H locs ls hz hP hS hlv hg
  exact va_gets C.ex C.cd hZ hS C.ow (C.ts _ hl) (fun _ h => h) hd (k H locs ls hz hP hS hlv hg)
theorem j_tald (C : jC X ω cc own dd mc ms) {t N : Nat} {f : Nat → Int32} {i : Int32} (hT : va_T .int t N (fun j => .int (f j)) (jA ω) (xs X) (xs X).heap) (hin : vp_in i N) (hd : decode cc pc = .ok (.iaload, 1)) (k : J X ω γ M R cells slots (pc + 1) l (.int (f i.toNatClampNeg) :: rest)) : J X ω γ M R cells slots pc l (.int i :: .ref t :: rest) := by
  intro H locs ls hz hP hS hlv hg
  exact va_ti C.ex C.cd hT hS hin rfl hd (k H locs ls hz hP hS hlv hg)
theorem j_tbald (C : jC X ω cc own dd mc ms) {t N : Nat} {f : Nat → Int32} {i : Int32} (hT : va_T .byte t N (fun j => .int (f j)) (jA ω) (xs X) (xs X).heap) (hin : vp_in i N) (hd : decode cc pc = .ok (.baload, 1)) (k : J X ω γ M R cells slots (pc + 1) l (.int (f i.toNatClampNeg) :: rest)) : J X ω γ M R cells slots pc l (.int i :: .ref t :: rest) := by
  intro H locs ls hz hP hS hlv hg
  exact va_tb C.ex C.cd hT hS hin rfl hd (k H locs ls hz hP hS hlv hg)
theorem j_tlen (C : jC X ω cc own dd mc ms) {t N : Nat} {f : Nat → Value} {ty : FieldType} (hT : va_T ty t N f (jA ω) (xs X) (xs X).heap) (hd : decode cc pc = .ok (.arraylength, 1)) (k : J X ω γ M R cells slots (pc + 1) l (.int (nI N) :: rest)) : J X ω γ M R cells slots pc l (.ref t :: rest) := by
  intro H locs ls hz hP hS hlv hg
  exact va_tlen C.ex C.cd hT hS rfl hd (k H locs ls hz hP hS hlv hg)
end JN
end
section
theorem jcat_of {l : List (Nat × Value)} (h : l.all (fun q => Nat.beq q.2.category 1) = true) : ∀ q ∈ l, q.2.category = 1 := fun q hq => Nat.eq_of_beq_eq_true (List.all_eq_true.mp h q hq)
theorem sw_out (n : Nat) (x : Int32) (h : ∀ j : Nat, j ≤ n → ¬ x = nI j) : x.toInt < 0 ∨ (n : Int) < x.toInt := by
  by_cases h0 : x < 0
  · exact Or.inl (by simpa using Int32.lt_iff_toInt_lt.mp h0)
  · obtain ⟨j, hj, rfl⟩ := nI_of h0
    right
    rw [nI_toInt hj]
    rcases Nat.lt_or_ge n j with q | q
    · omega
    · exact absurd rfl (h j q)
theorem lk_ne (v : Nat) {x : Int32} (h : ¬ x = nI v) (hv : v < 2 ^ 31) : ¬ x.toInt = (v : Int) := fun q => h (Int32.toInt_inj.mp (by rw [q, nI_toInt hv]))
def jx (γ : jG) (v : Option Value) (M : jM) (R : jR) : jPost := fun v' γ' M' R' => v' = v ∧ γ' = γ ∧ M' = M ∧ R' = R
section JB
variable {X : jX} {ω : jW} {γ : jG} {M : jM} {R : jR} {cells slots pc : Nat} {l : List (Nat × Value)} {rest : List Value} {cc : ByteArray} {own : String} {dd mc ms : Nat}
theorem j_iinc1 (C : jC X ω cc own dd mc ms) {i x : Nat} (hd : decode cc pc = .ok (.iinc i 1, 3)) (hx : jget l i = some (.int (nI x))) (hn : i < xn X) (k : J X ω γ M R cells slots (pc + 3) (jset l i (.int (nI (x + 1)))) rest) : J X ω γ M R cells slots pc l rest :=
  j_iinc C (nI (x + 1)) hd hx (by rw [nI_succ]; rfl) hn k
theorem j_iincD (C : jC X ω cc own dd mc ms) {i x : Nat} (hd : decode cc pc = .ok (.iinc i (-1), 3)) (hx : jget l i = some (.int (nI (x + 1)))) (hn : i < xn X) (k : J X ω γ M R cells slots (pc + 3) (jset l i (.int (nI x))) rest) : J X ω γ M R cells slots pc l rest :=
  j_iinc C (nI x) hd hx (pk_m1 x) hn k
/-- an int in a local under other words -/
theorem j_cVi (C : jC X ω cc own dd mc ms) {y : MethodName} {bytes : ByteArray} {maxL : Nat} {ret : Option FieldType} {d n index b ci : Nat} {As st : List Value} {r : Int32} {M' : jM} {R' : jR} {Cn : String} {T : u_T} {N : Nat}
    (hct : Ct (xl X) ω y bytes maxL ret d 0 0 (.ref b :: As) γ M R (jx γ (some (.int r)) M' R')) (hy : jYC y bytes maxL ret n) (hl : jMN own index y) (hi : Cond.instanceMethod y ∈ TBL) (hsel : Cond.selects Cn y y ∈ TBL) (hyc : y.cls = Cn) (hcl : vwCl[ci]? = some (Cn, T, N))
    (hd : decode cc pc = .ok (.invokevirtual index, 3)) (hst : st = As.reverse ++ .ref b :: rest) (hn : As.length = n) (hb : jAt ω γ b ci) (hci : ci < 11) (hcat : (rest.map fun v => v.category).sum ≤ 8) (hdd : d + 1 ≤ dd ∧ maxL ≤ 18)
    (kk : J X ω γ M' R' cells slots (pc + 3) l (.int r :: rest)) (hcs : cells ≤ mc ∧ slots ≤ ms := by decide) : J X ω γ M R cells slots pc l st :=
  j_callV C hct hy hl hi hsel hyc hcl hd hst hn hb hci hcat hdd hcs (by rintro _ _ _ _ ⟨rfl, rfl, rfl, rfl⟩; exact kk)
theorem j_cVr (C : jC X ω cc own dd mc ms) {y : MethodName} {bytes : ByteArray} {maxL : Nat} {ret : Option FieldType} {d n index b ci : Nat} {As st : List Value} {r : Nat} {M' : jM} {R' : jR} {Cn : String} {T : u_T} {N : Nat}
    (hct : Ct (xl X) ω y bytes maxL ret d 0 0 (.ref b :: As) γ M R (jx γ (some (.ref r)) M' R')) (hy : jYC y bytes maxL ret n) (hl : jMN own index y) (hi : Cond.instanceMethod y ∈ TBL) (hsel : Cond.selects Cn y y ∈ TBL) (hyc : y.cls = Cn) (hcl : vwCl[ci]? = some (Cn, T, N))
    (hd : decode cc pc = .ok (.invokevirtual index, 3)) (hst : st = As.reverse ++ .ref b :: rest) (hn : As.length = n) (hb : jAt ω γ b ci) (hci : ci < 11) (hcat : (rest.map fun v => v.category).sum ≤ 8) (hdd : d + 1 ≤ dd ∧ maxL ≤ 18)
    (kk : J X ω γ M' R' cells slots (pc + 3) l (.ref r :: rest)) (hcs : cells ≤ mc ∧ slots ≤ ms := by decide) : J X ω γ M R cells slots pc l st :=
  j_callV C hct hy hl hi hsel hyc hcl hd hst hn hb hci hcat hdd hcs (by rintro _ _ _ _ ⟨rfl, rfl, rfl, rfl⟩; exact kk)
theorem j_cVv (C : jC X ω cc own dd mc ms) {y : MethodName} {bytes : ByteArray} {maxL : Nat} {ret : Option FieldType} {d n index b ci : Nat} {As st : List Value} {M' : jM} {R' : jR} {Cn : String} {T : u_T} {N : Nat}
    (hct : Ct (xl X) ω y bytes maxL ret d 0 0 (.ref b :: As) γ M R (jx γ none M' R')) (hy : jYC y bytes maxL ret n) (hl : jMN own index y) (hi : Cond.instanceMethod y ∈ TBL) (hsel : Cond.selects Cn y y ∈ TBL) (hyc : y.cls = Cn) (hcl : vwCl[ci]? = some (Cn, T, N))
    (hd : decode cc pc = .ok (.invokevirtual index, 3)) (hst : st = As.reverse ++ .ref b :: rest) (hn : As.length = n) (hb : jAt ω γ b ci) (hci : ci < 11) (hcat : (rest.map fun v => v.category).sum ≤ 8) (hdd : d + 1 ≤ dd ∧ maxL ≤ 18)
    (kk : J X ω γ M' R' cells slots (pc + 3) l rest) (hcs : cells ≤ mc ∧ slots ≤ ms := by decide) : J X ω γ M R cells slots pc l st :=
  j_callV C hct hy hl hi hsel hyc hcl hd hst hn hb hci hcat hdd hcs (by rintro _ _ _ _ ⟨rfl, rfl, rfl, rfl⟩; exact kk)
theorem j_cSi (C : jC X ω cc own dd mc ms) {y : MethodName} {bytes : ByteArray} {maxL : Nat} {ret : Option FieldType} {d n index : Nat} {As st : List Value} {r : Int32} {M' : jM} {R' : jR}
    (hct : Ct (xl X) ω y bytes maxL ret d 0 0 As γ M R (jx γ (some (.int r)) M' R')) (hy : jYC y bytes maxL ret n) (hl : jMN own index y) (hi : Cond.static y ∈ TBL)
    (hd : decode cc pc = .ok (.invokestatic index, 3)) (hst : st = As.reverse ++ rest) (hn : As.length = n) (hcat : (rest.map fun v => v.category).sum ≤ 8) (hdd : d + 1 ≤ dd ∧ maxL ≤ 18)
    (kk : J X ω γ M' R' cells slots (pc + 3) l (.int r :: rest)) (hcs : cells ≤ mc ∧ slots ≤ ms := by decide) : J X ω γ M R cells slots pc l st :=
  j_callS C hct hy hl hi hd hst hn hcat hdd hcs (by rintro _ _ _ _ ⟨rfl, rfl, rfl, rfl⟩; exact kk)
theorem j_cSv (C : jC X ω cc own dd mc ms) {y : MethodName} {bytes : ByteArray} {maxL : Nat} {ret : Option FieldType} {d n index : Nat} {As st : List Value} {M' : jM} {R' : jR}
    (hct : Ct (xl X) ω y bytes maxL ret d 0 0 As γ M R (jx γ none M' R')) (hy : jYC y bytes maxL ret n) (hl : jMN own index y) (hi : Cond.static y ∈ TBL)
    (hd : decode cc pc = .ok (.invokestatic index, 3)) (hst : st = As.reverse ++ rest) (hn : As.length = n) (hcat : (rest.map fun v => v.category).sum ≤ 8) (hdd : d + 1 ≤ dd ∧ maxL ≤ 18)
    (kk : J X ω γ M' R' cells slots (pc + 3) l rest) (hcs : cells ≤ mc ∧ slots ≤ ms := by decide) : J X ω γ M R cells slots pc l st :=
  j_callS C hct hy hl hi hd hst hn hcat hdd hcs (by rintro _ _ _ _ ⟨rfl, rfl, rfl, rfl⟩; exact kk)
end JB
theorem ar_I : Cond.arrayClass .int ∈ TBL := tb_in 54 (by decide +kernel) rfl
theorem ar_C : Cond.arrayClass .char ∈ TBL := tb_in 301 (by decide +kernel) rfl
theorem in_of {p : Int32} {n : Nat} (h0 : ¬ p < 0) (h1 : ¬ nI n ≤ p) (hn : n < 2 ^ 31) : vp_in p n := by
  obtain ⟨j, hj, rfl⟩ := nI_of h0
  exact vp_in_nI ((nI_ltI hj hn).mp (Int32.not_le.mp h1)) hn
theorem in_of' {p : Int32} {n : Nat} (h0 : ¬ p < 0) (h1 : p < nI n) (hn : n < 2 ^ 31) : vp_in p n := in_of h0 (Int32.not_le.mpr h1) hn
theorem nb0 : narrow .boolean (.int (nI 0)) = .int (nI 0) := rfl
theorem nb1 : narrow .boolean (.int (nI 1)) = .int (nI 1) := rfl
def isB (x : Int32) : Prop := x = nI 0 ∨ x = nI 1
theorem isB.nar {x : Int32} (h : isB x) : narrow .boolean (.int x) = .int x := by
  rcases h with rfl | rfl
  · exact nb0
  · exact nb1
/-- geometry -/
def gPlan (ω : jW) (γ : jG) (b : Nat) : Prop := jAt ω γ b 2
def gSums (ω : jW) (γ : jG) (b : Nat) : Prop := jAt ω γ b 6 ∧ jP γ b 0 = some (b + 1) ∧ jArr ω γ (b + 1) 12 128
def gStm (ω : jW) (γ : jG) (b : Nat) : Prop := jAt ω γ b 5 ∧ jP γ b 0 = some (b + 1) ∧ jArr ω γ (b + 1) 12 4 ∧ jP γ b 1 = some (b + 2) ∧ jArr ω γ (b + 2) 12 4
def gLast (ω : jW) (γ : jG) (b : Nat) : Prop := jAt ω γ b 1 ∧ jP γ b 0 = some (b + 1) ∧ jArr ω γ (b + 1) 12 4
def gTable (ω : jW) (γ : jG) (b : Nat) : Prop := jAt ω γ b 7 ∧ jP γ b 0 = some (b + 1) ∧ jArr ω γ (b + 1) 12 150 ∧ jP γ b 1 = some (b + 2) ∧ gSums ω γ (b + 2)
def gShelf (ω : jW) (γ : jG) (b : Nat) : Prop := jAt ω γ b 3 ∧ jP γ b 0 = some (b + 1) ∧ jArr ω γ (b + 1) 13 8 ∧ jP γ b 1 = some (b + 2) ∧ gPlan ω γ (b + 2) ∧ ∀ j, j < 8 → gPlan ω γ (b + 3 + j)
def gText (ω : jW) (γ : jG) (b : Nat) : Prop := jAt ω γ b 8 ∧ jP γ b 0 = some (b + 1) ∧ jArr ω γ (b + 1) 11 30
def gState (ω : jW) (γ : jG) (a : Nat) : Prop := jAt ω γ a 4 ∧ jP γ a 0 = some (a + 1) ∧ gTable ω γ (a + 1) ∧ jP γ a 1 = some (a + 5) ∧ gSums ω γ (a + 5) ∧ jP γ a 2 = some (a + 7) ∧ jArr ω γ (a + 7) 15 6 ∧ jP γ a 3 = some (a + 8) ∧ gStm ω γ (a + 8) ∧
  jP γ a 4 = some (a + 11) ∧ gShelf ω γ (a + 11) ∧ jP γ a 5 = some (a + 22) ∧ gLast ω γ (a + 22) ∧ jP γ a 6 = some (a + 24) ∧ jArr ω γ (a + 24) 12 5 ∧ ∀ t, t < 6 → gStm ω γ (a + 25 + 3 * t)
/-- the place of a plan: its address -/
def pa (R : jR) (b k : Nat) : Nat := (R (b + 1) k).getD 0
/-- the rows of plans are plans, all different -/
def SR (R : jR) (b : Nat) : Prop := (∀ k, k < 8 → ∃ j, j < 8 ∧ R (b + 1) k = some (b + 3 + j)) ∧ ∀ i j, i < 8 → j < 8 → R (b + 1) i = R (b + 1) j → i = j
theorem SR.at {R : jR} {b k : Nat} (h : SR R b) (hk : k < 8) : R (b + 1) k = some (pa R b k) := by
  obtain ⟨j, -, e⟩ := h.1 k hk
  simp [pa, e]
theorem SR.rg {R : jR} {b k : Nat} (h : SR R b) (hk : k < 8) : ∃ j, j < 8 ∧ pa R b k = b + 3 + j := by
  obtain ⟨j, hj, e⟩ := h.1 k hk
  exact ⟨j, hj, by simp [pa, e]⟩
theorem SR.inj {R : jR} {b i j : Nat} (h : SR R b) (hi : i < 8) (hj : j < 8) (e : pa R b i = pa R b j) : i = j := h.2 i j hi hj (by rw [h.at hi, h.at hj, e])
theorem SR.pl {ω : jW} {γ : jG} {R : jR} {b k : Nat} (h : SR R b) (g : gShelf ω γ b) (hk : k < 8) : jAt ω γ (pa R b k) 2 := by
  obtain ⟨j, hj, e⟩ := h.rg hk
  rw [e]
  exact g.2.2.2.2.2 j hj
def rAt (row : Nat → Int32) (n : Nat) (p : Int32) : Int32 := if p < 0 then nI 0 else if nI n ≤ p then nI 0 else row p.toNatClampNeg
theorem rAt_N (row : Nat → Int32) {n k : Nat} (h : k < n) (hn : n < 2 ^ 31) : rAt row n (nI k) = row k := by
  simp only [rAt, if_neg (nI_pos (show k < 2 ^ 31 by omega)), if_neg (nI_ge h hn), nI_clamp (show k < 2 ^ 31 by omega)]
def rIn (x a b : Int32) : Int32 := if x < a then nI 0 else if b < x then nI 0 else nI 1
theorem rIn_B (x a b : Int32) : isB (rIn x a b) := by
  unfold rIn isB
  split
  · exact Or.inl rfl
  · split
    · exact Or.inl rfl
    · exact Or.inr rfl
def rHolds (x op v : Int32) : Int32 := if op = nI 1 then (if v ≤ x then nI 0 else nI 1) else if op = nI 2 then (if x ≤ v then nI 0 else nI 1) else (if x = v then nI 1 else nI 0)
/-- the first place of n at which p holds, or -1 -/
def rFirst (p : Nat → Bool) (n : Nat) : Int32 := match (List.range n).find? p with
  | some k => nI k
  | none => -1
theorem rFirst_yes {p : Nat → Bool} {n k : Nat} (hk : k < n) (hp : p k = true) (h : ∀ j, j < k → p j = false) : rFirst p n = nI k := by
  have e : (List.range n).find? p = some k := by
    rw [List.find?_range_eq_some]
    exact ⟨hp, List.mem_range.mpr hk, fun j hj => by simp [h j hj]⟩
  simp only [rFirst, e]
theorem rFirst_no {p : Nat → Bool} {n : Nat} (h : ∀ j, j < n → p j = false) : rFirst p n = -1 := by
  have e : (List.range n).find? p = none := by
    rw [List.find?_eq_none]
    intro x hx
    simp [h x (List.mem_range.mp hx)]
  simp only [rFirst, e]
/-- how many places of n have p -/
def rCnt (p : Nat → Bool) : Nat → Nat
  | 0 => 0
  | k + 1 => if p k then rCnt p k + 1 else rCnt p k
/-- the sum of f at the first places -/
def sI (f : Nat → Int32) : Nat → Int32
  | 0 => nI 0
  | k + 1 => sI f k + f k
def jcopy (M : jM) (from_ to_ n : Nat) : jM := fun b j => if b = to_ ∧ j < n then M from_ j else M b j
end
section
theorem jcopy_0 (M : jM) (a b : Nat) : jcopy M a b 0 = M := by
  funext x j
  simp [jcopy]
theorem jcopy_s (M : jM) {a b k : Nat} (h : a ≠ b) : jup (jcopy M a b k) b k (jcopy M a b k a k) = jcopy M a b (k + 1) := by
  funext x j
  simp only [jup, jcopy]
  by_cases hx : x = b
  · subst hx
    by_cases hj : j = k
    · subst hj
      simp [h]
    · by_cases hl : j < k
      · simp [hj, hl, show j < k + 1 by omega]
      · simp [hj, hl, show ¬ j < k + 1 by omega]
  · simp [hx]
def rAddM (M : jM) (b : Nat) (c v w : Int32) : jM := if c * nI 32 + v < 0 then M else if nI 128 ≤ c * nI 32 + v then M else jup M (b + 1) (c * nI 32 + v).toNatClampNeg (M (b + 1) (c * nI 32 + v).toNatClampNeg + w)
def rWhF (M : jM) (b : Nat) (c op v : Int32) (k : Nat) : Int32 := if rHolds (nI k) op v = 0 then 0 else rAt (M (b + 1)) 128 (c * nI 32 + nI k)
def rWhere (M : jM) (b : Nat) (c op v : Int32) : Int32 := sI (rWhF M b c op v) 32
end
section
theorem lt_of_in {p : Int32} {n : Nat} (h : vp_in p n) : p.toNatClampNeg < n := Nat.not_le.mp fun q => h (Or.inr q)
def rCol (M : jM) (t : Nat) (k : Int32) : Int32 := rAt (M (t + 1)) 4 k
def rOp (M : jM) (t : Nat) (k : Int32) : Int32 := rAt (M (t + 2)) 4 k
def rHasC (M : jM) (t : Nat) (k : Int32) : Int32 := if k < 0 then nI 0 else if M t 2 ≤ k then nI 0 else nI 1
def rTakes (M : jM) (t : Nat) (k v : Int32) : Int32 := if rHasC M t k = 0 then (if v = 0 then nI 1 else nI 0) else rIn v (nI 0) (nI 31)
theorem rHasC_B (M : jM) (t : Nat) (k : Int32) : isB (rHasC M t k) := by
  unfold rHasC isB
  split
  · exact Or.inl rfl
  · split
    · exact Or.inl rfl
    · exact Or.inr rfl
theorem rTakes_B (M : jM) (t : Nat) (k v : Int32) : isB (rTakes M t k v) := by
  unfold rTakes
  split
  · split
    · exact Or.inr rfl
    · exact Or.inl rfl
  · exact rIn_B _ _ _
def rCost (M : jM) (b t v : Nat) (way : Int32) : Int32 := if way = nI 9 then M b 1 else nI 10 + rWhere M b (rCol M t way) (rOp M t way) (rAt (M v) 4 way)
def rIdx (M : jM) (a : Nat) (c : Int32) : Int32 := if (M a 7 >>> (c &&& 31)) &&& nI 1 = nI 1 then nI 1 else nI 0
def rHasS (M : jM) (a : Nat) (p : Int32) : Int32 := if p < 0 then nI 0 else if M a 8 ≤ p then nI 0 else nI 1
def rSA (a : Nat) (p : Int32) : Nat := if p < 0 then a + 8 else if p < nI 6 then a + 25 + 3 * p.toNatClampNeg else a + 8
theorem rSA_N (a : Nat) {k : Nat} (h : k < 6) : rSA a (nI k) = a + 25 + 3 * k := by
  simp only [rSA, if_neg (nI_pos (show k < 2 ^ 31 by omega)), if_pos (nI_lt h (by decide)), nI_clamp (show k < 2 ^ 31 by omega)]
def rShare (M : jM) (a : Nat) (s : Int32) : Int32 := if M (a + 24) 0 ≤ s then (if M (a + 24) 1 ≤ s then nI 2 else nI 1) else nI 0
def rShr (M : jM) (a t v : Nat) (k : Nat) : Int32 := if M (a + 5) 1 = 0 then nI 0 else nI 1000 * rWhere M (a + 5) (rCol M t (nI k)) (rOp M t (nI k)) (rAt (M v) 4 (nI k)) / M (a + 5) 1
def rWorth : Nat → Int32
  | 0 => nI 1
  | k + 1 => rWorth k * nI 3
def rCls (M : jM) (a t v : Nat) : Nat → Int32
  | 0 => nI 0
  | k + 1 => rCls M a t v k + rWorth k * rShare M a (rShr M a t v k)
def rBW (M : jM) (a b t v : Nat) : Nat → Int32 × Int32
  | 0 => (nI 9, nI 0)
  | k + 1 => if rIdx M a (rCol M t (nI k)) = 0 then rBW M a b t v k else if (rBW M a b t v k).1 = nI 9 then (nI k, rCost M b t v (nI k)) else if (rBW M a b t v k).2 ≤ rCost M b t v (nI k) then rBW M a b t v k else (nI k, rCost M b t v (nI k))
def rBest (M : jM) (a b t v n : Nat) : Int32 := if (rBW M a b t v n).2 ≤ M b 1 then (rBW M a b t v n).1 else nI 9
def rPA (R : jR) (b : Nat) (p : Int32) : Nat := if p < 0 then b + 2 else if p < nI 8 then pa R b p.toNatClampNeg else b + 2
theorem rPA_N (R : jR) (b : Nat) {k : Nat} (h : k < 8) : rPA R b (nI k) = pa R b k := by
  simp only [rPA, if_neg (nI_pos (show k < 2 ^ 31 by omega)), if_pos (nI_lt h (by decide)), nI_clamp (show k < 2 ^ 31 by omega)]
theorem rPA_at {ω : jW} {γ : jG} {R : jR} {b : Nat} (h : SR R b) (g : gShelf ω γ b) (p : Int32) : jAt ω γ (rPA R b p) 2 := by
  unfold rPA
  split
  · exact g.2.2.2.2.1
  · split
    · rename_i h0 h1
      exact h.pl g (lt_of_in (in_of' h0 h1 (by decide)))
    · exact g.2.2.2.2.1
def rNum (M : jM) (R : jR) (b : Nat) (p : Int32) : Int32 := if p < 0 then -4 else if p < M b 2 then M (rPA R b p) 0 else -4
def rAhead (M : jM) (p q : Nat) : Int32 := if M p 5 = M q 5 then (if M q 8 ≤ M p 8 then nI 0 else nI 1) else (if M q 5 ≤ M p 5 then nI 0 else nI 1)
theorem rAhead_B (M : jM) (p q : Nat) : isB (rAhead M p q) := by
  unfold rAhead isB
  split <;> split <;> first | exact Or.inl rfl | exact Or.inr rfl
/-- the plan p of n is the one: number x; statement s and class c; unpinned ahead of q; to be dropped behind x others -/
def qNum (M : jM) (R : jR) (b : Nat) (x : Int32) (k : Nat) : Bool := decide (M (pa R b k) 0 = x)
def qFor (M : jM) (R : jR) (b : Nat) (s c : Int32) (k : Nat) : Bool := decide (M (pa R b k) 1 = s) && decide (M (pa R b k) 2 = c)
def qOf (M : jM) (R : jR) (b : Nat) (s : Int32) (k : Nat) : Bool := decide (M (pa R b k) 1 = s)
def qPin (M : jM) (R : jR) (b : Nat) (k : Nat) : Bool := decide (¬ M (pa R b k) 7 = 0)
def qAhd (M : jM) (R : jR) (b q : Nat) (k : Nat) : Bool := decide (M (pa R b k) 7 = 0) && decide (¬ rAhead M (pa R b k) q = 0)
def qDrp (M : jM) (R : jR) (b n : Nat) (x : Int32) (k : Nat) : Bool := decide (M (pa R b k) 7 = 0) && decide (nI (rCnt (qAhd M R b (pa R b k)) n) = x)
def rPTell (M : jM) (p : Nat) (w r : Int32) : Int32 := if w = nI 0 then M p 1 else if w = nI 1 then M p 2 else if w = nI 2 then M p 3 else if w = nI 3 then M p 4 else if w = nI 4 then M p 5 else if w = nI 5 then M p 6 else if w = nI 6 then (if M p 7 = 0 then nI 0 else nI 1) else r - M p 8
def rLTell (M : jM) (b : Nat) (w : Int32) : Int32 := if M b 1 = 0 then -4 else if w = nI 0 then M b 3 else if w = nI 1 then M b 4 else if w = nI 2 then M b 5 else if w = nI 3 then M b 6 else if w = nI 4 then M b 7 else if w = nI 5 then M b 8 else if w = nI 6 then (if M b 9 = 0 then nI 0 else nI 1) else M b 10
def rHasR (M : jM) (b : Nat) (p : Int32) : Int32 := if p < 0 then nI 0 else if M b 2 ≤ p then nI 0 else nI 1
def rCell (M : jM) (b : Nat) (r w : Int32) : Int32 := rAt (M (b + 1)) 150 (r * nI 5 + w)
def rFitK (M : jM) (b t v : Nat) (r : Int32) (k : Nat) : Bool := decide (¬ rHolds (rCell M b r (rCol M t (nI k))) (rOp M t (nI k)) (rAt (M v) 4 (nI k)) = 0)
def rFit (M : jM) (b t v : Nat) (r : Int32) (n : Nat) : Int32 := if (List.range n).all (rFitK M b t v r) then nI 1 else nI 0
theorem rFit_no {M : jM} {b t v : Nat} {r : Int32} {n k : Nat} (hk : k < n) (h : rFitK M b t v r k = false) : rFit M b t v r n = nI 0 := by
  have e : (List.range n).all (rFitK M b t v r) = false := by
    rw [List.all_eq_false]
    exact ⟨k, List.mem_range.mpr hk, by simp [h]⟩
  simp only [rFit, e]
  rfl
theorem rFit_yes {M : jM} {b t v : Nat} {r : Int32} {n : Nat} (h : ∀ k, k < n → rFitK M b t v r k = true) : rFit M b t v r n = nI 1 := by
  have e : (List.range n).all (rFitK M b t v r) = true := by
    rw [List.all_eq_true]
    exact fun k hk => h k (List.mem_range.mp hk)
  simp only [rFit, e]
  rfl
theorem rFit_B (M : jM) (b t v : Nat) (r : Int32) (n : Nat) : isB (rFit M b t v r n) := by
  unfold rFit isB
  split
  · exact Or.inr rfl
  · exact Or.inl rfl
def rTWF (M : jM) (b t v n : Nat) (k : Nat) : Int32 := if rFit M b t v (nI k) n = 0 then 0 else rCell M b (nI k) (nI 4)
def rAcc (M : jM) (a : Nat) (s v0 v1 v2 v3 : Int32) : Int32 := if rHasS M a s = 0 then nI 0 else if rTakes M (rSA a s) (nI 0) v0 = 0 then nI 0 else if rTakes M (rSA a s) (nI 1) v1 = 0 then nI 0 else if rTakes M (rSA a s) (nI 2) v2 = 0 then nI 0 else if rTakes M (rSA a s) (nI 3) v3 = 0 then nI 0 else nI 1
/-- the row of statements is as it was made -/
def SS (R : jR) (a : Nat) : Prop := ∀ j, j < 6 → R (a + 7) j = some (a + 25 + 3 * j)
theorem rSA_g {ω : jW} {γ : jG} {a : Nat} (g : gState ω γ a) (p : Int32) : gStm ω γ (rSA a p) := by
  unfold rSA
  split
  · exact g.2.2.2.2.2.2.2.2.1
  · split
    · rename_i h0 h1
      exact g.2.2.2.2.2.2.2.2.2.2.2.2.2.2.2 _ (lt_of_in (in_of' h0 h1 (by decide)))
    · exact g.2.2.2.2.2.2.2.2.1
end
section
section JN2
variable {X : jX} {ω : jW} {γ : jG} {M : jM} {R : jR} {cells slots pc : Nat} {l : List (Nat × Value)} {rest : List Value} {cc : ByteArray} {own : String} {dd mc ms : Nat}
theorem j_aaldN (C : jC X ω cc own dd mc ms) {a n kd : Nat} {i : Nat} {b : Nat} {Cn : String} (hA : jArr ω γ a kd n) (hkd : 13 ≤ kd) (ht : (jtys ω)[kd - 11]? = some (ω.2.2.1 kd, .object Cn)) (hin : i < n) (hn : n < 2 ^ 31) (hb : R a i = some b) (hd : decode cc pc = .ok (.aaload, 1))
    (kk : J X ω γ M R cells slots (pc + 1) l (.ref b :: rest)) : J X ω γ M R cells slots pc l (.int (nI i) :: .ref a :: rest) :=
  j_aald C hA hkd ht (vp_in_nI hin hn) (by rw [nI_clamp (by omega)]; exact hb) hd kk
theorem j_aastN (C : jC X ω cc own dd mc ms) {a n kd ci v : Nat} {i : Nat} {r : vw_C} (hA : jArr ω γ a kd n) (hkd : 13 ≤ kd) (hV : jAt ω γ v ci) (hci : ci < 11) (hc : vwCl[ci]? = some r) (ht : (jtys ω)[kd - 11]? = some (ω.2.2.1 kd, .object r.1)) (hin : i < n) (hn : n < 2 ^ 31) (hd : decode cc pc = .ok (.aastore, 1))
    (kk : J X ω γ M (jup R a i (some v)) cells slots (pc + 1) l rest) : J X ω γ M R cells slots pc l (.ref v :: .int (nI i) :: .ref a :: rest) :=
  j_aast C hA hkd hV hci hc ht (vp_in_nI hin hn) hd (by rw [nI_clamp (by omega)]; exact kk)
end JN2
theorem isB.fit {x : Int32} (h : isB x) : fits .boolean (.int x) = true := by
  rcases h with rfl | rfl <;> rfl
theorem jcopy_o (M : jM) {a b n x : Nat} (h : x ≠ b) : jcopy M a b n x = M x := funext fun j => if_neg (fun q => h q.1)
theorem jcopy_in (M : jM) {a b n j : Nat} (h : j < n) : jcopy M a b n b j = M a j := if_pos ⟨rfl, h⟩
theorem jcopy_out (M : jM) {a b n j : Nat} (h : ¬ j < n) : jcopy M a b n b j = M b j := if_neg fun q => h q.2
def jcopyF (M : jM) (a b lo n : Nat) : jM := fun x j => if x = b ∧ lo ≤ j ∧ j < n then M a j else M x j
theorem jcopyF_0 (M : jM) (a b lo : Nat) : jcopyF M a b lo lo = M := by
  funext x j
  simp only [jcopyF]
  rw [if_neg (by omega)]
theorem jcopyF_o (M : jM) {a b lo n x : Nat} (h : x ≠ b) : jcopyF M a b lo n x = M x := funext fun j => if_neg (fun q => h q.1)
theorem jcopyF_in (M : jM) {a b lo n j : Nat} (h0 : lo ≤ j) (h : j < n) : jcopyF M a b lo n b j = M a j := if_pos ⟨rfl, h0, h⟩
theorem jcopyF_out (M : jM) {a b lo n j : Nat} (h : j < lo ∨ n ≤ j) : jcopyF M a b lo n b j = M b j := if_neg fun q => by omega
theorem jcopyF_s (M : jM) {a b lo k : Nat} (hl : lo ≤ k) (h : a ≠ b) : jup (jcopyF M a b lo k) b k (jcopyF M a b lo k a k) = jcopyF M a b lo (k + 1) := by
  funext x j
  rw [jcopyF_o M h]
  simp only [jup, jcopyF]
  by_cases hx : x = b
  · subst hx
    by_cases hj : j = k
    · subst hj
      simp [hl]
    · by_cases h2 : lo ≤ j ∧ j < k
      · simp [hj, h2, show lo ≤ j ∧ j < k + 1 by omega]
      · rw [if_neg (by omega), if_neg (by omega), if_neg (by omega)]
  · simp [hx]
def rPBegin (M : jM) (p : Nat) (n s c : Int32) : jM := jup (jup (jup (jup (jup (jup M p 0 n) p 1 s) p 2 c) p 5 (nI 0)) p 6 (nI 0)) p 7 (nI 0)
def rLBegin (M : jM) (b v : Nat) (s c : Int32) : jM := jup (jup (jcopy (jup (jup M b 1 (nI 1)) b 2 s) v (b + 1) 4) b 3 c) b 10 (-4)
def kSums (M : jM) (c b : Nat) : jM := jcopyF (jcopy M (c + 1) (b + 1) 128) c b 1 2
def kTable (M : jM) (c b : Nat) : jM := jcopyF (kSums (jcopy M (c + 1) (b + 1) 150) (c + 2) (b + 2)) c b 2 3
def kStm (M : jM) (u t : Nat) : jM := jcopyF (jcopy (jcopy M (u + 1) (t + 1) 4) (u + 2) (t + 2) 4) u t 2 4
def kLast (M : jM) (c b : Nat) : jM := jcopyF (jcopy M (c + 1) (b + 1) 4) c b 1 11
def kPl (M : jM) (R : jR) (c b : Nat) : Nat → jM
  | 0 => M
  | k + 1 => jcopy (kPl M R c b k) (pa R c k) (pa R b k) 9
def kShelf (M : jM) (R : jR) (c b : Nat) : jM := jcopyF (kPl M R c b 8) c b 2 6
def kStms (M : jM) (e a : Nat) : Nat → jM
  | 0 => M
  | t + 1 => kStm (kStms M e a t) (e + 25 + 3 * t) (a + 25 + 3 * t)
def kSt5 (M : jM) (R : jR) (e a : Nat) : jM := kLast (kShelf (kStms (kSums (kTable M (e + 1) (a + 1)) (e + 5) (a + 5)) e a 6) R (e + 11) (a + 11)) (e + 22) (a + 22)
def kState (M : jM) (R : jR) (e a : Nat) : jM := jcopyF (jcopy (kSt5 M R e a) (e + 24) (a + 24) 5) e a 7 12
theorem kSums_o (M : jM) {c b x : Nat} (h : x < b ∨ b + 2 ≤ x) : kSums M c b x = M x := by
  rw [kSums, jcopyF_o _ (by omega), jcopy_o _ (by omega)]
theorem kTable_o (M : jM) {c b x : Nat} (h : x < b ∨ b + 4 ≤ x) : kTable M c b x = M x := by
  rw [kTable, jcopyF_o _ (by omega), kSums_o _ (by omega), jcopy_o _ (by omega)]
theorem kStm_o (M : jM) {u t x : Nat} (h : x < t ∨ t + 3 ≤ x) : kStm M u t x = M x := by
  rw [kStm, jcopyF_o _ (by omega), jcopy_o _ (by omega), jcopy_o _ (by omega)]
theorem kLast_o (M : jM) {c b x : Nat} (h : x < b ∨ b + 2 ≤ x) : kLast M c b x = M x := by
  rw [kLast, jcopyF_o _ (by omega), jcopy_o _ (by omega)]
theorem kPl_o (M : jM) {R : jR} {c b x : Nat} (hb : SR R b) (h : x < b + 3 ∨ b + 11 ≤ x) : ∀ n, n ≤ 8 → kPl M R c b n x = M x
  | 0, _ => rfl
  | n + 1, hn => by
    obtain ⟨j, hj, e⟩ := hb.rg (show n < 8 by omega)
    rw [kPl, jcopy_o _ (by omega), kPl_o M hb h n (by omega)]
theorem kShelf_o (M : jM) {R : jR} {c b x : Nat} (hb : SR R b) (h : x < b ∨ b + 11 ≤ x) : kShelf M R c b x = M x := by
  rw [kShelf, jcopyF_o _ (by omega), kPl_o M hb (by omega) 8 (Nat.le_refl 8)]
theorem kStms_o (M : jM) {e a x : Nat} : ∀ n, (x < a + 25 ∨ a + 25 + 3 * n ≤ x) → kStms M e a n x = M x
  | 0, _ => rfl
  | n + 1, h => by rw [kStms, kStm_o _ (by omega), kStms_o M n (by omega)]
def jswap (R : jR) (b p q : Nat) : jR := jup (jup R (b + 1) p (some (pa R b q))) (b + 1) q (some (pa R b p))
theorem pa_o (R : jR) {b c p q k : Nat} (h : b ≠ c) : pa (jswap R c p q) b k = pa R b k := by
  simp only [pa, jswap]
  rw [jup_na _ _ (by omega), jup_na _ _ (by omega)]
theorem pa_swap (R : jR) (b p q k : Nat) : pa (jswap R b p q) b k = if k = q then pa R b p else if k = p then pa R b q else pa R b k := by
  simp only [pa, jswap, jup]
  by_cases h1 : k = q
  · simp [h1, pa]
  · by_cases h2 : k = p
    · simp [h1, h2, pa]
      split <;> rfl
    · simp [h1, h2]
theorem SR_swap {R : jR} {b p q : Nat} (h : SR R b) (hp : p < 8) (hq : q < 8) : SR (jswap R b p q) b := by
  have key : ∀ k, k < 8 → ∃ k', k' < 8 ∧ (jswap R b p q) (b + 1) k = R (b + 1) k' ∧ k' = (if k = q then p else if k = p then q else k) := by
    intro k hk
    simp only [jswap, jup]
    by_cases h1 : k = q
    · exact ⟨p, hp, by simp [h1, h.at hp], by simp [h1]⟩
    · by_cases h2 : k = p
      · refine ⟨q, hq, ?_, by simp [h2]; intro h3; exact absurd (h2.trans h3) h1⟩
        simp only [h1, h2, and_false, and_true, if_true, if_false, true_and]
        rw [if_neg (fun h3 => h1 (h2.trans h3)), h.at hq]
      · exact ⟨k, hk, by simp [h1, h2], by simp [h1, h2]⟩
  refine ⟨fun k hk => ?_, fun i j hi hj e => ?_⟩
  · obtain ⟨k', hk', e, -⟩ := key k hk
    rw [e]
    exact h.1 k' hk'
  · obtain ⟨i', hi', e1, f1⟩ := key i hi
    obtain ⟨j', hj', e2, f2⟩ := key j hj
    rw [e1, e2] at e
    have e3 := h.2 i' j' hi' hj' e
    rw [f1, f2] at e3
    by_cases a1 : i = q <;> by_cases a2 : i = p <;> by_cases a3 : j = q <;> by_cases a4 : j = p <;> simp only [a1, a2, a3, a4, if_true, if_false] at e3 <;> (try split at e3) <;> omega
theorem SR_o {R : jR} {b c p q : Nat} (h : SR R b) (hbc : b ≠ c) : SR (jswap R c p q) b := by
  have e : ∀ k, (jswap R c p q) (b + 1) k = R (b + 1) k := fun k => by
    simp only [jswap]
    rw [jup_na _ _ (by omega), jup_na _ _ (by omega)]
  refine ⟨fun k hk => ?_, fun i j hi hj q => ?_⟩
  · rw [e]; exact h.1 k hk
  · rw [e, e] at q; exact h.2 i j hi hj q
/-- a plan leaves the shelf -/
def rRem (M : jM) (b n : Nat) : jM := jup M b 2 (nI (n - 1))
def rThr (M : jM) (b n : Nat) : jM := jup (rRem M b n) b 5 (M b 5 + nI 1)
/-- a place that is told by an Int32, -1 for none: what is thrown away -/
def rThrM (M : jM) (b n : Nat) (p : Int32) : jM := if p < 0 then M else if nI n ≤ p then M else rThr M b n
def rThrR (R : jR) (b n : Nat) (p : Int32) : jR := if p < 0 then R else if nI n ≤ p then R else jswap R b p.toNatClampNeg (n - 1)
def rPut (M : jM) (b : Nat) (r w x : Int32) : jM := if r * nI 5 + w < 0 then M else if nI 150 ≤ r * nI 5 + w then M else jup M (b + 1) (r * nI 5 + w).toNatClampNeg x
theorem rPut_N (M : jM) (b : Nat) {r w : Nat} (x : Int32) (h : r * 5 + w < 150) : rPut M b (nI r) (nI w) x = jup M (b + 1) (r * 5 + w) x := by
  have e : nI r * nI 5 + nI w = nI (r * 5 + w) := by rw [pk_mul, nI_add]
  simp only [rPut, e, if_neg (nI_pos (show r * 5 + w < 2 ^ 31 by omega)), if_neg (nI_ge h (by decide)), nI_clamp (show r * 5 + w < 2 ^ 31 by omega)]
/-- the values of v go into row r -/
def rPutV (M : jM) (b v : Nat) (r : Int32) : Nat → jM
  | 0 => M
  | k + 1 => rPut (rPutV M b v r k) b r (nI k) (rAt (rPutV M b v r k v) 4 (nI k))
def rATS (M : jM) (b : Nat) (r w : Int32) : Nat → jM
  | 0 => M
  | k + 1 => rAddM (rATS M b r w k) (b + 2) (nI k) (rCell (rATS M b r w k) b r (nI k)) w
def rAddTo (M : jM) (b : Nat) (r w : Int32) : jM := jup (rATS M b r w 4) (b + 2) 1 (rATS M b r w 4 (b + 2) 1 + w)
def rApp (M : jM) (b v : Nat) (w : Int32) : jM :=
  let M1 := rPutV M b v (M b 2) 4
  let M2 := rPut M1 b (M1 b 2) (nI 4) w
  let M3 := rAddTo M2 b (M2 b 2) w
  jup M3 b 2 (M3 b 2 + nI 1)
/-- the cells of the table move down by one row, from place 5 r on, to place p -/
def rShift (M : jM) (b r p : Nat) : jM := fun x j => if x = b + 1 ∧ r * 5 ≤ j ∧ j < p then M x (j + 5) else M x j
def rDel (M : jM) (b r n : Nat) : jM :=
  let w := rCell M b (nI r) (nI 4)
  let M1 := rAddTo M b (nI r) (-w)
  rShift (jup M1 b 2 (nI (n - 1))) b r (5 * (n - 1))
def rUse7 (M : jM) (a p t v : Nat) : jM :=
  let M1 := jup M p 5 (M p 5 + nI 1)
  let M2 := jup M1 p 8 (M1 a 9)
  let M3 := jup M2 (a + 22) 4 (M2 p 0)
  let M4 := jup M3 (a + 22) 5 (M3 p 3)
  let M5 := jup M4 (a + 22) 6 (M4 p 4)
  let M6 := jup M5 (a + 22) 7 (rCost M5 (a + 3) t v (M5 p 3))
  jup M6 (a + 22) 9 (if M6 (a + 22) 7 ≤ M6 (a + 24) 2 * M6 p 4 then nI 0 else nI 1)
def rSur2 (M : jM) (a p : Nat) : jM :=
  let M1 := jup M a 11 (M a 11 + nI 1)
  jup M1 p 6 (M1 p 6 + nI 1)
/-- the plan p surprises: what is then -/
def rSurM (M : jM) (R : jR) (a p n : Nat) : jM := if rSur2 M a p p 6 < rSur2 M a p (a + 24) 3 then rSur2 M a p else rThrM (rSur2 M a p) (a + 11) n (rFirst (qNum (rSur2 M a p) R (a + 11) (rSur2 M a p p 0)) n)
def rSurR (M : jM) (R : jR) (a p n : Nat) : jR := if rSur2 M a p p 6 < rSur2 M a p (a + 24) 3 then R else rThrR R (a + 11) n (rFirst (qNum (rSur2 M a p) R (a + 11) (rSur2 M a p p 0)) n)
def rUseM (M : jM) (R : jR) (a p t v n : Nat) : jM := if rUse7 M a p t v (a + 22) 9 = 0 then rUse7 M a p t v else rSurM (rUse7 M a p t v) R a p n
def rUseR (M : jM) (R : jR) (a p t v n : Nat) : jR := if rUse7 M a p t v (a + 22) 9 = 0 then R else rSurR (rUse7 M a p t v) R a p n
end
section
theorem j_mem {X : jX} {ω : jW} {γ : jG} {M : jM} {R : jR} {cells slots pc : Nat} {l : List (Nat × Value)} {st : List Value} (M' : jM) (h : M = M') (k : J X ω γ M' R cells slots pc l st) : J X ω γ M R cells slots pc l st := h ▸ k
theorem rPut_o (M : jM) {b x : Nat} {r w v : Int32} (h : x ≠ b + 1) : rPut M b r w v x = M x := by
  unfold rPut
  split
  · rfl
  · split
    · rfl
    · exact jup_row _ _ h
theorem rPutV_o (M : jM) {b v x : Nat} {r : Int32} (h : x ≠ b + 1) : ∀ k, rPutV M b v r k x = M x
  | 0 => rfl
  | k + 1 => by rw [rPutV, rPut_o _ h, rPutV_o M h k]
theorem rAddM_o (M : jM) {b x : Nat} {c v w : Int32} (h : x ≠ b + 1) : rAddM M b c v w x = M x := by
  unfold rAddM
  split
  · rfl
  · split
    · rfl
    · exact jup_row _ _ h
theorem rATS_o (M : jM) {b x : Nat} {r w : Int32} (h : x ≠ b + 3) : ∀ k, rATS M b r w k x = M x
  | 0 => rfl
  | k + 1 => by rw [rATS, rAddM_o _ (by omega), rATS_o M h k]
theorem rAddTo_o (M : jM) {b x : Nat} {r w : Int32} (h : x ≠ b + 2) (h3 : x ≠ b + 3) : rAddTo M b r w x = M x := by
  rw [rAddTo, jup_row _ _ h, rATS_o _ h3]
theorem rShift_0 (M : jM) (b r : Nat) : rShift M b r (r * 5) = M := by
  funext x j
  simp only [rShift]
  rw [if_neg (by omega)]
theorem rShift_o (M : jM) {b r p x : Nat} (h : x ≠ b + 1) : rShift M b r p x = M x := funext fun j => if_neg fun q => h q.1
theorem rShift_s (M : jM) {b r p : Nat} (h : r * 5 ≤ p) : jup (rShift M b r p) (b + 1) p (rShift M b r p (b + 1) (p + 5)) = rShift M b r (p + 1) := by
  have e : rShift M b r p (b + 1) (p + 5) = M (b + 1) (p + 5) := if_neg (by omega)
  rw [e]
  funext x j
  simp only [jup, rShift]
  by_cases hx : x = b + 1
  · subst hx
    by_cases hj : j = p
    · subst hj
      simp [h]
    · by_cases h2 : r * 5 ≤ j ∧ j < p
      · simp [hj, h2, show j < p + 1 by omega]
      · rw [if_neg (by omega), if_neg (by omega), if_neg (by omega)]
  · simp [hx]
def rNewP (M : jM) (R : jR) (b : Nat) (cap : Int32) (n : Nat) : Nat := if cap ≤ M b 2 then b + 2 else if M b 2 < nI 8 then pa R b n else b + 2
def rNewM (M : jM) (R : jR) (b : Nat) (s c cap : Int32) (n : Nat) : jM :=
  if cap ≤ M b 2 then rPBegin M (b + 2) (-4) s c
  else if M b 2 < nI 8 then
    jup (jup (rPBegin M (pa R b n) (M b 3) s c) b 2 (rPBegin M (pa R b n) (M b 3) s c b 2 + nI 1)) b 3 (jup (rPBegin M (pa R b n) (M b 3) s c) b 2 (rPBegin M (pa R b n) (M b 3) s c b 2 + nI 1) b 3 + nI 1)
  else rPBegin M (b + 2) (-4) s c
end
section
set_option maxHeartbeats 4000000 in
set_option maxRecDepth 100000 in
theorem c_X9_within (l : Launch) (ω : jW) (γ : jG) (M : jM) (R : jR) (x a b : Int32) : Ct l ω yX9_within cX9_within 3 (some .boolean) 1 0 0 [.int x, .int a, .int b] γ M R (jx γ (some (.int (rIn x a b))) M R) := by
  refine Ct_of (by decide) (Nat.le_of_ble_eq_true rfl) rfl (jcat_of rfl) ?_
  intro X C E hnm hxl hxn
  subst hxl
  refine j_iload_n C dX9_within_0 rfl ?_
  refine j_iload_n C dX9_within_1 rfl ?_
  refine j_icmp_lt C 14 dX9_within_2 (by decide) (fun h2 => ?_) (fun h2 => ?_)
  · skip
    refine j_iconst C (nI 0) dX9_within_14 (by decide) ?_
    exact j_ireturn C E dX9_within_15 (by decide) (by decide) (by decide) (⟨by simp only [rIn, if_pos h2], rfl, rfl, rfl⟩)
  · skip
    refine j_iload_n C dX9_within_5 rfl ?_
    refine j_iload_n C dX9_within_6 rfl ?_
    refine j_icmp_gt C 14 dX9_within_7 (by decide) (fun h7 => ?_) (fun h7 => ?_)
    · skip
      refine j_iconst C (nI 0) dX9_within_14 (by decide) ?_
      exact j_ireturn C E dX9_within_15 (by decide) (by decide) (by decide) (⟨by simp only [rIn, if_neg h2, if_pos h7], rfl, rfl, rfl⟩)
    · skip
      refine j_iconst C (nI 1) dX9_within_10 (by decide) ?_
      refine j_goto C 15 dX9_within_11 (by decide) ?_
      exact j_ireturn C E dX9_within_15 (by decide) (by decide) (by decide) (⟨by simp only [rIn, if_neg h2, if_neg h7], rfl, rfl, rfl⟩)

set_option maxHeartbeats 4000000 in
set_option maxRecDepth 100000 in
theorem c_X9_isValue (l : Launch) (ω : jW) (γ : jG) (M : jM) (R : jR) (x : Int32) : Ct l ω yX9_isValue cX9_isValue 1 (some .boolean) 2 0 0 [.int x] γ M R (jx γ (some (.int (rIn x (nI 0) (nI 31)))) M R) := by
  refine Ct_of (by decide) (Nat.le_of_ble_eq_true rfl) rfl (jcat_of rfl) ?_
  intro X C E hnm hxl hxn
  subst hxl
  refine j_iload_n C dX9_isValue_0 rfl ?_
  refine j_iconst C (nI 0) dX9_isValue_1 (by decide) ?_
  refine j_bipush C (nI 31) dX9_isValue_2 (by decide) ?_
  refine j_cSi C (c_X9_within _ _ _ _ _ _ _ _) yc_X9_within mn_X9_38 st_X9_within dX9_isValue_4 rfl rfl (Nat.le_of_ble_eq_true rfl) (by decide) ?_
  exact j_ireturn C E dX9_isValue_7 ((rIn_B _ _ _).nar) (by decide) (by decide) (⟨rfl, rfl, rfl, rfl⟩)

set_option maxHeartbeats 4000000 in
set_option maxRecDepth 100000 in
theorem c_X9_isColumn (l : Launch) (ω : jW) (γ : jG) (M : jM) (R : jR) (x : Int32) : Ct l ω yX9_isColumn cX9_isColumn 1 (some .boolean) 2 0 0 [.int x] γ M R (jx γ (some (.int (rIn x (nI 0) (nI 3)))) M R) := by
  refine Ct_of (by decide) (Nat.le_of_ble_eq_true rfl) rfl (jcat_of rfl) ?_
  intro X C E hnm hxl hxn
  subst hxl
  refine j_iload_n C dX9_isColumn_0 rfl ?_
  refine j_iconst C (nI 0) dX9_isColumn_1 (by decide) ?_
  refine j_iconst C (nI 3) dX9_isColumn_2 (by decide) ?_
  refine j_cSi C (c_X9_within _ _ _ _ _ _ _ _) yc_X9_within mn_X9_38 st_X9_within dX9_isColumn_3 rfl rfl (Nat.le_of_ble_eq_true rfl) (by decide) ?_
  exact j_ireturn C E dX9_isColumn_6 ((rIn_B _ _ _).nar) (by decide) (by decide) (⟨rfl, rfl, rfl, rfl⟩)

set_option maxHeartbeats 4000000 in
set_option maxRecDepth 100000 in
theorem c_X9_at (l : Launch) (ω : jW) (γ : jG) (M : jM) (R : jR) {a n : Nat} (hA : jArr ω γ a 12 n) (hn : n < 2 ^ 31) (p : Int32) : Ct l ω yX9_at cX9_at 2 (some .int) 1 0 0 [.ref a, .int p] γ M R (jx γ (some (.int (rAt (M a) n p))) M R) := by
  refine Ct_of (by decide) (Nat.le_of_ble_eq_true rfl) rfl (jcat_of rfl) ?_
  intro X C E hnm hxl hxn
  subst hxl
  refine j_iload_n C dX9_at_0 rfl ?_
  refine j_if_lt C 16 dX9_at_1 (by decide) (fun h1 => ?_) (fun h1 => ?_)
  · skip
    refine j_iconst C (nI 0) dX9_at_16 (by decide) ?_
    exact j_ireturn C E dX9_at_17 (rfl) (by decide) (by decide) (⟨by simp only [rAt, if_pos h1], rfl, rfl, rfl⟩)
  · skip
    refine j_iload_n C dX9_at_4 rfl ?_
    refine j_aload_n C dX9_at_5 rfl ?_
    refine j_alen C (by assumption) rfl (by decide) dX9_at_6 ?_
    refine j_icmp_ge C 16 dX9_at_7 (by decide) (fun h7 => ?_) (fun h7 => ?_)
    · skip
      refine j_iconst C (nI 0) dX9_at_16 (by decide) ?_
      exact j_ireturn C E dX9_at_17 (rfl) (by decide) (by decide) (⟨by simp only [rAt, if_neg h1, if_pos h7], rfl, rfl, rfl⟩)
    · skip
      refine j_aload_n C dX9_at_10 rfl ?_
      refine j_iload_n C dX9_at_11 rfl ?_
      refine j_iald C (by assumption) (in_of h1 h7 hn) dX9_at_12 ?_
      refine j_goto C 17 dX9_at_13 (by decide) ?_
      exact j_ireturn C E dX9_at_17 (rfl) (by decide) (by decide) (⟨by simp only [rAt, if_neg h1, if_neg h7], rfl, rfl, rfl⟩)

set_option maxHeartbeats 4000000 in
set_option maxRecDepth 100000 in
theorem c_X9_atT (l : Launch) (ω : jW) (γ : jG) (M : jM) (R : jR) {t n : Nat} {f : Nat → Int32} (hn : n < 2 ^ 31) (hT : ∀ s : State, jXi ω s s.heap → va_T .int t n (fun j => .int (f j)) (jA ω) s s.heap) (p : Int32) : Ct l ω yX9_at cX9_at 2 (some .int) 1 0 0 [.ref t, .int p] γ M R (jx γ (some (.int (rAt f n p))) M R) := by
  refine Ct_of (by decide) (Nat.le_of_ble_eq_true rfl) rfl (jcat_of rfl) ?_
  intro X C E hnm hxl hxn
  subst hxl
  refine j_iload_n C dX9_at_0 rfl ?_
  refine j_if_lt C 16 dX9_at_1 (by decide) (fun h1 => ?_) (fun h1 => ?_)
  · skip
    refine j_iconst C (nI 0) dX9_at_16 (by decide) ?_
    exact j_ireturn C E dX9_at_17 (rfl) (by decide) (by decide) (⟨by simp only [rAt, if_pos h1], rfl, rfl, rfl⟩)
  · skip
    refine j_iload_n C dX9_at_4 rfl ?_
    refine j_aload_n C dX9_at_5 rfl ?_
    refine j_tlen C (hT _ C.xi) dX9_at_6 ?_
    refine j_icmp_ge C 16 dX9_at_7 (by decide) (fun h7 => ?_) (fun h7 => ?_)
    · skip
      refine j_iconst C (nI 0) dX9_at_16 (by decide) ?_
      exact j_ireturn C E dX9_at_17 (rfl) (by decide) (by decide) (⟨by simp only [rAt, if_neg h1, if_pos h7], rfl, rfl, rfl⟩)
    · skip
      refine j_aload_n C dX9_at_10 rfl ?_
      refine j_iload_n C dX9_at_11 rfl ?_
      refine j_tald C (hT _ C.xi) (in_of h1 h7 hn) dX9_at_12 ?_
      refine j_goto C 17 dX9_at_13 (by decide) ?_
      exact j_ireturn C E dX9_at_17 (rfl) (by decide) (by decide) (⟨by simp only [rAt, if_neg h1, if_neg h7], rfl, rfl, rfl⟩)

set_option maxHeartbeats 4000000 in
set_option maxRecDepth 100000 in
theorem c_X9_holds (l : Launch) (ω : jW) (γ : jG) (M : jM) (R : jR) (x op v : Int32) : Ct l ω yX9_holds cX9_holds 3 (some .boolean) 1 0 0 [.int x, .int op, .int v] γ M R (jx γ (some (.int (rHolds x op v))) M R) := by
  refine Ct_of (by decide) (Nat.le_of_ble_eq_true rfl) rfl (jcat_of rfl) ?_
  intro X C E hnm hxl hxn
  subst hxl
  refine j_iload_n C dX9_holds_0 rfl ?_
  by_cases s1 : op = nI 1
  · skip
    refine j_lookup C 28 dX9_holds_1 (by decide) (off := 27) (by rw [s1]; decide) (by decide) ?_
    refine j_iload_n C dX9_holds_28 rfl ?_
    refine j_iload_n C dX9_holds_29 rfl ?_
    refine j_icmp_ge C 37 dX9_holds_30 (by decide) (fun h30 => ?_) (fun h30 => ?_)
    · skip
      refine j_iconst C (nI 0) dX9_holds_37 (by decide) ?_
      exact j_ireturn C E dX9_holds_38 (by decide) (by decide) (by decide) (⟨by simp only [rHolds, if_pos s1, if_pos h30], rfl, rfl, rfl⟩)
    · skip
      refine j_iconst C (nI 1) dX9_holds_33 (by decide) ?_
      refine j_goto C 38 dX9_holds_34 (by decide) ?_
      exact j_ireturn C E dX9_holds_38 (by decide) (by decide) (by decide) (⟨by simp only [rHolds, if_pos s1, if_neg h30], rfl, rfl, rfl⟩)
  by_cases s2 : op = nI 2
  · skip
    refine j_lookup C 39 dX9_holds_1 (by decide) (off := 38) (by rw [s2]; decide) (by decide) ?_
    refine j_iload_n C dX9_holds_39 rfl ?_
    refine j_iload_n C dX9_holds_40 rfl ?_
    refine j_icmp_le C 48 dX9_holds_41 (by decide) (fun h41 => ?_) (fun h41 => ?_)
    · skip
      refine j_iconst C (nI 0) dX9_holds_48 (by decide) ?_
      exact j_ireturn C E dX9_holds_49 (by decide) (by decide) (by decide) (⟨by simp only [rHolds, if_neg s1, if_pos s2, if_pos h41], rfl, rfl, rfl⟩)
    · skip
      refine j_iconst C (nI 1) dX9_holds_44 (by decide) ?_
      refine j_goto C 49 dX9_holds_45 (by decide) ?_
      exact j_ireturn C E dX9_holds_49 (by decide) (by decide) (by decide) (⟨by simp only [rHolds, if_neg s1, if_pos s2, if_neg h41], rfl, rfl, rfl⟩)
  refine j_lookup C 50 dX9_holds_1 (by decide) (off := 49) (by show Op.lookupswitch.offset [(1, 27), (2, 38)] 49 op.toInt = 49; rw [lv_osw (k := nI 1) (a := 1) s1 (by decide), lv_osw (k := nI 2) (a := 2) s2 (by decide)]; rfl) (by decide) ?_
  refine j_iload_n C dX9_holds_50 rfl ?_
  refine j_iload_n C dX9_holds_51 rfl ?_
  refine j_icmp_ne C 59 dX9_holds_52 (by decide) (fun h52 => ?_) (fun h52 => ?_)
  · skip
    refine j_iconst C (nI 0) dX9_holds_59 (by decide) ?_
    exact j_ireturn C E dX9_holds_60 (by decide) (by decide) (by decide) (⟨by simp only [rHolds, if_neg s1, if_neg s2, if_neg h52], rfl, rfl, rfl⟩)
  · skip
    refine j_iconst C (nI 1) dX9_holds_55 (by decide) ?_
    refine j_goto C 60 dX9_holds_56 (by decide) ?_
    exact j_ireturn C E dX9_holds_60 (by decide) (by decide) (by decide) (⟨by simp only [rHolds, if_neg s1, if_neg s2, if_pos h52], rfl, rfl, rfl⟩)

set_option maxHeartbeats 4000000 in
set_option maxRecDepth 100000 in
theorem c_X9_copy (l : Launch) (ω : jW) (γ : jG) (M : jM) (R : jR) {a b n : Nat} (hA : jArr ω γ a 12 n) (hB : jArr ω γ b 12 n) (hn : n < 2 ^ 31) (hab : a ≠ b) : Ct l ω yX9_copy cX9_copy 3 none 1 0 0 [.ref a, .ref b] γ M R (jx γ none (jcopy M a b n) R) := by
  refine Ct_of (by decide) (Nat.le_of_ble_eq_true rfl) rfl (jcat_of rfl) ?_
  intro X C E hnm hxl hxn
  subst hxl
  refine j_iconst C (nI 0) dX9_copy_0 (by decide) ?_
  refine j_istore_n C dX9_copy_1 (by rw [hxn]; decide) ?_
  rw [show M = jcopy M a b 0 from (jcopy_0 M a b).symm]
  refine j_loop n (fun k => [(0, .ref a), (1, .ref b), (2, .int (nI k))]) (fun k => jcopy M a b k) (fun _ => R) (fun _ => True) trivial (fun k hk _ ih => ?_) (fun _ => ?_)
  · skip
    refine j_iload_n C dX9_copy_2 rfl ?_
    refine j_aload_n C dX9_copy_3 rfl ?_
    refine j_alen C (by assumption) rfl (by decide) dX9_copy_4 ?_
    refine j_icmp_ge C 26 dX9_copy_5 (by decide) (fun h => absurd h (nI_ge hk hn)) (fun _ => ?_)
    refine j_iload_n C dX9_copy_8 rfl ?_
    refine j_aload_n C dX9_copy_9 rfl ?_
    refine j_alen C (by assumption) rfl (by decide) dX9_copy_10 ?_
    refine j_icmp_ge C 26 dX9_copy_11 (by decide) (fun h => absurd h (nI_ge hk hn)) (fun _ => ?_)
    refine j_aload_n C dX9_copy_14 rfl ?_
    refine j_iload_n C dX9_copy_15 rfl ?_
    refine j_aload_n C dX9_copy_16 rfl ?_
    refine j_iload_n C dX9_copy_17 rfl ?_
    refine j_iald C (i := nI k) hA (vp_in_nI hk hn) dX9_copy_18 ?_
    rw [nI_clamp (by omega)]
    refine j_iast C (i := nI k) hB (vp_in_nI hk hn) dX9_copy_19 ?_
    rw [nI_clamp (by omega), jcopy_s M hab]
    first | refine j_iinc1 C dX9_copy_20 rfl (by rw [hxn]; decide) ?_ | refine j_iinc C _ dX9_copy_20 rfl rfl (by rw [hxn]; decide) ?_
    refine j_goto C 2 dX9_copy_23 (by decide) ?_
    exact ih trivial
  · skip
    refine j_iload_n C dX9_copy_2 rfl ?_
    refine j_aload_n C dX9_copy_3 rfl ?_
    refine j_alen C (by assumption) rfl (by decide) dX9_copy_4 ?_
    refine j_icmp_ge C 26 dX9_copy_5 (by decide) (fun _ => ?_) (fun h => absurd (Int32.le_refl _) h)
    exact j_return C E dX9_copy_26 (by decide) (by decide) (⟨rfl, rfl, rfl, rfl⟩)

set_option maxHeartbeats 4000000 in
set_option maxRecDepth 100000 in
theorem c_X6_weightOf (l : Launch) (ω : jW) (γ : jG) (M : jM) (R : jR) {b : Nat} (g : gSums ω γ b) (c v : Int32) : Ct l ω yX6_weightOf cX6_weightOf 4 (some .int) 1 0 0 [.ref b, .int c, .int v] γ M R (jx γ (some (.int (rAt (M (b + 1)) 128 (c * nI 32 + v)))) M R) := by
  refine Ct_of (by decide) (Nat.le_of_ble_eq_true rfl) rfl (jcat_of rfl) ?_
  intro X C E hnm hxl hxn
  subst hxl
  obtain ⟨g0, g1, g2⟩ := g
  refine j_iload_n C dX6_weightOf_0 rfl ?_
  refine j_bipush C (nI 32) dX6_weightOf_1 (by decide) ?_
  first | with_reducible refine j_imulN C dX6_weightOf_3 ?_ | refine j_imul C dX6_weightOf_3 ?_
  refine j_iload_n C dX6_weightOf_4 rfl ?_
  first | with_reducible refine j_iaddN C dX6_weightOf_5 ?_ | refine j_iadd C dX6_weightOf_5 ?_
  refine j_istore_n C dX6_weightOf_6 (by rw [hxn]; decide) ?_
  refine j_iload_n C dX6_weightOf_7 rfl ?_
  refine j_if_lt C 29 dX6_weightOf_8 (by decide) (fun h8 => ?_) (fun h8 => ?_)
  · skip
    refine j_iconst C (nI 0) dX6_weightOf_29 (by decide) ?_
    exact j_ireturn C E dX6_weightOf_30 (rfl) (by decide) (by decide) (⟨by simp only [rAt, if_pos h8], rfl, rfl, rfl⟩)
  · skip
    refine j_iload_n C dX6_weightOf_11 rfl ?_
    refine j_aload_n C dX6_weightOf_12 rfl ?_
    refine j_getR C fl_X6_9 (by assumption) dX6_weightOf_13 (by decide) rfl (by assumption) ?_
    refine j_alen C (by assumption) rfl (by decide) dX6_weightOf_16 ?_
    refine j_icmp_ge C 29 dX6_weightOf_17 (by decide) (fun h17 => ?_) (fun h17 => ?_)
    · skip
      refine j_iconst C (nI 0) dX6_weightOf_29 (by decide) ?_
      exact j_ireturn C E dX6_weightOf_30 (rfl) (by decide) (by decide) (⟨by simp only [rAt, if_neg h8, if_pos h17], rfl, rfl, rfl⟩)
    · skip
      refine j_aload_n C dX6_weightOf_20 rfl ?_
      refine j_getR C fl_X6_9 (by assumption) dX6_weightOf_21 (by decide) rfl (by assumption) ?_
      refine j_iload_n C dX6_weightOf_24 rfl ?_
      refine j_iald C (by assumption) (in_of h8 h17 (by decide)) dX6_weightOf_25 ?_
      refine j_goto C 30 dX6_weightOf_26 (by decide) ?_
      exact j_ireturn C E dX6_weightOf_30 (rfl) (by decide) (by decide) (⟨by simp only [rAt, if_neg h8, if_neg h17], rfl, rfl, rfl⟩)

set_option maxHeartbeats 4000000 in
set_option maxRecDepth 100000 in
theorem c_X6_add (l : Launch) (ω : jW) (γ : jG) (M : jM) (R : jR) {b : Nat} (g : gSums ω γ b) (c v w : Int32) : Ct l ω yX6_add cX6_add 5 none 1 0 0 [.ref b, .int c, .int v, .int w] γ M R (jx γ none (rAddM M b c v w) R) := by
  refine Ct_of (by decide) (Nat.le_of_ble_eq_true rfl) rfl (jcat_of rfl) ?_
  intro X C E hnm hxl hxn
  subst hxl
  obtain ⟨g0, g1, g2⟩ := g
  refine j_iload_n C dX6_add_0 rfl ?_
  refine j_bipush C (nI 32) dX6_add_1 (by decide) ?_
  first | with_reducible refine j_imulN C dX6_add_3 ?_ | refine j_imul C dX6_add_3 ?_
  refine j_iload_n C dX6_add_4 rfl ?_
  first | with_reducible refine j_iaddN C dX6_add_5 ?_ | refine j_iadd C dX6_add_5 ?_
  refine j_istore C dX6_add_6 (by rw [hxn]; decide) ?_
  refine j_iload C dX6_add_8 rfl ?_
  refine j_if_lt C 34 dX6_add_10 (by decide) (fun h10 => ?_) (fun h10 => ?_)
  · skip
    exact j_return C E dX6_add_34 (by decide) (by decide) (⟨rfl, rfl, by simp only [rAddM, if_pos h10], rfl⟩)
  · skip
    refine j_iload C dX6_add_13 rfl ?_
    refine j_aload_n C dX6_add_15 rfl ?_
    refine j_getR C fl_X6_9 (by assumption) dX6_add_16 (by decide) rfl (by assumption) ?_
    refine j_alen C (by assumption) rfl (by decide) dX6_add_19 ?_
    refine j_icmp_ge C 34 dX6_add_20 (by decide) (fun h20 => ?_) (fun h20 => ?_)
    · skip
      exact j_return C E dX6_add_34 (by decide) (by decide) (⟨rfl, rfl, by simp only [rAddM, if_neg h10, if_pos h20], rfl⟩)
    · skip
      refine j_aload_n C dX6_add_23 rfl ?_
      refine j_getR C fl_X6_9 (by assumption) dX6_add_24 (by decide) rfl (by assumption) ?_
      refine j_iload C dX6_add_27 rfl ?_
      refine j_dup2 C dX6_add_29 rfl rfl ?_
      refine j_iald C (by assumption) (in_of h10 h20 (by decide)) dX6_add_30 ?_
      refine j_iload_n C dX6_add_31 rfl ?_
      first | with_reducible refine j_iaddN C dX6_add_32 ?_ | refine j_iadd C dX6_add_32 ?_
      refine j_iast C (by assumption) (in_of h10 h20 (by decide)) dX6_add_33 ?_
      exact j_return C E dX6_add_34 (by decide) (by decide) (⟨rfl, rfl, by simp only [rAddM, if_neg h10, if_neg h20], rfl⟩)

set_option maxHeartbeats 4000000 in
set_option maxRecDepth 100000 in
theorem c_X6_weightWhere (l : Launch) (ω : jW) (γ : jG) (M : jM) (R : jR) {b : Nat} (g : gSums ω γ b) (c op v : Int32) : Ct l ω yX6_weightWhere cX6_weightWhere 6 (some .int) 2 0 0 [.ref b, .int c, .int op, .int v] γ M R (jx γ (some (.int (rWhere M b c op v))) M R) := by
  refine Ct_of (by decide) (Nat.le_of_ble_eq_true rfl) rfl (jcat_of rfl) ?_
  intro X C E hnm hxl hxn
  subst hxl
  have g0 := g.1
  refine j_iconst C (nI 0) dX6_weightWhere_0 (by decide) ?_
  refine j_istore C dX6_weightWhere_1 (by rw [hxn]; decide) ?_
  refine j_iconst C (nI 0) dX6_weightWhere_3 (by decide) ?_
  refine j_istore C dX6_weightWhere_4 (by rw [hxn]; decide) ?_
  refine j_loop 32 (fun k => [(0, .ref b), (1, .int c), (2, .int op), (3, .int v), (4, .int (sI (rWhF M b c op v) k)), (5, .int (nI k))]) (fun _ => M) (fun _ => R) (fun _ => True) trivial (fun k hk _ ih => ?_) (fun _ => ?_)
  · skip
    refine j_iload C dX6_weightWhere_6 rfl ?_
    refine j_bipush C (nI 32) dX6_weightWhere_8 (by decide) ?_
    refine j_icmp_ge C 41 dX6_weightWhere_10 (by decide) (fun h => absurd h (nI_ge hk (by decide))) (fun _ => ?_)
    refine j_iload C dX6_weightWhere_13 rfl ?_
    refine j_iload_n C dX6_weightWhere_15 rfl ?_
    refine j_iload_n C dX6_weightWhere_16 rfl ?_
    refine j_cSi C (c_X9_holds _ ω γ M R (nI k) op v) yc_X9_holds mn_X6_15 st_X9_holds dX6_weightWhere_17 rfl rfl (Nat.le_of_ble_eq_true rfl) (by decide) ?_
    refine j_if_eq C 35 dX6_weightWhere_20 (by decide) (fun h20 => ?_) (fun h20 => ?_)
    · skip
      rw [show sI (rWhF M b c op v) k = sI (rWhF M b c op v) (k + 1) from by simp [sI, rWhF, h20]]
      first | refine j_iinc1 C dX6_weightWhere_35 rfl (by rw [hxn]; decide) ?_ | refine j_iinc C _ dX6_weightWhere_35 rfl rfl (by rw [hxn]; decide) ?_
      refine j_goto C 6 dX6_weightWhere_38 (by decide) ?_
      exact ih trivial
    · skip
      refine j_iload C dX6_weightWhere_23 rfl ?_
      refine j_aload_n C dX6_weightWhere_25 rfl ?_
      refine j_iload_n C dX6_weightWhere_26 rfl ?_
      refine j_iload C dX6_weightWhere_27 rfl ?_
      refine j_cVi C (c_X6_weightOf _ ω γ M R g c (nI k)) yc_X6_weightOf mn_X6_19 im_X6_weightOf se_X6_weightOf rfl rfl dX6_weightWhere_29 rfl rfl (by assumption) (by decide) (Nat.le_of_ble_eq_true rfl) (by decide) ?_
      first | with_reducible refine j_iaddN C dX6_weightWhere_32 ?_ | refine j_iadd C dX6_weightWhere_32 ?_
      refine j_top (sI (rWhF M b c op v) (k + 1)) (by simp [sI, rWhF, h20]) ?_
      refine j_istore C dX6_weightWhere_33 (by rw [hxn]; decide) ?_
      first | refine j_iinc1 C dX6_weightWhere_35 rfl (by rw [hxn]; decide) ?_ | refine j_iinc C _ dX6_weightWhere_35 rfl rfl (by rw [hxn]; decide) ?_
      refine j_goto C 6 dX6_weightWhere_38 (by decide) ?_
      exact ih trivial
  · skip
    refine j_iload C dX6_weightWhere_6 rfl ?_
    refine j_bipush C (nI 32) dX6_weightWhere_8 (by decide) ?_
    refine j_icmp_ge C 41 dX6_weightWhere_10 (by decide) (fun _ => ?_) (fun h => absurd (Int32.le_refl _) h)
    refine j_iload C dX6_weightWhere_41 rfl ?_
    exact j_ireturn C E dX6_weightWhere_43 (rfl) (by decide) (by decide) (⟨rfl, rfl, rfl, rfl⟩)
end
section
set_option maxHeartbeats 4000000 in
set_option maxRecDepth 100000 in
theorem c_X5_hasCondition (l : Launch) (ω : jW) (γ : jG) (M : jM) (R : jR) {t : Nat} (g : gStm ω γ t) (k : Int32) : Ct l ω yX5_hasCondition cX5_hasCondition 2 (some .boolean) 1 0 0 [.ref t, .int k] γ M R (jx γ (some (.int (rHasC M t k))) M R) := by
  refine Ct_of (by decide) (Nat.le_of_ble_eq_true rfl) rfl (jcat_of rfl) ?_
  intro X C E hnm hxl hxn
  subst hxl
  obtain ⟨g0, g1, g2, g3, g4⟩ := g
  refine j_iload_n C dX5_hasCondition_0 rfl ?_
  refine j_if_lt C 16 dX5_hasCondition_1 (by decide) (fun h1 => ?_) (fun h1 => ?_)
  · skip
    refine j_iconst C (nI 0) dX5_hasCondition_16 (by decide) ?_
    exact j_ireturn C E dX5_hasCondition_17 (by decide) (by decide) (by decide) (⟨by simp only [rHasC, if_pos h1], rfl, rfl, rfl⟩)
  · skip
    refine j_iload_n C dX5_hasCondition_4 rfl ?_
    refine j_aload_n C dX5_hasCondition_5 rfl ?_
    refine j_getI C fl_X5_18 (by assumption) dX5_hasCondition_6 (by decide) rfl ?_
    refine j_icmp_ge C 16 dX5_hasCondition_9 (by decide) (fun h9 => ?_) (fun h9 => ?_)
    · skip
      refine j_iconst C (nI 0) dX5_hasCondition_16 (by decide) ?_
      exact j_ireturn C E dX5_hasCondition_17 (by decide) (by decide) (by decide) (⟨by simp only [rHasC, if_neg h1, if_pos h9], rfl, rfl, rfl⟩)
    · skip
      refine j_iconst C (nI 1) dX5_hasCondition_12 (by decide) ?_
      refine j_goto C 17 dX5_hasCondition_13 (by decide) ?_
      exact j_ireturn C E dX5_hasCondition_17 (by decide) (by decide) (by decide) (⟨by simp only [rHasC, if_neg h1, if_neg h9], rfl, rfl, rfl⟩)

set_option maxHeartbeats 4000000 in
set_option maxRecDepth 100000 in
theorem c_X5_columnAt (l : Launch) (ω : jW) (γ : jG) (M : jM) (R : jR) {t : Nat} (g : gStm ω γ t) (k : Int32) : Ct l ω yX5_columnAt cX5_columnAt 2 (some .int) 2 0 0 [.ref t, .int k] γ M R (jx γ (some (.int (rCol M t k))) M R) := by
  refine Ct_of (by decide) (Nat.le_of_ble_eq_true rfl) rfl (jcat_of rfl) ?_
  intro X C E hnm hxl hxn
  subst hxl
  obtain ⟨g0, g1, g2, g3, g4⟩ := g
  refine j_aload_n C dX5_columnAt_0 rfl ?_
  refine j_getR C fl_X5_9 (by assumption) dX5_columnAt_1 (by decide) rfl (by assumption) ?_
  refine j_iload_n C dX5_columnAt_4 rfl ?_
  refine j_cSi C (c_X9_at _ _ _ _ _ (by assumption) (by decide) _) yc_X9_at mn_X5_22 st_X9_at dX5_columnAt_5 rfl rfl (Nat.le_of_ble_eq_true rfl) (by decide) ?_
  exact j_ireturn C E dX5_columnAt_8 (rfl) (by decide) (by decide) (⟨rfl, rfl, rfl, rfl⟩)

set_option maxHeartbeats 4000000 in
set_option maxRecDepth 100000 in
theorem c_X5_operatorAt (l : Launch) (ω : jW) (γ : jG) (M : jM) (R : jR) {t : Nat} (g : gStm ω γ t) (k : Int32) : Ct l ω yX5_operatorAt cX5_operatorAt 2 (some .int) 2 0 0 [.ref t, .int k] γ M R (jx γ (some (.int (rOp M t k))) M R) := by
  refine Ct_of (by decide) (Nat.le_of_ble_eq_true rfl) rfl (jcat_of rfl) ?_
  intro X C E hnm hxl hxn
  subst hxl
  obtain ⟨g0, g1, g2, g3, g4⟩ := g
  refine j_aload_n C dX5_operatorAt_0 rfl ?_
  refine j_getR C fl_X5_15 (by assumption) dX5_operatorAt_1 (by decide) rfl (by assumption) ?_
  refine j_iload_n C dX5_operatorAt_4 rfl ?_
  refine j_cSi C (c_X9_at _ _ _ _ _ (by assumption) (by decide) _) yc_X9_at mn_X5_22 st_X9_at dX5_operatorAt_5 rfl rfl (Nat.le_of_ble_eq_true rfl) (by decide) ?_
  exact j_ireturn C E dX5_operatorAt_8 (rfl) (by decide) (by decide) (⟨rfl, rfl, rfl, rfl⟩)

set_option maxHeartbeats 4000000 in
set_option maxRecDepth 100000 in
theorem c_X5_takes (l : Launch) (ω : jW) (γ : jG) (M : jM) (R : jR) {t : Nat} (g : gStm ω γ t) (k v : Int32) : Ct l ω yX5_takes cX5_takes 3 (some .boolean) 3 0 0 [.ref t, .int k, .int v] γ M R (jx γ (some (.int (rTakes M t k v))) M R) := by
  refine Ct_of (by decide) (Nat.le_of_ble_eq_true rfl) rfl (jcat_of rfl) ?_
  intro X C E hnm hxl hxn
  subst hxl
  have g0 := g.1
  refine j_aload_n C dX5_takes_0 rfl ?_
  refine j_iload_n C dX5_takes_1 rfl ?_
  refine j_cVi C (c_X5_hasCondition _ _ _ _ _ (by assumption) _) yc_X5_hasCondition mn_X5_26 im_X5_hasCondition se_X5_hasCondition rfl rfl dX5_takes_2 rfl rfl (by assumption) (by decide) (Nat.le_of_ble_eq_true rfl) (by decide) ?_
  refine j_if_eq C 15 dX5_takes_5 (by decide) (fun h5 => ?_) (fun h5 => ?_)
  · skip
    refine j_iload_n C dX5_takes_15 rfl ?_
    refine j_if_ne C 23 dX5_takes_16 (by decide) (fun h16 => ?_) (fun h16 => ?_)
    · skip
      refine j_iconst C (nI 0) dX5_takes_23 (by decide) ?_
      exact j_ireturn C E dX5_takes_24 (by first | exact nb0 | exact nb1 | exact (rIn_B _ _ _).nar) (by decide) (by decide) (⟨by simp only [rTakes, if_pos h5, if_neg h16], rfl, rfl, rfl⟩)
    · skip
      refine j_iconst C (nI 1) dX5_takes_19 (by decide) ?_
      refine j_goto C 24 dX5_takes_20 (by decide) ?_
      exact j_ireturn C E dX5_takes_24 (by first | exact nb0 | exact nb1 | exact (rIn_B _ _ _).nar) (by decide) (by decide) (⟨by simp only [rTakes, if_pos h5, if_pos h16], rfl, rfl, rfl⟩)
  · skip
    refine j_iload_n C dX5_takes_8 rfl ?_
    refine j_cSi C (c_X9_isValue _ _ _ _ _ _) yc_X9_isValue mn_X5_30 st_X9_isValue dX5_takes_9 rfl rfl (Nat.le_of_ble_eq_true rfl) (by decide) ?_
    refine j_goto C 24 dX5_takes_12 (by decide) ?_
    exact j_ireturn C E dX5_takes_24 (by first | exact nb0 | exact nb1 | exact (rIn_B _ _ _).nar) (by decide) (by decide) (⟨by simp only [rTakes, if_neg h5], rfl, rfl, rfl⟩)

set_option maxHeartbeats 4000000 in
set_option maxRecDepth 100000 in
theorem c_X9_cost (l : Launch) (ω : jW) (γ : jG) (M : jM) (R : jR) {b t v : Nat} (g : gSums ω γ b) (gt : gStm ω γ t) (gv : jArr ω γ v 12 4) (w : Int32) : Ct l ω yX9_cost cX9_cost 4 (some .int) 3 0 0 [.ref b, .ref t, .ref v, .int w] γ M R (jx γ (some (.int (rCost M b t v w))) M R) := by
  refine Ct_of (by decide) (Nat.le_of_ble_eq_true rfl) rfl (jcat_of rfl) ?_
  intro X C E hnm hxl hxn
  subst hxl
  have g0 := g.1
  have gt0 := gt.1
  refine j_iload_n C dX9_cost_0 rfl ?_
  refine j_bipush C (nI 9) dX9_cost_1 (by decide) ?_
  refine j_icmp_ne C 11 dX9_cost_3 (by decide) (fun h3 => ?_) (fun h3 => ?_)
  · skip
    refine j_bipush C (nI 10) dX9_cost_11 (by decide) ?_
    refine j_aload_n C dX9_cost_13 rfl ?_
    refine j_aload_n C dX9_cost_14 rfl ?_
    refine j_iload_n C dX9_cost_15 rfl ?_
    refine j_cVi C (c_X5_columnAt _ _ _ _ _ (by assumption) _) yc_X5_columnAt mn_X9_147 im_X5_columnAt se_X5_columnAt rfl rfl dX9_cost_16 rfl rfl (by assumption) (by decide) (Nat.le_of_ble_eq_true rfl) (by decide) ?_
    refine j_aload_n C dX9_cost_19 rfl ?_
    refine j_iload_n C dX9_cost_20 rfl ?_
    refine j_cVi C (c_X5_operatorAt _ _ _ _ _ (by assumption) _) yc_X5_operatorAt mn_X9_150 im_X5_operatorAt se_X5_operatorAt rfl rfl dX9_cost_21 rfl rfl (by assumption) (by decide) (Nat.le_of_ble_eq_true rfl) (by decide) ?_
    refine j_aload_n C dX9_cost_24 rfl ?_
    refine j_iload_n C dX9_cost_25 rfl ?_
    refine j_cSi C (c_X9_at _ _ _ _ _ (by assumption) (by decide) _) yc_X9_at mn_X9_194 st_X9_at dX9_cost_26 rfl rfl (Nat.le_of_ble_eq_true rfl) (by decide) ?_
    refine j_cVi C (c_X6_weightWhere _ _ _ _ _ (by assumption) _ _ _) yc_X6_weightWhere mn_X9_278 im_X6_weightWhere se_X6_weightWhere rfl rfl dX9_cost_29 rfl rfl (by assumption) (by decide) (Nat.le_of_ble_eq_true rfl) (by decide) ?_
    first | with_reducible refine j_iaddN C dX9_cost_32 ?_ | refine j_iadd C dX9_cost_32 ?_
    exact j_ireturn C E dX9_cost_33 (rfl) (by decide) (by decide) (⟨by simp only [rCost, if_neg h3], rfl, rfl, rfl⟩)
  · skip
    refine j_aload_n C dX9_cost_6 rfl ?_
    refine j_getI C fl_X9_96 (by assumption) dX9_cost_7 (by decide) rfl ?_
    exact j_ireturn C E dX9_cost_10 (rfl) (by decide) (by decide) (⟨by simp only [rCost, if_pos h3], rfl, rfl, rfl⟩)

set_option maxHeartbeats 4000000 in
set_option maxRecDepth 100000 in
theorem c_X4_isIndexed (l : Launch) (ω : jW) (γ : jG) (M : jM) (R : jR) {a : Nat} (g : jAt ω γ a 4) (c : Int32) : Ct l ω yX4_isIndexed cX4_isIndexed 2 (some .boolean) 1 0 0 [.ref a, .int c] γ M R (jx γ (some (.int (rIdx M a c))) M R) := by
  refine Ct_of (by decide) (Nat.le_of_ble_eq_true rfl) rfl (jcat_of rfl) ?_
  intro X C E hnm hxl hxn
  subst hxl
  refine j_aload_n C dX4_isIndexed_0 rfl ?_
  refine j_getI C fl_X4_54 (by assumption) dX4_isIndexed_1 (by decide) rfl ?_
  refine j_iload_n C dX4_isIndexed_4 rfl ?_
  refine j_ishr C dX4_isIndexed_5 ?_
  refine j_iconst C (nI 1) dX4_isIndexed_6 (by decide) ?_
  refine j_iand C dX4_isIndexed_7 ?_
  refine j_iconst C (nI 1) dX4_isIndexed_8 (by decide) ?_
  refine j_icmp_ne C 16 dX4_isIndexed_9 (by decide) (fun h9 => ?_) (fun h9 => ?_)
  · skip
    refine j_iconst C (nI 0) dX4_isIndexed_16 (by decide) ?_
    exact j_ireturn C E dX4_isIndexed_17 (by decide) (by decide) (by decide) (⟨by simp only [rIdx, if_neg h9], rfl, rfl, rfl⟩)
  · skip
    refine j_iconst C (nI 1) dX4_isIndexed_12 (by decide) ?_
    refine j_goto C 17 dX4_isIndexed_13 (by decide) ?_
    exact j_ireturn C E dX4_isIndexed_17 (by decide) (by decide) (by decide) (⟨by simp only [rIdx, if_pos h9], rfl, rfl, rfl⟩)

set_option maxHeartbeats 4000000 in
set_option maxRecDepth 100000 in
theorem c_X4_hasStatement (l : Launch) (ω : jW) (γ : jG) (M : jM) (R : jR) {a : Nat} (g : jAt ω γ a 4) (p : Int32) : Ct l ω yX4_hasStatement cX4_hasStatement 2 (some .boolean) 1 0 0 [.ref a, .int p] γ M R (jx γ (some (.int (rHasS M a p))) M R) := by
  refine Ct_of (by decide) (Nat.le_of_ble_eq_true rfl) rfl (jcat_of rfl) ?_
  intro X C E hnm hxl hxn
  subst hxl
  refine j_iload_n C dX4_hasStatement_0 rfl ?_
  refine j_if_lt C 16 dX4_hasStatement_1 (by decide) (fun h1 => ?_) (fun h1 => ?_)
  · skip
    refine j_iconst C (nI 0) dX4_hasStatement_16 (by decide) ?_
    exact j_ireturn C E dX4_hasStatement_17 (by decide) (by decide) (by decide) (⟨by simp only [rHasS, if_pos h1], rfl, rfl, rfl⟩)
  · skip
    refine j_iload_n C dX4_hasStatement_4 rfl ?_
    refine j_aload_n C dX4_hasStatement_5 rfl ?_
    refine j_getI C fl_X4_89 (by assumption) dX4_hasStatement_6 (by decide) rfl ?_
    refine j_icmp_ge C 16 dX4_hasStatement_9 (by decide) (fun h9 => ?_) (fun h9 => ?_)
    · skip
      refine j_iconst C (nI 0) dX4_hasStatement_16 (by decide) ?_
      exact j_ireturn C E dX4_hasStatement_17 (by decide) (by decide) (by decide) (⟨by simp only [rHasS, if_neg h1, if_pos h9], rfl, rfl, rfl⟩)
    · skip
      refine j_iconst C (nI 1) dX4_hasStatement_12 (by decide) ?_
      refine j_goto C 17 dX4_hasStatement_13 (by decide) ?_
      exact j_ireturn C E dX4_hasStatement_17 (by decide) (by decide) (by decide) (⟨by simp only [rHasS, if_neg h1, if_neg h9], rfl, rfl, rfl⟩)

set_option maxHeartbeats 4000000 in
set_option maxRecDepth 100000 in
theorem c_X4_statementAt (l : Launch) (ω : jW) (γ : jG) (M : jM) (R : jR) {a : Nat} (g : gState ω γ a) (hs : SS R a) (p : Int32) : Ct l ω yX4_statementAt cX4_statementAt 3 (some (.object "PlanShelves$Statement")) 1 0 0 [.ref a, .int p] γ M R (jx γ (some (.ref (rSA a p))) M R) := by
  refine Ct_of (by decide) (Nat.le_of_ble_eq_true rfl) rfl (jcat_of rfl) ?_
  intro X C E hnm hxl hxn
  subst hxl
  have g0 := g.1
  have g1 := g.2.2.2.2.2.1
  have g2 := g.2.2.2.2.2.2.1
  have g3 := g.2.2.2.2.2.2.2.1
  refine j_iload_n C dX4_statementAt_0 rfl ?_
  refine j_if_lt C 13 dX4_statementAt_1 (by decide) (fun h1 => ?_) (fun h1 => ?_)
  · skip
    refine j_aload_n C dX4_statementAt_13 rfl ?_
    refine j_getR C fl_X4_32 (by assumption) dX4_statementAt_14 (by decide) rfl (by assumption) ?_
    exact j_areturn C E dX4_statementAt_17 (Or.inl ⟨_, rfl⟩) (by decide) (by decide) (⟨by simp only [rSA, if_pos h1], rfl, rfl, rfl⟩)
  · skip
    refine j_iload_n C dX4_statementAt_4 rfl ?_
    refine j_aload_n C dX4_statementAt_5 rfl ?_
    refine j_getR C fl_X4_27 (by assumption) dX4_statementAt_6 (by decide) rfl (by assumption) ?_
    refine j_alen C (by assumption) rfl (by decide) dX4_statementAt_9 ?_
    refine j_icmp_lt C 18 dX4_statementAt_10 (by decide) (fun h10 => ?_) (fun h10 => ?_)
    · skip
      refine j_aload_n C dX4_statementAt_18 rfl ?_
      refine j_getR C fl_X4_27 (by assumption) dX4_statementAt_19 (by decide) rfl (by assumption) ?_
      refine j_iload_n C dX4_statementAt_22 rfl ?_
      refine j_aald C (by assumption) (by decide) rfl (in_of' h1 h10 (by decide)) (hs _ (lt_of_in (in_of' h1 h10 (by decide)))) dX4_statementAt_23 ?_
      refine j_astore_n C dX4_statementAt_24 (by rw [hxn]; decide) ?_
      refine j_aload_n C dX4_statementAt_25 rfl ?_
      refine j_ifnonnull C 36 dX4_statementAt_26 (by decide) ?_
      refine j_aload_n C dX4_statementAt_36 rfl ?_
      exact j_areturn C E dX4_statementAt_37 (Or.inl ⟨_, rfl⟩) (by decide) (by decide) (⟨by simp only [rSA, if_neg h1, if_pos h10], rfl, rfl, rfl⟩)
    · skip
      refine j_aload_n C dX4_statementAt_13 rfl ?_
      refine j_getR C fl_X4_32 (by assumption) dX4_statementAt_14 (by decide) rfl (by assumption) ?_
      exact j_areturn C E dX4_statementAt_17 (Or.inl ⟨_, rfl⟩) (by decide) (by decide) (⟨by simp only [rSA, if_neg h1, if_neg h10], rfl, rfl, rfl⟩)

set_option maxHeartbeats 4000000 in
set_option maxRecDepth 100000 in
theorem c_X3_planAt (l : Launch) (ω : jW) (γ : jG) (M : jM) (R : jR) {b : Nat} (g : gShelf ω γ b) (hs : SR R b) (p : Int32) : Ct l ω yX3_planAt cX3_planAt 3 (some (.object "PlanShelves$Plan")) 1 0 0 [.ref b, .int p] γ M R (jx γ (some (.ref (rPA R b p))) M R) := by
  refine Ct_of (by decide) (Nat.le_of_ble_eq_true rfl) rfl (jcat_of rfl) ?_
  intro X C E hnm hxl hxn
  subst hxl
  have g0 := g.1
  have g1 := g.2.1
  have g2 := g.2.2.1
  have g3 := g.2.2.2.1
  refine j_iload_n C dX3_planAt_0 rfl ?_
  refine j_if_lt C 13 dX3_planAt_1 (by decide) (fun h1 => ?_) (fun h1 => ?_)
  · skip
    refine j_aload_n C dX3_planAt_13 rfl ?_
    refine j_getR C fl_X3_18 (by assumption) dX3_planAt_14 (by decide) rfl (by assumption) ?_
    exact j_areturn C E dX3_planAt_17 (Or.inl ⟨_, rfl⟩) (by decide) (by decide) (⟨by simp only [rPA, if_pos h1], rfl, rfl, rfl⟩)
  · skip
    refine j_iload_n C dX3_planAt_4 rfl ?_
    refine j_aload_n C dX3_planAt_5 rfl ?_
    refine j_getR C fl_X3_11 (by assumption) dX3_planAt_6 (by decide) rfl (by assumption) ?_
    refine j_alen C (by assumption) rfl (by decide) dX3_planAt_9 ?_
    refine j_icmp_lt C 18 dX3_planAt_10 (by decide) (fun h10 => ?_) (fun h10 => ?_)
    · skip
      refine j_aload_n C dX3_planAt_18 rfl ?_
      refine j_getR C fl_X3_11 (by assumption) dX3_planAt_19 (by decide) rfl (by assumption) ?_
      refine j_iload_n C dX3_planAt_22 rfl ?_
      refine j_aald C (by assumption) (by decide) rfl (in_of' h1 h10 (by decide)) (hs.at (lt_of_in (in_of' h1 h10 (by decide)))) dX3_planAt_23 ?_
      refine j_astore_n C dX3_planAt_24 (by rw [hxn]; decide) ?_
      refine j_aload_n C dX3_planAt_25 rfl ?_
      refine j_ifnonnull C 36 dX3_planAt_26 (by decide) ?_
      refine j_aload_n C dX3_planAt_36 rfl ?_
      exact j_areturn C E dX3_planAt_37 (Or.inl ⟨_, rfl⟩) (by decide) (by decide) (⟨by simp only [rPA, if_neg h1, if_pos h10], rfl, rfl, rfl⟩)
    · skip
      refine j_aload_n C dX3_planAt_13 rfl ?_
      refine j_getR C fl_X3_18 (by assumption) dX3_planAt_14 (by decide) rfl (by assumption) ?_
      exact j_areturn C E dX3_planAt_17 (Or.inl ⟨_, rfl⟩) (by decide) (by decide) (⟨by simp only [rPA, if_neg h1, if_neg h10], rfl, rfl, rfl⟩)

theorem c_X3_planAtN (l : Launch) (ω : jW) (γ : jG) (M : jM) (R : jR) {b : Nat} (g : gShelf ω γ b) (hs : SR R b) {k : Nat} (hk : k < 8) : Ct l ω yX3_planAt cX3_planAt 3 (some (.object "PlanShelves$Plan")) 1 0 0 [.ref b, .int (nI k)] γ M R (jx γ (some (.ref (pa R b k))) M R) := by
  have h := c_X3_planAt l ω γ M R g hs (nI k)
  rw [rPA_N R b hk] at h
  exact h
theorem c_X4_statementAtN (l : Launch) (ω : jW) (γ : jG) (M : jM) (R : jR) {a : Nat} (g : gState ω γ a) (hs : SS R a) {k : Nat} (hk : k < 6) : Ct l ω yX4_statementAt cX4_statementAt 3 (some (.object "PlanShelves$Statement")) 1 0 0 [.ref a, .int (nI k)] γ M R (jx γ (some (.ref (a + 25 + 3 * k))) M R) := by
  have h := c_X4_statementAt l ω γ M R g hs (nI k)
  rw [rSA_N a hk] at h
  exact h

set_option maxHeartbeats 4000000 in
set_option maxRecDepth 100000 in
theorem c_X3_numberAt (l : Launch) (ω : jW) (γ : jG) (M : jM) (R : jR) {b : Nat} (g : gShelf ω γ b) (hs : SR R b) (p : Int32) : Ct l ω yX3_numberAt cX3_numberAt 2 (some .int) 2 0 0 [.ref b, .int p] γ M R (jx γ (some (.int (rNum M R b p))) M R) := by
  refine Ct_of (by decide) (Nat.le_of_ble_eq_true rfl) rfl (jcat_of rfl) ?_
  intro X C E hnm hxl hxn
  subst hxl
  have g0 := g.1
  refine j_iload_n C dX3_numberAt_0 rfl ?_
  refine j_if_lt C 12 dX3_numberAt_1 (by decide) (fun h1 => ?_) (fun h1 => ?_)
  · skip
    refine j_bipush C (-4) dX3_numberAt_12 (by decide) ?_
    refine j_goto C 25 dX3_numberAt_14 (by decide) ?_
    exact j_ireturn C E dX3_numberAt_25 (rfl) (by decide) (by decide) (⟨by simp only [rNum, if_pos h1], rfl, rfl, rfl⟩)
  · skip
    refine j_iload_n C dX3_numberAt_4 rfl ?_
    refine j_aload_n C dX3_numberAt_5 rfl ?_
    refine j_getI C fl_X3_22 (by assumption) dX3_numberAt_6 (by decide) rfl ?_
    refine j_icmp_lt C 17 dX3_numberAt_9 (by decide) (fun h9 => ?_) (fun h9 => ?_)
    · skip
      refine j_aload_n C dX3_numberAt_17 rfl ?_
      refine j_iload_n C dX3_numberAt_18 rfl ?_
      refine j_cVr C (c_X3_planAt _ _ _ _ _ (by assumption) (by assumption) _) yc_X3_planAt mn_X3_26 im_X3_planAt se_X3_planAt rfl rfl dX3_numberAt_19 rfl rfl (by assumption) (by decide) (Nat.le_of_ble_eq_true rfl) (by decide) ?_
      refine j_getI C fl_X3_30 (rPA_at hs g _) dX3_numberAt_22 (by decide) rfl ?_
      exact j_ireturn C E dX3_numberAt_25 (rfl) (by decide) (by decide) (⟨by simp only [rNum, if_neg h1, if_pos h9], rfl, rfl, rfl⟩)
    · skip
      refine j_bipush C (-4) dX3_numberAt_12 (by decide) ?_
      refine j_goto C 25 dX3_numberAt_14 (by decide) ?_
      exact j_ireturn C E dX3_numberAt_25 (rfl) (by decide) (by decide) (⟨by simp only [rNum, if_neg h1, if_neg h9], rfl, rfl, rfl⟩)

set_option maxHeartbeats 4000000 in
set_option maxRecDepth 100000 in
theorem c_X2_dropsAheadOf (l : Launch) (ω : jW) (γ : jG) (M : jM) (R : jR) {p q : Nat} (hp : jAt ω γ p 2) (hq : jAt ω γ q 2) : Ct l ω yX2_dropsAheadOf cX2_dropsAheadOf 2 (some .boolean) 1 0 0 [.ref p, .ref q] γ M R (jx γ (some (.int (rAhead M p q))) M R) := by
  refine Ct_of (by decide) (Nat.le_of_ble_eq_true rfl) rfl (jcat_of rfl) ?_
  intro X C E hnm hxl hxn
  subst hxl
  refine j_aload_n C dX2_dropsAheadOf_0 rfl ?_
  refine j_getI C fl_X2_21 (by assumption) dX2_dropsAheadOf_1 (by decide) rfl ?_
  refine j_aload_n C dX2_dropsAheadOf_4 rfl ?_
  refine j_getI C fl_X2_21 (by assumption) dX2_dropsAheadOf_5 (by decide) rfl ?_
  refine j_icmp_eq C 30 dX2_dropsAheadOf_8 (by decide) (fun h8 => ?_) (fun h8 => ?_)
  · skip
    refine j_aload_n C dX2_dropsAheadOf_30 rfl ?_
    refine j_getI C fl_X2_31 (by assumption) dX2_dropsAheadOf_31 (by decide) rfl ?_
    refine j_aload_n C dX2_dropsAheadOf_34 rfl ?_
    refine j_getI C fl_X2_31 (by assumption) dX2_dropsAheadOf_35 (by decide) rfl ?_
    refine j_icmp_ge C 45 dX2_dropsAheadOf_38 (by decide) (fun h38 => ?_) (fun h38 => ?_)
    · skip
      refine j_iconst C (nI 0) dX2_dropsAheadOf_45 (by decide) ?_
      exact j_ireturn C E dX2_dropsAheadOf_46 (by decide) (by decide) (by decide) (⟨by simp only [rAhead, if_pos h8, if_pos h38], rfl, rfl, rfl⟩)
    · skip
      refine j_iconst C (nI 1) dX2_dropsAheadOf_41 (by decide) ?_
      refine j_goto C 46 dX2_dropsAheadOf_42 (by decide) ?_
      exact j_ireturn C E dX2_dropsAheadOf_46 (by decide) (by decide) (by decide) (⟨by simp only [rAhead, if_pos h8, if_neg h38], rfl, rfl, rfl⟩)
  · skip
    refine j_aload_n C dX2_dropsAheadOf_11 rfl ?_
    refine j_getI C fl_X2_21 (by assumption) dX2_dropsAheadOf_12 (by decide) rfl ?_
    refine j_aload_n C dX2_dropsAheadOf_15 rfl ?_
    refine j_getI C fl_X2_21 (by assumption) dX2_dropsAheadOf_16 (by decide) rfl ?_
    refine j_icmp_ge C 26 dX2_dropsAheadOf_19 (by decide) (fun h19 => ?_) (fun h19 => ?_)
    · skip
      refine j_iconst C (nI 0) dX2_dropsAheadOf_26 (by decide) ?_
      refine j_goto C 46 dX2_dropsAheadOf_27 (by decide) ?_
      exact j_ireturn C E dX2_dropsAheadOf_46 (by decide) (by decide) (by decide) (⟨by simp only [rAhead, if_neg h8, if_pos h19], rfl, rfl, rfl⟩)
    · skip
      refine j_iconst C (nI 1) dX2_dropsAheadOf_22 (by decide) ?_
      refine j_goto C 46 dX2_dropsAheadOf_23 (by decide) ?_
      exact j_ireturn C E dX2_dropsAheadOf_46 (by decide) (by decide) (by decide) (⟨by simp only [rAhead, if_neg h8, if_neg h19], rfl, rfl, rfl⟩)

set_option maxHeartbeats 4000000 in
set_option maxRecDepth 100000 in
theorem c_X2_tell (l : Launch) (ω : jW) (γ : jG) (M : jM) (R : jR) {p : Nat} (hp : jAt ω γ p 2) (w r : Int32) : Ct l ω yX2_tell cX2_tell 3 (some .int) 1 0 0 [.ref p, .int w, .int r] γ M R (jx γ (some (.int (rPTell M p w r))) M R) := by
  refine Ct_of (by decide) (Nat.le_of_ble_eq_true rfl) rfl (jcat_of rfl) ?_
  intro X C E hnm hxl hxn
  subst hxl
  refine j_iload_n C dX2_tell_0 rfl ?_
  by_cases s1_0 : w = nI 0
  · skip
    refine j_tableIn C 0 44 dX2_tell_1 (by rw [s1_0]; decide) (by decide) rfl (by decide) ?_
    refine j_aload_n C dX2_tell_44 rfl ?_
    refine j_getI C fl_X2_15 (by assumption) dX2_tell_45 (by decide) rfl ?_
    exact j_ireturn C E dX2_tell_48 (rfl) (by decide) (by decide) (⟨by simp only [rPTell, if_pos s1_0], rfl, rfl, rfl⟩)
  by_cases s1_1 : w = nI 1
  · skip
    refine j_tableIn C 1 49 dX2_tell_1 (by rw [s1_1]; decide) (by decide) rfl (by decide) ?_
    refine j_aload_n C dX2_tell_49 rfl ?_
    refine j_getI C fl_X2_18 (by assumption) dX2_tell_50 (by decide) rfl ?_
    exact j_ireturn C E dX2_tell_53 (rfl) (by decide) (by decide) (⟨by simp only [rPTell, if_neg s1_0, if_pos s1_1], rfl, rfl, rfl⟩)
  by_cases s1_2 : w = nI 2
  · skip
    refine j_tableIn C 2 54 dX2_tell_1 (by rw [s1_2]; decide) (by decide) rfl (by decide) ?_
    refine j_aload_n C dX2_tell_54 rfl ?_
    refine j_getI C fl_X2_34 (by assumption) dX2_tell_55 (by decide) rfl ?_
    exact j_ireturn C E dX2_tell_58 (rfl) (by decide) (by decide) (⟨by simp only [rPTell, if_neg s1_0, if_neg s1_1, if_pos s1_2], rfl, rfl, rfl⟩)
  by_cases s1_3 : w = nI 3
  · skip
    refine j_tableIn C 3 59 dX2_tell_1 (by rw [s1_3]; decide) (by decide) rfl (by decide) ?_
    refine j_aload_n C dX2_tell_59 rfl ?_
    refine j_getI C fl_X2_37 (by assumption) dX2_tell_60 (by decide) rfl ?_
    exact j_ireturn C E dX2_tell_63 (rfl) (by decide) (by decide) (⟨by simp only [rPTell, if_neg s1_0, if_neg s1_1, if_neg s1_2, if_pos s1_3], rfl, rfl, rfl⟩)
  by_cases s1_4 : w = nI 4
  · skip
    refine j_tableIn C 4 64 dX2_tell_1 (by rw [s1_4]; decide) (by decide) rfl (by decide) ?_
    refine j_aload_n C dX2_tell_64 rfl ?_
    refine j_getI C fl_X2_21 (by assumption) dX2_tell_65 (by decide) rfl ?_
    exact j_ireturn C E dX2_tell_68 (rfl) (by decide) (by decide) (⟨by simp only [rPTell, if_neg s1_0, if_neg s1_1, if_neg s1_2, if_neg s1_3, if_pos s1_4], rfl, rfl, rfl⟩)
  by_cases s1_5 : w = nI 5
  · skip
    refine j_tableIn C 5 69 dX2_tell_1 (by rw [s1_5]; decide) (by decide) rfl (by decide) ?_
    refine j_aload_n C dX2_tell_69 rfl ?_
    refine j_getI C fl_X2_24 (by assumption) dX2_tell_70 (by decide) rfl ?_
    exact j_ireturn C E dX2_tell_73 (rfl) (by decide) (by decide) (⟨by simp only [rPTell, if_neg s1_0, if_neg s1_1, if_neg s1_2, if_neg s1_3, if_neg s1_4, if_pos s1_5], rfl, rfl, rfl⟩)
  by_cases s1_6 : w = nI 6
  · skip
    refine j_tableIn C 6 74 dX2_tell_1 (by rw [s1_6]; decide) (by decide) rfl (by decide) ?_
    refine j_aload_n C dX2_tell_74 rfl ?_
    refine j_getI C fl_X2_27 (by assumption) dX2_tell_75 (by decide) rfl ?_
    refine j_if_eq C 85 dX2_tell_78 (by decide) (fun h78 => ?_) (fun h78 => ?_)
    · skip
      refine j_iconst C (nI 0) dX2_tell_85 (by decide) ?_
      exact j_ireturn C E dX2_tell_86 (rfl) (by decide) (by decide) (⟨by simp only [rPTell, if_neg s1_0, if_neg s1_1, if_neg s1_2, if_neg s1_3, if_neg s1_4, if_neg s1_5, if_pos s1_6, if_pos h78], rfl, rfl, rfl⟩)
    · skip
      refine j_iconst C (nI 1) dX2_tell_81 (by decide) ?_
      refine j_goto C 86 dX2_tell_82 (by decide) ?_
      exact j_ireturn C E dX2_tell_86 (rfl) (by decide) (by decide) (⟨by simp only [rPTell, if_neg s1_0, if_neg s1_1, if_neg s1_2, if_neg s1_3, if_neg s1_4, if_neg s1_5, if_pos s1_6, if_neg h78], rfl, rfl, rfl⟩)
  refine j_tableOut C 87 dX2_tell_1 (sw_out 6 w (by intro j hj; match j, hj with | 0, _ => exact s1_0 | 1, _ => exact s1_1 | 2, _ => exact s1_2 | 3, _ => exact s1_3 | 4, _ => exact s1_4 | 5, _ => exact s1_5 | 6, _ => exact s1_6 | n + 7, h => exact absurd h (by omega))) (by decide) ?_
  refine j_iload_n C dX2_tell_87 rfl ?_
  refine j_aload_n C dX2_tell_88 rfl ?_
  refine j_getI C fl_X2_31 (by assumption) dX2_tell_89 (by decide) rfl ?_
  refine j_isub C dX2_tell_92 ?_
  exact j_ireturn C E dX2_tell_93 (rfl) (by decide) (by decide) (⟨by simp only [rPTell, if_neg s1_0, if_neg s1_1, if_neg s1_2, if_neg s1_3, if_neg s1_4, if_neg s1_5, if_neg s1_6], rfl, rfl, rfl⟩)

set_option maxHeartbeats 4000000 in
set_option maxRecDepth 100000 in
theorem c_X1_tell (l : Launch) (ω : jW) (γ : jG) (M : jM) (R : jR) {b : Nat} (g0 : jAt ω γ b 1) (w : Int32) : Ct l ω yX1_tell cX1_tell 2 (some .int) 1 0 0 [.ref b, .int w] γ M R (jx γ (some (.int (rLTell M b w))) M R) := by
  refine Ct_of (by decide) (Nat.le_of_ble_eq_true rfl) rfl (jcat_of rfl) ?_
  intro X C E hnm hxl hxn
  subst hxl
  refine j_aload_n C dX1_tell_0 rfl ?_
  refine j_getI C fl_X1_15 (by assumption) dX1_tell_1 (by decide) rfl ?_
  refine j_if_ne C 10 dX1_tell_4 (by decide) (fun h4 => ?_) (fun h4 => ?_)
  · skip
    refine j_iload_n C dX1_tell_10 rfl ?_
    by_cases s11_0 : w = nI 0
    · skip
      refine j_tableIn C 0 52 dX1_tell_11 (by rw [s11_0]; decide) (by decide) rfl (by decide) ?_
      refine j_aload_n C dX1_tell_52 rfl ?_
      refine j_getI C fl_X1_27 (by assumption) dX1_tell_53 (by decide) rfl ?_
      exact j_ireturn C E dX1_tell_56 (rfl) (by decide) (by decide) (⟨by simp only [rLTell, if_neg h4, if_pos s11_0], rfl, rfl, rfl⟩)
    by_cases s11_1 : w = nI 1
    · skip
      refine j_tableIn C 1 57 dX1_tell_11 (by rw [s11_1]; decide) (by decide) rfl (by decide) ?_
      refine j_aload_n C dX1_tell_57 rfl ?_
      refine j_getI C fl_X1_33 (by assumption) dX1_tell_58 (by decide) rfl ?_
      exact j_ireturn C E dX1_tell_61 (rfl) (by decide) (by decide) (⟨by simp only [rLTell, if_neg h4, if_neg s11_0, if_pos s11_1], rfl, rfl, rfl⟩)
    by_cases s11_2 : w = nI 2
    · skip
      refine j_tableIn C 2 62 dX1_tell_11 (by rw [s11_2]; decide) (by decide) rfl (by decide) ?_
      refine j_aload_n C dX1_tell_62 rfl ?_
      refine j_getI C fl_X1_36 (by assumption) dX1_tell_63 (by decide) rfl ?_
      exact j_ireturn C E dX1_tell_66 (rfl) (by decide) (by decide) (⟨by simp only [rLTell, if_neg h4, if_neg s11_0, if_neg s11_1, if_pos s11_2], rfl, rfl, rfl⟩)
    by_cases s11_3 : w = nI 3
    · skip
      refine j_tableIn C 3 67 dX1_tell_11 (by rw [s11_3]; decide) (by decide) rfl (by decide) ?_
      refine j_aload_n C dX1_tell_67 rfl ?_
      refine j_getI C fl_X1_39 (by assumption) dX1_tell_68 (by decide) rfl ?_
      exact j_ireturn C E dX1_tell_71 (rfl) (by decide) (by decide) (⟨by simp only [rLTell, if_neg h4, if_neg s11_0, if_neg s11_1, if_neg s11_2, if_pos s11_3], rfl, rfl, rfl⟩)
    by_cases s11_4 : w = nI 4
    · skip
      refine j_tableIn C 4 72 dX1_tell_11 (by rw [s11_4]; decide) (by decide) rfl (by decide) ?_
      refine j_aload_n C dX1_tell_72 rfl ?_
      refine j_getI C fl_X1_42 (by assumption) dX1_tell_73 (by decide) rfl ?_
      exact j_ireturn C E dX1_tell_76 (rfl) (by decide) (by decide) (⟨by simp only [rLTell, if_neg h4, if_neg s11_0, if_neg s11_1, if_neg s11_2, if_neg s11_3, if_pos s11_4], rfl, rfl, rfl⟩)
    by_cases s11_5 : w = nI 5
    · skip
      refine j_tableIn C 5 77 dX1_tell_11 (by rw [s11_5]; decide) (by decide) rfl (by decide) ?_
      refine j_aload_n C dX1_tell_77 rfl ?_
      refine j_getI C fl_X1_45 (by assumption) dX1_tell_78 (by decide) rfl ?_
      exact j_ireturn C E dX1_tell_81 (rfl) (by decide) (by decide) (⟨by simp only [rLTell, if_neg h4, if_neg s11_0, if_neg s11_1, if_neg s11_2, if_neg s11_3, if_neg s11_4, if_pos s11_5], rfl, rfl, rfl⟩)
    by_cases s11_6 : w = nI 6
    · skip
      refine j_tableIn C 6 82 dX1_tell_11 (by rw [s11_6]; decide) (by decide) rfl (by decide) ?_
      refine j_aload_n C dX1_tell_82 rfl ?_
      refine j_getI C fl_X1_48 (by assumption) dX1_tell_83 (by decide) rfl ?_
      refine j_if_eq C 93 dX1_tell_86 (by decide) (fun h86 => ?_) (fun h86 => ?_)
      · skip
        refine j_iconst C (nI 0) dX1_tell_93 (by decide) ?_
        exact j_ireturn C E dX1_tell_94 (rfl) (by decide) (by decide) (⟨by simp only [rLTell, if_neg h4, if_neg s11_0, if_neg s11_1, if_neg s11_2, if_neg s11_3, if_neg s11_4, if_neg s11_5, if_pos s11_6, if_pos h86], rfl, rfl, rfl⟩)
      · skip
        refine j_iconst C (nI 1) dX1_tell_89 (by decide) ?_
        refine j_goto C 94 dX1_tell_90 (by decide) ?_
        exact j_ireturn C E dX1_tell_94 (rfl) (by decide) (by decide) (⟨by simp only [rLTell, if_neg h4, if_neg s11_0, if_neg s11_1, if_neg s11_2, if_neg s11_3, if_neg s11_4, if_neg s11_5, if_pos s11_6, if_neg h86], rfl, rfl, rfl⟩)
    refine j_tableOut C 95 dX1_tell_11 (sw_out 6 w (by intro j hj; match j, hj with | 0, _ => exact s11_0 | 1, _ => exact s11_1 | 2, _ => exact s11_2 | 3, _ => exact s11_3 | 4, _ => exact s11_4 | 5, _ => exact s11_5 | 6, _ => exact s11_6 | n + 7, h => exact absurd h (by omega))) (by decide) ?_
    refine j_aload_n C dX1_tell_95 rfl ?_
    refine j_getI C fl_X1_30 (by assumption) dX1_tell_96 (by decide) rfl ?_
    exact j_ireturn C E dX1_tell_99 (rfl) (by decide) (by decide) (⟨by simp only [rLTell, if_neg h4, if_neg s11_0, if_neg s11_1, if_neg s11_2, if_neg s11_3, if_neg s11_4, if_neg s11_5, if_neg s11_6], rfl, rfl, rfl⟩)
  · skip
    refine j_bipush C (-4) dX1_tell_7 (by decide) ?_
    exact j_ireturn C E dX1_tell_9 (rfl) (by decide) (by decide) (⟨by simp only [rLTell, if_pos h4], rfl, rfl, rfl⟩)

set_option maxHeartbeats 4000000 in
set_option maxRecDepth 100000 in
theorem c_X7_hasRow (l : Launch) (ω : jW) (γ : jG) (M : jM) (R : jR) {b : Nat} (g : jAt ω γ b 7) (p : Int32) : Ct l ω yX7_hasRow cX7_hasRow 2 (some .boolean) 1 0 0 [.ref b, .int p] γ M R (jx γ (some (.int (rHasR M b p))) M R) := by
  refine Ct_of (by decide) (Nat.le_of_ble_eq_true rfl) rfl (jcat_of rfl) ?_
  intro X C E hnm hxl hxn
  subst hxl
  refine j_iload_n C dX7_hasRow_0 rfl ?_
  refine j_if_lt C 16 dX7_hasRow_1 (by decide) (fun h1 => ?_) (fun h1 => ?_)
  · skip
    refine j_iconst C (nI 0) dX7_hasRow_16 (by decide) ?_
    exact j_ireturn C E dX7_hasRow_17 (by decide) (by decide) (by decide) (⟨by simp only [rHasR, if_pos h1], rfl, rfl, rfl⟩)
  · skip
    refine j_iload_n C dX7_hasRow_4 rfl ?_
    refine j_aload_n C dX7_hasRow_5 rfl ?_
    refine j_getI C fl_X7_22 (by assumption) dX7_hasRow_6 (by decide) rfl ?_
    refine j_icmp_ge C 16 dX7_hasRow_9 (by decide) (fun h9 => ?_) (fun h9 => ?_)
    · skip
      refine j_iconst C (nI 0) dX7_hasRow_16 (by decide) ?_
      exact j_ireturn C E dX7_hasRow_17 (by decide) (by decide) (by decide) (⟨by simp only [rHasR, if_neg h1, if_pos h9], rfl, rfl, rfl⟩)
    · skip
      refine j_iconst C (nI 1) dX7_hasRow_12 (by decide) ?_
      refine j_goto C 17 dX7_hasRow_13 (by decide) ?_
      exact j_ireturn C E dX7_hasRow_17 (by decide) (by decide) (by decide) (⟨by simp only [rHasR, if_neg h1, if_neg h9], rfl, rfl, rfl⟩)

set_option maxHeartbeats 4000000 in
set_option maxRecDepth 100000 in
theorem c_X7_cellAt (l : Launch) (ω : jW) (γ : jG) (M : jM) (R : jR) {b : Nat} (g : gTable ω γ b) (r w : Int32) : Ct l ω yX7_cellAt cX7_cellAt 3 (some .int) 2 0 0 [.ref b, .int r, .int w] γ M R (jx γ (some (.int (rCell M b r w))) M R) := by
  refine Ct_of (by decide) (Nat.le_of_ble_eq_true rfl) rfl (jcat_of rfl) ?_
  intro X C E hnm hxl hxn
  subst hxl
  have g0 := g.1
  have g1 := g.2.1
  have g2 := g.2.2.1
  refine j_aload_n C dX7_cellAt_0 rfl ?_
  refine j_getR C fl_X7_11 (by assumption) dX7_cellAt_1 (by decide) rfl (by assumption) ?_
  refine j_iload_n C dX7_cellAt_4 rfl ?_
  refine j_iconst C (nI 5) dX7_cellAt_5 (by decide) ?_
  first | with_reducible refine j_imulN C dX7_cellAt_6 ?_ | refine j_imul C dX7_cellAt_6 ?_
  refine j_iload_n C dX7_cellAt_7 rfl ?_
  first | with_reducible refine j_iaddN C dX7_cellAt_8 ?_ | refine j_iadd C dX7_cellAt_8 ?_
  refine j_cSi C (c_X9_at _ _ _ _ _ (by assumption) (by decide) _) yc_X9_at mn_X7_26 st_X9_at dX7_cellAt_9 rfl rfl (Nat.le_of_ble_eq_true rfl) (by decide) ?_
  exact j_ireturn C E dX7_cellAt_12 (rfl) (by decide) (by decide) (⟨rfl, rfl, rfl, rfl⟩)

set_option maxHeartbeats 4000000 in
set_option maxRecDepth 100000 in
theorem c_X4_classOfShare (l : Launch) (ω : jW) (γ : jG) (M : jM) (R : jR) {a : Nat} (g : gState ω γ a) (s : Int32) : Ct l ω yX4_classOfShare cX4_classOfShare 2 (some .int) 1 0 0 [.ref a, .int s] γ M R (jx γ (some (.int (rShare M a s))) M R) := by
  refine Ct_of (by decide) (Nat.le_of_ble_eq_true rfl) rfl (jcat_of rfl) ?_
  intro X C E hnm hxl hxn
  subst hxl
  have g0 := g.1
  have g1 := g.2.2.2.2.2.2.2.2.2.2.2.2.2.1
  have g2 := g.2.2.2.2.2.2.2.2.2.2.2.2.2.2.1
  refine j_iload_n C dX4_classOfShare_0 rfl ?_
  refine j_aload_n C dX4_classOfShare_1 rfl ?_
  refine j_getR C fl_X4_50 (by assumption) dX4_classOfShare_2 (by decide) rfl (by assumption) ?_
  refine j_iconst C (nI 0) dX4_classOfShare_5 (by decide) ?_
  refine j_ialdN C (by assumption) dX4_classOfShare_6 (by decide) (by decide) ?_
  refine j_icmp_ge C 12 dX4_classOfShare_7 (by decide) (fun h7 => ?_) (fun h7 => ?_)
  · skip
    refine j_iload_n C dX4_classOfShare_12 rfl ?_
    refine j_aload_n C dX4_classOfShare_13 rfl ?_
    refine j_getR C fl_X4_50 (by assumption) dX4_classOfShare_14 (by decide) rfl (by assumption) ?_
    refine j_iconst C (nI 1) dX4_classOfShare_17 (by decide) ?_
    refine j_ialdN C (by assumption) dX4_classOfShare_18 (by decide) (by decide) ?_
    refine j_icmp_ge C 26 dX4_classOfShare_19 (by decide) (fun h19 => ?_) (fun h19 => ?_)
    · skip
      refine j_iconst C (nI 2) dX4_classOfShare_26 (by decide) ?_
      exact j_ireturn C E dX4_classOfShare_27 (rfl) (by decide) (by decide) (⟨by simp only [rShare, if_pos h7, if_pos h19], rfl, rfl, rfl⟩)
    · skip
      refine j_iconst C (nI 1) dX4_classOfShare_22 (by decide) ?_
      refine j_goto C 27 dX4_classOfShare_23 (by decide) ?_
      exact j_ireturn C E dX4_classOfShare_27 (rfl) (by decide) (by decide) (⟨by simp only [rShare, if_pos h7, if_neg h19], rfl, rfl, rfl⟩)
  · skip
    refine j_iconst C (nI 0) dX4_classOfShare_10 (by decide) ?_
    exact j_ireturn C E dX4_classOfShare_11 (rfl) (by decide) (by decide) (⟨by simp only [rShare, if_neg h7], rfl, rfl, rfl⟩)

set_option maxHeartbeats 4000000 in
set_option maxRecDepth 100000 in
theorem c_X3_placeOf (l : Launch) (ω : jW) (γ : jG) (M : jM) (R : jR) {b n : Nat} (g : gShelf ω γ b) (hs : SR R b) (hkp : M b 2 = nI n) (hn : n ≤ 8) (x : Int32) : Ct l ω yX3_placeOf cX3_placeOf 3 (some .int) 2 0 0 [.ref b, .int x] γ M R (jx γ (some (.int (rFirst (qNum M R b x) n))) M R) := by
  refine Ct_of (by decide) (Nat.le_of_ble_eq_true rfl) rfl (jcat_of rfl) ?_
  intro X C E hnm hxl hxn
  subst hxl
  have g0 := g.1
  refine j_iconst C (nI 0) dX3_placeOf_0 (by decide) ?_
  refine j_istore_n C dX3_placeOf_1 (by rw [hxn]; decide) ?_
  refine j_loop n (fun k => [(0, .ref b), (1, .int x), (2, .int (nI k))]) (fun _ => M) (fun _ => R) (fun k => ∀ j, j < k → (qNum M R b x) j = false) (fun j hj => absurd hj (Nat.not_lt_zero j)) (fun k hk hI ih => ?_) (fun hI => ?_)
  · skip
    refine j_iload_n C dX3_placeOf_2 rfl ?_
    refine j_aload_n C dX3_placeOf_3 rfl ?_
    refine j_getI C fl_X3_22 (by assumption) dX3_placeOf_4 (by decide) rfl ?_
    refine j_top (nI n) (hkp) ?_
    refine j_icmp_ge C 30 dX3_placeOf_7 (by decide) (fun h => absurd h (nI_ge hk (by omega))) (fun _ => ?_)
    refine j_aload_n C dX3_placeOf_10 rfl ?_
    refine j_iload_n C dX3_placeOf_11 rfl ?_
    refine j_cVr C (c_X3_planAtN _ ω γ M R g hs (show k < 8 by omega)) yc_X3_planAt mn_X3_26 im_X3_planAt se_X3_planAt rfl rfl dX3_placeOf_12 rfl rfl (by assumption) (by decide) (Nat.le_of_ble_eq_true rfl) (by decide) ?_
    refine j_getI C fl_X3_30 (hs.pl g (by omega)) dX3_placeOf_15 (by decide) rfl ?_
    refine j_iload_n C dX3_placeOf_18 rfl ?_
    refine j_icmp_ne C 24 dX3_placeOf_19 (by decide) (fun h19 => ?_) (fun h19 => ?_)
    · skip
      first | refine j_iinc1 C dX3_placeOf_24 rfl (by rw [hxn]; decide) ?_ | refine j_iinc C _ dX3_placeOf_24 rfl rfl (by rw [hxn]; decide) ?_
      refine j_goto C 2 dX3_placeOf_27 (by decide) ?_
      exact ih (lt_s hI (by simpa [qNum] using h19))
    · skip
      refine j_iload_n C dX3_placeOf_22 rfl ?_
      exact j_ireturn C E dX3_placeOf_23 (rfl) (by decide) (by decide) (⟨by rw [rFirst_yes hk (by simp [qNum, h19]) hI], rfl, rfl, rfl⟩)
  · skip
    refine j_iload_n C dX3_placeOf_2 rfl ?_
    refine j_aload_n C dX3_placeOf_3 rfl ?_
    refine j_getI C fl_X3_22 (by assumption) dX3_placeOf_4 (by decide) rfl ?_
    refine j_top (nI n) (hkp) ?_
    refine j_icmp_ge C 30 dX3_placeOf_7 (by decide) (fun _ => ?_) (fun h => absurd (Int32.le_refl _) h)
    refine j_iconst C (-1) dX3_placeOf_30 (by decide) ?_
    exact j_ireturn C E dX3_placeOf_31 (rfl) (by decide) (by decide) (⟨by rw [rFirst_no hI], rfl, rfl, rfl⟩)

set_option maxHeartbeats 4000000 in
set_option maxRecDepth 100000 in
theorem c_X3_placeFor (l : Launch) (ω : jW) (γ : jG) (M : jM) (R : jR) {b n : Nat} (g : gShelf ω γ b) (hs : SR R b) (hkp : M b 2 = nI n) (hn : n ≤ 8) (s c : Int32) : Ct l ω yX3_placeFor cX3_placeFor 5 (some .int) 2 0 0 [.ref b, .int s, .int c] γ M R (jx γ (some (.int (rFirst (qFor M R b s c) n))) M R) := by
  refine Ct_of (by decide) (Nat.le_of_ble_eq_true rfl) rfl (jcat_of rfl) ?_
  intro X C E hnm hxl hxn
  subst hxl
  have g0 := g.1
  refine j_iconst C (nI 0) dX3_placeFor_0 (by decide) ?_
  refine j_istore_n C dX3_placeFor_1 (by rw [hxn]; decide) ?_
  refine j_loop n (fun k => [(0, .ref b), (1, .int s), (2, .int c), (3, .int (nI k))]) (fun _ => M) (fun _ => R) (fun k => ∀ j, j < k → (qFor M R b s c) j = false) (fun j hj => absurd hj (Nat.not_lt_zero j)) (fun k hk hI ih => ?_) (fun hI => ?_)
  · skip
    refine j_iload_n C dX3_placeFor_2 rfl ?_
    refine j_aload_n C dX3_placeFor_3 rfl ?_
    refine j_getI C fl_X3_22 (by assumption) dX3_placeFor_4 (by decide) rfl ?_
    refine j_top (nI n) (hkp) ?_
    refine j_icmp_ge C 43 dX3_placeFor_7 (by decide) (fun h => absurd h (nI_ge hk (by omega))) (fun _ => ?_)
    refine j_aload_n C dX3_placeFor_10 rfl ?_
    refine j_iload_n C dX3_placeFor_11 rfl ?_
    refine j_cVr C (c_X3_planAtN _ ω γ M R g hs (show k < 8 by omega)) yc_X3_planAt mn_X3_26 im_X3_planAt se_X3_planAt rfl rfl dX3_placeFor_12 rfl rfl (by assumption) (by decide) (Nat.le_of_ble_eq_true rfl) (by decide) ?_
    refine j_astore C dX3_placeFor_15 (by rw [hxn]; decide) ?_
    refine j_aload C dX3_placeFor_17 rfl ?_
    refine j_getI C fl_X3_33 (hs.pl g (by omega)) dX3_placeFor_19 (by decide) rfl ?_
    refine j_iload_n C dX3_placeFor_22 rfl ?_
    refine j_icmp_ne C 37 dX3_placeFor_23 (by decide) (fun h23 => ?_) (fun h23 => ?_)
    · skip
      first | refine j_iinc1 C dX3_placeFor_37 rfl (by rw [hxn]; decide) ?_ | refine j_iinc C _ dX3_placeFor_37 rfl rfl (by rw [hxn]; decide) ?_
      refine j_goto C 2 dX3_placeFor_40 (by decide) ?_
      refine j_locs [0, 1, 2, 3] rfl ?_
      exact ih (lt_s hI (by simp_all [qFor]))
    · skip
      refine j_aload C dX3_placeFor_26 rfl ?_
      refine j_getI C fl_X3_36 (hs.pl g (by omega)) dX3_placeFor_28 (by decide) rfl ?_
      refine j_iload_n C dX3_placeFor_31 rfl ?_
      refine j_icmp_ne C 37 dX3_placeFor_32 (by decide) (fun h32 => ?_) (fun h32 => ?_)
      · skip
        first | refine j_iinc1 C dX3_placeFor_37 rfl (by rw [hxn]; decide) ?_ | refine j_iinc C _ dX3_placeFor_37 rfl rfl (by rw [hxn]; decide) ?_
        refine j_goto C 2 dX3_placeFor_40 (by decide) ?_
        refine j_locs [0, 1, 2, 3] rfl ?_
        exact ih (lt_s hI (by simp_all [qFor]))
      · skip
        refine j_iload_n C dX3_placeFor_35 rfl ?_
        exact j_ireturn C E dX3_placeFor_36 (rfl) (by decide) (by decide) (⟨by rw [rFirst_yes hk (by simp [qFor, h23, h32]) hI], rfl, rfl, rfl⟩)
  · skip
    refine j_iload_n C dX3_placeFor_2 rfl ?_
    refine j_aload_n C dX3_placeFor_3 rfl ?_
    refine j_getI C fl_X3_22 (by assumption) dX3_placeFor_4 (by decide) rfl ?_
    refine j_top (nI n) (hkp) ?_
    refine j_icmp_ge C 43 dX3_placeFor_7 (by decide) (fun _ => ?_) (fun h => absurd (Int32.le_refl _) h)
    refine j_iconst C (-1) dX3_placeFor_43 (by decide) ?_
    exact j_ireturn C E dX3_placeFor_44 (rfl) (by decide) (by decide) (⟨by rw [rFirst_no hI], rfl, rfl, rfl⟩)

set_option maxHeartbeats 4000000 in
set_option maxRecDepth 100000 in
theorem c_X3_keptFor (l : Launch) (ω : jW) (γ : jG) (M : jM) (R : jR) {b n : Nat} (g : gShelf ω γ b) (hs : SR R b) (hkp : M b 2 = nI n) (hn : n ≤ 8) (s : Int32) : Ct l ω yX3_keptFor cX3_keptFor 4 (some .int) 2 0 0 [.ref b, .int s] γ M R (jx γ (some (.int (nI (rCnt (qOf M R b s) n)))) M R) := by
  refine Ct_of (by decide) (Nat.le_of_ble_eq_true rfl) rfl (jcat_of rfl) ?_
  intro X C E hnm hxl hxn
  subst hxl
  have g0 := g.1
  refine j_iconst C (nI 0) dX3_keptFor_0 (by decide) ?_
  refine j_istore_n C dX3_keptFor_1 (by rw [hxn]; decide) ?_
  refine j_iconst C (nI 0) dX3_keptFor_2 (by decide) ?_
  refine j_istore_n C dX3_keptFor_3 (by rw [hxn]; decide) ?_
  refine j_loop n (fun k => [(0, .ref b), (1, .int s), (2, .int (nI (rCnt (qOf M R b s) k))), (3, .int (nI k))]) (fun _ => M) (fun _ => R) (fun _ => True) trivial (fun k hk _ ih => ?_) (fun _ => ?_)
  · skip
    refine j_iload_n C dX3_keptFor_4 rfl ?_
    refine j_aload_n C dX3_keptFor_5 rfl ?_
    refine j_getI C fl_X3_22 (by assumption) dX3_keptFor_6 (by decide) rfl ?_
    refine j_top (nI n) (hkp) ?_
    refine j_icmp_ge C 33 dX3_keptFor_9 (by decide) (fun h => absurd h (nI_ge hk (by omega))) (fun _ => ?_)
    refine j_aload_n C dX3_keptFor_12 rfl ?_
    refine j_iload_n C dX3_keptFor_13 rfl ?_
    refine j_cVr C (c_X3_planAtN _ ω γ M R g hs (show k < 8 by omega)) yc_X3_planAt mn_X3_26 im_X3_planAt se_X3_planAt rfl rfl dX3_keptFor_14 rfl rfl (by assumption) (by decide) (Nat.le_of_ble_eq_true rfl) (by decide) ?_
    refine j_getI C fl_X3_33 (hs.pl g (by omega)) dX3_keptFor_17 (by decide) rfl ?_
    refine j_iload_n C dX3_keptFor_20 rfl ?_
    refine j_icmp_ne C 27 dX3_keptFor_21 (by decide) (fun h21 => ?_) (fun h21 => ?_)
    · skip
      rw [show rCnt (qOf M R b s) k = rCnt (qOf M R b s) (k + 1) from by simp_all [rCnt, qOf]]
      first | refine j_iinc1 C dX3_keptFor_27 rfl (by rw [hxn]; decide) ?_ | refine j_iinc C _ dX3_keptFor_27 rfl rfl (by rw [hxn]; decide) ?_
      refine j_goto C 4 dX3_keptFor_30 (by decide) ?_
      exact ih trivial
    · skip
      have e9 : rCnt (qOf M R b s) (k + 1) = rCnt (qOf M R b s) k + 1 := by simp_all [rCnt, qOf]
      refine j_iinc1 C dX3_keptFor_24 rfl (by rw [hxn]; decide) ?_
      rw [← e9]
      first | refine j_iinc1 C dX3_keptFor_27 rfl (by rw [hxn]; decide) ?_ | refine j_iinc C _ dX3_keptFor_27 rfl rfl (by rw [hxn]; decide) ?_
      refine j_goto C 4 dX3_keptFor_30 (by decide) ?_
      exact ih trivial
  · skip
    refine j_iload_n C dX3_keptFor_4 rfl ?_
    refine j_aload_n C dX3_keptFor_5 rfl ?_
    refine j_getI C fl_X3_22 (by assumption) dX3_keptFor_6 (by decide) rfl ?_
    refine j_top (nI n) (hkp) ?_
    refine j_icmp_ge C 33 dX3_keptFor_9 (by decide) (fun _ => ?_) (fun h => absurd (Int32.le_refl _) h)
    refine j_iload_n C dX3_keptFor_33 rfl ?_
    exact j_ireturn C E dX3_keptFor_34 (rfl) (by decide) (by decide) (⟨rfl, rfl, rfl, rfl⟩)

set_option maxHeartbeats 4000000 in
set_option maxRecDepth 100000 in
theorem c_X3_pinned (l : Launch) (ω : jW) (γ : jG) (M : jM) (R : jR) {b n : Nat} (g : gShelf ω γ b) (hs : SR R b) (hkp : M b 2 = nI n) (hn : n ≤ 8)  : Ct l ω yX3_pinned cX3_pinned 3 (some .int) 2 0 0 [.ref b] γ M R (jx γ (some (.int (nI (rCnt (qPin M R b) n)))) M R) := by
  refine Ct_of (by decide) (Nat.le_of_ble_eq_true rfl) rfl (jcat_of rfl) ?_
  intro X C E hnm hxl hxn
  subst hxl
  have g0 := g.1
  refine j_iconst C (nI 0) dX3_pinned_0 (by decide) ?_
  refine j_istore_n C dX3_pinned_1 (by rw [hxn]; decide) ?_
  refine j_iconst C (nI 0) dX3_pinned_2 (by decide) ?_
  refine j_istore_n C dX3_pinned_3 (by rw [hxn]; decide) ?_
  refine j_loop n (fun k => [(0, .ref b), (1, .int (nI (rCnt (qPin M R b) k))), (2, .int (nI k))]) (fun _ => M) (fun _ => R) (fun _ => True) trivial (fun k hk _ ih => ?_) (fun _ => ?_)
  · skip
    refine j_iload_n C dX3_pinned_4 rfl ?_
    refine j_aload_n C dX3_pinned_5 rfl ?_
    refine j_getI C fl_X3_22 (by assumption) dX3_pinned_6 (by decide) rfl ?_
    refine j_top (nI n) (hkp) ?_
    refine j_icmp_ge C 32 dX3_pinned_9 (by decide) (fun h => absurd h (nI_ge hk (by omega))) (fun _ => ?_)
    refine j_aload_n C dX3_pinned_12 rfl ?_
    refine j_iload_n C dX3_pinned_13 rfl ?_
    refine j_cVr C (c_X3_planAtN _ ω γ M R g hs (show k < 8 by omega)) yc_X3_planAt mn_X3_26 im_X3_planAt se_X3_planAt rfl rfl dX3_pinned_14 rfl rfl (by assumption) (by decide) (Nat.le_of_ble_eq_true rfl) (by decide) ?_
    refine j_getI C fl_X3_39 (hs.pl g (by omega)) dX3_pinned_17 (by decide) rfl ?_
    refine j_if_eq C 26 dX3_pinned_20 (by decide) (fun h20 => ?_) (fun h20 => ?_)
    · skip
      rw [show rCnt (qPin M R b) k = rCnt (qPin M R b) (k + 1) from by simp_all [rCnt, qPin]]
      first | refine j_iinc1 C dX3_pinned_26 rfl (by rw [hxn]; decide) ?_ | refine j_iinc C _ dX3_pinned_26 rfl rfl (by rw [hxn]; decide) ?_
      refine j_goto C 4 dX3_pinned_29 (by decide) ?_
      exact ih trivial
    · skip
      have e9 : rCnt (qPin M R b) (k + 1) = rCnt (qPin M R b) k + 1 := by simp_all [rCnt, qPin]
      refine j_iinc1 C dX3_pinned_23 rfl (by rw [hxn]; decide) ?_
      rw [← e9]
      first | refine j_iinc1 C dX3_pinned_26 rfl (by rw [hxn]; decide) ?_ | refine j_iinc C _ dX3_pinned_26 rfl rfl (by rw [hxn]; decide) ?_
      refine j_goto C 4 dX3_pinned_29 (by decide) ?_
      exact ih trivial
  · skip
    refine j_iload_n C dX3_pinned_4 rfl ?_
    refine j_aload_n C dX3_pinned_5 rfl ?_
    refine j_getI C fl_X3_22 (by assumption) dX3_pinned_6 (by decide) rfl ?_
    refine j_top (nI n) (hkp) ?_
    refine j_icmp_ge C 32 dX3_pinned_9 (by decide) (fun _ => ?_) (fun h => absurd (Int32.le_refl _) h)
    refine j_iload_n C dX3_pinned_32 rfl ?_
    exact j_ireturn C E dX3_pinned_33 (rfl) (by decide) (by decide) (⟨rfl, rfl, rfl, rfl⟩)

set_option maxHeartbeats 4000000 in
set_option maxRecDepth 100000 in
theorem c_X3_droppedAheadOf (l : Launch) (ω : jW) (γ : jG) (M : jM) (R : jR) {b n : Nat} (g : gShelf ω γ b) (hs : SR R b) (hkp : M b 2 = nI n) (hn : n ≤ 8) {q : Nat} (hq : jAt ω γ q 2) : Ct l ω yX3_droppedAheadOf cX3_droppedAheadOf 5 (some .int) 3 0 0 [.ref b, .ref q] γ M R (jx γ (some (.int (nI (rCnt (qAhd M R b q) n)))) M R) := by
  refine Ct_of (by decide) (Nat.le_of_ble_eq_true rfl) rfl (jcat_of rfl) ?_
  intro X C E hnm hxl hxn
  subst hxl
  have g0 := g.1
  refine j_iconst C (nI 0) dX3_droppedAheadOf_0 (by decide) ?_
  refine j_istore_n C dX3_droppedAheadOf_1 (by rw [hxn]; decide) ?_
  refine j_iconst C (nI 0) dX3_droppedAheadOf_2 (by decide) ?_
  refine j_istore_n C dX3_droppedAheadOf_3 (by rw [hxn]; decide) ?_
  refine j_loop n (fun k => [(0, .ref b), (1, .ref q), (2, .int (nI (rCnt (qAhd M R b q) k))), (3, .int (nI k))]) (fun _ => M) (fun _ => R) (fun _ => True) trivial (fun k hk _ ih => ?_) (fun _ => ?_)
  · skip
    refine j_iload_n C dX3_droppedAheadOf_4 rfl ?_
    refine j_aload_n C dX3_droppedAheadOf_5 rfl ?_
    refine j_getI C fl_X3_22 (by assumption) dX3_droppedAheadOf_6 (by decide) rfl ?_
    refine j_top (nI n) (hkp) ?_
    refine j_icmp_ge C 45 dX3_droppedAheadOf_9 (by decide) (fun h => absurd h (nI_ge hk (by omega))) (fun _ => ?_)
    refine j_aload_n C dX3_droppedAheadOf_12 rfl ?_
    refine j_iload_n C dX3_droppedAheadOf_13 rfl ?_
    refine j_cVr C (c_X3_planAtN _ ω γ M R g hs (show k < 8 by omega)) yc_X3_planAt mn_X3_26 im_X3_planAt se_X3_planAt rfl rfl dX3_droppedAheadOf_14 rfl rfl (by assumption) (by decide) (Nat.le_of_ble_eq_true rfl) (by decide) ?_
    refine j_astore C dX3_droppedAheadOf_17 (by rw [hxn]; decide) ?_
    refine j_aload C dX3_droppedAheadOf_19 rfl ?_
    refine j_getI C fl_X3_39 (hs.pl g (by omega)) dX3_droppedAheadOf_21 (by decide) rfl ?_
    refine j_if_ne C 39 dX3_droppedAheadOf_24 (by decide) (fun h24 => ?_) (fun h24 => ?_)
    · skip
      rw [show rCnt (qAhd M R b q) k = rCnt (qAhd M R b q) (k + 1) from by simp_all [rCnt, qAhd]]
      first | refine j_iinc1 C dX3_droppedAheadOf_39 rfl (by rw [hxn]; decide) ?_ | refine j_iinc C _ dX3_droppedAheadOf_39 rfl rfl (by rw [hxn]; decide) ?_
      refine j_goto C 4 dX3_droppedAheadOf_42 (by decide) ?_
      refine j_locs [0, 1, 2, 3] rfl ?_
      exact ih trivial
    · skip
      refine j_aload C dX3_droppedAheadOf_27 rfl ?_
      refine j_aload_n C dX3_droppedAheadOf_29 rfl ?_
      refine j_cVi C (c_X2_dropsAheadOf _ ω γ M R (hs.pl g (show k < 8 by omega)) hq) yc_X2_dropsAheadOf mn_X3_47 im_X2_dropsAheadOf se_X2_dropsAheadOf rfl rfl dX3_droppedAheadOf_30 rfl rfl (hs.pl g (by omega)) (by decide) (Nat.le_of_ble_eq_true rfl) (by decide) ?_
      refine j_if_eq C 39 dX3_droppedAheadOf_33 (by decide) (fun h33 => ?_) (fun h33 => ?_)
      · skip
        rw [show rCnt (qAhd M R b q) k = rCnt (qAhd M R b q) (k + 1) from by simp_all [rCnt, qAhd]]
        first | refine j_iinc1 C dX3_droppedAheadOf_39 rfl (by rw [hxn]; decide) ?_ | refine j_iinc C _ dX3_droppedAheadOf_39 rfl rfl (by rw [hxn]; decide) ?_
        refine j_goto C 4 dX3_droppedAheadOf_42 (by decide) ?_
        refine j_locs [0, 1, 2, 3] rfl ?_
        exact ih trivial
      · skip
        have e9 : rCnt (qAhd M R b q) (k + 1) = rCnt (qAhd M R b q) k + 1 := by simp_all [rCnt, qAhd]
        refine j_iinc1 C dX3_droppedAheadOf_36 rfl (by rw [hxn]; decide) ?_
        rw [← e9]
        first | refine j_iinc1 C dX3_droppedAheadOf_39 rfl (by rw [hxn]; decide) ?_ | refine j_iinc C _ dX3_droppedAheadOf_39 rfl rfl (by rw [hxn]; decide) ?_
        refine j_goto C 4 dX3_droppedAheadOf_42 (by decide) ?_
        refine j_locs [0, 1, 2, 3] rfl ?_
        exact ih trivial
  · skip
    refine j_iload_n C dX3_droppedAheadOf_4 rfl ?_
    refine j_aload_n C dX3_droppedAheadOf_5 rfl ?_
    refine j_getI C fl_X3_22 (by assumption) dX3_droppedAheadOf_6 (by decide) rfl ?_
    refine j_top (nI n) (hkp) ?_
    refine j_icmp_ge C 45 dX3_droppedAheadOf_9 (by decide) (fun _ => ?_) (fun h => absurd (Int32.le_refl _) h)
    refine j_iload_n C dX3_droppedAheadOf_45 rfl ?_
    exact j_ireturn C E dX3_droppedAheadOf_46 (rfl) (by decide) (by decide) (⟨rfl, rfl, rfl, rfl⟩)

set_option maxHeartbeats 4000000 in
set_option maxRecDepth 100000 in
theorem c_X3_placeToDrop (l : Launch) (ω : jW) (γ : jG) (M : jM) (R : jR) {b n : Nat} (g : gShelf ω γ b) (hs : SR R b) (hkp : M b 2 = nI n) (hn : n ≤ 8) (x : Int32) : Ct l ω yX3_placeToDrop cX3_placeToDrop 3 (some .int) 4 0 0 [.ref b, .int x] γ M R (jx γ (some (.int (rFirst (qDrp M R b n x) n))) M R) := by
  refine Ct_of (by decide) (Nat.le_of_ble_eq_true rfl) rfl (jcat_of rfl) ?_
  intro X C E hnm hxl hxn
  subst hxl
  have g0 := g.1
  refine j_iconst C (nI 0) dX3_placeToDrop_0 (by decide) ?_
  refine j_istore_n C dX3_placeToDrop_1 (by rw [hxn]; decide) ?_
  refine j_loop n (fun k => [(0, .ref b), (1, .int x), (2, .int (nI k))]) (fun _ => M) (fun _ => R) (fun k => ∀ j, j < k → (qDrp M R b n x) j = false) (fun j hj => absurd hj (Nat.not_lt_zero j)) (fun k hk hI ih => ?_) (fun hI => ?_)
  · skip
    refine j_iload_n C dX3_placeToDrop_2 rfl ?_
    refine j_aload_n C dX3_placeToDrop_3 rfl ?_
    refine j_getI C fl_X3_22 (by assumption) dX3_placeToDrop_4 (by decide) rfl ?_
    refine j_top (nI n) (hkp) ?_
    refine j_icmp_ge C 42 dX3_placeToDrop_7 (by decide) (fun h => absurd h (nI_ge hk (by omega))) (fun _ => ?_)
    refine j_aload_n C dX3_placeToDrop_10 rfl ?_
    refine j_iload_n C dX3_placeToDrop_11 rfl ?_
    refine j_cVr C (c_X3_planAtN _ ω γ M R g hs (show k < 8 by omega)) yc_X3_planAt mn_X3_26 im_X3_planAt se_X3_planAt rfl rfl dX3_placeToDrop_12 rfl rfl (by assumption) (by decide) (Nat.le_of_ble_eq_true rfl) (by decide) ?_
    refine j_getI C fl_X3_39 (hs.pl g (by omega)) dX3_placeToDrop_15 (by decide) rfl ?_
    refine j_if_ne C 36 dX3_placeToDrop_18 (by decide) (fun h18 => ?_) (fun h18 => ?_)
    · skip
      first | refine j_iinc1 C dX3_placeToDrop_36 rfl (by rw [hxn]; decide) ?_ | refine j_iinc C _ dX3_placeToDrop_36 rfl rfl (by rw [hxn]; decide) ?_
      refine j_goto C 2 dX3_placeToDrop_39 (by decide) ?_
      exact ih (lt_s hI (by simp_all [qDrp]))
    · skip
      refine j_aload_n C dX3_placeToDrop_21 rfl ?_
      refine j_aload_n C dX3_placeToDrop_22 rfl ?_
      refine j_iload_n C dX3_placeToDrop_23 rfl ?_
      refine j_cVr C (c_X3_planAtN _ ω γ M R g hs (show k < 8 by omega)) yc_X3_planAt mn_X3_26 im_X3_planAt se_X3_planAt rfl rfl dX3_placeToDrop_24 rfl rfl (by assumption) (by decide) (Nat.le_of_ble_eq_true rfl) (by decide) ?_
      refine j_cVi C (c_X3_droppedAheadOf _ ω γ M R g hs hkp hn (hs.pl g (show k < 8 by omega))) yc_X3_droppedAheadOf mn_X3_43 im_X3_droppedAheadOf se_X3_droppedAheadOf rfl rfl dX3_placeToDrop_27 rfl rfl (by assumption) (by decide) (Nat.le_of_ble_eq_true rfl) (by decide) ?_
      refine j_iload_n C dX3_placeToDrop_30 rfl ?_
      refine j_icmp_ne C 36 dX3_placeToDrop_31 (by decide) (fun h31 => ?_) (fun h31 => ?_)
      · skip
        first | refine j_iinc1 C dX3_placeToDrop_36 rfl (by rw [hxn]; decide) ?_ | refine j_iinc C _ dX3_placeToDrop_36 rfl rfl (by rw [hxn]; decide) ?_
        refine j_goto C 2 dX3_placeToDrop_39 (by decide) ?_
        exact ih (lt_s hI (by simp_all [qDrp]))
      · skip
        refine j_iload_n C dX3_placeToDrop_34 rfl ?_
        exact j_ireturn C E dX3_placeToDrop_35 (rfl) (by decide) (by decide) (⟨by rw [rFirst_yes hk (by simp [qDrp, h18, h31]) hI], rfl, rfl, rfl⟩)
  · skip
    refine j_iload_n C dX3_placeToDrop_2 rfl ?_
    refine j_aload_n C dX3_placeToDrop_3 rfl ?_
    refine j_getI C fl_X3_22 (by assumption) dX3_placeToDrop_4 (by decide) rfl ?_
    refine j_top (nI n) (hkp) ?_
    refine j_icmp_ge C 42 dX3_placeToDrop_7 (by decide) (fun _ => ?_) (fun h => absurd (Int32.le_refl _) h)
    refine j_iconst C (-1) dX3_placeToDrop_42 (by decide) ?_
    exact j_ireturn C E dX3_placeToDrop_43 (rfl) (by decide) (by decide) (⟨by rw [rFirst_no hI], rfl, rfl, rfl⟩)

set_option maxHeartbeats 4000000 in
set_option maxRecDepth 100000 in
theorem c_X7_fits (l : Launch) (ω : jW) (γ : jG) (M : jM) (R : jR) {b t v n : Nat} (g : gTable ω γ b) (gt : gStm ω γ t) (gv : jArr ω γ v 12 4) (hc : M t 2 = nI n) (hn : n ≤ 4) (r : Int32) : Ct l ω yX7_fits cX7_fits 6 (some .boolean) 3 0 0 [.ref b, .int r, .ref t, .ref v] γ M R (jx γ (some (.int (rFit M b t v r n))) M R) := by
  refine Ct_of (by decide) (Nat.le_of_ble_eq_true rfl) rfl (jcat_of rfl) ?_
  intro X C E hnm hxl hxn
  subst hxl
  have g0 := g.1
  have gt0 := gt.1
  refine j_iconst C (nI 0) dX7_fits_0 (by decide) ?_
  refine j_istore C dX7_fits_1 (by rw [hxn]; decide) ?_
  refine j_loop n (fun k => [(0, .ref b), (1, .int r), (2, .ref t), (3, .ref v), (4, .int (nI k))]) (fun _ => M) (fun _ => R) (fun k => ∀ j, j < k → rFitK M b t v r j = true) (fun j hj => absurd hj (Nat.not_lt_zero j)) (fun k hk hI ih => ?_) (fun hI => ?_)
  · skip
    refine j_iload C dX7_fits_3 rfl ?_
    refine j_aload_n C dX7_fits_5 rfl ?_
    refine j_getI C fl_X7_46 (by assumption) dX7_fits_6 (by decide) rfl ?_
    refine j_top (nI n) (hc) ?_
    refine j_icmp_ge C 53 dX7_fits_9 (by decide) (fun h => absurd h (nI_ge hk (by omega))) (fun _ => ?_)
    refine j_aload_n C dX7_fits_12 rfl ?_
    refine j_iload_n C dX7_fits_13 rfl ?_
    refine j_aload_n C dX7_fits_14 rfl ?_
    refine j_iload C dX7_fits_15 rfl ?_
    refine j_cVi C (c_X5_columnAt _ _ _ _ _ (by assumption) _) yc_X5_columnAt mn_X7_51 im_X5_columnAt se_X5_columnAt rfl rfl dX7_fits_17 rfl rfl (by assumption) (by decide) (Nat.le_of_ble_eq_true rfl) (by decide) ?_
    refine j_cVi C (c_X7_cellAt _ _ _ _ _ (by assumption) _ _) yc_X7_cellAt mn_X7_38 im_X7_cellAt se_X7_cellAt rfl rfl dX7_fits_20 rfl rfl (by assumption) (by decide) (Nat.le_of_ble_eq_true rfl) (by decide) ?_
    refine j_istore C dX7_fits_23 (by rw [hxn]; decide) ?_
    refine j_iload C dX7_fits_25 rfl ?_
    refine j_aload_n C dX7_fits_27 rfl ?_
    refine j_iload C dX7_fits_28 rfl ?_
    refine j_cVi C (c_X5_operatorAt _ _ _ _ _ (by assumption) _) yc_X5_operatorAt mn_X7_55 im_X5_operatorAt se_X5_operatorAt rfl rfl dX7_fits_30 rfl rfl (by assumption) (by decide) (Nat.le_of_ble_eq_true rfl) (by decide) ?_
    refine j_aload_n C dX7_fits_33 rfl ?_
    refine j_iload C dX7_fits_34 rfl ?_
    refine j_cSi C (c_X9_at _ _ _ _ _ (by assumption) (by decide) _) yc_X9_at mn_X7_26 st_X9_at dX7_fits_36 rfl rfl (Nat.le_of_ble_eq_true rfl) (by decide) ?_
    refine j_cSi C (c_X9_holds _ _ _ _ _ _ _ _) yc_X9_holds mn_X7_58 st_X9_holds dX7_fits_39 rfl rfl (Nat.le_of_ble_eq_true rfl) (by decide) ?_
    refine j_if_ne C 47 dX7_fits_42 (by decide) (fun h42 => ?_) (fun h42 => ?_)
    · skip
      first | refine j_iinc1 C dX7_fits_47 rfl (by rw [hxn]; decide) ?_ | refine j_iinc C _ dX7_fits_47 rfl rfl (by rw [hxn]; decide) ?_
      refine j_goto C 3 dX7_fits_50 (by decide) ?_
      refine j_locs [0, 1, 2, 3, 4] rfl ?_
      exact ih (lt_s hI (by simp [rFitK, h42]))
    · skip
      refine j_iconst C (nI 0) dX7_fits_45 (by decide) ?_
      exact j_ireturn C E dX7_fits_46 (by decide) (by decide) (by decide) (⟨by rw [rFit_no hk (by simp [rFitK, h42])], rfl, rfl, rfl⟩)
  · skip
    refine j_iload C dX7_fits_3 rfl ?_
    refine j_aload_n C dX7_fits_5 rfl ?_
    refine j_getI C fl_X7_46 (by assumption) dX7_fits_6 (by decide) rfl ?_
    refine j_top (nI n) (hc) ?_
    refine j_icmp_ge C 53 dX7_fits_9 (by decide) (fun _ => ?_) (fun h => absurd (Int32.le_refl _) h)
    refine j_iconst C (nI 1) dX7_fits_53 (by decide) ?_
    exact j_ireturn C E dX7_fits_54 (by decide) (by decide) (by decide) (⟨by rw [rFit_yes hI], rfl, rfl, rfl⟩)

set_option maxHeartbeats 4000000 in
set_option maxRecDepth 100000 in
theorem c_X7_weightWhere (l : Launch) (ω : jW) (γ : jG) (M : jM) (R : jR) {b t v n r : Nat} (g : gTable ω γ b) (gt : gStm ω γ t) (gv : jArr ω γ v 12 4) (hc : M t 2 = nI n) (hn : n ≤ 4) (hr : M b 2 = nI r) (hr2 : r ≤ 30) : Ct l ω yX7_weightWhere cX7_weightWhere 5 (some .int) 4 0 0 [.ref b, .ref t, .ref v] γ M R (jx γ (some (.int (sI (rTWF M b t v n) r))) M R) := by
  refine Ct_of (by decide) (Nat.le_of_ble_eq_true rfl) rfl (jcat_of rfl) ?_
  intro X C E hnm hxl hxn
  subst hxl
  have g0 := g.1
  refine j_iconst C (nI 0) dX7_weightWhere_0 (by decide) ?_
  refine j_istore_n C dX7_weightWhere_1 (by rw [hxn]; decide) ?_
  refine j_iconst C (nI 0) dX7_weightWhere_2 (by decide) ?_
  refine j_istore C dX7_weightWhere_3 (by rw [hxn]; decide) ?_
  refine j_loop r (fun k => [(0, .ref b), (1, .ref t), (2, .ref v), (3, .int (sI (rTWF M b t v n) k)), (4, .int (nI k))]) (fun _ => M) (fun _ => R) (fun _ => True) trivial (fun k hk _ ih => ?_) (fun _ => ?_)
  · skip
    refine j_iload C dX7_weightWhere_5 rfl ?_
    refine j_aload_n C dX7_weightWhere_7 rfl ?_
    refine j_getI C fl_X7_22 (by assumption) dX7_weightWhere_8 (by decide) rfl ?_
    refine j_top (nI r) (hr) ?_
    refine j_icmp_ge C 41 dX7_weightWhere_11 (by decide) (fun h => absurd h (nI_ge hk (by omega))) (fun _ => ?_)
    refine j_aload_n C dX7_weightWhere_14 rfl ?_
    refine j_iload C dX7_weightWhere_15 rfl ?_
    refine j_aload_n C dX7_weightWhere_17 rfl ?_
    refine j_aload_n C dX7_weightWhere_18 rfl ?_
    refine j_cVi C (c_X7_fits _ _ _ _ _ (by assumption) (by assumption) (by assumption) (by assumption) (by assumption) _) yc_X7_fits mn_X7_42 im_X7_fits se_X7_fits rfl rfl dX7_weightWhere_19 rfl rfl (by assumption) (by decide) (Nat.le_of_ble_eq_true rfl) (by decide) ?_
    refine j_if_eq C 35 dX7_weightWhere_22 (by decide) (fun h22 => ?_) (fun h22 => ?_)
    · skip
      rw [show sI (rTWF M b t v n) k = sI (rTWF M b t v n) (k + 1) from by simp [sI, rTWF, h22]]
      first | refine j_iinc1 C dX7_weightWhere_35 rfl (by rw [hxn]; decide) ?_ | refine j_iinc C _ dX7_weightWhere_35 rfl rfl (by rw [hxn]; decide) ?_
      refine j_goto C 5 dX7_weightWhere_38 (by decide) ?_
      exact ih trivial
    · skip
      refine j_iload_n C dX7_weightWhere_25 rfl ?_
      refine j_aload_n C dX7_weightWhere_26 rfl ?_
      refine j_iload C dX7_weightWhere_27 rfl ?_
      refine j_iconst C (nI 4) dX7_weightWhere_29 (by decide) ?_
      refine j_cVi C (c_X7_cellAt _ _ _ _ _ (by assumption) _ _) yc_X7_cellAt mn_X7_38 im_X7_cellAt se_X7_cellAt rfl rfl dX7_weightWhere_30 rfl rfl (by assumption) (by decide) (Nat.le_of_ble_eq_true rfl) (by decide) ?_
      first | with_reducible refine j_iaddN C dX7_weightWhere_33 ?_ | refine j_iadd C dX7_weightWhere_33 ?_
      refine j_top (sI (rTWF M b t v n) (k + 1)) (by simp [sI, rTWF, h22]) ?_
      refine j_istore_n C dX7_weightWhere_34 (by rw [hxn]; decide) ?_
      first | refine j_iinc1 C dX7_weightWhere_35 rfl (by rw [hxn]; decide) ?_ | refine j_iinc C _ dX7_weightWhere_35 rfl rfl (by rw [hxn]; decide) ?_
      refine j_goto C 5 dX7_weightWhere_38 (by decide) ?_
      exact ih trivial
  · skip
    refine j_iload C dX7_weightWhere_5 rfl ?_
    refine j_aload_n C dX7_weightWhere_7 rfl ?_
    refine j_getI C fl_X7_22 (by assumption) dX7_weightWhere_8 (by decide) rfl ?_
    refine j_top (nI r) (hr) ?_
    refine j_icmp_ge C 41 dX7_weightWhere_11 (by decide) (fun _ => ?_) (fun h => absurd (Int32.le_refl _) h)
    refine j_iload_n C dX7_weightWhere_41 rfl ?_
    exact j_ireturn C E dX7_weightWhere_42 (rfl) (by decide) (by decide) (⟨rfl, rfl, rfl, rfl⟩)

set_option maxHeartbeats 4000000 in
set_option maxRecDepth 100000 in
theorem c_X4_classWith (l : Launch) (ω : jW) (γ : jG) (M : jM) (R : jR) {a t v n : Nat} (g : gState ω γ a) (gt : gStm ω γ t) (gv : jArr ω γ v 12 4) (hc : M t 2 = nI n) (hn : n ≤ 4) : Ct l ω yX4_classWith cX4_classWith 7 (some .int) 4 0 0 [.ref a, .ref t, .ref v] γ M R (jx γ (some (.int (rCls M a t v n))) M R) := by
  refine Ct_of (by decide) (Nat.le_of_ble_eq_true rfl) rfl (jcat_of rfl) ?_
  intro X C E hnm hxl hxn
  subst hxl
  have g0 := g.1
  have gs1 := g.2.2.2.1
  have gs2 := g.2.2.2.2.1
  have gs3 := gs2.1
  have gt0 := gt.1
  refine j_iconst C (nI 0) dX4_classWith_0 (by decide) ?_
  refine j_istore_n C dX4_classWith_1 (by rw [hxn]; decide) ?_
  refine j_iconst C (nI 1) dX4_classWith_2 (by decide) ?_
  refine j_istore C dX4_classWith_3 (by rw [hxn]; decide) ?_
  refine j_iconst C (nI 0) dX4_classWith_5 (by decide) ?_
  refine j_istore C dX4_classWith_6 (by rw [hxn]; decide) ?_
  refine j_loop n (fun k => [(0, .ref a), (1, .ref t), (2, .ref v), (3, .int (rCls M a t v k)), (4, .int (rWorth k)), (5, .int (nI k))]) (fun _ => M) (fun _ => R) (fun _ => True) trivial (fun k hk _ ih => ?_) (fun _ => ?_)
  · skip
    refine j_iload C dX4_classWith_8 rfl ?_
    refine j_aload_n C dX4_classWith_10 rfl ?_
    refine j_getI C fl_X4_100 (by assumption) dX4_classWith_11 (by decide) rfl ?_
    refine j_top (nI n) (hc) ?_
    refine j_icmp_ge C 94 dX4_classWith_14 (by decide) (fun h => absurd h (nI_ge hk (by omega))) (fun _ => ?_)
    refine j_aload_n C dX4_classWith_17 rfl ?_
    refine j_getR C fl_X4_21 (by assumption) dX4_classWith_18 (by decide) rfl (by assumption) ?_
    refine j_aload_n C dX4_classWith_21 rfl ?_
    refine j_iload C dX4_classWith_22 rfl ?_
    refine j_cVi C (c_X5_columnAt _ _ _ _ _ (by assumption) _) yc_X5_columnAt mn_X4_77 im_X5_columnAt se_X5_columnAt rfl rfl dX4_classWith_24 rfl rfl (by assumption) (by decide) (Nat.le_of_ble_eq_true rfl) (by decide) ?_
    refine j_aload_n C dX4_classWith_27 rfl ?_
    refine j_iload C dX4_classWith_28 rfl ?_
    refine j_cVi C (c_X5_operatorAt _ _ _ _ _ (by assumption) _) yc_X5_operatorAt mn_X4_103 im_X5_operatorAt se_X5_operatorAt rfl rfl dX4_classWith_30 rfl rfl (by assumption) (by decide) (Nat.le_of_ble_eq_true rfl) (by decide) ?_
    refine j_aload_n C dX4_classWith_33 rfl ?_
    refine j_iload C dX4_classWith_34 rfl ?_
    refine j_cSi C (c_X9_at _ _ _ _ _ (by assumption) (by decide) _) yc_X9_at mn_X4_85 st_X9_at dX4_classWith_36 rfl rfl (Nat.le_of_ble_eq_true rfl) (by decide) ?_
    refine j_cVi C (c_X6_weightWhere _ _ _ _ _ (by assumption) _ _ _) yc_X6_weightWhere mn_X4_106 im_X6_weightWhere se_X6_weightWhere rfl rfl dX4_classWith_39 rfl rfl (by assumption) (by decide) (Nat.le_of_ble_eq_true rfl) (by decide) ?_
    refine j_istore C dX4_classWith_42 (by rw [hxn]; decide) ?_
    refine j_iload_n C dX4_classWith_44 rfl ?_
    refine j_iload C dX4_classWith_45 rfl ?_
    refine j_aload_n C dX4_classWith_47 rfl ?_
    refine j_aload_n C dX4_classWith_48 rfl ?_
    refine j_getR C fl_X4_21 (by assumption) dX4_classWith_49 (by decide) rfl (by assumption) ?_
    refine j_getI C fl_X4_110 (by assumption) dX4_classWith_52 (by decide) rfl ?_
    refine j_if_ne C 62 dX4_classWith_55 (by decide) (fun h55 => ?_) (fun h55 => ?_)
    · skip
      refine j_sipush C (nI 1000) dX4_classWith_62 (by decide) ?_
      refine j_iload C dX4_classWith_65 rfl ?_
      first | with_reducible refine j_imulN C dX4_classWith_67 ?_ | refine j_imul C dX4_classWith_67 ?_
      refine j_aload_n C dX4_classWith_68 rfl ?_
      refine j_getR C fl_X4_21 (by assumption) dX4_classWith_69 (by decide) rfl (by assumption) ?_
      refine j_getI C fl_X4_110 (by assumption) dX4_classWith_72 (by decide) rfl ?_
      refine j_idiv C dX4_classWith_75 (h55) ?_
      refine j_top (rShr M a t v k) (by simp [rShr, h55]) ?_
      refine j_cVi C (c_X4_classOfShare _ _ _ _ _ (by assumption) _) yc_X4_classOfShare mn_X4_113 im_X4_classOfShare se_X4_classOfShare rfl rfl dX4_classWith_76 rfl rfl (by assumption) (by decide) (Nat.le_of_ble_eq_true rfl) (by decide) ?_
      first | with_reducible refine j_imulN C dX4_classWith_79 ?_ | refine j_imul C dX4_classWith_79 ?_
      first | with_reducible refine j_iaddN C dX4_classWith_80 ?_ | refine j_iadd C dX4_classWith_80 ?_
      refine j_istore_n C dX4_classWith_81 (by rw [hxn]; decide) ?_
      refine j_iload C dX4_classWith_82 rfl ?_
      refine j_iconst C (nI 3) dX4_classWith_84 (by decide) ?_
      first | with_reducible refine j_imulN C dX4_classWith_85 ?_ | refine j_imul C dX4_classWith_85 ?_
      refine j_istore C dX4_classWith_86 (by rw [hxn]; decide) ?_
      first | refine j_iinc1 C dX4_classWith_88 rfl (by rw [hxn]; decide) ?_ | refine j_iinc C _ dX4_classWith_88 rfl rfl (by rw [hxn]; decide) ?_
      refine j_goto C 8 dX4_classWith_91 (by decide) ?_
      refine j_locs [0, 1, 2, 3, 4, 5] rfl ?_
      exact ih trivial
    · skip
      refine j_iconst C (nI 0) dX4_classWith_58 (by decide) ?_
      refine j_goto C 76 dX4_classWith_59 (by decide) ?_
      refine j_top (rShr M a t v k) (by simp [rShr, h55]) ?_
      refine j_cVi C (c_X4_classOfShare _ _ _ _ _ (by assumption) _) yc_X4_classOfShare mn_X4_113 im_X4_classOfShare se_X4_classOfShare rfl rfl dX4_classWith_76 rfl rfl (by assumption) (by decide) (Nat.le_of_ble_eq_true rfl) (by decide) ?_
      first | with_reducible refine j_imulN C dX4_classWith_79 ?_ | refine j_imul C dX4_classWith_79 ?_
      first | with_reducible refine j_iaddN C dX4_classWith_80 ?_ | refine j_iadd C dX4_classWith_80 ?_
      refine j_istore_n C dX4_classWith_81 (by rw [hxn]; decide) ?_
      refine j_iload C dX4_classWith_82 rfl ?_
      refine j_iconst C (nI 3) dX4_classWith_84 (by decide) ?_
      first | with_reducible refine j_imulN C dX4_classWith_85 ?_ | refine j_imul C dX4_classWith_85 ?_
      refine j_istore C dX4_classWith_86 (by rw [hxn]; decide) ?_
      first | refine j_iinc1 C dX4_classWith_88 rfl (by rw [hxn]; decide) ?_ | refine j_iinc C _ dX4_classWith_88 rfl rfl (by rw [hxn]; decide) ?_
      refine j_goto C 8 dX4_classWith_91 (by decide) ?_
      refine j_locs [0, 1, 2, 3, 4, 5] rfl ?_
      exact ih trivial
  · skip
    refine j_iload C dX4_classWith_8 rfl ?_
    refine j_aload_n C dX4_classWith_10 rfl ?_
    refine j_getI C fl_X4_100 (by assumption) dX4_classWith_11 (by decide) rfl ?_
    refine j_top (nI n) (hc) ?_
    refine j_icmp_ge C 94 dX4_classWith_14 (by decide) (fun _ => ?_) (fun h => absurd (Int32.le_refl _) h)
    refine j_iload_n C dX4_classWith_94 rfl ?_
    exact j_ireturn C E dX4_classWith_95 (rfl) (by decide) (by decide) (⟨rfl, rfl, rfl, rfl⟩)

set_option maxHeartbeats 4000000 in
set_option maxRecDepth 100000 in
theorem c_X4_bestWay (l : Launch) (ω : jW) (γ : jG) (M : jM) (R : jR) {a b t v n : Nat} (g0 : jAt ω γ a 4) (gb : gSums ω γ b) (gt : gStm ω γ t) (gv : jArr ω γ v 12 4) (hc : M t 2 = nI n) (hn : n ≤ 4) : Ct l ω yX4_bestWay cX4_bestWay 8 (some .int) 4 0 0 [.ref a, .ref b, .ref t, .ref v] γ M R (jx γ (some (.int (rBest M a b t v n))) M R) := by
  refine Ct_of (by decide) (Nat.le_of_ble_eq_true rfl) rfl (jcat_of rfl) ?_
  intro X C E hnm hxl hxn
  subst hxl
  have gt0 := gt.1
  have gb0 := gb.1
  refine j_bipush C (nI 9) dX4_bestWay_0 (by decide) ?_
  refine j_istore C dX4_bestWay_2 (by rw [hxn]; decide) ?_
  refine j_iconst C (nI 0) dX4_bestWay_4 (by decide) ?_
  refine j_istore C dX4_bestWay_5 (by rw [hxn]; decide) ?_
  refine j_iconst C (nI 0) dX4_bestWay_7 (by decide) ?_
  refine j_istore C dX4_bestWay_8 (by rw [hxn]; decide) ?_
  refine j_loop n (fun k => [(0, .ref a), (1, .ref b), (2, .ref t), (3, .ref v), (4, .int (rBW M a b t v k).1), (5, .int (rBW M a b t v k).2), (6, .int (nI k))]) (fun _ => M) (fun _ => R) (fun _ => True) trivial (fun k hk _ ih => ?_) (fun _ => ?_)
  · skip
    refine j_iload C dX4_bestWay_10 rfl ?_
    refine j_aload_n C dX4_bestWay_12 rfl ?_
    refine j_getI C fl_X4_100 (by assumption) dX4_bestWay_13 (by decide) rfl ?_
    refine j_top (nI n) (hc) ?_
    refine j_icmp_ge C 70 dX4_bestWay_16 (by decide) (fun h => absurd h (nI_ge hk (by omega))) (fun _ => ?_)
    refine j_aload_n C dX4_bestWay_19 rfl ?_
    refine j_aload_n C dX4_bestWay_20 rfl ?_
    refine j_iload C dX4_bestWay_21 rfl ?_
    refine j_cVi C (c_X5_columnAt _ _ _ _ _ (by assumption) _) yc_X5_columnAt mn_X4_77 im_X5_columnAt se_X5_columnAt rfl rfl dX4_bestWay_23 rfl rfl (by assumption) (by decide) (Nat.le_of_ble_eq_true rfl) (by decide) ?_
    refine j_cVi C (c_X4_isIndexed _ _ _ _ _ (by assumption) _) yc_X4_isIndexed mn_X4_116 im_X4_isIndexed se_X4_isIndexed rfl rfl dX4_bestWay_26 rfl rfl (by assumption) (by decide) (Nat.le_of_ble_eq_true rfl) (by decide) ?_
    refine j_if_eq C 64 dX4_bestWay_29 (by decide) (fun h29 => ?_) (fun h29 => ?_)
    · skip
      have e : rBW M a b t v (k + 1) = rBW M a b t v k := by simp [rBW, h29]
      first | refine j_iinc1 C dX4_bestWay_64 rfl (by rw [hxn]; decide) ?_ | refine j_iinc C _ dX4_bestWay_64 rfl rfl (by rw [hxn]; decide) ?_
      refine j_goto C 10 dX4_bestWay_67 (by decide) ?_
      have hI := ih trivial
      rw [e] at hI
      first | exact hI | (refine j_locs [0, 1, 2, 3, 4, 5, 6] rfl ?_; exact hI)
    · skip
      refine j_aload_n C dX4_bestWay_32 rfl ?_
      refine j_aload_n C dX4_bestWay_33 rfl ?_
      refine j_aload_n C dX4_bestWay_34 rfl ?_
      refine j_iload C dX4_bestWay_35 rfl ?_
      refine j_cSi C (c_X9_cost _ _ _ _ _ (by assumption) (by assumption) (by assumption) _) yc_X9_cost mn_X4_120 st_X9_cost dX4_bestWay_37 rfl rfl (Nat.le_of_ble_eq_true rfl) (by decide) ?_
      refine j_istore C dX4_bestWay_40 (by rw [hxn]; decide) ?_
      refine j_iload C dX4_bestWay_42 rfl ?_
      refine j_bipush C (nI 9) dX4_bestWay_44 (by decide) ?_
      refine j_icmp_eq C 56 dX4_bestWay_46 (by decide) (fun h46 => ?_) (fun h46 => ?_)
      · skip
        have e : rBW M a b t v (k + 1) = (nI k, rCost M b t v (nI k)) := by simp [rBW, h29, h46]
        refine j_iload C dX4_bestWay_56 rfl ?_
        refine j_istore C dX4_bestWay_58 (by rw [hxn]; decide) ?_
        refine j_iload C dX4_bestWay_60 rfl ?_
        refine j_istore C dX4_bestWay_62 (by rw [hxn]; decide) ?_
        first | refine j_iinc1 C dX4_bestWay_64 rfl (by rw [hxn]; decide) ?_ | refine j_iinc C _ dX4_bestWay_64 rfl rfl (by rw [hxn]; decide) ?_
        refine j_goto C 10 dX4_bestWay_67 (by decide) ?_
        have hI := ih trivial
        rw [e] at hI
        first | exact hI | (refine j_locs [0, 1, 2, 3, 4, 5, 6] rfl ?_; exact hI)
      · skip
        refine j_iload C dX4_bestWay_49 rfl ?_
        refine j_iload C dX4_bestWay_51 rfl ?_
        refine j_icmp_ge C 64 dX4_bestWay_53 (by decide) (fun h53 => ?_) (fun h53 => ?_)
        · skip
          have e : rBW M a b t v (k + 1) = rBW M a b t v k := by simp [rBW, h29, h46, h53]
          first | refine j_iinc1 C dX4_bestWay_64 rfl (by rw [hxn]; decide) ?_ | refine j_iinc C _ dX4_bestWay_64 rfl rfl (by rw [hxn]; decide) ?_
          refine j_goto C 10 dX4_bestWay_67 (by decide) ?_
          have hI := ih trivial
          rw [e] at hI
          first | exact hI | (refine j_locs [0, 1, 2, 3, 4, 5, 6] rfl ?_; exact hI)
        · skip
          have e : rBW M a b t v (k + 1) = (nI k, rCost M b t v (nI k)) := by simp [rBW, h29, h46, h53]
          refine j_iload C dX4_bestWay_56 rfl ?_
          refine j_istore C dX4_bestWay_58 (by rw [hxn]; decide) ?_
          refine j_iload C dX4_bestWay_60 rfl ?_
          refine j_istore C dX4_bestWay_62 (by rw [hxn]; decide) ?_
          first | refine j_iinc1 C dX4_bestWay_64 rfl (by rw [hxn]; decide) ?_ | refine j_iinc C _ dX4_bestWay_64 rfl rfl (by rw [hxn]; decide) ?_
          refine j_goto C 10 dX4_bestWay_67 (by decide) ?_
          have hI := ih trivial
          rw [e] at hI
          first | exact hI | (refine j_locs [0, 1, 2, 3, 4, 5, 6] rfl ?_; exact hI)
  · skip
    refine j_iload C dX4_bestWay_10 rfl ?_
    refine j_aload_n C dX4_bestWay_12 rfl ?_
    refine j_getI C fl_X4_100 (by assumption) dX4_bestWay_13 (by decide) rfl ?_
    refine j_top (nI n) (hc) ?_
    refine j_icmp_ge C 70 dX4_bestWay_16 (by decide) (fun _ => ?_) (fun h => absurd (Int32.le_refl _) h)
    refine j_aload_n C dX4_bestWay_70 rfl ?_
    refine j_getI C fl_X4_110 (by assumption) dX4_bestWay_71 (by decide) rfl ?_
    refine j_iload C dX4_bestWay_74 rfl ?_
    refine j_icmp_ge C 84 dX4_bestWay_76 (by decide) (fun h76 => ?_) (fun h76 => ?_)
    · skip
      refine j_iload C dX4_bestWay_84 rfl ?_
      exact j_ireturn C E dX4_bestWay_86 (rfl) (by decide) (by decide) (⟨by simp only [rBest, if_pos h76], rfl, rfl, rfl⟩)
    · skip
      refine j_bipush C (nI 9) dX4_bestWay_79 (by decide) ?_
      refine j_goto C 86 dX4_bestWay_81 (by decide) ?_
      exact j_ireturn C E dX4_bestWay_86 (rfl) (by decide) (by decide) (⟨by simp only [rBest, if_neg h76], rfl, rfl, rfl⟩)
end
section
set_option maxHeartbeats 4000000 in
set_option maxRecDepth 100000 in
theorem c_X2_begin (l : Launch) (ω : jW) (γ : jG) (M : jM) (R : jR) {p : Nat} (hp : jAt ω γ p 2) (n s c : Int32) : Ct l ω yX2_begin cX2_begin 4 none 1 0 0 [.ref p, .int n, .int s, .int c] γ M R (jx γ none (rPBegin M p n s c) R) := by
  refine Ct_of (by decide) (Nat.le_of_ble_eq_true rfl) rfl (jcat_of rfl) ?_
  intro X C E hnm hxl hxn
  subst hxl
  refine j_aload_n C dX2_begin_0 rfl ?_
  refine j_iload_n C dX2_begin_1 rfl ?_
  refine j_putI C fl_X2_9 (by assumption) dX2_begin_2 (by decide) rfl (rfl) (rfl) ?_
  refine j_aload_n C dX2_begin_5 rfl ?_
  refine j_iload_n C dX2_begin_6 rfl ?_
  refine j_putI C fl_X2_15 (by assumption) dX2_begin_7 (by decide) rfl (rfl) (rfl) ?_
  refine j_aload_n C dX2_begin_10 rfl ?_
  refine j_iload_n C dX2_begin_11 rfl ?_
  refine j_putI C fl_X2_18 (by assumption) dX2_begin_12 (by decide) rfl (rfl) (rfl) ?_
  refine j_aload_n C dX2_begin_15 rfl ?_
  refine j_iconst C (nI 0) dX2_begin_16 (by decide) ?_
  refine j_putI C fl_X2_21 (by assumption) dX2_begin_17 (by decide) rfl (rfl) (rfl) ?_
  refine j_aload_n C dX2_begin_20 rfl ?_
  refine j_iconst C (nI 0) dX2_begin_21 (by decide) ?_
  refine j_putI C fl_X2_24 (by assumption) dX2_begin_22 (by decide) rfl (rfl) (rfl) ?_
  refine j_aload_n C dX2_begin_25 rfl ?_
  refine j_iconst C (nI 0) dX2_begin_26 (by decide) ?_
  refine j_putI C fl_X2_27 (by assumption) dX2_begin_27 (by decide) rfl (rfl) (rfl) ?_
  exact j_return C E dX2_begin_30 (by decide) (by decide) (⟨rfl, rfl, rfl, rfl⟩)

set_option maxHeartbeats 4000000 in
set_option maxRecDepth 100000 in
theorem c_X2_takeFrom (l : Launch) (ω : jW) (γ : jG) (M : jM) (R : jR) {p q : Nat} (hp : jAt ω γ p 2) (hq : jAt ω γ q 2) (hqp : q ≠ p) (hb : isB (M q 7)) : Ct l ω yX2_takeFrom cX2_takeFrom 2 none 1 0 0 [.ref p, .ref q] γ M R (jx γ none (jcopy M q p 9) R) := by
  refine Ct_of (by decide) (Nat.le_of_ble_eq_true rfl) rfl (jcat_of rfl) ?_
  intro X C E hnm hxl hxn
  subst hxl
  rw [show J X ω γ M R = J X ω γ (jcopy M q p 0) R from by rw [jcopy_0]]
  refine j_aload_n C dX2_takeFrom_0 rfl ?_
  refine j_aload_n C dX2_takeFrom_1 rfl ?_
  refine j_getI C fl_X2_9 (by assumption) dX2_takeFrom_2 (by decide) rfl ?_
  refine j_putI C fl_X2_9 (by assumption) dX2_takeFrom_5 (by decide) rfl (rfl) (rfl) ?_
  rw [jcopy_s _ hqp]
  refine j_aload_n C dX2_takeFrom_8 rfl ?_
  refine j_aload_n C dX2_takeFrom_9 rfl ?_
  refine j_getI C fl_X2_15 (by assumption) dX2_takeFrom_10 (by decide) rfl ?_
  refine j_putI C fl_X2_15 (by assumption) dX2_takeFrom_13 (by decide) rfl (rfl) (rfl) ?_
  rw [jcopy_s _ hqp]
  refine j_aload_n C dX2_takeFrom_16 rfl ?_
  refine j_aload_n C dX2_takeFrom_17 rfl ?_
  refine j_getI C fl_X2_18 (by assumption) dX2_takeFrom_18 (by decide) rfl ?_
  refine j_putI C fl_X2_18 (by assumption) dX2_takeFrom_21 (by decide) rfl (rfl) (rfl) ?_
  rw [jcopy_s _ hqp]
  refine j_aload_n C dX2_takeFrom_24 rfl ?_
  refine j_aload_n C dX2_takeFrom_25 rfl ?_
  refine j_getI C fl_X2_34 (by assumption) dX2_takeFrom_26 (by decide) rfl ?_
  refine j_putI C fl_X2_34 (by assumption) dX2_takeFrom_29 (by decide) rfl (rfl) (rfl) ?_
  rw [jcopy_s _ hqp]
  refine j_aload_n C dX2_takeFrom_32 rfl ?_
  refine j_aload_n C dX2_takeFrom_33 rfl ?_
  refine j_getI C fl_X2_37 (by assumption) dX2_takeFrom_34 (by decide) rfl ?_
  refine j_putI C fl_X2_37 (by assumption) dX2_takeFrom_37 (by decide) rfl (rfl) (rfl) ?_
  rw [jcopy_s _ hqp]
  refine j_aload_n C dX2_takeFrom_40 rfl ?_
  refine j_aload_n C dX2_takeFrom_41 rfl ?_
  refine j_getI C fl_X2_21 (by assumption) dX2_takeFrom_42 (by decide) rfl ?_
  refine j_putI C fl_X2_21 (by assumption) dX2_takeFrom_45 (by decide) rfl (rfl) (rfl) ?_
  rw [jcopy_s _ hqp]
  refine j_aload_n C dX2_takeFrom_48 rfl ?_
  refine j_aload_n C dX2_takeFrom_49 rfl ?_
  refine j_getI C fl_X2_24 (by assumption) dX2_takeFrom_50 (by decide) rfl ?_
  refine j_putI C fl_X2_24 (by assumption) dX2_takeFrom_53 (by decide) rfl (rfl) (rfl) ?_
  rw [jcopy_s _ hqp]
  refine j_aload_n C dX2_takeFrom_56 rfl ?_
  refine j_aload_n C dX2_takeFrom_57 rfl ?_
  refine j_getI C fl_X2_27 (by assumption) dX2_takeFrom_58 (by decide) rfl ?_
  refine j_putI C fl_X2_27 (by assumption) dX2_takeFrom_61 (by decide) rfl ((by rw [jcopy_o _ hqp]; exact hb.nar)) ((by rw [jcopy_o _ hqp]; exact hb.fit)) ?_
  rw [jcopy_s _ hqp]
  refine j_aload_n C dX2_takeFrom_64 rfl ?_
  refine j_aload_n C dX2_takeFrom_65 rfl ?_
  refine j_getI C fl_X2_31 (by assumption) dX2_takeFrom_66 (by decide) rfl ?_
  refine j_putI C fl_X2_31 (by assumption) dX2_takeFrom_69 (by decide) rfl (rfl) (rfl) ?_
  rw [jcopy_s _ hqp]
  exact j_return C E dX2_takeFrom_72 (by decide) (by decide) (⟨rfl, rfl, rfl, rfl⟩)

set_option maxHeartbeats 4000000 in
set_option maxRecDepth 100000 in
theorem c_X1_begin (l : Launch) (ω : jW) (γ : jG) (M : jM) (R : jR) {b v : Nat} (g : gLast ω γ b) (hv : jArr ω γ v 12 4) (hvb : v ≠ b + 1) (s c : Int32) : Ct l ω yX1_begin cX1_begin 4 none 2 0 0 [.ref b, .int s, .ref v, .int c] γ M R (jx γ none (rLBegin M b v s c) R) := by
  refine Ct_of (by decide) (Nat.le_of_ble_eq_true rfl) rfl (jcat_of rfl) ?_
  intro X C E hnm hxl hxn
  subst hxl
  obtain ⟨g0, g1, g2⟩ := g
  refine j_aload_n C dX1_begin_0 rfl ?_
  refine j_iconst C (nI 1) dX1_begin_1 (by decide) ?_
  refine j_putI C fl_X1_15 (by assumption) dX1_begin_2 (by decide) rfl (rfl) (rfl) ?_
  refine j_aload_n C dX1_begin_5 rfl ?_
  refine j_iload_n C dX1_begin_6 rfl ?_
  refine j_putI C fl_X1_19 (by assumption) dX1_begin_7 (by decide) rfl (rfl) (rfl) ?_
  refine j_aload_n C dX1_begin_10 rfl ?_
  refine j_aload_n C dX1_begin_11 rfl ?_
  refine j_getR C fl_X1_9 (by assumption) dX1_begin_12 (by decide) rfl (by assumption) ?_
  refine j_cSv C (c_X9_copy _ ω γ _ _ hv g2 (by decide) hvb) yc_X9_copy mn_X1_23 st_X9_copy dX1_begin_15 rfl rfl (Nat.le_of_ble_eq_true rfl) (by decide) ?_
  refine j_aload_n C dX1_begin_18 rfl ?_
  refine j_iload_n C dX1_begin_19 rfl ?_
  refine j_putI C fl_X1_27 (by assumption) dX1_begin_20 (by decide) rfl (rfl) (rfl) ?_
  refine j_aload_n C dX1_begin_23 rfl ?_
  refine j_bipush C (-4) dX1_begin_24 (by decide) ?_
  refine j_putI C fl_X1_30 (by assumption) dX1_begin_26 (by decide) rfl (rfl) (rfl) ?_
  exact j_return C E dX1_begin_29 (by decide) (by decide) (⟨rfl, rfl, rfl, rfl⟩)

set_option maxHeartbeats 4000000 in
set_option maxRecDepth 100000 in
theorem c_X1_takeFrom (l : Launch) (ω : jW) (γ : jG) (M : jM) (R : jR) {b c : Nat} (g : gLast ω γ b) (k : gLast ω γ c) (hcb : c ≠ b) (hcb1 : c ≠ b + 1) (hb1 : isB (M c 1)) (hb9 : isB (M c 9)) : Ct l ω yX1_takeFrom cX1_takeFrom 2 none 2 0 0 [.ref b, .ref c] γ M R (jx γ none (kLast M c b) R) := by
  refine Ct_of (by decide) (Nat.le_of_ble_eq_true rfl) rfl (jcat_of rfl) ?_
  intro X C E hnm hxl hxn
  subst hxl
  obtain ⟨g0, g1, g2⟩ := g
  obtain ⟨k0, k1, k2⟩ := k
  refine j_aload_n C dX1_takeFrom_0 rfl ?_
  refine j_getR C fl_X1_9 (by assumption) dX1_takeFrom_1 (by decide) rfl (by assumption) ?_
  refine j_aload_n C dX1_takeFrom_4 rfl ?_
  refine j_getR C fl_X1_9 (by assumption) dX1_takeFrom_5 (by decide) rfl (by assumption) ?_
  refine j_cSv C (c_X9_copy _ ω γ _ _ k2 g2 (by decide) (by omega)) yc_X9_copy mn_X1_23 st_X9_copy dX1_takeFrom_8 rfl rfl (Nat.le_of_ble_eq_true rfl) (by decide) ?_
  rw [show jcopy M (c + 1) (b + 1) 4 = jcopyF (jcopy M (c + 1) (b + 1) 4) c b 1 1 from (jcopyF_0 _ _ _ _).symm]
  refine j_aload_n C dX1_takeFrom_11 rfl ?_
  refine j_aload_n C dX1_takeFrom_12 rfl ?_
  refine j_getI C fl_X1_15 (by assumption) dX1_takeFrom_13 (by decide) rfl ?_
  refine j_putI C fl_X1_15 (by assumption) dX1_takeFrom_16 (by decide) rfl ((by rw [jcopyF_o _ hcb, jcopy_o _ (by omega)]; exact hb1.nar)) ((by rw [jcopyF_o _ hcb, jcopy_o _ (by omega)]; exact hb1.fit)) ?_
  rw [jcopyF_s _ (by decide) hcb]
  refine j_aload_n C dX1_takeFrom_19 rfl ?_
  refine j_aload_n C dX1_takeFrom_20 rfl ?_
  refine j_getI C fl_X1_19 (by assumption) dX1_takeFrom_21 (by decide) rfl ?_
  refine j_putI C fl_X1_19 (by assumption) dX1_takeFrom_24 (by decide) rfl (rfl) (rfl) ?_
  rw [jcopyF_s _ (by decide) hcb]
  refine j_aload_n C dX1_takeFrom_27 rfl ?_
  refine j_aload_n C dX1_takeFrom_28 rfl ?_
  refine j_getI C fl_X1_27 (by assumption) dX1_takeFrom_29 (by decide) rfl ?_
  refine j_putI C fl_X1_27 (by assumption) dX1_takeFrom_32 (by decide) rfl (rfl) (rfl) ?_
  rw [jcopyF_s _ (by decide) hcb]
  refine j_aload_n C dX1_takeFrom_35 rfl ?_
  refine j_aload_n C dX1_takeFrom_36 rfl ?_
  refine j_getI C fl_X1_33 (by assumption) dX1_takeFrom_37 (by decide) rfl ?_
  refine j_putI C fl_X1_33 (by assumption) dX1_takeFrom_40 (by decide) rfl (rfl) (rfl) ?_
  rw [jcopyF_s _ (by decide) hcb]
  refine j_aload_n C dX1_takeFrom_43 rfl ?_
  refine j_aload_n C dX1_takeFrom_44 rfl ?_
  refine j_getI C fl_X1_36 (by assumption) dX1_takeFrom_45 (by decide) rfl ?_
  refine j_putI C fl_X1_36 (by assumption) dX1_takeFrom_48 (by decide) rfl (rfl) (rfl) ?_
  rw [jcopyF_s _ (by decide) hcb]
  refine j_aload_n C dX1_takeFrom_51 rfl ?_
  refine j_aload_n C dX1_takeFrom_52 rfl ?_
  refine j_getI C fl_X1_39 (by assumption) dX1_takeFrom_53 (by decide) rfl ?_
  refine j_putI C fl_X1_39 (by assumption) dX1_takeFrom_56 (by decide) rfl (rfl) (rfl) ?_
  rw [jcopyF_s _ (by decide) hcb]
  refine j_aload_n C dX1_takeFrom_59 rfl ?_
  refine j_aload_n C dX1_takeFrom_60 rfl ?_
  refine j_getI C fl_X1_42 (by assumption) dX1_takeFrom_61 (by decide) rfl ?_
  refine j_putI C fl_X1_42 (by assumption) dX1_takeFrom_64 (by decide) rfl (rfl) (rfl) ?_
  rw [jcopyF_s _ (by decide) hcb]
  refine j_aload_n C dX1_takeFrom_67 rfl ?_
  refine j_aload_n C dX1_takeFrom_68 rfl ?_
  refine j_getI C fl_X1_45 (by assumption) dX1_takeFrom_69 (by decide) rfl ?_
  refine j_putI C fl_X1_45 (by assumption) dX1_takeFrom_72 (by decide) rfl (rfl) (rfl) ?_
  rw [jcopyF_s _ (by decide) hcb]
  refine j_aload_n C dX1_takeFrom_75 rfl ?_
  refine j_aload_n C dX1_takeFrom_76 rfl ?_
  refine j_getI C fl_X1_48 (by assumption) dX1_takeFrom_77 (by decide) rfl ?_
  refine j_putI C fl_X1_48 (by assumption) dX1_takeFrom_80 (by decide) rfl ((by rw [jcopyF_o _ hcb, jcopy_o _ (by omega)]; exact hb9.nar)) ((by rw [jcopyF_o _ hcb, jcopy_o _ (by omega)]; exact hb9.fit)) ?_
  rw [jcopyF_s _ (by decide) hcb]
  refine j_aload_n C dX1_takeFrom_83 rfl ?_
  refine j_aload_n C dX1_takeFrom_84 rfl ?_
  refine j_getI C fl_X1_30 (by assumption) dX1_takeFrom_85 (by decide) rfl ?_
  refine j_putI C fl_X1_30 (by assumption) dX1_takeFrom_88 (by decide) rfl (rfl) (rfl) ?_
  rw [jcopyF_s _ (by decide) hcb]
  exact j_return C E dX1_takeFrom_91 (by decide) (by decide) (⟨rfl, rfl, rfl, rfl⟩)

set_option maxHeartbeats 4000000 in
set_option maxRecDepth 100000 in
theorem c_X5_takeFrom (l : Launch) (ω : jW) (γ : jG) (M : jM) (R : jR) {t u : Nat} (g : gStm ω γ t) (k : gStm ω γ u) (hd : u + 3 ≤ t ∨ t + 3 ≤ u) : Ct l ω yX5_takeFrom cX5_takeFrom 2 none 2 0 0 [.ref t, .ref u] γ M R (jx γ none (kStm M u t) R) := by
  refine Ct_of (by decide) (Nat.le_of_ble_eq_true rfl) rfl (jcat_of rfl) ?_
  intro X C E hnm hxl hxn
  subst hxl
  obtain ⟨g0, g1, g2, g3, g4⟩ := g
  obtain ⟨k0, k1, k2, k3, k4⟩ := k
  have hut : u ≠ t := by omega
  refine j_aload_n C dX5_takeFrom_0 rfl ?_
  refine j_getR C fl_X5_9 (by assumption) dX5_takeFrom_1 (by decide) rfl (by assumption) ?_
  refine j_aload_n C dX5_takeFrom_4 rfl ?_
  refine j_getR C fl_X5_9 (by assumption) dX5_takeFrom_5 (by decide) rfl (by assumption) ?_
  refine j_cSv C (c_X9_copy _ ω γ _ _ k2 g2 (by decide) (by omega)) yc_X9_copy mn_X5_60 st_X9_copy dX5_takeFrom_8 rfl rfl (Nat.le_of_ble_eq_true rfl) (by decide) ?_
  refine j_aload_n C dX5_takeFrom_11 rfl ?_
  refine j_getR C fl_X5_15 (by assumption) dX5_takeFrom_12 (by decide) rfl (by assumption) ?_
  refine j_aload_n C dX5_takeFrom_15 rfl ?_
  refine j_getR C fl_X5_15 (by assumption) dX5_takeFrom_16 (by decide) rfl (by assumption) ?_
  refine j_cSv C (c_X9_copy _ ω γ _ _ k4 g4 (by decide) (by omega)) yc_X9_copy mn_X5_60 st_X9_copy dX5_takeFrom_19 rfl rfl (Nat.le_of_ble_eq_true rfl) (by decide) ?_
  rw [show jcopy (jcopy M (u + 1) (t + 1) 4) (u + 2) (t + 2) 4 = jcopyF (jcopy (jcopy M (u + 1) (t + 1) 4) (u + 2) (t + 2) 4) u t 2 2 from (jcopyF_0 _ _ _ _).symm]
  refine j_aload_n C dX5_takeFrom_22 rfl ?_
  refine j_aload_n C dX5_takeFrom_23 rfl ?_
  refine j_getI C fl_X5_18 (by assumption) dX5_takeFrom_24 (by decide) rfl ?_
  refine j_putI C fl_X5_18 (by assumption) dX5_takeFrom_27 (by decide) rfl (rfl) (rfl) ?_
  rw [jcopyF_s _ (by decide) hut]
  refine j_aload_n C dX5_takeFrom_30 rfl ?_
  refine j_aload_n C dX5_takeFrom_31 rfl ?_
  refine j_getI C fl_X5_57 (by assumption) dX5_takeFrom_32 (by decide) rfl ?_
  refine j_putI C fl_X5_57 (by assumption) dX5_takeFrom_35 (by decide) rfl (rfl) (rfl) ?_
  rw [jcopyF_s _ (by decide) hut]
  exact j_return C E dX5_takeFrom_38 (by decide) (by decide) (⟨rfl, rfl, rfl, rfl⟩)

set_option maxHeartbeats 4000000 in
set_option maxRecDepth 100000 in
theorem c_X6_takeFrom (l : Launch) (ω : jW) (γ : jG) (M : jM) (R : jR) {b c : Nat} (g : gSums ω γ b) (k : gSums ω γ c) (hd : c + 2 ≤ b ∨ b + 2 ≤ c) : Ct l ω yX6_takeFrom cX6_takeFrom 2 none 2 0 0 [.ref b, .ref c] γ M R (jx γ none (kSums M c b) R) := by
  refine Ct_of (by decide) (Nat.le_of_ble_eq_true rfl) rfl (jcat_of rfl) ?_
  intro X C E hnm hxl hxn
  subst hxl
  obtain ⟨g0, g1, g2⟩ := g
  obtain ⟨k0, k1, k2⟩ := k
  have hcb : c ≠ b := by omega
  refine j_aload_n C dX6_takeFrom_0 rfl ?_
  refine j_getR C fl_X6_9 (by assumption) dX6_takeFrom_1 (by decide) rfl (by assumption) ?_
  refine j_aload_n C dX6_takeFrom_4 rfl ?_
  refine j_getR C fl_X6_9 (by assumption) dX6_takeFrom_5 (by decide) rfl (by assumption) ?_
  refine j_cSv C (c_X9_copy _ ω γ _ _ k2 g2 (by decide) (by omega)) yc_X9_copy mn_X6_23 st_X9_copy dX6_takeFrom_8 rfl rfl (Nat.le_of_ble_eq_true rfl) (by decide) ?_
  rw [show jcopy M (c + 1) (b + 1) 128 = jcopyF (jcopy M (c + 1) (b + 1) 128) c b 1 1 from (jcopyF_0 _ _ _ _).symm]
  refine j_aload_n C dX6_takeFrom_11 rfl ?_
  refine j_aload_n C dX6_takeFrom_12 rfl ?_
  refine j_getI C fl_X6_27 (by assumption) dX6_takeFrom_13 (by decide) rfl ?_
  refine j_putI C fl_X6_27 (by assumption) dX6_takeFrom_16 (by decide) rfl (rfl) (rfl) ?_
  rw [jcopyF_s _ (by decide) hcb]
  exact j_return C E dX6_takeFrom_19 (by decide) (by decide) (⟨rfl, rfl, rfl, rfl⟩)

set_option maxHeartbeats 4000000 in
set_option maxRecDepth 100000 in
theorem c_X7_takeFrom (l : Launch) (ω : jW) (γ : jG) (M : jM) (R : jR) {b c : Nat} (g : gTable ω γ b) (k : gTable ω γ c) (hd : c + 4 ≤ b ∨ b + 4 ≤ c) : Ct l ω yX7_takeFrom cX7_takeFrom 2 none 3 0 0 [.ref b, .ref c] γ M R (jx γ none (kTable M c b) R) := by
  refine Ct_of (by decide) (Nat.le_of_ble_eq_true rfl) rfl (jcat_of rfl) ?_
  intro X C E hnm hxl hxn
  subst hxl
  obtain ⟨g0, g1, g2, g3, g4⟩ := g
  obtain ⟨k0, k1, k2, k3, k4⟩ := k
  have hcb : c ≠ b := by omega
  refine j_aload_n C dX7_takeFrom_0 rfl ?_
  refine j_getR C fl_X7_11 (by assumption) dX7_takeFrom_1 (by decide) rfl (by assumption) ?_
  refine j_aload_n C dX7_takeFrom_4 rfl ?_
  refine j_getR C fl_X7_11 (by assumption) dX7_takeFrom_5 (by decide) rfl (by assumption) ?_
  refine j_cSv C (c_X9_copy _ ω γ _ _ k2 g2 (by decide) (by omega)) yc_X9_copy mn_X7_68 st_X9_copy dX7_takeFrom_8 rfl rfl (Nat.le_of_ble_eq_true rfl) (by decide) ?_
  refine j_aload_n C dX7_takeFrom_11 rfl ?_
  refine j_getR C fl_X7_18 (by assumption) dX7_takeFrom_12 (by decide) rfl (by assumption) ?_
  refine j_aload_n C dX7_takeFrom_15 rfl ?_
  refine j_getR C fl_X7_18 (by assumption) dX7_takeFrom_16 (by decide) rfl (by assumption) ?_
  refine j_cVv C (c_X6_takeFrom _ ω γ _ _ g4 k4 (by omega)) yc_X6_takeFrom mn_X7_72 im_X6_takeFrom se_X6_takeFrom rfl rfl dX7_takeFrom_19 rfl rfl (g4.1) (by decide) (Nat.le_of_ble_eq_true rfl) (by decide) ?_
  rw [show kSums (jcopy M (c + 1) (b + 1) 150) (c + 2) (b + 2) = jcopyF (kSums (jcopy M (c + 1) (b + 1) 150) (c + 2) (b + 2)) c b 2 2 from (jcopyF_0 _ _ _ _).symm]
  refine j_aload_n C dX7_takeFrom_22 rfl ?_
  refine j_aload_n C dX7_takeFrom_23 rfl ?_
  refine j_getI C fl_X7_22 (by assumption) dX7_takeFrom_24 (by decide) rfl ?_
  refine j_putI C fl_X7_22 (by assumption) dX7_takeFrom_27 (by decide) rfl (rfl) (rfl) ?_
  rw [jcopyF_s _ (by decide) hcb]
  exact j_return C E dX7_takeFrom_30 (by decide) (by decide) (⟨rfl, rfl, rfl, rfl⟩)

set_option maxHeartbeats 4000000 in
set_option maxRecDepth 100000 in
theorem c_X3_takeFrom (l : Launch) (ω : jW) (γ : jG) (M : jM) (R : jR) {b c : Nat} (g : gShelf ω γ b) (k : gShelf ω γ c) (hb : SR R b) (hc : SR R c) (hd : c + 11 ≤ b ∨ b + 11 ≤ c) (hB : ∀ i, i < 8 → isB (M (pa R c i) 7)) : Ct l ω yX3_takeFrom cX3_takeFrom 3 none 2 0 0 [.ref b, .ref c] γ M R (jx γ none (kShelf M R c b) R) := by
  refine Ct_of (by decide) (Nat.le_of_ble_eq_true rfl) rfl (jcat_of rfl) ?_
  intro X C E hnm hxl hxn
  subst hxl
  have g0 := g.1
  have g1 := g.2.1
  have g2 := g.2.2.1
  have k0 := k.1
  have hcb : c ≠ b := by omega
  refine j_iconst C (nI 0) dX3_takeFrom_0 (by decide) ?_
  refine j_istore_n C dX3_takeFrom_1 (by rw [hxn]; decide) ?_
  refine j_loop 8 (fun i => [(0, .ref b), (1, .ref c), (2, .int (nI i))]) (fun i => kPl M R c b i) (fun _ => R) (fun _ => True) trivial (fun i hi _ ih => ?_) (fun _ => ?_)
  · skip
    refine j_iload_n C dX3_takeFrom_2 rfl ?_
    refine j_aload_n C dX3_takeFrom_3 rfl ?_
    refine j_getR C fl_X3_11 (by assumption) dX3_takeFrom_4 (by decide) rfl (by assumption) ?_
    refine j_alen C (by assumption) rfl (by decide) dX3_takeFrom_7 ?_
    refine j_icmp_ge C 30 dX3_takeFrom_8 (by decide) (fun h => absurd h (nI_ge hi (by decide))) (fun _ => ?_)
    refine j_aload_n C dX3_takeFrom_11 rfl ?_
    refine j_iload_n C dX3_takeFrom_12 rfl ?_
    refine j_cVr C (c_X3_planAtN _ ω γ _ R g hb hi) yc_X3_planAt mn_X3_26 im_X3_planAt se_X3_planAt rfl rfl dX3_takeFrom_13 rfl rfl (by assumption) (by decide) (Nat.le_of_ble_eq_true rfl) (by decide) ?_
    refine j_aload_n C dX3_takeFrom_16 rfl ?_
    refine j_iload_n C dX3_takeFrom_17 rfl ?_
    refine j_cVr C (c_X3_planAtN _ ω γ _ R k hc hi) yc_X3_planAt mn_X3_26 im_X3_planAt se_X3_planAt rfl rfl dX3_takeFrom_18 rfl rfl (by assumption) (by decide) (Nat.le_of_ble_eq_true rfl) (by decide) ?_
    obtain ⟨j1, hj1, e1⟩ := hb.rg hi
    obtain ⟨j2, hj2, e2⟩ := hc.rg hi
    refine j_cVv C (c_X2_takeFrom _ ω γ _ R (hb.pl g hi) (hc.pl k hi) (by omega) (by rw [kPl_o M hb (by omega) i (by omega)]; exact hB i hi)) yc_X2_takeFrom mn_X3_75 im_X2_takeFrom se_X2_takeFrom rfl rfl dX3_takeFrom_21 rfl rfl (hb.pl g hi) (by decide) (Nat.le_of_ble_eq_true rfl) (by decide) ?_
    first | refine j_iinc1 C dX3_takeFrom_24 rfl (by rw [hxn]; decide) ?_ | refine j_iinc C _ dX3_takeFrom_24 rfl rfl (by rw [hxn]; decide) ?_
    refine j_goto C 2 dX3_takeFrom_27 (by decide) ?_
    exact ih trivial
  · skip
    refine j_iload_n C dX3_takeFrom_2 rfl ?_
    refine j_aload_n C dX3_takeFrom_3 rfl ?_
    refine j_getR C fl_X3_11 (by assumption) dX3_takeFrom_4 (by decide) rfl (by assumption) ?_
    refine j_alen C (by assumption) rfl (by decide) dX3_takeFrom_7 ?_
    refine j_icmp_ge C 30 dX3_takeFrom_8 (by decide) (fun _ => ?_) (fun h => absurd (Int32.le_refl _) h)
    rw [show kPl M R c b 8 = jcopyF (kPl M R c b 8) c b 2 2 from (jcopyF_0 _ _ _ _).symm]
    refine j_aload_n C dX3_takeFrom_30 rfl ?_
    refine j_aload_n C dX3_takeFrom_31 rfl ?_
    refine j_getI C fl_X3_22 (by assumption) dX3_takeFrom_32 (by decide) rfl ?_
    refine j_putI C fl_X3_22 (by assumption) dX3_takeFrom_35 (by decide) rfl (rfl) (rfl) ?_
    rw [jcopyF_s _ (by decide) hcb]
    refine j_aload_n C dX3_takeFrom_38 rfl ?_
    refine j_aload_n C dX3_takeFrom_39 rfl ?_
    refine j_getI C fl_X3_69 (by assumption) dX3_takeFrom_40 (by decide) rfl ?_
    refine j_putI C fl_X3_69 (by assumption) dX3_takeFrom_43 (by decide) rfl (rfl) (rfl) ?_
    rw [jcopyF_s _ (by decide) hcb]
    refine j_aload_n C dX3_takeFrom_46 rfl ?_
    refine j_aload_n C dX3_takeFrom_47 rfl ?_
    refine j_getI C fl_X3_62 (by assumption) dX3_takeFrom_48 (by decide) rfl ?_
    refine j_putI C fl_X3_62 (by assumption) dX3_takeFrom_51 (by decide) rfl (rfl) (rfl) ?_
    rw [jcopyF_s _ (by decide) hcb]
    refine j_aload_n C dX3_takeFrom_54 rfl ?_
    refine j_aload_n C dX3_takeFrom_55 rfl ?_
    refine j_getI C fl_X3_72 (by assumption) dX3_takeFrom_56 (by decide) rfl ?_
    refine j_putI C fl_X3_72 (by assumption) dX3_takeFrom_59 (by decide) rfl (rfl) (rfl) ?_
    rw [jcopyF_s _ (by decide) hcb]
    exact j_return C E dX3_takeFrom_62 (by decide) (by decide) (⟨rfl, rfl, rfl, rfl⟩)

set_option maxHeartbeats 4000000 in
set_option maxRecDepth 100000 in
theorem c_X4_takeFrom (l : Launch) (ω : jW) (γ : jG) (M : jM) (R : jR) {a e : Nat} (g : gState ω γ a) (kg : gState ω γ e) (hd : a + 43 ≤ e ∨ e + 43 ≤ a) (sa : SS R a) (se : SS R e) (ra : SR R (a + 11)) (re : SR R (e + 11)) (hB : ∀ i, i < 8 → isB (M (pa R (e + 11) i) 7)) (hb1 : isB (M (e + 22) 1)) (hb9 : isB (M (e + 22) 9)) : Ct l ω yX4_takeFrom cX4_takeFrom 3 none 4 0 0 [.ref a, .ref e] γ M R (jx γ none (kState M R e a) R) := by
  refine Ct_of (by decide) (Nat.le_of_ble_eq_true rfl) rfl (jcat_of rfl) ?_
  intro X C E hnm hxl hxn
  subst hxl
  have s0 : jAt ω γ a 4 := g.1
  have p0 : jP γ a 0 = some (a + 1) := g.2.1
  have gt : gTable ω γ (a + 1) := g.2.2.1
  have p1 : jP γ a 1 = some (a + 5) := g.2.2.2.1
  have gs : gSums ω γ (a + 5) := g.2.2.2.2.1
  have p2 : jP γ a 2 = some (a + 7) := g.2.2.2.2.2.1
  have ga : jArr ω γ (a + 7) 15 6 := g.2.2.2.2.2.2.1
  have p4 : jP γ a 4 = some (a + 11) := g.2.2.2.2.2.2.2.2.2.1
  have gh : gShelf ω γ (a + 11) := g.2.2.2.2.2.2.2.2.2.2.1
  have p5 : jP γ a 5 = some (a + 22) := g.2.2.2.2.2.2.2.2.2.2.2.1
  have gl : gLast ω γ (a + 22) := g.2.2.2.2.2.2.2.2.2.2.2.2.1
  have p6 : jP γ a 6 = some (a + 24) := g.2.2.2.2.2.2.2.2.2.2.2.2.2.1
  have gc : jArr ω γ (a + 24) 12 5 := g.2.2.2.2.2.2.2.2.2.2.2.2.2.2.1
  have gm : ∀ t, t < 6 → gStm ω γ (a + 25 + 3 * t) := g.2.2.2.2.2.2.2.2.2.2.2.2.2.2.2
  have gh0 : jAt ω γ (a + 11) 3 := gh.1
  have gl0 : jAt ω γ (a + 22) 1 := gl.1
  have gt0 : jAt ω γ (a + 1) 7 := gt.1
  have gs0 : jAt ω γ (a + 5) 6 := gs.1
  have gtp : jP γ (a + 1) 1 = some (a + 3) := gt.2.2.2.1
  have gu : gSums ω γ (a + 3) := gt.2.2.2.2
  have gu0 : jAt ω γ (a + 3) 6 := gu.1
  have ks0 : jAt ω γ e 4 := kg.1
  have kp0 : jP γ e 0 = some (e + 1) := kg.2.1
  have kgt : gTable ω γ (e + 1) := kg.2.2.1
  have kp1 : jP γ e 1 = some (e + 5) := kg.2.2.2.1
  have kgs : gSums ω γ (e + 5) := kg.2.2.2.2.1
  have kp2 : jP γ e 2 = some (e + 7) := kg.2.2.2.2.2.1
  have kga : jArr ω γ (e + 7) 15 6 := kg.2.2.2.2.2.2.1
  have kp4 : jP γ e 4 = some (e + 11) := kg.2.2.2.2.2.2.2.2.2.1
  have kgh : gShelf ω γ (e + 11) := kg.2.2.2.2.2.2.2.2.2.2.1
  have kp5 : jP γ e 5 = some (e + 22) := kg.2.2.2.2.2.2.2.2.2.2.2.1
  have kgl : gLast ω γ (e + 22) := kg.2.2.2.2.2.2.2.2.2.2.2.2.1
  have kp6 : jP γ e 6 = some (e + 24) := kg.2.2.2.2.2.2.2.2.2.2.2.2.2.1
  have kgc : jArr ω γ (e + 24) 12 5 := kg.2.2.2.2.2.2.2.2.2.2.2.2.2.2.1
  have kgm : ∀ t, t < 6 → gStm ω γ (e + 25 + 3 * t) := kg.2.2.2.2.2.2.2.2.2.2.2.2.2.2.2
  have kgh0 : jAt ω γ (e + 11) 3 := kgh.1
  have kgl0 : jAt ω γ (e + 22) 1 := kgl.1
  have kgt0 : jAt ω γ (e + 1) 7 := kgt.1
  have kgs0 : jAt ω γ (e + 5) 6 := kgs.1
  have kgtp : jP γ (e + 1) 1 = some (e + 3) := kgt.2.2.2.1
  have kgu : gSums ω γ (e + 3) := kgt.2.2.2.2
  have kgu0 : jAt ω γ (e + 3) 6 := kgu.1
  have hae : e ≠ a := by omega
  refine j_aload_n C dX4_takeFrom_0 rfl ?_
  refine j_getR C fl_X4_12 (by assumption) dX4_takeFrom_1 (by decide) rfl (by assumption) ?_
  refine j_aload_n C dX4_takeFrom_4 rfl ?_
  refine j_getR C fl_X4_12 (by assumption) dX4_takeFrom_5 (by decide) rfl (by assumption) ?_
  refine j_cVv C (c_X7_takeFrom _ ω γ _ R gt kgt (by omega)) yc_X7_takeFrom mn_X4_210 im_X7_takeFrom se_X7_takeFrom rfl rfl dX4_takeFrom_8 rfl rfl (by assumption) (by decide) (Nat.le_of_ble_eq_true rfl) (by decide) ?_
  refine j_aload_n C dX4_takeFrom_11 rfl ?_
  refine j_getR C fl_X4_21 (by assumption) dX4_takeFrom_12 (by decide) rfl (by assumption) ?_
  refine j_aload_n C dX4_takeFrom_15 rfl ?_
  refine j_getR C fl_X4_21 (by assumption) dX4_takeFrom_16 (by decide) rfl (by assumption) ?_
  refine j_cVv C (c_X6_takeFrom _ ω γ _ R gs kgs (by omega)) yc_X6_takeFrom mn_X4_214 im_X6_takeFrom se_X6_takeFrom rfl rfl dX4_takeFrom_19 rfl rfl (by assumption) (by decide) (Nat.le_of_ble_eq_true rfl) (by decide) ?_
  refine j_iconst C (nI 0) dX4_takeFrom_22 (by decide) ?_
  refine j_istore_n C dX4_takeFrom_23 (by rw [hxn]; decide) ?_
  refine j_loop 6 (fun i => [(0, .ref a), (1, .ref e), (2, .int (nI i))]) (fun i => kStms (kSums (kTable M (e + 1) (a + 1)) (e + 5) (a + 5)) e a i) (fun _ => R) (fun _ => True) trivial (fun i hi _ ih => ?_) (fun _ => ?_)
  · skip
    refine j_iload_n C dX4_takeFrom_24 rfl ?_
    refine j_aload_n C dX4_takeFrom_25 rfl ?_
    refine j_getR C fl_X4_27 (by assumption) dX4_takeFrom_26 (by decide) rfl (by assumption) ?_
    refine j_alen C (by assumption) rfl (by decide) dX4_takeFrom_29 ?_
    refine j_icmp_ge C 52 dX4_takeFrom_30 (by decide) (fun h => absurd h (nI_ge hi (by decide))) (fun _ => ?_)
    refine j_aload_n C dX4_takeFrom_33 rfl ?_
    refine j_iload_n C dX4_takeFrom_34 rfl ?_
    refine j_cVr C (c_X4_statementAtN _ ω γ _ R g sa hi) yc_X4_statementAt mn_X4_73 im_X4_statementAt se_X4_statementAt rfl rfl dX4_takeFrom_35 rfl rfl (by assumption) (by decide) (Nat.le_of_ble_eq_true rfl) (by decide) ?_
    refine j_aload_n C dX4_takeFrom_38 rfl ?_
    refine j_iload_n C dX4_takeFrom_39 rfl ?_
    refine j_cVr C (c_X4_statementAtN _ ω γ _ R kg se hi) yc_X4_statementAt mn_X4_73 im_X4_statementAt se_X4_statementAt rfl rfl dX4_takeFrom_40 rfl rfl (by assumption) (by decide) (Nat.le_of_ble_eq_true rfl) (by decide) ?_
    refine j_cVv C (c_X5_takeFrom _ ω γ _ R (gm i hi) (kgm i hi) (by omega)) yc_X5_takeFrom mn_X4_217 im_X5_takeFrom se_X5_takeFrom rfl rfl dX4_takeFrom_43 rfl rfl ((gm i hi).1) (by decide) (Nat.le_of_ble_eq_true rfl) (by decide) ?_
    first | refine j_iinc1 C dX4_takeFrom_46 rfl (by rw [hxn]; decide) ?_ | refine j_iinc C _ dX4_takeFrom_46 rfl rfl (by rw [hxn]; decide) ?_
    refine j_goto C 24 dX4_takeFrom_49 (by decide) ?_
    exact ih trivial
  · skip
    refine j_iload_n C dX4_takeFrom_24 rfl ?_
    refine j_aload_n C dX4_takeFrom_25 rfl ?_
    refine j_getR C fl_X4_27 (by assumption) dX4_takeFrom_26 (by decide) rfl (by assumption) ?_
    refine j_alen C (by assumption) rfl (by decide) dX4_takeFrom_29 ?_
    refine j_icmp_ge C 52 dX4_takeFrom_30 (by decide) (fun _ => ?_) (fun h => absurd (Int32.le_refl _) h)
    refine j_aload_n C dX4_takeFrom_52 rfl ?_
    refine j_getR C fl_X4_39 (by assumption) dX4_takeFrom_53 (by decide) rfl (by assumption) ?_
    refine j_aload_n C dX4_takeFrom_56 rfl ?_
    refine j_getR C fl_X4_39 (by assumption) dX4_takeFrom_57 (by decide) rfl (by assumption) ?_
    refine j_cVv C (c_X3_takeFrom _ ω γ _ R gh kgh ra re (by omega) (fun i hi => by obtain ⟨j, hj, q⟩ := re.rg hi; rw [q, kStms_o _ 6 (by omega), kSums_o _ (by omega), kTable_o _ (by omega), ← q]; exact hB i hi)) yc_X3_takeFrom mn_X4_220 im_X3_takeFrom se_X3_takeFrom rfl rfl dX4_takeFrom_60 rfl rfl (by assumption) (by decide) (Nat.le_of_ble_eq_true rfl) (by decide) ?_
    refine j_aload_n C dX4_takeFrom_63 rfl ?_
    refine j_getR C fl_X4_46 (by assumption) dX4_takeFrom_64 (by decide) rfl (by assumption) ?_
    refine j_aload_n C dX4_takeFrom_67 rfl ?_
    refine j_getR C fl_X4_46 (by assumption) dX4_takeFrom_68 (by decide) rfl (by assumption) ?_
    refine j_cVv C (c_X1_takeFrom _ ω γ _ R gl kgl (by omega) (by omega) (by rw [kShelf_o _ ra (by omega), kStms_o _ 6 (by omega), kSums_o _ (by omega), kTable_o _ (by omega)]; exact hb1) (by rw [kShelf_o _ ra (by omega), kStms_o _ 6 (by omega), kSums_o _ (by omega), kTable_o _ (by omega)]; exact hb9)) yc_X1_takeFrom mn_X4_223 im_X1_takeFrom se_X1_takeFrom rfl rfl dX4_takeFrom_71 rfl rfl (by assumption) (by decide) (Nat.le_of_ble_eq_true rfl) (by decide) ?_
    refine j_aload_n C dX4_takeFrom_74 rfl ?_
    refine j_getR C fl_X4_50 (by assumption) dX4_takeFrom_75 (by decide) rfl (by assumption) ?_
    refine j_aload_n C dX4_takeFrom_78 rfl ?_
    refine j_getR C fl_X4_50 (by assumption) dX4_takeFrom_79 (by decide) rfl (by assumption) ?_
    refine j_cSv C (c_X9_copy _ ω γ _ R kgc gc (by decide) (by omega)) yc_X9_copy mn_X4_226 st_X9_copy dX4_takeFrom_82 rfl rfl (Nat.le_of_ble_eq_true rfl) (by decide) ?_
    refine j_mem (jcopyF (jcopy (kSt5 M R e a) (e + 24) (a + 24) 5) e a 7 7) (jcopyF_0 _ _ _ _).symm ?_
    refine j_aload_n C dX4_takeFrom_85 rfl ?_
    refine j_aload_n C dX4_takeFrom_86 rfl ?_
    refine j_getI C fl_X4_54 (by assumption) dX4_takeFrom_87 (by decide) rfl ?_
    refine j_putI C fl_X4_54 (by assumption) dX4_takeFrom_90 (by decide) rfl (rfl) (rfl) ?_
    rw [jcopyF_s _ (by decide) hae]
    refine j_aload_n C dX4_takeFrom_93 rfl ?_
    refine j_aload_n C dX4_takeFrom_94 rfl ?_
    refine j_getI C fl_X4_89 (by assumption) dX4_takeFrom_95 (by decide) rfl ?_
    refine j_putI C fl_X4_89 (by assumption) dX4_takeFrom_98 (by decide) rfl (rfl) (rfl) ?_
    rw [jcopyF_s _ (by decide) hae]
    refine j_aload_n C dX4_takeFrom_101 rfl ?_
    refine j_aload_n C dX4_takeFrom_102 rfl ?_
    refine j_getI C fl_X4_124 (by assumption) dX4_takeFrom_103 (by decide) rfl ?_
    refine j_putI C fl_X4_124 (by assumption) dX4_takeFrom_106 (by decide) rfl (rfl) (rfl) ?_
    rw [jcopyF_s _ (by decide) hae]
    refine j_aload_n C dX4_takeFrom_109 rfl ?_
    refine j_aload_n C dX4_takeFrom_110 rfl ?_
    refine j_getI C fl_X4_154 (by assumption) dX4_takeFrom_111 (by decide) rfl ?_
    refine j_putI C fl_X4_154 (by assumption) dX4_takeFrom_114 (by decide) rfl (rfl) (rfl) ?_
    rw [jcopyF_s _ (by decide) hae]
    refine j_aload_n C dX4_takeFrom_117 rfl ?_
    refine j_aload_n C dX4_takeFrom_118 rfl ?_
    refine j_getI C fl_X4_203 (by assumption) dX4_takeFrom_119 (by decide) rfl ?_
    refine j_putI C fl_X4_203 (by assumption) dX4_takeFrom_122 (by decide) rfl (rfl) (rfl) ?_
    rw [jcopyF_s _ (by decide) hae]
    exact j_return C E dX4_takeFrom_125 (by decide) (by decide) (⟨rfl, rfl, rfl, rfl⟩)

set_option maxHeartbeats 4000000 in
set_option maxRecDepth 100000 in
theorem c_X4_flipIndex (l : Launch) (ω : jW) (γ : jG) (M : jM) (R : jR) {a : Nat} (g : jAt ω γ a 4) (c : Int32) : Ct l ω yX4_flipIndex cX4_flipIndex 2 none 1 0 0 [.ref a, .int c] γ M R (jx γ none (jup M a 7 (M a 7 ^^^ (nI 1 <<< (c &&& 31)))) R) := by
  refine Ct_of (by decide) (Nat.le_of_ble_eq_true rfl) rfl (jcat_of rfl) ?_
  intro X C E hnm hxl hxn
  subst hxl
  refine j_aload_n C dX4_flipIndex_0 rfl ?_
  refine j_dup C dX4_flipIndex_1 rfl ?_
  refine j_getI C fl_X4_54 (by assumption) dX4_flipIndex_2 (by decide) rfl ?_
  refine j_iconst C (nI 1) dX4_flipIndex_5 (by decide) ?_
  refine j_iload_n C dX4_flipIndex_6 rfl ?_
  refine j_ishl C dX4_flipIndex_7 ?_
  refine j_ixor C dX4_flipIndex_8 ?_
  refine j_putI C fl_X4_54 (by assumption) dX4_flipIndex_9 (by decide) rfl (rfl) (rfl) ?_
  exact j_return C E dX4_flipIndex_12 (by decide) (by decide) (⟨rfl, rfl, rfl, rfl⟩)

set_option maxHeartbeats 4000000 in
set_option maxRecDepth 100000 in
theorem c_X4_changeSetting (l : Launch) (ω : jW) (γ : jG) (M : jM) (R : jR) {a w : Nat} (g : gState ω γ a) (hw : w < 5) (x : Int32) : Ct l ω yX4_changeSetting cX4_changeSetting 4 (some .int) 2 0 0 [.ref a, .int (nI w), .int x] γ M R (jx γ (some (.int (M (a + 24) w))) (jup M (a + 24) w x) R) := by
  refine Ct_of (by decide) (Nat.le_of_ble_eq_true rfl) rfl (jcat_of rfl) ?_
  intro X C E hnm hxl hxn
  subst hxl
  have s0 := g.1
  have p6 : jP γ a 6 = some (a + 24) := g.2.2.2.2.2.2.2.2.2.2.2.2.2.1
  have gc : jArr ω γ (a + 24) 12 5 := g.2.2.2.2.2.2.2.2.2.2.2.2.2.2.1
  refine j_aload_n C dX4_changeSetting_0 rfl ?_
  refine j_getR C fl_X4_50 (by assumption) dX4_changeSetting_1 (by decide) rfl (by assumption) ?_
  refine j_iload_n C dX4_changeSetting_4 rfl ?_
  refine j_cSi C (c_X9_at _ _ _ _ _ (by assumption) (by decide) _) yc_X9_at mn_X4_85 st_X9_at dX4_changeSetting_5 rfl rfl (Nat.le_of_ble_eq_true rfl) (by decide) ?_
  refine j_top (M (a + 24) w) (rAt_N _ hw (by decide)) ?_
  refine j_istore_n C dX4_changeSetting_8 (by rw [hxn]; decide) ?_
  refine j_iload_n C dX4_changeSetting_9 rfl ?_
  refine j_if_lt C 29 dX4_changeSetting_10 (by decide) (fun h => absurd h (nI_pos (by omega))) (fun _ => ?_)
  refine j_iload_n C dX4_changeSetting_13 rfl ?_
  refine j_aload_n C dX4_changeSetting_14 rfl ?_
  refine j_getR C fl_X4_50 (by assumption) dX4_changeSetting_15 (by decide) rfl (by assumption) ?_
  refine j_alen C (by assumption) rfl (by decide) dX4_changeSetting_18 ?_
  refine j_icmp_ge C 29 dX4_changeSetting_19 (by decide) (fun h => absurd h (nI_ge hw (by decide))) (fun _ => ?_)
  refine j_aload_n C dX4_changeSetting_22 rfl ?_
  refine j_getR C fl_X4_50 (by assumption) dX4_changeSetting_23 (by decide) rfl (by assumption) ?_
  refine j_iload_n C dX4_changeSetting_26 rfl ?_
  refine j_iload_n C dX4_changeSetting_27 rfl ?_
  refine j_iastN C (by assumption) dX4_changeSetting_28 (hw) (by decide) ?_
  refine j_iload_n C dX4_changeSetting_29 rfl ?_
  exact j_ireturn C E dX4_changeSetting_30 (rfl) (by decide) (by decide) (⟨rfl, rfl, rfl, rfl⟩)

set_option maxHeartbeats 4000000 in
set_option maxRecDepth 100000 in
theorem c_X3_remove (l : Launch) (ω : jW) (γ : jG) (M : jM) (R : jR) {b n : Nat} (g : gShelf ω γ b) (hs : SR R b) (hkp : M b 2 = nI n) (hn : n ≤ 8) {p : Nat} (hp : p < n) : Ct l ω yX3_remove cX3_remove 4 none 1 0 0 [.ref b, .int (nI p)] γ M R (jx γ none (rRem M b n) (jswap R b p (n - 1))) := by
  refine Ct_of (by decide) (Nat.le_of_ble_eq_true rfl) rfl (jcat_of rfl) ?_
  intro X C E hnm hxl hxn
  subst hxl
  have g0 := g.1
  have g1 := g.2.1
  have g2 := g.2.2.1
  have g3 := g.2.2.2.1
  have g4 : jAt ω γ (b + 2) 2 := g.2.2.2.2.1
  refine j_aload_n C dX3_remove_0 rfl ?_
  refine j_getI C fl_X3_22 (by assumption) dX3_remove_1 (by decide) rfl ?_
  refine j_top (nI n) (hkp) ?_
  refine j_iconst C (nI 1) dX3_remove_4 (by decide) ?_
  refine j_isubN C dX3_remove_5 (by omega) ?_
  refine j_istore_n C dX3_remove_6 (by rw [hxn]; decide) ?_
  refine j_iload_n C dX3_remove_7 rfl ?_
  refine j_if_lt C 61 dX3_remove_8 (by decide) (fun h => absurd h (nI_pos (by omega))) (fun _ => ?_)
  refine j_iload_n C dX3_remove_11 rfl ?_
  refine j_iload_n C dX3_remove_12 rfl ?_
  refine j_icmp_gt C 61 dX3_remove_13 (by decide) (fun h => absurd h (nI_nlt (by omega) (by omega))) (fun _ => ?_)
  refine j_iload_n C dX3_remove_16 rfl ?_
  refine j_aload_n C dX3_remove_17 rfl ?_
  refine j_getR C fl_X3_11 (by assumption) dX3_remove_18 (by decide) rfl (by assumption) ?_
  refine j_alen C (by assumption) rfl (by decide) dX3_remove_21 ?_
  refine j_icmp_ge C 61 dX3_remove_22 (by decide) (fun h => absurd h (nI_ge (by omega) (by decide))) (fun _ => ?_)
  refine j_aload_n C dX3_remove_25 rfl ?_
  refine j_getR C fl_X3_11 (by assumption) dX3_remove_26 (by decide) rfl (by assumption) ?_
  refine j_iload_n C dX3_remove_29 rfl ?_
  refine j_aaldN C (by assumption) (by decide) rfl (by omega) (by decide) (hs.at (by omega)) dX3_remove_30 ?_
  refine j_astore_n C dX3_remove_31 (by rw [hxn]; decide) ?_
  refine j_aload_n C dX3_remove_32 rfl ?_
  refine j_getR C fl_X3_11 (by assumption) dX3_remove_33 (by decide) rfl (by assumption) ?_
  refine j_iload_n C dX3_remove_36 rfl ?_
  refine j_aload_n C dX3_remove_37 rfl ?_
  refine j_getR C fl_X3_11 (by assumption) dX3_remove_38 (by decide) rfl (by assumption) ?_
  refine j_iload_n C dX3_remove_41 rfl ?_
  refine j_aaldN C (by assumption) (by decide) rfl (by omega) (by decide) (hs.at (by omega)) dX3_remove_42 ?_
  refine j_aastN C (by assumption) (by decide) (hs.pl g (by omega)) (by decide) rfl rfl (by omega) (by decide) dX3_remove_43 ?_
  refine j_aload_n C dX3_remove_44 rfl ?_
  refine j_getR C fl_X3_11 (by assumption) dX3_remove_45 (by decide) rfl (by assumption) ?_
  refine j_iload_n C dX3_remove_48 rfl ?_
  refine j_aload_n C dX3_remove_49 rfl ?_
  refine j_aastN C (by assumption) (by decide) (hs.pl g (by omega)) (by decide) rfl rfl (by omega) (by decide) dX3_remove_50 ?_
  refine j_aload_n C dX3_remove_51 rfl ?_
  refine j_dup C dX3_remove_52 rfl ?_
  refine j_getI C fl_X3_22 (by assumption) dX3_remove_53 (by decide) rfl ?_
  refine j_top (nI n) (hkp) ?_
  refine j_iconst C (nI 1) dX3_remove_56 (by decide) ?_
  refine j_isubN C dX3_remove_57 (by omega) ?_
  refine j_putI C fl_X3_22 (by assumption) dX3_remove_58 (by decide) rfl (rfl) (rfl) ?_
  exact j_return C E dX3_remove_61 (by decide) (by decide) (⟨rfl, rfl, rfl, rfl⟩)

set_option maxHeartbeats 4000000 in
set_option maxRecDepth 100000 in
theorem c_X3_throwAway (l : Launch) (ω : jW) (γ : jG) (M : jM) (R : jR) {b n : Nat} (g : gShelf ω γ b) (hs : SR R b) (hkp : M b 2 = nI n) (hn : n ≤ 8) (p : Int32) : Ct l ω yX3_throwAway cX3_throwAway 2 none 2 0 0 [.ref b, .int p] γ M R (jx γ none (rThrM M b n p) (rThrR R b n p)) := by
  refine Ct_of (by decide) (Nat.le_of_ble_eq_true rfl) rfl (jcat_of rfl) ?_
  intro X C E hnm hxl hxn
  subst hxl
  have g0 := g.1
  refine j_iload_n C dX3_throwAway_0 rfl ?_
  refine j_if_lt C 27 dX3_throwAway_1 (by decide) (fun h1 => ?_) (fun h1 => ?_)
  · skip
    exact j_return C E dX3_throwAway_27 (by decide) (by decide) (⟨rfl, rfl, by simp only [rThrM, if_pos h1, rThr], by first | (simp only [rThrR, if_pos h1]; done) | simp only [rThrR, if_pos h1, nI_clamp (show q < 2 ^ 31 by omega)]⟩)
  · skip
    refine j_iload_n C dX3_throwAway_4 rfl ?_
    refine j_aload_n C dX3_throwAway_5 rfl ?_
    refine j_getI C fl_X3_22 (by assumption) dX3_throwAway_6 (by decide) rfl ?_
    refine j_top (nI n) (hkp) ?_
    refine j_icmp_ge C 27 dX3_throwAway_9 (by decide) (fun h9 => ?_) (fun h9 => ?_)
    · skip
      exact j_return C E dX3_throwAway_27 (by decide) (by decide) (⟨rfl, rfl, by simp only [rThrM, if_neg h1, if_pos h9, rThr], by first | (simp only [rThrR, if_neg h1, if_pos h9]; done) | simp only [rThrR, if_neg h1, if_pos h9, nI_clamp (show q < 2 ^ 31 by omega)]⟩)
    · skip
      refine j_aload_n C dX3_throwAway_12 rfl ?_
      refine j_iload_n C dX3_throwAway_13 rfl ?_
      obtain ⟨q, hq, rfl⟩ := vp_in_of (in_of h1 h9 (by omega)) (by omega)
      refine j_cVv C (c_X3_remove _ ω γ M R g hs hkp hn hq) yc_X3_remove mn_X3_58 im_X3_remove se_X3_remove rfl rfl dX3_throwAway_14 rfl rfl (by assumption) (by decide) (Nat.le_of_ble_eq_true rfl) (by decide) ?_
      refine j_aload_n C dX3_throwAway_17 rfl ?_
      refine j_dup C dX3_throwAway_18 rfl ?_
      refine j_getI C fl_X3_72 (by assumption) dX3_throwAway_19 (by decide) rfl ?_
      refine j_top (M b 5) (by simp [rRem, jup]) ?_
      refine j_iconst C (nI 1) dX3_throwAway_22 (by decide) ?_
      first | with_reducible refine j_iaddN C dX3_throwAway_23 ?_ | refine j_iadd C dX3_throwAway_23 ?_
      refine j_putI C fl_X3_72 (by assumption) dX3_throwAway_24 (by decide) rfl (rfl) (rfl) ?_
      exact j_return C E dX3_throwAway_27 (by decide) (by decide) (⟨rfl, rfl, by simp only [rThrM, if_neg h1, if_neg h9, rThr], by first | (simp only [rThrR, if_neg h1, if_neg h9]; done) | simp only [rThrR, if_neg h1, if_neg h9, nI_clamp (show q < 2 ^ 31 by omega)]⟩)

set_option maxHeartbeats 4000000 in
set_option maxRecDepth 100000 in
theorem c_X3_newPlan (l : Launch) (ω : jW) (γ : jG) (M : jM) (R : jR) {b n : Nat} (g : gShelf ω γ b) (hs : SR R b) (hkp : M b 2 = nI n) (hn : n ≤ 8) (s c cap : Int32) : Ct l ω yX3_newPlan cX3_newPlan 5 (some (.object "PlanShelves$Plan")) 2 0 0 [.ref b, .int s, .int c, .int cap] γ M R (jx γ (some (.ref (rNewP M R b cap n))) (rNewM M R b s c cap n) R) := by
  refine Ct_of (by decide) (Nat.le_of_ble_eq_true rfl) rfl (jcat_of rfl) ?_
  intro X C E hnm hxl hxn
  subst hxl
  have g0 := g.1
  have g1 := g.2.1
  have g2 := g.2.2.1
  have g3 := g.2.2.2.1
  have g4 : jAt ω γ (b + 2) 2 := g.2.2.2.2.1
  refine j_aload_n C dX3_newPlan_0 rfl ?_
  refine j_getI C fl_X3_22 (by assumption) dX3_newPlan_1 (by decide) rfl ?_
  refine j_iload_n C dX3_newPlan_4 rfl ?_
  refine j_icmp_ge C 20 dX3_newPlan_5 (by decide) (fun h5 => ?_) (fun h5 => ?_)
  · skip
    refine j_aload_n C dX3_newPlan_20 rfl ?_
    refine j_getR C fl_X3_18 (by assumption) dX3_newPlan_21 (by decide) rfl (by assumption) ?_
    refine j_bipush C (-4) dX3_newPlan_24 (by decide) ?_
    refine j_iload_n C dX3_newPlan_26 rfl ?_
    refine j_iload_n C dX3_newPlan_27 rfl ?_
    refine j_cVv C (c_X2_begin _ ω γ M R g4 _ _ _) yc_X2_begin mn_X3_65 im_X2_begin se_X2_begin rfl rfl dX3_newPlan_28 rfl rfl (g4) (by decide) (Nat.le_of_ble_eq_true rfl) (by decide) ?_
    refine j_aload_n C dX3_newPlan_31 rfl ?_
    refine j_getR C fl_X3_18 (by assumption) dX3_newPlan_32 (by decide) rfl (by assumption) ?_
    exact j_areturn C E dX3_newPlan_35 (Or.inl ⟨_, rfl⟩) (by decide) (by decide) (⟨by simp only [rNewP, if_pos h5], rfl, by simp only [rNewM, if_pos h5], rfl⟩)
  · skip
    refine j_aload_n C dX3_newPlan_8 rfl ?_
    refine j_getI C fl_X3_22 (by assumption) dX3_newPlan_9 (by decide) rfl ?_
    refine j_aload_n C dX3_newPlan_12 rfl ?_
    refine j_getR C fl_X3_11 (by assumption) dX3_newPlan_13 (by decide) rfl (by assumption) ?_
    refine j_alen C (by assumption) rfl (by decide) dX3_newPlan_16 ?_
    refine j_icmp_lt C 36 dX3_newPlan_17 (by decide) (fun h17 => ?_) (fun h17 => ?_)
    · skip
      refine j_aload_n C dX3_newPlan_36 rfl ?_
      refine j_aload_n C dX3_newPlan_37 rfl ?_
      refine j_getI C fl_X3_22 (by assumption) dX3_newPlan_38 (by decide) rfl ?_
      have h17b : n < 8 := (nI_ltI (by omega) (by decide)).mp (by rw [← hkp]; exact h17)
      refine j_top (nI n) hkp ?_
      refine j_cVr C (c_X3_planAtN _ ω γ M R g hs h17b) yc_X3_planAt mn_X3_26 im_X3_planAt se_X3_planAt rfl rfl dX3_newPlan_41 rfl rfl (by assumption) (by decide) (Nat.le_of_ble_eq_true rfl) (by decide) ?_
      refine j_astore C dX3_newPlan_44 (by rw [hxn]; decide) ?_
      refine j_aload C dX3_newPlan_46 rfl ?_
      refine j_aload_n C dX3_newPlan_48 rfl ?_
      refine j_getI C fl_X3_69 (by assumption) dX3_newPlan_49 (by decide) rfl ?_
      refine j_iload_n C dX3_newPlan_52 rfl ?_
      refine j_iload_n C dX3_newPlan_53 rfl ?_
      refine j_cVv C (c_X2_begin _ ω γ M R (hs.pl g h17b) _ _ _) yc_X2_begin mn_X3_65 im_X2_begin se_X2_begin rfl rfl dX3_newPlan_54 rfl rfl (hs.pl g h17b) (by decide) (Nat.le_of_ble_eq_true rfl) (by decide) ?_
      refine j_aload_n C dX3_newPlan_57 rfl ?_
      refine j_dup C dX3_newPlan_58 rfl ?_
      refine j_getI C fl_X3_22 (by assumption) dX3_newPlan_59 (by decide) rfl ?_
      refine j_iconst C (nI 1) dX3_newPlan_62 (by decide) ?_
      first | with_reducible refine j_iaddN C dX3_newPlan_63 ?_ | refine j_iadd C dX3_newPlan_63 ?_
      refine j_putI C fl_X3_22 (by assumption) dX3_newPlan_64 (by decide) rfl (rfl) (rfl) ?_
      refine j_aload_n C dX3_newPlan_67 rfl ?_
      refine j_dup C dX3_newPlan_68 rfl ?_
      refine j_getI C fl_X3_69 (by assumption) dX3_newPlan_69 (by decide) rfl ?_
      refine j_iconst C (nI 1) dX3_newPlan_72 (by decide) ?_
      first | with_reducible refine j_iaddN C dX3_newPlan_73 ?_ | refine j_iadd C dX3_newPlan_73 ?_
      refine j_putI C fl_X3_69 (by assumption) dX3_newPlan_74 (by decide) rfl (rfl) (rfl) ?_
      refine j_aload C dX3_newPlan_77 rfl ?_
      exact j_areturn C E dX3_newPlan_79 (Or.inl ⟨_, rfl⟩) (by decide) (by decide) (⟨by simp only [rNewP, if_neg h5, if_pos h17], rfl, by simp only [rNewM, if_neg h5, if_pos h17], rfl⟩)
    · skip
      refine j_aload_n C dX3_newPlan_20 rfl ?_
      refine j_getR C fl_X3_18 (by assumption) dX3_newPlan_21 (by decide) rfl (by assumption) ?_
      refine j_bipush C (-4) dX3_newPlan_24 (by decide) ?_
      refine j_iload_n C dX3_newPlan_26 rfl ?_
      refine j_iload_n C dX3_newPlan_27 rfl ?_
      refine j_cVv C (c_X2_begin _ ω γ M R g4 _ _ _) yc_X2_begin mn_X3_65 im_X2_begin se_X2_begin rfl rfl dX3_newPlan_28 rfl rfl (g4) (by decide) (Nat.le_of_ble_eq_true rfl) (by decide) ?_
      refine j_aload_n C dX3_newPlan_31 rfl ?_
      refine j_getR C fl_X3_18 (by assumption) dX3_newPlan_32 (by decide) rfl (by assumption) ?_
      exact j_areturn C E dX3_newPlan_35 (Or.inl ⟨_, rfl⟩) (by decide) (by decide) (⟨by simp only [rNewP, if_neg h5, if_neg h17], rfl, by simp only [rNewM, if_neg h5, if_neg h17], rfl⟩)

set_option maxHeartbeats 4000000 in
set_option maxRecDepth 100000 in
theorem c_X7_put (l : Launch) (ω : jW) (γ : jG) (M : jM) (R : jR) {b : Nat} (g : gTable ω γ b) (r w x : Int32) : Ct l ω yX7_put cX7_put 5 none 1 0 0 [.ref b, .int r, .int w, .int x] γ M R (jx γ none (rPut M b r w x) R) := by
  refine Ct_of (by decide) (Nat.le_of_ble_eq_true rfl) rfl (jcat_of rfl) ?_
  intro X C E hnm hxl hxn
  subst hxl
  have g0 := g.1
  have g1 := g.2.1
  have g2 := g.2.2.1
  refine j_iload_n C dX7_put_0 rfl ?_
  refine j_iconst C (nI 5) dX7_put_1 (by decide) ?_
  first | with_reducible refine j_imulN C dX7_put_2 ?_ | refine j_imul C dX7_put_2 ?_
  refine j_iload_n C dX7_put_3 rfl ?_
  first | with_reducible refine j_iaddN C dX7_put_4 ?_ | refine j_iadd C dX7_put_4 ?_
  refine j_istore C dX7_put_5 (by rw [hxn]; decide) ?_
  refine j_iload C dX7_put_7 rfl ?_
  refine j_if_lt C 30 dX7_put_9 (by decide) (fun h9 => ?_) (fun h9 => ?_)
  · skip
    exact j_return C E dX7_put_30 (by decide) (by decide) (⟨rfl, rfl, by simp only [rPut, if_pos h9], rfl⟩)
  · skip
    refine j_iload C dX7_put_12 rfl ?_
    refine j_aload_n C dX7_put_14 rfl ?_
    refine j_getR C fl_X7_11 (by assumption) dX7_put_15 (by decide) rfl (by assumption) ?_
    refine j_alen C (by assumption) rfl (by decide) dX7_put_18 ?_
    refine j_icmp_ge C 30 dX7_put_19 (by decide) (fun h19 => ?_) (fun h19 => ?_)
    · skip
      exact j_return C E dX7_put_30 (by decide) (by decide) (⟨rfl, rfl, by simp only [rPut, if_neg h9, if_pos h19], rfl⟩)
    · skip
      refine j_aload_n C dX7_put_22 rfl ?_
      refine j_getR C fl_X7_11 (by assumption) dX7_put_23 (by decide) rfl (by assumption) ?_
      refine j_iload C dX7_put_26 rfl ?_
      refine j_iload_n C dX7_put_28 rfl ?_
      refine j_iast C (by assumption) (in_of h9 h19 (by decide)) dX7_put_29 ?_
      exact j_return C E dX7_put_30 (by decide) (by decide) (⟨rfl, rfl, by simp only [rPut, if_neg h9, if_neg h19], rfl⟩)

set_option maxHeartbeats 4000000 in
set_option maxRecDepth 100000 in
theorem c_X7_addToSums (l : Launch) (ω : jW) (γ : jG) (M : jM) (R : jR) {b : Nat} (g : gTable ω γ b) (r w : Int32) : Ct l ω yX7_addToSums cX7_addToSums 4 none 3 0 0 [.ref b, .int r, .int w] γ M R (jx γ none (rAddTo M b r w) R) := by
  refine Ct_of (by decide) (Nat.le_of_ble_eq_true rfl) rfl (jcat_of rfl) ?_
  intro X C E hnm hxl hxn
  subst hxl
  have g0 := g.1
  have g1 := g.2.2.2.1
  have g2 := g.2.2.2.2
  have g3 := g2.1
  refine j_iconst C (nI 0) dX7_addToSums_0 (by decide) ?_
  refine j_istore_n C dX7_addToSums_1 (by rw [hxn]; decide) ?_
  refine j_loop 4 (fun k => [(0, .ref b), (1, .int r), (2, .int w), (3, .int (nI k))]) (fun k => rATS M b r w k) (fun _ => R) (fun _ => True) trivial (fun k hk _ ih => ?_) (fun _ => ?_)
  · skip
    refine j_iload_n C dX7_addToSums_2 rfl ?_
    refine j_iconst C (nI 4) dX7_addToSums_3 (by decide) ?_
    refine j_icmp_ge C 28 dX7_addToSums_4 (by decide) (fun h => absurd h (nI_ge hk (by decide))) (fun _ => ?_)
    refine j_aload_n C dX7_addToSums_7 rfl ?_
    refine j_getR C fl_X7_18 (by assumption) dX7_addToSums_8 (by decide) rfl (by assumption) ?_
    refine j_iload_n C dX7_addToSums_11 rfl ?_
    refine j_aload_n C dX7_addToSums_12 rfl ?_
    refine j_iload_n C dX7_addToSums_13 rfl ?_
    refine j_iload_n C dX7_addToSums_14 rfl ?_
    refine j_cVi C (c_X7_cellAt _ ω γ _ R g _ _) yc_X7_cellAt mn_X7_38 im_X7_cellAt se_X7_cellAt rfl rfl dX7_addToSums_15 rfl rfl (by assumption) (by decide) (Nat.le_of_ble_eq_true rfl) (by decide) ?_
    refine j_iload_n C dX7_addToSums_18 rfl ?_
    refine j_cVv C (c_X6_add _ ω γ _ R g2 _ _ _) yc_X6_add mn_X7_62 im_X6_add se_X6_add rfl rfl dX7_addToSums_19 rfl rfl (g3) (by decide) (Nat.le_of_ble_eq_true rfl) (by decide) ?_
    first | refine j_iinc1 C dX7_addToSums_22 rfl (by rw [hxn]; decide) ?_ | refine j_iinc C _ dX7_addToSums_22 rfl rfl (by rw [hxn]; decide) ?_
    refine j_goto C 2 dX7_addToSums_25 (by decide) ?_
    exact ih trivial
  · skip
    refine j_iload_n C dX7_addToSums_2 rfl ?_
    refine j_iconst C (nI 4) dX7_addToSums_3 (by decide) ?_
    refine j_icmp_ge C 28 dX7_addToSums_4 (by decide) (fun _ => ?_) (fun h => absurd (Int32.le_refl _) h)
    refine j_aload_n C dX7_addToSums_28 rfl ?_
    refine j_getR C fl_X7_18 (by assumption) dX7_addToSums_29 (by decide) rfl (by assumption) ?_
    refine j_dup C dX7_addToSums_32 rfl ?_
    refine j_getI C fl_X7_65 (by assumption) dX7_addToSums_33 (by decide) rfl ?_
    refine j_iload_n C dX7_addToSums_36 rfl ?_
    first | with_reducible refine j_iaddN C dX7_addToSums_37 ?_ | refine j_iadd C dX7_addToSums_37 ?_
    refine j_putI C fl_X7_65 (by assumption) dX7_addToSums_38 (by decide) rfl (rfl) (rfl) ?_
    exact j_return C E dX7_addToSums_41 (by decide) (by decide) (⟨rfl, rfl, rfl, rfl⟩)

set_option maxHeartbeats 4000000 in
set_option maxRecDepth 100000 in
theorem c_X7_append (l : Launch) (ω : jW) (γ : jG) (M : jM) (R : jR) {b v : Nat} (g : gTable ω γ b) (hv : jArr ω γ v 12 4) (w : Int32) : Ct l ω yX7_append cX7_append 4 (some .int) 4 0 0 [.ref b, .ref v, .int w] γ M R (jx γ (some (.int (rApp M b v w b 2 - nI 1))) (rApp M b v w) R) := by
  refine Ct_of (by decide) (Nat.le_of_ble_eq_true rfl) rfl (jcat_of rfl) ?_
  intro X C E hnm hxl hxn
  subst hxl
  have g0 := g.1
  refine j_iconst C (nI 0) dX7_append_0 (by decide) ?_
  refine j_istore_n C dX7_append_1 (by rw [hxn]; decide) ?_
  refine j_loop 4 (fun k => [(0, .ref b), (1, .ref v), (2, .int w), (3, .int (nI k))]) (fun k => rPutV M b v (M b 2) k) (fun _ => R) (fun _ => True) trivial (fun k hk _ ih => ?_) (fun _ => ?_)
  · skip
    refine j_iload_n C dX7_append_2 rfl ?_
    refine j_iconst C (nI 4) dX7_append_3 (by decide) ?_
    refine j_icmp_ge C 27 dX7_append_4 (by decide) (fun h => absurd h (nI_ge hk (by decide))) (fun _ => ?_)
    refine j_aload_n C dX7_append_7 rfl ?_
    refine j_aload_n C dX7_append_8 rfl ?_
    refine j_getI C fl_X7_22 (by assumption) dX7_append_9 (by decide) rfl ?_
    refine j_top (M b 2) (by rw [rPutV_o _ (by omega)]) ?_
    refine j_iload_n C dX7_append_12 rfl ?_
    refine j_aload_n C dX7_append_13 rfl ?_
    refine j_iload_n C dX7_append_14 rfl ?_
    refine j_cSi C (c_X9_at _ ω γ _ R hv (by decide) _) yc_X9_at mn_X7_26 st_X9_at dX7_append_15 rfl rfl (Nat.le_of_ble_eq_true rfl) (by decide) ?_
    refine j_cVv C (c_X7_put _ ω γ _ R g _ _ _) yc_X7_put mn_X7_30 im_X7_put se_X7_put rfl rfl dX7_append_18 rfl rfl (by assumption) (by decide) (Nat.le_of_ble_eq_true rfl) (by decide) ?_
    first | refine j_iinc1 C dX7_append_21 rfl (by rw [hxn]; decide) ?_ | refine j_iinc C _ dX7_append_21 rfl rfl (by rw [hxn]; decide) ?_
    refine j_goto C 2 dX7_append_24 (by decide) ?_
    exact ih trivial
  · skip
    refine j_iload_n C dX7_append_2 rfl ?_
    refine j_iconst C (nI 4) dX7_append_3 (by decide) ?_
    refine j_icmp_ge C 27 dX7_append_4 (by decide) (fun _ => ?_) (fun h => absurd (Int32.le_refl _) h)
    refine j_aload_n C dX7_append_27 rfl ?_
    refine j_aload_n C dX7_append_28 rfl ?_
    refine j_getI C fl_X7_22 (by assumption) dX7_append_29 (by decide) rfl ?_
    refine j_iconst C (nI 4) dX7_append_32 (by decide) ?_
    refine j_iload_n C dX7_append_33 rfl ?_
    refine j_cVv C (c_X7_put _ ω γ _ R g _ _ _) yc_X7_put mn_X7_30 im_X7_put se_X7_put rfl rfl dX7_append_34 rfl rfl (by assumption) (by decide) (Nat.le_of_ble_eq_true rfl) (by decide) ?_
    refine j_aload_n C dX7_append_37 rfl ?_
    refine j_aload_n C dX7_append_38 rfl ?_
    refine j_getI C fl_X7_22 (by assumption) dX7_append_39 (by decide) rfl ?_
    refine j_iload_n C dX7_append_42 rfl ?_
    refine j_cVv C (c_X7_addToSums _ ω γ _ R g _ _) yc_X7_addToSums mn_X7_34 im_X7_addToSums se_X7_addToSums rfl rfl dX7_append_43 rfl rfl (by assumption) (by decide) (Nat.le_of_ble_eq_true rfl) (by decide) ?_
    refine j_aload_n C dX7_append_46 rfl ?_
    refine j_dup C dX7_append_47 rfl ?_
    refine j_getI C fl_X7_22 (by assumption) dX7_append_48 (by decide) rfl ?_
    refine j_iconst C (nI 1) dX7_append_51 (by decide) ?_
    first | with_reducible refine j_iaddN C dX7_append_52 ?_ | refine j_iadd C dX7_append_52 ?_
    refine j_putI C fl_X7_22 (by assumption) dX7_append_53 (by decide) rfl (rfl) (rfl) ?_
    refine j_aload_n C dX7_append_56 rfl ?_
    refine j_getI C fl_X7_22 (by assumption) dX7_append_57 (by decide) rfl ?_
    refine j_iconst C (nI 1) dX7_append_60 (by decide) ?_
    refine j_isub C dX7_append_61 ?_
    exact j_ireturn C E dX7_append_62 (rfl) (by decide) (by decide) (⟨rfl, rfl, rfl, rfl⟩)

set_option maxHeartbeats 4000000 in
set_option maxRecDepth 100000 in
theorem c_X7_remove (l : Launch) (ω : jW) (γ : jG) (M : jM) (R : jR) {b r n : Nat} (g : gTable ω γ b) (hn : M b 2 = nI n) (hr : r < n) (h30 : n ≤ 30) : Ct l ω yX7_remove cX7_remove 4 (some .int) 4 0 0 [.ref b, .int (nI r)] γ M R (jx γ (some (.int (rCell M b (nI r) (nI 4)))) (rDel M b r n) R) := by
  refine Ct_of (by decide) (Nat.le_of_ble_eq_true rfl) rfl (jcat_of rfl) ?_
  intro X C E hnm hxl hxn
  subst hxl
  have g0 := g.1
  have g1 := g.2.1
  have g2 := g.2.2.1
  refine j_aload_n C dX7_remove_0 rfl ?_
  refine j_iload_n C dX7_remove_1 rfl ?_
  refine j_iconst C (nI 4) dX7_remove_2 (by decide) ?_
  refine j_cVi C (c_X7_cellAt _ ω γ _ R g _ _) yc_X7_cellAt mn_X7_38 im_X7_cellAt se_X7_cellAt rfl rfl dX7_remove_3 rfl rfl (by assumption) (by decide) (Nat.le_of_ble_eq_true rfl) (by decide) ?_
  refine j_istore_n C dX7_remove_6 (by rw [hxn]; decide) ?_
  refine j_aload_n C dX7_remove_7 rfl ?_
  refine j_iload_n C dX7_remove_8 rfl ?_
  refine j_iload_n C dX7_remove_9 rfl ?_
  refine j_ineg C dX7_remove_10 ?_
  refine j_cVv C (c_X7_addToSums _ ω γ _ R g _ _) yc_X7_addToSums mn_X7_34 im_X7_addToSums se_X7_addToSums rfl rfl dX7_remove_11 rfl rfl (by assumption) (by decide) (Nat.le_of_ble_eq_true rfl) (by decide) ?_
  refine j_aload_n C dX7_remove_14 rfl ?_
  refine j_dup C dX7_remove_15 rfl ?_
  refine j_getI C fl_X7_22 (by assumption) dX7_remove_16 (by decide) rfl ?_
  refine j_top (nI n) (by rw [rAddTo_o _ (by omega) (by omega)]; exact hn) ?_
  refine j_iconst C (nI 1) dX7_remove_19 (by decide) ?_
  refine j_isubN C dX7_remove_20 (by omega) ?_
  refine j_putI C fl_X7_22 (by assumption) dX7_remove_21 (by decide) rfl (rfl) (rfl) ?_
  refine j_iload_n C dX7_remove_24 rfl ?_
  refine j_iconst C (nI 5) dX7_remove_25 (by decide) ?_
  first | with_reducible refine j_imulN C dX7_remove_26 ?_ | refine j_imul C dX7_remove_26 ?_
  refine j_istore_n C dX7_remove_27 (by rw [hxn]; decide) ?_
  refine j_mem (rShift (jup (rAddTo M b (nI r) (-rCell M b (nI r) (nI 4))) b 2 (nI (n - 1))) b r (r * 5)) (rShift_0 _ _ _).symm ?_
  refine j_loop ((n - 1 - r) * 5) (fun k => [(0, .ref b), (1, .int (nI r)), (2, .int (rCell M b (nI r) (nI 4))), (3, .int (nI (r * 5 + k)))]) (fun k => rShift (jup (rAddTo M b (nI r) (-rCell M b (nI r) (nI 4))) b 2 (nI (n - 1))) b r (r * 5 + k)) (fun _ => R) (fun _ => True) trivial (fun k hk _ ih => ?_) (fun _ => ?_)
  · skip
    refine j_iload_n C dX7_remove_28 rfl ?_
    refine j_if_lt C 73 dX7_remove_29 (by decide) (fun h => absurd h (nI_pos (by omega))) (fun _ => ?_)
    refine j_iload_n C dX7_remove_32 rfl ?_
    refine j_aload_n C dX7_remove_33 rfl ?_
    refine j_getI C fl_X7_22 (by assumption) dX7_remove_34 (by decide) rfl ?_
    refine j_top (nI (n - 1)) (by rw [rShift_o _ (by omega), jup_eq]) ?_
    refine j_iconst C (nI 5) dX7_remove_37 (by decide) ?_
    first | with_reducible refine j_imulN C dX7_remove_38 ?_ | refine j_imul C dX7_remove_38 ?_
    refine j_icmp_ge C 73 dX7_remove_39 (by decide) (fun h => absurd h (nI_ge (by omega) (by omega))) (fun _ => ?_)
    refine j_iload_n C dX7_remove_42 rfl ?_
    refine j_aload_n C dX7_remove_43 rfl ?_
    refine j_getR C fl_X7_11 (by assumption) dX7_remove_44 (by decide) rfl (by assumption) ?_
    refine j_alen C (by assumption) rfl (by decide) dX7_remove_47 ?_
    refine j_iconst C (nI 5) dX7_remove_48 (by decide) ?_
    refine j_isubN C dX7_remove_49 (by decide) ?_
    refine j_icmp_ge C 73 dX7_remove_50 (by decide) (fun h => absurd h (nI_ge (by omega) (by decide))) (fun _ => ?_)
    refine j_aload_n C dX7_remove_53 rfl ?_
    refine j_getR C fl_X7_11 (by assumption) dX7_remove_54 (by decide) rfl (by assumption) ?_
    refine j_iload_n C dX7_remove_57 rfl ?_
    refine j_aload_n C dX7_remove_58 rfl ?_
    refine j_getR C fl_X7_11 (by assumption) dX7_remove_59 (by decide) rfl (by assumption) ?_
    refine j_iload_n C dX7_remove_62 rfl ?_
    refine j_iconst C (nI 5) dX7_remove_63 (by decide) ?_
    first | with_reducible refine j_iaddN C dX7_remove_64 ?_ | refine j_iadd C dX7_remove_64 ?_
    refine j_ialdN C (by assumption) dX7_remove_65 (by omega) (by decide) ?_
    refine j_iastN C (by assumption) dX7_remove_66 (by omega) (by decide) ?_
    rw [rShift_s _ (by omega)]
    first | refine j_iinc1 C dX7_remove_67 rfl (by rw [hxn]; decide) ?_ | refine j_iinc C _ dX7_remove_67 rfl rfl (by rw [hxn]; decide) ?_
    refine j_goto C 28 dX7_remove_70 (by decide) ?_
    exact ih trivial
  · skip
    refine j_mem (rDel M b r n) (by simp only [rDel]; rw [show r * 5 + (n - 1 - r) * 5 = 5 * (n - 1) by omega]) ?_
    refine j_iload_n C dX7_remove_28 rfl ?_
    refine j_if_lt C 73 dX7_remove_29 (by decide) (fun h => absurd h (nI_pos (by omega))) (fun _ => ?_)
    refine j_iload_n C dX7_remove_32 rfl ?_
    refine j_aload_n C dX7_remove_33 rfl ?_
    refine j_getI C fl_X7_22 (by assumption) dX7_remove_34 (by decide) rfl ?_
    refine j_top (nI (n - 1)) (by simp only [rDel]; rw [rShift_o _ (by omega), jup_eq]) ?_
    refine j_iconst C (nI 5) dX7_remove_37 (by decide) ?_
    first | with_reducible refine j_imulN C dX7_remove_38 ?_ | refine j_imul C dX7_remove_38 ?_
    refine j_icmp_ge C 73 dX7_remove_39 (by decide) (fun _ => ?_) (fun h => absurd (nI_le (by omega) (by omega)) h)
    refine j_iload_n C dX7_remove_73 rfl ?_
    exact j_ireturn C E dX7_remove_74 (rfl) (by decide) (by decide) (⟨rfl, rfl, rfl, rfl⟩)
end
