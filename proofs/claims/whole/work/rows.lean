section
-- ===== PART A: goes FIRST, ahead of the names: the tables' words, and 'selects' of the private methods out of them =====
/-- a private method of a class that the tables say can be made, by its rows of tables_1 -/
def lw_okq (q : MethodName × Nat) : Prop := (q.1.cls ≠ "java/lang/invoke/MethodHandle" ∧ q.1.cls ≠ "java/lang/invoke/VarHandle") ∧ Cond.instantiable q.1.cls q.2 ∈ tables_1 ∧ Cond.privateMethod q.1 ∈ tables_1 ∧ Cond.instanceMethod q.1 ∈ tables_1
theorem lw_p0 : lw_okq (⟨"GhostTrain", "isCar", "(I)Z"⟩, 11) := ⟨⟨by decide +kernel, by decide +kernel⟩, List.mem_of_getElem? (i := 22) (by decide +kernel), List.mem_of_getElem? (i := 281) (by decide +kernel), List.mem_of_getElem? (i := 282) (by decide +kernel)⟩
theorem lw_p1 : lw_okq (⟨"GhostTrain$Ring", "goOn", "(I)V"⟩, 10) := ⟨⟨by decide +kernel, by decide +kernel⟩, List.mem_of_getElem? (i := 100) (by decide +kernel), List.mem_of_getElem? (i := 468) (by decide +kernel), List.mem_of_getElem? (i := 469) (by decide +kernel)⟩
theorem lw_p2 : lw_okq (⟨"GhostTrain$Ring", "enter", "(II)V"⟩, 10) := ⟨⟨by decide +kernel, by decide +kernel⟩, List.mem_of_getElem? (i := 100) (by decide +kernel), List.mem_of_getElem? (i := 475) (by decide +kernel), List.mem_of_getElem? (i := 476) (by decide +kernel)⟩
theorem lw_p3 : lw_okq (⟨"GhostTrain", "thoughtScreams", "(I)I"⟩, 11) := ⟨⟨by decide +kernel, by decide +kernel⟩, List.mem_of_getElem? (i := 22) (by decide +kernel), List.mem_of_getElem? (i := 515) (by decide +kernel), List.mem_of_getElem? (i := 516) (by decide +kernel)⟩
theorem lw_p4 : lw_okq (⟨"GhostTrain", "nobodyStands", "(II)Z"⟩, 11) := ⟨⟨by decide +kernel, by decide +kernel⟩, List.mem_of_getElem? (i := 22) (by decide +kernel), List.mem_of_getElem? (i := 547) (by decide +kernel), List.mem_of_getElem? (i := 548) (by decide +kernel)⟩
theorem lw_p5 : lw_okq (⟨"GhostTrain", "differencesWith", "(IILGhostTrain$Sheet;)I"⟩, 11) := ⟨⟨by decide +kernel, by decide +kernel⟩, List.mem_of_getElem? (i := 22) (by decide +kernel), List.mem_of_getElem? (i := 563) (by decide +kernel), List.mem_of_getElem? (i := 564) (by decide +kernel)⟩
theorem lw_p6 : lw_okq (⟨"GhostTrain$Tape", "advance", "()V"⟩, 5) := ⟨⟨by decide +kernel, by decide +kernel⟩, List.mem_of_getElem? (i := 75) (by decide +kernel), List.mem_of_getElem? (i := 604) (by decide +kernel), List.mem_of_getElem? (i := 605) (by decide +kernel)⟩
theorem lw_p7 : lw_okq (⟨"GhostTrain$Tape", "keyHere", "()I"⟩, 5) := ⟨⟨by decide +kernel, by decide +kernel⟩, List.mem_of_getElem? (i := 75) (by decide +kernel), List.mem_of_getElem? (i := 611) (by decide +kernel), List.mem_of_getElem? (i := 612) (by decide +kernel)⟩
theorem lw_p8 : lw_okq (⟨"GhostTrain$Tape", "isWordHere", "(Ljava/lang/String;)Z"⟩, 5) := ⟨⟨by decide +kernel, by decide +kernel⟩, List.mem_of_getElem? (i := 75) (by decide +kernel), List.mem_of_getElem? (i := 616) (by decide +kernel), List.mem_of_getElem? (i := 617) (by decide +kernel)⟩
theorem lw_p9 : lw_okq (⟨"GhostTrain$Tape", "readLevel", "(LGhostTrain$Text;III)Z"⟩, 5) := ⟨⟨by decide +kernel, by decide +kernel⟩, List.mem_of_getElem? (i := 75) (by decide +kernel), List.mem_of_getElem? (i := 674) (by decide +kernel), List.mem_of_getElem? (i := 675) (by decide +kernel)⟩
theorem lw_p10 : lw_okq (⟨"GhostTrain$Tape", "readPiece", "(LGhostTrain$Text;II)Z"⟩, 5) := ⟨⟨by decide +kernel, by decide +kernel⟩, List.mem_of_getElem? (i := 75) (by decide +kernel), List.mem_of_getElem? (i := 678) (by decide +kernel), List.mem_of_getElem? (i := 679) (by decide +kernel)⟩
theorem lw_p11 : lw_okq (⟨"GhostTrain$Tape", "isOneOf", "(Ljava/lang/String;)Z"⟩, 5) := ⟨⟨by decide +kernel, by decide +kernel⟩, List.mem_of_getElem? (i := 75) (by decide +kernel), List.mem_of_getElem? (i := 683) (by decide +kernel), List.mem_of_getElem? (i := 684) (by decide +kernel)⟩
theorem lw_p12 : lw_okq (⟨"GhostTrain$Text", "add", "(I)V"⟩, 5) := ⟨⟨by decide +kernel, by decide +kernel⟩, List.mem_of_getElem? (i := 150) (by decide +kernel), List.mem_of_getElem? (i := 746) (by decide +kernel), List.mem_of_getElem? (i := 747) (by decide +kernel)⟩
theorem lw_p13 : lw_okq (⟨"GhostTrain$Tape", "readOperand", "(LGhostTrain$Text;)Z"⟩, 5) := ⟨⟨by decide +kernel, by decide +kernel⟩, List.mem_of_getElem? (i := 75) (by decide +kernel), List.mem_of_getElem? (i := 752) (by decide +kernel), List.mem_of_getElem? (i := 753) (by decide +kernel)⟩
theorem lw_p14 : lw_okq (⟨"GhostTrain$Tape", "nameHere", "(I)I"⟩, 5) := ⟨⟨by decide +kernel, by decide +kernel⟩, List.mem_of_getElem? (i := 75) (by decide +kernel), List.mem_of_getElem? (i := 756) (by decide +kernel), List.mem_of_getElem? (i := 757) (by decide +kernel)⟩
theorem lw_p15 : lw_okq (⟨"GhostTrain$Tape", "numberHere", "()I"⟩, 5) := ⟨⟨by decide +kernel, by decide +kernel⟩, List.mem_of_getElem? (i := 75) (by decide +kernel), List.mem_of_getElem? (i := 763) (by decide +kernel), List.mem_of_getElem? (i := 764) (by decide +kernel)⟩
def lw_privs_1 : List (MethodName × Nat) := [(⟨"GhostTrain", "isCar", "(I)Z"⟩, 11), (⟨"GhostTrain$Ring", "goOn", "(I)V"⟩, 10), (⟨"GhostTrain$Ring", "enter", "(II)V"⟩, 10), (⟨"GhostTrain", "thoughtScreams", "(I)I"⟩, 11), (⟨"GhostTrain", "nobodyStands", "(II)Z"⟩, 11), (⟨"GhostTrain", "differencesWith", "(IILGhostTrain$Sheet;)I"⟩, 11), (⟨"GhostTrain$Tape", "advance", "()V"⟩, 5), (⟨"GhostTrain$Tape", "keyHere", "()I"⟩, 5), (⟨"GhostTrain$Tape", "isWordHere", "(Ljava/lang/String;)Z"⟩, 5), (⟨"GhostTrain$Tape", "readLevel", "(LGhostTrain$Text;III)Z"⟩, 5), (⟨"GhostTrain$Tape", "readPiece", "(LGhostTrain$Text;II)Z"⟩, 5), (⟨"GhostTrain$Tape", "isOneOf", "(Ljava/lang/String;)Z"⟩, 5), (⟨"GhostTrain$Text", "add", "(I)V"⟩, 5), (⟨"GhostTrain$Tape", "readOperand", "(LGhostTrain$Text;)Z"⟩, 5), (⟨"GhostTrain$Tape", "nameHere", "(I)I"⟩, 5), (⟨"GhostTrain$Tape", "numberHere", "()I"⟩, 5)]
theorem lw_r1 : ∀ q ∈ lw_privs_1, lw_okq q := List.forall_mem_cons.mpr ⟨lw_p0, List.forall_mem_cons.mpr ⟨lw_p1, List.forall_mem_cons.mpr ⟨lw_p2, List.forall_mem_cons.mpr ⟨lw_p3, List.forall_mem_cons.mpr ⟨lw_p4, List.forall_mem_cons.mpr ⟨lw_p5, List.forall_mem_cons.mpr ⟨lw_p6, List.forall_mem_cons.mpr ⟨lw_p7, List.forall_mem_cons.mpr ⟨lw_p8, List.forall_mem_cons.mpr ⟨lw_p9, List.forall_mem_cons.mpr ⟨lw_p10, List.forall_mem_cons.mpr ⟨lw_p11, List.forall_mem_cons.mpr ⟨lw_p12, List.forall_mem_cons.mpr ⟨lw_p13, List.forall_mem_cons.mpr ⟨lw_p14, List.forall_mem_cons.mpr ⟨lw_p15, fun _ h => absurd h List.not_mem_nil⟩⟩⟩⟩⟩⟩⟩⟩⟩⟩⟩⟩⟩⟩⟩⟩
theorem lw_p16 : lw_okq (⟨"GhostTrainModel", "comes", "(III)I"⟩, 34) := ⟨⟨by decide +kernel, by decide +kernel⟩, List.mem_of_getElem? (i := 875) (by decide +kernel), List.mem_of_getElem? (i := 995) (by decide +kernel), List.mem_of_getElem? (i := 996) (by decide +kernel)⟩
theorem lw_p17 : lw_okq (⟨"GhostTrainModel", "isCar", "(I)Z"⟩, 34) := ⟨⟨by decide +kernel, by decide +kernel⟩, List.mem_of_getElem? (i := 875) (by decide +kernel), List.mem_of_getElem? (i := 1003) (by decide +kernel), List.mem_of_getElem? (i := 1004) (by decide +kernel)⟩
theorem lw_p18 : lw_okq (⟨"GhostTrainModel", "paceIn", "(II)I"⟩, 34) := ⟨⟨by decide +kernel, by decide +kernel⟩, List.mem_of_getElem? (i := 875) (by decide +kernel), List.mem_of_getElem? (i := 1010) (by decide +kernel), List.mem_of_getElem? (i := 1011) (by decide +kernel)⟩
theorem lw_p19 : lw_okq (⟨"GhostTrainModel", "counts", "(I)I"⟩, 34) := ⟨⟨by decide +kernel, by decide +kernel⟩, List.mem_of_getElem? (i := 875) (by decide +kernel), List.mem_of_getElem? (i := 1014) (by decide +kernel), List.mem_of_getElem? (i := 1015) (by decide +kernel)⟩
theorem lw_p20 : lw_okq (⟨"GhostTrainModel", "of", "(II)I"⟩, 34) := ⟨⟨by decide +kernel, by decide +kernel⟩, List.mem_of_getElem? (i := 875) (by decide +kernel), List.mem_of_getElem? (i := 1018) (by decide +kernel), List.mem_of_getElem? (i := 1019) (by decide +kernel)⟩
theorem lw_p21 : lw_okq (⟨"GhostTrainModel", "worksOut", "(I)I"⟩, 34) := ⟨⟨by decide +kernel, by decide +kernel⟩, List.mem_of_getElem? (i := 875) (by decide +kernel), List.mem_of_getElem? (i := 1022) (by decide +kernel), List.mem_of_getElem? (i := 1023) (by decide +kernel)⟩
theorem lw_p22 : lw_okq (⟨"GhostTrainModel", "roomOf", "(I)I"⟩, 34) := ⟨⟨by decide +kernel, by decide +kernel⟩, List.mem_of_getElem? (i := 875) (by decide +kernel), List.mem_of_getElem? (i := 1036) (by decide +kernel), List.mem_of_getElem? (i := 1037) (by decide +kernel)⟩
theorem lw_p23 : lw_okq (⟨"GhostTrainModel", "loudOf", "(I)I"⟩, 34) := ⟨⟨by decide +kernel, by decide +kernel⟩, List.mem_of_getElem? (i := 875) (by decide +kernel), List.mem_of_getElem? (i := 1040) (by decide +kernel), List.mem_of_getElem? (i := 1041) (by decide +kernel)⟩
theorem lw_p24 : lw_okq (⟨"GhostTrainModel", "worthOf", "(I)I"⟩, 34) := ⟨⟨by decide +kernel, by decide +kernel⟩, List.mem_of_getElem? (i := 875) (by decide +kernel), List.mem_of_getElem? (i := 1044) (by decide +kernel), List.mem_of_getElem? (i := 1045) (by decide +kernel)⟩
theorem lw_p25 : lw_okq (⟨"GhostTrainModel", "becomes", "(II)I"⟩, 34) := ⟨⟨by decide +kernel, by decide +kernel⟩, List.mem_of_getElem? (i := 875) (by decide +kernel), List.mem_of_getElem? (i := 1060) (by decide +kernel), List.mem_of_getElem? (i := 1061) (by decide +kernel)⟩
theorem lw_p26 : lw_okq (⟨"GhostTrainModel", "draw", "()I"⟩, 34) := ⟨⟨by decide +kernel, by decide +kernel⟩, List.mem_of_getElem? (i := 875) (by decide +kernel), List.mem_of_getElem? (i := 1084) (by decide +kernel), List.mem_of_getElem? (i := 1085) (by decide +kernel)⟩
theorem lw_p27 : lw_okq (⟨"GhostTrainModel", "sumOf", "(I)I"⟩, 34) := ⟨⟨by decide +kernel, by decide +kernel⟩, List.mem_of_getElem? (i := 875) (by decide +kernel), List.mem_of_getElem? (i := 1097) (by decide +kernel), List.mem_of_getElem? (i := 1098) (by decide +kernel)⟩
theorem lw_p28 : lw_okq (⟨"GhostTrainModel", "goesOn", "(I)V"⟩, 34) := ⟨⟨by decide +kernel, by decide +kernel⟩, List.mem_of_getElem? (i := 875) (by decide +kernel), List.mem_of_getElem? (i := 1101) (by decide +kernel), List.mem_of_getElem? (i := 1102) (by decide +kernel)⟩
theorem lw_p29 : lw_okq (⟨"GhostTrainModel", "second", "()V"⟩, 34) := ⟨⟨by decide +kernel, by decide +kernel⟩, List.mem_of_getElem? (i := 875) (by decide +kernel), List.mem_of_getElem? (i := 1105) (by decide +kernel), List.mem_of_getElem? (i := 1106) (by decide +kernel)⟩
theorem lw_p30 : lw_okq (⟨"GhostTrainModel", "goes", "(I)V"⟩, 34) := ⟨⟨by decide +kernel, by decide +kernel⟩, List.mem_of_getElem? (i := 875) (by decide +kernel), List.mem_of_getElem? (i := 1109) (by decide +kernel), List.mem_of_getElem? (i := 1110) (by decide +kernel)⟩
theorem lw_p31 : lw_okq (⟨"GhostTrainModel", "adds", "(III)V"⟩, 34) := ⟨⟨by decide +kernel, by decide +kernel⟩, List.mem_of_getElem? (i := 875) (by decide +kernel), List.mem_of_getElem? (i := 1113) (by decide +kernel), List.mem_of_getElem? (i := 1114) (by decide +kernel)⟩
def lw_privs_2 : List (MethodName × Nat) := [(⟨"GhostTrainModel", "comes", "(III)I"⟩, 34), (⟨"GhostTrainModel", "isCar", "(I)Z"⟩, 34), (⟨"GhostTrainModel", "paceIn", "(II)I"⟩, 34), (⟨"GhostTrainModel", "counts", "(I)I"⟩, 34), (⟨"GhostTrainModel", "of", "(II)I"⟩, 34), (⟨"GhostTrainModel", "worksOut", "(I)I"⟩, 34), (⟨"GhostTrainModel", "roomOf", "(I)I"⟩, 34), (⟨"GhostTrainModel", "loudOf", "(I)I"⟩, 34), (⟨"GhostTrainModel", "worthOf", "(I)I"⟩, 34), (⟨"GhostTrainModel", "becomes", "(II)I"⟩, 34), (⟨"GhostTrainModel", "draw", "()I"⟩, 34), (⟨"GhostTrainModel", "sumOf", "(I)I"⟩, 34), (⟨"GhostTrainModel", "goesOn", "(I)V"⟩, 34), (⟨"GhostTrainModel", "second", "()V"⟩, 34), (⟨"GhostTrainModel", "goes", "(I)V"⟩, 34), (⟨"GhostTrainModel", "adds", "(III)V"⟩, 34)]
theorem lw_r2 : ∀ q ∈ lw_privs_2, lw_okq q := List.forall_mem_cons.mpr ⟨lw_p16, List.forall_mem_cons.mpr ⟨lw_p17, List.forall_mem_cons.mpr ⟨lw_p18, List.forall_mem_cons.mpr ⟨lw_p19, List.forall_mem_cons.mpr ⟨lw_p20, List.forall_mem_cons.mpr ⟨lw_p21, List.forall_mem_cons.mpr ⟨lw_p22, List.forall_mem_cons.mpr ⟨lw_p23, List.forall_mem_cons.mpr ⟨lw_p24, List.forall_mem_cons.mpr ⟨lw_p25, List.forall_mem_cons.mpr ⟨lw_p26, List.forall_mem_cons.mpr ⟨lw_p27, List.forall_mem_cons.mpr ⟨lw_p28, List.forall_mem_cons.mpr ⟨lw_p29, List.forall_mem_cons.mpr ⟨lw_p30, List.forall_mem_cons.mpr ⟨lw_p31, fun _ h => absurd h List.not_mem_nil⟩⟩⟩⟩⟩⟩⟩⟩⟩⟩⟩⟩⟩⟩⟩⟩
theorem lw_p32 : lw_okq (⟨"GhostTrainModel", "enters", "(II)V"⟩, 34) := ⟨⟨by decide +kernel, by decide +kernel⟩, List.mem_of_getElem? (i := 875) (by decide +kernel), List.mem_of_getElem? (i := 1117) (by decide +kernel), List.mem_of_getElem? (i := 1118) (by decide +kernel)⟩
theorem lw_p33 : lw_okq (⟨"GhostTrainModel", "near", "()I"⟩, 34) := ⟨⟨by decide +kernel, by decide +kernel⟩, List.mem_of_getElem? (i := 875) (by decide +kernel), List.mem_of_getElem? (i := 1125) (by decide +kernel), List.mem_of_getElem? (i := 1126) (by decide +kernel)⟩
theorem lw_p34 : lw_okq (⟨"GhostTrainModel", "thinks", "()V"⟩, 34) := ⟨⟨by decide +kernel, by decide +kernel⟩, List.mem_of_getElem? (i := 875) (by decide +kernel), List.mem_of_getElem? (i := 1137) (by decide +kernel), List.mem_of_getElem? (i := 1138) (by decide +kernel)⟩
theorem lw_p35 : lw_okq (⟨"GhostTrainModel", "putsBack", "()V"⟩, 34) := ⟨⟨by decide +kernel, by decide +kernel⟩, List.mem_of_getElem? (i := 875) (by decide +kernel), List.mem_of_getElem? (i := 1141) (by decide +kernel), List.mem_of_getElem? (i := 1142) (by decide +kernel)⟩
theorem lw_p36 : lw_okq (⟨"GhostTrainModel", "screamsBehind", "(I)I"⟩, 34) := ⟨⟨by decide +kernel, by decide +kernel⟩, List.mem_of_getElem? (i := 875) (by decide +kernel), List.mem_of_getElem? (i := 1158) (by decide +kernel), List.mem_of_getElem? (i := 1159) (by decide +kernel)⟩
theorem lw_p37 : lw_okq (⟨"GhostTrainModel", "offBy", "(III)J"⟩, 34) := ⟨⟨by decide +kernel, by decide +kernel⟩, List.mem_of_getElem? (i := 875) (by decide +kernel), List.mem_of_getElem? (i := 1186) (by decide +kernel), List.mem_of_getElem? (i := 1187) (by decide +kernel)⟩
theorem lw_p38 : lw_okq (⟨"GhostTrainModel", "go", "()V"⟩, 34) := ⟨⟨by decide +kernel, by decide +kernel⟩, List.mem_of_getElem? (i := 875) (by decide +kernel), List.mem_of_getElem? (i := 1210) (by decide +kernel), List.mem_of_getElem? (i := 1211) (by decide +kernel)⟩
theorem lw_p39 : lw_okq (⟨"GhostTrainModel", "isLetter", "(I)Z"⟩, 34) := ⟨⟨by decide +kernel, by decide +kernel⟩, List.mem_of_getElem? (i := 875) (by decide +kernel), List.mem_of_getElem? (i := 1214) (by decide +kernel), List.mem_of_getElem? (i := 1215) (by decide +kernel)⟩
theorem lw_p40 : lw_okq (⟨"GhostTrainModel", "isFigure", "(I)Z"⟩, 34) := ⟨⟨by decide +kernel, by decide +kernel⟩, List.mem_of_getElem? (i := 875) (by decide +kernel), List.mem_of_getElem? (i := 1218) (by decide +kernel), List.mem_of_getElem? (i := 1219) (by decide +kernel)⟩
theorem lw_p41 : lw_okq (⟨"GhostTrainModel", "takesKey", "()Z"⟩, 34) := ⟨⟨by decide +kernel, by decide +kernel⟩, List.mem_of_getElem? (i := 875) (by decide +kernel), List.mem_of_getElem? (i := 1222) (by decide +kernel), List.mem_of_getElem? (i := 1223) (by decide +kernel)⟩
theorem lw_p42 : lw_okq (⟨"GhostTrainModel", "takesE", "()Z"⟩, 34) := ⟨⟨by decide +kernel, by decide +kernel⟩, List.mem_of_getElem? (i := 875) (by decide +kernel), List.mem_of_getElem? (i := 1226) (by decide +kernel), List.mem_of_getElem? (i := 1227) (by decide +kernel)⟩
theorem lw_p43 : lw_okq (⟨"GhostTrainModel", "takesPart", "()Z"⟩, 34) := ⟨⟨by decide +kernel, by decide +kernel⟩, List.mem_of_getElem? (i := 875) (by decide +kernel), List.mem_of_getElem? (i := 1230) (by decide +kernel), List.mem_of_getElem? (i := 1231) (by decide +kernel)⟩
theorem lw_p44 : lw_okq (⟨"GhostTrainModel", "nameOf", "(I)I"⟩, 34) := ⟨⟨by decide +kernel, by decide +kernel⟩, List.mem_of_getElem? (i := 875) (by decide +kernel), List.mem_of_getElem? (i := 1234) (by decide +kernel), List.mem_of_getElem? (i := 1235) (by decide +kernel)⟩
theorem lw_p45 : lw_okq (⟨"GhostTrainModel", "settle", "(I)V"⟩, 34) := ⟨⟨by decide +kernel, by decide +kernel⟩, List.mem_of_getElem? (i := 875) (by decide +kernel), List.mem_of_getElem? (i := 1238) (by decide +kernel), List.mem_of_getElem? (i := 1239) (by decide +kernel)⟩
theorem lw_p46 : lw_okq (⟨"GhostTrainModel", "notsOpen", "()I"⟩, 34) := ⟨⟨by decide +kernel, by decide +kernel⟩, List.mem_of_getElem? (i := 875) (by decide +kernel), List.mem_of_getElem? (i := 1245) (by decide +kernel), List.mem_of_getElem? (i := 1246) (by decide +kernel)⟩
theorem lw_p47 : lw_okq (⟨"GhostTrainModel", "signHere", "()I"⟩, 34) := ⟨⟨by decide +kernel, by decide +kernel⟩, List.mem_of_getElem? (i := 875) (by decide +kernel), List.mem_of_getElem? (i := 1249) (by decide +kernel), List.mem_of_getElem? (i := 1250) (by decide +kernel)⟩
def lw_privs_3 : List (MethodName × Nat) := [(⟨"GhostTrainModel", "enters", "(II)V"⟩, 34), (⟨"GhostTrainModel", "near", "()I"⟩, 34), (⟨"GhostTrainModel", "thinks", "()V"⟩, 34), (⟨"GhostTrainModel", "putsBack", "()V"⟩, 34), (⟨"GhostTrainModel", "screamsBehind", "(I)I"⟩, 34), (⟨"GhostTrainModel", "offBy", "(III)J"⟩, 34), (⟨"GhostTrainModel", "go", "()V"⟩, 34), (⟨"GhostTrainModel", "isLetter", "(I)Z"⟩, 34), (⟨"GhostTrainModel", "isFigure", "(I)Z"⟩, 34), (⟨"GhostTrainModel", "takesKey", "()Z"⟩, 34), (⟨"GhostTrainModel", "takesE", "()Z"⟩, 34), (⟨"GhostTrainModel", "takesPart", "()Z"⟩, 34), (⟨"GhostTrainModel", "nameOf", "(I)I"⟩, 34), (⟨"GhostTrainModel", "settle", "(I)V"⟩, 34), (⟨"GhostTrainModel", "notsOpen", "()I"⟩, 34), (⟨"GhostTrainModel", "signHere", "()I"⟩, 34)]
theorem lw_r3 : ∀ q ∈ lw_privs_3, lw_okq q := List.forall_mem_cons.mpr ⟨lw_p32, List.forall_mem_cons.mpr ⟨lw_p33, List.forall_mem_cons.mpr ⟨lw_p34, List.forall_mem_cons.mpr ⟨lw_p35, List.forall_mem_cons.mpr ⟨lw_p36, List.forall_mem_cons.mpr ⟨lw_p37, List.forall_mem_cons.mpr ⟨lw_p38, List.forall_mem_cons.mpr ⟨lw_p39, List.forall_mem_cons.mpr ⟨lw_p40, List.forall_mem_cons.mpr ⟨lw_p41, List.forall_mem_cons.mpr ⟨lw_p42, List.forall_mem_cons.mpr ⟨lw_p43, List.forall_mem_cons.mpr ⟨lw_p44, List.forall_mem_cons.mpr ⟨lw_p45, List.forall_mem_cons.mpr ⟨lw_p46, List.forall_mem_cons.mpr ⟨lw_p47, fun _ h => absurd h List.not_mem_nil⟩⟩⟩⟩⟩⟩⟩⟩⟩⟩⟩⟩⟩⟩⟩⟩
theorem lw_p48 : lw_okq (⟨"GhostTrainModel", "scares", "()I"⟩, 34) := ⟨⟨by decide +kernel, by decide +kernel⟩, List.mem_of_getElem? (i := 875) (by decide +kernel), List.mem_of_getElem? (i := 1328) (by decide +kernel), List.mem_of_getElem? (i := 1329) (by decide +kernel)⟩
def lw_privs_4 : List (MethodName × Nat) := [(⟨"GhostTrainModel", "scares", "()I"⟩, 34)]
theorem lw_r4 : ∀ q ∈ lw_privs_4, lw_okq q := List.forall_mem_cons.mpr ⟨lw_p48, fun _ h => absurd h List.not_mem_nil⟩
def lw_privs : List (MethodName × Nat) := lw_privs_1 ++ (lw_privs_2 ++ (lw_privs_3 ++ (lw_privs_4)))
def lw_tbl : List Cond := k2_sels lw_privs ++ tables_1
theorem lw_privs_ok : ∀ q ∈ lw_privs, lw_okq q := by
  show ∀ q ∈ lw_privs_1 ++ (lw_privs_2 ++ (lw_privs_3 ++ (lw_privs_4))), lw_okq q
  exact List.forall_mem_append.mpr ⟨lw_r1, List.forall_mem_append.mpr ⟨lw_r2, List.forall_mem_append.mpr ⟨lw_r3, lw_r4⟩⟩⟩
end
section
def RX0 : String := "GhostTrain$BridalKind"
def TX0 : u_T := fun k => match k with
  | _ => ("", "", "", false)
def tyX0 : Nat → FieldType := fun k => match k with
  | _ => .int
abbrev wsX00 : List Cond := u_ws RX0 TX0 0
theorem nmX0 : ∀ a, a < 0 → ∀ b, b < 0 → a ≠ b → (TX0 a).2.1 ≠ (TX0 b).2.1 := by decide +kernel
theorem tyX0_ok : ∀ k, k < 0 → parseFieldDescriptor (TX0 k).2.2.1 = some (tyX0 k) := by decide +kernel
abbrev cX0_init : ByteArray := prog_2_method_1_code
def yX0_init : MethodName := ⟨RX0, "<init>", "()V"⟩
abbrev cX0_isUnder : ByteArray := prog_2_method_2_code
def yX0_isUnder : MethodName := ⟨RX0, "isUnder", "(I)Z"⟩
abbrev cX0_gains : ByteArray := prog_2_method_3_code
def yX0_gains : MethodName := ⟨RX0, "gains", "(III)I"⟩
abbrev cX0_loudness : ByteArray := prog_2_method_4_code
def yX0_loudness : MethodName := ⟨RX0, "loudness", "()I"⟩
abbrev cX0_worthOf : ByteArray := prog_2_method_5_code
def yX0_worthOf : MethodName := ⟨RX0, "worthOf", "(I)I"⟩
def RX1 : String := "GhostTrain$CarKind"
def TX1 : u_T := fun k => match k with
  | _ => ("", "", "", false)
def tyX1 : Nat → FieldType := fun k => match k with
  | _ => .int
abbrev wsX10 : List Cond := u_ws RX1 TX1 0
theorem nmX1 : ∀ a, a < 0 → ∀ b, b < 0 → a ≠ b → (TX1 a).2.1 ≠ (TX1 b).2.1 := by decide +kernel
theorem tyX1_ok : ∀ k, k < 0 → parseFieldDescriptor (TX1 k).2.2.1 = some (tyX1 k) := by decide +kernel
abbrev cX1_init : ByteArray := prog_3_method_1_code
def yX1_init : MethodName := ⟨RX1, "<init>", "()V"⟩
abbrev cX1_isUnder : ByteArray := prog_3_method_2_code
def yX1_isUnder : MethodName := ⟨RX1, "isUnder", "(I)Z"⟩
abbrev cX1_gains : ByteArray := prog_3_method_3_code
def yX1_gains : MethodName := ⟨RX1, "gains", "(III)I"⟩
abbrev cX1_loudness : ByteArray := prog_3_method_4_code
def yX1_loudness : MethodName := ⟨RX1, "loudness", "()I"⟩
abbrev cX1_worthOf : ByteArray := prog_3_method_5_code
def yX1_worthOf : MethodName := ⟨RX1, "worthOf", "(I)I"⟩
def RX2 : String := "GhostTrain$GhostKind"
def TX2 : u_T := fun k => match k with
  | _ => ("", "", "", false)
def tyX2 : Nat → FieldType := fun k => match k with
  | _ => .int
abbrev wsX20 : List Cond := u_ws RX2 TX2 0
theorem nmX2 : ∀ a, a < 0 → ∀ b, b < 0 → a ≠ b → (TX2 a).2.1 ≠ (TX2 b).2.1 := by decide +kernel
theorem tyX2_ok : ∀ k, k < 0 → parseFieldDescriptor (TX2 k).2.2.1 = some (tyX2 k) := by decide +kernel
abbrev cX2_init : ByteArray := prog_4_method_1_code
def yX2_init : MethodName := ⟨RX2, "<init>", "()V"⟩
abbrev cX2_isUnder : ByteArray := prog_4_method_2_code
def yX2_isUnder : MethodName := ⟨RX2, "isUnder", "(I)Z"⟩
abbrev cX2_gains : ByteArray := prog_4_method_3_code
def yX2_gains : MethodName := ⟨RX2, "gains", "(III)I"⟩
abbrev cX2_loudness : ByteArray := prog_4_method_4_code
def yX2_loudness : MethodName := ⟨RX2, "loudness", "()I"⟩
abbrev cX2_worthOf : ByteArray := prog_4_method_5_code
def yX2_worthOf : MethodName := ⟨RX2, "worthOf", "(I)I"⟩
def RX3 : String := "GhostTrain$HeavyKind"
def TX3 : u_T := fun k => match k with
  | _ => ("", "", "", false)
def tyX3 : Nat → FieldType := fun k => match k with
  | _ => .int
abbrev wsX30 : List Cond := u_ws RX3 TX3 0
theorem nmX3 : ∀ a, a < 0 → ∀ b, b < 0 → a ≠ b → (TX3 a).2.1 ≠ (TX3 b).2.1 := by decide +kernel
theorem tyX3_ok : ∀ k, k < 0 → parseFieldDescriptor (TX3 k).2.2.1 = some (tyX3 k) := by decide +kernel
abbrev cX3_init : ByteArray := prog_5_method_1_code
def yX3_init : MethodName := ⟨RX3, "<init>", "()V"⟩
abbrev cX3_isUnder : ByteArray := prog_5_method_2_code
def yX3_isUnder : MethodName := ⟨RX3, "isUnder", "(I)Z"⟩
abbrev cX3_gains : ByteArray := prog_5_method_3_code
def yX3_gains : MethodName := ⟨RX3, "gains", "(III)I"⟩
abbrev cX3_loudness : ByteArray := prog_5_method_4_code
def yX3_loudness : MethodName := ⟨RX3, "loudness", "()I"⟩
abbrev cX3_worthOf : ByteArray := prog_5_method_5_code
def yX3_worthOf : MethodName := ⟨RX3, "worthOf", "(I)I"⟩
def RX4 : String := "GhostTrain$IronKind"
def TX4 : u_T := fun k => match k with
  | _ => ("", "", "", false)
def tyX4 : Nat → FieldType := fun k => match k with
  | _ => .int
abbrev wsX40 : List Cond := u_ws RX4 TX4 0
theorem nmX4 : ∀ a, a < 0 → ∀ b, b < 0 → a ≠ b → (TX4 a).2.1 ≠ (TX4 b).2.1 := by decide +kernel
theorem tyX4_ok : ∀ k, k < 0 → parseFieldDescriptor (TX4 k).2.2.1 = some (tyX4 k) := by decide +kernel
abbrev cX4_init : ByteArray := prog_6_method_1_code
def yX4_init : MethodName := ⟨RX4, "<init>", "()V"⟩
abbrev cX4_isUnder : ByteArray := prog_6_method_2_code
def yX4_isUnder : MethodName := ⟨RX4, "isUnder", "(I)Z"⟩
abbrev cX4_gains : ByteArray := prog_6_method_3_code
def yX4_gains : MethodName := ⟨RX4, "gains", "(III)I"⟩
abbrev cX4_worthOf : ByteArray := prog_6_method_4_code
def yX4_worthOf : MethodName := ⟨RX4, "worthOf", "(I)I"⟩
def RX5 : String := "GhostTrain$LightKind"
def TX5 : u_T := fun k => match k with
  | _ => ("", "", "", false)
def tyX5 : Nat → FieldType := fun k => match k with
  | _ => .int
abbrev wsX50 : List Cond := u_ws RX5 TX5 0
theorem nmX5 : ∀ a, a < 0 → ∀ b, b < 0 → a ≠ b → (TX5 a).2.1 ≠ (TX5 b).2.1 := by decide +kernel
theorem tyX5_ok : ∀ k, k < 0 → parseFieldDescriptor (TX5 k).2.2.1 = some (tyX5 k) := by decide +kernel
abbrev cX5_init : ByteArray := prog_7_method_1_code
def yX5_init : MethodName := ⟨RX5, "<init>", "()V"⟩
abbrev cX5_isUnder : ByteArray := prog_7_method_2_code
def yX5_isUnder : MethodName := ⟨RX5, "isUnder", "(I)Z"⟩
abbrev cX5_gains : ByteArray := prog_7_method_3_code
def yX5_gains : MethodName := ⟨RX5, "gains", "(III)I"⟩
abbrev cX5_loudness : ByteArray := prog_7_method_4_code
def yX5_loudness : MethodName := ⟨RX5, "loudness", "()I"⟩
abbrev cX5_worthOf : ByteArray := prog_7_method_5_code
def yX5_worthOf : MethodName := ⟨RX5, "worthOf", "(I)I"⟩
def RX6 : String := "GhostTrain$Ring"
def TX6 : u_T := fun k => match k with
  | 0 => ("GhostTrain$Ring", "kinds", "[LGhostTrain$CarKind;", true)
  | 1 => ("GhostTrain$Ring", "texts", "[LGhostTrain$Text;", true)
  | 2 => ("GhostTrain$Ring", "parts", "[[I", true)
  | 3 => ("GhostTrain$Ring", "cars", "[[I", true)
  | 4 => ("GhostTrain$Ring", "counting", "[I", true)
  | 5 => ("GhostTrain$Ring", "carCount", "I", false)
  | 6 => ("GhostTrain$Ring", "gap", "I", false)
  | 7 => ("GhostTrain$Ring", "second", "I", false)
  | 8 => ("GhostTrain$Ring", "z", "I", false)
  | _ => ("GhostTrain$Ring", "textCount", "I", false)
def tyX6 : Nat → FieldType := fun k => match k with
  | 0 => .array (.object "GhostTrain$CarKind")
  | 1 => .array (.object "GhostTrain$Text")
  | 2 => .array (.array .int)
  | 3 => .array (.array .int)
  | 4 => .array .int
  | 5 => .int
  | 6 => .int
  | 7 => .int
  | 8 => .int
  | _ => .int
abbrev wsX60 : List Cond := u_ws RX6 TX6 10
theorem nmX6 : ∀ a, a < 10 → ∀ b, b < 10 → a ≠ b → (TX6 a).2.1 ≠ (TX6 b).2.1 := by decide +kernel
theorem tyX6_ok : ∀ k, k < 10 → parseFieldDescriptor (TX6 k).2.2.1 = some (tyX6 k) := by decide +kernel
abbrev cX6_init : ByteArray := prog_8_method_1_code
def yX6_init : MethodName := ⟨RX6, "<init>", "([LGhostTrain$CarKind;[LGhostTrain$Text;)V"⟩
abbrev cX6_become : ByteArray := prog_8_method_2_code
def yX6_become : MethodName := ⟨RX6, "become", "(LGhostTrain$Ring;)V"⟩
abbrev cX6_addCar : ByteArray := prog_8_method_3_code
def yX6_addCar : MethodName := ⟨RX6, "addCar", "(III)I"⟩
abbrev cX6_dropCar : ByteArray := prog_8_method_4_code
def yX6_dropCar : MethodName := ⟨RX6, "dropCar", "(I)V"⟩
abbrev cX6_changeScares : ByteArray := prog_8_method_5_code
def yX6_changeScares : MethodName := ⟨RX6, "changeScares", "(II)V"⟩
abbrev cX6_draw : ByteArray := prog_8_method_6_code
def yX6_draw : MethodName := ⟨RX6, "draw", "()I"⟩
abbrev cX6_passSeconds : ByteArray := prog_8_method_7_code
def yX6_passSeconds : MethodName := ⟨RX6, "passSeconds", "(I)V"⟩
abbrev cX6_goOn : ByteArray := prog_8_method_8_code
def yX6_goOn : MethodName := ⟨RX6, "goOn", "(I)V"⟩
abbrev cX6_enter : ByteArray := prog_8_method_9_code
def yX6_enter : MethodName := ⟨RX6, "enter", "(II)V"⟩
abbrev cX6_kindOf : ByteArray := prog_8_method_10_code
def yX6_kindOf : MethodName := ⟨RX6, "kindOf", "(I)LGhostTrain$CarKind;"⟩
abbrev cX6_partOf : ByteArray := prog_8_method_11_code
def yX6_partOf : MethodName := ⟨RX6, "partOf", "(I)I"⟩
abbrev cX6_paceIn : ByteArray := prog_8_method_12_code
def yX6_paceIn : MethodName := ⟨RX6, "paceIn", "(II)I"⟩
abbrev cX6_roomOf : ByteArray := prog_8_method_13_code
def yX6_roomOf : MethodName := ⟨RX6, "roomOf", "(I)I"⟩
abbrev cX6_near : ByteArray := prog_8_method_14_code
def yX6_near : MethodName := ⟨RX6, "near", "()I"⟩
abbrev cX6_totalOf : ByteArray := prog_8_method_15_code
def yX6_totalOf : MethodName := ⟨RX6, "totalOf", "(I)I"⟩
abbrev cX6_scareCount : ByteArray := prog_8_method_16_code
def yX6_scareCount : MethodName := ⟨RX6, "scareCount", "()I"⟩
def RX7 : String := "GhostTrain$Sheet"
def TX7 : u_T := fun k => match k with
  | 0 => ("GhostTrain$Sheet", "places", "[I", true)
  | 1 => ("GhostTrain$Sheet", "sort", "I", false)
  | _ => ("GhostTrain$Sheet", "size", "I", false)
def tyX7 : Nat → FieldType := fun k => match k with
  | 0 => .array .int
  | 1 => .int
  | _ => .int
abbrev wsX70 : List Cond := u_ws RX7 TX7 3
theorem nmX7 : ∀ a, a < 3 → ∀ b, b < 3 → a ≠ b → (TX7 a).2.1 ≠ (TX7 b).2.1 := by decide +kernel
theorem tyX7_ok : ∀ k, k < 3 → parseFieldDescriptor (TX7 k).2.2.1 = some (tyX7 k) := by decide +kernel
abbrev cX7_init : ByteArray := prog_9_method_1_code
def yX7_init : MethodName := ⟨RX7, "<init>", "()V"⟩
abbrev cX7_isMissing : ByteArray := prog_9_method_2_code
def yX7_isMissing : MethodName := ⟨RX7, "isMissing", "()Z"⟩
abbrev cX7_has : ByteArray := prog_9_method_3_code
def yX7_has : MethodName := ⟨RX7, "has", "(II)Z"⟩
abbrev cX7_isNumber : ByteArray := prog_9_method_4_code
def yX7_isNumber : MethodName := ⟨RX7, "isNumber", "(I)Z"⟩
abbrev cX7_renew : ByteArray := prog_9_method_5_code
def yX7_renew : MethodName := ⟨RX7, "renew", "(II)V"⟩
abbrev cX7_become : ByteArray := prog_9_method_6_code
def yX7_become : MethodName := ⟨RX7, "become", "(LGhostTrain$Sheet;)V"⟩
def RX8 : String := "GhostTrain$Slot"
def TX8 : u_T := fun k => match k with
  | 0 => ("GhostTrain$Slot", "thing", "I", false)
  | 1 => ("GhostTrain$Slot", "kind", "LGhostTrain$CarKind;", false)
  | 2 => ("GhostTrain$Slot", "weight", "I", false)
  | 3 => ("GhostTrain$Slot", "row", "LGhostTrain$Sheet;", true)
  | _ => ("GhostTrain$Slot", "number", "I", false)
def tyX8 : Nat → FieldType := fun k => match k with
  | 0 => .int
  | 1 => .object "GhostTrain$CarKind"
  | 2 => .int
  | 3 => .object "GhostTrain$Sheet"
  | _ => .int
abbrev wsX80 : List Cond := u_ws RX8 TX8 5
theorem nmX8 : ∀ a, a < 5 → ∀ b, b < 5 → a ≠ b → (TX8 a).2.1 ≠ (TX8 b).2.1 := by decide +kernel
theorem tyX8_ok : ∀ k, k < 5 → parseFieldDescriptor (TX8 k).2.2.1 = some (tyX8 k) := by decide +kernel
abbrev cX8_init : ByteArray := prog_10_method_1_code
def yX8_init : MethodName := ⟨RX8, "<init>", "()V"⟩
def RX9 : String := "GhostTrain$Tape"
def TX9 : u_T := fun k => match k with
  | 0 => ("GhostTrain$Tape", "bytes", "[I", true)
  | 1 => ("GhostTrain$Tape", "length", "I", false)
  | 2 => ("GhostTrain$Tape", "start", "I", false)
  | 3 => ("GhostTrain$Tape", "after", "I", false)
  | _ => ("GhostTrain$Tape", "sort", "I", false)
def tyX9 : Nat → FieldType := fun k => match k with
  | 0 => .array .int
  | 1 => .int
  | 2 => .int
  | 3 => .int
  | _ => .int
abbrev wsX90 : List Cond := u_ws RX9 TX9 5
theorem nmX9 : ∀ a, a < 5 → ∀ b, b < 5 → a ≠ b → (TX9 a).2.1 ≠ (TX9 b).2.1 := by decide +kernel
theorem tyX9_ok : ∀ k, k < 5 → parseFieldDescriptor (TX9 k).2.2.1 = some (tyX9 k) := by decide +kernel
abbrev cX9_init : ByteArray := prog_11_method_1_code
def yX9_init : MethodName := ⟨RX9, "<init>", "()V"⟩
abbrev cX9_addFour : ByteArray := prog_11_method_2_code
def yX9_addFour : MethodName := ⟨RX9, "addFour", "(I)V"⟩
abbrev cX9_readInto : ByteArray := prog_11_method_3_code
def yX9_readInto : MethodName := ⟨RX9, "readInto", "(LGhostTrain$Text;)Z"⟩
abbrev cX9_readLevel : ByteArray := prog_11_method_4_code
def yX9_readLevel : MethodName := ⟨RX9, "readLevel", "(LGhostTrain$Text;III)Z"⟩
abbrev cX9_readPiece : ByteArray := prog_11_method_5_code
def yX9_readPiece : MethodName := ⟨RX9, "readPiece", "(LGhostTrain$Text;II)Z"⟩
abbrev cX9_readOperand : ByteArray := prog_11_method_6_code
def yX9_readOperand : MethodName := ⟨RX9, "readOperand", "(LGhostTrain$Text;)Z"⟩
abbrev cX9_advance : ByteArray := prog_11_method_7_code
def yX9_advance : MethodName := ⟨RX9, "advance", "()V"⟩
abbrev cX9_sortOf : ByteArray := prog_11_method_8_code
def yX9_sortOf : MethodName := ⟨RX9, "sortOf", "(I)I"⟩
abbrev cX9_operatorsOf : ByteArray := prog_11_method_9_code
def yX9_operatorsOf : MethodName := ⟨RX9, "operatorsOf", "(I)Ljava/lang/String;"⟩
abbrev cX9_isOneOf : ByteArray := prog_11_method_10_code
def yX9_isOneOf : MethodName := ⟨RX9, "isOneOf", "(Ljava/lang/String;)Z"⟩
abbrev cX9_keyHere : ByteArray := prog_11_method_11_code
def yX9_keyHere : MethodName := ⟨RX9, "keyHere", "()I"⟩
abbrev cX9_isWordHere : ByteArray := prog_11_method_12_code
def yX9_isWordHere : MethodName := ⟨RX9, "isWordHere", "(Ljava/lang/String;)Z"⟩
abbrev cX9_nameHere : ByteArray := prog_11_method_13_code
def yX9_nameHere : MethodName := ⟨RX9, "nameHere", "(I)I"⟩
abbrev cX9_numberHere : ByteArray := prog_11_method_14_code
def yX9_numberHere : MethodName := ⟨RX9, "numberHere", "()I"⟩
def RX10 : String := "GhostTrain$Text"
def TX10 : u_T := fun k => match k with
  | 0 => ("GhostTrain$Text", "codes", "[I", true)
  | 1 => ("GhostTrain$Text", "stack", "[I", true)
  | 2 => ("GhostTrain$Text", "length", "I", false)
  | 3 => ("GhostTrain$Text", "key", "I", false)
  | _ => ("GhostTrain$Text", "operands", "I", false)
def tyX10 : Nat → FieldType := fun k => match k with
  | 0 => .array .int
  | 1 => .array .int
  | 2 => .int
  | 3 => .int
  | _ => .int
abbrev wsX100 : List Cond := u_ws RX10 TX10 5
theorem nmX10 : ∀ a, a < 5 → ∀ b, b < 5 → a ≠ b → (TX10 a).2.1 ≠ (TX10 b).2.1 := by decide +kernel
theorem tyX10_ok : ∀ k, k < 5 → parseFieldDescriptor (TX10 k).2.2.1 = some (tyX10 k) := by decide +kernel
abbrev cX10_init : ByteArray := prog_12_method_1_code
def yX10_init : MethodName := ⟨RX10, "<init>", "()V"⟩
abbrev cX10_begin : ByteArray := prog_12_method_2_code
def yX10_begin : MethodName := ⟨RX10, "begin", "(I)V"⟩
abbrev cX10_addNumber : ByteArray := prog_12_method_3_code
def yX10_addNumber : MethodName := ⟨RX10, "addNumber", "(I)V"⟩
abbrev cX10_addName : ByteArray := prog_12_method_4_code
def yX10_addName : MethodName := ⟨RX10, "addName", "(I)V"⟩
abbrev cX10_addSign : ByteArray := prog_12_method_5_code
def yX10_addSign : MethodName := ⟨RX10, "addSign", "(I)V"⟩
abbrev cX10_add : ByteArray := prog_12_method_6_code
def yX10_add : MethodName := ⟨RX10, "add", "(I)V"⟩
abbrev cX10_gives : ByteArray := prog_12_method_7_code
def yX10_gives : MethodName := ⟨RX10, "gives", "(III)I"⟩
abbrev cX10_joined : ByteArray := prog_12_method_8_code
def yX10_joined : MethodName := ⟨RX10, "joined", "(III)I"⟩
def RX11 : String := "GhostTrain"
def TX11 : u_T := fun k => match k with
  | 0 => ("GhostTrain", "kinds", "[LGhostTrain$CarKind;", true)
  | 1 => ("GhostTrain", "texts", "[LGhostTrain$Text;", true)
  | 2 => ("GhostTrain", "tape", "LGhostTrain$Tape;", true)
  | 3 => ("GhostTrain", "now", "LGhostTrain$Ring;", true)
  | 4 => ("GhostTrain", "thought", "LGhostTrain$Ring;", true)
  | 5 => ("GhostTrain", "image", "LGhostTrain$Ring;", true)
  | 6 => ("GhostTrain", "imageKept", "Z", false)
  | 7 => ("GhostTrain", "sheets", "[LGhostTrain$Sheet;", true)
  | 8 => ("GhostTrain", "slots", "[LGhostTrain$Slot;", true)
  | 9 => ("GhostTrain", "waiting", "[I", true)
  | _ => ("GhostTrain", "waitingCount", "I", false)
def tyX11 : Nat → FieldType := fun k => match k with
  | 0 => .array (.object "GhostTrain$CarKind")
  | 1 => .array (.object "GhostTrain$Text")
  | 2 => .object "GhostTrain$Tape"
  | 3 => .object "GhostTrain$Ring"
  | 4 => .object "GhostTrain$Ring"
  | 5 => .object "GhostTrain$Ring"
  | 6 => .boolean
  | 7 => .array (.object "GhostTrain$Sheet")
  | 8 => .array (.object "GhostTrain$Slot")
  | 9 => .array .int
  | _ => .int
abbrev wsX110 : List Cond := u_ws RX11 TX11 11
theorem nmX11 : ∀ a, a < 11 → ∀ b, b < 11 → a ≠ b → (TX11 a).2.1 ≠ (TX11 b).2.1 := by decide +kernel
theorem tyX11_ok : ∀ k, k < 11 → parseFieldDescriptor (TX11 k).2.2.1 = some (tyX11 k) := by decide +kernel
abbrev cX11_init : ByteArray := prog_1_method_1_code
def yX11_init : MethodName := ⟨RX11, "<init>", "()V"⟩
abbrev cX11_car : ByteArray := prog_1_method_2_code
def yX11_car : MethodName := ⟨RX11, "car", "(III)I"⟩
abbrev cX11_told : ByteArray := prog_1_method_3_code
def yX11_told : MethodName := ⟨RX11, "told", "(II)I"⟩
abbrev cX11_pace : ByteArray := prog_1_method_4_code
def yX11_pace : MethodName := ⟨RX11, "pace", "(II)I"⟩
abbrev cX11_as : ByteArray := prog_1_method_5_code
def yX11_as : MethodName := ⟨RX11, "as", "(II)I"⟩
abbrev cX11_turns : ByteArray := prog_1_method_6_code
def yX11_turns : MethodName := ⟨RX11, "turns", "(II)I"⟩
abbrev cX11_set : ByteArray := prog_1_method_7_code
def yX11_set : MethodName := ⟨RX11, "set", "(III)I"⟩
abbrev cX11_part : ByteArray := prog_1_method_8_code
def yX11_part : MethodName := ⟨RX11, "part", "(II)I"⟩
abbrev cX11_lays : ByteArray := prog_1_method_9_code
def yX11_lays : MethodName := ⟨RX11, "lays", "(III)I"⟩
abbrev cX11_gap : ByteArray := prog_1_method_10_code
def yX11_gap : MethodName := ⟨RX11, "gap", "(I)I"⟩
abbrev cX11_deal : ByteArray := prog_1_method_11_code
def yX11_deal : MethodName := ⟨RX11, "deal", "(I)I"⟩
abbrev cX11_seed : ByteArray := prog_1_method_12_code
def yX11_seed : MethodName := ⟨RX11, "seed", "(I)I"⟩
abbrev cX11_seconds : ByteArray := prog_1_method_13_code
def yX11_seconds : MethodName := ⟨RX11, "seconds", "(I)I"⟩
abbrev cX11_ride : ByteArray := prog_1_method_14_code
def yX11_ride : MethodName := ⟨RX11, "ride", "(I)I"⟩
abbrev cX11_lamps : ByteArray := prog_1_method_15_code
def yX11_lamps : MethodName := ⟨RX11, "lamps", "()I"⟩
abbrev cX11_behind : ByteArray := prog_1_method_16_code
def yX11_behind : MethodName := ⟨RX11, "behind", "(II)I"⟩
abbrev cX11_stands : ByteArray := prog_1_method_17_code
def yX11_stands : MethodName := ⟨RX11, "stands", "()I"⟩
abbrev cX11_brake : ByteArray := prog_1_method_18_code
def yX11_brake : MethodName := ⟨RX11, "brake", "(III)I"⟩
abbrev cX11_moved : ByteArray := prog_1_method_19_code
def yX11_moved : MethodName := ⟨RX11, "moved", "(III)I"⟩
abbrev cX11_off : ByteArray := prog_1_method_20_code
def yX11_off : MethodName := ⟨RX11, "off", "(II)I"⟩
abbrev cX11_kind : ByteArray := prog_1_method_21_code
def yX11_kind : MethodName := ⟨RX11, "kind", "(III)I"⟩
abbrev cX11_kiss : ByteArray := prog_1_method_22_code
def yX11_kiss : MethodName := ⟨RX11, "kiss", "(II)I"⟩
abbrev cX11_gaps : ByteArray := prog_1_method_23_code
def yX11_gaps : MethodName := ⟨RX11, "gaps", "(I)I"⟩
abbrev cX11_weighed : ByteArray := prog_1_method_24_code
def yX11_weighed : MethodName := ⟨RX11, "weighed", "(III)I"⟩
abbrev cX11_fee : ByteArray := prog_1_method_25_code
def yX11_fee : MethodName := ⟨RX11, "fee", "()I"⟩
abbrev cX11_fine : ByteArray := prog_1_method_26_code
def yX11_fine : MethodName := ⟨RX11, "fine", "(I)I"⟩
abbrev cX11_feed : ByteArray := prog_1_method_27_code
def yX11_feed : MethodName := ⟨RX11, "feed", "(III)I"⟩
abbrev cX11_trim : ByteArray := prog_1_method_28_code
def yX11_trim : MethodName := ⟨RX11, "trim", "(I)I"⟩
abbrev cX11_text : ByteArray := prog_1_method_29_code
def yX11_text : MethodName := ⟨RX11, "text", "()I"⟩
abbrev cX11_textTold : ByteArray := prog_1_method_30_code
def yX11_textTold : MethodName := ⟨RX11, "textTold", "(II)I"⟩
abbrev cX11_why : ByteArray := prog_1_method_31_code
def yX11_why : MethodName := ⟨RX11, "why", "(I)I"⟩
abbrev cX11_sheet : ByteArray := prog_1_method_32_code
def yX11_sheet : MethodName := ⟨RX11, "sheet", "(III)I"⟩
abbrev cX11_mark : ByteArray := prog_1_method_33_code
def yX11_mark : MethodName := ⟨RX11, "mark", "(III)I"⟩
abbrev cX11_pour : ByteArray := prog_1_method_34_code
def yX11_pour : MethodName := ⟨RX11, "pour", "(I)I"⟩
abbrev cX11_reads : ByteArray := prog_1_method_35_code
def yX11_reads : MethodName := ⟨RX11, "reads", "(I)I"⟩
abbrev cX11_copy : ByteArray := prog_1_method_36_code
def yX11_copy : MethodName := ⟨RX11, "copy", "(IIIII)I"⟩
abbrev cX11_lay : ByteArray := prog_1_method_37_code
def yX11_lay : MethodName := ⟨RX11, "lay", "(III)I"⟩
abbrev cX11_ask : ByteArray := prog_1_method_38_code
def yX11_ask : MethodName := ⟨RX11, "ask", "(II)I"⟩
abbrev cX11_item : ByteArray := prog_1_method_39_code
def yX11_item : MethodName := ⟨RX11, "item", "(II)I"⟩
abbrev cX11_rest : ByteArray := prog_1_method_40_code
def yX11_rest : MethodName := ⟨RX11, "rest", "(II)I"⟩
abbrev cX11_tell : ByteArray := prog_1_method_41_code
def yX11_tell : MethodName := ⟨RX11, "tell", "(I)I"⟩
abbrev cX11_check : ByteArray := prog_1_method_42_code
def yX11_check : MethodName := ⟨RX11, "check", "(I)I"⟩
abbrev cX11_keep : ByteArray := prog_1_method_43_code
def yX11_keep : MethodName := ⟨RX11, "keep", "()I"⟩
abbrev cX11_back : ByteArray := prog_1_method_44_code
def yX11_back : MethodName := ⟨RX11, "back", "()I"⟩
abbrev cX11_count : ByteArray := prog_1_method_45_code
def yX11_count : MethodName := ⟨RX11, "count", "(I)I"⟩
abbrev cX11_thoughtScreams : ByteArray := prog_1_method_46_code
def yX11_thoughtScreams : MethodName := ⟨RX11, "thoughtScreams", "(I)I"⟩
abbrev cX11_nobodyStands : ByteArray := prog_1_method_47_code
def yX11_nobodyStands : MethodName := ⟨RX11, "nobodyStands", "(II)Z"⟩
abbrev cX11_differencesWith : ByteArray := prog_1_method_48_code
def yX11_differencesWith : MethodName := ⟨RX11, "differencesWith", "(IILGhostTrain$Sheet;)I"⟩
abbrev cX11_isCar : ByteArray := prog_1_method_49_code
def yX11_isCar : MethodName := ⟨RX11, "isCar", "(I)Z"⟩
abbrev cX11_isPart : ByteArray := prog_1_method_50_code
def yX11_isPart : MethodName := ⟨RX11, "isPart", "(I)Z"⟩
abbrev cX11_isKind : ByteArray := prog_1_method_51_code
def yX11_isKind : MethodName := ⟨RX11, "isKind", "(I)Z"⟩
abbrev cX11_isSheet : ByteArray := prog_1_method_52_code
def yX11_isSheet : MethodName := ⟨RX11, "isSheet", "(I)Z"⟩
abbrev cX11_isSlot : ByteArray := prog_1_method_53_code
def yX11_isSlot : MethodName := ⟨RX11, "isSlot", "(I)Z"⟩
abbrev cX11_isFoot : ByteArray := prog_1_method_54_code
def yX11_isFoot : MethodName := ⟨RX11, "isFoot", "(I)Z"⟩
abbrev cX11_isWeight : ByteArray := prog_1_method_55_code
def yX11_isWeight : MethodName := ⟨RX11, "isWeight", "(I)Z"⟩
abbrev cX11_isFar : ByteArray := prog_1_method_56_code
def yX11_isFar : MethodName := ⟨RX11, "isFar", "(I)Z"⟩
abbrev cX11_isWithin : ByteArray := prog_1_method_57_code
def yX11_isWithin : MethodName := ⟨RX11, "isWithin", "(III)Z"⟩
abbrev cX11_held : ByteArray := prog_1_method_58_code
def yX11_held : MethodName := ⟨RX11, "held", "(III)I"⟩
def RX12 : String := "GhostTrainModel"
def TX12 : u_T := fun k => match k with
  | 0 => ("GhostTrainModel", "now", "[I", true)
  | 1 => ("GhostTrainModel", "image", "[I", true)
  | 2 => ("GhostTrainModel", "aside", "[I", true)
  | 3 => ("GhostTrainModel", "hasImage", "Z", false)
  | 4 => ("GhostTrainModel", "away", "I", false)
  | 5 => ("GhostTrainModel", "before", "[I", true)
  | 6 => ("GhostTrainModel", "tape", "[I", true)
  | 7 => ("GhostTrainModel", "taped", "I", false)
  | 8 => ("GhostTrainModel", "next", "I", false)
  | 9 => ("GhostTrainModel", "from", "I", false)
  | 10 => ("GhostTrainModel", "token", "I", false)
  | 11 => ("GhostTrainModel", "value", "I", false)
  | 12 => ("GhostTrainModel", "ended", "I", false)
  | 13 => ("GhostTrainModel", "key", "I", false)
  | 14 => ("GhostTrainModel", "keys", "[C", true)
  | 15 => ("GhostTrainModel", "keyAt", "[I", true)
  | 16 => ("GhostTrainModel", "code", "[I", true)
  | 17 => ("GhostTrainModel", "codes", "I", false)
  | 18 => ("GhostTrainModel", "atoms", "I", false)
  | 19 => ("GhostTrainModel", "waits", "[I", true)
  | 20 => ("GhostTrainModel", "held", "I", false)
  | 21 => ("GhostTrainModel", "tested", "[Z", true)
  | 22 => ("GhostTrainModel", "stack", "[I", true)
  | 23 => ("GhostTrainModel", "facts", "[I", true)
  | 24 => ("GhostTrainModel", "sorts", "[I", true)
  | 25 => ("GhostTrainModel", "sizes", "[I", true)
  | 26 => ("GhostTrainModel", "cells", "[I", true)
  | 27 => ("GhostTrainModel", "holds", "[I", true)
  | 28 => ("GhostTrainModel", "holdsA", "[I", true)
  | 29 => ("GhostTrainModel", "holdsB", "[I", true)
  | 30 => ("GhostTrainModel", "heldCells", "[I", true)
  | 31 => ("GhostTrainModel", "taken", "[I", true)
  | 32 => ("GhostTrainModel", "tells", "[I", true)
  | _ => ("GhostTrainModel", "waiting", "I", false)
def tyX12 : Nat → FieldType := fun k => match k with
  | 0 => .array .int
  | 1 => .array .int
  | 2 => .array .int
  | 3 => .boolean
  | 4 => .int
  | 5 => .array .int
  | 6 => .array .int
  | 7 => .int
  | 8 => .int
  | 9 => .int
  | 10 => .int
  | 11 => .int
  | 12 => .int
  | 13 => .int
  | 14 => .array .char
  | 15 => .array .int
  | 16 => .array .int
  | 17 => .int
  | 18 => .int
  | 19 => .array .int
  | 20 => .int
  | 21 => .array .boolean
  | 22 => .array .int
  | 23 => .array .int
  | 24 => .array .int
  | 25 => .array .int
  | 26 => .array .int
  | 27 => .array .int
  | 28 => .array .int
  | 29 => .array .int
  | 30 => .array .int
  | 31 => .array .int
  | 32 => .array .int
  | _ => .int
abbrev wsX120 : List Cond := u_ws RX12 TX12 34
theorem nmX12 : ∀ a, a < 34 → ∀ b, b < 34 → a ≠ b → (TX12 a).2.1 ≠ (TX12 b).2.1 := by decide +kernel
theorem tyX12_ok : ∀ k, k < 34 → parseFieldDescriptor (TX12 k).2.2.1 = some (tyX12 k) := by decide +kernel
abbrev cX12_init : ByteArray := prog_14_method_1_code
def yX12_init : MethodName := ⟨RX12, "<init>", "()V"⟩
abbrev cX12_in : ByteArray := prog_14_method_2_code
def yX12_in : MethodName := ⟨RX12, "in", "(III)Z"⟩
abbrev cX12_within : ByteArray := prog_14_method_3_code
def yX12_within : MethodName := ⟨RX12, "within", "(III)I"⟩
abbrev cX12_copyAll : ByteArray := prog_14_method_4_code
def yX12_copyAll : MethodName := ⟨RX12, "copyAll", "([I[I)V"⟩
abbrev cX12_isCar : ByteArray := prog_14_method_5_code
def yX12_isCar : MethodName := ⟨RX12, "isCar", "(I)Z"⟩
abbrev cX12_isPart : ByteArray := prog_14_method_6_code
def yX12_isPart : MethodName := ⟨RX12, "isPart", "(I)Z"⟩
abbrev cX12_of : ByteArray := prog_14_method_7_code
def yX12_of : MethodName := ⟨RX12, "of", "(II)I"⟩
abbrev cX12_adds : ByteArray := prog_14_method_8_code
def yX12_adds : MethodName := ⟨RX12, "adds", "(III)V"⟩
abbrev cX12_becomes : ByteArray := prog_14_method_9_code
def yX12_becomes : MethodName := ⟨RX12, "becomes", "(II)I"⟩
abbrev cX12_comes : ByteArray := prog_14_method_10_code
def yX12_comes : MethodName := ⟨RX12, "comes", "(III)I"⟩
abbrev cX12_car : ByteArray := prog_14_method_11_code
def yX12_car : MethodName := ⟨RX12, "car", "(III)I"⟩
abbrev cX12_paceIn : ByteArray := prog_14_method_12_code
def yX12_paceIn : MethodName := ⟨RX12, "paceIn", "(II)I"⟩
abbrev cX12_pace : ByteArray := prog_14_method_13_code
def yX12_pace : MethodName := ⟨RX12, "pace", "(II)I"⟩
abbrev cX12_loudOf : ByteArray := prog_14_method_14_code
def yX12_loudOf : MethodName := ⟨RX12, "loudOf", "(I)I"⟩
abbrev cX12_worthOf : ByteArray := prog_14_method_15_code
def yX12_worthOf : MethodName := ⟨RX12, "worthOf", "(I)I"⟩
abbrev cX12_roomOf : ByteArray := prog_14_method_16_code
def yX12_roomOf : MethodName := ⟨RX12, "roomOf", "(I)I"⟩
abbrev cX12_told : ByteArray := prog_14_method_17_code
def yX12_told : MethodName := ⟨RX12, "told", "(II)I"⟩
abbrev cX12_isUnder : ByteArray := prog_14_method_18_code
def yX12_isUnder : MethodName := ⟨RX12, "isUnder", "(II)Z"⟩
abbrev cX12_as : ByteArray := prog_14_method_19_code
def yX12_as : MethodName := ⟨RX12, "as", "(II)I"⟩
abbrev cX12_turns : ByteArray := prog_14_method_20_code
def yX12_turns : MethodName := ⟨RX12, "turns", "(II)I"⟩
abbrev cX12_set : ByteArray := prog_14_method_21_code
def yX12_set : MethodName := ⟨RX12, "set", "(III)I"⟩
abbrev cX12_part : ByteArray := prog_14_method_22_code
def yX12_part : MethodName := ⟨RX12, "part", "(II)I"⟩
abbrev cX12_lays : ByteArray := prog_14_method_23_code
def yX12_lays : MethodName := ⟨RX12, "lays", "(III)I"⟩
abbrev cX12_gap : ByteArray := prog_14_method_24_code
def yX12_gap : MethodName := ⟨RX12, "gap", "(I)I"⟩
abbrev cX12_draw : ByteArray := prog_14_method_25_code
def yX12_draw : MethodName := ⟨RX12, "draw", "()I"⟩
abbrev cX12_deal : ByteArray := prog_14_method_26_code
def yX12_deal : MethodName := ⟨RX12, "deal", "(I)I"⟩
abbrev cX12_seed : ByteArray := prog_14_method_27_code
def yX12_seed : MethodName := ⟨RX12, "seed", "(I)I"⟩
abbrev cX12_enters : ByteArray := prog_14_method_28_code
def yX12_enters : MethodName := ⟨RX12, "enters", "(II)V"⟩
abbrev cX12_goes : ByteArray := prog_14_method_29_code
def yX12_goes : MethodName := ⟨RX12, "goes", "(I)V"⟩
abbrev cX12_second : ByteArray := prog_14_method_30_code
def yX12_second : MethodName := ⟨RX12, "second", "()V"⟩
abbrev cX12_goesOn : ByteArray := prog_14_method_31_code
def yX12_goesOn : MethodName := ⟨RX12, "goesOn", "(I)V"⟩
abbrev cX12_sumOf : ByteArray := prog_14_method_32_code
def yX12_sumOf : MethodName := ⟨RX12, "sumOf", "(I)I"⟩
abbrev cX12_seconds : ByteArray := prog_14_method_33_code
def yX12_seconds : MethodName := ⟨RX12, "seconds", "(I)I"⟩
abbrev cX12_near : ByteArray := prog_14_method_34_code
def yX12_near : MethodName := ⟨RX12, "near", "()I"⟩
abbrev cX12_ride : ByteArray := prog_14_method_35_code
def yX12_ride : MethodName := ⟨RX12, "ride", "(I)I"⟩
abbrev cX12_lamps : ByteArray := prog_14_method_36_code
def yX12_lamps : MethodName := ⟨RX12, "lamps", "()I"⟩
abbrev cX12_thinks : ByteArray := prog_14_method_37_code
def yX12_thinks : MethodName := ⟨RX12, "thinks", "()V"⟩
abbrev cX12_putsBack : ByteArray := prog_14_method_38_code
def yX12_putsBack : MethodName := ⟨RX12, "putsBack", "()V"⟩
abbrev cX12_behind : ByteArray := prog_14_method_39_code
def yX12_behind : MethodName := ⟨RX12, "behind", "(II)I"⟩
abbrev cX12_stands : ByteArray := prog_14_method_40_code
def yX12_stands : MethodName := ⟨RX12, "stands", "()I"⟩
abbrev cX12_screamsBehind : ByteArray := prog_14_method_41_code
def yX12_screamsBehind : MethodName := ⟨RX12, "screamsBehind", "(I)I"⟩
abbrev cX12_brake : ByteArray := prog_14_method_42_code
def yX12_brake : MethodName := ⟨RX12, "brake", "(III)I"⟩
abbrev cX12_moved : ByteArray := prog_14_method_43_code
def yX12_moved : MethodName := ⟨RX12, "moved", "(III)I"⟩
abbrev cX12_off : ByteArray := prog_14_method_44_code
def yX12_off : MethodName := ⟨RX12, "off", "(II)I"⟩
abbrev cX12_kind : ByteArray := prog_14_method_45_code
def yX12_kind : MethodName := ⟨RX12, "kind", "(III)I"⟩
abbrev cX12_kiss : ByteArray := prog_14_method_46_code
def yX12_kiss : MethodName := ⟨RX12, "kiss", "(II)I"⟩
abbrev cX12_gaps : ByteArray := prog_14_method_47_code
def yX12_gaps : MethodName := ⟨RX12, "gaps", "(I)I"⟩
abbrev cX12_offBy : ByteArray := prog_14_method_48_code
def yX12_offBy : MethodName := ⟨RX12, "offBy", "(III)J"⟩
abbrev cX12_weighed : ByteArray := prog_14_method_49_code
def yX12_weighed : MethodName := ⟨RX12, "weighed", "(III)I"⟩
abbrev cX12_fee : ByteArray := prog_14_method_50_code
def yX12_fee : MethodName := ⟨RX12, "fee", "()I"⟩
abbrev cX12_fine : ByteArray := prog_14_method_51_code
def yX12_fine : MethodName := ⟨RX12, "fine", "(I)I"⟩
abbrev cX12_feed : ByteArray := prog_14_method_52_code
def yX12_feed : MethodName := ⟨RX12, "feed", "(III)I"⟩
abbrev cX12_trim : ByteArray := prog_14_method_53_code
def yX12_trim : MethodName := ⟨RX12, "trim", "(I)I"⟩
abbrev cX12_isLetter : ByteArray := prog_14_method_54_code
def yX12_isLetter : MethodName := ⟨RX12, "isLetter", "(I)Z"⟩
abbrev cX12_isFigure : ByteArray := prog_14_method_55_code
def yX12_isFigure : MethodName := ⟨RX12, "isFigure", "(I)Z"⟩
abbrev cX12_go : ByteArray := prog_14_method_56_code
def yX12_go : MethodName := ⟨RX12, "go", "()V"⟩
abbrev cX12_takesKey : ByteArray := prog_14_method_57_code
def yX12_takesKey : MethodName := ⟨RX12, "takesKey", "()Z"⟩
abbrev cX12_nameOf : ByteArray := prog_14_method_58_code
def yX12_nameOf : MethodName := ⟨RX12, "nameOf", "(I)I"⟩
abbrev cX12_rank : ByteArray := prog_14_method_59_code
def yX12_rank : MethodName := ⟨RX12, "rank", "(I)I"⟩
abbrev cX12_settle : ByteArray := prog_14_method_60_code
def yX12_settle : MethodName := ⟨RX12, "settle", "(I)V"⟩
abbrev cX12_signHere : ByteArray := prog_14_method_61_code
def yX12_signHere : MethodName := ⟨RX12, "signHere", "()I"⟩
abbrev cX12_takesPart : ByteArray := prog_14_method_62_code
def yX12_takesPart : MethodName := ⟨RX12, "takesPart", "()Z"⟩
abbrev cX12_takesE : ByteArray := prog_14_method_63_code
def yX12_takesE : MethodName := ⟨RX12, "takesE", "()Z"⟩
abbrev cX12_notsOpen : ByteArray := prog_14_method_64_code
def yX12_notsOpen : MethodName := ⟨RX12, "notsOpen", "()I"⟩
abbrev cX12_text : ByteArray := prog_14_method_65_code
def yX12_text : MethodName := ⟨RX12, "text", "()I"⟩
abbrev cX12_textTold : ByteArray := prog_14_method_66_code
def yX12_textTold : MethodName := ⟨RX12, "textTold", "(II)I"⟩
abbrev cX12_counts : ByteArray := prog_14_method_67_code
def yX12_counts : MethodName := ⟨RX12, "counts", "(I)I"⟩
abbrev cX12_why : ByteArray := prog_14_method_68_code
def yX12_why : MethodName := ⟨RX12, "why", "(I)I"⟩
abbrev cX12_two : ByteArray := prog_14_method_69_code
def yX12_two : MethodName := ⟨RX12, "two", "(III)I"⟩
abbrev cX12_worksOut : ByteArray := prog_14_method_70_code
def yX12_worksOut : MethodName := ⟨RX12, "worksOut", "(I)I"⟩
abbrev cX12_isSheet : ByteArray := prog_14_method_71_code
def yX12_isSheet : MethodName := ⟨RX12, "isSheet", "(I)Z"⟩
abbrev cX12_isSlot : ByteArray := prog_14_method_72_code
def yX12_isSlot : MethodName := ⟨RX12, "isSlot", "(I)Z"⟩
abbrev cX12_sheet : ByteArray := prog_14_method_73_code
def yX12_sheet : MethodName := ⟨RX12, "sheet", "(III)I"⟩
abbrev cX12_mark : ByteArray := prog_14_method_74_code
def yX12_mark : MethodName := ⟨RX12, "mark", "(III)I"⟩
abbrev cX12_pour : ByteArray := prog_14_method_75_code
def yX12_pour : MethodName := ⟨RX12, "pour", "(I)I"⟩
abbrev cX12_reads : ByteArray := prog_14_method_76_code
def yX12_reads : MethodName := ⟨RX12, "reads", "(I)I"⟩
abbrev cX12_copy : ByteArray := prog_14_method_77_code
def yX12_copy : MethodName := ⟨RX12, "copy", "(IIIII)I"⟩
abbrev cX12_lay : ByteArray := prog_14_method_78_code
def yX12_lay : MethodName := ⟨RX12, "lay", "(III)I"⟩
abbrev cX12_ask : ByteArray := prog_14_method_79_code
def yX12_ask : MethodName := ⟨RX12, "ask", "(II)I"⟩
abbrev cX12_item : ByteArray := prog_14_method_80_code
def yX12_item : MethodName := ⟨RX12, "item", "(II)I"⟩
abbrev cX12_rest : ByteArray := prog_14_method_81_code
def yX12_rest : MethodName := ⟨RX12, "rest", "(II)I"⟩
abbrev cX12_tell : ByteArray := prog_14_method_82_code
def yX12_tell : MethodName := ⟨RX12, "tell", "(I)I"⟩
abbrev cX12_check : ByteArray := prog_14_method_83_code
def yX12_check : MethodName := ⟨RX12, "check", "(I)I"⟩
abbrev cX12_keep : ByteArray := prog_14_method_84_code
def yX12_keep : MethodName := ⟨RX12, "keep", "()I"⟩
abbrev cX12_back : ByteArray := prog_14_method_85_code
def yX12_back : MethodName := ⟨RX12, "back", "()I"⟩
abbrev cX12_scares : ByteArray := prog_14_method_86_code
def yX12_scares : MethodName := ⟨RX12, "scares", "()I"⟩
abbrev cX12_count : ByteArray := prog_14_method_87_code
def yX12_count : MethodName := ⟨RX12, "count", "(I)I"⟩
def RJ11 : String := "java/lang/Character"
def TJ11 : u_T := fun k => match k with
  | _ => ("", "", "", false)
def tyJ11 : Nat → FieldType := fun k => match k with
  | _ => .int
abbrev wsJ110 : List Cond := u_ws RJ11 TJ11 0
theorem nmJ11 : ∀ a, a < 0 → ∀ b, b < 0 → a ≠ b → (TJ11 a).2.1 ≠ (TJ11 b).2.1 := by decide +kernel
theorem tyJ11_ok : ∀ k, k < 0 → parseFieldDescriptor (TJ11 k).2.2.1 = some (tyJ11 k) := by decide +kernel
abbrev cJ11_isValidCodePoint_9a6ad : ByteArray := prog_15_method_11_code
def yJ11_isValidCodePoint_9a6ad : MethodName := ⟨RJ11, "isValidCodePoint", "(I)Z"⟩
abbrev cJ11_highSurrogate_5068e : ByteArray := prog_15_method_28_code
def yJ11_highSurrogate_5068e : MethodName := ⟨RJ11, "highSurrogate", "(I)C"⟩
abbrev cJ11_lowSurrogate_5068e : ByteArray := prog_15_method_29_code
def yJ11_lowSurrogate_5068e : MethodName := ⟨RJ11, "lowSurrogate", "(I)C"⟩
def RJ9 : String := "java/lang/Math"
def TJ9 : u_T := fun k => match k with
  | _ => ("", "", "", false)
def tyJ9 : Nat → FieldType := fun k => match k with
  | _ => .int
abbrev wsJ90 : List Cond := u_ws RJ9 TJ9 0
theorem nmJ9 : ∀ a, a < 0 → ∀ b, b < 0 → a ≠ b → (TJ9 a).2.1 ≠ (TJ9 b).2.1 := by decide +kernel
theorem tyJ9_ok : ∀ k, k < 0 → parseFieldDescriptor (TJ9 k).2.2.1 = some (tyJ9 k) := by decide +kernel
abbrev cJ9_abs_0f7a4 : ByteArray := prog_16_method_59_code
def yJ9_abs_0f7a4 : MethodName := ⟨RJ9, "abs", "(I)I"⟩
abbrev cJ9_max_7cf53 : ByteArray := prog_16_method_65_code
def yJ9_max_7cf53 : MethodName := ⟨RJ9, "max", "(II)I"⟩
abbrev cJ9_min_7cf53 : ByteArray := prog_16_method_69_code
def yJ9_min_7cf53 : MethodName := ⟨RJ9, "min", "(II)I"⟩
def RJ0 : String := "java/lang/String"
def TJ0 : u_T := fun k => match k with
  | _ => ("", "", "", false)
def tyJ0 : Nat → FieldType := fun k => match k with
  | _ => .int
abbrev wsJ00 : List Cond := u_ws RJ0 TJ0 0
theorem nmJ0 : ∀ a, a < 0 → ∀ b, b < 0 → a ≠ b → (TJ0 a).2.1 ≠ (TJ0 b).2.1 := by decide +kernel
theorem tyJ0_ok : ∀ k, k < 0 → parseFieldDescriptor (TJ0 k).2.2.1 = some (tyJ0 k) := by decide +kernel
abbrev cJ0_length_8abf5 : ByteArray := prog_17_method_54_code
def yJ0_length_8abf5 : MethodName := ⟨RJ0, "length", "()I"⟩
abbrev cJ0_charAt_5068e : ByteArray := prog_17_method_56_code
def yJ0_charAt_5068e : MethodName := ⟨RJ0, "charAt", "(I)C"⟩
abbrev cJ0_indexOf_0f7a4 : ByteArray := prog_17_method_79_code
def yJ0_indexOf_0f7a4 : MethodName := ⟨RJ0, "indexOf", "(I)I"⟩
abbrev cJ0_indexOf_7cf53 : ByteArray := prog_17_method_80_code
def yJ0_indexOf_7cf53 : MethodName := ⟨RJ0, "indexOf", "(II)I"⟩
abbrev cJ0_coder_7d493 : ByteArray := prog_17_method_152_code
def yJ0_coder_7d493 : MethodName := ⟨RJ0, "coder", "()B"⟩
abbrev cJ0_isLatin1_aae02 : ByteArray := prog_17_method_154_code
def yJ0_isLatin1_aae02 : MethodName := ⟨RJ0, "isLatin1", "()Z"⟩
abbrev cJ0_checkIndex_df160 : ByteArray := prog_17_method_155_code
def yJ0_checkIndex_df160 : MethodName := ⟨RJ0, "checkIndex", "(II)V"⟩
abbrev cJ0_checkBoundsBeginEnd_23922 : ByteArray := prog_17_method_158_code
def yJ0_checkBoundsBeginEnd_23922 : MethodName := ⟨RJ0, "checkBoundsBeginEnd", "(III)V"⟩
def RJ1 : String := "java/lang/StringLatin1"
def TJ1 : u_T := fun k => match k with
  | _ => ("", "", "", false)
def tyJ1 : Nat → FieldType := fun k => match k with
  | _ => .int
abbrev wsJ10 : List Cond := u_ws RJ1 TJ1 0
theorem nmJ1 : ∀ a, a < 0 → ∀ b, b < 0 → a ≠ b → (TJ1 a).2.1 ≠ (TJ1 b).2.1 := by decide +kernel
theorem tyJ1_ok : ∀ k, k < 0 → parseFieldDescriptor (TJ1 k).2.2.1 = some (tyJ1 k) := by decide +kernel
abbrev cJ1_charAt_3b067 : ByteArray := prog_18_method_2_code
def yJ1_charAt_3b067 : MethodName := ⟨RJ1, "charAt", "([BI)C"⟩
abbrev cJ1_canEncode_9a6ad : ByteArray := prog_18_method_4_code
def yJ1_canEncode_9a6ad : MethodName := ⟨RJ1, "canEncode", "(I)Z"⟩
abbrev cJ1_indexOf_4cfef : ByteArray := prog_18_method_22_code
def yJ1_indexOf_4cfef : MethodName := ⟨RJ1, "indexOf", "([BIII)I"⟩
abbrev cJ1_indexOfChar_4cfef : ByteArray := prog_18_method_23_code
def yJ1_indexOfChar_4cfef : MethodName := ⟨RJ1, "indexOfChar", "([BIII)I"⟩
def RJ2 : String := "java/lang/StringUTF16"
def TJ2 : u_T := fun k => match k with
  | _ => ("", "", "", false)
def tyJ2 : Nat → FieldType := fun k => match k with
  | _ => .int
abbrev wsJ20 : List Cond := u_ws RJ2 TJ2 0
theorem nmJ2 : ∀ a, a < 0 → ∀ b, b < 0 → a ≠ b → (TJ2 a).2.1 ≠ (TJ2 b).2.1 := by decide +kernel
theorem tyJ2_ok : ∀ k, k < 0 → parseFieldDescriptor (TJ2 k).2.2.1 = some (tyJ2 k) := by decide +kernel
abbrev cJ2_getChar_3b067 : ByteArray := prog_19_method_5_code
def yJ2_getChar_3b067 : MethodName := ⟨RJ2, "getChar", "([BI)C"⟩
abbrev cJ2_length_9d52b : ByteArray := prog_19_method_6_code
def yJ2_length_9d52b : MethodName := ⟨RJ2, "length", "([B)I"⟩
abbrev cJ2_indexOf_4cfef : ByteArray := prog_19_method_40_code
def yJ2_indexOf_4cfef : MethodName := ⟨RJ2, "indexOf", "([BIII)I"⟩
abbrev cJ2_indexOfChar_4cfef : ByteArray := prog_19_method_47_code
def yJ2_indexOfChar_4cfef : MethodName := ⟨RJ2, "indexOfChar", "([BIII)I"⟩
abbrev cJ2_indexOfCharUnsafe_4cfef : ByteArray := prog_19_method_48_code
def yJ2_indexOfCharUnsafe_4cfef : MethodName := ⟨RJ2, "indexOfCharUnsafe", "([BIII)I"⟩
abbrev cJ2_indexOfSupplementary_4cfef : ByteArray := prog_19_method_49_code
def yJ2_indexOfSupplementary_4cfef : MethodName := ⟨RJ2, "indexOfSupplementary", "([BIII)I"⟩
abbrev cJ2_charAt_3b067 : ByteArray := prog_19_method_83_code
def yJ2_charAt_3b067 : MethodName := ⟨RJ2, "charAt", "([BI)C"⟩
abbrev cJ2_checkIndex_2214a : ByteArray := prog_19_method_91_code
def yJ2_checkIndex_2214a : MethodName := ⟨RJ2, "checkIndex", "(I[B)V"⟩
abbrev cJ2_checkBoundsBeginEnd_d044e : ByteArray := prog_19_method_93_code
def yJ2_checkBoundsBeginEnd_d044e : MethodName := ⟨RJ2, "checkBoundsBeginEnd", "(II[B)V"⟩
def RJ10 : String := "java/lang/System"
def TJ10 : u_T := fun k => match k with
  | _ => ("", "", "", false)
def tyJ10 : Nat → FieldType := fun k => match k with
  | _ => .int
abbrev wsJ100 : List Cond := u_ws RJ10 TJ10 0
theorem nmJ10 : ∀ a, a < 0 → ∀ b, b < 0 → a ≠ b → (TJ10 a).2.1 ≠ (TJ10 b).2.1 := by decide +kernel
theorem tyJ10_ok : ∀ k, k < 0 → parseFieldDescriptor (TJ10 k).2.2.1 = some (tyJ10 k) := by decide +kernel
def RJ3 : String := "jdk/internal/util/Preconditions"
def TJ3 : u_T := fun k => match k with
  | _ => ("", "", "", false)
def tyJ3 : Nat → FieldType := fun k => match k with
  | _ => .int
abbrev wsJ30 : List Cond := u_ws RJ3 TJ3 0
theorem nmJ3 : ∀ a, a < 0 → ∀ b, b < 0 → a ≠ b → (TJ3 a).2.1 ≠ (TJ3 b).2.1 := by decide +kernel
theorem tyJ3_ok : ∀ k, k < 0 → parseFieldDescriptor (TJ3 k).2.2.1 = some (tyJ3 k) := by decide +kernel
abbrev cJ3_checkIndex_8e157 : ByteArray := prog_21_method_11_code
def yJ3_checkIndex_8e157 : MethodName := ⟨RJ3, "checkIndex", "(IILjava/util/function/BiFunction;)I"⟩
abbrev cJ3_checkFromToIndex_8c36e : ByteArray := prog_21_method_12_code
def yJ3_checkFromToIndex_8c36e : MethodName := ⟨RJ3, "checkFromToIndex", "(IIILjava/util/function/BiFunction;)I"⟩
def RL : String := "GhostTrainLaw"
abbrev cL_law : ByteArray := code
def yL_law : MethodName := ⟨RL, "law", "([I)Z"⟩
abbrev vwCl : List vw_C := [(RX0, TX0, 0), (RX1, TX1, 0), (RX2, TX2, 0), (RX3, TX3, 0), (RX4, TX4, 0), (RX5, TX5, 0), (RX6, TX6, 10), (RX7, TX7, 3), (RX8, TX8, 5), (RX9, TX9, 5), (RX10, TX10, 5), (RX11, TX11, 11), (RX12, TX12, 34)]
end
section
/-! ===== a small machine, that computes: its cells have numbers 0, 1, .. in the order in which they are made; all values are written out ===== -/
/-- cells made, slots made, (tag, length) of each cell, what its places hold -/
abbrev mj_H : Type := Nat × Nat × (Nat → Nat × Nat) × (Nat → Nat → Value)
/-- an instruction, its length, and two numbers that the tables say of it -/
abbrev mj_I : Type := Instr × Nat × Nat × Nat
/-- the number of the script; of the first text constant -/
abbrev mj_X : Nat := 1000000
def mj_put (V : Nat → Nat → Value) (i k : Nat) (v : Value) : Nat → Nat → Value := fun a b => if a = i then (if b = k then v else V a b) else V a b
def mj_st (h : mj_H) (i k : Nat) (v : Value) : mj_H := (h.1, h.2.1, h.2.2.1, mj_put h.2.2.2 i k v)
def mj_new (h : mj_H) (t n : Nat) (v : Nat → Value) : mj_H := (h.1 + 1, h.2.1 + n, fun i => if i = h.1 then (t, n) else h.2.2.1 i, fun i k => if i = h.1 then v k else h.2.2.2 i k)
/-- an array of arrays: the outer one, then the inner ones -/
def mj_new2 (h : mj_H) (t t2 n n2 : Nat) (v : Value) : mj_H := (h.1 + 1 + n, h.2.1 + (n + n * n2), fun i => if i = h.1 then (t, n) else if h.1 < i ∧ i < h.1 + 1 + n then (t2, n2) else h.2.2.1 i,
  fun i k => if i = h.1 then (if k < n then .ref (h.1 + 1 + k) else .null) else if h.1 < i ∧ i < h.1 + 1 + n then v else h.2.2.2 i k)
/-- no value (an unset local, or the second half of a long) -/
abbrev mj_no : Value := .retAddr 0
def mj_isno : Value → Bool
  | .retAddr _ => true
  | _ => false
def mj_wide : Option Value → Bool
  | some (.long _) => true
  | some (.double _) => true
  | _ => false
def mj_ty : Nat → FieldType
  | 20 => .int
  | 21 => .boolean
  | 22 => .char
  | 23 => .object "GhostTrain$CarKind"
  | 24 => .object "GhostTrain$Text"
  | 25 => .object "GhostTrain$Sheet"
  | 26 => .object "GhostTrain$Slot"
  | _ => .array .int
/-- the type of a field of a class -/
def mj_fty (a b : Nat) : FieldType := match vwCl[a]? with
  | some r => (parseFieldDescriptor (r.2.1 b).2.2.1).getD .int
  | none => .int
def mj_cat1 (v : Value) : Bool := v.category == 1
/-- what an instruction does that needs no cell -/
def mj_sp (e : mj_I) (pc : Nat) (ls st : List Value) : Option (Nat × List Value × List Value) :=
  match e.1 with
  | .aconst_null => some (pc + e.2.1, ls, .null :: st)
  | .iconst n => some (pc + e.2.1, ls, .int (Int32.ofInt n) :: st)
  | .bipush n => some (pc + e.2.1, ls, .int (Int8.ofInt n).toInt32 :: st)
  | .sipush n => some (pc + e.2.1, ls, .int (Int16.ofInt n).toInt32 :: st)
  | .lconst n => some (pc + e.2.1, ls, .long (Int64.ofNat (n : Nat)) :: st)
  | .ldc _ => if e.2.2.2 = 0 then some (pc + e.2.1, ls, .int (Int32.ofNat e.2.2.1) :: st) else none
  | .ldc_w _ => if e.2.2.2 = 0 then some (pc + e.2.1, ls, .int (Int32.ofNat e.2.2.1) :: st) else none
  | .iload i => match ls[i]? with
    | some (.int x) => some (pc + e.2.1, ls, .int x :: st)
    | _ => none
  | .iload_n i => match ls[(i : Nat)]? with
    | some (.int x) => some (pc + e.2.1, ls, .int x :: st)
    | _ => none
  | .lload i => match ls[i]? with
    | some (.long x) => some (pc + e.2.1, ls, .long x :: st)
    | _ => none
  | .lload_n i => match ls[(i : Nat)]? with
    | some (.long x) => some (pc + e.2.1, ls, .long x :: st)
    | _ => none
  | .aload i => match ls[i]? with
    | some (.ref x) => some (pc + e.2.1, ls, .ref x :: st)
    | _ => none
  | .aload_n i => match ls[(i : Nat)]? with
    | some (.ref x) => some (pc + e.2.1, ls, .ref x :: st)
    | _ => none
  | .istore i => match st with
    | .int x :: r => if i < ls.length ∧ mj_wide ls[i - 1]? = false then some (pc + e.2.1, ls.set i (.int x), r) else none
    | _ => none
  | .istore_n i => match st with
    | .int x :: r => if (i : Nat) < ls.length ∧ mj_wide ls[(i : Nat) - 1]? = false then some (pc + e.2.1, ls.set (i : Nat) (.int x), r) else none
    | _ => none
  | .astore i => match st with
    | .ref x :: r => if i < ls.length ∧ mj_wide ls[i - 1]? = false then some (pc + e.2.1, ls.set i (.ref x), r) else none
    | _ => none
  | .astore_n i => match st with
    | .ref x :: r => if (i : Nat) < ls.length ∧ mj_wide ls[(i : Nat) - 1]? = false then some (pc + e.2.1, ls.set (i : Nat) (.ref x), r) else none
    | _ => none
  | .lstore i => match st with
    | .long x :: r => if i + 1 < ls.length ∧ mj_wide ls[i - 1]? = false then some (pc + e.2.1, (ls.set i (.long x)).set (i + 1) mj_no, r) else none
    | _ => none
  | .lstore_n i => match st with
    | .long x :: r => if (i : Nat) + 1 < ls.length ∧ mj_wide ls[(i : Nat) - 1]? = false then some (pc + e.2.1, (ls.set (i : Nat) (.long x)).set ((i : Nat) + 1) mj_no, r) else none
    | _ => none
  | .iinc i n => match ls[i]? with
    | some (.int x) => if mj_wide ls[i - 1]? = false then some (pc + e.2.1, ls.set i (.int (x + Int32.ofInt n)), st) else none
    | _ => none
  | .pop => match st with
    | v :: r => if mj_cat1 v then some (pc + e.2.1, ls, r) else none
    | _ => none
  | .dup => match st with
    | v :: r => if mj_cat1 v then some (pc + e.2.1, ls, v :: v :: r) else none
    | _ => none
  | .dup2 => match st with
    | v :: w :: r => if mj_cat1 v && mj_cat1 w then some (pc + e.2.1, ls, v :: w :: v :: w :: r) else none
    | _ => none
  | .iadd => match st with
    | .int y :: .int x :: r => some (pc + e.2.1, ls, .int (x + y) :: r)
    | _ => none
  | .isub => match st with
    | .int y :: .int x :: r => some (pc + e.2.1, ls, .int (x - y) :: r)
    | _ => none
  | .imul => match st with
    | .int y :: .int x :: r => some (pc + e.2.1, ls, .int (x * y) :: r)
    | _ => none
  | .idiv => match st with
    | .int y :: .int x :: r => if y = 0 then none else some (pc + e.2.1, ls, .int (x / y) :: r)
    | _ => none
  | .irem => match st with
    | .int y :: .int x :: r => if y = 0 then none else some (pc + e.2.1, ls, .int (x % y) :: r)
    | _ => none
  | .ineg => match st with
    | .int x :: r => some (pc + e.2.1, ls, .int (-x) :: r)
    | _ => none
  | .ishl => match st with
    | .int y :: .int x :: r => some (pc + e.2.1, ls, .int (x <<< (y &&& 31)) :: r)
    | _ => none
  | .ishr => match st with
    | .int y :: .int x :: r => some (pc + e.2.1, ls, .int (x >>> (y &&& 31)) :: r)
    | _ => none
  | .iushr => match st with
    | .int y :: .int x :: r => some (pc + e.2.1, ls, .int (x.toUInt32 >>> (y.toUInt32 &&& Int32.toUInt32 31)).toInt32 :: r)
    | _ => none
  | .iand => match st with
    | .int y :: .int x :: r => some (pc + e.2.1, ls, .int (x &&& y) :: r)
    | _ => none
  | .ior => match st with
    | .int y :: .int x :: r => some (pc + e.2.1, ls, .int (x ||| y) :: r)
    | _ => none
  | .ixor => match st with
    | .int y :: .int x :: r => some (pc + e.2.1, ls, .int (x ^^^ y) :: r)
    | _ => none
  | .ladd => match st with
    | .long y :: .long x :: r => some (pc + e.2.1, ls, .long (x + y) :: r)
    | _ => none
  | .lsub => match st with
    | .long y :: .long x :: r => some (pc + e.2.1, ls, .long (x - y) :: r)
    | _ => none
  | .lneg => match st with
    | .long x :: r => some (pc + e.2.1, ls, .long (-x) :: r)
    | _ => none
  | .lcmp => match st with
    | .long y :: .long x :: r => some (pc + e.2.1, ls, .int (lg_cmp x y) :: r)
    | _ => none
  | .i2l => match st with
    | .int x :: r => some (pc + e.2.1, ls, .long x.toInt64 :: r)
    | _ => none
  | .l2i => match st with
    | .long x :: r => some (pc + e.2.1, ls, .int x.toInt32 :: r)
    | _ => none
  | .i2s => match st with
    | .int x :: r => some (pc + e.2.1, ls, .int x.toInt16.toInt32 :: r)
    | _ => none
  | .i2c => match st with
    | .int x :: r => some (pc + e.2.1, ls, .int (x.toUInt32 % 65536).toInt32 :: r)
    | _ => none
  | .goto _ => some (e.2.2.1, ls, st)
  | .ifCond c _ => match st with
    | .int x :: r => match c with
      | .eq => some (if x = 0 then e.2.2.1 else pc + e.2.1, ls, r)
      | .ne => some (if x = 0 then pc + e.2.1 else e.2.2.1, ls, r)
      | .lt => some (if x < 0 then e.2.2.1 else pc + e.2.1, ls, r)
      | .ge => some (if 0 ≤ x then e.2.2.1 else pc + e.2.1, ls, r)
      | .gt => some (if 0 < x then e.2.2.1 else pc + e.2.1, ls, r)
      | .le => some (if x ≤ 0 then e.2.2.1 else pc + e.2.1, ls, r)
    | _ => none
  | .if_icmp c _ => match st with
    | .int y :: .int x :: r => match c with
      | .eq => some (if x = y then e.2.2.1 else pc + e.2.1, ls, r)
      | .ne => some (if x = y then pc + e.2.1 else e.2.2.1, ls, r)
      | .lt => some (if x < y then e.2.2.1 else pc + e.2.1, ls, r)
      | .ge => some (if y ≤ x then e.2.2.1 else pc + e.2.1, ls, r)
      | .gt => some (if y < x then e.2.2.1 else pc + e.2.1, ls, r)
      | .le => some (if x ≤ y then e.2.2.1 else pc + e.2.1, ls, r)
    | _ => none
  | .ifnull _ => match st with
    | .ref _ :: r => some (pc + e.2.1, ls, r)
    | .null :: r => some (e.2.2.1, ls, r)
    | _ => none
  | .ifnonnull _ => match st with
    | .ref _ :: r => some (e.2.2.1, ls, r)
    | .null :: r => some (pc + e.2.1, ls, r)
    | _ => none
  | .tableswitch d lo hi offs => match st with
    | .int x :: r => some (if x.toInt < lo ∨ hi < x.toInt then ((pc : Int) + d).toNat else ((pc : Int) + (offs[(x.toInt - lo).toNat]?).getD d).toNat, ls, r)
    | _ => none
  | .lookupswitch d ps => match st with
    | .int x :: r => some (((pc : Int) + Op.lookupswitch.offset ps.toList d x.toInt).toNat, ls, r)
    | _ => none
  | _ => none
/-- may be read: a cell that was made, or the script -/
def mj_rd (h : mj_H) (a : Nat) : Bool := decide (a < h.1) || a == mj_X
/-- an index into an array of n places -/
def mj_in (i : Int32) (n : Nat) : Bool := decide (¬ i < 0) && decide (i.toNatClampNeg < n)
def mj_cpy (V : Nat → Nat → Value) (a sp b dp n : Nat) : Nat → Nat → Value := fun i k => if i = b then (if dp ≤ k ∧ k < dp + n then V a (sp + (k - dp)) else V b k) else V i k
def mj_isint : Value → Bool
  | .int _ => true
  | _ => false
/-- what an instruction does with cells -/
def mj_sh (e : mj_I) (pc : Nat) (ls st : List Value) (h : mj_H) : Option (Nat × List Value × List Value × mj_H) :=
  match e.1 with
  | .getfield _ => match st with
    | .ref a :: r => if a < h.1 ∧ (h.2.2.1 a).1 = e.2.2.1 then some (pc + e.2.1, ls, h.2.2.2 a e.2.2.2 :: r, h) else none
    | _ => none
  | .putfield _ => match st with
    | v :: .ref a :: r => if a < h.1 ∧ (h.2.2.1 a).1 = e.2.2.1 ∧ narrow (mj_fty e.2.2.1 e.2.2.2) v = v ∧ fits (mj_fty e.2.2.1 e.2.2.2) v = true then some (pc + e.2.1, ls, r, mj_st h a e.2.2.2 v) else none
    | _ => none
  | .arraylength => match st with
    | .ref a :: r => if mj_rd h a = true ∧ 20 ≤ (h.2.2.1 a).1 ∧ (h.2.2.1 a).1 < 28 then some (pc + e.2.1, ls, .int (Int32.ofNat (h.2.2.1 a).2) :: r, h) else none
    | _ => none
  | .iaload => match st with
    | .int i :: .ref a :: r => if mj_rd h a = true ∧ (h.2.2.1 a).1 = 20 ∧ mj_in i (h.2.2.1 a).2 = true then some (pc + e.2.1, ls, h.2.2.2 a i.toNatClampNeg :: r, h) else none
    | _ => none
  | .baload => match st with
    | .int i :: .ref a :: r => if a < h.1 ∧ (h.2.2.1 a).1 = 21 ∧ mj_in i (h.2.2.1 a).2 = true then some (pc + e.2.1, ls, h.2.2.2 a i.toNatClampNeg :: r, h) else none
    | _ => none
  | .caload => match st with
    | .int i :: .ref a :: r => if a < h.1 ∧ (h.2.2.1 a).1 = 22 ∧ mj_in i (h.2.2.1 a).2 = true then some (pc + e.2.1, ls, h.2.2.2 a i.toNatClampNeg :: r, h) else none
    | _ => none
  | .aaload => match st with
    | .int i :: .ref a :: r => if a < h.1 ∧ 23 ≤ (h.2.2.1 a).1 ∧ (h.2.2.1 a).1 < 28 ∧ mj_in i (h.2.2.1 a).2 = true then some (pc + e.2.1, ls, h.2.2.2 a i.toNatClampNeg :: r, h) else none
    | _ => none
  | .iastore => match st with
    | .int x :: .int i :: .ref a :: r => if a < h.1 ∧ (h.2.2.1 a).1 = 20 ∧ mj_in i (h.2.2.1 a).2 = true then some (pc + e.2.1, ls, r, mj_st h a i.toNatClampNeg (.int x)) else none
    | _ => none
  | .bastore => match st with
    | .int x :: .int i :: .ref a :: r => if a < h.1 ∧ (h.2.2.1 a).1 = 21 ∧ mj_in i (h.2.2.1 a).2 = true then some (pc + e.2.1, ls, r, mj_st h a i.toNatClampNeg (narrow .boolean (.int x))) else none
    | _ => none
  | .castore => match st with
    | .int x :: .int i :: .ref a :: r => if a < h.1 ∧ (h.2.2.1 a).1 = 22 ∧ mj_in i (h.2.2.1 a).2 = true then some (pc + e.2.1, ls, r, mj_st h a i.toNatClampNeg (narrow .char (.int x))) else none
    | _ => none
  | .aastore => match st with
    | .ref v :: .int i :: .ref a :: r => if a < h.1 ∧ v < h.1 ∧ ((h.2.2.1 a).1 = 23 ∧ (h.2.2.1 v).1 < 6 ∨ (h.2.2.1 a).1 = 24 ∧ (h.2.2.1 v).1 = 10 ∨ (h.2.2.1 a).1 = 25 ∧ (h.2.2.1 v).1 = 7 ∨ (h.2.2.1 a).1 = 26 ∧ (h.2.2.1 v).1 = 8) ∧ mj_in i (h.2.2.1 a).2 = true then some (pc + e.2.1, ls, r, mj_st h a i.toNatClampNeg (.ref v)) else none
    | _ => none
  | .new _ => match vwCl[e.2.2.1]? with
    | some q => if h.1 < 1000 then some (pc + e.2.1, ls, .ref h.1 :: st, mj_new h e.2.2.1 q.2.2 (fun k => defaultValue (mj_fty e.2.2.1 k))) else none
    | none => none
  | .newarray _ => match st with
    | .int n :: r => if h.1 < 1000 ∧ ¬ n < 0 ∧ n.toNatClampNeg ≤ 10000 ∧ 20 ≤ e.2.2.1 ∧ e.2.2.1 < 23 then some (pc + e.2.1, ls, .ref h.1 :: r, mj_new h e.2.2.1 n.toNatClampNeg (fun _ => .int 0)) else none
    | _ => none
  | .anewarray _ => match st with
    | .int n :: r => if h.1 < 1000 ∧ ¬ n < 0 ∧ n.toNatClampNeg ≤ 10000 ∧ 23 ≤ e.2.2.1 ∧ e.2.2.1 < 27 then some (pc + e.2.1, ls, .ref h.1 :: r, mj_new h e.2.2.1 n.toNatClampNeg (fun _ => .null)) else none
    | _ => none
  | .multianewarray _ _ => match st with
    | .int k :: .int n :: r => if h.1 + 1 + n.toNatClampNeg < 1000 ∧ ¬ n < 0 ∧ ¬ k < 0 ∧ n.toNatClampNeg ≤ 1000 ∧ k.toNatClampNeg ≤ 1000 then some (pc + e.2.1, ls, .ref h.1 :: r, mj_new2 h 27 20 n.toNatClampNeg k.toNatClampNeg (.int 0)) else none
    | _ => none
  | .invokespecial _ => match st with
    | .ref a :: r => if e.2.2.1 = 3000 ∧ a < h.1 ∧ (r.map fun v => v.category).sum ≤ 8 then some (pc + e.2.1, ls, r, h) else none
    | _ => none
  | .invokestatic _ => match st with
    | .int n :: .int dp :: .ref b :: .int sp :: .ref a :: r => if e.2.2.1 = 3001 ∧ a < h.1 ∧ b < h.1 ∧ (h.2.2.1 a).1 = 20 ∧ (h.2.2.1 b).1 = 20 ∧ ¬ sp < 0 ∧ ¬ dp < 0 ∧ ¬ n < 0 ∧ sp.toNatClampNeg + n.toNatClampNeg ≤ (h.2.2.1 a).2 ∧ dp.toNatClampNeg + n.toNatClampNeg ≤ (h.2.2.1 b).2 ∧ (∀ i : Nat, i < n.toNatClampNeg → mj_isint (h.2.2.2 a (sp.toNatClampNeg + i)) = true) ∧ (r.map fun v => v.category).sum ≤ 8
        then some (pc + e.2.1, ls, r, (h.1, h.2.1, h.2.2.1, mj_cpy h.2.2.2 a sp.toNatClampNeg b dp.toNatClampNeg n.toNatClampNeg)) else none
    | _ => none
  | _ => none
/-- the text constants, their signs -/
def mj_txt : List (List Nat) := [[112, 97, 99, 101], [102, 101, 101], [102, 105, 110, 101], [33], [40], [41], [119, 114, 98], [115, 116], [102, 109], [124], [38], [60, 61, 62], [43, 45], [42, 47]]
def mj_tx (a : Nat) : List Nat := mj_txt.getD (a - (mj_X + 1)) []
def mj_find (c : Int32) : List Nat → Nat → Int32
  | [], _ => -1
  | x :: l, i => if c = Int32.ofNat x then Int32.ofNat i else mj_find c l (i + 1)
/-- what an instruction does with a text constant -/
def mj_sx (e : mj_I) (pc : Nat) (ls st : List Value) : Option (Nat × List Value × List Value) :=
  match e.1 with
  | .ldc _ => if e.2.2.2 = 1 then some (pc + e.2.1, ls, .ref (mj_X + 1 + e.2.2.1) :: st) else none
  | .invokevirtual _ => match st with
    | .ref a :: r => if e.2.2.1 = 3002 ∧ mj_X < a ∧ a < mj_X + 15 ∧ (r.map fun v => v.category).sum ≤ 8 then some (pc + e.2.1, ls, .int (Int32.ofNat (mj_tx a).length) :: r) else none
    | .int i :: .ref a :: r =>
      if e.2.2.1 = 3003 ∧ mj_X < a ∧ a < mj_X + 15 ∧ mj_in i (mj_tx a).length = true ∧ (r.map fun v => v.category).sum ≤ 8 then some (pc + e.2.1, ls, .int (Int32.ofNat ((mj_tx a).getD i.toNatClampNeg 0)) :: r)
      else if e.2.2.1 = 3004 ∧ mj_X < a ∧ a < mj_X + 15 ∧ (r.map fun v => v.category).sum ≤ 8 then some (pc + e.2.1, ls, .int (mj_find i (mj_tx a) 0) :: r) else none
    | _ => none
  | .invokestatic _ =>
    if e.2.2.1 = 3005 then (match st with
      | .int y :: .int x :: r => if (r.map fun v => v.category).sum ≤ 8 then some (pc + e.2.1, ls, .int (if x < y then y else x) :: r) else none
      | _ => none)
    else if e.2.2.1 = 3006 then (match st with
      | .int y :: .int x :: r => if (r.map fun v => v.category).sum ≤ 8 then some (pc + e.2.1, ls, .int (if y < x then y else x) :: r) else none
      | _ => none)
    else if e.2.2.1 = 3007 then (match st with
      | .int x :: r => if (r.map fun v => v.category).sum ≤ 8 then some (pc + e.2.1, ls, .int (if 0 ≤ x then x else 0 - x) :: r) else none
      | _ => none)
    else none
  | _ => none
/-- one step that is no call and no return -/
def mj_stp (e : mj_I) (pc : Nat) (ls st : List Value) (h : mj_H) : Option (Nat × List Value × List Value × mj_H) :=
  match mj_sp e pc ls st with
  | some q => some (q.1, q.2.1, q.2.2, h)
  | none => match mj_sx e pc ls st with
    | some q => some (q.1, q.2.1, q.2.2, h)
    | none => mj_sh e pc ls st h
/-- what a return gives back -/
def mj_ret (rt : Option FieldType) (e : mj_I) (st : List Value) : Option (Option Value) :=
  match e.1 with
  | .ireturn => match st, rt with
    | [.int v], some t => if narrow t (.int v) = .int v then some (some (.int v)) else none
    | _, _ => none
  | .lreturn => match st, rt with
    | [.long v], some .long => some (some (.long v))
    | _, _ => none
  | .areturn => match st, rt with
    | [.null], some (.object _) => some (some .null)
    | [.ref a], some (.object _) => some (some (.ref a))
    | _, _ => none
  | .return_ => match st, rt with
    | [], none => some none
    | _, _ => none
  | _ => none
end
section
/-! ===== the methods' instructions, written by a program (wip/whole/gen_prog.py) out of the printed names and words ===== -/
/-- GhostTrain.<init>()V -/
def mj_p0 : List (Nat × mj_I) := [(0, .aload_n 0, 1, 0, 0), (1, .invokespecial 1, 3, 3000, 0), (4, .aload_n 0, 1, 0, 0), (5, .bipush 6, 2, 0, 0), (7, .anewarray 7, 3, 23, 0), (10, .dup, 1, 0, 0), (11, .iconst 0, 1, 0, 0), (12, .new 7, 3, 1, 0), (15, .dup, 1, 0, 0), (16, .invokespecial 9, 3, 1, 0), (19, .aastore, 1, 0, 0), (20, .dup, 1, 0, 0), (21, .iconst 1, 1, 0, 0), (22, .new 10, 3, 3, 0), (25, .dup, 1, 0, 0), (26, .invokespecial 12, 3, 2, 0), (29, .aastore, 1, 0, 0), (30, .dup, 1, 0, 0), (31, .iconst 2, 1, 0, 0), (32, .new 13, 3, 5, 0), (35, .dup, 1, 0, 0), (36, .invokespecial 15, 3, 3, 0), (39, .aastore, 1, 0, 0), (40, .dup, 1, 0, 0), (41, .iconst 3, 1, 0, 0), (42, .new 16, 3, 4, 0), (45, .dup, 1, 0, 0), (46, .invokespecial 18, 3, 4, 0), (49, .aastore, 1, 0, 0), (50, .dup, 1, 0, 0), (51, .iconst 4, 1, 0, 0), (52, .new 19, 3, 0, 0), (55, .dup, 1, 0, 0), (56, .invokespecial 21, 3, 5, 0), (59, .aastore, 1, 0, 0), (60, .dup, 1, 0, 0), (61, .iconst 5, 1, 0, 0), (62, .new 22, 3, 2, 0), (65, .dup, 1, 0, 0), (66, .invokespecial 24, 3, 6, 0), (69, .aastore, 1, 0, 0), (70, .putfield 25, 3, 11, 0), (73, .aload_n 0, 1, 0, 0), (74, .bipush 15, 2, 0, 0), (76, .anewarray 31, 3, 24, 0), (79, .putfield 33, 3, 11, 1), (82, .aload_n 0, 1, 0, 0), (83, .new 37, 3, 9, 0), (86, .dup, 1, 0, 0), (87, .invokespecial 39, 3, 7, 0), (90, .putfield 40, 3, 11, 2), (93, .aload_n 0, 1, 0, 0), (94, .new 44, 3, 6, 0), (97, .dup, 1, 0, 0), (98, .aload_n 0, 1, 0, 0), (99, .getfield 25, 3, 11, 0), (102, .aload_n 0, 1, 0, 0), (103, .getfield 33, 3, 11, 1), (106, .invokespecial 46, 3, 8, 2), (109, .putfield 49, 3, 11, 3), (112, .aload_n 0, 1, 0, 0), (113, .new 44, 3, 6, 0), (116, .dup, 1, 0, 0), (117, .aload_n 0, 1, 0, 0), (118, .getfield 25, 3, 11, 0), (121, .aload_n 0, 1, 0, 0), (122, .getfield 33, 3, 11, 1), (125, .invokespecial 46, 3, 8, 2), (128, .putfield 53, 3, 11, 4), (131, .aload_n 0, 1, 0, 0), (132, .new 44, 3, 6, 0), (135, .dup, 1, 0, 0), (136, .aload_n 0, 1, 0, 0), (137, .getfield 25, 3, 11, 0), (140, .aload_n 0, 1, 0, 0), (141, .getfield 33, 3, 11, 1), (144, .invokespecial 46, 3, 8, 2), (147, .putfield 56, 3, 11, 5), (150, .aload_n 0, 1, 0, 0), (151, .iconst 0, 1, 0, 0), (152, .putfield 59, 3, 11, 6), (155, .aload_n 0, 1, 0, 0), (156, .iconst 4, 1, 0, 0), (157, .anewarray 63, 3, 25, 0), (160, .putfield 65, 3, 11, 7), (163, .aload_n 0, 1, 0, 0), (164, .iconst 5, 1, 0, 0), (165, .anewarray 69, 3, 26, 0), (168, .putfield 71, 3, 11, 8), (171, .aload_n 0, 1, 0, 0), (172, .bipush 60, 2, 0, 0), (174, .newarray .int, 2, 20, 0), (176, .putfield 75, 3, 11, 9), (179, .aload_n 0, 1, 0, 0), (180, .iconst 0, 1, 0, 0), (181, .putfield 79, 3, 11, 10), (184, .iconst 0, 1, 0, 0), (185, .istore_n 1, 1, 0, 0), (186, .iload_n 1, 1, 0, 0), (187, .aload_n 0, 1, 0, 0), (188, .getfield 33, 3, 11, 1), (191, .arraylength, 1, 0, 0), (192, .if_icmp .ge 22, 3, 214, 0), (195, .aload_n 0, 1, 0, 0), (196, .getfield 33, 3, 11, 1), (199, .iload_n 1, 1, 0, 0), (200, .new 31, 3, 10, 0), (203, .dup, 1, 0, 0), (204, .invokespecial 83, 3, 9, 0), (207, .aastore, 1, 0, 0), (208, .iinc 1 1, 3, 0, 0), (211, .goto (-25), 3, 186, 0), (214, .iconst 0, 1, 0, 0), (215, .istore_n 1, 1, 0, 0), (216, .iload_n 1, 1, 0, 0), (217, .aload_n 0, 1, 0, 0), (218, .getfield 65, 3, 11, 7), (221, .arraylength, 1, 0, 0), (222, .if_icmp .ge 22, 3, 244, 0), (225, .aload_n 0, 1, 0, 0), (226, .getfield 65, 3, 11, 7), (229, .iload_n 1, 1, 0, 0), (230, .new 63, 3, 7, 0), (233, .dup, 1, 0, 0), (234, .invokespecial 84, 3, 10, 0), (237, .aastore, 1, 0, 0), (238, .iinc 1 1, 3, 0, 0), (241, .goto (-25), 3, 216, 0), (244, .iconst 0, 1, 0, 0), (245, .istore_n 1, 1, 0, 0), (246, .iload_n 1, 1, 0, 0), (247, .aload_n 0, 1, 0, 0), (248, .getfield 71, 3, 11, 8), (251, .arraylength, 1, 0, 0), (252, .if_icmp .ge 22, 3, 274, 0), (255, .aload_n 0, 1, 0, 0), (256, .getfield 71, 3, 11, 8), (259, .iload_n 1, 1, 0, 0), (260, .new 69, 3, 8, 0), (263, .dup, 1, 0, 0), (264, .invokespecial 85, 3, 11, 0), (267, .aastore, 1, 0, 0), (268, .iinc 1 1, 3, 0, 0), (271, .goto (-25), 3, 246, 0), (274, .return_, 1, 0, 0)]
/-- GhostTrain$CarKind.<init>()V -/
def mj_p1 : List (Nat × mj_I) := [(0, .aload_n 0, 1, 0, 0), (1, .invokespecial 1, 3, 3000, 0), (4, .return_, 1, 0, 0)]
/-- GhostTrain$HeavyKind.<init>()V -/
def mj_p2 : List (Nat × mj_I) := [(0, .aload_n 0, 1, 0, 0), (1, .invokespecial 3, 3, 1, 0), (4, .return_, 1, 0, 0)]
/-- GhostTrain$LightKind.<init>()V -/
def mj_p3 : List (Nat × mj_I) := [(0, .aload_n 0, 1, 0, 0), (1, .invokespecial 1, 3, 1, 0), (4, .return_, 1, 0, 0)]
/-- GhostTrain$IronKind.<init>()V -/
def mj_p4 : List (Nat × mj_I) := [(0, .aload_n 0, 1, 0, 0), (1, .invokespecial 1, 3, 2, 0), (4, .return_, 1, 0, 0)]
/-- GhostTrain$BridalKind.<init>()V -/
def mj_p5 : List (Nat × mj_I) := [(0, .aload_n 0, 1, 0, 0), (1, .invokespecial 1, 3, 3, 0), (4, .return_, 1, 0, 0)]
/-- GhostTrain$GhostKind.<init>()V -/
def mj_p6 : List (Nat × mj_I) := [(0, .aload_n 0, 1, 0, 0), (1, .invokespecial 1, 3, 1, 0), (4, .return_, 1, 0, 0)]
/-- GhostTrain$Tape.<init>()V -/
def mj_p7 : List (Nat × mj_I) := [(0, .aload_n 0, 1, 0, 0), (1, .invokespecial 3, 3, 3000, 0), (4, .aload_n 0, 1, 0, 0), (5, .bipush 96, 2, 0, 0), (7, .newarray .int, 2, 20, 0), (9, .putfield 9, 3, 9, 0), (12, .aload_n 0, 1, 0, 0), (13, .iconst 0, 1, 0, 0), (14, .putfield 15, 3, 9, 1), (17, .aload_n 0, 1, 0, 0), (18, .iconst 0, 1, 0, 0), (19, .putfield 19, 3, 9, 2), (22, .aload_n 0, 1, 0, 0), (23, .iconst 0, 1, 0, 0), (24, .putfield 22, 3, 9, 3), (27, .aload_n 0, 1, 0, 0), (28, .iconst 0, 1, 0, 0), (29, .putfield 25, 3, 9, 4), (32, .return_, 1, 0, 0)]
/-- GhostTrain$Ring.<init>([LGhostTrain$CarKind;[LGhostTrain$Text;)V -/
def mj_p8 : List (Nat × mj_I) := [(0, .aload_n 0, 1, 0, 0), (1, .invokespecial 3, 3, 3000, 0), (4, .aload_n 0, 1, 0, 0), (5, .iconst 4, 1, 0, 0), (6, .bipush 12, 2, 0, 0), (8, .multianewarray 9 2, 4, 27, 20), (12, .putfield 11, 3, 6, 2), (15, .aload_n 0, 1, 0, 0), (16, .bipush 7, 2, 0, 0), (18, .bipush 8, 2, 0, 0), (20, .multianewarray 9 2, 4, 27, 20), (24, .putfield 16, 3, 6, 3), (27, .aload_n 0, 1, 0, 0), (28, .iconst 3, 1, 0, 0), (29, .newarray .int, 2, 20, 0), (31, .dup, 1, 0, 0), (32, .iconst 0, 1, 0, 0), (33, .iconst (-1), 1, 0, 0), (34, .iastore, 1, 0, 0), (35, .dup, 1, 0, 0), (36, .iconst 1, 1, 0, 0), (37, .iconst (-1), 1, 0, 0), (38, .iastore, 1, 0, 0), (39, .dup, 1, 0, 0), (40, .iconst 2, 1, 0, 0), (41, .iconst (-1), 1, 0, 0), (42, .iastore, 1, 0, 0), (43, .putfield 19, 3, 6, 4), (46, .aload_n 0, 1, 0, 0), (47, .iconst 0, 1, 0, 0), (48, .putfield 23, 3, 6, 5), (51, .aload_n 0, 1, 0, 0), (52, .bipush 10, 2, 0, 0), (54, .putfield 27, 3, 6, 6), (57, .aload_n 0, 1, 0, 0), (58, .iconst 0, 1, 0, 0), (59, .putfield 30, 3, 6, 7), (62, .aload_n 0, 1, 0, 0), (63, .iconst 1, 1, 0, 0), (64, .putfield 33, 3, 6, 8), (67, .aload_n 0, 1, 0, 0), (68, .iconst 0, 1, 0, 0), (69, .putfield 36, 3, 6, 9), (72, .aload_n 0, 1, 0, 0), (73, .aload_n 1, 1, 0, 0), (74, .putfield 39, 3, 6, 0), (77, .aload_n 0, 1, 0, 0), (78, .aload_n 2, 1, 0, 0), (79, .putfield 43, 3, 6, 1), (82, .return_, 1, 0, 0)]
/-- GhostTrain$Text.<init>()V -/
def mj_p9 : List (Nat × mj_I) := [(0, .aload_n 0, 1, 0, 0), (1, .invokespecial 3, 3, 3000, 0), (4, .aload_n 0, 1, 0, 0), (5, .bipush 96, 2, 0, 0), (7, .newarray .int, 2, 20, 0), (9, .putfield 9, 3, 10, 0), (12, .aload_n 0, 1, 0, 0), (13, .bipush 96, 2, 0, 0), (15, .newarray .int, 2, 20, 0), (17, .putfield 15, 3, 10, 1), (20, .aload_n 0, 1, 0, 0), (21, .iconst 0, 1, 0, 0), (22, .putfield 18, 3, 10, 2), (25, .aload_n 0, 1, 0, 0), (26, .iconst 0, 1, 0, 0), (27, .putfield 22, 3, 10, 3), (30, .aload_n 0, 1, 0, 0), (31, .iconst 0, 1, 0, 0), (32, .putfield 25, 3, 10, 4), (35, .return_, 1, 0, 0)]
/-- GhostTrain$Sheet.<init>()V -/
def mj_p10 : List (Nat × mj_I) := [(0, .aload_n 0, 1, 0, 0), (1, .invokespecial 3, 3, 3000, 0), (4, .aload_n 0, 1, 0, 0), (5, .bipush 24, 2, 0, 0), (7, .newarray .int, 2, 20, 0), (9, .putfield 9, 3, 7, 0), (12, .aload_n 0, 1, 0, 0), (13, .iconst (-1), 1, 0, 0), (14, .putfield 15, 3, 7, 1), (17, .aload_n 0, 1, 0, 0), (18, .iconst 0, 1, 0, 0), (19, .putfield 19, 3, 7, 2), (22, .return_, 1, 0, 0)]
/-- GhostTrain$Slot.<init>()V -/
def mj_p11 : List (Nat × mj_I) := [(0, .aload_n 0, 1, 0, 0), (1, .invokespecial 3, 3, 3000, 0), (4, .aload_n 0, 1, 0, 0), (5, .iconst 0, 1, 0, 0), (6, .putfield 9, 3, 8, 0), (9, .aload_n 0, 1, 0, 0), (10, .aconst_null, 1, 0, 0), (11, .putfield 15, 3, 8, 1), (14, .aload_n 0, 1, 0, 0), (15, .iconst 0, 1, 0, 0), (16, .putfield 19, 3, 8, 2), (19, .aload_n 0, 1, 0, 0), (20, .new 22, 3, 7, 0), (23, .dup, 1, 0, 0), (24, .invokespecial 24, 3, 10, 0), (27, .putfield 25, 3, 8, 3), (30, .aload_n 0, 1, 0, 0), (31, .iconst 0, 1, 0, 0), (32, .putfield 29, 3, 8, 4), (35, .return_, 1, 0, 0)]
/-- GhostTrain.car(III)I -/
def mj_p12 : List (Nat × mj_I) := [(0, .iload_n 1, 1, 0, 0), (1, .invokestatic 86, 3, 13, 1), (4, .ifCond .eq 17, 3, 21, 0), (7, .iload_n 2, 1, 0, 0), (8, .invokestatic 90, 3, 14, 1), (11, .ifCond .eq 10, 3, 21, 0), (14, .iload_n 3, 1, 0, 0), (15, .invokestatic 93, 3, 15, 1), (18, .ifCond .ne 6, 3, 24, 0), (21, .ldc 96, 2, 3294967295, 0), (23, .ireturn, 1, 0, 0), (24, .aload_n 0, 1, 0, 0), (25, .getfield 49, 3, 11, 3), (28, .getfield 97, 3, 6, 5), (31, .bipush 8, 2, 0, 0), (33, .if_icmp .lt 8, 3, 41, 0), (36, .ldc 100, 2, 3294967293, 0), (38, .goto 13, 3, 51, 0), (41, .aload_n 0, 1, 0, 0), (42, .getfield 49, 3, 11, 3), (45, .iload_n 1, 1, 0, 0), (46, .iload_n 2, 1, 0, 0), (47, .iload_n 3, 1, 0, 0), (48, .invokevirtual 101, 3, 17, 3), (51, .ireturn, 1, 0, 0)]
/-- GhostTrain.isKind(I)Z -/
def mj_p13 : List (Nat × mj_I) := [(0, .iload_n 0, 1, 0, 0), (1, .ifCond .lt 13, 3, 14, 0), (4, .iload_n 0, 1, 0, 0), (5, .bipush 6, 2, 0, 0), (7, .if_icmp .ge 7, 3, 14, 0), (10, .iconst 1, 1, 0, 0), (11, .goto 4, 3, 15, 0), (14, .iconst 0, 1, 0, 0), (15, .ireturn, 1, 0, 0)]
/-- GhostTrain.isFoot(I)Z -/
def mj_p14 : List (Nat × mj_I) := [(0, .iload_n 0, 1, 0, 0), (1, .ifCond .lt 14, 3, 15, 0), (4, .iload_n 0, 1, 0, 0), (5, .sipush 240, 3, 0, 0), (8, .if_icmp .ge 7, 3, 15, 0), (11, .iconst 1, 1, 0, 0), (12, .goto 4, 3, 16, 0), (15, .iconst 0, 1, 0, 0), (16, .ireturn, 1, 0, 0)]
/-- GhostTrain.isWeight(I)Z -/
def mj_p15 : List (Nat × mj_I) := [(0, .iload_n 0, 1, 0, 0), (1, .iconst 1, 1, 0, 0), (2, .bipush 99, 2, 0, 0), (4, .invokestatic 141, 3, 16, 3), (7, .ireturn, 1, 0, 0)]
/-- GhostTrain.isWithin(III)Z -/
def mj_p16 : List (Nat × mj_I) := [(0, .iload_n 0, 1, 0, 0), (1, .iload_n 1, 1, 0, 0), (2, .if_icmp .lt 12, 3, 14, 0), (5, .iload_n 0, 1, 0, 0), (6, .iload_n 2, 1, 0, 0), (7, .if_icmp .gt 7, 3, 14, 0), (10, .iconst 1, 1, 0, 0), (11, .goto 4, 3, 15, 0), (14, .iconst 0, 1, 0, 0), (15, .ireturn, 1, 0, 0)]
/-- GhostTrain$Ring.addCar(III)I -/
def mj_p17 : List (Nat × mj_I) := [(0, .aload_n 0, 1, 0, 0), (1, .getfield 23, 3, 6, 5), (4, .istore 4, 2, 0, 0), (6, .iconst 0, 1, 0, 0), (7, .istore 5, 2, 0, 0), (9, .iload 5, 2, 0, 0), (11, .bipush 7, 2, 0, 0), (13, .if_icmp .ge 20, 3, 33, 0), (16, .aload_n 0, 1, 0, 0), (17, .getfield 16, 3, 6, 3), (20, .iload 5, 2, 0, 0), (22, .aaload, 1, 0, 0), (23, .iload 4, 2, 0, 0), (25, .iconst 0, 1, 0, 0), (26, .iastore, 1, 0, 0), (27, .iinc 5 1, 3, 0, 0), (30, .goto (-21), 3, 9, 0), (33, .aload_n 0, 1, 0, 0), (34, .getfield 16, 3, 6, 3), (37, .iconst 0, 1, 0, 0), (38, .aaload, 1, 0, 0), (39, .iload 4, 2, 0, 0), (41, .iload_n 1, 1, 0, 0), (42, .iastore, 1, 0, 0), (43, .aload_n 0, 1, 0, 0), (44, .getfield 16, 3, 6, 3), (47, .iconst 1, 1, 0, 0), (48, .aaload, 1, 0, 0), (49, .iload 4, 2, 0, 0), (51, .iload_n 2, 1, 0, 0), (52, .iastore, 1, 0, 0), (53, .aload_n 0, 1, 0, 0), (54, .getfield 16, 3, 6, 3), (57, .iconst 2, 1, 0, 0), (58, .aaload, 1, 0, 0), (59, .iload 4, 2, 0, 0), (61, .iload_n 3, 1, 0, 0), (62, .iastore, 1, 0, 0), (63, .aload_n 0, 1, 0, 0), (64, .dup, 1, 0, 0), (65, .getfield 23, 3, 6, 5), (68, .iconst 1, 1, 0, 0), (69, .iadd, 1, 0, 0), (70, .putfield 23, 3, 6, 5), (73, .iload 4, 2, 0, 0), (75, .ireturn, 1, 0, 0)]
/-- GhostTrain.told(II)I -/
def mj_p18 : List (Nat × mj_I) := [(0, .aload_n 0, 1, 0, 0), (1, .iload_n 1, 1, 0, 0), (2, .invokevirtual 105, 3, 19, 1), (5, .ifCond .ne 6, 3, 11, 0), (8, .ldc 96, 2, 3294967295, 0), (10, .ireturn, 1, 0, 0), (11, .iload_n 2, 1, 0, 0), (12, .ifCond .lt 21, 3, 33, 0), (15, .iload_n 2, 1, 0, 0), (16, .bipush 7, 2, 0, 0), (18, .if_icmp .ge 15, 3, 33, 0), (21, .aload_n 0, 1, 0, 0), (22, .getfield 49, 3, 11, 3), (25, .getfield 108, 3, 6, 3), (28, .iload_n 2, 1, 0, 0), (29, .aaload, 1, 0, 0), (30, .iload_n 1, 1, 0, 0), (31, .iaload, 1, 0, 0), (32, .ireturn, 1, 0, 0), (33, .iload_n 2, 1, 0, 0), (34, .tableswitch 91 7 10 #[30, 47, 56, 68], 30, 0, 0), (64, .aload_n 0, 1, 0, 0), (65, .getfield 49, 3, 11, 3), (68, .iload_n 1, 1, 0, 0), (69, .aload_n 0, 1, 0, 0), (70, .getfield 49, 3, 11, 3), (73, .iload_n 1, 1, 0, 0), (74, .invokevirtual 112, 3, 20, 1), (77, .invokevirtual 116, 3, 21, 2), (80, .ireturn, 1, 0, 0), (81, .aload_n 0, 1, 0, 0), (82, .getfield 49, 3, 11, 3), (85, .iload_n 1, 1, 0, 0), (86, .invokevirtual 120, 3, 32, 1), (89, .ireturn, 1, 0, 0), (90, .aload_n 0, 1, 0, 0), (91, .getfield 49, 3, 11, 3), (94, .iload_n 1, 1, 0, 0), (95, .invokevirtual 123, 3, 24, 1), (98, .invokevirtual 127, 3, 1002, 0), (101, .ireturn, 1, 0, 0), (102, .aload_n 0, 1, 0, 0), (103, .getfield 49, 3, 11, 3), (106, .iload_n 1, 1, 0, 0), (107, .invokevirtual 123, 3, 24, 1), (110, .aload_n 0, 1, 0, 0), (111, .getfield 49, 3, 11, 3), (114, .getfield 108, 3, 6, 3), (117, .iconst 2, 1, 0, 0), (118, .aaload, 1, 0, 0), (119, .iload_n 1, 1, 0, 0), (120, .iaload, 1, 0, 0), (121, .invokevirtual 131, 3, 1003, 1), (124, .ireturn, 1, 0, 0), (125, .ldc 96, 2, 3294967295, 0), (127, .ireturn, 1, 0, 0)]
/-- GhostTrain.isCar(I)Z -/
def mj_p19 : List (Nat × mj_I) := [(0, .iload_n 1, 1, 0, 0), (1, .ifCond .lt 18, 3, 19, 0), (4, .iload_n 1, 1, 0, 0), (5, .aload_n 0, 1, 0, 0), (6, .getfield 49, 3, 11, 3), (9, .getfield 97, 3, 6, 5), (12, .if_icmp .ge 7, 3, 19, 0), (15, .iconst 1, 1, 0, 0), (16, .goto 4, 3, 20, 0), (19, .iconst 0, 1, 0, 0), (20, .ireturn, 1, 0, 0)]
/-- GhostTrain$Ring.partOf(I)I -/
def mj_p20 : List (Nat × mj_I) := [(0, .aload_n 0, 1, 0, 0), (1, .getfield 16, 3, 6, 3), (4, .iconst 1, 1, 0, 0), (5, .aaload, 1, 0, 0), (6, .iload_n 1, 1, 0, 0), (7, .iaload, 1, 0, 0), (8, .bipush 20, 2, 0, 0), (10, .idiv, 1, 0, 0), (11, .ireturn, 1, 0, 0)]
/-- GhostTrain$Ring.paceIn(II)I -/
def mj_p21 : List (Nat × mj_I) := [(0, .aload_n 0, 1, 0, 0), (1, .getfield 16, 3, 6, 3), (4, .iconst 2, 1, 0, 0), (5, .aaload, 1, 0, 0), (6, .iload_n 1, 1, 0, 0), (7, .iaload, 1, 0, 0), (8, .istore_n 3, 1, 0, 0), (9, .aload_n 0, 1, 0, 0), (10, .getfield 11, 3, 6, 2), (13, .iconst 0, 1, 0, 0), (14, .aaload, 1, 0, 0), (15, .iload_n 2, 1, 0, 0), (16, .iaload, 1, 0, 0), (17, .istore 4, 2, 0, 0), (19, .aload_n 0, 1, 0, 0), (20, .getfield 11, 3, 6, 2), (23, .iconst 1, 1, 0, 0), (24, .aaload, 1, 0, 0), (25, .iload_n 2, 1, 0, 0), (26, .iaload, 1, 0, 0), (27, .istore 5, 2, 0, 0), (29, .aload_n 0, 1, 0, 0), (30, .getfield 19, 3, 6, 4), (33, .iconst 0, 1, 0, 0), (34, .iaload, 1, 0, 0), (35, .istore 6, 2, 0, 0), (37, .iload 6, 2, 0, 0), (39, .ifCond .ge 19, 3, 58, 0), (42, .bipush 6, 2, 0, 0), (44, .iload_n 3, 1, 0, 0), (45, .bipush 20, 2, 0, 0), (47, .idiv, 1, 0, 0), (48, .iadd, 1, 0, 0), (49, .iload 4, 2, 0, 0), (51, .isub, 1, 0, 0), (52, .iload 5, 2, 0, 0), (54, .isub, 1, 0, 0), (55, .goto 18, 3, 73, 0), (58, .aload_n 0, 1, 0, 0), (59, .getfield 43, 3, 6, 1), (62, .iload 6, 2, 0, 0), (64, .aaload, 1, 0, 0), (65, .iload_n 3, 1, 0, 0), (66, .iload 4, 2, 0, 0), (68, .iload 5, 2, 0, 0), (70, .invokevirtual 91, 3, 22, 3), (73, .istore 7, 2, 0, 0), (75, .aload_n 0, 1, 0, 0), (76, .iload_n 1, 1, 0, 0), (77, .invokevirtual 81, 3, 24, 1), (80, .iload 7, 2, 0, 0), (82, .iconst 1, 1, 0, 0), (83, .bipush 20, 2, 0, 0), (85, .invokestatic 97, 3, 25, 3), (88, .iload 4, 2, 0, 0), (90, .iload 5, 2, 0, 0), (92, .invokevirtual 100, 3, 1001, 3), (95, .ireturn, 1, 0, 0)]
/-- GhostTrain$Text.gives(III)I -/
def mj_p22 : List (Nat × mj_I) := [(0, .iconst 0, 1, 0, 0), (1, .istore 4, 2, 0, 0), (3, .iconst 0, 1, 0, 0), (4, .istore 5, 2, 0, 0), (6, .iload 5, 2, 0, 0), (8, .aload_n 0, 1, 0, 0), (9, .getfield 18, 3, 10, 2), (12, .if_icmp .ge 178, 3, 190, 0), (15, .aload_n 0, 1, 0, 0), (16, .getfield 9, 3, 10, 0), (19, .iload 5, 2, 0, 0), (21, .iaload, 1, 0, 0), (22, .istore 6, 2, 0, 0), (24, .iload 6, 2, 0, 0), (26, .sipush 10000, 3, 0, 0), (29, .if_icmp .lt 60, 3, 89, 0), (32, .iload 6, 2, 0, 0), (34, .sipush 10000, 3, 0, 0), (37, .isub, 1, 0, 0), (38, .bipush 33, 2, 0, 0), (40, .if_icmp .eq 49, 3, 89, 0), (43, .iload 4, 2, 0, 0), (45, .iconst 2, 1, 0, 0), (46, .if_icmp .lt 138, 3, 184, 0), (49, .iinc 4 (-1), 3, 0, 0), (52, .aload_n 0, 1, 0, 0), (53, .getfield 15, 3, 10, 1), (56, .iload 4, 2, 0, 0), (58, .iconst 1, 1, 0, 0), (59, .isub, 1, 0, 0), (60, .iload 6, 2, 0, 0), (62, .sipush 10000, 3, 0, 0), (65, .isub, 1, 0, 0), (66, .aload_n 0, 1, 0, 0), (67, .getfield 15, 3, 10, 1), (70, .iload 4, 2, 0, 0), (72, .iconst 1, 1, 0, 0), (73, .isub, 1, 0, 0), (74, .iaload, 1, 0, 0), (75, .aload_n 0, 1, 0, 0), (76, .getfield 15, 3, 10, 1), (79, .iload 4, 2, 0, 0), (81, .iaload, 1, 0, 0), (82, .invokestatic 32, 3, 23, 3), (85, .iastore, 1, 0, 0), (86, .goto 98, 3, 184, 0), (89, .iload 6, 2, 0, 0), (91, .sipush 10000, 3, 0, 0), (94, .if_icmp .lt 38, 3, 132, 0), (97, .iload 4, 2, 0, 0), (99, .iconst 1, 1, 0, 0), (100, .if_icmp .lt 84, 3, 184, 0), (103, .aload_n 0, 1, 0, 0), (104, .getfield 15, 3, 10, 1), (107, .iload 4, 2, 0, 0), (109, .iconst 1, 1, 0, 0), (110, .isub, 1, 0, 0), (111, .aload_n 0, 1, 0, 0), (112, .getfield 15, 3, 10, 1), (115, .iload 4, 2, 0, 0), (117, .iconst 1, 1, 0, 0), (118, .isub, 1, 0, 0), (119, .iaload, 1, 0, 0), (120, .ifCond .ne 7, 3, 127, 0), (123, .iconst 1, 1, 0, 0), (124, .goto 4, 3, 128, 0), (127, .iconst 0, 1, 0, 0), (128, .iastore, 1, 0, 0), (129, .goto 55, 3, 184, 0), (132, .iload 4, 2, 0, 0), (134, .aload_n 0, 1, 0, 0), (135, .getfield 15, 3, 10, 1), (138, .arraylength, 1, 0, 0), (139, .if_icmp .ge 45, 3, 184, 0), (142, .aload_n 0, 1, 0, 0), (143, .getfield 15, 3, 10, 1), (146, .iload 4, 2, 0, 0), (148, .iload 6, 2, 0, 0), (150, .ifCond .lt 8, 3, 158, 0), (153, .iload 6, 2, 0, 0), (155, .goto 25, 3, 180, 0), (158, .iload 6, 2, 0, 0), (160, .iconst (-1), 1, 0, 0), (161, .if_icmp .ne 7, 3, 168, 0), (164, .iload_n 1, 1, 0, 0), (165, .goto 15, 3, 180, 0), (168, .iload 6, 2, 0, 0), (170, .bipush (-2), 2, 0, 0), (172, .if_icmp .ne 7, 3, 179, 0), (175, .iload_n 2, 1, 0, 0), (176, .goto 4, 3, 180, 0), (179, .iload_n 3, 1, 0, 0), (180, .iastore, 1, 0, 0), (181, .iinc 4 1, 3, 0, 0), (184, .iinc 5 1, 3, 0, 0), (187, .goto (-181), 3, 6, 0), (190, .aload_n 0, 1, 0, 0), (191, .getfield 15, 3, 10, 1), (194, .iconst 0, 1, 0, 0), (195, .iaload, 1, 0, 0), (196, .ireturn, 1, 0, 0)]
/-- GhostTrain$Text.joined(III)I -/
def mj_p23 : List (Nat × mj_I) := [(0, .iload_n 0, 1, 0, 0), (1, .lookupswitch 148 #[(38, 89), (42, 144), (43, 136), (45, 140), (60, 103), (61, 114), (62, 125), (124, 75)], 75, 0, 0), (76, .iload_n 1, 1, 0, 0), (77, .ifCond .ne 7, 3, 84, 0), (80, .iload_n 2, 1, 0, 0), (81, .ifCond .eq 7, 3, 88, 0), (84, .iconst 1, 1, 0, 0), (85, .goto 4, 3, 89, 0), (88, .iconst 0, 1, 0, 0), (89, .ireturn, 1, 0, 0), (90, .iload_n 1, 1, 0, 0), (91, .ifCond .eq 11, 3, 102, 0), (94, .iload_n 2, 1, 0, 0), (95, .ifCond .eq 7, 3, 102, 0), (98, .iconst 1, 1, 0, 0), (99, .goto 4, 3, 103, 0), (102, .iconst 0, 1, 0, 0), (103, .ireturn, 1, 0, 0), (104, .iload_n 1, 1, 0, 0), (105, .iload_n 2, 1, 0, 0), (106, .if_icmp .ge 7, 3, 113, 0), (109, .iconst 1, 1, 0, 0), (110, .goto 4, 3, 114, 0), (113, .iconst 0, 1, 0, 0), (114, .ireturn, 1, 0, 0), (115, .iload_n 1, 1, 0, 0), (116, .iload_n 2, 1, 0, 0), (117, .if_icmp .ne 7, 3, 124, 0), (120, .iconst 1, 1, 0, 0), (121, .goto 4, 3, 125, 0), (124, .iconst 0, 1, 0, 0), (125, .ireturn, 1, 0, 0), (126, .iload_n 1, 1, 0, 0), (127, .iload_n 2, 1, 0, 0), (128, .if_icmp .le 7, 3, 135, 0), (131, .iconst 1, 1, 0, 0), (132, .goto 4, 3, 136, 0), (135, .iconst 0, 1, 0, 0), (136, .ireturn, 1, 0, 0), (137, .iload_n 1, 1, 0, 0), (138, .iload_n 2, 1, 0, 0), (139, .iadd, 1, 0, 0), (140, .ireturn, 1, 0, 0), (141, .iload_n 1, 1, 0, 0), (142, .iload_n 2, 1, 0, 0), (143, .isub, 1, 0, 0), (144, .ireturn, 1, 0, 0), (145, .iload_n 1, 1, 0, 0), (146, .iload_n 2, 1, 0, 0), (147, .imul, 1, 0, 0), (148, .ireturn, 1, 0, 0), (149, .iload_n 2, 1, 0, 0), (150, .ifCond .ne 7, 3, 157, 0), (153, .iconst 0, 1, 0, 0), (154, .goto 6, 3, 160, 0), (157, .iload_n 1, 1, 0, 0), (158, .iload_n 2, 1, 0, 0), (159, .idiv, 1, 0, 0), (160, .ireturn, 1, 0, 0)]
/-- GhostTrain$Ring.kindOf(I)LGhostTrain$CarKind; -/
def mj_p24 : List (Nat × mj_I) := [(0, .aload_n 0, 1, 0, 0), (1, .getfield 39, 3, 6, 0), (4, .aload_n 0, 1, 0, 0), (5, .getfield 16, 3, 6, 3), (8, .iconst 0, 1, 0, 0), (9, .aaload, 1, 0, 0), (10, .iload_n 1, 1, 0, 0), (11, .iaload, 1, 0, 0), (12, .aaload, 1, 0, 0), (13, .areturn, 1, 0, 0)]
/-- GhostTrain.held(III)I -/
def mj_p25 : List (Nat × mj_I) := [(0, .iload_n 1, 1, 0, 0), (1, .iload_n 2, 1, 0, 0), (2, .iload_n 0, 1, 0, 0), (3, .invokestatic 151, 3, 3006, 2), (6, .invokestatic 298, 3, 3005, 2), (9, .ireturn, 1, 0, 0)]
/-- GhostTrain$BridalKind.gains(III)I -/
def mj_p26 : List (Nat × mj_I) := [(0, .iload_n 3, 1, 0, 0), (1, .iconst 5, 1, 0, 0), (2, .if_icmp .lt 7, 3, 9, 0), (5, .iconst 1, 1, 0, 0), (6, .goto 10, 3, 16, 0), (9, .aload_n 0, 1, 0, 0), (10, .iload_n 1, 1, 0, 0), (11, .iload_n 2, 1, 0, 0), (12, .iload_n 3, 1, 0, 0), (13, .invokespecial 11, 3, 27, 3), (16, .ireturn, 1, 0, 0)]
/-- GhostTrain$LightKind.gains(III)I -/
def mj_p27 : List (Nat × mj_I) := [(0, .iconst 1, 1, 0, 0), (1, .iload_n 1, 1, 0, 0), (2, .iconst 2, 1, 0, 0), (3, .idiv, 1, 0, 0), (4, .invokestatic 11, 3, 3005, 2), (7, .ireturn, 1, 0, 0)]
/-- GhostTrain$GhostKind.gains(III)I -/
def mj_p28 : List (Nat × mj_I) := [(0, .bipush 7, 2, 0, 0), (2, .ireturn, 1, 0, 0)]
/-- GhostTrain$HeavyKind.gains(III)I -/
def mj_p29 : List (Nat × mj_I) := [(0, .iload_n 2, 1, 0, 0), (1, .ifCond .ge 14, 3, 15, 0), (4, .bipush 20, 2, 0, 0), (6, .iload_n 1, 1, 0, 0), (7, .iconst 2, 1, 0, 0), (8, .iadd, 1, 0, 0), (9, .invokestatic 13, 3, 3006, 2), (12, .goto 4, 3, 16, 0), (15, .iload_n 1, 1, 0, 0), (16, .ireturn, 1, 0, 0)]
/-- GhostTrain$IronKind.gains(III)I -/
def mj_p30 : List (Nat × mj_I) := [(0, .aload_n 0, 1, 0, 0), (1, .iload_n 1, 1, 0, 0), (2, .iload_n 2, 1, 0, 0), (3, .iload_n 3, 1, 0, 0), (4, .invokespecial 11, 3, 29, 3), (7, .istore 4, 2, 0, 0), (9, .iload_n 2, 1, 0, 0), (10, .ifCond .le 14, 3, 24, 0), (13, .iconst 1, 1, 0, 0), (14, .iload 4, 2, 0, 0), (16, .iconst 1, 1, 0, 0), (17, .isub, 1, 0, 0), (18, .invokestatic 15, 3, 3005, 2), (21, .goto 5, 3, 26, 0), (24, .iload 4, 2, 0, 0), (26, .ireturn, 1, 0, 0)]
/-- GhostTrain$CarKind.gains(III)I -/
def mj_p31 : List (Nat × mj_I) := [(0, .iload_n 1, 1, 0, 0), (1, .ireturn, 1, 0, 0)]
/-- GhostTrain$Ring.roomOf(I)I -/
def mj_p32 : List (Nat × mj_I) := [(0, .aload_n 0, 1, 0, 0), (1, .getfield 23, 3, 6, 5), (4, .iconst 2, 1, 0, 0), (5, .if_icmp .ge 7, 3, 12, 0), (8, .sipush 240, 3, 0, 0), (11, .ireturn, 1, 0, 0), (12, .sipush 240, 3, 0, 0), (15, .istore_n 2, 1, 0, 0), (16, .iconst 0, 1, 0, 0), (17, .istore_n 3, 1, 0, 0), (18, .iload_n 3, 1, 0, 0), (19, .aload_n 0, 1, 0, 0), (20, .getfield 23, 3, 6, 5), (23, .if_icmp .ge 56, 3, 79, 0), (26, .aload_n 0, 1, 0, 0), (27, .getfield 16, 3, 6, 3), (30, .iconst 1, 1, 0, 0), (31, .aaload, 1, 0, 0), (32, .iload_n 3, 1, 0, 0), (33, .iaload, 1, 0, 0), (34, .aload_n 0, 1, 0, 0), (35, .getfield 16, 3, 6, 3), (38, .iconst 1, 1, 0, 0), (39, .aaload, 1, 0, 0), (40, .iload_n 1, 1, 0, 0), (41, .iaload, 1, 0, 0), (42, .isub, 1, 0, 0), (43, .istore 4, 2, 0, 0), (45, .iload 4, 2, 0, 0), (47, .ifCond .lt 13, 3, 60, 0), (50, .iload 4, 2, 0, 0), (52, .ifCond .ne 14, 3, 66, 0), (55, .iload_n 3, 1, 0, 0), (56, .iload_n 1, 1, 0, 0), (57, .if_icmp .gt 9, 3, 66, 0), (60, .iinc 4 240, 6, 0, 0), (66, .iload_n 2, 1, 0, 0), (67, .iload 4, 2, 0, 0), (69, .invokestatic 74, 3, 3006, 2), (72, .istore_n 2, 1, 0, 0), (73, .iinc 3 1, 3, 0, 0), (76, .goto (-58), 3, 18, 0), (79, .iload_n 2, 1, 0, 0), (80, .aload_n 0, 1, 0, 0), (81, .getfield 27, 3, 6, 6), (84, .isub, 1, 0, 0), (85, .ireturn, 1, 0, 0)]
/-- GhostTrain$BridalKind.loudness()I -/
def mj_p33 : List (Nat × mj_I) := [(0, .aload_n 0, 1, 0, 0), (1, .invokespecial 15, 3, 34, 0), (4, .iconst 1, 1, 0, 0), (5, .iadd, 1, 0, 0), (6, .ireturn, 1, 0, 0)]
/-- GhostTrain$LightKind.loudness()I -/
def mj_p34 : List (Nat × mj_I) := [(0, .iconst 3, 1, 0, 0), (1, .ireturn, 1, 0, 0)]
/-- GhostTrain$GhostKind.loudness()I -/
def mj_p35 : List (Nat × mj_I) := [(0, .iconst 0, 1, 0, 0), (1, .ireturn, 1, 0, 0)]
/-- GhostTrain$HeavyKind.loudness()I -/
def mj_p36 : List (Nat × mj_I) := [(0, .iconst 1, 1, 0, 0), (1, .ireturn, 1, 0, 0)]
/-- GhostTrain$CarKind.loudness()I -/
def mj_p37 : List (Nat × mj_I) := [(0, .iconst 2, 1, 0, 0), (1, .ireturn, 1, 0, 0)]
/-- GhostTrain$BridalKind.worthOf(I)I -/
def mj_p38 : List (Nat × mj_I) := [(0, .aload_n 0, 1, 0, 0), (1, .iload_n 1, 1, 0, 0), (2, .invokespecial 19, 3, 39, 1), (5, .iconst 3, 1, 0, 0), (6, .isub, 1, 0, 0), (7, .ireturn, 1, 0, 0)]
/-- GhostTrain$LightKind.worthOf(I)I -/
def mj_p39 : List (Nat × mj_I) := [(0, .bipush 99, 2, 0, 0), (2, .iload_n 1, 1, 0, 0), (3, .isub, 1, 0, 0), (4, .ireturn, 1, 0, 0)]
/-- GhostTrain$GhostKind.worthOf(I)I -/
def mj_p40 : List (Nat × mj_I) := [(0, .iconst 4, 1, 0, 0), (1, .ireturn, 1, 0, 0)]
/-- GhostTrain$HeavyKind.worthOf(I)I -/
def mj_p41 : List (Nat × mj_I) := [(0, .iload_n 1, 1, 0, 0), (1, .bipush 8, 2, 0, 0), (3, .iadd, 1, 0, 0), (4, .ireturn, 1, 0, 0)]
/-- GhostTrain$IronKind.worthOf(I)I -/
def mj_p42 : List (Nat × mj_I) := [(0, .iconst 2, 1, 0, 0), (1, .aload_n 0, 1, 0, 0), (2, .iload_n 1, 1, 0, 0), (3, .invokespecial 21, 3, 41, 1), (6, .imul, 1, 0, 0), (7, .ireturn, 1, 0, 0)]
/-- GhostTrain$CarKind.worthOf(I)I -/
def mj_p43 : List (Nat × mj_I) := [(0, .iload_n 1, 1, 0, 0), (1, .ireturn, 1, 0, 0)]
/-- GhostTrain.pace(II)I -/
def mj_p44 : List (Nat × mj_I) := [(0, .aload_n 0, 1, 0, 0), (1, .iload_n 1, 1, 0, 0), (2, .invokevirtual 105, 3, 19, 1), (5, .ifCond .eq 22, 3, 27, 0), (8, .iload_n 2, 1, 0, 0), (9, .invokestatic 134, 3, 45, 1), (12, .ifCond .eq 15, 3, 27, 0), (15, .aload_n 0, 1, 0, 0), (16, .getfield 49, 3, 11, 3), (19, .iload_n 1, 1, 0, 0), (20, .iload_n 2, 1, 0, 0), (21, .invokevirtual 116, 3, 21, 2), (24, .goto 5, 3, 29, 0), (27, .ldc 96, 2, 3294967295, 0), (29, .ireturn, 1, 0, 0)]
/-- GhostTrain.isPart(I)Z -/
def mj_p45 : List (Nat × mj_I) := [(0, .iload_n 0, 1, 0, 0), (1, .ifCond .lt 13, 3, 14, 0), (4, .iload_n 0, 1, 0, 0), (5, .bipush 12, 2, 0, 0), (7, .if_icmp .ge 7, 3, 14, 0), (10, .iconst 1, 1, 0, 0), (11, .goto 4, 3, 15, 0), (14, .iconst 0, 1, 0, 0), (15, .ireturn, 1, 0, 0)]
/-- GhostTrain.as(II)I -/
def mj_p46 : List (Nat × mj_I) := [(0, .aload_n 0, 1, 0, 0), (1, .iload_n 1, 1, 0, 0), (2, .invokevirtual 105, 3, 19, 1), (5, .ifCond .eq 10, 3, 15, 0), (8, .iload_n 2, 1, 0, 0), (9, .invokestatic 86, 3, 13, 1), (12, .ifCond .ne 6, 3, 18, 0), (15, .ldc 96, 2, 3294967295, 0), (17, .ireturn, 1, 0, 0), (18, .aload_n 0, 1, 0, 0), (19, .getfield 49, 3, 11, 3), (22, .iload_n 1, 1, 0, 0), (23, .invokevirtual 123, 3, 24, 1), (26, .iload_n 2, 1, 0, 0), (27, .invokevirtual 137, 3, 1000, 1), (30, .ifCond .eq 17, 3, 47, 0), (33, .aload_n 0, 1, 0, 0), (34, .getfield 49, 3, 11, 3), (37, .getfield 108, 3, 6, 3), (40, .iconst 2, 1, 0, 0), (41, .aaload, 1, 0, 0), (42, .iload_n 1, 1, 0, 0), (43, .iaload, 1, 0, 0), (44, .goto 5, 3, 49, 0), (47, .ldc 140, 2, 3294967284, 0), (49, .ireturn, 1, 0, 0)]
/-- GhostTrain$BridalKind.isUnder(I)Z -/
def mj_p47 : List (Nat × mj_I) := [(0, .iload_n 1, 1, 0, 0), (1, .iconst 4, 1, 0, 0), (2, .if_icmp .eq 11, 3, 13, 0), (5, .aload_n 0, 1, 0, 0), (6, .iload_n 1, 1, 0, 0), (7, .invokespecial 7, 3, 48, 1), (10, .ifCond .eq 7, 3, 17, 0), (13, .iconst 1, 1, 0, 0), (14, .goto 4, 3, 18, 0), (17, .iconst 0, 1, 0, 0), (18, .ireturn, 1, 0, 0)]
/-- GhostTrain$LightKind.isUnder(I)Z -/
def mj_p48 : List (Nat × mj_I) := [(0, .iload_n 1, 1, 0, 0), (1, .iconst 2, 1, 0, 0), (2, .if_icmp .eq 11, 3, 13, 0), (5, .aload_n 0, 1, 0, 0), (6, .iload_n 1, 1, 0, 0), (7, .invokespecial 7, 3, 52, 1), (10, .ifCond .eq 7, 3, 17, 0), (13, .iconst 1, 1, 0, 0), (14, .goto 4, 3, 18, 0), (17, .iconst 0, 1, 0, 0), (18, .ireturn, 1, 0, 0)]
/-- GhostTrain$GhostKind.isUnder(I)Z -/
def mj_p49 : List (Nat × mj_I) := [(0, .iload_n 1, 1, 0, 0), (1, .iconst 5, 1, 0, 0), (2, .if_icmp .eq 11, 3, 13, 0), (5, .aload_n 0, 1, 0, 0), (6, .iload_n 1, 1, 0, 0), (7, .invokespecial 7, 3, 52, 1), (10, .ifCond .eq 7, 3, 17, 0), (13, .iconst 1, 1, 0, 0), (14, .goto 4, 3, 18, 0), (17, .iconst 0, 1, 0, 0), (18, .ireturn, 1, 0, 0)]
/-- GhostTrain$HeavyKind.isUnder(I)Z -/
def mj_p50 : List (Nat × mj_I) := [(0, .iload_n 1, 1, 0, 0), (1, .iconst 1, 1, 0, 0), (2, .if_icmp .eq 11, 3, 13, 0), (5, .aload_n 0, 1, 0, 0), (6, .iload_n 1, 1, 0, 0), (7, .invokespecial 9, 3, 52, 1), (10, .ifCond .eq 7, 3, 17, 0), (13, .iconst 1, 1, 0, 0), (14, .goto 4, 3, 18, 0), (17, .iconst 0, 1, 0, 0), (18, .ireturn, 1, 0, 0)]
/-- GhostTrain$IronKind.isUnder(I)Z -/
def mj_p51 : List (Nat × mj_I) := [(0, .iload_n 1, 1, 0, 0), (1, .iconst 3, 1, 0, 0), (2, .if_icmp .eq 11, 3, 13, 0), (5, .aload_n 0, 1, 0, 0), (6, .iload_n 1, 1, 0, 0), (7, .invokespecial 7, 3, 50, 1), (10, .ifCond .eq 7, 3, 17, 0), (13, .iconst 1, 1, 0, 0), (14, .goto 4, 3, 18, 0), (17, .iconst 0, 1, 0, 0), (18, .ireturn, 1, 0, 0)]
/-- GhostTrain$CarKind.isUnder(I)Z -/
def mj_p52 : List (Nat × mj_I) := [(0, .iload_n 1, 1, 0, 0), (1, .ifCond .ne 7, 3, 8, 0), (4, .iconst 1, 1, 0, 0), (5, .goto 4, 3, 9, 0), (8, .iconst 0, 1, 0, 0), (9, .ireturn, 1, 0, 0)]
/-- GhostTrain.turns(II)I -/
def mj_p53 : List (Nat × mj_I) := [(0, .aload_n 0, 1, 0, 0), (1, .iload_n 1, 1, 0, 0), (2, .invokevirtual 105, 3, 19, 1), (5, .ifCond .eq 10, 3, 15, 0), (8, .iload_n 2, 1, 0, 0), (9, .invokestatic 86, 3, 13, 1), (12, .ifCond .ne 6, 3, 18, 0), (15, .ldc 96, 2, 3294967295, 0), (17, .ireturn, 1, 0, 0), (18, .aload_n 0, 1, 0, 0), (19, .getfield 49, 3, 11, 3), (22, .getfield 108, 3, 6, 3), (25, .iconst 0, 1, 0, 0), (26, .aaload, 1, 0, 0), (27, .iload_n 1, 1, 0, 0), (28, .iaload, 1, 0, 0), (29, .istore_n 3, 1, 0, 0), (30, .aload_n 0, 1, 0, 0), (31, .getfield 49, 3, 11, 3), (34, .getfield 108, 3, 6, 3), (37, .iconst 0, 1, 0, 0), (38, .aaload, 1, 0, 0), (39, .iload_n 1, 1, 0, 0), (40, .iload_n 2, 1, 0, 0), (41, .iastore, 1, 0, 0), (42, .iload_n 3, 1, 0, 0), (43, .ireturn, 1, 0, 0)]
/-- GhostTrain.set(III)I -/
def mj_p54 : List (Nat × mj_I) := [(0, .iload_n 2, 1, 0, 0), (1, .iconst 1, 1, 0, 0), (2, .if_icmp .ne 10, 3, 12, 0), (5, .iload_n 3, 1, 0, 0), (6, .invokestatic 90, 3, 14, 1), (9, .ifCond .ne 15, 3, 24, 0), (12, .iload_n 2, 1, 0, 0), (13, .iconst 2, 1, 0, 0), (14, .if_icmp .ne 14, 3, 28, 0), (17, .iload_n 3, 1, 0, 0), (18, .invokestatic 93, 3, 15, 1), (21, .ifCond .eq 7, 3, 28, 0), (24, .iconst 1, 1, 0, 0), (25, .goto 4, 3, 29, 0), (28, .iconst 0, 1, 0, 0), (29, .istore 4, 2, 0, 0), (31, .aload_n 0, 1, 0, 0), (32, .iload_n 1, 1, 0, 0), (33, .invokevirtual 105, 3, 19, 1), (36, .ifCond .eq 8, 3, 44, 0), (39, .iload 4, 2, 0, 0), (41, .ifCond .ne 6, 3, 47, 0), (44, .ldc 96, 2, 3294967295, 0), (46, .ireturn, 1, 0, 0), (47, .aload_n 0, 1, 0, 0), (48, .getfield 49, 3, 11, 3), (51, .getfield 108, 3, 6, 3), (54, .iload_n 2, 1, 0, 0), (55, .aaload, 1, 0, 0), (56, .iload_n 1, 1, 0, 0), (57, .iaload, 1, 0, 0), (58, .istore 5, 2, 0, 0), (60, .aload_n 0, 1, 0, 0), (61, .getfield 49, 3, 11, 3), (64, .getfield 108, 3, 6, 3), (67, .iload_n 2, 1, 0, 0), (68, .aaload, 1, 0, 0), (69, .iload_n 1, 1, 0, 0), (70, .iload_n 3, 1, 0, 0), (71, .iastore, 1, 0, 0), (72, .iload 5, 2, 0, 0), (74, .ireturn, 1, 0, 0)]
/-- GhostTrain.part(II)I -/
def mj_p55 : List (Nat × mj_I) := [(0, .iload_n 1, 1, 0, 0), (1, .invokestatic 134, 3, 45, 1), (4, .ifCond .eq 26, 3, 30, 0), (7, .iload_n 2, 1, 0, 0), (8, .iconst 0, 1, 0, 0), (9, .iconst 3, 1, 0, 0), (10, .invokestatic 141, 3, 16, 3), (13, .ifCond .eq 17, 3, 30, 0), (16, .aload_n 0, 1, 0, 0), (17, .getfield 49, 3, 11, 3), (20, .getfield 145, 3, 6, 2), (23, .iload_n 2, 1, 0, 0), (24, .aaload, 1, 0, 0), (25, .iload_n 1, 1, 0, 0), (26, .iaload, 1, 0, 0), (27, .goto 5, 3, 32, 0), (30, .ldc 96, 2, 3294967295, 0), (32, .ireturn, 1, 0, 0)]
/-- GhostTrain.lays(III)I -/
def mj_p56 : List (Nat × mj_I) := [(0, .iload_n 2, 1, 0, 0), (1, .ifCond .ne 14, 3, 15, 0), (4, .iload_n 3, 1, 0, 0), (5, .bipush (-9), 2, 0, 0), (7, .bipush 9, 2, 0, 0), (9, .invokestatic 141, 3, 16, 3), (12, .ifCond .ne 33, 3, 45, 0), (15, .iload_n 2, 1, 0, 0), (16, .iconst 1, 1, 0, 0), (17, .if_icmp .ne 13, 3, 30, 0), (20, .iload_n 3, 1, 0, 0), (21, .iconst 0, 1, 0, 0), (22, .bipush 9, 2, 0, 0), (24, .invokestatic 141, 3, 16, 3), (27, .ifCond .ne 18, 3, 45, 0), (30, .iload_n 2, 1, 0, 0), (31, .iconst 2, 1, 0, 0), (32, .if_icmp .ne 17, 3, 49, 0), (35, .iload_n 3, 1, 0, 0), (36, .iconst 0, 1, 0, 0), (37, .bipush 60, 2, 0, 0), (39, .invokestatic 141, 3, 16, 3), (42, .ifCond .eq 7, 3, 49, 0), (45, .iconst 1, 1, 0, 0), (46, .goto 4, 3, 50, 0), (49, .iconst 0, 1, 0, 0), (50, .istore 4, 2, 0, 0), (52, .iload_n 1, 1, 0, 0), (53, .invokestatic 134, 3, 45, 1), (56, .ifCond .eq 8, 3, 64, 0), (59, .iload 4, 2, 0, 0), (61, .ifCond .ne 6, 3, 67, 0), (64, .ldc 96, 2, 3294967295, 0), (66, .ireturn, 1, 0, 0), (67, .aload_n 0, 1, 0, 0), (68, .getfield 49, 3, 11, 3), (71, .getfield 145, 3, 6, 2), (74, .iload_n 2, 1, 0, 0), (75, .aaload, 1, 0, 0), (76, .iload_n 1, 1, 0, 0), (77, .iaload, 1, 0, 0), (78, .istore 5, 2, 0, 0), (80, .aload_n 0, 1, 0, 0), (81, .getfield 49, 3, 11, 3), (84, .getfield 145, 3, 6, 2), (87, .iload_n 2, 1, 0, 0), (88, .aaload, 1, 0, 0), (89, .iload_n 1, 1, 0, 0), (90, .iload_n 3, 1, 0, 0), (91, .iastore, 1, 0, 0), (92, .iload_n 2, 1, 0, 0), (93, .iconst 2, 1, 0, 0), (94, .if_icmp .ne 15, 3, 109, 0), (97, .aload_n 0, 1, 0, 0), (98, .getfield 49, 3, 11, 3), (101, .getfield 145, 3, 6, 2), (104, .iconst 3, 1, 0, 0), (105, .aaload, 1, 0, 0), (106, .iload_n 1, 1, 0, 0), (107, .iconst 0, 1, 0, 0), (108, .iastore, 1, 0, 0), (109, .iload 5, 2, 0, 0), (111, .ireturn, 1, 0, 0)]
/-- GhostTrain.gap(I)I -/
def mj_p57 : List (Nat × mj_I) := [(0, .iload_n 1, 1, 0, 0), (1, .iconst 1, 1, 0, 0), (2, .bipush 60, 2, 0, 0), (4, .invokestatic 141, 3, 16, 3), (7, .ifCond .ne 6, 3, 13, 0), (10, .ldc 96, 2, 3294967295, 0), (12, .ireturn, 1, 0, 0), (13, .aload_n 0, 1, 0, 0), (14, .getfield 49, 3, 11, 3), (17, .getfield 148, 3, 6, 6), (20, .istore_n 2, 1, 0, 0), (21, .aload_n 0, 1, 0, 0), (22, .getfield 49, 3, 11, 3), (25, .iload_n 1, 1, 0, 0), (26, .putfield 148, 3, 6, 6), (29, .iload_n 2, 1, 0, 0), (30, .ireturn, 1, 0, 0)]
/-- GhostTrain.deal(I)I -/
def mj_p58 : List (Nat × mj_I) := [(0, .iload_n 1, 1, 0, 0), (1, .iconst 1, 1, 0, 0), (2, .bipush 8, 2, 0, 0), (4, .invokestatic 141, 3, 16, 3), (7, .ifCond .ne 6, 3, 13, 0), (10, .ldc 96, 2, 3294967295, 0), (12, .ireturn, 1, 0, 0), (13, .iload_n 1, 1, 0, 0), (14, .bipush 8, 2, 0, 0), (16, .aload_n 0, 1, 0, 0), (17, .getfield 49, 3, 11, 3), (20, .getfield 97, 3, 6, 5), (23, .isub, 1, 0, 0), (24, .invokestatic 151, 3, 3006, 2), (27, .istore_n 2, 1, 0, 0), (28, .iconst 0, 1, 0, 0), (29, .istore_n 3, 1, 0, 0), (30, .iload_n 3, 1, 0, 0), (31, .iload_n 2, 1, 0, 0), (32, .if_icmp .ge 62, 3, 94, 0), (35, .aload_n 0, 1, 0, 0), (36, .getfield 49, 3, 11, 3), (39, .invokevirtual 156, 3, 59, 0), (42, .bipush 6, 2, 0, 0), (44, .irem, 1, 0, 0), (45, .istore 4, 2, 0, 0), (47, .aload_n 0, 1, 0, 0), (48, .getfield 49, 3, 11, 3), (51, .invokevirtual 156, 3, 59, 0), (54, .sipush 240, 3, 0, 0), (57, .irem, 1, 0, 0), (58, .istore 5, 2, 0, 0), (60, .iconst 1, 1, 0, 0), (61, .aload_n 0, 1, 0, 0), (62, .getfield 49, 3, 11, 3), (65, .invokevirtual 156, 3, 59, 0), (68, .bipush 99, 2, 0, 0), (70, .irem, 1, 0, 0), (71, .iadd, 1, 0, 0), (72, .istore 6, 2, 0, 0), (74, .aload_n 0, 1, 0, 0), (75, .getfield 49, 3, 11, 3), (78, .iload 4, 2, 0, 0), (80, .iload 5, 2, 0, 0), (82, .iload 6, 2, 0, 0), (84, .invokevirtual 101, 3, 17, 3), (87, .pop, 1, 0, 0), (88, .iinc 3 1, 3, 0, 0), (91, .goto (-61), 3, 30, 0), (94, .iload_n 2, 1, 0, 0), (95, .ireturn, 1, 0, 0)]
/-- GhostTrain$Ring.draw()I -/
def mj_p59 : List (Nat × mj_I) := [(0, .aload_n 0, 1, 0, 0), (1, .aload_n 0, 1, 0, 0), (2, .getfield 33, 3, 6, 8), (5, .ldc 53, 2, 1103515245, 0), (7, .imul, 1, 0, 0), (8, .sipush 12345, 3, 0, 0), (11, .iadd, 1, 0, 0), (12, .putfield 33, 3, 6, 8), (15, .aload_n 0, 1, 0, 0), (16, .getfield 33, 3, 6, 8), (19, .bipush 8, 2, 0, 0), (21, .iushr, 1, 0, 0), (22, .ireturn, 1, 0, 0)]
/-- GhostTrain.seed(I)I -/
def mj_p60 : List (Nat × mj_I) := [(0, .aload_n 0, 1, 0, 0), (1, .getfield 49, 3, 11, 3), (4, .getfield 159, 3, 6, 8), (7, .istore_n 2, 1, 0, 0), (8, .aload_n 0, 1, 0, 0), (9, .getfield 49, 3, 11, 3), (12, .iload_n 1, 1, 0, 0), (13, .putfield 159, 3, 6, 8), (16, .iload_n 2, 1, 0, 0), (17, .ireturn, 1, 0, 0)]
/-- GhostTrain.seconds(I)I -/
def mj_p61 : List (Nat × mj_I) := [(0, .iload_n 1, 1, 0, 0), (1, .iconst 1, 1, 0, 0), (2, .sipush 300, 3, 0, 0), (5, .invokestatic 141, 3, 16, 3), (8, .ifCond .ne 6, 3, 14, 0), (11, .ldc 96, 2, 3294967295, 0), (13, .ireturn, 1, 0, 0), (14, .aload_n 0, 1, 0, 0), (15, .getfield 49, 3, 11, 3), (18, .iconst 3, 1, 0, 0), (19, .invokevirtual 162, 3, 62, 1), (22, .istore_n 2, 1, 0, 0), (23, .aload_n 0, 1, 0, 0), (24, .getfield 49, 3, 11, 3), (27, .iload_n 1, 1, 0, 0), (28, .sipush 9999, 3, 0, 0), (31, .aload_n 0, 1, 0, 0), (32, .getfield 49, 3, 11, 3), (35, .getfield 165, 3, 6, 7), (38, .isub, 1, 0, 0), (39, .invokestatic 151, 3, 3006, 2), (42, .invokevirtual 168, 3, 63, 1), (45, .aload_n 0, 1, 0, 0), (46, .getfield 49, 3, 11, 3), (49, .iconst 3, 1, 0, 0), (50, .invokevirtual 162, 3, 62, 1), (53, .iload_n 2, 1, 0, 0), (54, .isub, 1, 0, 0), (55, .ireturn, 1, 0, 0)]
/-- GhostTrain$Ring.totalOf(I)I -/
def mj_p62 : List (Nat × mj_I) := [(0, .iconst 0, 1, 0, 0), (1, .istore_n 2, 1, 0, 0), (2, .iconst 0, 1, 0, 0), (3, .istore_n 3, 1, 0, 0), (4, .iload_n 3, 1, 0, 0), (5, .aload_n 0, 1, 0, 0), (6, .getfield 23, 3, 6, 5), (9, .if_icmp .ge 20, 3, 29, 0), (12, .iload_n 2, 1, 0, 0), (13, .aload_n 0, 1, 0, 0), (14, .getfield 16, 3, 6, 3), (17, .iload_n 1, 1, 0, 0), (18, .aaload, 1, 0, 0), (19, .iload_n 3, 1, 0, 0), (20, .iaload, 1, 0, 0), (21, .iadd, 1, 0, 0), (22, .istore_n 2, 1, 0, 0), (23, .iinc 3 1, 3, 0, 0), (26, .goto (-22), 3, 4, 0), (29, .iload_n 2, 1, 0, 0), (30, .ireturn, 1, 0, 0)]
/-- GhostTrain$Ring.passSeconds(I)V -/
def mj_p63 : List (Nat × mj_I) := [(0, .iconst 0, 1, 0, 0), (1, .istore_n 2, 1, 0, 0), (2, .iload_n 2, 1, 0, 0), (3, .iload_n 1, 1, 0, 0), (4, .if_icmp .ge 76, 3, 80, 0), (7, .iconst 0, 1, 0, 0), (8, .istore_n 3, 1, 0, 0), (9, .iload_n 3, 1, 0, 0), (10, .bipush 12, 2, 0, 0), (12, .if_icmp .ge 31, 3, 43, 0), (15, .aload_n 0, 1, 0, 0), (16, .getfield 11, 3, 6, 2), (19, .iconst 3, 1, 0, 0), (20, .aaload, 1, 0, 0), (21, .iload_n 3, 1, 0, 0), (22, .iconst 0, 1, 0, 0), (23, .aload_n 0, 1, 0, 0), (24, .getfield 11, 3, 6, 2), (27, .iconst 3, 1, 0, 0), (28, .aaload, 1, 0, 0), (29, .iload_n 3, 1, 0, 0), (30, .iaload, 1, 0, 0), (31, .iconst 1, 1, 0, 0), (32, .isub, 1, 0, 0), (33, .invokestatic 54, 3, 3005, 2), (36, .iastore, 1, 0, 0), (37, .iinc 3 1, 3, 0, 0), (40, .goto (-31), 3, 9, 0), (43, .iconst 0, 1, 0, 0), (44, .istore_n 3, 1, 0, 0), (45, .iload_n 3, 1, 0, 0), (46, .aload_n 0, 1, 0, 0), (47, .getfield 23, 3, 6, 5), (50, .if_icmp .ge 14, 3, 64, 0), (53, .aload_n 0, 1, 0, 0), (54, .iload_n 3, 1, 0, 0), (55, .invokevirtual 60, 3, 64, 1), (58, .iinc 3 1, 3, 0, 0), (61, .goto (-16), 3, 45, 0), (64, .aload_n 0, 1, 0, 0), (65, .dup, 1, 0, 0), (66, .getfield 30, 3, 6, 7), (69, .iconst 1, 1, 0, 0), (70, .iadd, 1, 0, 0), (71, .putfield 30, 3, 6, 7), (74, .iinc 2 1, 3, 0, 0), (77, .goto (-75), 3, 2, 0), (80, .return_, 1, 0, 0)]
/-- GhostTrain$Ring.goOn(I)V -/
def mj_p64 : List (Nat × mj_I) := [(0, .aload_n 0, 1, 0, 0), (1, .getfield 16, 3, 6, 3), (4, .iconst 1, 1, 0, 0), (5, .aaload, 1, 0, 0), (6, .iload_n 1, 1, 0, 0), (7, .iaload, 1, 0, 0), (8, .istore_n 2, 1, 0, 0), (9, .iconst 0, 1, 0, 0), (10, .aload_n 0, 1, 0, 0), (11, .iload_n 1, 1, 0, 0), (12, .invokevirtual 64, 3, 32, 1), (15, .aload_n 0, 1, 0, 0), (16, .iload_n 1, 1, 0, 0), (17, .aload_n 0, 1, 0, 0), (18, .iload_n 1, 1, 0, 0), (19, .invokevirtual 68, 3, 20, 1), (22, .invokevirtual 71, 3, 21, 2), (25, .invokestatic 74, 3, 3006, 2), (28, .invokestatic 54, 3, 3005, 2), (31, .istore_n 3, 1, 0, 0), (32, .iload_n 3, 1, 0, 0), (33, .ifCond .ne 15, 3, 48, 0), (36, .aload_n 0, 1, 0, 0), (37, .getfield 16, 3, 6, 3), (40, .iconst 5, 1, 0, 0), (41, .aaload, 1, 0, 0), (42, .iload_n 1, 1, 0, 0), (43, .dup2, 1, 0, 0), (44, .iaload, 1, 0, 0), (45, .iconst 1, 1, 0, 0), (46, .iadd, 1, 0, 0), (47, .iastore, 1, 0, 0), (48, .iload_n 2, 1, 0, 0), (49, .iload_n 3, 1, 0, 0), (50, .iadd, 1, 0, 0), (51, .sipush 240, 3, 0, 0), (54, .if_icmp .lt 16, 3, 70, 0), (57, .aload_n 0, 1, 0, 0), (58, .getfield 16, 3, 6, 3), (61, .bipush 6, 2, 0, 0), (63, .aaload, 1, 0, 0), (64, .iload_n 1, 1, 0, 0), (65, .dup2, 1, 0, 0), (66, .iaload, 1, 0, 0), (67, .iconst 1, 1, 0, 0), (68, .iadd, 1, 0, 0), (69, .iastore, 1, 0, 0), (70, .aload_n 0, 1, 0, 0), (71, .getfield 16, 3, 6, 3), (74, .iconst 1, 1, 0, 0), (75, .aaload, 1, 0, 0), (76, .iload_n 1, 1, 0, 0), (77, .iload_n 2, 1, 0, 0), (78, .iload_n 3, 1, 0, 0), (79, .iadd, 1, 0, 0), (80, .sipush 240, 3, 0, 0), (83, .irem, 1, 0, 0), (84, .iastore, 1, 0, 0), (85, .iload_n 2, 1, 0, 0), (86, .bipush 20, 2, 0, 0), (88, .idiv, 1, 0, 0), (89, .iconst 1, 1, 0, 0), (90, .iadd, 1, 0, 0), (91, .istore 4, 2, 0, 0), (93, .iload 4, 2, 0, 0), (95, .iload_n 2, 1, 0, 0), (96, .iload_n 3, 1, 0, 0), (97, .iadd, 1, 0, 0), (98, .bipush 20, 2, 0, 0), (100, .idiv, 1, 0, 0), (101, .if_icmp .gt 19, 3, 120, 0), (104, .aload_n 0, 1, 0, 0), (105, .iload_n 1, 1, 0, 0), (106, .iload 4, 2, 0, 0), (108, .bipush 12, 2, 0, 0), (110, .irem, 1, 0, 0), (111, .invokevirtual 77, 3, 65, 2), (114, .iinc 4 1, 3, 0, 0), (117, .goto (-24), 3, 93, 0), (120, .return_, 1, 0, 0)]
/-- GhostTrain$Ring.enter(II)V -/
def mj_p65 : List (Nat × mj_I) := [(0, .aload_n 0, 1, 0, 0), (1, .getfield 11, 3, 6, 2), (4, .iconst 2, 1, 0, 0), (5, .aaload, 1, 0, 0), (6, .iload_n 2, 1, 0, 0), (7, .iaload, 1, 0, 0), (8, .ifCond .ne 4, 3, 12, 0), (11, .return_, 1, 0, 0), (12, .aload_n 0, 1, 0, 0), (13, .getfield 11, 3, 6, 2), (16, .iconst 3, 1, 0, 0), (17, .aaload, 1, 0, 0), (18, .iload_n 2, 1, 0, 0), (19, .iaload, 1, 0, 0), (20, .ifCond .ne 41, 3, 61, 0), (23, .aload_n 0, 1, 0, 0), (24, .getfield 16, 3, 6, 3), (27, .iconst 3, 1, 0, 0), (28, .aaload, 1, 0, 0), (29, .iload_n 1, 1, 0, 0), (30, .dup2, 1, 0, 0), (31, .iaload, 1, 0, 0), (32, .aload_n 0, 1, 0, 0), (33, .iload_n 1, 1, 0, 0), (34, .invokevirtual 81, 3, 24, 1), (37, .invokevirtual 85, 3, 1002, 0), (40, .iadd, 1, 0, 0), (41, .iastore, 1, 0, 0), (42, .aload_n 0, 1, 0, 0), (43, .getfield 11, 3, 6, 2), (46, .iconst 3, 1, 0, 0), (47, .aaload, 1, 0, 0), (48, .iload_n 2, 1, 0, 0), (49, .aload_n 0, 1, 0, 0), (50, .getfield 11, 3, 6, 2), (53, .iconst 2, 1, 0, 0), (54, .aaload, 1, 0, 0), (55, .iload_n 2, 1, 0, 0), (56, .iaload, 1, 0, 0), (57, .iastore, 1, 0, 0), (58, .goto 15, 3, 73, 0), (61, .aload_n 0, 1, 0, 0), (62, .getfield 16, 3, 6, 3), (65, .iconst 4, 1, 0, 0), (66, .aaload, 1, 0, 0), (67, .iload_n 1, 1, 0, 0), (68, .dup2, 1, 0, 0), (69, .iaload, 1, 0, 0), (70, .iconst 1, 1, 0, 0), (71, .iadd, 1, 0, 0), (72, .iastore, 1, 0, 0), (73, .return_, 1, 0, 0)]
/-- GhostTrain.ride(I)I -/
def mj_p66 : List (Nat × mj_I) := [(0, .iload_n 1, 1, 0, 0), (1, .tableswitch 93 0 5 #[39, 48, 57, 66, 76, 85], 39, 0, 0), (40, .aload_n 0, 1, 0, 0), (41, .getfield 49, 3, 11, 3), (44, .iconst 3, 1, 0, 0), (45, .invokevirtual 162, 3, 62, 1), (48, .ireturn, 1, 0, 0), (49, .aload_n 0, 1, 0, 0), (50, .getfield 49, 3, 11, 3), (53, .iconst 4, 1, 0, 0), (54, .invokevirtual 162, 3, 62, 1), (57, .ireturn, 1, 0, 0), (58, .aload_n 0, 1, 0, 0), (59, .getfield 49, 3, 11, 3), (62, .iconst 5, 1, 0, 0), (63, .invokevirtual 162, 3, 62, 1), (66, .ireturn, 1, 0, 0), (67, .aload_n 0, 1, 0, 0), (68, .getfield 49, 3, 11, 3), (71, .bipush 6, 2, 0, 0), (73, .invokevirtual 162, 3, 62, 1), (76, .ireturn, 1, 0, 0), (77, .aload_n 0, 1, 0, 0), (78, .getfield 49, 3, 11, 3), (81, .iconst 1, 1, 0, 0), (82, .invokevirtual 162, 3, 62, 1), (85, .ireturn, 1, 0, 0), (86, .aload_n 0, 1, 0, 0), (87, .getfield 49, 3, 11, 3), (90, .invokevirtual 172, 3, 67, 0), (93, .ireturn, 1, 0, 0), (94, .ldc 96, 2, 3294967295, 0), (96, .ireturn, 1, 0, 0)]
/-- GhostTrain$Ring.near()I -/
def mj_p67 : List (Nat × mj_I) := [(0, .iconst 0, 1, 0, 0), (1, .istore_n 1, 1, 0, 0), (2, .iconst 0, 1, 0, 0), (3, .istore_n 2, 1, 0, 0), (4, .iload_n 2, 1, 0, 0), (5, .aload_n 0, 1, 0, 0), (6, .getfield 23, 3, 6, 5), (9, .if_icmp .ge 20, 3, 29, 0), (12, .aload_n 0, 1, 0, 0), (13, .iload_n 2, 1, 0, 0), (14, .invokevirtual 64, 3, 32, 1), (17, .ifCond .ge 6, 3, 23, 0), (20, .iinc 1 1, 3, 0, 0), (23, .iinc 2 1, 3, 0, 0), (26, .goto (-22), 3, 4, 0), (29, .iload_n 1, 1, 0, 0), (30, .ireturn, 1, 0, 0)]
/-- GhostTrain.lamps()I -/
def mj_p68 : List (Nat × mj_I) := [(0, .iconst 0, 1, 0, 0), (1, .istore_n 1, 1, 0, 0), (2, .iconst 0, 1, 0, 0), (3, .istore_n 2, 1, 0, 0), (4, .iload_n 2, 1, 0, 0), (5, .aload_n 0, 1, 0, 0), (6, .getfield 49, 3, 11, 3), (9, .getfield 97, 3, 6, 5), (12, .if_icmp .ge 22, 3, 34, 0), (15, .iload_n 1, 1, 0, 0), (16, .iconst 1, 1, 0, 0), (17, .aload_n 0, 1, 0, 0), (18, .getfield 49, 3, 11, 3), (21, .iload_n 2, 1, 0, 0), (22, .invokevirtual 112, 3, 20, 1), (25, .ishl, 1, 0, 0), (26, .ior, 1, 0, 0), (27, .istore_n 1, 1, 0, 0), (28, .iinc 2 1, 3, 0, 0), (31, .goto (-27), 3, 4, 0), (34, .iload_n 1, 1, 0, 0), (35, .ireturn, 1, 0, 0)]
/-- GhostTrain.behind(II)I -/
def mj_p69 : List (Nat × mj_I) := [(0, .iload_n 2, 1, 0, 0), (1, .iconst 0, 1, 0, 0), (2, .iconst 3, 1, 0, 0), (3, .invokestatic 141, 3, 16, 3), (6, .istore_n 3, 1, 0, 0), (7, .iload_n 2, 1, 0, 0), (8, .iconst 4, 1, 0, 0), (9, .if_icmp .lt 17, 3, 26, 0), (12, .aload_n 0, 1, 0, 0), (13, .iload_n 2, 1, 0, 0), (14, .iconst 4, 1, 0, 0), (15, .isub, 1, 0, 0), (16, .invokevirtual 105, 3, 19, 1), (19, .ifCond .eq 7, 3, 26, 0), (22, .iconst 1, 1, 0, 0), (23, .goto 4, 3, 27, 0), (26, .iconst 0, 1, 0, 0), (27, .istore 4, 2, 0, 0), (29, .iload_n 1, 1, 0, 0), (30, .iconst 0, 1, 0, 0), (31, .sipush 300, 3, 0, 0), (34, .invokestatic 141, 3, 16, 3), (37, .ifCond .eq 12, 3, 49, 0), (40, .iload_n 3, 1, 0, 0), (41, .ifCond .ne 11, 3, 52, 0), (44, .iload 4, 2, 0, 0), (46, .ifCond .ne 6, 3, 52, 0), (49, .ldc 96, 2, 3294967295, 0), (51, .ireturn, 1, 0, 0), (52, .aload_n 0, 1, 0, 0), (53, .getfield 53, 3, 11, 4), (56, .aload_n 0, 1, 0, 0), (57, .getfield 49, 3, 11, 3), (60, .invokevirtual 175, 3, 70, 1), (63, .aload_n 0, 1, 0, 0), (64, .getfield 53, 3, 11, 4), (67, .iload_n 1, 1, 0, 0), (68, .invokevirtual 168, 3, 63, 1), (71, .iload_n 3, 1, 0, 0), (72, .ifCond .eq 16, 3, 88, 0), (75, .aload_n 0, 1, 0, 0), (76, .getfield 53, 3, 11, 4), (79, .iconst 3, 1, 0, 0), (80, .iload_n 2, 1, 0, 0), (81, .iadd, 1, 0, 0), (82, .invokevirtual 162, 3, 62, 1), (85, .goto 16, 3, 101, 0), (88, .aload_n 0, 1, 0, 0), (89, .getfield 53, 3, 11, 4), (92, .getfield 108, 3, 6, 3), (95, .iconst 1, 1, 0, 0), (96, .aaload, 1, 0, 0), (97, .iload_n 2, 1, 0, 0), (98, .iconst 4, 1, 0, 0), (99, .isub, 1, 0, 0), (100, .iaload, 1, 0, 0), (101, .ireturn, 1, 0, 0)]
/-- GhostTrain$Ring.become(LGhostTrain$Ring;)V -/
def mj_p70 : List (Nat × mj_I) := [(0, .iconst 0, 1, 0, 0), (1, .istore_n 2, 1, 0, 0), (2, .iload_n 2, 1, 0, 0), (3, .iconst 4, 1, 0, 0), (4, .if_icmp .ge 28, 3, 32, 0), (7, .aload_n 1, 1, 0, 0), (8, .getfield 11, 3, 6, 2), (11, .iload_n 2, 1, 0, 0), (12, .aaload, 1, 0, 0), (13, .iconst 0, 1, 0, 0), (14, .aload_n 0, 1, 0, 0), (15, .getfield 11, 3, 6, 2), (18, .iload_n 2, 1, 0, 0), (19, .aaload, 1, 0, 0), (20, .iconst 0, 1, 0, 0), (21, .bipush 12, 2, 0, 0), (23, .invokestatic 47, 3, 3001, 5), (26, .iinc 2 1, 3, 0, 0), (29, .goto (-27), 3, 2, 0), (32, .iconst 0, 1, 0, 0), (33, .istore_n 2, 1, 0, 0), (34, .iload_n 2, 1, 0, 0), (35, .bipush 7, 2, 0, 0), (37, .if_icmp .ge 28, 3, 65, 0), (40, .aload_n 1, 1, 0, 0), (41, .getfield 16, 3, 6, 3), (44, .iload_n 2, 1, 0, 0), (45, .aaload, 1, 0, 0), (46, .iconst 0, 1, 0, 0), (47, .aload_n 0, 1, 0, 0), (48, .getfield 16, 3, 6, 3), (51, .iload_n 2, 1, 0, 0), (52, .aaload, 1, 0, 0), (53, .iconst 0, 1, 0, 0), (54, .bipush 8, 2, 0, 0), (56, .invokestatic 47, 3, 3001, 5), (59, .iinc 2 1, 3, 0, 0), (62, .goto (-28), 3, 34, 0), (65, .aload_n 1, 1, 0, 0), (66, .getfield 19, 3, 6, 4), (69, .iconst 0, 1, 0, 0), (70, .aload_n 0, 1, 0, 0), (71, .getfield 19, 3, 6, 4), (74, .iconst 0, 1, 0, 0), (75, .iconst 3, 1, 0, 0), (76, .invokestatic 47, 3, 3001, 5), (79, .aload_n 0, 1, 0, 0), (80, .aload_n 1, 1, 0, 0), (81, .getfield 23, 3, 6, 5), (84, .putfield 23, 3, 6, 5), (87, .aload_n 0, 1, 0, 0), (88, .aload_n 1, 1, 0, 0), (89, .getfield 27, 3, 6, 6), (92, .putfield 27, 3, 6, 6), (95, .aload_n 0, 1, 0, 0), (96, .aload_n 1, 1, 0, 0), (97, .getfield 30, 3, 6, 7), (100, .putfield 30, 3, 6, 7), (103, .aload_n 0, 1, 0, 0), (104, .aload_n 1, 1, 0, 0), (105, .getfield 33, 3, 6, 8), (108, .putfield 33, 3, 6, 8), (111, .aload_n 0, 1, 0, 0), (112, .aload_n 1, 1, 0, 0), (113, .getfield 36, 3, 6, 9), (116, .putfield 36, 3, 6, 9), (119, .return_, 1, 0, 0)]
/-- GhostTrain.stands()I -/
def mj_p71 : List (Nat × mj_I) := [(0, .aload_n 0, 1, 0, 0), (1, .getfield 53, 3, 11, 4), (4, .aload_n 0, 1, 0, 0), (5, .getfield 49, 3, 11, 3), (8, .invokevirtual 175, 3, 70, 1), (11, .aload_n 0, 1, 0, 0), (12, .getfield 49, 3, 11, 3), (15, .iconst 5, 1, 0, 0), (16, .invokevirtual 162, 3, 62, 1), (19, .istore_n 1, 1, 0, 0), (20, .iconst 1, 1, 0, 0), (21, .istore_n 2, 1, 0, 0), (22, .iload_n 2, 1, 0, 0), (23, .sipush 300, 3, 0, 0), (26, .if_icmp .gt 31, 3, 57, 0), (29, .aload_n 0, 1, 0, 0), (30, .getfield 53, 3, 11, 4), (33, .iconst 1, 1, 0, 0), (34, .invokevirtual 168, 3, 63, 1), (37, .aload_n 0, 1, 0, 0), (38, .getfield 53, 3, 11, 4), (41, .iconst 5, 1, 0, 0), (42, .invokevirtual 162, 3, 62, 1), (45, .iload_n 1, 1, 0, 0), (46, .if_icmp .le 5, 3, 51, 0), (49, .iload_n 2, 1, 0, 0), (50, .ireturn, 1, 0, 0), (51, .iinc 2 1, 3, 0, 0), (54, .goto (-32), 3, 22, 0), (57, .ldc 179, 2, 3294967291, 0), (59, .ireturn, 1, 0, 0)]
/-- GhostTrain.brake(III)I -/
def mj_p72 : List (Nat × mj_I) := [(0, .iload_n 1, 1, 0, 0), (1, .invokestatic 134, 3, 45, 1), (4, .ifCond .eq 19, 3, 23, 0), (7, .iload_n 2, 1, 0, 0), (8, .invokestatic 180, 3, 73, 1), (11, .ifCond .eq 12, 3, 23, 0), (14, .iload_n 3, 1, 0, 0), (15, .iconst 0, 1, 0, 0), (16, .iconst 1, 1, 0, 0), (17, .invokestatic 141, 3, 16, 3), (20, .ifCond .ne 6, 3, 26, 0), (23, .ldc 96, 2, 3294967295, 0), (25, .ireturn, 1, 0, 0), (26, .ldc 179, 2, 3294967291, 0), (28, .istore 4, 2, 0, 0), (30, .iconst 0, 1, 0, 0), (31, .istore 5, 2, 0, 0), (33, .iconst 0, 1, 0, 0), (34, .istore 6, 2, 0, 0), (36, .iload 6, 2, 0, 0), (38, .bipush 9, 2, 0, 0), (40, .if_icmp .gt 71, 3, 111, 0), (43, .aload_n 0, 1, 0, 0), (44, .getfield 53, 3, 11, 4), (47, .aload_n 0, 1, 0, 0), (48, .getfield 49, 3, 11, 3), (51, .invokevirtual 175, 3, 70, 1), (54, .aload_n 0, 1, 0, 0), (55, .getfield 53, 3, 11, 4), (58, .getfield 145, 3, 6, 2), (61, .iconst 1, 1, 0, 0), (62, .aaload, 1, 0, 0), (63, .iload_n 1, 1, 0, 0), (64, .iload 6, 2, 0, 0), (66, .iastore, 1, 0, 0), (67, .aload_n 0, 1, 0, 0), (68, .iload_n 2, 1, 0, 0), (69, .invokevirtual 183, 3, 74, 1), (72, .aload_n 0, 1, 0, 0), (73, .getfield 53, 3, 11, 4), (76, .iconst 5, 1, 0, 0), (77, .invokevirtual 162, 3, 62, 1), (80, .isub, 1, 0, 0), (81, .istore 7, 2, 0, 0), (83, .iload 4, 2, 0, 0), (85, .ldc 179, 2, 3294967291, 0), (87, .if_icmp .eq 10, 3, 97, 0), (90, .iload 7, 2, 0, 0), (92, .iload 5, 2, 0, 0), (94, .if_icmp .le 11, 3, 105, 0), (97, .iload 6, 2, 0, 0), (99, .istore 4, 2, 0, 0), (101, .iload 7, 2, 0, 0), (103, .istore 5, 2, 0, 0), (105, .iinc 6 1, 3, 0, 0), (108, .goto (-72), 3, 36, 0), (111, .iload_n 3, 1, 0, 0), (112, .ifCond .ne 8, 3, 120, 0), (115, .iload 4, 2, 0, 0), (117, .goto 5, 3, 122, 0), (120, .iload 5, 2, 0, 0), (122, .ireturn, 1, 0, 0)]
/-- GhostTrain.isFar(I)Z -/
def mj_p73 : List (Nat × mj_I) := [(0, .iload_n 0, 1, 0, 0), (1, .iconst 1, 1, 0, 0), (2, .bipush 100, 2, 0, 0), (4, .invokestatic 141, 3, 16, 3), (7, .ireturn, 1, 0, 0)]
/-- GhostTrain.thoughtScreams(I)I -/
def mj_p74 : List (Nat × mj_I) := [(0, .aload_n 0, 1, 0, 0), (1, .getfield 53, 3, 11, 4), (4, .iload_n 1, 1, 0, 0), (5, .invokevirtual 168, 3, 63, 1), (8, .aload_n 0, 1, 0, 0), (9, .getfield 53, 3, 11, 4), (12, .iconst 3, 1, 0, 0), (13, .invokevirtual 162, 3, 62, 1), (16, .ireturn, 1, 0, 0)]
/-- GhostTrain.moved(III)I -/
def mj_p75 : List (Nat × mj_I) := [(0, .iload_n 1, 1, 0, 0), (1, .invokestatic 134, 3, 45, 1), (4, .ifCond .eq 22, 3, 26, 0), (7, .iload_n 2, 1, 0, 0), (8, .invokestatic 134, 3, 45, 1), (11, .ifCond .eq 15, 3, 26, 0), (14, .iload_n 1, 1, 0, 0), (15, .iload_n 2, 1, 0, 0), (16, .if_icmp .eq 10, 3, 26, 0), (19, .iload_n 3, 1, 0, 0), (20, .invokestatic 180, 3, 73, 1), (23, .ifCond .ne 6, 3, 29, 0), (26, .ldc 96, 2, 3294967295, 0), (28, .ireturn, 1, 0, 0), (29, .aload_n 0, 1, 0, 0), (30, .getfield 53, 3, 11, 4), (33, .aload_n 0, 1, 0, 0), (34, .getfield 49, 3, 11, 3), (37, .invokevirtual 175, 3, 70, 1), (40, .aload_n 0, 1, 0, 0), (41, .iload_n 3, 1, 0, 0), (42, .invokevirtual 183, 3, 74, 1), (45, .istore 4, 2, 0, 0), (47, .aload_n 0, 1, 0, 0), (48, .getfield 53, 3, 11, 4), (51, .aload_n 0, 1, 0, 0), (52, .getfield 49, 3, 11, 3), (55, .invokevirtual 175, 3, 70, 1), (58, .aload_n 0, 1, 0, 0), (59, .getfield 53, 3, 11, 4), (62, .iload_n 1, 1, 0, 0), (63, .iload_n 2, 1, 0, 0), (64, .invokevirtual 186, 3, 76, 2), (67, .aload_n 0, 1, 0, 0), (68, .iload_n 3, 1, 0, 0), (69, .invokevirtual 183, 3, 74, 1), (72, .iload 4, 2, 0, 0), (74, .isub, 1, 0, 0), (75, .ireturn, 1, 0, 0)]
/-- GhostTrain$Ring.changeScares(II)V -/
def mj_p76 : List (Nat × mj_I) := [(0, .iconst 2, 1, 0, 0), (1, .istore_n 3, 1, 0, 0), (2, .iload_n 3, 1, 0, 0), (3, .iconst 3, 1, 0, 0), (4, .if_icmp .gt 45, 3, 49, 0), (7, .aload_n 0, 1, 0, 0), (8, .getfield 11, 3, 6, 2), (11, .iload_n 3, 1, 0, 0), (12, .aaload, 1, 0, 0), (13, .iload_n 1, 1, 0, 0), (14, .iaload, 1, 0, 0), (15, .istore 4, 2, 0, 0), (17, .aload_n 0, 1, 0, 0), (18, .getfield 11, 3, 6, 2), (21, .iload_n 3, 1, 0, 0), (22, .aaload, 1, 0, 0), (23, .iload_n 1, 1, 0, 0), (24, .aload_n 0, 1, 0, 0), (25, .getfield 11, 3, 6, 2), (28, .iload_n 3, 1, 0, 0), (29, .aaload, 1, 0, 0), (30, .iload_n 2, 1, 0, 0), (31, .iaload, 1, 0, 0), (32, .iastore, 1, 0, 0), (33, .aload_n 0, 1, 0, 0), (34, .getfield 11, 3, 6, 2), (37, .iload_n 3, 1, 0, 0), (38, .aaload, 1, 0, 0), (39, .iload_n 2, 1, 0, 0), (40, .iload 4, 2, 0, 0), (42, .iastore, 1, 0, 0), (43, .iinc 3 1, 3, 0, 0), (46, .goto (-44), 3, 2, 0), (49, .return_, 1, 0, 0)]
/-- GhostTrain.off(II)I -/
def mj_p77 : List (Nat × mj_I) := [(0, .iload_n 1, 1, 0, 0), (1, .invokestatic 180, 3, 73, 1), (4, .ifCond .eq 12, 3, 16, 0), (7, .iload_n 2, 1, 0, 0), (8, .iconst 0, 1, 0, 0), (9, .iconst 1, 1, 0, 0), (10, .invokestatic 141, 3, 16, 3), (13, .ifCond .ne 6, 3, 19, 0), (16, .ldc 96, 2, 3294967295, 0), (18, .ireturn, 1, 0, 0), (19, .ldc 179, 2, 3294967291, 0), (21, .istore_n 3, 1, 0, 0), (22, .ldc 179, 2, 3294967291, 0), (24, .istore 4, 2, 0, 0), (26, .iconst 0, 1, 0, 0), (27, .istore 5, 2, 0, 0), (29, .iload 5, 2, 0, 0), (31, .aload_n 0, 1, 0, 0), (32, .getfield 49, 3, 11, 3), (35, .getfield 97, 3, 6, 5), (38, .if_icmp .ge 56, 3, 94, 0), (41, .aload_n 0, 1, 0, 0), (42, .getfield 53, 3, 11, 4), (45, .aload_n 0, 1, 0, 0), (46, .getfield 49, 3, 11, 3), (49, .invokevirtual 175, 3, 70, 1), (52, .aload_n 0, 1, 0, 0), (53, .getfield 53, 3, 11, 4), (56, .iload 5, 2, 0, 0), (58, .invokevirtual 190, 3, 78, 1), (61, .aload_n 0, 1, 0, 0), (62, .iload_n 1, 1, 0, 0), (63, .invokevirtual 183, 3, 74, 1), (66, .istore 6, 2, 0, 0), (68, .iload_n 3, 1, 0, 0), (69, .ldc 179, 2, 3294967291, 0), (71, .if_icmp .eq 10, 3, 81, 0), (74, .iload 6, 2, 0, 0), (76, .iload 4, 2, 0, 0), (78, .if_icmp .le 10, 3, 88, 0), (81, .iload 5, 2, 0, 0), (83, .istore_n 3, 1, 0, 0), (84, .iload 6, 2, 0, 0), (86, .istore 4, 2, 0, 0), (88, .iinc 5 1, 3, 0, 0), (91, .goto (-62), 3, 29, 0), (94, .iload_n 2, 1, 0, 0), (95, .ifCond .ne 7, 3, 102, 0), (98, .iload_n 3, 1, 0, 0), (99, .goto 5, 3, 104, 0), (102, .iload 4, 2, 0, 0), (104, .ireturn, 1, 0, 0)]
/-- GhostTrain$Ring.dropCar(I)V -/
def mj_p78 : List (Nat × mj_I) := [(0, .aload_n 0, 1, 0, 0), (1, .dup, 1, 0, 0), (2, .getfield 23, 3, 6, 5), (5, .iconst 1, 1, 0, 0), (6, .isub, 1, 0, 0), (7, .putfield 23, 3, 6, 5), (10, .iconst 0, 1, 0, 0), (11, .istore_n 2, 1, 0, 0), (12, .iload_n 2, 1, 0, 0), (13, .bipush 7, 2, 0, 0), (15, .if_icmp .ge 34, 3, 49, 0), (18, .aload_n 0, 1, 0, 0), (19, .getfield 16, 3, 6, 3), (22, .iload_n 2, 1, 0, 0), (23, .aaload, 1, 0, 0), (24, .iload_n 1, 1, 0, 0), (25, .iconst 1, 1, 0, 0), (26, .iadd, 1, 0, 0), (27, .aload_n 0, 1, 0, 0), (28, .getfield 16, 3, 6, 3), (31, .iload_n 2, 1, 0, 0), (32, .aaload, 1, 0, 0), (33, .iload_n 1, 1, 0, 0), (34, .aload_n 0, 1, 0, 0), (35, .getfield 23, 3, 6, 5), (38, .iload_n 1, 1, 0, 0), (39, .isub, 1, 0, 0), (40, .invokestatic 47, 3, 3001, 5), (43, .iinc 2 1, 3, 0, 0), (46, .goto (-34), 3, 12, 0), (49, .return_, 1, 0, 0)]
/-- GhostTrain.kind(III)I -/
def mj_p79 : List (Nat × mj_I) := [(0, .aload_n 0, 1, 0, 0), (1, .iload_n 1, 1, 0, 0), (2, .invokevirtual 105, 3, 19, 1), (5, .ifCond .eq 19, 3, 24, 0), (8, .iload_n 2, 1, 0, 0), (9, .invokestatic 180, 3, 73, 1), (12, .ifCond .eq 12, 3, 24, 0), (15, .iload_n 3, 1, 0, 0), (16, .iconst 0, 1, 0, 0), (17, .iconst 1, 1, 0, 0), (18, .invokestatic 141, 3, 16, 3), (21, .ifCond .ne 6, 3, 27, 0), (24, .ldc 96, 2, 3294967295, 0), (26, .ireturn, 1, 0, 0), (27, .ldc 179, 2, 3294967291, 0), (29, .istore 4, 2, 0, 0), (31, .iconst 0, 1, 0, 0), (32, .istore 5, 2, 0, 0), (34, .iconst 0, 1, 0, 0), (35, .istore 6, 2, 0, 0), (37, .iload 6, 2, 0, 0), (39, .bipush 6, 2, 0, 0), (41, .if_icmp .ge 62, 3, 103, 0), (44, .aload_n 0, 1, 0, 0), (45, .getfield 53, 3, 11, 4), (48, .aload_n 0, 1, 0, 0), (49, .getfield 49, 3, 11, 3), (52, .invokevirtual 175, 3, 70, 1), (55, .aload_n 0, 1, 0, 0), (56, .getfield 53, 3, 11, 4), (59, .getfield 108, 3, 6, 3), (62, .iconst 0, 1, 0, 0), (63, .aaload, 1, 0, 0), (64, .iload_n 1, 1, 0, 0), (65, .iload 6, 2, 0, 0), (67, .iastore, 1, 0, 0), (68, .aload_n 0, 1, 0, 0), (69, .iload_n 2, 1, 0, 0), (70, .invokevirtual 183, 3, 74, 1), (73, .istore 7, 2, 0, 0), (75, .iload 4, 2, 0, 0), (77, .ldc 179, 2, 3294967291, 0), (79, .if_icmp .eq 10, 3, 89, 0), (82, .iload 7, 2, 0, 0), (84, .iload 5, 2, 0, 0), (86, .if_icmp .le 11, 3, 97, 0), (89, .iload 6, 2, 0, 0), (91, .istore 4, 2, 0, 0), (93, .iload 7, 2, 0, 0), (95, .istore 5, 2, 0, 0), (97, .iinc 6 1, 3, 0, 0), (100, .goto (-63), 3, 37, 0), (103, .iload_n 3, 1, 0, 0), (104, .ifCond .ne 8, 3, 112, 0), (107, .iload 4, 2, 0, 0), (109, .goto 5, 3, 114, 0), (112, .iload 5, 2, 0, 0), (114, .ireturn, 1, 0, 0)]
/-- GhostTrain.kiss(II)I -/
def mj_p80 : List (Nat × mj_I) := [(0, .iload_n 1, 1, 0, 0), (1, .invokestatic 134, 3, 45, 1), (4, .ifCond .eq 10, 3, 14, 0), (7, .iload_n 2, 1, 0, 0), (8, .invokestatic 180, 3, 73, 1), (11, .ifCond .ne 6, 3, 17, 0), (14, .ldc 96, 2, 3294967295, 0), (16, .ireturn, 1, 0, 0), (17, .aload_n 0, 1, 0, 0), (18, .getfield 53, 3, 11, 4), (21, .aload_n 0, 1, 0, 0), (22, .getfield 49, 3, 11, 3), (25, .invokevirtual 175, 3, 70, 1), (28, .aload_n 0, 1, 0, 0), (29, .iload_n 2, 1, 0, 0), (30, .invokevirtual 183, 3, 74, 1), (33, .istore_n 3, 1, 0, 0), (34, .aload_n 0, 1, 0, 0), (35, .getfield 53, 3, 11, 4), (38, .aload_n 0, 1, 0, 0), (39, .getfield 49, 3, 11, 3), (42, .invokevirtual 175, 3, 70, 1), (45, .aload_n 0, 1, 0, 0), (46, .getfield 53, 3, 11, 4), (49, .getfield 145, 3, 6, 2), (52, .iconst 1, 1, 0, 0), (53, .aaload, 1, 0, 0), (54, .iload_n 1, 1, 0, 0), (55, .bipush 9, 2, 0, 0), (57, .iastore, 1, 0, 0), (58, .iload_n 3, 1, 0, 0), (59, .aload_n 0, 1, 0, 0), (60, .iload_n 2, 1, 0, 0), (61, .invokevirtual 183, 3, 74, 1), (64, .isub, 1, 0, 0), (65, .ireturn, 1, 0, 0)]
/-- GhostTrain.gaps(I)I -/
def mj_p81 : List (Nat × mj_I) := [(0, .iload_n 1, 1, 0, 0), (1, .iconst 1, 1, 0, 0), (2, .bipush 60, 2, 0, 0), (4, .invokestatic 141, 3, 16, 3), (7, .ifCond .ne 6, 3, 13, 0), (10, .ldc 96, 2, 3294967295, 0), (12, .ireturn, 1, 0, 0), (13, .bipush 60, 2, 0, 0), (15, .istore_n 2, 1, 0, 0), (16, .iload_n 2, 1, 0, 0), (17, .iconst 1, 1, 0, 0), (18, .if_icmp .lt 20, 3, 38, 0), (21, .aload_n 0, 1, 0, 0), (22, .iload_n 2, 1, 0, 0), (23, .iload_n 1, 1, 0, 0), (24, .invokevirtual 193, 3, 82, 2), (27, .ifCond .eq 5, 3, 32, 0), (30, .iload_n 2, 1, 0, 0), (31, .ireturn, 1, 0, 0), (32, .iinc 2 (-1), 3, 0, 0), (35, .goto (-19), 3, 16, 0), (38, .ldc 179, 2, 3294967291, 0), (40, .ireturn, 1, 0, 0)]
/-- GhostTrain.nobodyStands(II)Z -/
def mj_p82 : List (Nat × mj_I) := [(0, .aload_n 0, 1, 0, 0), (1, .getfield 53, 3, 11, 4), (4, .aload_n 0, 1, 0, 0), (5, .getfield 49, 3, 11, 3), (8, .invokevirtual 175, 3, 70, 1), (11, .aload_n 0, 1, 0, 0), (12, .getfield 53, 3, 11, 4), (15, .iload_n 1, 1, 0, 0), (16, .putfield 148, 3, 6, 6), (19, .aload_n 0, 1, 0, 0), (20, .getfield 49, 3, 11, 3), (23, .iconst 5, 1, 0, 0), (24, .invokevirtual 162, 3, 62, 1), (27, .istore_n 3, 1, 0, 0), (28, .iconst 0, 1, 0, 0), (29, .istore 4, 2, 0, 0), (31, .iload 4, 2, 0, 0), (33, .iload_n 2, 1, 0, 0), (34, .if_icmp .ge 29, 3, 63, 0), (37, .aload_n 0, 1, 0, 0), (38, .getfield 53, 3, 11, 4), (41, .iconst 5, 1, 0, 0), (42, .invokevirtual 162, 3, 62, 1), (45, .iload_n 3, 1, 0, 0), (46, .if_icmp .ne 17, 3, 63, 0), (49, .aload_n 0, 1, 0, 0), (50, .getfield 53, 3, 11, 4), (53, .iconst 1, 1, 0, 0), (54, .invokevirtual 168, 3, 63, 1), (57, .iinc 4 1, 3, 0, 0), (60, .goto (-29), 3, 31, 0), (63, .aload_n 0, 1, 0, 0), (64, .getfield 53, 3, 11, 4), (67, .iconst 5, 1, 0, 0), (68, .invokevirtual 162, 3, 62, 1), (71, .iload_n 3, 1, 0, 0), (72, .if_icmp .ne 7, 3, 79, 0), (75, .iconst 1, 1, 0, 0), (76, .goto 4, 3, 80, 0), (79, .iconst 0, 1, 0, 0), (80, .ireturn, 1, 0, 0)]
/-- GhostTrain.weighed(III)I -/
def mj_p83 : List (Nat × mj_I) := [(0, .iload_n 1, 1, 0, 0), (1, .invokestatic 197, 3, 84, 1), (4, .ifCond .eq 20, 3, 24, 0), (7, .aload_n 0, 1, 0, 0), (8, .iload_n 2, 1, 0, 0), (9, .invokevirtual 105, 3, 19, 1), (12, .ifCond .eq 12, 3, 24, 0), (15, .iload_n 3, 1, 0, 0), (16, .iconst 0, 1, 0, 0), (17, .iconst 1, 1, 0, 0), (18, .invokestatic 141, 3, 16, 3), (21, .ifCond .ne 6, 3, 27, 0), (24, .ldc 96, 2, 3294967295, 0), (26, .ireturn, 1, 0, 0), (27, .aload_n 0, 1, 0, 0), (28, .getfield 65, 3, 11, 7), (31, .iload_n 1, 1, 0, 0), (32, .aaload, 1, 0, 0), (33, .invokevirtual 200, 3, 85, 0), (36, .ifCond .eq 6, 3, 42, 0), (39, .ldc 204, 2, 3294967285, 0), (41, .ireturn, 1, 0, 0), (42, .ldc 179, 2, 3294967291, 0), (44, .istore 4, 2, 0, 0), (46, .iconst 0, 1, 0, 0), (47, .istore 5, 2, 0, 0), (49, .iconst 1, 1, 0, 0), (50, .istore 6, 2, 0, 0), (52, .iload 6, 2, 0, 0), (54, .bipush 96, 2, 0, 0), (56, .if_icmp .gt 46, 3, 102, 0), (59, .aload_n 0, 1, 0, 0), (60, .iload 6, 2, 0, 0), (62, .iload_n 2, 1, 0, 0), (63, .aload_n 0, 1, 0, 0), (64, .getfield 65, 3, 11, 7), (67, .iload_n 1, 1, 0, 0), (68, .aaload, 1, 0, 0), (69, .invokevirtual 205, 3, 86, 3), (72, .istore 7, 2, 0, 0), (74, .iload 4, 2, 0, 0), (76, .ldc 179, 2, 3294967291, 0), (78, .if_icmp .eq 10, 3, 88, 0), (81, .iload 7, 2, 0, 0), (83, .iload 5, 2, 0, 0), (85, .if_icmp .ge 11, 3, 96, 0), (88, .iload 6, 2, 0, 0), (90, .istore 4, 2, 0, 0), (92, .iload 7, 2, 0, 0), (94, .istore 5, 2, 0, 0), (96, .iinc 6 5, 3, 0, 0), (99, .goto (-47), 3, 52, 0), (102, .iload_n 3, 1, 0, 0), (103, .ifCond .ne 8, 3, 111, 0), (106, .iload 4, 2, 0, 0), (108, .goto 5, 3, 113, 0), (111, .iload 5, 2, 0, 0), (113, .ireturn, 1, 0, 0)]
/-- GhostTrain.isSheet(I)Z -/
def mj_p84 : List (Nat × mj_I) := [(0, .iload_n 0, 1, 0, 0), (1, .ifCond .lt 12, 3, 13, 0), (4, .iload_n 0, 1, 0, 0), (5, .iconst 4, 1, 0, 0), (6, .if_icmp .ge 7, 3, 13, 0), (9, .iconst 1, 1, 0, 0), (10, .goto 4, 3, 14, 0), (13, .iconst 0, 1, 0, 0), (14, .ireturn, 1, 0, 0)]
/-- GhostTrain$Sheet.isMissing()Z -/
def mj_p85 : List (Nat × mj_I) := [(0, .aload_n 0, 1, 0, 0), (1, .getfield 15, 3, 7, 1), (4, .iconst (-1), 1, 0, 0), (5, .if_icmp .ne 7, 3, 12, 0), (8, .iconst 1, 1, 0, 0), (9, .goto 4, 3, 13, 0), (12, .iconst 0, 1, 0, 0), (13, .ireturn, 1, 0, 0)]
/-- GhostTrain.differencesWith(IILGhostTrain$Sheet;)I -/
def mj_p86 : List (Nat × mj_I) := [(0, .aload_n 0, 1, 0, 0), (1, .getfield 53, 3, 11, 4), (4, .aload_n 0, 1, 0, 0), (5, .getfield 49, 3, 11, 3), (8, .invokevirtual 175, 3, 70, 1), (11, .aload_n 0, 1, 0, 0), (12, .getfield 53, 3, 11, 4), (15, .getfield 108, 3, 6, 3), (18, .iconst 2, 1, 0, 0), (19, .aaload, 1, 0, 0), (20, .iload_n 2, 1, 0, 0), (21, .iload_n 1, 1, 0, 0), (22, .iastore, 1, 0, 0), (23, .iconst 0, 1, 0, 0), (24, .istore 4, 2, 0, 0), (26, .iconst 0, 1, 0, 0), (27, .istore 5, 2, 0, 0), (29, .iload 5, 2, 0, 0), (31, .aload_n 3, 1, 0, 0), (32, .getfield 253, 3, 7, 2), (35, .if_icmp .ge 58, 3, 93, 0), (38, .iload 5, 2, 0, 0), (40, .ifCond .le 11, 3, 51, 0), (43, .aload_n 0, 1, 0, 0), (44, .getfield 53, 3, 11, 4), (47, .iconst 1, 1, 0, 0), (48, .invokevirtual 168, 3, 63, 1), (51, .aload_n 3, 1, 0, 0), (52, .iload 5, 2, 0, 0), (54, .invokevirtual 259, 3, 87, 1), (57, .ifCond .eq 30, 3, 87, 0), (60, .iload 4, 2, 0, 0), (62, .aload_n 0, 1, 0, 0), (63, .getfield 53, 3, 11, 4), (66, .getfield 108, 3, 6, 3), (69, .iconst 1, 1, 0, 0), (70, .aaload, 1, 0, 0), (71, .iload_n 2, 1, 0, 0), (72, .iaload, 1, 0, 0), (73, .aload_n 3, 1, 0, 0), (74, .getfield 250, 3, 7, 0), (77, .iload 5, 2, 0, 0), (79, .iaload, 1, 0, 0), (80, .isub, 1, 0, 0), (81, .invokestatic 295, 3, 3007, 1), (84, .iadd, 1, 0, 0), (85, .istore 4, 2, 0, 0), (87, .iinc 5 1, 3, 0, 0), (90, .goto (-61), 3, 29, 0), (93, .iload 4, 2, 0, 0), (95, .ireturn, 1, 0, 0)]
/-- GhostTrain$Sheet.isNumber(I)Z -/
def mj_p87 : List (Nat × mj_I) := [(0, .aload_n 0, 1, 0, 0), (1, .getfield 9, 3, 7, 0), (4, .iload_n 1, 1, 0, 0), (5, .iaload, 1, 0, 0), (6, .ldc 22, 2, 3294967291, 0), (8, .if_icmp .eq 7, 3, 15, 0), (11, .iconst 1, 1, 0, 0), (12, .goto 4, 3, 16, 0), (15, .iconst 0, 1, 0, 0), (16, .ireturn, 1, 0, 0)]
/-- GhostTrain.fee()I -/
def mj_p88 : List (Nat × mj_I) := [(0, .aload_n 0, 1, 0, 0), (1, .getfield 49, 3, 11, 3), (4, .iconst 3, 1, 0, 0), (5, .invokevirtual 162, 3, 62, 1), (8, .istore_n 1, 1, 0, 0), (9, .aload_n 0, 1, 0, 0), (10, .getfield 49, 3, 11, 3), (13, .getfield 209, 3, 6, 4), (16, .iconst 1, 1, 0, 0), (17, .iaload, 1, 0, 0), (18, .istore_n 2, 1, 0, 0), (19, .iload_n 2, 1, 0, 0), (20, .ifCond .ge 7, 3, 27, 0), (23, .iload_n 1, 1, 0, 0), (24, .goto 21, 3, 45, 0), (27, .aload_n 0, 1, 0, 0), (28, .getfield 33, 3, 11, 1), (31, .iload_n 2, 1, 0, 0), (32, .aaload, 1, 0, 0), (33, .iload_n 1, 1, 0, 0), (34, .aload_n 0, 1, 0, 0), (35, .getfield 49, 3, 11, 3), (38, .getfield 165, 3, 6, 7), (41, .iconst 0, 1, 0, 0), (42, .invokevirtual 212, 3, 22, 3), (45, .ireturn, 1, 0, 0)]
/-- GhostTrain.fine(I)I -/
def mj_p89 : List (Nat × mj_I) := [(0, .aload_n 0, 1, 0, 0), (1, .iload_n 1, 1, 0, 0), (2, .invokevirtual 105, 3, 19, 1), (5, .ifCond .ne 6, 3, 11, 0), (8, .ldc 96, 2, 3294967295, 0), (10, .ireturn, 1, 0, 0), (11, .aload_n 0, 1, 0, 0), (12, .getfield 49, 3, 11, 3), (15, .getfield 108, 3, 6, 3), (18, .iconst 4, 1, 0, 0), (19, .aaload, 1, 0, 0), (20, .iload_n 1, 1, 0, 0), (21, .iaload, 1, 0, 0), (22, .istore_n 2, 1, 0, 0), (23, .aload_n 0, 1, 0, 0), (24, .getfield 49, 3, 11, 3), (27, .getfield 209, 3, 6, 4), (30, .iconst 2, 1, 0, 0), (31, .iaload, 1, 0, 0), (32, .istore_n 3, 1, 0, 0), (33, .iload_n 3, 1, 0, 0), (34, .ifCond .ge 7, 3, 41, 0), (37, .iload_n 2, 1, 0, 0), (38, .goto 25, 3, 63, 0), (41, .aload_n 0, 1, 0, 0), (42, .getfield 33, 3, 11, 1), (45, .iload_n 3, 1, 0, 0), (46, .aaload, 1, 0, 0), (47, .aload_n 0, 1, 0, 0), (48, .getfield 49, 3, 11, 3), (51, .getfield 108, 3, 6, 3), (54, .iconst 1, 1, 0, 0), (55, .aaload, 1, 0, 0), (56, .iload_n 1, 1, 0, 0), (57, .iaload, 1, 0, 0), (58, .iload_n 2, 1, 0, 0), (59, .iconst 0, 1, 0, 0), (60, .invokevirtual 212, 3, 22, 3), (63, .ireturn, 1, 0, 0)]
/-- GhostTrain.feed(III)I -/
def mj_p90 : List (Nat × mj_I) := [(0, .aload_n 0, 1, 0, 0), (1, .getfield 40, 3, 11, 2), (4, .getfield 215, 3, 9, 1), (7, .bipush 84, 2, 0, 0), (9, .if_icmp .le 6, 3, 15, 0), (12, .ldc 100, 2, 3294967293, 0), (14, .ireturn, 1, 0, 0), (15, .aload_n 0, 1, 0, 0), (16, .getfield 40, 3, 11, 2), (19, .iload_n 1, 1, 0, 0), (20, .invokevirtual 218, 3, 91, 1), (23, .aload_n 0, 1, 0, 0), (24, .getfield 40, 3, 11, 2), (27, .iload_n 2, 1, 0, 0), (28, .invokevirtual 218, 3, 91, 1), (31, .aload_n 0, 1, 0, 0), (32, .getfield 40, 3, 11, 2), (35, .iload_n 3, 1, 0, 0), (36, .invokevirtual 218, 3, 91, 1), (39, .aload_n 0, 1, 0, 0), (40, .getfield 40, 3, 11, 2), (43, .getfield 215, 3, 9, 1), (46, .ireturn, 1, 0, 0)]
/-- GhostTrain$Tape.addFour(I)V -/
def mj_p91 : List (Nat × mj_I) := [(0, .bipush 24, 2, 0, 0), (2, .istore_n 2, 1, 0, 0), (3, .iload_n 2, 1, 0, 0), (4, .ifCond .lt 47, 3, 51, 0), (7, .aload_n 0, 1, 0, 0), (8, .getfield 15, 3, 9, 1), (11, .aload_n 0, 1, 0, 0), (12, .getfield 9, 3, 9, 0), (15, .arraylength, 1, 0, 0), (16, .if_icmp .ge 29, 3, 45, 0), (19, .aload_n 0, 1, 0, 0), (20, .getfield 9, 3, 9, 0), (23, .aload_n 0, 1, 0, 0), (24, .getfield 15, 3, 9, 1), (27, .iload_n 1, 1, 0, 0), (28, .iload_n 2, 1, 0, 0), (29, .iushr, 1, 0, 0), (30, .sipush 255, 3, 0, 0), (33, .iand, 1, 0, 0), (34, .iastore, 1, 0, 0), (35, .aload_n 0, 1, 0, 0), (36, .dup, 1, 0, 0), (37, .getfield 15, 3, 9, 1), (40, .iconst 1, 1, 0, 0), (41, .iadd, 1, 0, 0), (42, .putfield 15, 3, 9, 1), (45, .iinc 2 (-8), 3, 0, 0), (48, .goto (-45), 3, 3, 0), (51, .return_, 1, 0, 0)]
/-- GhostTrain.trim(I)I -/
def mj_p92 : List (Nat × mj_I) := [(0, .iload_n 1, 1, 0, 0), (1, .iconst 0, 1, 0, 0), (2, .aload_n 0, 1, 0, 0), (3, .getfield 40, 3, 11, 2), (6, .getfield 215, 3, 9, 1), (9, .invokestatic 141, 3, 16, 3), (12, .ifCond .ne 6, 3, 18, 0), (15, .ldc 96, 2, 3294967295, 0), (17, .ireturn, 1, 0, 0), (18, .aload_n 0, 1, 0, 0), (19, .getfield 40, 3, 11, 2), (22, .iload_n 1, 1, 0, 0), (23, .putfield 215, 3, 9, 1), (26, .iload_n 1, 1, 0, 0), (27, .ireturn, 1, 0, 0)]
/-- GhostTrain.text()I -/
def mj_p93 : List (Nat × mj_I) := [(0, .aload_n 0, 1, 0, 0), (1, .getfield 49, 3, 11, 3), (4, .getfield 221, 3, 6, 9), (7, .istore_n 1, 1, 0, 0), (8, .aload_n 0, 1, 0, 0), (9, .getfield 40, 3, 11, 2), (12, .aload_n 0, 1, 0, 0), (13, .getfield 33, 3, 11, 1), (16, .iload_n 1, 1, 0, 0), (17, .aaload, 1, 0, 0), (18, .invokevirtual 224, 3, 94, 1), (21, .istore_n 2, 1, 0, 0), (22, .aload_n 0, 1, 0, 0), (23, .getfield 40, 3, 11, 2), (26, .iconst 0, 1, 0, 0), (27, .putfield 215, 3, 9, 1), (30, .iload_n 2, 1, 0, 0), (31, .ifCond .ne 14, 3, 45, 0), (34, .bipush (-100), 2, 0, 0), (36, .aload_n 0, 1, 0, 0), (37, .getfield 40, 3, 11, 2), (40, .getfield 228, 3, 9, 2), (43, .isub, 1, 0, 0), (44, .ireturn, 1, 0, 0), (45, .iload_n 1, 1, 0, 0), (46, .bipush 14, 2, 0, 0), (48, .if_icmp .lt 6, 3, 54, 0), (51, .ldc 100, 2, 3294967293, 0), (53, .ireturn, 1, 0, 0), (54, .aload_n 0, 1, 0, 0), (55, .getfield 49, 3, 11, 3), (58, .getfield 209, 3, 6, 4), (61, .aload_n 0, 1, 0, 0), (62, .getfield 33, 3, 11, 1), (65, .iload_n 1, 1, 0, 0), (66, .aaload, 1, 0, 0), (67, .getfield 231, 3, 10, 3), (70, .iload_n 1, 1, 0, 0), (71, .iastore, 1, 0, 0), (72, .aload_n 0, 1, 0, 0), (73, .getfield 49, 3, 11, 3), (76, .iload_n 1, 1, 0, 0), (77, .iconst 1, 1, 0, 0), (78, .iadd, 1, 0, 0), (79, .putfield 221, 3, 6, 9), (82, .iload_n 1, 1, 0, 0), (83, .ireturn, 1, 0, 0)]
/-- GhostTrain$Tape.readInto(LGhostTrain$Text;)Z -/
def mj_p94 : List (Nat × mj_I) := [(0, .aload_n 0, 1, 0, 0), (1, .iconst 0, 1, 0, 0), (2, .putfield 22, 3, 9, 3), (5, .aload_n 0, 1, 0, 0), (6, .iconst 0, 1, 0, 0), (7, .putfield 25, 3, 9, 4), (10, .aload_n 0, 1, 0, 0), (11, .invokevirtual 28, 3, 95, 0), (14, .aload_n 0, 1, 0, 0), (15, .invokevirtual 31, 3, 97, 0), (18, .istore_n 2, 1, 0, 0), (19, .iload_n 2, 1, 0, 0), (20, .ifCond .ge 5, 3, 25, 0), (23, .iconst 0, 1, 0, 0), (24, .ireturn, 1, 0, 0), (25, .aload_n 1, 1, 0, 0), (26, .iload_n 2, 1, 0, 0), (27, .invokevirtual 35, 3, 99, 1), (30, .aload_n 0, 1, 0, 0), (31, .invokevirtual 28, 3, 95, 0), (34, .aload_n 0, 1, 0, 0), (35, .aload_n 1, 1, 0, 0), (36, .iconst 0, 1, 0, 0), (37, .iconst 0, 1, 0, 0), (38, .iconst 0, 1, 0, 0), (39, .invokevirtual 41, 3, 100, 4), (42, .ifCond .eq 14, 3, 56, 0), (45, .aload_n 0, 1, 0, 0), (46, .getfield 25, 3, 9, 4), (49, .ifCond .ne 7, 3, 56, 0), (52, .iconst 1, 1, 0, 0), (53, .goto 4, 3, 57, 0), (56, .iconst 0, 1, 0, 0), (57, .ireturn, 1, 0, 0)]
/-- GhostTrain$Tape.advance()V -/
def mj_p95 : List (Nat × mj_I) := [(0, .aload_n 0, 1, 0, 0), (1, .getfield 25, 3, 9, 4), (4, .iconst 1, 1, 0, 0), (5, .if_icmp .eq 11, 3, 16, 0), (8, .aload_n 0, 1, 0, 0), (9, .getfield 25, 3, 9, 4), (12, .iconst 2, 1, 0, 0), (13, .if_icmp .ne 7, 3, 20, 0), (16, .iconst 1, 1, 0, 0), (17, .goto 4, 3, 21, 0), (20, .iconst 0, 1, 0, 0), (21, .istore_n 1, 1, 0, 0), (22, .aload_n 0, 1, 0, 0), (23, .getfield 22, 3, 9, 3), (26, .istore_n 2, 1, 0, 0), (27, .aload_n 0, 1, 0, 0), (28, .getfield 22, 3, 9, 3), (31, .aload_n 0, 1, 0, 0), (32, .getfield 15, 3, 9, 1), (35, .if_icmp .ge 30, 3, 65, 0), (38, .aload_n 0, 1, 0, 0), (39, .getfield 9, 3, 9, 0), (42, .aload_n 0, 1, 0, 0), (43, .getfield 22, 3, 9, 3), (46, .iaload, 1, 0, 0), (47, .bipush 32, 2, 0, 0), (49, .if_icmp .ne 16, 3, 65, 0), (52, .aload_n 0, 1, 0, 0), (53, .dup, 1, 0, 0), (54, .getfield 22, 3, 9, 3), (57, .iconst 1, 1, 0, 0), (58, .iadd, 1, 0, 0), (59, .putfield 22, 3, 9, 3), (62, .goto (-35), 3, 27, 0), (65, .iload_n 1, 1, 0, 0), (66, .ifCond .eq 15, 3, 81, 0), (69, .aload_n 0, 1, 0, 0), (70, .getfield 22, 3, 9, 3), (73, .iload_n 2, 1, 0, 0), (74, .if_icmp .ne 7, 3, 81, 0), (77, .iconst 1, 1, 0, 0), (78, .goto 4, 3, 82, 0), (81, .iconst 0, 1, 0, 0), (82, .istore_n 3, 1, 0, 0), (83, .aload_n 0, 1, 0, 0), (84, .aload_n 0, 1, 0, 0), (85, .getfield 22, 3, 9, 3), (88, .putfield 19, 3, 9, 2), (91, .aload_n 0, 1, 0, 0), (92, .getfield 19, 3, 9, 2), (95, .aload_n 0, 1, 0, 0), (96, .getfield 15, 3, 9, 1), (99, .if_icmp .lt 9, 3, 108, 0), (102, .aload_n 0, 1, 0, 0), (103, .iconst 0, 1, 0, 0), (104, .putfield 25, 3, 9, 4), (107, .return_, 1, 0, 0), (108, .aload_n 0, 1, 0, 0), (109, .aload_n 0, 1, 0, 0), (110, .getfield 9, 3, 9, 0), (113, .aload_n 0, 1, 0, 0), (114, .getfield 19, 3, 9, 2), (117, .iaload, 1, 0, 0), (118, .invokestatic 86, 3, 96, 1), (121, .putfield 25, 3, 9, 4), (124, .aload_n 0, 1, 0, 0), (125, .dup, 1, 0, 0), (126, .getfield 22, 3, 9, 3), (129, .iconst 1, 1, 0, 0), (130, .iadd, 1, 0, 0), (131, .putfield 22, 3, 9, 3), (134, .aload_n 0, 1, 0, 0), (135, .getfield 25, 3, 9, 4), (138, .iconst 3, 1, 0, 0), (139, .if_icmp .eq 46, 3, 185, 0), (142, .aload_n 0, 1, 0, 0), (143, .getfield 22, 3, 9, 3), (146, .aload_n 0, 1, 0, 0), (147, .getfield 15, 3, 9, 1), (150, .if_icmp .ge 35, 3, 185, 0), (153, .aload_n 0, 1, 0, 0), (154, .getfield 9, 3, 9, 0), (157, .aload_n 0, 1, 0, 0), (158, .getfield 22, 3, 9, 3), (161, .iaload, 1, 0, 0), (162, .invokestatic 86, 3, 96, 1), (165, .aload_n 0, 1, 0, 0), (166, .getfield 25, 3, 9, 4), (169, .if_icmp .ne 16, 3, 185, 0), (172, .aload_n 0, 1, 0, 0), (173, .dup, 1, 0, 0), (174, .getfield 22, 3, 9, 3), (177, .iconst 1, 1, 0, 0), (178, .iadd, 1, 0, 0), (179, .putfield 22, 3, 9, 3), (182, .goto (-48), 3, 134, 0), (185, .iload_n 3, 1, 0, 0), (186, .ifCond .eq 11, 3, 197, 0), (189, .aload_n 0, 1, 0, 0), (190, .getfield 25, 3, 9, 4), (193, .iconst 3, 1, 0, 0), (194, .if_icmp .ne 24, 3, 218, 0), (197, .aload_n 0, 1, 0, 0), (198, .getfield 25, 3, 9, 4), (201, .iconst 2, 1, 0, 0), (202, .if_icmp .ne 21, 3, 223, 0), (205, .aload_n 0, 1, 0, 0), (206, .getfield 22, 3, 9, 3), (209, .aload_n 0, 1, 0, 0), (210, .getfield 19, 3, 9, 2), (213, .isub, 1, 0, 0), (214, .iconst 4, 1, 0, 0), (215, .if_icmp .le 8, 3, 223, 0), (218, .aload_n 0, 1, 0, 0), (219, .iconst 4, 1, 0, 0), (220, .putfield 25, 3, 9, 4), (223, .return_, 1, 0, 0)]
/-- GhostTrain$Tape.sortOf(I)I -/
def mj_p96 : List (Nat × mj_I) := [(0, .iload_n 0, 1, 0, 0), (1, .bipush 97, 2, 0, 0), (3, .if_icmp .lt 11, 3, 14, 0), (6, .iload_n 0, 1, 0, 0), (7, .bipush 122, 2, 0, 0), (9, .if_icmp .gt 5, 3, 14, 0), (12, .iconst 1, 1, 0, 0), (13, .ireturn, 1, 0, 0), (14, .iload_n 0, 1, 0, 0), (15, .bipush 48, 2, 0, 0), (17, .if_icmp .lt 13, 3, 30, 0), (20, .iload_n 0, 1, 0, 0), (21, .bipush 57, 2, 0, 0), (23, .if_icmp .gt 7, 3, 30, 0), (26, .iconst 2, 1, 0, 0), (27, .goto 4, 3, 31, 0), (30, .iconst 3, 1, 0, 0), (31, .ireturn, 1, 0, 0)]
/-- GhostTrain$Tape.keyHere()I -/
def mj_p97 : List (Nat × mj_I) := [(0, .aload_n 0, 1, 0, 0), (1, .ldc 104, 2, 0, 1), (3, .invokevirtual 106, 3, 98, 1), (6, .ifCond .eq 5, 3, 11, 0), (9, .iconst 0, 1, 0, 0), (10, .ireturn, 1, 0, 0), (11, .aload_n 0, 1, 0, 0), (12, .ldc 109, 2, 1, 1), (14, .invokevirtual 106, 3, 98, 1), (17, .ifCond .eq 5, 3, 22, 0), (20, .iconst 1, 1, 0, 0), (21, .ireturn, 1, 0, 0), (22, .aload_n 0, 1, 0, 0), (23, .ldc 111, 2, 2, 1), (25, .invokevirtual 106, 3, 98, 1), (28, .ifCond .eq 7, 3, 35, 0), (31, .iconst 2, 1, 0, 0), (32, .goto 4, 3, 36, 0), (35, .iconst (-1), 1, 0, 0), (36, .ireturn, 1, 0, 0)]
/-- GhostTrain$Tape.isWordHere(Ljava/lang/String;)Z -/
def mj_p98 : List (Nat × mj_I) := [(0, .aload_n 0, 1, 0, 0), (1, .getfield 25, 3, 9, 4), (4, .iconst 1, 1, 0, 0), (5, .if_icmp .ne 19, 3, 24, 0), (8, .aload_n 0, 1, 0, 0), (9, .getfield 22, 3, 9, 3), (12, .aload_n 0, 1, 0, 0), (13, .getfield 19, 3, 9, 2), (16, .isub, 1, 0, 0), (17, .aload_n 1, 1, 0, 0), (18, .invokevirtual 113, 3, 3002, 0), (21, .if_icmp .eq 5, 3, 26, 0), (24, .iconst 0, 1, 0, 0), (25, .ireturn, 1, 0, 0), (26, .iconst 0, 1, 0, 0), (27, .istore_n 2, 1, 0, 0), (28, .iload_n 2, 1, 0, 0), (29, .aload_n 1, 1, 0, 0), (30, .invokevirtual 113, 3, 3002, 0), (33, .if_icmp .ge 30, 3, 63, 0), (36, .aload_n 0, 1, 0, 0), (37, .getfield 9, 3, 9, 0), (40, .aload_n 0, 1, 0, 0), (41, .getfield 19, 3, 9, 2), (44, .iload_n 2, 1, 0, 0), (45, .iadd, 1, 0, 0), (46, .iaload, 1, 0, 0), (47, .aload_n 1, 1, 0, 0), (48, .iload_n 2, 1, 0, 0), (49, .invokevirtual 115, 3, 3003, 1), (52, .if_icmp .eq 5, 3, 57, 0), (55, .iconst 0, 1, 0, 0), (56, .ireturn, 1, 0, 0), (57, .iinc 2 1, 3, 0, 0), (60, .goto (-32), 3, 28, 0), (63, .iconst 1, 1, 0, 0), (64, .ireturn, 1, 0, 0)]
/-- GhostTrain$Text.begin(I)V -/
def mj_p99 : List (Nat × mj_I) := [(0, .aload_n 0, 1, 0, 0), (1, .iload_n 1, 1, 0, 0), (2, .putfield 22, 3, 10, 3), (5, .aload_n 0, 1, 0, 0), (6, .iconst 0, 1, 0, 0), (7, .putfield 18, 3, 10, 2), (10, .aload_n 0, 1, 0, 0), (11, .iconst 0, 1, 0, 0), (12, .putfield 25, 3, 10, 4), (15, .return_, 1, 0, 0)]
/-- GhostTrain$Tape.readLevel(LGhostTrain$Text;III)Z -/
def mj_p100 : List (Nat × mj_I) := [(0, .iload_n 2, 1, 0, 0), (1, .iconst 5, 1, 0, 0), (2, .if_icmp .lt 12, 3, 14, 0), (5, .aload_n 0, 1, 0, 0), (6, .aload_n 1, 1, 0, 0), (7, .iload_n 3, 1, 0, 0), (8, .iload 4, 2, 0, 0), (10, .invokevirtual 45, 3, 101, 3), (13, .ireturn, 1, 0, 0), (14, .aload_n 0, 1, 0, 0), (15, .aload_n 1, 1, 0, 0), (16, .iload_n 2, 1, 0, 0), (17, .iconst 1, 1, 0, 0), (18, .iadd, 1, 0, 0), (19, .iload_n 3, 1, 0, 0), (20, .iload 4, 2, 0, 0), (22, .invokevirtual 41, 3, 100, 4), (25, .ifCond .ne 5, 3, 30, 0), (28, .iconst 0, 1, 0, 0), (29, .ireturn, 1, 0, 0), (30, .iload_n 2, 1, 0, 0), (31, .iconst 2, 1, 0, 0), (32, .if_icmp .ne 7, 3, 39, 0), (35, .iconst 1, 1, 0, 0), (36, .goto 7, 3, 43, 0), (39, .aload_n 0, 1, 0, 0), (40, .getfield 15, 3, 9, 1), (43, .istore 5, 2, 0, 0), (45, .iconst 0, 1, 0, 0), (46, .istore 6, 2, 0, 0), (48, .iload 6, 2, 0, 0), (50, .iload 5, 2, 0, 0), (52, .if_icmp .ge 57, 3, 109, 0), (55, .aload_n 0, 1, 0, 0), (56, .iload_n 2, 1, 0, 0), (57, .invokestatic 49, 3, 110, 1), (60, .invokevirtual 53, 3, 102, 1), (63, .ifCond .eq 46, 3, 109, 0), (66, .aload_n 0, 1, 0, 0), (67, .getfield 9, 3, 9, 0), (70, .aload_n 0, 1, 0, 0), (71, .getfield 19, 3, 9, 2), (74, .iaload, 1, 0, 0), (75, .istore 7, 2, 0, 0), (77, .aload_n 0, 1, 0, 0), (78, .invokevirtual 28, 3, 95, 0), (81, .aload_n 0, 1, 0, 0), (82, .aload_n 1, 1, 0, 0), (83, .iload_n 2, 1, 0, 0), (84, .iconst 1, 1, 0, 0), (85, .iadd, 1, 0, 0), (86, .iload_n 3, 1, 0, 0), (87, .iload 4, 2, 0, 0), (89, .invokevirtual 41, 3, 100, 4), (92, .ifCond .ne 5, 3, 97, 0), (95, .iconst 0, 1, 0, 0), (96, .ireturn, 1, 0, 0), (97, .aload_n 1, 1, 0, 0), (98, .iload 7, 2, 0, 0), (100, .invokevirtual 57, 3, 103, 1), (103, .iinc 6 1, 3, 0, 0), (106, .goto (-58), 3, 48, 0), (109, .iconst 1, 1, 0, 0), (110, .ireturn, 1, 0, 0)]
/-- GhostTrain$Tape.readPiece(LGhostTrain$Text;II)Z -/
def mj_p101 : List (Nat × mj_I) := [(0, .aload_n 0, 1, 0, 0), (1, .ldc 60, 2, 3, 1), (3, .invokevirtual 53, 3, 102, 1), (6, .ifCond .eq 35, 3, 41, 0), (9, .iload_n 3, 1, 0, 0), (10, .bipush 8, 2, 0, 0), (12, .if_icmp .ge 29, 3, 41, 0), (15, .aload_n 0, 1, 0, 0), (16, .invokevirtual 28, 3, 95, 0), (19, .aload_n 0, 1, 0, 0), (20, .aload_n 1, 1, 0, 0), (21, .iload_n 2, 1, 0, 0), (22, .iload_n 3, 1, 0, 0), (23, .iconst 1, 1, 0, 0), (24, .iadd, 1, 0, 0), (25, .invokevirtual 45, 3, 101, 3), (28, .ifCond .ne 5, 3, 33, 0), (31, .iconst 0, 1, 0, 0), (32, .ireturn, 1, 0, 0), (33, .aload_n 1, 1, 0, 0), (34, .bipush 33, 2, 0, 0), (36, .invokevirtual 57, 3, 103, 1), (39, .iconst 1, 1, 0, 0), (40, .ireturn, 1, 0, 0), (41, .aload_n 0, 1, 0, 0), (42, .ldc 62, 2, 4, 1), (44, .invokevirtual 53, 3, 102, 1), (47, .ifCond .eq 43, 3, 90, 0), (50, .iload_n 2, 1, 0, 0), (51, .bipush 8, 2, 0, 0), (53, .if_icmp .ge 37, 3, 90, 0), (56, .aload_n 0, 1, 0, 0), (57, .invokevirtual 28, 3, 95, 0), (60, .aload_n 0, 1, 0, 0), (61, .aload_n 1, 1, 0, 0), (62, .iconst 0, 1, 0, 0), (63, .iload_n 2, 1, 0, 0), (64, .iconst 1, 1, 0, 0), (65, .iadd, 1, 0, 0), (66, .iload_n 3, 1, 0, 0), (67, .invokevirtual 41, 3, 100, 4), (70, .ifCond .eq 12, 3, 82, 0), (73, .aload_n 0, 1, 0, 0), (74, .ldc 64, 2, 5, 1), (76, .invokevirtual 53, 3, 102, 1), (79, .ifCond .ne 5, 3, 84, 0), (82, .iconst 0, 1, 0, 0), (83, .ireturn, 1, 0, 0), (84, .aload_n 0, 1, 0, 0), (85, .invokevirtual 28, 3, 95, 0), (88, .iconst 1, 1, 0, 0), (89, .ireturn, 1, 0, 0), (90, .aload_n 0, 1, 0, 0), (91, .aload_n 1, 1, 0, 0), (92, .invokevirtual 66, 3, 105, 1), (95, .ireturn, 1, 0, 0)]
/-- GhostTrain$Tape.isOneOf(Ljava/lang/String;)Z -/
def mj_p102 : List (Nat × mj_I) := [(0, .aload_n 0, 1, 0, 0), (1, .getfield 25, 3, 9, 4), (4, .iconst 3, 1, 0, 0), (5, .if_icmp .ne 24, 3, 29, 0), (8, .aload_n 1, 1, 0, 0), (9, .aload_n 0, 1, 0, 0), (10, .getfield 9, 3, 9, 0), (13, .aload_n 0, 1, 0, 0), (14, .getfield 19, 3, 9, 2), (17, .iaload, 1, 0, 0), (18, .i2c, 1, 0, 0), (19, .invokevirtual 99, 3, 3004, 1), (22, .ifCond .lt 7, 3, 29, 0), (25, .iconst 1, 1, 0, 0), (26, .goto 4, 3, 30, 0), (29, .iconst 0, 1, 0, 0), (30, .ireturn, 1, 0, 0)]
/-- GhostTrain$Text.addSign(I)V -/
def mj_p103 : List (Nat × mj_I) := [(0, .aload_n 0, 1, 0, 0), (1, .sipush 10000, 3, 0, 0), (4, .iload_n 1, 1, 0, 0), (5, .iadd, 1, 0, 0), (6, .invokevirtual 28, 3, 104, 1), (9, .return_, 1, 0, 0)]
/-- GhostTrain$Text.add(I)V -/
def mj_p104 : List (Nat × mj_I) := [(0, .aload_n 0, 1, 0, 0), (1, .getfield 18, 3, 10, 2), (4, .aload_n 0, 1, 0, 0), (5, .getfield 9, 3, 10, 0), (8, .arraylength, 1, 0, 0), (9, .if_icmp .ge 23, 3, 32, 0), (12, .aload_n 0, 1, 0, 0), (13, .getfield 9, 3, 10, 0), (16, .aload_n 0, 1, 0, 0), (17, .getfield 18, 3, 10, 2), (20, .iload_n 1, 1, 0, 0), (21, .iastore, 1, 0, 0), (22, .aload_n 0, 1, 0, 0), (23, .dup, 1, 0, 0), (24, .getfield 18, 3, 10, 2), (27, .iconst 1, 1, 0, 0), (28, .iadd, 1, 0, 0), (29, .putfield 18, 3, 10, 2), (32, .return_, 1, 0, 0)]
/-- GhostTrain$Tape.readOperand(LGhostTrain$Text;)Z -/
def mj_p105 : List (Nat × mj_I) := [(0, .aload_n 0, 1, 0, 0), (1, .aload_n 1, 1, 0, 0), (2, .getfield 70, 3, 10, 3), (5, .invokevirtual 73, 3, 106, 1), (8, .istore_n 2, 1, 0, 0), (9, .aload_n 0, 1, 0, 0), (10, .getfield 25, 3, 9, 4), (13, .iconst 2, 1, 0, 0), (14, .if_icmp .ne 14, 3, 28, 0), (17, .aload_n 1, 1, 0, 0), (18, .aload_n 0, 1, 0, 0), (19, .invokevirtual 77, 3, 107, 0), (22, .invokevirtual 80, 3, 108, 1), (25, .goto 17, 3, 42, 0), (28, .iload_n 2, 1, 0, 0), (29, .ifCond .lt 11, 3, 40, 0), (32, .aload_n 1, 1, 0, 0), (33, .iload_n 2, 1, 0, 0), (34, .invokevirtual 83, 3, 109, 1), (37, .goto 5, 3, 42, 0), (40, .iconst 0, 1, 0, 0), (41, .ireturn, 1, 0, 0), (42, .aload_n 0, 1, 0, 0), (43, .invokevirtual 28, 3, 95, 0), (46, .iconst 1, 1, 0, 0), (47, .ireturn, 1, 0, 0)]
/-- GhostTrain$Tape.nameHere(I)I -/
def mj_p106 : List (Nat × mj_I) := [(0, .aload_n 0, 1, 0, 0), (1, .getfield 25, 3, 9, 4), (4, .iconst 1, 1, 0, 0), (5, .if_icmp .ne 16, 3, 21, 0), (8, .aload_n 0, 1, 0, 0), (9, .getfield 22, 3, 9, 3), (12, .aload_n 0, 1, 0, 0), (13, .getfield 19, 3, 9, 2), (16, .isub, 1, 0, 0), (17, .iconst 1, 1, 0, 0), (18, .if_icmp .eq 5, 3, 23, 0), (21, .iconst (-1), 1, 0, 0), (22, .ireturn, 1, 0, 0), (23, .iload_n 1, 1, 0, 0), (24, .ifCond .ne 8, 3, 32, 0), (27, .ldc 119, 2, 6, 1), (29, .goto 15, 3, 44, 0), (32, .iload_n 1, 1, 0, 0), (33, .iconst 1, 1, 0, 0), (34, .if_icmp .ne 8, 3, 42, 0), (37, .ldc 121, 2, 7, 1), (39, .goto 5, 3, 44, 0), (42, .ldc 123, 2, 8, 1), (44, .astore_n 2, 1, 0, 0), (45, .aload_n 2, 1, 0, 0), (46, .aload_n 0, 1, 0, 0), (47, .getfield 9, 3, 9, 0), (50, .aload_n 0, 1, 0, 0), (51, .getfield 19, 3, 9, 2), (54, .iaload, 1, 0, 0), (55, .i2c, 1, 0, 0), (56, .invokevirtual 99, 3, 3004, 1), (59, .ireturn, 1, 0, 0)]
/-- GhostTrain$Tape.numberHere()I -/
def mj_p107 : List (Nat × mj_I) := [(0, .iconst 0, 1, 0, 0), (1, .istore_n 1, 1, 0, 0), (2, .aload_n 0, 1, 0, 0), (3, .getfield 19, 3, 9, 2), (6, .istore_n 2, 1, 0, 0), (7, .iload_n 2, 1, 0, 0), (8, .aload_n 0, 1, 0, 0), (9, .getfield 22, 3, 9, 3), (12, .if_icmp .ge 24, 3, 36, 0), (15, .bipush 10, 2, 0, 0), (17, .iload_n 1, 1, 0, 0), (18, .imul, 1, 0, 0), (19, .aload_n 0, 1, 0, 0), (20, .getfield 9, 3, 9, 0), (23, .iload_n 2, 1, 0, 0), (24, .iaload, 1, 0, 0), (25, .iadd, 1, 0, 0), (26, .bipush 48, 2, 0, 0), (28, .isub, 1, 0, 0), (29, .istore_n 1, 1, 0, 0), (30, .iinc 2 1, 3, 0, 0), (33, .goto (-26), 3, 7, 0), (36, .iload_n 1, 1, 0, 0), (37, .ireturn, 1, 0, 0)]
/-- GhostTrain$Text.addNumber(I)V -/
def mj_p108 : List (Nat × mj_I) := [(0, .aload_n 0, 1, 0, 0), (1, .iload_n 1, 1, 0, 0), (2, .invokevirtual 28, 3, 104, 1), (5, .aload_n 0, 1, 0, 0), (6, .dup, 1, 0, 0), (7, .getfield 25, 3, 10, 4), (10, .iconst 1, 1, 0, 0), (11, .iadd, 1, 0, 0), (12, .putfield 25, 3, 10, 4), (15, .return_, 1, 0, 0)]
/-- GhostTrain$Text.addName(I)V -/
def mj_p109 : List (Nat × mj_I) := [(0, .aload_n 0, 1, 0, 0), (1, .iconst (-1), 1, 0, 0), (2, .iload_n 1, 1, 0, 0), (3, .isub, 1, 0, 0), (4, .invokevirtual 28, 3, 104, 1), (7, .aload_n 0, 1, 0, 0), (8, .dup, 1, 0, 0), (9, .getfield 25, 3, 10, 4), (12, .iconst 1, 1, 0, 0), (13, .iadd, 1, 0, 0), (14, .putfield 25, 3, 10, 4), (17, .return_, 1, 0, 0)]
/-- GhostTrain$Tape.operatorsOf(I)Ljava/lang/String; -/
def mj_p110 : List (Nat × mj_I) := [(0, .iload_n 0, 1, 0, 0), (1, .tableswitch 43 0 3 #[31, 34, 37, 40], 31, 0, 0), (32, .ldc 89, 2, 9, 1), (34, .areturn, 1, 0, 0), (35, .ldc 91, 2, 10, 1), (37, .areturn, 1, 0, 0), (38, .ldc 93, 2, 11, 1), (40, .areturn, 1, 0, 0), (41, .ldc 95, 2, 12, 1), (43, .areturn, 1, 0, 0), (44, .ldc 97, 2, 13, 1), (46, .areturn, 1, 0, 0)]
/-- GhostTrain.textTold(II)I -/
def mj_p111 : List (Nat × mj_I) := [(0, .iload_n 1, 1, 0, 0), (1, .iconst 0, 1, 0, 0), (2, .aload_n 0, 1, 0, 0), (3, .getfield 49, 3, 11, 3), (6, .getfield 221, 3, 6, 9), (9, .iconst 1, 1, 0, 0), (10, .isub, 1, 0, 0), (11, .invokestatic 141, 3, 16, 3), (14, .ifCond .eq 12, 3, 26, 0), (17, .iload_n 2, 1, 0, 0), (18, .iconst 0, 1, 0, 0), (19, .iconst 1, 1, 0, 0), (20, .invokestatic 141, 3, 16, 3), (23, .ifCond .ne 6, 3, 29, 0), (26, .ldc 96, 2, 3294967295, 0), (28, .ireturn, 1, 0, 0), (29, .iload_n 2, 1, 0, 0), (30, .ifCond .ne 15, 3, 45, 0), (33, .aload_n 0, 1, 0, 0), (34, .getfield 33, 3, 11, 1), (37, .iload_n 1, 1, 0, 0), (38, .aaload, 1, 0, 0), (39, .getfield 231, 3, 10, 3), (42, .goto 12, 3, 54, 0), (45, .aload_n 0, 1, 0, 0), (46, .getfield 33, 3, 11, 1), (49, .iload_n 1, 1, 0, 0), (50, .aaload, 1, 0, 0), (51, .getfield 234, 3, 10, 4), (54, .ireturn, 1, 0, 0)]
/-- GhostTrain.why(I)I -/
def mj_p112 : List (Nat × mj_I) := [(0, .iload_n 1, 1, 0, 0), (1, .iconst 0, 1, 0, 0), (2, .iconst 2, 1, 0, 0), (3, .invokestatic 141, 3, 16, 3), (6, .ifCond .ne 6, 3, 12, 0), (9, .ldc 96, 2, 3294967295, 0), (11, .ireturn, 1, 0, 0), (12, .aload_n 0, 1, 0, 0), (13, .getfield 49, 3, 11, 3), (16, .getfield 209, 3, 6, 4), (19, .iload_n 1, 1, 0, 0), (20, .iaload, 1, 0, 0), (21, .ifCond .ge 8, 3, 29, 0), (24, .ldc 179, 2, 3294967291, 0), (26, .goto 12, 3, 38, 0), (29, .aload_n 0, 1, 0, 0), (30, .getfield 49, 3, 11, 3), (33, .getfield 209, 3, 6, 4), (36, .iload_n 1, 1, 0, 0), (37, .iaload, 1, 0, 0), (38, .ireturn, 1, 0, 0)]
/-- GhostTrain.sheet(III)I -/
def mj_p113 : List (Nat × mj_I) := [(0, .iload_n 1, 1, 0, 0), (1, .invokestatic 197, 3, 84, 1), (4, .ifCond .eq 23, 3, 27, 0), (7, .iload_n 2, 1, 0, 0), (8, .iconst (-1), 1, 0, 0), (9, .iconst 1, 1, 0, 0), (10, .invokestatic 141, 3, 16, 3), (13, .ifCond .eq 14, 3, 27, 0), (16, .iload_n 2, 1, 0, 0), (17, .iconst (-1), 1, 0, 0), (18, .if_icmp .eq 12, 3, 30, 0), (21, .iload_n 3, 1, 0, 0), (22, .bipush 24, 2, 0, 0), (24, .if_icmp .le 6, 3, 30, 0), (27, .ldc 96, 2, 3294967295, 0), (29, .ireturn, 1, 0, 0), (30, .iload_n 2, 1, 0, 0), (31, .iconst (-1), 1, 0, 0), (32, .if_icmp .eq 10, 3, 42, 0), (35, .iload_n 3, 1, 0, 0), (36, .ifCond .ge 6, 3, 42, 0), (39, .ldc 237, 2, 3294967282, 0), (41, .ireturn, 1, 0, 0), (42, .iload_n 2, 1, 0, 0), (43, .iconst (-1), 1, 0, 0), (44, .if_icmp .ne 7, 3, 51, 0), (47, .iconst 0, 1, 0, 0), (48, .goto 4, 3, 52, 0), (51, .iload_n 3, 1, 0, 0), (52, .istore 4, 2, 0, 0), (54, .aload_n 0, 1, 0, 0), (55, .getfield 65, 3, 11, 7), (58, .iload_n 1, 1, 0, 0), (59, .aaload, 1, 0, 0), (60, .iload_n 2, 1, 0, 0), (61, .iload 4, 2, 0, 0), (63, .invokevirtual 238, 3, 114, 2), (66, .iload 4, 2, 0, 0), (68, .ireturn, 1, 0, 0)]
/-- GhostTrain$Sheet.renew(II)V -/
def mj_p114 : List (Nat × mj_I) := [(0, .aload_n 0, 1, 0, 0), (1, .iload_n 1, 1, 0, 0), (2, .putfield 15, 3, 7, 1), (5, .aload_n 0, 1, 0, 0), (6, .iload_n 2, 1, 0, 0), (7, .putfield 19, 3, 7, 2), (10, .iconst 0, 1, 0, 0), (11, .istore_n 3, 1, 0, 0), (12, .iload_n 3, 1, 0, 0), (13, .aload_n 0, 1, 0, 0), (14, .getfield 19, 3, 7, 2), (17, .if_icmp .ge 16, 3, 33, 0), (20, .aload_n 0, 1, 0, 0), (21, .getfield 9, 3, 7, 0), (24, .iload_n 3, 1, 0, 0), (25, .iconst 0, 1, 0, 0), (26, .iastore, 1, 0, 0), (27, .iinc 3 1, 3, 0, 0), (30, .goto (-18), 3, 12, 0), (33, .return_, 1, 0, 0)]
/-- GhostTrain.mark(III)I -/
def mj_p115 : List (Nat × mj_I) := [(0, .iload_n 1, 1, 0, 0), (1, .invokestatic 197, 3, 84, 1), (4, .ifCond .ne 6, 3, 10, 0), (7, .ldc 96, 2, 3294967295, 0), (9, .ireturn, 1, 0, 0), (10, .aload_n 0, 1, 0, 0), (11, .getfield 65, 3, 11, 7), (14, .iload_n 1, 1, 0, 0), (15, .aaload, 1, 0, 0), (16, .astore 4, 2, 0, 0), (18, .aload 4, 2, 0, 0), (20, .invokevirtual 200, 3, 85, 0), (23, .ifCond .eq 6, 3, 29, 0), (26, .ldc 204, 2, 3294967285, 0), (28, .ireturn, 1, 0, 0), (29, .aload 4, 2, 0, 0), (31, .iload_n 2, 1, 0, 0), (32, .iconst 1, 1, 0, 0), (33, .invokevirtual 241, 3, 116, 2), (36, .ifCond .ne 6, 3, 42, 0), (39, .ldc 244, 2, 3294967283, 0), (41, .ireturn, 1, 0, 0), (42, .aload 4, 2, 0, 0), (44, .getfield 245, 3, 7, 1), (47, .ifCond .ne 12, 3, 59, 0), (50, .iload_n 3, 1, 0, 0), (51, .ldc 179, 2, 3294967291, 0), (53, .if_icmp .ne 6, 3, 59, 0), (56, .ldc 140, 2, 3294967284, 0), (58, .ireturn, 1, 0, 0), (59, .aload 4, 2, 0, 0), (61, .getfield 245, 3, 7, 1), (64, .iconst 1, 1, 0, 0), (65, .if_icmp .ne 23, 3, 88, 0), (68, .iload_n 3, 1, 0, 0), (69, .ldc 179, 2, 3294967291, 0), (71, .if_icmp .eq 17, 3, 88, 0), (74, .iload_n 3, 1, 0, 0), (75, .ldc 248, 2, 4294867297, 0), (77, .ldc 249, 2, 99999, 0), (79, .invokestatic 141, 3, 16, 3), (82, .ifCond .ne 6, 3, 88, 0), (85, .ldc 96, 2, 3294967295, 0), (87, .ireturn, 1, 0, 0), (88, .aload 4, 2, 0, 0), (90, .getfield 250, 3, 7, 0), (93, .iload_n 2, 1, 0, 0), (94, .aload 4, 2, 0, 0), (96, .getfield 245, 3, 7, 1), (99, .ifCond .ne 8, 3, 107, 0), (102, .iload_n 3, 1, 0, 0), (103, .i2s, 1, 0, 0), (104, .goto 4, 3, 108, 0), (107, .iload_n 3, 1, 0, 0), (108, .iastore, 1, 0, 0), (109, .iconst 1, 1, 0, 0), (110, .ireturn, 1, 0, 0)]
/-- GhostTrain$Sheet.has(II)Z -/
def mj_p116 : List (Nat × mj_I) := [(0, .iload_n 1, 1, 0, 0), (1, .ifCond .lt 29, 3, 30, 0), (4, .iload_n 2, 1, 0, 0), (5, .ifCond .lt 25, 3, 30, 0), (8, .iload_n 1, 1, 0, 0), (9, .aload_n 0, 1, 0, 0), (10, .getfield 19, 3, 7, 2), (13, .if_icmp .gt 17, 3, 30, 0), (16, .iload_n 2, 1, 0, 0), (17, .aload_n 0, 1, 0, 0), (18, .getfield 19, 3, 7, 2), (21, .iload_n 1, 1, 0, 0), (22, .isub, 1, 0, 0), (23, .if_icmp .gt 7, 3, 30, 0), (26, .iconst 1, 1, 0, 0), (27, .goto 4, 3, 31, 0), (30, .iconst 0, 1, 0, 0), (31, .ireturn, 1, 0, 0)]
/-- GhostTrain.pour(I)I -/
def mj_p117 : List (Nat × mj_I) := [(0, .iload_n 1, 1, 0, 0), (1, .invokestatic 197, 3, 84, 1), (4, .ifCond .ne 6, 3, 10, 0), (7, .ldc 96, 2, 3294967295, 0), (9, .ireturn, 1, 0, 0), (10, .aload_n 0, 1, 0, 0), (11, .getfield 65, 3, 11, 7), (14, .iload_n 1, 1, 0, 0), (15, .aaload, 1, 0, 0), (16, .astore_n 2, 1, 0, 0), (17, .aload_n 2, 1, 0, 0), (18, .invokevirtual 200, 3, 85, 0), (21, .ifCond .eq 6, 3, 27, 0), (24, .ldc 204, 2, 3294967285, 0), (26, .ireturn, 1, 0, 0), (27, .iconst 0, 1, 0, 0), (28, .istore_n 3, 1, 0, 0), (29, .iconst 0, 1, 0, 0), (30, .istore 4, 2, 0, 0), (32, .iload 4, 2, 0, 0), (34, .bipush 12, 2, 0, 0), (36, .if_icmp .ge 77, 3, 113, 0), (39, .iload 4, 2, 0, 0), (41, .aload_n 2, 1, 0, 0), (42, .getfield 253, 3, 7, 2), (45, .if_icmp .ge 68, 3, 113, 0), (48, .aload_n 2, 1, 0, 0), (49, .getfield 250, 3, 7, 0), (52, .iload 4, 2, 0, 0), (54, .iaload, 1, 0, 0), (55, .bipush (-9), 2, 0, 0), (57, .bipush 9, 2, 0, 0), (59, .invokestatic 256, 3, 25, 3), (62, .istore 5, 2, 0, 0), (64, .aload_n 2, 1, 0, 0), (65, .iload 4, 2, 0, 0), (67, .invokevirtual 259, 3, 87, 1), (70, .ifCond .eq 37, 3, 107, 0), (73, .aload_n 0, 1, 0, 0), (74, .getfield 49, 3, 11, 3), (77, .getfield 145, 3, 6, 2), (80, .iconst 0, 1, 0, 0), (81, .aaload, 1, 0, 0), (82, .iload 4, 2, 0, 0), (84, .iaload, 1, 0, 0), (85, .iload 5, 2, 0, 0), (87, .if_icmp .eq 20, 3, 107, 0), (90, .aload_n 0, 1, 0, 0), (91, .getfield 49, 3, 11, 3), (94, .getfield 145, 3, 6, 2), (97, .iconst 0, 1, 0, 0), (98, .aaload, 1, 0, 0), (99, .iload 4, 2, 0, 0), (101, .iload 5, 2, 0, 0), (103, .iastore, 1, 0, 0), (104, .iinc 3 1, 3, 0, 0), (107, .iinc 4 1, 3, 0, 0), (110, .goto (-78), 3, 32, 0), (113, .iload_n 3, 1, 0, 0), (114, .ireturn, 1, 0, 0)]
/-- GhostTrain.reads(I)I -/
def mj_p118 : List (Nat × mj_I) := [(0, .iload_n 1, 1, 0, 0), (1, .invokestatic 197, 3, 84, 1), (4, .ifCond .ne 6, 3, 10, 0), (7, .ldc 96, 2, 3294967295, 0), (9, .ireturn, 1, 0, 0), (10, .aload_n 0, 1, 0, 0), (11, .getfield 65, 3, 11, 7), (14, .iload_n 1, 1, 0, 0), (15, .aaload, 1, 0, 0), (16, .astore_n 2, 1, 0, 0), (17, .aload_n 2, 1, 0, 0), (18, .invokevirtual 200, 3, 85, 0), (21, .ifCond .eq 6, 3, 27, 0), (24, .ldc 204, 2, 3294967285, 0), (26, .ireturn, 1, 0, 0), (27, .iconst 0, 1, 0, 0), (28, .istore_n 3, 1, 0, 0), (29, .iload_n 3, 1, 0, 0), (30, .aload_n 2, 1, 0, 0), (31, .getfield 253, 3, 7, 2), (34, .if_icmp .ge 59, 3, 93, 0), (37, .aload_n 0, 1, 0, 0), (38, .iload_n 3, 1, 0, 0), (39, .invokevirtual 105, 3, 19, 1), (42, .ifCond .eq 27, 3, 69, 0), (45, .aload_n 2, 1, 0, 0), (46, .getfield 250, 3, 7, 0), (49, .iload_n 3, 1, 0, 0), (50, .iaload, 1, 0, 0), (51, .aload_n 0, 1, 0, 0), (52, .getfield 49, 3, 11, 3), (55, .getfield 108, 3, 6, 3), (58, .iconst 1, 1, 0, 0), (59, .aaload, 1, 0, 0), (60, .iload_n 3, 1, 0, 0), (61, .iaload, 1, 0, 0), (62, .if_icmp .ne 7, 3, 69, 0), (65, .iconst 1, 1, 0, 0), (66, .goto 4, 3, 70, 0), (69, .iconst 0, 1, 0, 0), (70, .istore 4, 2, 0, 0), (72, .aload_n 2, 1, 0, 0), (73, .iload_n 3, 1, 0, 0), (74, .invokevirtual 259, 3, 87, 1), (77, .ifCond .eq 10, 3, 87, 0), (80, .iload 4, 2, 0, 0), (82, .ifCond .ne 5, 3, 87, 0), (85, .iload_n 3, 1, 0, 0), (86, .ireturn, 1, 0, 0), (87, .iinc 3 1, 3, 0, 0), (90, .goto (-61), 3, 29, 0), (93, .ldc 179, 2, 3294967291, 0), (95, .ireturn, 1, 0, 0)]
/-- GhostTrain.copy(IIIII)I -/
def mj_p119 : List (Nat × mj_I) := [(0, .iload_n 1, 1, 0, 0), (1, .invokestatic 197, 3, 84, 1), (4, .ifCond .eq 10, 3, 14, 0), (7, .iload_n 3, 1, 0, 0), (8, .invokestatic 197, 3, 84, 1), (11, .ifCond .ne 6, 3, 17, 0), (14, .ldc 96, 2, 3294967295, 0), (16, .ireturn, 1, 0, 0), (17, .aload_n 0, 1, 0, 0), (18, .getfield 65, 3, 11, 7), (21, .iload_n 1, 1, 0, 0), (22, .aaload, 1, 0, 0), (23, .astore 6, 2, 0, 0), (25, .aload_n 0, 1, 0, 0), (26, .getfield 65, 3, 11, 7), (29, .iload_n 3, 1, 0, 0), (30, .aaload, 1, 0, 0), (31, .astore 7, 2, 0, 0), (33, .aload 6, 2, 0, 0), (35, .invokevirtual 200, 3, 85, 0), (38, .ifCond .ne 11, 3, 49, 0), (41, .aload 7, 2, 0, 0), (43, .invokevirtual 200, 3, 85, 0), (46, .ifCond .eq 6, 3, 52, 0), (49, .ldc 204, 2, 3294967285, 0), (51, .ireturn, 1, 0, 0), (52, .aload 6, 2, 0, 0), (54, .getfield 245, 3, 7, 1), (57, .aload 7, 2, 0, 0), (59, .getfield 245, 3, 7, 1), (62, .if_icmp .eq 6, 3, 68, 0), (65, .ldc 140, 2, 3294967284, 0), (67, .ireturn, 1, 0, 0), (68, .aload 6, 2, 0, 0), (70, .iload_n 2, 1, 0, 0), (71, .iload 5, 2, 0, 0), (73, .invokevirtual 241, 3, 116, 2), (76, .ifCond .eq 15, 3, 91, 0), (79, .aload 7, 2, 0, 0), (81, .iload 4, 2, 0, 0), (83, .iload 5, 2, 0, 0), (85, .invokevirtual 241, 3, 116, 2), (88, .ifCond .ne 6, 3, 94, 0), (91, .ldc 244, 2, 3294967283, 0), (93, .ireturn, 1, 0, 0), (94, .aload 6, 2, 0, 0), (96, .getfield 250, 3, 7, 0), (99, .iload_n 2, 1, 0, 0), (100, .aload 7, 2, 0, 0), (102, .getfield 250, 3, 7, 0), (105, .iload 4, 2, 0, 0), (107, .iload 5, 2, 0, 0), (109, .invokestatic 262, 3, 3001, 5), (112, .iload 5, 2, 0, 0), (114, .ireturn, 1, 0, 0)]
/-- GhostTrain.lay(III)I -/
def mj_p120 : List (Nat × mj_I) := [(0, .iload_n 2, 1, 0, 0), (1, .ifCond .eq 33, 3, 34, 0), (4, .iload_n 2, 1, 0, 0), (5, .iconst 3, 1, 0, 0), (6, .if_icmp .eq 28, 3, 34, 0), (9, .iload_n 2, 1, 0, 0), (10, .iconst 1, 1, 0, 0), (11, .if_icmp .ne 11, 3, 22, 0), (14, .aload_n 0, 1, 0, 0), (15, .iload_n 3, 1, 0, 0), (16, .invokevirtual 105, 3, 19, 1), (19, .ifCond .ne 15, 3, 34, 0), (22, .iload_n 2, 1, 0, 0), (23, .iconst 2, 1, 0, 0), (24, .if_icmp .ne 14, 3, 38, 0), (27, .iload_n 3, 1, 0, 0), (28, .invokestatic 197, 3, 84, 1), (31, .ifCond .eq 7, 3, 38, 0), (34, .iconst 1, 1, 0, 0), (35, .goto 4, 3, 39, 0), (38, .iconst 0, 1, 0, 0), (39, .istore 4, 2, 0, 0), (41, .iload_n 1, 1, 0, 0), (42, .invokestatic 268, 3, 121, 1), (45, .ifCond .eq 8, 3, 53, 0), (48, .iload 4, 2, 0, 0), (50, .ifCond .ne 6, 3, 56, 0), (53, .ldc 96, 2, 3294967295, 0), (55, .ireturn, 1, 0, 0), (56, .iload_n 2, 1, 0, 0), (57, .iconst 2, 1, 0, 0), (58, .if_icmp .ne 18, 3, 76, 0), (61, .aload_n 0, 1, 0, 0), (62, .getfield 65, 3, 11, 7), (65, .iload_n 3, 1, 0, 0), (66, .aaload, 1, 0, 0), (67, .invokevirtual 200, 3, 85, 0), (70, .ifCond .eq 6, 3, 76, 0), (73, .ldc 204, 2, 3294967285, 0), (75, .ireturn, 1, 0, 0), (76, .aload_n 0, 1, 0, 0), (77, .getfield 71, 3, 11, 8), (80, .iload_n 1, 1, 0, 0), (81, .aaload, 1, 0, 0), (82, .astore 5, 2, 0, 0), (84, .aload 5, 2, 0, 0), (86, .getfield 271, 3, 8, 0), (89, .istore 6, 2, 0, 0), (91, .aload 5, 2, 0, 0), (93, .iload_n 2, 1, 0, 0), (94, .putfield 271, 3, 8, 0), (97, .iload_n 2, 1, 0, 0), (98, .iconst 1, 1, 0, 0), (99, .if_icmp .ne 35, 3, 134, 0), (102, .aload 5, 2, 0, 0), (104, .aload_n 0, 1, 0, 0), (105, .getfield 49, 3, 11, 3), (108, .iload_n 3, 1, 0, 0), (109, .invokevirtual 123, 3, 24, 1), (112, .putfield 274, 3, 8, 1), (115, .aload 5, 2, 0, 0), (117, .aload_n 0, 1, 0, 0), (118, .getfield 49, 3, 11, 3), (121, .getfield 108, 3, 6, 3), (124, .iconst 2, 1, 0, 0), (125, .aaload, 1, 0, 0), (126, .iload_n 3, 1, 0, 0), (127, .iaload, 1, 0, 0), (128, .putfield 278, 3, 8, 2), (131, .goto 31, 3, 162, 0), (134, .iload_n 2, 1, 0, 0), (135, .iconst 2, 1, 0, 0), (136, .if_icmp .ne 20, 3, 156, 0), (139, .aload 5, 2, 0, 0), (141, .getfield 281, 3, 8, 3), (144, .aload_n 0, 1, 0, 0), (145, .getfield 65, 3, 11, 7), (148, .iload_n 3, 1, 0, 0), (149, .aaload, 1, 0, 0), (150, .invokevirtual 285, 3, 122, 1), (153, .goto 9, 3, 162, 0), (156, .aload 5, 2, 0, 0), (158, .iload_n 3, 1, 0, 0), (159, .putfield 288, 3, 8, 4), (162, .iload 6, 2, 0, 0), (164, .ireturn, 1, 0, 0)]
/-- GhostTrain.isSlot(I)Z -/
def mj_p121 : List (Nat × mj_I) := [(0, .iload_n 0, 1, 0, 0), (1, .ifCond .lt 12, 3, 13, 0), (4, .iload_n 0, 1, 0, 0), (5, .iconst 5, 1, 0, 0), (6, .if_icmp .ge 7, 3, 13, 0), (9, .iconst 1, 1, 0, 0), (10, .goto 4, 3, 14, 0), (13, .iconst 0, 1, 0, 0), (14, .ireturn, 1, 0, 0)]
/-- GhostTrain$Sheet.become(LGhostTrain$Sheet;)V -/
def mj_p122 : List (Nat × mj_I) := [(0, .aload_n 0, 1, 0, 0), (1, .aload_n 1, 1, 0, 0), (2, .getfield 15, 3, 7, 1), (5, .putfield 15, 3, 7, 1), (8, .aload_n 0, 1, 0, 0), (9, .aload_n 1, 1, 0, 0), (10, .getfield 19, 3, 7, 2), (13, .putfield 19, 3, 7, 2), (16, .aload_n 1, 1, 0, 0), (17, .getfield 9, 3, 7, 0), (20, .iconst 0, 1, 0, 0), (21, .aload_n 0, 1, 0, 0), (22, .getfield 9, 3, 7, 0), (25, .iconst 0, 1, 0, 0), (26, .bipush 24, 2, 0, 0), (28, .invokestatic 23, 3, 3001, 5), (31, .return_, 1, 0, 0)]
/-- GhostTrain.ask(II)I -/
def mj_p123 : List (Nat × mj_I) := [(0, .iload_n 1, 1, 0, 0), (1, .invokestatic 268, 3, 121, 1), (4, .ifCond .eq 10, 3, 14, 0), (7, .iload_n 2, 1, 0, 0), (8, .invokestatic 86, 3, 13, 1), (11, .ifCond .ne 6, 3, 17, 0), (14, .ldc 96, 2, 3294967295, 0), (16, .ireturn, 1, 0, 0), (17, .aload_n 0, 1, 0, 0), (18, .getfield 71, 3, 11, 8), (21, .iload_n 1, 1, 0, 0), (22, .aaload, 1, 0, 0), (23, .astore_n 3, 1, 0, 0), (24, .aload_n 3, 1, 0, 0), (25, .getfield 271, 3, 8, 0), (28, .ifCond .ne 6, 3, 34, 0), (31, .ldc 204, 2, 3294967285, 0), (33, .ireturn, 1, 0, 0), (34, .aload_n 3, 1, 0, 0), (35, .getfield 271, 3, 8, 0), (38, .iconst 1, 1, 0, 0), (39, .if_icmp .ne 21, 3, 60, 0), (42, .aload_n 3, 1, 0, 0), (43, .getfield 274, 3, 8, 1), (46, .ifnull 14, 3, 60, 0), (49, .aload_n 3, 1, 0, 0), (50, .getfield 274, 3, 8, 1), (53, .iload_n 2, 1, 0, 0), (54, .invokevirtual 137, 3, 1000, 1), (57, .ifCond .ne 6, 3, 63, 0), (60, .ldc 140, 2, 3294967284, 0), (62, .ireturn, 1, 0, 0), (63, .aload_n 3, 1, 0, 0), (64, .getfield 274, 3, 8, 1), (67, .aload_n 3, 1, 0, 0), (68, .getfield 278, 3, 8, 2), (71, .invokevirtual 131, 3, 1003, 1), (74, .ireturn, 1, 0, 0)]
/-- GhostTrain.item(II)I -/
def mj_p124 : List (Nat × mj_I) := [(0, .iload_n 1, 1, 0, 0), (1, .invokestatic 268, 3, 121, 1), (4, .ifCond .ne 6, 3, 10, 0), (7, .ldc 96, 2, 3294967295, 0), (9, .ireturn, 1, 0, 0), (10, .aload_n 0, 1, 0, 0), (11, .getfield 71, 3, 11, 8), (14, .iload_n 1, 1, 0, 0), (15, .aaload, 1, 0, 0), (16, .astore_n 3, 1, 0, 0), (17, .aload_n 3, 1, 0, 0), (18, .getfield 271, 3, 8, 0), (21, .ifCond .ne 6, 3, 27, 0), (24, .ldc 204, 2, 3294967285, 0), (26, .ireturn, 1, 0, 0), (27, .aload_n 3, 1, 0, 0), (28, .getfield 271, 3, 8, 0), (31, .iconst 2, 1, 0, 0), (32, .if_icmp .eq 6, 3, 38, 0), (35, .ldc 140, 2, 3294967284, 0), (37, .ireturn, 1, 0, 0), (38, .aload_n 3, 1, 0, 0), (39, .getfield 281, 3, 8, 3), (42, .iload_n 2, 1, 0, 0), (43, .iconst 1, 1, 0, 0), (44, .invokevirtual 241, 3, 116, 2), (47, .ifCond .ne 6, 3, 53, 0), (50, .ldc 244, 2, 3294967283, 0), (52, .ireturn, 1, 0, 0), (53, .aload_n 3, 1, 0, 0), (54, .getfield 281, 3, 8, 3), (57, .iload_n 2, 1, 0, 0), (58, .invokevirtual 259, 3, 87, 1), (61, .ifCond .eq 15, 3, 76, 0), (64, .aload_n 3, 1, 0, 0), (65, .getfield 281, 3, 8, 3), (68, .getfield 250, 3, 7, 0), (71, .iload_n 2, 1, 0, 0), (72, .iaload, 1, 0, 0), (73, .goto 5, 3, 78, 0), (76, .ldc 140, 2, 3294967284, 0), (78, .ireturn, 1, 0, 0)]
/-- GhostTrain.rest(II)I -/
def mj_p125 : List (Nat × mj_I) := [(0, .iload_n 1, 1, 0, 0), (1, .invokestatic 268, 3, 121, 1), (4, .ifCond .ne 6, 3, 10, 0), (7, .ldc 96, 2, 3294967295, 0), (9, .ireturn, 1, 0, 0), (10, .aload_n 0, 1, 0, 0), (11, .getfield 71, 3, 11, 8), (14, .iload_n 1, 1, 0, 0), (15, .aaload, 1, 0, 0), (16, .astore_n 3, 1, 0, 0), (17, .aload_n 3, 1, 0, 0), (18, .getfield 271, 3, 8, 0), (21, .ifCond .ne 6, 3, 27, 0), (24, .ldc 204, 2, 3294967285, 0), (26, .ireturn, 1, 0, 0), (27, .aload_n 3, 1, 0, 0), (28, .getfield 271, 3, 8, 0), (31, .iconst 3, 1, 0, 0), (32, .if_icmp .eq 6, 3, 38, 0), (35, .ldc 140, 2, 3294967284, 0), (37, .ireturn, 1, 0, 0), (38, .iload_n 2, 1, 0, 0), (39, .ifCond .ne 9, 3, 48, 0), (42, .ldc_w 291, 3, 3294967294, 0), (45, .goto 9, 3, 54, 0), (48, .aload_n 3, 1, 0, 0), (49, .getfield 288, 3, 8, 4), (52, .iload_n 2, 1, 0, 0), (53, .irem, 1, 0, 0), (54, .ireturn, 1, 0, 0)]
/-- GhostTrain.tell(I)I -/
def mj_p126 : List (Nat × mj_I) := [(0, .aload_n 0, 1, 0, 0), (1, .getfield 79, 3, 11, 10), (4, .bipush 60, 2, 0, 0), (6, .if_icmp .lt 6, 3, 12, 0), (9, .ldc 100, 2, 3294967293, 0), (11, .ireturn, 1, 0, 0), (12, .aload_n 0, 1, 0, 0), (13, .getfield 75, 3, 11, 9), (16, .aload_n 0, 1, 0, 0), (17, .getfield 79, 3, 11, 10), (20, .iload_n 1, 1, 0, 0), (21, .iastore, 1, 0, 0), (22, .aload_n 0, 1, 0, 0), (23, .dup, 1, 0, 0), (24, .getfield 79, 3, 11, 10), (27, .iconst 1, 1, 0, 0), (28, .iadd, 1, 0, 0), (29, .putfield 79, 3, 11, 10), (32, .aload_n 0, 1, 0, 0), (33, .getfield 79, 3, 11, 10), (36, .ireturn, 1, 0, 0)]
/-- GhostTrain.check(I)I -/
def mj_p127 : List (Nat × mj_I) := [(0, .aload_n 0, 1, 0, 0), (1, .getfield 79, 3, 11, 10), (4, .istore_n 2, 1, 0, 0), (5, .aload_n 0, 1, 0, 0), (6, .iconst 0, 1, 0, 0), (7, .putfield 79, 3, 11, 10), (10, .iload_n 1, 1, 0, 0), (11, .iconst 1, 1, 0, 0), (12, .bipush 30, 2, 0, 0), (14, .invokestatic 141, 3, 16, 3), (17, .ifCond .ne 6, 3, 23, 0), (20, .ldc 96, 2, 3294967295, 0), (22, .ireturn, 1, 0, 0), (23, .aload_n 0, 1, 0, 0), (24, .getfield 59, 3, 11, 6), (27, .ifCond .ne 7, 3, 34, 0), (30, .ldc_w 291, 3, 3294967294, 0), (33, .ireturn, 1, 0, 0), (34, .aload_n 0, 1, 0, 0), (35, .getfield 53, 3, 11, 4), (38, .aload_n 0, 1, 0, 0), (39, .getfield 56, 3, 11, 5), (42, .invokevirtual 175, 3, 70, 1), (45, .iconst 2, 1, 0, 0), (46, .iload_n 1, 1, 0, 0), (47, .sipush 9999, 3, 0, 0), (50, .aload_n 0, 1, 0, 0), (51, .getfield 56, 3, 11, 5), (54, .getfield 165, 3, 6, 7), (57, .isub, 1, 0, 0), (58, .invokestatic 151, 3, 3006, 2), (61, .imul, 1, 0, 0), (62, .istore_n 3, 1, 0, 0), (63, .iconst 0, 1, 0, 0), (64, .istore 4, 2, 0, 0), (66, .iload 4, 2, 0, 0), (68, .iload_n 3, 1, 0, 0), (69, .if_icmp .ge 68, 3, 137, 0), (72, .iload 4, 2, 0, 0), (74, .iconst 2, 1, 0, 0), (75, .irem, 1, 0, 0), (76, .ifCond .ne 11, 3, 87, 0), (79, .aload_n 0, 1, 0, 0), (80, .getfield 53, 3, 11, 4), (83, .iconst 1, 1, 0, 0), (84, .invokevirtual 168, 3, 63, 1), (87, .aload_n 0, 1, 0, 0), (88, .getfield 53, 3, 11, 4), (91, .iload 4, 2, 0, 0), (93, .iconst 2, 1, 0, 0), (94, .irem, 1, 0, 0), (95, .ifCond .ne 7, 3, 102, 0), (98, .iconst 1, 1, 0, 0), (99, .goto 4, 3, 103, 0), (102, .iconst 3, 1, 0, 0), (103, .invokevirtual 162, 3, 62, 1), (106, .istore 5, 2, 0, 0), (108, .iload 4, 2, 0, 0), (110, .iload_n 2, 1, 0, 0), (111, .if_icmp .ge 15, 3, 126, 0), (114, .aload_n 0, 1, 0, 0), (115, .getfield 75, 3, 11, 9), (118, .iload 4, 2, 0, 0), (120, .iaload, 1, 0, 0), (121, .iload 5, 2, 0, 0), (123, .if_icmp .eq 8, 3, 131, 0), (126, .iconst 1, 1, 0, 0), (127, .iload 4, 2, 0, 0), (129, .iadd, 1, 0, 0), (130, .ireturn, 1, 0, 0), (131, .iinc 4 1, 3, 0, 0), (134, .goto (-68), 3, 66, 0), (137, .iload_n 2, 1, 0, 0), (138, .iload_n 3, 1, 0, 0), (139, .if_icmp .le 9, 3, 148, 0), (142, .iconst 1, 1, 0, 0), (143, .iload_n 3, 1, 0, 0), (144, .iadd, 1, 0, 0), (145, .goto 4, 3, 149, 0), (148, .iconst 0, 1, 0, 0), (149, .ireturn, 1, 0, 0)]
/-- GhostTrain.keep()I -/
def mj_p128 : List (Nat × mj_I) := [(0, .aload_n 0, 1, 0, 0), (1, .getfield 56, 3, 11, 5), (4, .aload_n 0, 1, 0, 0), (5, .getfield 49, 3, 11, 3), (8, .invokevirtual 175, 3, 70, 1), (11, .aload_n 0, 1, 0, 0), (12, .iconst 1, 1, 0, 0), (13, .putfield 59, 3, 11, 6), (16, .aload_n 0, 1, 0, 0), (17, .getfield 49, 3, 11, 3), (20, .getfield 97, 3, 6, 5), (23, .ireturn, 1, 0, 0)]
/-- GhostTrain.back()I -/
def mj_p129 : List (Nat × mj_I) := [(0, .aload_n 0, 1, 0, 0), (1, .getfield 59, 3, 11, 6), (4, .ifCond .ne 7, 3, 11, 0), (7, .ldc_w 291, 3, 3294967294, 0), (10, .ireturn, 1, 0, 0), (11, .aload_n 0, 1, 0, 0), (12, .getfield 49, 3, 11, 3), (15, .aload_n 0, 1, 0, 0), (16, .getfield 56, 3, 11, 5), (19, .invokevirtual 175, 3, 70, 1), (22, .aload_n 0, 1, 0, 0), (23, .getfield 49, 3, 11, 3), (26, .getfield 97, 3, 6, 5), (29, .ireturn, 1, 0, 0)]
/-- GhostTrain.count(I)I -/
def mj_p130 : List (Nat × mj_I) := [(0, .iload_n 1, 1, 0, 0), (1, .tableswitch 108 0 7 #[47, 55, 63, 71, 79, 87, 92, 100], 47, 0, 0), (48, .aload_n 0, 1, 0, 0), (49, .getfield 49, 3, 11, 3), (52, .getfield 97, 3, 6, 5), (55, .ireturn, 1, 0, 0), (56, .aload_n 0, 1, 0, 0), (57, .getfield 49, 3, 11, 3), (60, .getfield 165, 3, 6, 7), (63, .ireturn, 1, 0, 0), (64, .aload_n 0, 1, 0, 0), (65, .getfield 49, 3, 11, 3), (68, .getfield 148, 3, 6, 6), (71, .ireturn, 1, 0, 0), (72, .aload_n 0, 1, 0, 0), (73, .getfield 49, 3, 11, 3), (76, .invokevirtual 292, 3, 131, 0), (79, .ireturn, 1, 0, 0), (80, .aload_n 0, 1, 0, 0), (81, .getfield 49, 3, 11, 3), (84, .getfield 221, 3, 6, 9), (87, .ireturn, 1, 0, 0), (88, .aload_n 0, 1, 0, 0), (89, .getfield 79, 3, 11, 10), (92, .ireturn, 1, 0, 0), (93, .aload_n 0, 1, 0, 0), (94, .getfield 40, 3, 11, 2), (97, .getfield 215, 3, 9, 1), (100, .ireturn, 1, 0, 0), (101, .aload_n 0, 1, 0, 0), (102, .getfield 49, 3, 11, 3), (105, .getfield 159, 3, 6, 8), (108, .ireturn, 1, 0, 0), (109, .ldc 96, 2, 3294967295, 0), (111, .ireturn, 1, 0, 0)]
/-- GhostTrain$Ring.scareCount()I -/
def mj_p131 : List (Nat × mj_I) := [(0, .iconst 0, 1, 0, 0), (1, .istore_n 1, 1, 0, 0), (2, .iconst 0, 1, 0, 0), (3, .istore_n 2, 1, 0, 0), (4, .iload_n 2, 1, 0, 0), (5, .bipush 12, 2, 0, 0), (7, .if_icmp .ge 23, 3, 30, 0), (10, .aload_n 0, 1, 0, 0), (11, .getfield 11, 3, 6, 2), (14, .iconst 2, 1, 0, 0), (15, .aaload, 1, 0, 0), (16, .iload_n 2, 1, 0, 0), (17, .iaload, 1, 0, 0), (18, .ifCond .le 6, 3, 24, 0), (21, .iinc 1 1, 3, 0, 0), (24, .iinc 2 1, 3, 0, 0), (27, .goto (-23), 3, 4, 0), (30, .iload_n 1, 1, 0, 0), (31, .ireturn, 1, 0, 0)]
/-- GhostTrainModel.<init>()V -/
def mj_p132 : List (Nat × mj_I) := [(0, .aload_n 0, 1, 0, 0), (1, .invokespecial 1, 3, 3000, 0), (4, .aload_n 0, 1, 0, 0), (5, .sipush 1481, 3, 0, 0), (8, .newarray .int, 2, 20, 0), (10, .putfield 9, 3, 12, 0), (13, .aload_n 0, 1, 0, 0), (14, .sipush 1481, 3, 0, 0), (17, .newarray .int, 2, 20, 0), (19, .putfield 13, 3, 12, 1), (22, .aload_n 0, 1, 0, 0), (23, .sipush 1481, 3, 0, 0), (26, .newarray .int, 2, 20, 0), (28, .putfield 16, 3, 12, 2), (31, .aload_n 0, 1, 0, 0), (32, .iconst (-1), 1, 0, 0), (33, .putfield 19, 3, 12, 4), (36, .aload_n 0, 1, 0, 0), (37, .bipush 109, 2, 0, 0), (39, .newarray .int, 2, 20, 0), (41, .putfield 23, 3, 12, 5), (44, .aload_n 0, 1, 0, 0), (45, .bipush 96, 2, 0, 0), (47, .newarray .int, 2, 20, 0), (49, .putfield 26, 3, 12, 6), (52, .aload_n 0, 1, 0, 0), (53, .bipush 11, 2, 0, 0), (55, .newarray .char, 2, 22, 0), (57, .dup, 1, 0, 0), (58, .iconst 0, 1, 0, 0), (59, .bipush 112, 2, 0, 0), (61, .castore, 1, 0, 0), (62, .dup, 1, 0, 0), (63, .iconst 1, 1, 0, 0), (64, .bipush 97, 2, 0, 0), (66, .castore, 1, 0, 0), (67, .dup, 1, 0, 0), (68, .iconst 2, 1, 0, 0), (69, .bipush 99, 2, 0, 0), (71, .castore, 1, 0, 0), (72, .dup, 1, 0, 0), (73, .iconst 3, 1, 0, 0), (74, .bipush 101, 2, 0, 0), (76, .castore, 1, 0, 0), (77, .dup, 1, 0, 0), (78, .iconst 4, 1, 0, 0), (79, .bipush 102, 2, 0, 0), (81, .castore, 1, 0, 0), (82, .dup, 1, 0, 0), (83, .iconst 5, 1, 0, 0), (84, .bipush 101, 2, 0, 0), (86, .castore, 1, 0, 0), (87, .dup, 1, 0, 0), (88, .bipush 6, 2, 0, 0), (90, .bipush 101, 2, 0, 0), (92, .castore, 1, 0, 0), (93, .dup, 1, 0, 0), (94, .bipush 7, 2, 0, 0), (96, .bipush 102, 2, 0, 0), (98, .castore, 1, 0, 0), (99, .dup, 1, 0, 0), (100, .bipush 8, 2, 0, 0), (102, .bipush 105, 2, 0, 0), (104, .castore, 1, 0, 0), (105, .dup, 1, 0, 0), (106, .bipush 9, 2, 0, 0), (108, .bipush 110, 2, 0, 0), (110, .castore, 1, 0, 0), (111, .dup, 1, 0, 0), (112, .bipush 10, 2, 0, 0), (114, .bipush 101, 2, 0, 0), (116, .castore, 1, 0, 0), (117, .putfield 29, 3, 12, 14), (120, .aload_n 0, 1, 0, 0), (121, .iconst 4, 1, 0, 0), (122, .newarray .int, 2, 20, 0), (124, .dup, 1, 0, 0), (125, .iconst 0, 1, 0, 0), (126, .iconst 0, 1, 0, 0), (127, .iastore, 1, 0, 0), (128, .dup, 1, 0, 0), (129, .iconst 1, 1, 0, 0), (130, .iconst 4, 1, 0, 0), (131, .iastore, 1, 0, 0), (132, .dup, 1, 0, 0), (133, .iconst 2, 1, 0, 0), (134, .bipush 7, 2, 0, 0), (136, .iastore, 1, 0, 0), (137, .dup, 1, 0, 0), (138, .iconst 3, 1, 0, 0), (139, .bipush 11, 2, 0, 0), (141, .iastore, 1, 0, 0), (142, .putfield 33, 3, 12, 15), (145, .aload_n 0, 1, 0, 0), (146, .bipush 96, 2, 0, 0), (148, .newarray .int, 2, 20, 0), (150, .putfield 36, 3, 12, 16), (153, .aload_n 0, 1, 0, 0), (154, .bipush 96, 2, 0, 0), (156, .newarray .int, 2, 20, 0), (158, .putfield 39, 3, 12, 19), (161, .aload_n 0, 1, 0, 0), (162, .bipush 10, 2, 0, 0), (164, .newarray .boolean, 2, 21, 0), (166, .putfield 42, 3, 12, 21), (169, .aload_n 0, 1, 0, 0), (170, .bipush 96, 2, 0, 0), (172, .newarray .int, 2, 20, 0), (174, .putfield 46, 3, 12, 22), (177, .aload_n 0, 1, 0, 0), (178, .iconst 4, 1, 0, 0), (179, .newarray .int, 2, 20, 0), (181, .putfield 49, 3, 12, 23), (184, .aload_n 0, 1, 0, 0), (185, .iconst 4, 1, 0, 0), (186, .newarray .int, 2, 20, 0), (188, .dup, 1, 0, 0), (189, .iconst 0, 1, 0, 0), (190, .iconst (-1), 1, 0, 0), (191, .iastore, 1, 0, 0), (192, .dup, 1, 0, 0), (193, .iconst 1, 1, 0, 0), (194, .iconst (-1), 1, 0, 0), (195, .iastore, 1, 0, 0), (196, .dup, 1, 0, 0), (197, .iconst 2, 1, 0, 0), (198, .iconst (-1), 1, 0, 0), (199, .iastore, 1, 0, 0), (200, .dup, 1, 0, 0), (201, .iconst 3, 1, 0, 0), (202, .iconst (-1), 1, 0, 0), (203, .iastore, 1, 0, 0), (204, .putfield 52, 3, 12, 24), (207, .aload_n 0, 1, 0, 0), (208, .iconst 4, 1, 0, 0), (209, .newarray .int, 2, 20, 0), (211, .putfield 55, 3, 12, 25), (214, .aload_n 0, 1, 0, 0), (215, .bipush 96, 2, 0, 0), (217, .newarray .int, 2, 20, 0), (219, .putfield 58, 3, 12, 26), (222, .aload_n 0, 1, 0, 0), (223, .iconst 5, 1, 0, 0), (224, .newarray .int, 2, 20, 0), (226, .putfield 61, 3, 12, 27), (229, .aload_n 0, 1, 0, 0), (230, .iconst 5, 1, 0, 0), (231, .newarray .int, 2, 20, 0), (233, .putfield 64, 3, 12, 28), (236, .aload_n 0, 1, 0, 0), (237, .iconst 5, 1, 0, 0), (238, .newarray .int, 2, 20, 0), (240, .putfield 67, 3, 12, 29), (243, .aload_n 0, 1, 0, 0), (244, .bipush 120, 2, 0, 0), (246, .newarray .int, 2, 20, 0), (248, .putfield 70, 3, 12, 30), (251, .aload_n 0, 1, 0, 0), (252, .bipush 24, 2, 0, 0), (254, .newarray .int, 2, 20, 0), (256, .putfield 73, 3, 12, 31), (259, .aload_n 0, 1, 0, 0), (260, .bipush 60, 2, 0, 0), (262, .newarray .int, 2, 20, 0), (264, .putfield 76, 3, 12, 32), (267, .aload_n 0, 1, 0, 0), (268, .getfield 9, 3, 12, 0), (271, .iconst 0, 1, 0, 0), (272, .iconst 1, 1, 0, 0), (273, .iastore, 1, 0, 0), (274, .aload_n 0, 1, 0, 0), (275, .getfield 9, 3, 12, 0), (278, .iconst 3, 1, 0, 0), (279, .bipush 10, 2, 0, 0), (281, .iastore, 1, 0, 0), (282, .return_, 1, 0, 0)]
/-- GhostTrainModel.car(III)I -/
def mj_p133 : List (Nat × mj_I) := [(0, .iload_n 1, 1, 0, 0), (1, .iconst 0, 1, 0, 0), (2, .iconst 5, 1, 0, 0), (3, .invokestatic 79, 3, 134, 3), (6, .ifCond .eq 24, 3, 30, 0), (9, .iload_n 2, 1, 0, 0), (10, .iconst 0, 1, 0, 0), (11, .sipush 239, 3, 0, 0), (14, .invokestatic 79, 3, 134, 3), (17, .ifCond .eq 13, 3, 30, 0), (20, .iload_n 3, 1, 0, 0), (21, .iconst 1, 1, 0, 0), (22, .bipush 99, 2, 0, 0), (24, .invokestatic 79, 3, 134, 3), (27, .ifCond .ne 6, 3, 33, 0), (30, .ldc 83, 2, 3294967295, 0), (32, .ireturn, 1, 0, 0), (33, .aload_n 0, 1, 0, 0), (34, .getfield 9, 3, 12, 0), (37, .iconst 1, 1, 0, 0), (38, .iaload, 1, 0, 0), (39, .bipush 8, 2, 0, 0), (41, .if_icmp .ne 8, 3, 49, 0), (44, .ldc 84, 2, 3294967293, 0), (46, .goto 10, 3, 56, 0), (49, .aload_n 0, 1, 0, 0), (50, .iload_n 1, 1, 0, 0), (51, .iload_n 2, 1, 0, 0), (52, .iload_n 3, 1, 0, 0), (53, .invokevirtual 85, 3, 135, 3), (56, .ireturn, 1, 0, 0)]
/-- GhostTrainModel.in(III)Z -/
def mj_p134 : List (Nat × mj_I) := [(0, .iload_n 0, 1, 0, 0), (1, .iload_n 1, 1, 0, 0), (2, .if_icmp .lt 12, 3, 14, 0), (5, .iload_n 0, 1, 0, 0), (6, .iload_n 2, 1, 0, 0), (7, .if_icmp .gt 7, 3, 14, 0), (10, .iconst 1, 1, 0, 0), (11, .goto 4, 3, 15, 0), (14, .iconst 0, 1, 0, 0), (15, .ireturn, 1, 0, 0)]
/-- GhostTrainModel.comes(III)I -/
def mj_p135 : List (Nat × mj_I) := [(0, .aload_n 0, 1, 0, 0), (1, .getfield 9, 3, 12, 0), (4, .iconst 1, 1, 0, 0), (5, .iaload, 1, 0, 0), (6, .istore 4, 2, 0, 0), (8, .bipush 53, 2, 0, 0), (10, .bipush 7, 2, 0, 0), (12, .iload 4, 2, 0, 0), (14, .imul, 1, 0, 0), (15, .iadd, 1, 0, 0), (16, .istore 5, 2, 0, 0), (18, .iconst 0, 1, 0, 0), (19, .istore 6, 2, 0, 0), (21, .iload 6, 2, 0, 0), (23, .bipush 7, 2, 0, 0), (25, .if_icmp .ge 20, 3, 45, 0), (28, .aload_n 0, 1, 0, 0), (29, .getfield 9, 3, 12, 0), (32, .iload 5, 2, 0, 0), (34, .iload 6, 2, 0, 0), (36, .iadd, 1, 0, 0), (37, .iconst 0, 1, 0, 0), (38, .iastore, 1, 0, 0), (39, .iinc 6 1, 3, 0, 0), (42, .goto (-21), 3, 21, 0), (45, .aload_n 0, 1, 0, 0), (46, .getfield 9, 3, 12, 0), (49, .iload 5, 2, 0, 0), (51, .iload_n 1, 1, 0, 0), (52, .iastore, 1, 0, 0), (53, .aload_n 0, 1, 0, 0), (54, .getfield 9, 3, 12, 0), (57, .iload 5, 2, 0, 0), (59, .iconst 1, 1, 0, 0), (60, .iadd, 1, 0, 0), (61, .iload_n 2, 1, 0, 0), (62, .iastore, 1, 0, 0), (63, .aload_n 0, 1, 0, 0), (64, .getfield 9, 3, 12, 0), (67, .iload 5, 2, 0, 0), (69, .iconst 2, 1, 0, 0), (70, .iadd, 1, 0, 0), (71, .iload_n 3, 1, 0, 0), (72, .iastore, 1, 0, 0), (73, .aload_n 0, 1, 0, 0), (74, .getfield 9, 3, 12, 0), (77, .iconst 1, 1, 0, 0), (78, .dup2, 1, 0, 0), (79, .iaload, 1, 0, 0), (80, .iconst 1, 1, 0, 0), (81, .iadd, 1, 0, 0), (82, .iastore, 1, 0, 0), (83, .iload 4, 2, 0, 0), (85, .ireturn, 1, 0, 0)]
/-- GhostTrainModel.pace(II)I -/
def mj_p136 : List (Nat × mj_I) := [(0, .aload_n 0, 1, 0, 0), (1, .iload_n 1, 1, 0, 0), (2, .invokevirtual 103, 3, 137, 1), (5, .ifCond .eq 19, 3, 24, 0), (8, .iload_n 2, 1, 0, 0), (9, .invokestatic 107, 3, 138, 1), (12, .ifCond .eq 12, 3, 24, 0), (15, .aload_n 0, 1, 0, 0), (16, .iload_n 1, 1, 0, 0), (17, .iload_n 2, 1, 0, 0), (18, .invokevirtual 110, 3, 139, 2), (21, .goto 5, 3, 26, 0), (24, .ldc 83, 2, 3294967295, 0), (26, .ireturn, 1, 0, 0)]
/-- GhostTrainModel.isCar(I)Z -/
def mj_p137 : List (Nat × mj_I) := [(0, .iload_n 1, 1, 0, 0), (1, .iconst 0, 1, 0, 0), (2, .aload_n 0, 1, 0, 0), (3, .getfield 9, 3, 12, 0), (6, .iconst 1, 1, 0, 0), (7, .iaload, 1, 0, 0), (8, .iconst 1, 1, 0, 0), (9, .isub, 1, 0, 0), (10, .invokestatic 79, 3, 134, 3), (13, .ireturn, 1, 0, 0)]
/-- GhostTrainModel.isPart(I)Z -/
def mj_p138 : List (Nat × mj_I) := [(0, .iload_n 0, 1, 0, 0), (1, .iconst 0, 1, 0, 0), (2, .bipush 11, 2, 0, 0), (4, .invokestatic 79, 3, 134, 3), (7, .ireturn, 1, 0, 0)]
/-- GhostTrainModel.paceIn(II)I -/
def mj_p139 : List (Nat × mj_I) := [(0, .aload_n 0, 1, 0, 0), (1, .getfield 9, 3, 12, 0), (4, .iconst 5, 1, 0, 0), (5, .iload_n 2, 1, 0, 0), (6, .iadd, 1, 0, 0), (7, .iaload, 1, 0, 0), (8, .istore_n 3, 1, 0, 0), (9, .aload_n 0, 1, 0, 0), (10, .getfield 9, 3, 12, 0), (13, .bipush 17, 2, 0, 0), (15, .iload_n 2, 1, 0, 0), (16, .iadd, 1, 0, 0), (17, .iaload, 1, 0, 0), (18, .istore 4, 2, 0, 0), (20, .aload_n 0, 1, 0, 0), (21, .iconst 0, 1, 0, 0), (22, .invokevirtual 89, 3, 140, 1), (25, .istore 5, 2, 0, 0), (27, .aload_n 0, 1, 0, 0), (28, .getfield 49, 3, 12, 23), (31, .iconst 0, 1, 0, 0), (32, .aload_n 0, 1, 0, 0), (33, .iload_n 1, 1, 0, 0), (34, .iconst 2, 1, 0, 0), (35, .invokevirtual 93, 3, 141, 2), (38, .iastore, 1, 0, 0), (39, .aload_n 0, 1, 0, 0), (40, .getfield 49, 3, 12, 23), (43, .iconst 1, 1, 0, 0), (44, .iload_n 3, 1, 0, 0), (45, .iastore, 1, 0, 0), (46, .aload_n 0, 1, 0, 0), (47, .getfield 49, 3, 12, 23), (50, .iconst 2, 1, 0, 0), (51, .iload 4, 2, 0, 0), (53, .iastore, 1, 0, 0), (54, .iload 5, 2, 0, 0), (56, .ifCond .ge 23, 3, 79, 0), (59, .bipush 6, 2, 0, 0), (61, .aload_n 0, 1, 0, 0), (62, .iload_n 1, 1, 0, 0), (63, .iconst 2, 1, 0, 0), (64, .invokevirtual 93, 3, 141, 2), (67, .bipush 20, 2, 0, 0), (69, .idiv, 1, 0, 0), (70, .iadd, 1, 0, 0), (71, .iload_n 3, 1, 0, 0), (72, .isub, 1, 0, 0), (73, .iload 4, 2, 0, 0), (75, .isub, 1, 0, 0), (76, .goto 9, 3, 85, 0), (79, .aload_n 0, 1, 0, 0), (80, .iload 5, 2, 0, 0), (82, .invokevirtual 97, 3, 142, 1), (85, .iconst 1, 1, 0, 0), (86, .bipush 20, 2, 0, 0), (88, .invokestatic 100, 3, 144, 3), (91, .istore 6, 2, 0, 0), (93, .iload_n 3, 1, 0, 0), (94, .ifCond .ge 10, 3, 104, 0), (97, .iload 6, 2, 0, 0), (99, .iconst 2, 1, 0, 0), (100, .iadd, 1, 0, 0), (101, .goto 5, 3, 106, 0), (104, .iload 6, 2, 0, 0), (106, .iconst 1, 1, 0, 0), (107, .bipush 20, 2, 0, 0), (109, .invokestatic 100, 3, 144, 3), (112, .istore 7, 2, 0, 0), (114, .iload 6, 2, 0, 0), (116, .iconst 2, 1, 0, 0), (117, .idiv, 1, 0, 0), (118, .iconst 1, 1, 0, 0), (119, .bipush 20, 2, 0, 0), (121, .invokestatic 100, 3, 144, 3), (124, .istore 8, 2, 0, 0), (126, .aload_n 0, 1, 0, 0), (127, .iload_n 1, 1, 0, 0), (128, .iconst 0, 1, 0, 0), (129, .invokevirtual 93, 3, 141, 2), (132, .tableswitch 78 1 5 #[36, 39, 42, 62, 75], 36, 0, 0), (168, .iload 7, 2, 0, 0), (170, .ireturn, 1, 0, 0), (171, .iload 8, 2, 0, 0), (173, .ireturn, 1, 0, 0), (174, .iload_n 3, 1, 0, 0), (175, .ifCond .le 10, 3, 185, 0), (178, .iload 7, 2, 0, 0), (180, .iconst 1, 1, 0, 0), (181, .isub, 1, 0, 0), (182, .goto 5, 3, 187, 0), (185, .iload 7, 2, 0, 0), (187, .iconst 1, 1, 0, 0), (188, .bipush 20, 2, 0, 0), (190, .invokestatic 100, 3, 144, 3), (193, .ireturn, 1, 0, 0), (194, .iload 4, 2, 0, 0), (196, .iconst 5, 1, 0, 0), (197, .if_icmp .lt 7, 3, 204, 0), (200, .iconst 1, 1, 0, 0), (201, .goto 5, 3, 206, 0), (204, .iload 8, 2, 0, 0), (206, .ireturn, 1, 0, 0), (207, .bipush 7, 2, 0, 0), (209, .ireturn, 1, 0, 0), (210, .iload 6, 2, 0, 0), (212, .ireturn, 1, 0, 0)]
/-- GhostTrainModel.counts(I)I -/
def mj_p140 : List (Nat × mj_I) := [(0, .aload_n 0, 1, 0, 0), (1, .getfield 9, 3, 12, 0), (4, .iconst 4, 1, 0, 0), (5, .iaload, 1, 0, 0), (6, .iconst 1, 1, 0, 0), (7, .isub, 1, 0, 0), (8, .istore_n 2, 1, 0, 0), (9, .iload_n 2, 1, 0, 0), (10, .ifCond .lt 30, 3, 40, 0), (13, .aload_n 0, 1, 0, 0), (14, .getfield 9, 3, 12, 0), (17, .bipush 109, 2, 0, 0), (19, .iconst 2, 1, 0, 0), (20, .iload_n 2, 1, 0, 0), (21, .imul, 1, 0, 0), (22, .iadd, 1, 0, 0), (23, .iaload, 1, 0, 0), (24, .sipush 1000, 3, 0, 0), (27, .idiv, 1, 0, 0), (28, .iload_n 1, 1, 0, 0), (29, .if_icmp .ne 5, 3, 34, 0), (32, .iload_n 2, 1, 0, 0), (33, .ireturn, 1, 0, 0), (34, .iinc 2 (-1), 3, 0, 0), (37, .goto (-28), 3, 9, 0), (40, .iconst (-1), 1, 0, 0), (41, .ireturn, 1, 0, 0)]
/-- GhostTrainModel.of(II)I -/
def mj_p141 : List (Nat × mj_I) := [(0, .aload_n 0, 1, 0, 0), (1, .getfield 9, 3, 12, 0), (4, .bipush 53, 2, 0, 0), (6, .bipush 7, 2, 0, 0), (8, .iload_n 1, 1, 0, 0), (9, .imul, 1, 0, 0), (10, .iadd, 1, 0, 0), (11, .iload_n 2, 1, 0, 0), (12, .iadd, 1, 0, 0), (13, .iaload, 1, 0, 0), (14, .ireturn, 1, 0, 0)]
/-- GhostTrainModel.worksOut(I)I -/
def mj_p142 : List (Nat × mj_I) := [(0, .iconst 0, 1, 0, 0), (1, .istore_n 2, 1, 0, 0), (2, .aload_n 0, 1, 0, 0), (3, .getfield 9, 3, 12, 0), (6, .bipush 109, 2, 0, 0), (8, .iconst 2, 1, 0, 0), (9, .iload_n 1, 1, 0, 0), (10, .imul, 1, 0, 0), (11, .iadd, 1, 0, 0), (12, .iaload, 1, 0, 0), (13, .sipush 1000, 3, 0, 0), (16, .irem, 1, 0, 0), (17, .istore_n 3, 1, 0, 0), (18, .iconst 0, 1, 0, 0), (19, .istore 4, 2, 0, 0), (21, .iload 4, 2, 0, 0), (23, .iload_n 3, 1, 0, 0), (24, .if_icmp .ge 132, 3, 156, 0), (27, .aload_n 0, 1, 0, 0), (28, .getfield 9, 3, 12, 0), (31, .sipush 137, 3, 0, 0), (34, .bipush 96, 2, 0, 0), (36, .iload_n 1, 1, 0, 0), (37, .imul, 1, 0, 0), (38, .iadd, 1, 0, 0), (39, .iload 4, 2, 0, 0), (41, .iadd, 1, 0, 0), (42, .iaload, 1, 0, 0), (43, .istore 5, 2, 0, 0), (45, .iload 5, 2, 0, 0), (47, .ifCond .lt 39, 3, 86, 0), (50, .aload_n 0, 1, 0, 0), (51, .getfield 46, 3, 12, 22), (54, .iload_n 2, 1, 0, 0), (55, .iload 5, 2, 0, 0), (57, .sipush 10000, 3, 0, 0), (60, .if_icmp .ge 8, 3, 68, 0), (63, .iload 5, 2, 0, 0), (65, .goto 14, 3, 79, 0), (68, .aload_n 0, 1, 0, 0), (69, .getfield 49, 3, 12, 23), (72, .iload 5, 2, 0, 0), (74, .sipush 10000, 3, 0, 0), (77, .isub, 1, 0, 0), (78, .iaload, 1, 0, 0), (79, .iastore, 1, 0, 0), (80, .iinc 2 1, 3, 0, 0), (83, .goto 67, 3, 150, 0), (86, .iload 5, 2, 0, 0), (88, .bipush (-10), 2, 0, 0), (90, .if_icmp .ne 30, 3, 120, 0), (93, .aload_n 0, 1, 0, 0), (94, .getfield 46, 3, 12, 22), (97, .iload_n 2, 1, 0, 0), (98, .iconst 1, 1, 0, 0), (99, .isub, 1, 0, 0), (100, .aload_n 0, 1, 0, 0), (101, .getfield 46, 3, 12, 22), (104, .iload_n 2, 1, 0, 0), (105, .iconst 1, 1, 0, 0), (106, .isub, 1, 0, 0), (107, .iaload, 1, 0, 0), (108, .ifCond .ne 7, 3, 115, 0), (111, .iconst 1, 1, 0, 0), (112, .goto 4, 3, 116, 0), (115, .iconst 0, 1, 0, 0), (116, .iastore, 1, 0, 0), (117, .goto 33, 3, 150, 0), (120, .iinc 2 (-1), 3, 0, 0), (123, .aload_n 0, 1, 0, 0), (124, .getfield 46, 3, 12, 22), (127, .iload_n 2, 1, 0, 0), (128, .iconst 1, 1, 0, 0), (129, .isub, 1, 0, 0), (130, .iload 5, 2, 0, 0), (132, .aload_n 0, 1, 0, 0), (133, .getfield 46, 3, 12, 22), (136, .iload_n 2, 1, 0, 0), (137, .iconst 1, 1, 0, 0), (138, .isub, 1, 0, 0), (139, .iaload, 1, 0, 0), (140, .aload_n 0, 1, 0, 0), (141, .getfield 46, 3, 12, 22), (144, .iload_n 2, 1, 0, 0), (145, .iaload, 1, 0, 0), (146, .invokestatic 241, 3, 143, 3), (149, .iastore, 1, 0, 0), (150, .iinc 4 1, 3, 0, 0), (153, .goto (-132), 3, 21, 0), (156, .aload_n 0, 1, 0, 0), (157, .getfield 46, 3, 12, 22), (160, .iconst 0, 1, 0, 0), (161, .iaload, 1, 0, 0), (162, .ireturn, 1, 0, 0)]
/-- GhostTrainModel.two(III)I -/
def mj_p143 : List (Nat × mj_I) := [(0, .iload_n 0, 1, 0, 0), (1, .tableswitch 120 (-8) (-1) #[116, 112, 108, 97, 86, 75, 61, 47], 47, 0, 0), (48, .iload_n 1, 1, 0, 0), (49, .ifCond .ne 7, 3, 56, 0), (52, .iload_n 2, 1, 0, 0), (53, .ifCond .eq 7, 3, 60, 0), (56, .iconst 1, 1, 0, 0), (57, .goto 4, 3, 61, 0), (60, .iconst 0, 1, 0, 0), (61, .ireturn, 1, 0, 0), (62, .iload_n 1, 1, 0, 0), (63, .ifCond .eq 11, 3, 74, 0), (66, .iload_n 2, 1, 0, 0), (67, .ifCond .eq 7, 3, 74, 0), (70, .iconst 1, 1, 0, 0), (71, .goto 4, 3, 75, 0), (74, .iconst 0, 1, 0, 0), (75, .ireturn, 1, 0, 0), (76, .iload_n 1, 1, 0, 0), (77, .iload_n 2, 1, 0, 0), (78, .if_icmp .ge 7, 3, 85, 0), (81, .iconst 1, 1, 0, 0), (82, .goto 4, 3, 86, 0), (85, .iconst 0, 1, 0, 0), (86, .ireturn, 1, 0, 0), (87, .iload_n 1, 1, 0, 0), (88, .iload_n 2, 1, 0, 0), (89, .if_icmp .ne 7, 3, 96, 0), (92, .iconst 1, 1, 0, 0), (93, .goto 4, 3, 97, 0), (96, .iconst 0, 1, 0, 0), (97, .ireturn, 1, 0, 0), (98, .iload_n 1, 1, 0, 0), (99, .iload_n 2, 1, 0, 0), (100, .if_icmp .le 7, 3, 107, 0), (103, .iconst 1, 1, 0, 0), (104, .goto 4, 3, 108, 0), (107, .iconst 0, 1, 0, 0), (108, .ireturn, 1, 0, 0), (109, .iload_n 1, 1, 0, 0), (110, .iload_n 2, 1, 0, 0), (111, .iadd, 1, 0, 0), (112, .ireturn, 1, 0, 0), (113, .iload_n 1, 1, 0, 0), (114, .iload_n 2, 1, 0, 0), (115, .isub, 1, 0, 0), (116, .ireturn, 1, 0, 0), (117, .iload_n 1, 1, 0, 0), (118, .iload_n 2, 1, 0, 0), (119, .imul, 1, 0, 0), (120, .ireturn, 1, 0, 0), (121, .iload_n 2, 1, 0, 0), (122, .ifCond .ne 7, 3, 129, 0), (125, .iconst 0, 1, 0, 0), (126, .goto 6, 3, 132, 0), (129, .iload_n 1, 1, 0, 0), (130, .iload_n 2, 1, 0, 0), (131, .idiv, 1, 0, 0), (132, .ireturn, 1, 0, 0)]
/-- GhostTrainModel.within(III)I -/
def mj_p144 : List (Nat × mj_I) := [(0, .iload_n 0, 1, 0, 0), (1, .iload_n 1, 1, 0, 0), (2, .if_icmp .ge 7, 3, 9, 0), (5, .iload_n 1, 1, 0, 0), (6, .goto 13, 3, 19, 0), (9, .iload_n 0, 1, 0, 0), (10, .iload_n 2, 1, 0, 0), (11, .if_icmp .le 7, 3, 18, 0), (14, .iload_n 2, 1, 0, 0), (15, .goto 4, 3, 19, 0), (18, .iload_n 0, 1, 0, 0), (19, .ireturn, 1, 0, 0)]
/-- GhostTrainModel.told(II)I -/
def mj_p145 : List (Nat × mj_I) := [(0, .aload_n 0, 1, 0, 0), (1, .iload_n 1, 1, 0, 0), (2, .invokevirtual 103, 3, 137, 1), (5, .ifCond .ne 6, 3, 11, 0), (8, .ldc 83, 2, 3294967295, 0), (10, .ireturn, 1, 0, 0), (11, .iload_n 2, 1, 0, 0), (12, .tableswitch 100 0 10 #[60, 60, 60, 60, 60, 60, 60, 67, 82, 88, 94], 60, 0, 0), (72, .aload_n 0, 1, 0, 0), (73, .iload_n 1, 1, 0, 0), (74, .iload_n 2, 1, 0, 0), (75, .invokevirtual 93, 3, 141, 2), (78, .ireturn, 1, 0, 0), (79, .aload_n 0, 1, 0, 0), (80, .iload_n 1, 1, 0, 0), (81, .aload_n 0, 1, 0, 0), (82, .iload_n 1, 1, 0, 0), (83, .iconst 1, 1, 0, 0), (84, .invokevirtual 93, 3, 141, 2), (87, .bipush 20, 2, 0, 0), (89, .idiv, 1, 0, 0), (90, .invokevirtual 110, 3, 139, 2), (93, .ireturn, 1, 0, 0), (94, .aload_n 0, 1, 0, 0), (95, .iload_n 1, 1, 0, 0), (96, .invokevirtual 113, 3, 146, 1), (99, .ireturn, 1, 0, 0), (100, .aload_n 0, 1, 0, 0), (101, .iload_n 1, 1, 0, 0), (102, .invokevirtual 116, 3, 147, 1), (105, .ireturn, 1, 0, 0), (106, .aload_n 0, 1, 0, 0), (107, .iload_n 1, 1, 0, 0), (108, .invokevirtual 119, 3, 148, 1), (111, .ireturn, 1, 0, 0), (112, .ldc 83, 2, 3294967295, 0), (114, .ireturn, 1, 0, 0)]
/-- GhostTrainModel.roomOf(I)I -/
def mj_p146 : List (Nat × mj_I) := [(0, .iconst (-1), 1, 0, 0), (1, .istore_n 2, 1, 0, 0), (2, .iconst 0, 1, 0, 0), (3, .istore_n 3, 1, 0, 0), (4, .iload_n 3, 1, 0, 0), (5, .aload_n 0, 1, 0, 0), (6, .getfield 9, 3, 12, 0), (9, .iconst 1, 1, 0, 0), (10, .iaload, 1, 0, 0), (11, .if_icmp .ge 82, 3, 93, 0), (14, .iload_n 3, 1, 0, 0), (15, .iload_n 1, 1, 0, 0), (16, .if_icmp .eq 71, 3, 87, 0), (19, .iload_n 3, 1, 0, 0), (20, .aload_n 0, 1, 0, 0), (21, .getfield 19, 3, 12, 4), (24, .if_icmp .eq 63, 3, 87, 0), (27, .aload_n 0, 1, 0, 0), (28, .iload_n 3, 1, 0, 0), (29, .iconst 1, 1, 0, 0), (30, .invokevirtual 93, 3, 141, 2), (33, .aload_n 0, 1, 0, 0), (34, .iload_n 1, 1, 0, 0), (35, .iconst 1, 1, 0, 0), (36, .invokevirtual 93, 3, 141, 2), (39, .isub, 1, 0, 0), (40, .sipush 240, 3, 0, 0), (43, .iadd, 1, 0, 0), (44, .sipush 240, 3, 0, 0), (47, .irem, 1, 0, 0), (48, .istore 4, 2, 0, 0), (50, .iload 4, 2, 0, 0), (52, .ifCond .ne 14, 3, 66, 0), (55, .iload_n 3, 1, 0, 0), (56, .iload_n 1, 1, 0, 0), (57, .if_icmp .ge 9, 3, 66, 0), (60, .sipush 240, 3, 0, 0), (63, .goto 5, 3, 68, 0), (66, .iload 4, 2, 0, 0), (68, .istore 4, 2, 0, 0), (70, .iload_n 2, 1, 0, 0), (71, .ifCond .lt 9, 3, 80, 0), (74, .iload 4, 2, 0, 0), (76, .iload_n 2, 1, 0, 0), (77, .if_icmp .ge 8, 3, 85, 0), (80, .iload 4, 2, 0, 0), (82, .goto 4, 3, 86, 0), (85, .iload_n 2, 1, 0, 0), (86, .istore_n 2, 1, 0, 0), (87, .iinc 3 1, 3, 0, 0), (90, .goto (-86), 3, 4, 0), (93, .iload_n 2, 1, 0, 0), (94, .ifCond .ge 9, 3, 103, 0), (97, .sipush 240, 3, 0, 0), (100, .goto 11, 3, 111, 0), (103, .iload_n 2, 1, 0, 0), (104, .aload_n 0, 1, 0, 0), (105, .getfield 9, 3, 12, 0), (108, .iconst 3, 1, 0, 0), (109, .iaload, 1, 0, 0), (110, .isub, 1, 0, 0), (111, .ireturn, 1, 0, 0)]
/-- GhostTrainModel.loudOf(I)I -/
def mj_p147 : List (Nat × mj_I) := [(0, .aload_n 0, 1, 0, 0), (1, .iload_n 1, 1, 0, 0), (2, .iconst 0, 1, 0, 0), (3, .invokevirtual 93, 3, 141, 2), (6, .tableswitch 42 1 5 #[34, 36, 34, 38, 40], 34, 0, 0), (40, .iconst 1, 1, 0, 0), (41, .ireturn, 1, 0, 0), (42, .iconst 3, 1, 0, 0), (43, .ireturn, 1, 0, 0), (44, .iconst 4, 1, 0, 0), (45, .ireturn, 1, 0, 0), (46, .iconst 0, 1, 0, 0), (47, .ireturn, 1, 0, 0), (48, .iconst 2, 1, 0, 0), (49, .ireturn, 1, 0, 0)]
/-- GhostTrainModel.worthOf(I)I -/
def mj_p148 : List (Nat × mj_I) := [(0, .aload_n 0, 1, 0, 0), (1, .iload_n 1, 1, 0, 0), (2, .iconst 2, 1, 0, 0), (3, .invokevirtual 93, 3, 141, 2), (6, .istore_n 2, 1, 0, 0), (7, .aload_n 0, 1, 0, 0), (8, .iload_n 1, 1, 0, 0), (9, .iconst 0, 1, 0, 0), (10, .invokevirtual 93, 3, 141, 2), (13, .tableswitch 59 1 5 #[35, 40, 45, 52, 57], 35, 0, 0), (48, .iload_n 2, 1, 0, 0), (49, .bipush 8, 2, 0, 0), (51, .iadd, 1, 0, 0), (52, .ireturn, 1, 0, 0), (53, .bipush 99, 2, 0, 0), (55, .iload_n 2, 1, 0, 0), (56, .isub, 1, 0, 0), (57, .ireturn, 1, 0, 0), (58, .iconst 2, 1, 0, 0), (59, .iload_n 2, 1, 0, 0), (60, .bipush 8, 2, 0, 0), (62, .iadd, 1, 0, 0), (63, .imul, 1, 0, 0), (64, .ireturn, 1, 0, 0), (65, .bipush 96, 2, 0, 0), (67, .iload_n 2, 1, 0, 0), (68, .isub, 1, 0, 0), (69, .ireturn, 1, 0, 0), (70, .iconst 4, 1, 0, 0), (71, .ireturn, 1, 0, 0), (72, .iload_n 2, 1, 0, 0), (73, .ireturn, 1, 0, 0)]
/-- GhostTrainModel.as(II)I -/
def mj_p149 : List (Nat × mj_I) := [(0, .aload_n 0, 1, 0, 0), (1, .iload_n 1, 1, 0, 0), (2, .invokevirtual 103, 3, 137, 1), (5, .ifCond .eq 12, 3, 17, 0), (8, .iload_n 2, 1, 0, 0), (9, .iconst 0, 1, 0, 0), (10, .iconst 5, 1, 0, 0), (11, .invokestatic 79, 3, 134, 3), (14, .ifCond .ne 6, 3, 20, 0), (17, .ldc 83, 2, 3294967295, 0), (19, .ireturn, 1, 0, 0), (20, .aload_n 0, 1, 0, 0), (21, .iload_n 1, 1, 0, 0), (22, .iconst 0, 1, 0, 0), (23, .invokevirtual 93, 3, 141, 2), (26, .iload_n 2, 1, 0, 0), (27, .invokestatic 122, 3, 150, 2), (30, .ifCond .eq 12, 3, 42, 0), (33, .aload_n 0, 1, 0, 0), (34, .iload_n 1, 1, 0, 0), (35, .iconst 2, 1, 0, 0), (36, .invokevirtual 93, 3, 141, 2), (39, .goto 5, 3, 44, 0), (42, .ldc 126, 2, 3294967284, 0), (44, .ireturn, 1, 0, 0)]
/-- GhostTrainModel.isUnder(II)Z -/
def mj_p150 : List (Nat × mj_I) := [(0, .iload_n 1, 1, 0, 0), (1, .ifCond .eq 28, 3, 29, 0), (4, .iload_n 0, 1, 0, 0), (5, .iload_n 1, 1, 0, 0), (6, .if_icmp .eq 23, 3, 29, 0), (9, .iload_n 1, 1, 0, 0), (10, .iconst 1, 1, 0, 0), (11, .if_icmp .ne 8, 3, 19, 0), (14, .iload_n 0, 1, 0, 0), (15, .iconst 3, 1, 0, 0), (16, .if_icmp .eq 13, 3, 29, 0), (19, .iload_n 1, 1, 0, 0), (20, .iconst 2, 1, 0, 0), (21, .if_icmp .ne 12, 3, 33, 0), (24, .iload_n 0, 1, 0, 0), (25, .iconst 4, 1, 0, 0), (26, .if_icmp .ne 7, 3, 33, 0), (29, .iconst 1, 1, 0, 0), (30, .goto 4, 3, 34, 0), (33, .iconst 0, 1, 0, 0), (34, .ireturn, 1, 0, 0)]
/-- GhostTrainModel.turns(II)I -/
def mj_p151 : List (Nat × mj_I) := [(0, .aload_n 0, 1, 0, 0), (1, .iload_n 1, 1, 0, 0), (2, .invokevirtual 103, 3, 137, 1), (5, .ifCond .eq 27, 3, 32, 0), (8, .iload_n 2, 1, 0, 0), (9, .iconst 0, 1, 0, 0), (10, .iconst 5, 1, 0, 0), (11, .invokestatic 79, 3, 134, 3), (14, .ifCond .eq 18, 3, 32, 0), (17, .aload_n 0, 1, 0, 0), (18, .bipush 53, 2, 0, 0), (20, .bipush 7, 2, 0, 0), (22, .iload_n 1, 1, 0, 0), (23, .imul, 1, 0, 0), (24, .iadd, 1, 0, 0), (25, .iload_n 2, 1, 0, 0), (26, .invokevirtual 127, 3, 152, 2), (29, .goto 5, 3, 34, 0), (32, .ldc 83, 2, 3294967295, 0), (34, .ireturn, 1, 0, 0)]
/-- GhostTrainModel.becomes(II)I -/
def mj_p152 : List (Nat × mj_I) := [(0, .aload_n 0, 1, 0, 0), (1, .getfield 9, 3, 12, 0), (4, .iload_n 1, 1, 0, 0), (5, .iaload, 1, 0, 0), (6, .istore_n 3, 1, 0, 0), (7, .aload_n 0, 1, 0, 0), (8, .getfield 9, 3, 12, 0), (11, .iload_n 1, 1, 0, 0), (12, .iload_n 2, 1, 0, 0), (13, .iastore, 1, 0, 0), (14, .iload_n 3, 1, 0, 0), (15, .ireturn, 1, 0, 0)]
/-- GhostTrainModel.set(III)I -/
def mj_p153 : List (Nat × mj_I) := [(0, .aload_n 0, 1, 0, 0), (1, .iload_n 1, 1, 0, 0), (2, .invokevirtual 103, 3, 137, 1), (5, .ifCond .eq 52, 3, 57, 0), (8, .iload_n 2, 1, 0, 0), (9, .iconst 1, 1, 0, 0), (10, .iconst 2, 1, 0, 0), (11, .invokestatic 79, 3, 134, 3), (14, .ifCond .eq 43, 3, 57, 0), (17, .iload_n 3, 1, 0, 0), (18, .iload_n 2, 1, 0, 0), (19, .iconst 1, 1, 0, 0), (20, .isub, 1, 0, 0), (21, .iload_n 2, 1, 0, 0), (22, .iconst 1, 1, 0, 0), (23, .if_icmp .ne 9, 3, 32, 0), (26, .sipush 239, 3, 0, 0), (29, .goto 5, 3, 34, 0), (32, .bipush 99, 2, 0, 0), (34, .invokestatic 79, 3, 134, 3), (37, .ifCond .eq 20, 3, 57, 0), (40, .aload_n 0, 1, 0, 0), (41, .bipush 53, 2, 0, 0), (43, .bipush 7, 2, 0, 0), (45, .iload_n 1, 1, 0, 0), (46, .imul, 1, 0, 0), (47, .iadd, 1, 0, 0), (48, .iload_n 2, 1, 0, 0), (49, .iadd, 1, 0, 0), (50, .iload_n 3, 1, 0, 0), (51, .invokevirtual 127, 3, 152, 2), (54, .goto 5, 3, 59, 0), (57, .ldc 83, 2, 3294967295, 0), (59, .ireturn, 1, 0, 0)]
/-- GhostTrainModel.part(II)I -/
def mj_p154 : List (Nat × mj_I) := [(0, .iload_n 1, 1, 0, 0), (1, .invokestatic 107, 3, 138, 1), (4, .ifCond .eq 28, 3, 32, 0), (7, .iload_n 2, 1, 0, 0), (8, .iconst 0, 1, 0, 0), (9, .iconst 3, 1, 0, 0), (10, .invokestatic 79, 3, 134, 3), (13, .ifCond .eq 19, 3, 32, 0), (16, .aload_n 0, 1, 0, 0), (17, .getfield 9, 3, 12, 0), (20, .iconst 5, 1, 0, 0), (21, .bipush 12, 2, 0, 0), (23, .iload_n 2, 1, 0, 0), (24, .imul, 1, 0, 0), (25, .iadd, 1, 0, 0), (26, .iload_n 1, 1, 0, 0), (27, .iadd, 1, 0, 0), (28, .iaload, 1, 0, 0), (29, .goto 5, 3, 34, 0), (32, .ldc 83, 2, 3294967295, 0), (34, .ireturn, 1, 0, 0)]
/-- GhostTrainModel.lays(III)I -/
def mj_p155 : List (Nat × mj_I) := [(0, .iload_n 1, 1, 0, 0), (1, .invokestatic 107, 3, 138, 1), (4, .ifCond .eq 41, 3, 45, 0), (7, .iload_n 2, 1, 0, 0), (8, .iconst 0, 1, 0, 0), (9, .iconst 2, 1, 0, 0), (10, .invokestatic 79, 3, 134, 3), (13, .ifCond .eq 32, 3, 45, 0), (16, .iload_n 3, 1, 0, 0), (17, .iload_n 2, 1, 0, 0), (18, .ifCond .ne 8, 3, 26, 0), (21, .bipush (-9), 2, 0, 0), (23, .goto 4, 3, 27, 0), (26, .iconst 0, 1, 0, 0), (27, .iload_n 2, 1, 0, 0), (28, .iconst 2, 1, 0, 0), (29, .if_icmp .ne 8, 3, 37, 0), (32, .bipush 60, 2, 0, 0), (34, .goto 5, 3, 39, 0), (37, .bipush 9, 2, 0, 0), (39, .invokestatic 79, 3, 134, 3), (42, .ifCond .ne 6, 3, 48, 0), (45, .ldc 83, 2, 3294967295, 0), (47, .ireturn, 1, 0, 0), (48, .iload_n 2, 1, 0, 0), (49, .iconst 2, 1, 0, 0), (50, .if_icmp .ne 13, 3, 63, 0), (53, .aload_n 0, 1, 0, 0), (54, .getfield 9, 3, 12, 0), (57, .bipush 41, 2, 0, 0), (59, .iload_n 1, 1, 0, 0), (60, .iadd, 1, 0, 0), (61, .iconst 0, 1, 0, 0), (62, .iastore, 1, 0, 0), (63, .aload_n 0, 1, 0, 0), (64, .iconst 5, 1, 0, 0), (65, .bipush 12, 2, 0, 0), (67, .iload_n 2, 1, 0, 0), (68, .imul, 1, 0, 0), (69, .iadd, 1, 0, 0), (70, .iload_n 1, 1, 0, 0), (71, .iadd, 1, 0, 0), (72, .iload_n 3, 1, 0, 0), (73, .invokevirtual 127, 3, 152, 2), (76, .ireturn, 1, 0, 0)]
/-- GhostTrainModel.gap(I)I -/
def mj_p156 : List (Nat × mj_I) := [(0, .iload_n 1, 1, 0, 0), (1, .iconst 1, 1, 0, 0), (2, .bipush 60, 2, 0, 0), (4, .invokestatic 79, 3, 134, 3), (7, .ifCond .eq 12, 3, 19, 0), (10, .aload_n 0, 1, 0, 0), (11, .iconst 3, 1, 0, 0), (12, .iload_n 1, 1, 0, 0), (13, .invokevirtual 127, 3, 152, 2), (16, .goto 5, 3, 21, 0), (19, .ldc 83, 2, 3294967295, 0), (21, .ireturn, 1, 0, 0)]
/-- GhostTrainModel.deal(I)I -/
def mj_p157 : List (Nat × mj_I) := [(0, .iload_n 1, 1, 0, 0), (1, .iconst 1, 1, 0, 0), (2, .bipush 8, 2, 0, 0), (4, .invokestatic 79, 3, 134, 3), (7, .ifCond .ne 6, 3, 13, 0), (10, .ldc 83, 2, 3294967295, 0), (12, .ireturn, 1, 0, 0), (13, .iconst 0, 1, 0, 0), (14, .istore_n 2, 1, 0, 0), (15, .iload_n 2, 1, 0, 0), (16, .iload_n 1, 1, 0, 0), (17, .if_icmp .ge 56, 3, 73, 0), (20, .aload_n 0, 1, 0, 0), (21, .getfield 9, 3, 12, 0), (24, .iconst 1, 1, 0, 0), (25, .iaload, 1, 0, 0), (26, .bipush 8, 2, 0, 0), (28, .if_icmp .ge 45, 3, 73, 0), (31, .aload_n 0, 1, 0, 0), (32, .invokevirtual 131, 3, 158, 0), (35, .bipush 6, 2, 0, 0), (37, .irem, 1, 0, 0), (38, .istore_n 3, 1, 0, 0), (39, .aload_n 0, 1, 0, 0), (40, .invokevirtual 131, 3, 158, 0), (43, .sipush 240, 3, 0, 0), (46, .irem, 1, 0, 0), (47, .istore 4, 2, 0, 0), (49, .aload_n 0, 1, 0, 0), (50, .iload_n 3, 1, 0, 0), (51, .iload 4, 2, 0, 0), (53, .iconst 1, 1, 0, 0), (54, .aload_n 0, 1, 0, 0), (55, .invokevirtual 131, 3, 158, 0), (58, .bipush 99, 2, 0, 0), (60, .irem, 1, 0, 0), (61, .iadd, 1, 0, 0), (62, .invokevirtual 85, 3, 135, 3), (65, .istore 5, 2, 0, 0), (67, .iinc 2 1, 3, 0, 0), (70, .goto (-55), 3, 15, 0), (73, .iload_n 2, 1, 0, 0), (74, .ireturn, 1, 0, 0)]
/-- GhostTrainModel.draw()I -/
def mj_p158 : List (Nat × mj_I) := [(0, .aload_n 0, 1, 0, 0), (1, .getfield 9, 3, 12, 0), (4, .iconst 0, 1, 0, 0), (5, .aload_n 0, 1, 0, 0), (6, .getfield 9, 3, 12, 0), (9, .iconst 0, 1, 0, 0), (10, .iaload, 1, 0, 0), (11, .ldc 130, 2, 1103515245, 0), (13, .imul, 1, 0, 0), (14, .sipush 12345, 3, 0, 0), (17, .iadd, 1, 0, 0), (18, .iastore, 1, 0, 0), (19, .aload_n 0, 1, 0, 0), (20, .getfield 9, 3, 12, 0), (23, .iconst 0, 1, 0, 0), (24, .iaload, 1, 0, 0), (25, .bipush 8, 2, 0, 0), (27, .iushr, 1, 0, 0), (28, .ireturn, 1, 0, 0)]
/-- GhostTrainModel.seed(I)I -/
def mj_p159 : List (Nat × mj_I) := [(0, .aload_n 0, 1, 0, 0), (1, .iconst 0, 1, 0, 0), (2, .iload_n 1, 1, 0, 0), (3, .invokevirtual 127, 3, 152, 2), (6, .ireturn, 1, 0, 0)]
/-- GhostTrainModel.seconds(I)I -/
def mj_p160 : List (Nat × mj_I) := [(0, .iload_n 1, 1, 0, 0), (1, .iconst 1, 1, 0, 0), (2, .sipush 300, 3, 0, 0), (5, .invokestatic 79, 3, 134, 3), (8, .ifCond .ne 6, 3, 14, 0), (11, .ldc 83, 2, 3294967295, 0), (13, .ireturn, 1, 0, 0), (14, .aload_n 0, 1, 0, 0), (15, .iconst 3, 1, 0, 0), (16, .invokevirtual 150, 3, 161, 1), (19, .istore_n 2, 1, 0, 0), (20, .aload_n 0, 1, 0, 0), (21, .sipush 9999, 3, 0, 0), (24, .aload_n 0, 1, 0, 0), (25, .getfield 9, 3, 12, 0), (28, .iconst 2, 1, 0, 0), (29, .iaload, 1, 0, 0), (30, .isub, 1, 0, 0), (31, .iconst 0, 1, 0, 0), (32, .iload_n 1, 1, 0, 0), (33, .invokestatic 100, 3, 144, 3), (36, .invokevirtual 153, 3, 162, 1), (39, .aload_n 0, 1, 0, 0), (40, .iconst 3, 1, 0, 0), (41, .invokevirtual 150, 3, 161, 1), (44, .iload_n 2, 1, 0, 0), (45, .isub, 1, 0, 0), (46, .ireturn, 1, 0, 0)]
/-- GhostTrainModel.sumOf(I)I -/
def mj_p161 : List (Nat × mj_I) := [(0, .iconst 0, 1, 0, 0), (1, .istore_n 2, 1, 0, 0), (2, .iconst 0, 1, 0, 0), (3, .istore_n 3, 1, 0, 0), (4, .iload_n 3, 1, 0, 0), (5, .aload_n 0, 1, 0, 0), (6, .getfield 9, 3, 12, 0), (9, .iconst 1, 1, 0, 0), (10, .iaload, 1, 0, 0), (11, .if_icmp .ge 30, 3, 41, 0), (14, .iload_n 2, 1, 0, 0), (15, .iload_n 3, 1, 0, 0), (16, .aload_n 0, 1, 0, 0), (17, .getfield 19, 3, 12, 4), (20, .if_icmp .ne 7, 3, 27, 0), (23, .iconst 0, 1, 0, 0), (24, .goto 9, 3, 33, 0), (27, .aload_n 0, 1, 0, 0), (28, .iload_n 3, 1, 0, 0), (29, .iload_n 1, 1, 0, 0), (30, .invokevirtual 93, 3, 141, 2), (33, .iadd, 1, 0, 0), (34, .istore_n 2, 1, 0, 0), (35, .iinc 3 1, 3, 0, 0), (38, .goto (-34), 3, 4, 0), (41, .iload_n 2, 1, 0, 0), (42, .ireturn, 1, 0, 0)]
/-- GhostTrainModel.goesOn(I)V -/
def mj_p162 : List (Nat × mj_I) := [(0, .iconst 0, 1, 0, 0), (1, .istore_n 2, 1, 0, 0), (2, .iload_n 2, 1, 0, 0), (3, .iload_n 1, 1, 0, 0), (4, .if_icmp .ge 13, 3, 17, 0), (7, .aload_n 0, 1, 0, 0), (8, .invokevirtual 147, 3, 163, 0), (11, .iinc 2 1, 3, 0, 0), (14, .goto (-12), 3, 2, 0), (17, .return_, 1, 0, 0)]
/-- GhostTrainModel.second()V -/
def mj_p163 : List (Nat × mj_I) := [(0, .iconst 0, 1, 0, 0), (1, .istore_n 1, 1, 0, 0), (2, .iload_n 1, 1, 0, 0), (3, .bipush 12, 2, 0, 0), (5, .if_icmp .ge 38, 3, 43, 0), (8, .aload_n 0, 1, 0, 0), (9, .getfield 9, 3, 12, 0), (12, .bipush 41, 2, 0, 0), (14, .iload_n 1, 1, 0, 0), (15, .iadd, 1, 0, 0), (16, .dup2, 1, 0, 0), (17, .iaload, 1, 0, 0), (18, .aload_n 0, 1, 0, 0), (19, .getfield 9, 3, 12, 0), (22, .bipush 41, 2, 0, 0), (24, .iload_n 1, 1, 0, 0), (25, .iadd, 1, 0, 0), (26, .iaload, 1, 0, 0), (27, .ifCond .le 7, 3, 34, 0), (30, .iconst 1, 1, 0, 0), (31, .goto 4, 3, 35, 0), (34, .iconst 0, 1, 0, 0), (35, .isub, 1, 0, 0), (36, .iastore, 1, 0, 0), (37, .iinc 1 1, 3, 0, 0), (40, .goto (-38), 3, 2, 0), (43, .iconst 0, 1, 0, 0), (44, .istore_n 1, 1, 0, 0), (45, .iload_n 1, 1, 0, 0), (46, .aload_n 0, 1, 0, 0), (47, .getfield 9, 3, 12, 0), (50, .iconst 1, 1, 0, 0), (51, .iaload, 1, 0, 0), (52, .if_icmp .ge 22, 3, 74, 0), (55, .iload_n 1, 1, 0, 0), (56, .aload_n 0, 1, 0, 0), (57, .getfield 19, 3, 12, 4), (60, .if_icmp .eq 8, 3, 68, 0), (63, .aload_n 0, 1, 0, 0), (64, .iload_n 1, 1, 0, 0), (65, .invokevirtual 143, 3, 164, 1), (68, .iinc 1 1, 3, 0, 0), (71, .goto (-26), 3, 45, 0), (74, .aload_n 0, 1, 0, 0), (75, .getfield 9, 3, 12, 0), (78, .iconst 2, 1, 0, 0), (79, .dup2, 1, 0, 0), (80, .iaload, 1, 0, 0), (81, .iconst 1, 1, 0, 0), (82, .iadd, 1, 0, 0), (83, .iastore, 1, 0, 0), (84, .return_, 1, 0, 0)]
/-- GhostTrainModel.goes(I)V -/
def mj_p164 : List (Nat × mj_I) := [(0, .aload_n 0, 1, 0, 0), (1, .iload_n 1, 1, 0, 0), (2, .iconst 1, 1, 0, 0), (3, .invokevirtual 93, 3, 141, 2), (6, .bipush 20, 2, 0, 0), (8, .idiv, 1, 0, 0), (9, .istore_n 2, 1, 0, 0), (10, .aload_n 0, 1, 0, 0), (11, .iload_n 1, 1, 0, 0), (12, .invokevirtual 113, 3, 146, 1), (15, .iconst 0, 1, 0, 0), (16, .aload_n 0, 1, 0, 0), (17, .iload_n 1, 1, 0, 0), (18, .iload_n 2, 1, 0, 0), (19, .invokevirtual 110, 3, 139, 2), (22, .invokestatic 100, 3, 144, 3), (25, .istore_n 3, 1, 0, 0), (26, .aload_n 0, 1, 0, 0), (27, .iload_n 1, 1, 0, 0), (28, .iconst 5, 1, 0, 0), (29, .iload_n 3, 1, 0, 0), (30, .ifCond .ne 7, 3, 37, 0), (33, .iconst 1, 1, 0, 0), (34, .goto 4, 3, 38, 0), (37, .iconst 0, 1, 0, 0), (38, .invokevirtual 135, 3, 165, 3), (41, .aload_n 0, 1, 0, 0), (42, .iload_n 1, 1, 0, 0), (43, .iconst 1, 1, 0, 0), (44, .iload_n 3, 1, 0, 0), (45, .invokevirtual 135, 3, 165, 3), (48, .aload_n 0, 1, 0, 0), (49, .iload_n 1, 1, 0, 0), (50, .iconst 1, 1, 0, 0), (51, .invokevirtual 93, 3, 141, 2), (54, .sipush 240, 3, 0, 0), (57, .if_icmp .lt 20, 3, 77, 0), (60, .aload_n 0, 1, 0, 0), (61, .iload_n 1, 1, 0, 0), (62, .iconst 1, 1, 0, 0), (63, .sipush (-240), 3, 0, 0), (66, .invokevirtual 135, 3, 165, 3), (69, .aload_n 0, 1, 0, 0), (70, .iload_n 1, 1, 0, 0), (71, .bipush 6, 2, 0, 0), (73, .iconst 1, 1, 0, 0), (74, .invokevirtual 135, 3, 165, 3), (77, .aload_n 0, 1, 0, 0), (78, .iload_n 1, 1, 0, 0), (79, .iconst 1, 1, 0, 0), (80, .invokevirtual 93, 3, 141, 2), (83, .bipush 20, 2, 0, 0), (85, .idiv, 1, 0, 0), (86, .istore 4, 2, 0, 0), (88, .iload 4, 2, 0, 0), (90, .iload_n 2, 1, 0, 0), (91, .if_icmp .eq 10, 3, 101, 0), (94, .aload_n 0, 1, 0, 0), (95, .iload_n 1, 1, 0, 0), (96, .iload 4, 2, 0, 0), (98, .invokevirtual 139, 3, 166, 2), (101, .return_, 1, 0, 0)]
/-- GhostTrainModel.adds(III)V -/
def mj_p165 : List (Nat × mj_I) := [(0, .aload_n 0, 1, 0, 0), (1, .getfield 9, 3, 12, 0), (4, .bipush 53, 2, 0, 0), (6, .bipush 7, 2, 0, 0), (8, .iload_n 1, 1, 0, 0), (9, .imul, 1, 0, 0), (10, .iadd, 1, 0, 0), (11, .iload_n 2, 1, 0, 0), (12, .iadd, 1, 0, 0), (13, .dup2, 1, 0, 0), (14, .iaload, 1, 0, 0), (15, .iload_n 3, 1, 0, 0), (16, .iadd, 1, 0, 0), (17, .iastore, 1, 0, 0), (18, .return_, 1, 0, 0)]
/-- GhostTrainModel.enters(II)V -/
def mj_p166 : List (Nat × mj_I) := [(0, .aload_n 0, 1, 0, 0), (1, .getfield 9, 3, 12, 0), (4, .bipush 29, 2, 0, 0), (6, .iload_n 2, 1, 0, 0), (7, .iadd, 1, 0, 0), (8, .iaload, 1, 0, 0), (9, .ifCond .ne 4, 3, 13, 0), (12, .return_, 1, 0, 0), (13, .aload_n 0, 1, 0, 0), (14, .getfield 9, 3, 12, 0), (17, .bipush 41, 2, 0, 0), (19, .iload_n 2, 1, 0, 0), (20, .iadd, 1, 0, 0), (21, .iaload, 1, 0, 0), (22, .ifCond .le 13, 3, 35, 0), (25, .aload_n 0, 1, 0, 0), (26, .iload_n 1, 1, 0, 0), (27, .iconst 4, 1, 0, 0), (28, .iconst 1, 1, 0, 0), (29, .invokevirtual 135, 3, 165, 3), (32, .goto 32, 3, 64, 0), (35, .aload_n 0, 1, 0, 0), (36, .iload_n 1, 1, 0, 0), (37, .iconst 3, 1, 0, 0), (38, .aload_n 0, 1, 0, 0), (39, .iload_n 1, 1, 0, 0), (40, .invokevirtual 116, 3, 147, 1), (43, .invokevirtual 135, 3, 165, 3), (46, .aload_n 0, 1, 0, 0), (47, .getfield 9, 3, 12, 0), (50, .bipush 41, 2, 0, 0), (52, .iload_n 2, 1, 0, 0), (53, .iadd, 1, 0, 0), (54, .aload_n 0, 1, 0, 0), (55, .getfield 9, 3, 12, 0), (58, .bipush 29, 2, 0, 0), (60, .iload_n 2, 1, 0, 0), (61, .iadd, 1, 0, 0), (62, .iaload, 1, 0, 0), (63, .iastore, 1, 0, 0), (64, .return_, 1, 0, 0)]
/-- GhostTrainModel.ride(I)I -/
def mj_p167 : List (Nat × mj_I) := [(0, .iload_n 1, 1, 0, 0), (1, .iconst 0, 1, 0, 0), (2, .iconst 5, 1, 0, 0), (3, .invokestatic 79, 3, 134, 3), (6, .ifCond .ne 6, 3, 12, 0), (9, .ldc 83, 2, 3294967295, 0), (11, .ireturn, 1, 0, 0), (12, .iload_n 1, 1, 0, 0), (13, .iconst 5, 1, 0, 0), (14, .if_icmp .ne 10, 3, 24, 0), (17, .aload_n 0, 1, 0, 0), (18, .invokevirtual 156, 3, 168, 0), (21, .goto 19, 3, 40, 0), (24, .aload_n 0, 1, 0, 0), (25, .iload_n 1, 1, 0, 0), (26, .iconst 4, 1, 0, 0), (27, .if_icmp .ne 7, 3, 34, 0), (30, .iconst 1, 1, 0, 0), (31, .goto 6, 3, 37, 0), (34, .iconst 3, 1, 0, 0), (35, .iload_n 1, 1, 0, 0), (36, .iadd, 1, 0, 0), (37, .invokevirtual 150, 3, 161, 1), (40, .ireturn, 1, 0, 0)]
/-- GhostTrainModel.near()I -/
def mj_p168 : List (Nat × mj_I) := [(0, .iconst 0, 1, 0, 0), (1, .istore_n 1, 1, 0, 0), (2, .iconst 0, 1, 0, 0), (3, .istore_n 2, 1, 0, 0), (4, .iload_n 2, 1, 0, 0), (5, .aload_n 0, 1, 0, 0), (6, .getfield 9, 3, 12, 0), (9, .iconst 1, 1, 0, 0), (10, .iaload, 1, 0, 0), (11, .if_icmp .ge 25, 3, 36, 0), (14, .iload_n 1, 1, 0, 0), (15, .aload_n 0, 1, 0, 0), (16, .iload_n 2, 1, 0, 0), (17, .invokevirtual 113, 3, 146, 1), (20, .ifCond .ge 7, 3, 27, 0), (23, .iconst 1, 1, 0, 0), (24, .goto 4, 3, 28, 0), (27, .iconst 0, 1, 0, 0), (28, .iadd, 1, 0, 0), (29, .istore_n 1, 1, 0, 0), (30, .iinc 2 1, 3, 0, 0), (33, .goto (-29), 3, 4, 0), (36, .iload_n 1, 1, 0, 0), (37, .ireturn, 1, 0, 0)]
/-- GhostTrainModel.lamps()I -/
def mj_p169 : List (Nat × mj_I) := [(0, .iconst 0, 1, 0, 0), (1, .istore_n 1, 1, 0, 0), (2, .iconst 0, 1, 0, 0), (3, .istore_n 2, 1, 0, 0), (4, .iload_n 2, 1, 0, 0), (5, .aload_n 0, 1, 0, 0), (6, .getfield 9, 3, 12, 0), (9, .iconst 1, 1, 0, 0), (10, .iaload, 1, 0, 0), (11, .if_icmp .ge 23, 3, 34, 0), (14, .iload_n 1, 1, 0, 0), (15, .iconst 1, 1, 0, 0), (16, .aload_n 0, 1, 0, 0), (17, .iload_n 2, 1, 0, 0), (18, .iconst 1, 1, 0, 0), (19, .invokevirtual 93, 3, 141, 2), (22, .bipush 20, 2, 0, 0), (24, .idiv, 1, 0, 0), (25, .ishl, 1, 0, 0), (26, .ior, 1, 0, 0), (27, .istore_n 1, 1, 0, 0), (28, .iinc 2 1, 3, 0, 0), (31, .goto (-27), 3, 4, 0), (34, .iload_n 1, 1, 0, 0), (35, .ireturn, 1, 0, 0)]
/-- GhostTrainModel.behind(II)I -/
def mj_p170 : List (Nat × mj_I) := [(0, .iload_n 1, 1, 0, 0), (1, .iconst 0, 1, 0, 0), (2, .sipush 300, 3, 0, 0), (5, .invokestatic 79, 3, 134, 3), (8, .ifCond .eq 22, 3, 30, 0), (11, .iload_n 2, 1, 0, 0), (12, .ifCond .lt 18, 3, 30, 0), (15, .iload_n 2, 1, 0, 0), (16, .iconst 3, 1, 0, 0), (17, .if_icmp .le 16, 3, 33, 0), (20, .aload_n 0, 1, 0, 0), (21, .iload_n 2, 1, 0, 0), (22, .iconst 4, 1, 0, 0), (23, .isub, 1, 0, 0), (24, .invokevirtual 103, 3, 137, 1), (27, .ifCond .ne 6, 3, 33, 0), (30, .ldc 83, 2, 3294967295, 0), (32, .ireturn, 1, 0, 0), (33, .aload_n 0, 1, 0, 0), (34, .invokevirtual 159, 3, 171, 0), (37, .aload_n 0, 1, 0, 0), (38, .iload_n 1, 1, 0, 0), (39, .invokevirtual 153, 3, 162, 1), (42, .iload_n 2, 1, 0, 0), (43, .iconst 3, 1, 0, 0), (44, .if_icmp .le 14, 3, 58, 0), (47, .aload_n 0, 1, 0, 0), (48, .iload_n 2, 1, 0, 0), (49, .iconst 4, 1, 0, 0), (50, .isub, 1, 0, 0), (51, .iconst 1, 1, 0, 0), (52, .invokevirtual 93, 3, 141, 2), (55, .goto 10, 3, 65, 0), (58, .aload_n 0, 1, 0, 0), (59, .iconst 3, 1, 0, 0), (60, .iload_n 2, 1, 0, 0), (61, .iadd, 1, 0, 0), (62, .invokevirtual 150, 3, 161, 1), (65, .istore_n 3, 1, 0, 0), (66, .aload_n 0, 1, 0, 0), (67, .invokevirtual 162, 3, 172, 0), (70, .iload_n 3, 1, 0, 0), (71, .ireturn, 1, 0, 0)]
/-- GhostTrainModel.thinks()V -/
def mj_p171 : List (Nat × mj_I) := [(0, .iconst 0, 1, 0, 0), (1, .istore_n 1, 1, 0, 0), (2, .iload_n 1, 1, 0, 0), (3, .bipush 109, 2, 0, 0), (5, .if_icmp .ge 21, 3, 26, 0), (8, .aload_n 0, 1, 0, 0), (9, .getfield 23, 3, 12, 5), (12, .iload_n 1, 1, 0, 0), (13, .aload_n 0, 1, 0, 0), (14, .getfield 9, 3, 12, 0), (17, .iload_n 1, 1, 0, 0), (18, .iaload, 1, 0, 0), (19, .iastore, 1, 0, 0), (20, .iinc 1 1, 3, 0, 0), (23, .goto (-21), 3, 2, 0), (26, .return_, 1, 0, 0)]
/-- GhostTrainModel.putsBack()V -/
def mj_p172 : List (Nat × mj_I) := [(0, .iconst 0, 1, 0, 0), (1, .istore_n 1, 1, 0, 0), (2, .iload_n 1, 1, 0, 0), (3, .bipush 109, 2, 0, 0), (5, .if_icmp .ge 21, 3, 26, 0), (8, .aload_n 0, 1, 0, 0), (9, .getfield 9, 3, 12, 0), (12, .iload_n 1, 1, 0, 0), (13, .aload_n 0, 1, 0, 0), (14, .getfield 23, 3, 12, 5), (17, .iload_n 1, 1, 0, 0), (18, .iaload, 1, 0, 0), (19, .iastore, 1, 0, 0), (20, .iinc 1 1, 3, 0, 0), (23, .goto (-21), 3, 2, 0), (26, .aload_n 0, 1, 0, 0), (27, .iconst (-1), 1, 0, 0), (28, .putfield 19, 3, 12, 4), (31, .return_, 1, 0, 0)]
/-- GhostTrainModel.stands()I -/
def mj_p173 : List (Nat × mj_I) := [(0, .aload_n 0, 1, 0, 0), (1, .invokevirtual 159, 3, 171, 0), (4, .aload_n 0, 1, 0, 0), (5, .iconst 5, 1, 0, 0), (6, .invokevirtual 150, 3, 161, 1), (9, .istore_n 1, 1, 0, 0), (10, .iconst 1, 1, 0, 0), (11, .istore_n 2, 1, 0, 0), (12, .aload_n 0, 1, 0, 0), (13, .invokevirtual 147, 3, 163, 0), (16, .iload_n 2, 1, 0, 0), (17, .sipush 300, 3, 0, 0), (20, .if_icmp .gt 22, 3, 42, 0), (23, .aload_n 0, 1, 0, 0), (24, .iconst 5, 1, 0, 0), (25, .invokevirtual 150, 3, 161, 1), (28, .iload_n 1, 1, 0, 0), (29, .if_icmp .ne 13, 3, 42, 0), (32, .aload_n 0, 1, 0, 0), (33, .invokevirtual 147, 3, 163, 0), (36, .iinc 2 1, 3, 0, 0), (39, .goto (-23), 3, 16, 0), (42, .aload_n 0, 1, 0, 0), (43, .invokevirtual 162, 3, 172, 0), (46, .iload_n 2, 1, 0, 0), (47, .sipush 300, 3, 0, 0), (50, .if_icmp .le 8, 3, 58, 0), (53, .ldc 165, 2, 3294967291, 0), (55, .goto 4, 3, 59, 0), (58, .iload_n 2, 1, 0, 0), (59, .ireturn, 1, 0, 0)]
/-- GhostTrainModel.brake(III)I -/
def mj_p174 : List (Nat × mj_I) := [(0, .iload_n 1, 1, 0, 0), (1, .invokestatic 107, 3, 138, 1), (4, .ifCond .eq 22, 3, 26, 0), (7, .iload_n 2, 1, 0, 0), (8, .iconst 1, 1, 0, 0), (9, .bipush 100, 2, 0, 0), (11, .invokestatic 79, 3, 134, 3), (14, .ifCond .eq 12, 3, 26, 0), (17, .iload_n 3, 1, 0, 0), (18, .iconst 0, 1, 0, 0), (19, .iconst 1, 1, 0, 0), (20, .invokestatic 79, 3, 134, 3), (23, .ifCond .ne 6, 3, 29, 0), (26, .ldc 83, 2, 3294967295, 0), (28, .ireturn, 1, 0, 0), (29, .aload_n 0, 1, 0, 0), (30, .invokevirtual 159, 3, 171, 0), (33, .iconst (-1), 1, 0, 0), (34, .istore 4, 2, 0, 0), (36, .iconst 0, 1, 0, 0), (37, .istore 5, 2, 0, 0), (39, .iconst 0, 1, 0, 0), (40, .istore 6, 2, 0, 0), (42, .iload 6, 2, 0, 0), (44, .bipush 10, 2, 0, 0), (46, .if_icmp .ge 62, 3, 108, 0), (49, .aload_n 0, 1, 0, 0), (50, .getfield 9, 3, 12, 0), (53, .bipush 17, 2, 0, 0), (55, .iload_n 1, 1, 0, 0), (56, .iadd, 1, 0, 0), (57, .iload 6, 2, 0, 0), (59, .iastore, 1, 0, 0), (60, .aload_n 0, 1, 0, 0), (61, .iload_n 2, 1, 0, 0), (62, .invokevirtual 153, 3, 162, 1), (65, .aload_n 0, 1, 0, 0), (66, .iconst 3, 1, 0, 0), (67, .invokevirtual 150, 3, 161, 1), (70, .aload_n 0, 1, 0, 0), (71, .iconst 5, 1, 0, 0), (72, .invokevirtual 150, 3, 161, 1), (75, .isub, 1, 0, 0), (76, .istore 7, 2, 0, 0), (78, .aload_n 0, 1, 0, 0), (79, .invokevirtual 162, 3, 172, 0), (82, .iload 4, 2, 0, 0), (84, .ifCond .lt 10, 3, 94, 0), (87, .iload 7, 2, 0, 0), (89, .iload 5, 2, 0, 0), (91, .if_icmp .le 11, 3, 102, 0), (94, .iload 6, 2, 0, 0), (96, .istore 4, 2, 0, 0), (98, .iload 7, 2, 0, 0), (100, .istore 5, 2, 0, 0), (102, .iinc 6 1, 3, 0, 0), (105, .goto (-63), 3, 42, 0), (108, .iload_n 3, 1, 0, 0), (109, .ifCond .ne 8, 3, 117, 0), (112, .iload 4, 2, 0, 0), (114, .goto 5, 3, 119, 0), (117, .iload 5, 2, 0, 0), (119, .ireturn, 1, 0, 0)]
/-- GhostTrainModel.moved(III)I -/
def mj_p175 : List (Nat × mj_I) := [(0, .iload_n 1, 1, 0, 0), (1, .invokestatic 107, 3, 138, 1), (4, .ifCond .eq 25, 3, 29, 0), (7, .iload_n 2, 1, 0, 0), (8, .invokestatic 107, 3, 138, 1), (11, .ifCond .eq 18, 3, 29, 0), (14, .iload_n 1, 1, 0, 0), (15, .iload_n 2, 1, 0, 0), (16, .if_icmp .eq 13, 3, 29, 0), (19, .iload_n 3, 1, 0, 0), (20, .iconst 1, 1, 0, 0), (21, .bipush 100, 2, 0, 0), (23, .invokestatic 79, 3, 134, 3), (26, .ifCond .ne 6, 3, 32, 0), (29, .ldc 83, 2, 3294967295, 0), (31, .ireturn, 1, 0, 0), (32, .aload_n 0, 1, 0, 0), (33, .invokevirtual 159, 3, 171, 0), (36, .aload_n 0, 1, 0, 0), (37, .iload_n 3, 1, 0, 0), (38, .invokevirtual 166, 3, 176, 1), (41, .istore 4, 2, 0, 0), (43, .bipush 29, 2, 0, 0), (45, .istore 5, 2, 0, 0), (47, .iload 5, 2, 0, 0), (49, .bipush 41, 2, 0, 0), (51, .if_icmp .gt 45, 3, 96, 0), (54, .aload_n 0, 1, 0, 0), (55, .getfield 9, 3, 12, 0), (58, .iload 5, 2, 0, 0), (60, .iload_n 1, 1, 0, 0), (61, .iadd, 1, 0, 0), (62, .aload_n 0, 1, 0, 0), (63, .getfield 23, 3, 12, 5), (66, .iload 5, 2, 0, 0), (68, .iload_n 2, 1, 0, 0), (69, .iadd, 1, 0, 0), (70, .iaload, 1, 0, 0), (71, .iastore, 1, 0, 0), (72, .aload_n 0, 1, 0, 0), (73, .getfield 9, 3, 12, 0), (76, .iload 5, 2, 0, 0), (78, .iload_n 2, 1, 0, 0), (79, .iadd, 1, 0, 0), (80, .aload_n 0, 1, 0, 0), (81, .getfield 23, 3, 12, 5), (84, .iload 5, 2, 0, 0), (86, .iload_n 1, 1, 0, 0), (87, .iadd, 1, 0, 0), (88, .iaload, 1, 0, 0), (89, .iastore, 1, 0, 0), (90, .iinc 5 12, 3, 0, 0), (93, .goto (-46), 3, 47, 0), (96, .aload_n 0, 1, 0, 0), (97, .iload_n 3, 1, 0, 0), (98, .invokevirtual 166, 3, 176, 1), (101, .iload 4, 2, 0, 0), (103, .isub, 1, 0, 0), (104, .ireturn, 1, 0, 0)]
/-- GhostTrainModel.screamsBehind(I)I -/
def mj_p176 : List (Nat × mj_I) := [(0, .aload_n 0, 1, 0, 0), (1, .iload_n 1, 1, 0, 0), (2, .invokevirtual 153, 3, 162, 1), (5, .aload_n 0, 1, 0, 0), (6, .iconst 3, 1, 0, 0), (7, .invokevirtual 150, 3, 161, 1), (10, .istore_n 2, 1, 0, 0), (11, .aload_n 0, 1, 0, 0), (12, .invokevirtual 162, 3, 172, 0), (15, .iload_n 2, 1, 0, 0), (16, .ireturn, 1, 0, 0)]
/-- GhostTrainModel.off(II)I -/
def mj_p177 : List (Nat × mj_I) := [(0, .iload_n 1, 1, 0, 0), (1, .iconst 1, 1, 0, 0), (2, .bipush 100, 2, 0, 0), (4, .invokestatic 79, 3, 134, 3), (7, .ifCond .eq 12, 3, 19, 0), (10, .iload_n 2, 1, 0, 0), (11, .iconst 0, 1, 0, 0), (12, .iconst 1, 1, 0, 0), (13, .invokestatic 79, 3, 134, 3), (16, .ifCond .ne 6, 3, 22, 0), (19, .ldc 83, 2, 3294967295, 0), (21, .ireturn, 1, 0, 0), (22, .aload_n 0, 1, 0, 0), (23, .invokevirtual 159, 3, 171, 0), (26, .iconst (-1), 1, 0, 0), (27, .istore_n 3, 1, 0, 0), (28, .iconst 0, 1, 0, 0), (29, .istore 4, 2, 0, 0), (31, .iconst 0, 1, 0, 0), (32, .istore 5, 2, 0, 0), (34, .iload 5, 2, 0, 0), (36, .aload_n 0, 1, 0, 0), (37, .getfield 9, 3, 12, 0), (40, .iconst 1, 1, 0, 0), (41, .iaload, 1, 0, 0), (42, .if_icmp .ge 40, 3, 82, 0), (45, .aload_n 0, 1, 0, 0), (46, .iload 5, 2, 0, 0), (48, .putfield 19, 3, 12, 4), (51, .aload_n 0, 1, 0, 0), (52, .iload_n 1, 1, 0, 0), (53, .invokevirtual 166, 3, 176, 1), (56, .istore 6, 2, 0, 0), (58, .iload_n 3, 1, 0, 0), (59, .ifCond .lt 10, 3, 69, 0), (62, .iload 6, 2, 0, 0), (64, .iload 4, 2, 0, 0), (66, .if_icmp .le 10, 3, 76, 0), (69, .iload 5, 2, 0, 0), (71, .istore_n 3, 1, 0, 0), (72, .iload 6, 2, 0, 0), (74, .istore 4, 2, 0, 0), (76, .iinc 5 1, 3, 0, 0), (79, .goto (-45), 3, 34, 0), (82, .iload_n 3, 1, 0, 0), (83, .ifCond .ge 8, 3, 91, 0), (86, .ldc 165, 2, 3294967291, 0), (88, .goto 13, 3, 101, 0), (91, .iload_n 2, 1, 0, 0), (92, .ifCond .ne 7, 3, 99, 0), (95, .iload_n 3, 1, 0, 0), (96, .goto 5, 3, 101, 0), (99, .iload 4, 2, 0, 0), (101, .ireturn, 1, 0, 0)]
/-- GhostTrainModel.kind(III)I -/
def mj_p178 : List (Nat × mj_I) := [(0, .aload_n 0, 1, 0, 0), (1, .iload_n 1, 1, 0, 0), (2, .invokevirtual 103, 3, 137, 1), (5, .ifCond .eq 22, 3, 27, 0), (8, .iload_n 2, 1, 0, 0), (9, .iconst 1, 1, 0, 0), (10, .bipush 100, 2, 0, 0), (12, .invokestatic 79, 3, 134, 3), (15, .ifCond .eq 12, 3, 27, 0), (18, .iload_n 3, 1, 0, 0), (19, .iconst 0, 1, 0, 0), (20, .iconst 1, 1, 0, 0), (21, .invokestatic 79, 3, 134, 3), (24, .ifCond .ne 6, 3, 30, 0), (27, .ldc 83, 2, 3294967295, 0), (29, .ireturn, 1, 0, 0), (30, .aload_n 0, 1, 0, 0), (31, .invokevirtual 159, 3, 171, 0), (34, .iconst (-1), 1, 0, 0), (35, .istore 4, 2, 0, 0), (37, .iconst (-1), 1, 0, 0), (38, .istore 5, 2, 0, 0), (40, .iconst 0, 1, 0, 0), (41, .istore 6, 2, 0, 0), (43, .iload 6, 2, 0, 0), (45, .bipush 6, 2, 0, 0), (47, .if_icmp .ge 62, 3, 109, 0), (50, .aload_n 0, 1, 0, 0), (51, .getfield 9, 3, 12, 0), (54, .bipush 53, 2, 0, 0), (56, .bipush 7, 2, 0, 0), (58, .iload_n 1, 1, 0, 0), (59, .imul, 1, 0, 0), (60, .iadd, 1, 0, 0), (61, .iload 6, 2, 0, 0), (63, .iastore, 1, 0, 0), (64, .aload_n 0, 1, 0, 0), (65, .iload_n 2, 1, 0, 0), (66, .invokevirtual 166, 3, 176, 1), (69, .istore 7, 2, 0, 0), (71, .iload 7, 2, 0, 0), (73, .iload 5, 2, 0, 0), (75, .if_icmp .le 8, 3, 83, 0), (78, .iload 6, 2, 0, 0), (80, .goto 5, 3, 85, 0), (83, .iload 4, 2, 0, 0), (85, .istore 4, 2, 0, 0), (87, .iload 7, 2, 0, 0), (89, .iload 5, 2, 0, 0), (91, .if_icmp .le 8, 3, 99, 0), (94, .iload 7, 2, 0, 0), (96, .goto 5, 3, 101, 0), (99, .iload 5, 2, 0, 0), (101, .istore 5, 2, 0, 0), (103, .iinc 6 1, 3, 0, 0), (106, .goto (-63), 3, 43, 0), (109, .iload_n 3, 1, 0, 0), (110, .ifCond .ne 8, 3, 118, 0), (113, .iload 4, 2, 0, 0), (115, .goto 5, 3, 120, 0), (118, .iload 5, 2, 0, 0), (120, .ireturn, 1, 0, 0)]
/-- GhostTrainModel.kiss(II)I -/
def mj_p179 : List (Nat × mj_I) := [(0, .iload_n 1, 1, 0, 0), (1, .invokestatic 107, 3, 138, 1), (4, .ifCond .eq 13, 3, 17, 0), (7, .iload_n 2, 1, 0, 0), (8, .iconst 1, 1, 0, 0), (9, .bipush 100, 2, 0, 0), (11, .invokestatic 79, 3, 134, 3), (14, .ifCond .ne 6, 3, 20, 0), (17, .ldc 83, 2, 3294967295, 0), (19, .ireturn, 1, 0, 0), (20, .aload_n 0, 1, 0, 0), (21, .invokevirtual 159, 3, 171, 0), (24, .aload_n 0, 1, 0, 0), (25, .iload_n 2, 1, 0, 0), (26, .invokevirtual 166, 3, 176, 1), (29, .istore_n 3, 1, 0, 0), (30, .aload_n 0, 1, 0, 0), (31, .getfield 9, 3, 12, 0), (34, .bipush 17, 2, 0, 0), (36, .iload_n 1, 1, 0, 0), (37, .iadd, 1, 0, 0), (38, .bipush 9, 2, 0, 0), (40, .iastore, 1, 0, 0), (41, .iload_n 3, 1, 0, 0), (42, .aload_n 0, 1, 0, 0), (43, .iload_n 2, 1, 0, 0), (44, .invokevirtual 166, 3, 176, 1), (47, .isub, 1, 0, 0), (48, .ireturn, 1, 0, 0)]
/-- GhostTrainModel.gaps(I)I -/
def mj_p180 : List (Nat × mj_I) := [(0, .iload_n 1, 1, 0, 0), (1, .iconst 1, 1, 0, 0), (2, .bipush 60, 2, 0, 0), (4, .invokestatic 79, 3, 134, 3), (7, .ifCond .ne 6, 3, 13, 0), (10, .ldc 83, 2, 3294967295, 0), (12, .ireturn, 1, 0, 0), (13, .aload_n 0, 1, 0, 0), (14, .invokevirtual 159, 3, 171, 0), (17, .aload_n 0, 1, 0, 0), (18, .iconst 5, 1, 0, 0), (19, .invokevirtual 150, 3, 161, 1), (22, .istore_n 2, 1, 0, 0), (23, .iconst 0, 1, 0, 0), (24, .istore_n 3, 1, 0, 0), (25, .bipush 60, 2, 0, 0), (27, .istore 4, 2, 0, 0), (29, .iload 4, 2, 0, 0), (31, .ifCond .le 46, 3, 77, 0), (34, .iload_n 3, 1, 0, 0), (35, .ifCond .ne 42, 3, 77, 0), (38, .aload_n 0, 1, 0, 0), (39, .getfield 9, 3, 12, 0), (42, .iconst 3, 1, 0, 0), (43, .iload 4, 2, 0, 0), (45, .iastore, 1, 0, 0), (46, .aload_n 0, 1, 0, 0), (47, .iload_n 1, 1, 0, 0), (48, .invokevirtual 153, 3, 162, 1), (51, .aload_n 0, 1, 0, 0), (52, .iconst 5, 1, 0, 0), (53, .invokevirtual 150, 3, 161, 1), (56, .iload_n 2, 1, 0, 0), (57, .if_icmp .ne 8, 3, 65, 0), (60, .iload 4, 2, 0, 0), (62, .goto 4, 3, 66, 0), (65, .iconst 0, 1, 0, 0), (66, .istore_n 3, 1, 0, 0), (67, .aload_n 0, 1, 0, 0), (68, .invokevirtual 162, 3, 172, 0), (71, .iinc 4 (-1), 3, 0, 0), (74, .goto (-45), 3, 29, 0), (77, .iload_n 3, 1, 0, 0), (78, .ifCond .ne 8, 3, 86, 0), (81, .ldc 165, 2, 3294967291, 0), (83, .goto 4, 3, 87, 0), (86, .iload_n 3, 1, 0, 0), (87, .ireturn, 1, 0, 0)]
/-- GhostTrainModel.weighed(III)I -/
def mj_p181 : List (Nat × mj_I) := [(0, .iload_n 1, 1, 0, 0), (1, .invokestatic 169, 3, 182, 1), (4, .ifCond .eq 20, 3, 24, 0), (7, .aload_n 0, 1, 0, 0), (8, .iload_n 2, 1, 0, 0), (9, .invokevirtual 103, 3, 137, 1), (12, .ifCond .eq 12, 3, 24, 0), (15, .iload_n 3, 1, 0, 0), (16, .iconst 0, 1, 0, 0), (17, .iconst 1, 1, 0, 0), (18, .invokestatic 79, 3, 134, 3), (21, .ifCond .ne 6, 3, 27, 0), (24, .ldc 83, 2, 3294967295, 0), (26, .ireturn, 1, 0, 0), (27, .aload_n 0, 1, 0, 0), (28, .getfield 52, 3, 12, 24), (31, .iload_n 1, 1, 0, 0), (32, .iaload, 1, 0, 0), (33, .ifCond .ge 6, 3, 39, 0), (36, .ldc 172, 2, 3294967285, 0), (38, .ireturn, 1, 0, 0), (39, .aload_n 0, 1, 0, 0), (40, .invokevirtual 159, 3, 171, 0), (43, .iconst 1, 1, 0, 0), (44, .istore 4, 2, 0, 0), (46, .aload_n 0, 1, 0, 0), (47, .iload_n 1, 1, 0, 0), (48, .iload_n 2, 1, 0, 0), (49, .iconst 1, 1, 0, 0), (50, .invokevirtual 173, 3, 183, 3), (53, .lstore 5, 2, 0, 0), (55, .bipush 6, 2, 0, 0), (57, .istore 7, 2, 0, 0), (59, .iload 7, 2, 0, 0), (61, .bipush 96, 2, 0, 0), (63, .if_icmp .gt 53, 3, 116, 0), (66, .aload_n 0, 1, 0, 0), (67, .iload_n 1, 1, 0, 0), (68, .iload_n 2, 1, 0, 0), (69, .iload 7, 2, 0, 0), (71, .invokevirtual 173, 3, 183, 3), (74, .lstore 8, 2, 0, 0), (76, .lload 8, 2, 0, 0), (78, .lload 5, 2, 0, 0), (80, .lcmp, 1, 0, 0), (81, .ifCond .ge 8, 3, 89, 0), (84, .iload 7, 2, 0, 0), (86, .goto 5, 3, 91, 0), (89, .iload 4, 2, 0, 0), (91, .istore 4, 2, 0, 0), (93, .lload 8, 2, 0, 0), (95, .lload 5, 2, 0, 0), (97, .lcmp, 1, 0, 0), (98, .ifCond .ge 8, 3, 106, 0), (101, .lload 8, 2, 0, 0), (103, .goto 5, 3, 108, 0), (106, .lload 5, 2, 0, 0), (108, .lstore 5, 2, 0, 0), (110, .iinc 7 5, 3, 0, 0), (113, .goto (-54), 3, 59, 0), (116, .iload_n 3, 1, 0, 0), (117, .ifCond .ne 8, 3, 125, 0), (120, .iload 4, 2, 0, 0), (122, .goto 6, 3, 128, 0), (125, .lload 5, 2, 0, 0), (127, .l2i, 1, 0, 0), (128, .ireturn, 1, 0, 0)]
/-- GhostTrainModel.isSheet(I)Z -/
def mj_p182 : List (Nat × mj_I) := [(0, .iload_n 0, 1, 0, 0), (1, .iconst 0, 1, 0, 0), (2, .iconst 3, 1, 0, 0), (3, .invokestatic 79, 3, 134, 3), (6, .ireturn, 1, 0, 0)]
/-- GhostTrainModel.offBy(III)J -/
def mj_p183 : List (Nat × mj_I) := [(0, .aload_n 0, 1, 0, 0), (1, .getfield 9, 3, 12, 0), (4, .bipush 53, 2, 0, 0), (6, .bipush 7, 2, 0, 0), (8, .iload_n 2, 1, 0, 0), (9, .imul, 1, 0, 0), (10, .iadd, 1, 0, 0), (11, .iconst 2, 1, 0, 0), (12, .iadd, 1, 0, 0), (13, .iload_n 3, 1, 0, 0), (14, .iastore, 1, 0, 0), (15, .lconst 0, 1, 0, 0), (16, .lstore 4, 2, 0, 0), (18, .iconst 0, 1, 0, 0), (19, .istore 6, 2, 0, 0), (21, .iload 6, 2, 0, 0), (23, .aload_n 0, 1, 0, 0), (24, .getfield 55, 3, 12, 25), (27, .iload_n 1, 1, 0, 0), (28, .iaload, 1, 0, 0), (29, .if_icmp .ge 71, 3, 100, 0), (32, .aload_n 0, 1, 0, 0), (33, .getfield 58, 3, 12, 26), (36, .bipush 24, 2, 0, 0), (38, .iload_n 1, 1, 0, 0), (39, .imul, 1, 0, 0), (40, .iload 6, 2, 0, 0), (42, .iadd, 1, 0, 0), (43, .iaload, 1, 0, 0), (44, .istore 7, 2, 0, 0), (46, .iload 7, 2, 0, 0), (48, .i2l, 1, 0, 0), (49, .aload_n 0, 1, 0, 0), (50, .iload_n 2, 1, 0, 0), (51, .iconst 1, 1, 0, 0), (52, .invokevirtual 93, 3, 141, 2), (55, .i2l, 1, 0, 0), (56, .lsub, 1, 0, 0), (57, .lstore 8, 2, 0, 0), (59, .lload 4, 2, 0, 0), (61, .iload 7, 2, 0, 0), (63, .ldc 165, 2, 3294967291, 0), (65, .if_icmp .ne 7, 3, 72, 0), (68, .lconst 0, 1, 0, 0), (69, .goto 18, 3, 87, 0), (72, .lload 8, 2, 0, 0), (74, .lconst 0, 1, 0, 0), (75, .lcmp, 1, 0, 0), (76, .ifCond .ge 9, 3, 85, 0), (79, .lload 8, 2, 0, 0), (81, .lneg, 1, 0, 0), (82, .goto 5, 3, 87, 0), (85, .lload 8, 2, 0, 0), (87, .ladd, 1, 0, 0), (88, .lstore 4, 2, 0, 0), (90, .aload_n 0, 1, 0, 0), (91, .invokevirtual 147, 3, 163, 0), (94, .iinc 6 1, 3, 0, 0), (97, .goto (-76), 3, 21, 0), (100, .aload_n 0, 1, 0, 0), (101, .invokevirtual 162, 3, 172, 0), (104, .lload 4, 2, 0, 0), (106, .lreturn, 1, 0, 0)]
/-- GhostTrainModel.fee()I -/
def mj_p184 : List (Nat × mj_I) := [(0, .aload_n 0, 1, 0, 0), (1, .iconst 1, 1, 0, 0), (2, .invokevirtual 89, 3, 140, 1), (5, .istore_n 1, 1, 0, 0), (6, .aload_n 0, 1, 0, 0), (7, .getfield 49, 3, 12, 23), (10, .iconst 0, 1, 0, 0), (11, .aload_n 0, 1, 0, 0), (12, .iconst 3, 1, 0, 0), (13, .invokevirtual 150, 3, 161, 1), (16, .iastore, 1, 0, 0), (17, .aload_n 0, 1, 0, 0), (18, .getfield 49, 3, 12, 23), (21, .iconst 1, 1, 0, 0), (22, .aload_n 0, 1, 0, 0), (23, .getfield 9, 3, 12, 0), (26, .iconst 2, 1, 0, 0), (27, .iaload, 1, 0, 0), (28, .iastore, 1, 0, 0), (29, .iload_n 1, 1, 0, 0), (30, .ifCond .ge 11, 3, 41, 0), (33, .aload_n 0, 1, 0, 0), (34, .iconst 3, 1, 0, 0), (35, .invokevirtual 150, 3, 161, 1), (38, .goto 8, 3, 46, 0), (41, .aload_n 0, 1, 0, 0), (42, .iload_n 1, 1, 0, 0), (43, .invokevirtual 97, 3, 142, 1), (46, .ireturn, 1, 0, 0)]
/-- GhostTrainModel.fine(I)I -/
def mj_p185 : List (Nat × mj_I) := [(0, .aload_n 0, 1, 0, 0), (1, .iload_n 1, 1, 0, 0), (2, .invokevirtual 103, 3, 137, 1), (5, .ifCond .ne 6, 3, 11, 0), (8, .ldc 83, 2, 3294967295, 0), (10, .ireturn, 1, 0, 0), (11, .aload_n 0, 1, 0, 0), (12, .iconst 2, 1, 0, 0), (13, .invokevirtual 89, 3, 140, 1), (16, .istore_n 2, 1, 0, 0), (17, .aload_n 0, 1, 0, 0), (18, .getfield 49, 3, 12, 23), (21, .iconst 0, 1, 0, 0), (22, .aload_n 0, 1, 0, 0), (23, .iload_n 1, 1, 0, 0), (24, .iconst 1, 1, 0, 0), (25, .invokevirtual 93, 3, 141, 2), (28, .iastore, 1, 0, 0), (29, .aload_n 0, 1, 0, 0), (30, .getfield 49, 3, 12, 23), (33, .iconst 1, 1, 0, 0), (34, .aload_n 0, 1, 0, 0), (35, .iload_n 1, 1, 0, 0), (36, .iconst 4, 1, 0, 0), (37, .invokevirtual 93, 3, 141, 2), (40, .iastore, 1, 0, 0), (41, .iload_n 2, 1, 0, 0), (42, .ifCond .ge 12, 3, 54, 0), (45, .aload_n 0, 1, 0, 0), (46, .iload_n 1, 1, 0, 0), (47, .iconst 4, 1, 0, 0), (48, .invokevirtual 93, 3, 141, 2), (51, .goto 8, 3, 59, 0), (54, .aload_n 0, 1, 0, 0), (55, .iload_n 2, 1, 0, 0), (56, .invokevirtual 97, 3, 142, 1), (59, .ireturn, 1, 0, 0)]
/-- GhostTrainModel.feed(III)I -/
def mj_p186 : List (Nat × mj_I) := [(0, .aload_n 0, 1, 0, 0), (1, .getfield 177, 3, 12, 7), (4, .bipush 12, 2, 0, 0), (6, .iadd, 1, 0, 0), (7, .bipush 96, 2, 0, 0), (9, .if_icmp .le 6, 3, 15, 0), (12, .ldc 84, 2, 3294967293, 0), (14, .ireturn, 1, 0, 0), (15, .iconst 0, 1, 0, 0), (16, .istore 4, 2, 0, 0), (18, .iload 4, 2, 0, 0), (20, .bipush 12, 2, 0, 0), (22, .if_icmp .ge 62, 3, 84, 0), (25, .iload 4, 2, 0, 0), (27, .iconst 4, 1, 0, 0), (28, .if_icmp .ge 7, 3, 35, 0), (31, .iload_n 1, 1, 0, 0), (32, .goto 15, 3, 47, 0), (35, .iload 4, 2, 0, 0), (37, .bipush 8, 2, 0, 0), (39, .if_icmp .ge 7, 3, 46, 0), (42, .iload_n 2, 1, 0, 0), (43, .goto 4, 3, 47, 0), (46, .iload_n 3, 1, 0, 0), (47, .istore 5, 2, 0, 0), (49, .aload_n 0, 1, 0, 0), (50, .getfield 26, 3, 12, 6), (53, .aload_n 0, 1, 0, 0), (54, .getfield 177, 3, 12, 7), (57, .iload 4, 2, 0, 0), (59, .iadd, 1, 0, 0), (60, .iload 5, 2, 0, 0), (62, .bipush 24, 2, 0, 0), (64, .bipush 8, 2, 0, 0), (66, .iload 4, 2, 0, 0), (68, .iconst 4, 1, 0, 0), (69, .irem, 1, 0, 0), (70, .imul, 1, 0, 0), (71, .isub, 1, 0, 0), (72, .ishr, 1, 0, 0), (73, .sipush 255, 3, 0, 0), (76, .iand, 1, 0, 0), (77, .iastore, 1, 0, 0), (78, .iinc 4 1, 3, 0, 0), (81, .goto (-63), 3, 18, 0), (84, .aload_n 0, 1, 0, 0), (85, .dup, 1, 0, 0), (86, .getfield 177, 3, 12, 7), (89, .bipush 12, 2, 0, 0), (91, .iadd, 1, 0, 0), (92, .putfield 177, 3, 12, 7), (95, .aload_n 0, 1, 0, 0), (96, .getfield 177, 3, 12, 7), (99, .ireturn, 1, 0, 0)]
/-- GhostTrainModel.trim(I)I -/
def mj_p187 : List (Nat × mj_I) := [(0, .iload_n 1, 1, 0, 0), (1, .iconst 0, 1, 0, 0), (2, .aload_n 0, 1, 0, 0), (3, .getfield 177, 3, 12, 7), (6, .invokestatic 79, 3, 134, 3), (9, .ifCond .ne 6, 3, 15, 0), (12, .ldc 83, 2, 3294967295, 0), (14, .ireturn, 1, 0, 0), (15, .aload_n 0, 1, 0, 0), (16, .iload_n 1, 1, 0, 0), (17, .putfield 177, 3, 12, 7), (20, .iload_n 1, 1, 0, 0), (21, .ireturn, 1, 0, 0)]
/-- GhostTrainModel.text()I -/
def mj_p188 : List (Nat × mj_I) := [(0, .aload_n 0, 1, 0, 0), (1, .iconst 0, 1, 0, 0), (2, .putfield 180, 3, 12, 8), (5, .aload_n 0, 1, 0, 0), (6, .iconst (-1), 1, 0, 0), (7, .putfield 186, 3, 12, 12), (10, .aload_n 0, 1, 0, 0), (11, .invokevirtual 204, 3, 189, 0), (14, .aload_n 0, 1, 0, 0), (15, .invokevirtual 235, 3, 192, 0), (18, .ifCond .eq 14, 3, 32, 0), (21, .aload_n 0, 1, 0, 0), (22, .invokevirtual 238, 3, 193, 0), (25, .ifCond .eq 7, 3, 32, 0), (28, .iconst 1, 1, 0, 0), (29, .goto 4, 3, 33, 0), (32, .iconst 0, 1, 0, 0), (33, .istore_n 1, 1, 0, 0), (34, .aload_n 0, 1, 0, 0), (35, .iconst 0, 1, 0, 0), (36, .putfield 177, 3, 12, 7), (39, .iload_n 1, 1, 0, 0), (40, .ifCond .ne 11, 3, 51, 0), (43, .bipush (-100), 2, 0, 0), (45, .aload_n 0, 1, 0, 0), (46, .getfield 183, 3, 12, 9), (49, .isub, 1, 0, 0), (50, .ireturn, 1, 0, 0), (51, .aload_n 0, 1, 0, 0), (52, .getfield 9, 3, 12, 0), (55, .iconst 4, 1, 0, 0), (56, .iaload, 1, 0, 0), (57, .bipush 14, 2, 0, 0), (59, .if_icmp .ne 6, 3, 65, 0), (62, .ldc 84, 2, 3294967293, 0), (64, .ireturn, 1, 0, 0), (65, .aload_n 0, 1, 0, 0), (66, .getfield 9, 3, 12, 0), (69, .iconst 4, 1, 0, 0), (70, .iaload, 1, 0, 0), (71, .istore_n 2, 1, 0, 0), (72, .aload_n 0, 1, 0, 0), (73, .getfield 9, 3, 12, 0), (76, .bipush 109, 2, 0, 0), (78, .iconst 2, 1, 0, 0), (79, .iload_n 2, 1, 0, 0), (80, .imul, 1, 0, 0), (81, .iadd, 1, 0, 0), (82, .sipush 1000, 3, 0, 0), (85, .aload_n 0, 1, 0, 0), (86, .getfield 201, 3, 12, 13), (89, .imul, 1, 0, 0), (90, .aload_n 0, 1, 0, 0), (91, .getfield 213, 3, 12, 17), (94, .iadd, 1, 0, 0), (95, .iastore, 1, 0, 0), (96, .aload_n 0, 1, 0, 0), (97, .getfield 9, 3, 12, 0), (100, .bipush 109, 2, 0, 0), (102, .iconst 2, 1, 0, 0), (103, .iload_n 2, 1, 0, 0), (104, .imul, 1, 0, 0), (105, .iadd, 1, 0, 0), (106, .iconst 1, 1, 0, 0), (107, .iadd, 1, 0, 0), (108, .aload_n 0, 1, 0, 0), (109, .getfield 219, 3, 12, 18), (112, .iastore, 1, 0, 0), (113, .iconst 0, 1, 0, 0), (114, .istore_n 3, 1, 0, 0), (115, .iload_n 3, 1, 0, 0), (116, .aload_n 0, 1, 0, 0), (117, .getfield 213, 3, 12, 17), (120, .if_icmp .ge 30, 3, 150, 0), (123, .aload_n 0, 1, 0, 0), (124, .getfield 9, 3, 12, 0), (127, .sipush 137, 3, 0, 0), (130, .bipush 96, 2, 0, 0), (132, .iload_n 2, 1, 0, 0), (133, .imul, 1, 0, 0), (134, .iadd, 1, 0, 0), (135, .iload_n 3, 1, 0, 0), (136, .iadd, 1, 0, 0), (137, .aload_n 0, 1, 0, 0), (138, .getfield 36, 3, 12, 16), (141, .iload_n 3, 1, 0, 0), (142, .iaload, 1, 0, 0), (143, .iastore, 1, 0, 0), (144, .iinc 3 1, 3, 0, 0), (147, .goto (-32), 3, 115, 0), (150, .aload_n 0, 1, 0, 0), (151, .getfield 9, 3, 12, 0), (154, .iconst 4, 1, 0, 0), (155, .dup2, 1, 0, 0), (156, .iaload, 1, 0, 0), (157, .iconst 1, 1, 0, 0), (158, .iadd, 1, 0, 0), (159, .iastore, 1, 0, 0), (160, .iload_n 2, 1, 0, 0), (161, .ireturn, 1, 0, 0)]
/-- GhostTrainModel.go()V -/
def mj_p189 : List (Nat × mj_I) := [(0, .aload_n 0, 1, 0, 0), (1, .getfield 180, 3, 12, 8), (4, .aload_n 0, 1, 0, 0), (5, .getfield 177, 3, 12, 7), (8, .if_icmp .ge 30, 3, 38, 0), (11, .aload_n 0, 1, 0, 0), (12, .getfield 26, 3, 12, 6), (15, .aload_n 0, 1, 0, 0), (16, .getfield 180, 3, 12, 8), (19, .iaload, 1, 0, 0), (20, .bipush 32, 2, 0, 0), (22, .if_icmp .ne 16, 3, 38, 0), (25, .aload_n 0, 1, 0, 0), (26, .dup, 1, 0, 0), (27, .getfield 180, 3, 12, 8), (30, .iconst 1, 1, 0, 0), (31, .iadd, 1, 0, 0), (32, .putfield 180, 3, 12, 8), (35, .goto (-35), 3, 0, 0), (38, .aload_n 0, 1, 0, 0), (39, .aload_n 0, 1, 0, 0), (40, .getfield 180, 3, 12, 8), (43, .putfield 183, 3, 12, 9), (46, .aload_n 0, 1, 0, 0), (47, .getfield 183, 3, 12, 9), (50, .aload_n 0, 1, 0, 0), (51, .getfield 186, 3, 12, 12), (54, .if_icmp .ne 7, 3, 61, 0), (57, .iconst 1, 1, 0, 0), (58, .goto 4, 3, 62, 0), (61, .iconst 0, 1, 0, 0), (62, .istore_n 1, 1, 0, 0), (63, .aload_n 0, 1, 0, 0), (64, .getfield 183, 3, 12, 9), (67, .aload_n 0, 1, 0, 0), (68, .getfield 177, 3, 12, 7), (71, .if_icmp .ne 11, 3, 82, 0), (74, .aload_n 0, 1, 0, 0), (75, .iconst 0, 1, 0, 0), (76, .putfield 189, 3, 12, 10), (79, .goto 224, 3, 303, 0), (82, .aload_n 0, 1, 0, 0), (83, .aload_n 0, 1, 0, 0), (84, .getfield 183, 3, 12, 9), (87, .invokevirtual 192, 3, 190, 1), (90, .ifCond .eq 64, 3, 154, 0), (93, .aload_n 0, 1, 0, 0), (94, .aload_n 0, 1, 0, 0), (95, .getfield 180, 3, 12, 8), (98, .invokevirtual 192, 3, 190, 1), (101, .ifCond .eq 16, 3, 117, 0), (104, .aload_n 0, 1, 0, 0), (105, .dup, 1, 0, 0), (106, .getfield 180, 3, 12, 8), (109, .iconst 1, 1, 0, 0), (110, .iadd, 1, 0, 0), (111, .putfield 180, 3, 12, 8), (114, .goto (-21), 3, 93, 0), (117, .aload_n 0, 1, 0, 0), (118, .iload_n 1, 1, 0, 0), (119, .ifCond .eq 7, 3, 126, 0), (122, .iconst 4, 1, 0, 0), (123, .goto 4, 3, 127, 0), (126, .iconst 1, 1, 0, 0), (127, .putfield 189, 3, 12, 10), (130, .aload_n 0, 1, 0, 0), (131, .aload_n 0, 1, 0, 0), (132, .getfield 26, 3, 12, 6), (135, .aload_n 0, 1, 0, 0), (136, .getfield 183, 3, 12, 9), (139, .iaload, 1, 0, 0), (140, .putfield 195, 3, 12, 11), (143, .aload_n 0, 1, 0, 0), (144, .aload_n 0, 1, 0, 0), (145, .getfield 180, 3, 12, 8), (148, .putfield 186, 3, 12, 12), (151, .goto 152, 3, 303, 0), (154, .aload_n 0, 1, 0, 0), (155, .aload_n 0, 1, 0, 0), (156, .getfield 183, 3, 12, 9), (159, .invokevirtual 198, 3, 191, 1), (162, .ifCond .eq 113, 3, 275, 0), (165, .aload_n 0, 1, 0, 0), (166, .iconst 0, 1, 0, 0), (167, .putfield 195, 3, 12, 11), (170, .aload_n 0, 1, 0, 0), (171, .aload_n 0, 1, 0, 0), (172, .getfield 180, 3, 12, 8), (175, .invokevirtual 198, 3, 191, 1), (178, .ifCond .eq 60, 3, 238, 0), (181, .aload_n 0, 1, 0, 0), (182, .aload_n 0, 1, 0, 0), (183, .getfield 180, 3, 12, 8), (186, .aload_n 0, 1, 0, 0), (187, .getfield 183, 3, 12, 9), (190, .isub, 1, 0, 0), (191, .iconst 4, 1, 0, 0), (192, .if_icmp .ge 26, 3, 218, 0), (195, .bipush 10, 2, 0, 0), (197, .aload_n 0, 1, 0, 0), (198, .getfield 195, 3, 12, 11), (201, .imul, 1, 0, 0), (202, .aload_n 0, 1, 0, 0), (203, .getfield 26, 3, 12, 6), (206, .aload_n 0, 1, 0, 0), (207, .getfield 180, 3, 12, 8), (210, .iaload, 1, 0, 0), (211, .iadd, 1, 0, 0), (212, .bipush 48, 2, 0, 0), (214, .isub, 1, 0, 0), (215, .goto 7, 3, 222, 0), (218, .aload_n 0, 1, 0, 0), (219, .getfield 195, 3, 12, 11), (222, .putfield 195, 3, 12, 11), (225, .aload_n 0, 1, 0, 0), (226, .dup, 1, 0, 0), (227, .getfield 180, 3, 12, 8), (230, .iconst 1, 1, 0, 0), (231, .iadd, 1, 0, 0), (232, .putfield 180, 3, 12, 8), (235, .goto (-65), 3, 170, 0), (238, .aload_n 0, 1, 0, 0), (239, .iload_n 1, 1, 0, 0), (240, .ifCond .ne 16, 3, 256, 0), (243, .aload_n 0, 1, 0, 0), (244, .getfield 180, 3, 12, 8), (247, .aload_n 0, 1, 0, 0), (248, .getfield 183, 3, 12, 9), (251, .isub, 1, 0, 0), (252, .iconst 4, 1, 0, 0), (253, .if_icmp .le 7, 3, 260, 0), (256, .iconst 4, 1, 0, 0), (257, .goto 4, 3, 261, 0), (260, .iconst 2, 1, 0, 0), (261, .putfield 189, 3, 12, 10), (264, .aload_n 0, 1, 0, 0), (265, .aload_n 0, 1, 0, 0), (266, .getfield 180, 3, 12, 8), (269, .putfield 186, 3, 12, 12), (272, .goto 31, 3, 303, 0), (275, .aload_n 0, 1, 0, 0), (276, .iconst 3, 1, 0, 0), (277, .putfield 189, 3, 12, 10), (280, .aload_n 0, 1, 0, 0), (281, .aload_n 0, 1, 0, 0), (282, .getfield 26, 3, 12, 6), (285, .aload_n 0, 1, 0, 0), (286, .getfield 183, 3, 12, 9), (289, .iaload, 1, 0, 0), (290, .putfield 195, 3, 12, 11), (293, .aload_n 0, 1, 0, 0), (294, .dup, 1, 0, 0), (295, .getfield 180, 3, 12, 8), (298, .iconst 1, 1, 0, 0), (299, .iadd, 1, 0, 0), (300, .putfield 180, 3, 12, 8), (303, .return_, 1, 0, 0)]
/-- GhostTrainModel.isLetter(I)Z -/
def mj_p190 : List (Nat × mj_I) := [(0, .iload_n 1, 1, 0, 0), (1, .aload_n 0, 1, 0, 0), (2, .getfield 177, 3, 12, 7), (5, .if_icmp .ge 29, 3, 34, 0), (8, .aload_n 0, 1, 0, 0), (9, .getfield 26, 3, 12, 6), (12, .iload_n 1, 1, 0, 0), (13, .iaload, 1, 0, 0), (14, .bipush 97, 2, 0, 0), (16, .if_icmp .lt 18, 3, 34, 0), (19, .aload_n 0, 1, 0, 0), (20, .getfield 26, 3, 12, 6), (23, .iload_n 1, 1, 0, 0), (24, .iaload, 1, 0, 0), (25, .bipush 122, 2, 0, 0), (27, .if_icmp .gt 7, 3, 34, 0), (30, .iconst 1, 1, 0, 0), (31, .goto 4, 3, 35, 0), (34, .iconst 0, 1, 0, 0), (35, .ireturn, 1, 0, 0)]
/-- GhostTrainModel.isFigure(I)Z -/
def mj_p191 : List (Nat × mj_I) := [(0, .iload_n 1, 1, 0, 0), (1, .aload_n 0, 1, 0, 0), (2, .getfield 177, 3, 12, 7), (5, .if_icmp .ge 29, 3, 34, 0), (8, .aload_n 0, 1, 0, 0), (9, .getfield 26, 3, 12, 6), (12, .iload_n 1, 1, 0, 0), (13, .iaload, 1, 0, 0), (14, .bipush 48, 2, 0, 0), (16, .if_icmp .lt 18, 3, 34, 0), (19, .aload_n 0, 1, 0, 0), (20, .getfield 26, 3, 12, 6), (23, .iload_n 1, 1, 0, 0), (24, .iaload, 1, 0, 0), (25, .bipush 57, 2, 0, 0), (27, .if_icmp .gt 7, 3, 34, 0), (30, .iconst 1, 1, 0, 0), (31, .goto 4, 3, 35, 0), (34, .iconst 0, 1, 0, 0), (35, .ireturn, 1, 0, 0)]
/-- GhostTrainModel.takesKey()Z -/
def mj_p192 : List (Nat × mj_I) := [(0, .aload_n 0, 1, 0, 0), (1, .getfield 189, 3, 12, 10), (4, .iconst 1, 1, 0, 0), (5, .if_icmp .eq 5, 3, 10, 0), (8, .iconst 0, 1, 0, 0), (9, .ireturn, 1, 0, 0), (10, .iconst 0, 1, 0, 0), (11, .istore_n 1, 1, 0, 0), (12, .iload_n 1, 1, 0, 0), (13, .iconst 3, 1, 0, 0), (14, .if_icmp .ge 113, 3, 127, 0), (17, .aload_n 0, 1, 0, 0), (18, .getfield 33, 3, 12, 15), (21, .iload_n 1, 1, 0, 0), (22, .iconst 1, 1, 0, 0), (23, .iadd, 1, 0, 0), (24, .iaload, 1, 0, 0), (25, .aload_n 0, 1, 0, 0), (26, .getfield 33, 3, 12, 15), (29, .iload_n 1, 1, 0, 0), (30, .iaload, 1, 0, 0), (31, .isub, 1, 0, 0), (32, .istore_n 2, 1, 0, 0), (33, .iload_n 2, 1, 0, 0), (34, .aload_n 0, 1, 0, 0), (35, .getfield 180, 3, 12, 8), (38, .aload_n 0, 1, 0, 0), (39, .getfield 183, 3, 12, 9), (42, .isub, 1, 0, 0), (43, .if_icmp .ne 7, 3, 50, 0), (46, .iconst 1, 1, 0, 0), (47, .goto 4, 3, 51, 0), (50, .iconst 0, 1, 0, 0), (51, .istore_n 3, 1, 0, 0), (52, .iconst 0, 1, 0, 0), (53, .istore 4, 2, 0, 0), (55, .iload 4, 2, 0, 0), (57, .iload_n 2, 1, 0, 0), (58, .if_icmp .ge 48, 3, 106, 0), (61, .iload_n 3, 1, 0, 0), (62, .ifCond .eq 44, 3, 106, 0), (65, .aload_n 0, 1, 0, 0), (66, .getfield 26, 3, 12, 6), (69, .aload_n 0, 1, 0, 0), (70, .getfield 183, 3, 12, 9), (73, .iload 4, 2, 0, 0), (75, .iadd, 1, 0, 0), (76, .iaload, 1, 0, 0), (77, .aload_n 0, 1, 0, 0), (78, .getfield 29, 3, 12, 14), (81, .aload_n 0, 1, 0, 0), (82, .getfield 33, 3, 12, 15), (85, .iload_n 1, 1, 0, 0), (86, .iaload, 1, 0, 0), (87, .iload 4, 2, 0, 0), (89, .iadd, 1, 0, 0), (90, .caload, 1, 0, 0), (91, .if_icmp .ne 7, 3, 98, 0), (94, .iconst 1, 1, 0, 0), (95, .goto 4, 3, 99, 0), (98, .iconst 0, 1, 0, 0), (99, .istore_n 3, 1, 0, 0), (100, .iinc 4 1, 3, 0, 0), (103, .goto (-48), 3, 55, 0), (106, .iload_n 3, 1, 0, 0), (107, .ifCond .eq 14, 3, 121, 0), (110, .aload_n 0, 1, 0, 0), (111, .iload_n 1, 1, 0, 0), (112, .putfield 201, 3, 12, 13), (115, .aload_n 0, 1, 0, 0), (116, .invokevirtual 204, 3, 189, 0), (119, .iconst 1, 1, 0, 0), (120, .ireturn, 1, 0, 0), (121, .iinc 1 1, 3, 0, 0), (124, .goto (-112), 3, 12, 0), (127, .iconst 0, 1, 0, 0), (128, .ireturn, 1, 0, 0)]
/-- GhostTrainModel.takesE()Z -/
def mj_p193 : List (Nat × mj_I) := [(0, .iconst 0, 1, 0, 0), (1, .istore_n 1, 1, 0, 0), (2, .iconst 0, 1, 0, 0), (3, .istore_n 2, 1, 0, 0), (4, .iconst 1, 1, 0, 0), (5, .istore_n 3, 1, 0, 0), (6, .aload_n 0, 1, 0, 0), (7, .iconst 0, 1, 0, 0), (8, .putfield 213, 3, 12, 17), (11, .aload_n 0, 1, 0, 0), (12, .iconst 0, 1, 0, 0), (13, .putfield 219, 3, 12, 18), (16, .aload_n 0, 1, 0, 0), (17, .iconst 0, 1, 0, 0), (18, .putfield 207, 3, 12, 20), (21, .aload_n 0, 1, 0, 0), (22, .getfield 42, 3, 12, 21), (25, .iconst 0, 1, 0, 0), (26, .iconst 0, 1, 0, 0), (27, .bastore, 1, 0, 0), (28, .iload_n 3, 1, 0, 0), (29, .ifCond .ne 10, 3, 39, 0), (32, .aload_n 0, 1, 0, 0), (33, .getfield 189, 3, 12, 10), (36, .ifCond .eq 309, 3, 345, 0), (39, .iload_n 3, 1, 0, 0), (40, .ifCond .eq 140, 3, 180, 0), (43, .aload_n 0, 1, 0, 0), (44, .getfield 189, 3, 12, 10), (47, .iconst 3, 1, 0, 0), (48, .if_icmp .ne 49, 3, 97, 0), (51, .aload_n 0, 1, 0, 0), (52, .getfield 195, 3, 12, 11), (55, .bipush 33, 2, 0, 0), (57, .if_icmp .ne 40, 3, 97, 0), (60, .iload_n 2, 1, 0, 0), (61, .bipush 8, 2, 0, 0), (63, .if_icmp .ge 34, 3, 97, 0), (66, .aload_n 0, 1, 0, 0), (67, .getfield 39, 3, 12, 19), (70, .aload_n 0, 1, 0, 0), (71, .getfield 207, 3, 12, 20), (74, .bipush (-10), 2, 0, 0), (76, .iastore, 1, 0, 0), (77, .aload_n 0, 1, 0, 0), (78, .dup, 1, 0, 0), (79, .getfield 207, 3, 12, 20), (82, .iconst 1, 1, 0, 0), (83, .iadd, 1, 0, 0), (84, .putfield 207, 3, 12, 20), (87, .iinc 2 1, 3, 0, 0), (90, .aload_n 0, 1, 0, 0), (91, .invokevirtual 204, 3, 189, 0), (94, .goto 78, 3, 172, 0), (97, .aload_n 0, 1, 0, 0), (98, .getfield 189, 3, 12, 10), (101, .iconst 3, 1, 0, 0), (102, .if_icmp .ne 56, 3, 158, 0), (105, .aload_n 0, 1, 0, 0), (106, .getfield 195, 3, 12, 11), (109, .bipush 40, 2, 0, 0), (111, .if_icmp .ne 47, 3, 158, 0), (114, .iload_n 1, 1, 0, 0), (115, .bipush 8, 2, 0, 0), (117, .if_icmp .ge 41, 3, 158, 0), (120, .aload_n 0, 1, 0, 0), (121, .getfield 39, 3, 12, 19), (124, .aload_n 0, 1, 0, 0), (125, .getfield 207, 3, 12, 20), (128, .bipush (-11), 2, 0, 0), (130, .iastore, 1, 0, 0), (131, .aload_n 0, 1, 0, 0), (132, .dup, 1, 0, 0), (133, .getfield 207, 3, 12, 20), (136, .iconst 1, 1, 0, 0), (137, .iadd, 1, 0, 0), (138, .putfield 207, 3, 12, 20), (141, .iinc 1 1, 3, 0, 0), (144, .aload_n 0, 1, 0, 0), (145, .getfield 42, 3, 12, 21), (148, .iload_n 1, 1, 0, 0), (149, .iconst 0, 1, 0, 0), (150, .bastore, 1, 0, 0), (151, .aload_n 0, 1, 0, 0), (152, .invokevirtual 204, 3, 189, 0), (155, .goto 17, 3, 172, 0), (158, .aload_n 0, 1, 0, 0), (159, .invokevirtual 225, 3, 194, 0), (162, .ifCond .eq 8, 3, 170, 0), (165, .iconst 0, 1, 0, 0), (166, .istore_n 3, 1, 0, 0), (167, .goto 5, 3, 172, 0), (170, .iconst 0, 1, 0, 0), (171, .ireturn, 1, 0, 0), (172, .aload_n 0, 1, 0, 0), (173, .invokevirtual 229, 3, 198, 0), (176, .istore_n 2, 1, 0, 0), (177, .goto (-149), 3, 28, 0), (180, .aload_n 0, 1, 0, 0), (181, .getfield 189, 3, 12, 10), (184, .iconst 3, 1, 0, 0), (185, .if_icmp .ne 52, 3, 237, 0), (188, .aload_n 0, 1, 0, 0), (189, .getfield 195, 3, 12, 11), (192, .bipush 41, 2, 0, 0), (194, .if_icmp .ne 43, 3, 237, 0), (197, .iload_n 1, 1, 0, 0), (198, .ifCond .le 39, 3, 237, 0), (201, .aload_n 0, 1, 0, 0), (202, .iconst 0, 1, 0, 0), (203, .invokevirtual 222, 3, 196, 1), (206, .aload_n 0, 1, 0, 0), (207, .dup, 1, 0, 0), (208, .getfield 207, 3, 12, 20), (211, .iconst 1, 1, 0, 0), (212, .isub, 1, 0, 0), (213, .putfield 207, 3, 12, 20), (216, .iinc 1 (-1), 3, 0, 0), (219, .aload_n 0, 1, 0, 0), (220, .bipush 6, 2, 0, 0), (222, .invokevirtual 222, 3, 196, 1), (225, .aload_n 0, 1, 0, 0), (226, .invokevirtual 229, 3, 198, 0), (229, .istore_n 2, 1, 0, 0), (230, .aload_n 0, 1, 0, 0), (231, .invokevirtual 204, 3, 189, 0), (234, .goto (-206), 3, 28, 0), (237, .aload_n 0, 1, 0, 0), (238, .invokevirtual 232, 3, 199, 0), (241, .istore 4, 2, 0, 0), (243, .iload 4, 2, 0, 0), (245, .ifCond .eq 21, 3, 266, 0), (248, .iload 4, 2, 0, 0), (250, .invokestatic 210, 3, 197, 1), (253, .iconst 3, 1, 0, 0), (254, .if_icmp .ne 14, 3, 268, 0), (257, .aload_n 0, 1, 0, 0), (258, .getfield 42, 3, 12, 21), (261, .iload_n 1, 1, 0, 0), (262, .baload, 1, 0, 0), (263, .ifCond .eq 5, 3, 268, 0), (266, .iconst 0, 1, 0, 0), (267, .ireturn, 1, 0, 0), (268, .aload_n 0, 1, 0, 0), (269, .getfield 42, 3, 12, 21), (272, .iload_n 1, 1, 0, 0), (273, .iload 4, 2, 0, 0), (275, .invokestatic 210, 3, 197, 1), (278, .iconst 3, 1, 0, 0), (279, .if_icmp .eq 21, 3, 300, 0), (282, .iload 4, 2, 0, 0), (284, .invokestatic 210, 3, 197, 1), (287, .iconst 3, 1, 0, 0), (288, .if_icmp .le 16, 3, 304, 0), (291, .aload_n 0, 1, 0, 0), (292, .getfield 42, 3, 12, 21), (295, .iload_n 1, 1, 0, 0), (296, .baload, 1, 0, 0), (297, .ifCond .eq 7, 3, 304, 0), (300, .iconst 1, 1, 0, 0), (301, .goto 4, 3, 305, 0), (304, .iconst 0, 1, 0, 0), (305, .bastore, 1, 0, 0), (306, .aload_n 0, 1, 0, 0), (307, .iload 4, 2, 0, 0), (309, .invokestatic 210, 3, 197, 1), (312, .invokevirtual 222, 3, 196, 1), (315, .aload_n 0, 1, 0, 0), (316, .getfield 39, 3, 12, 19), (319, .aload_n 0, 1, 0, 0), (320, .getfield 207, 3, 12, 20), (323, .iload 4, 2, 0, 0), (325, .iastore, 1, 0, 0), (326, .aload_n 0, 1, 0, 0), (327, .dup, 1, 0, 0), (328, .getfield 207, 3, 12, 20), (331, .iconst 1, 1, 0, 0), (332, .iadd, 1, 0, 0), (333, .putfield 207, 3, 12, 20), (336, .iconst 1, 1, 0, 0), (337, .istore_n 3, 1, 0, 0), (338, .aload_n 0, 1, 0, 0), (339, .invokevirtual 204, 3, 189, 0), (342, .goto (-314), 3, 28, 0), (345, .aload_n 0, 1, 0, 0), (346, .iconst 0, 1, 0, 0), (347, .invokevirtual 222, 3, 196, 1), (350, .iload_n 1, 1, 0, 0), (351, .ifCond .ne 7, 3, 358, 0), (354, .iconst 1, 1, 0, 0), (355, .goto 4, 3, 359, 0), (358, .iconst 0, 1, 0, 0), (359, .ireturn, 1, 0, 0)]
/-- GhostTrainModel.takesPart()Z -/
def mj_p194 : List (Nat × mj_I) := [(0, .aload_n 0, 1, 0, 0), (1, .getfield 189, 3, 12, 10), (4, .iconst 1, 1, 0, 0), (5, .if_icmp .ne 31, 3, 36, 0), (8, .aload_n 0, 1, 0, 0), (9, .getfield 180, 3, 12, 8), (12, .aload_n 0, 1, 0, 0), (13, .getfield 183, 3, 12, 9), (16, .isub, 1, 0, 0), (17, .iconst 1, 1, 0, 0), (18, .if_icmp .ne 18, 3, 36, 0), (21, .aload_n 0, 1, 0, 0), (22, .aload_n 0, 1, 0, 0), (23, .getfield 195, 3, 12, 11), (26, .invokevirtual 216, 3, 195, 1), (29, .ifCond .lt 7, 3, 36, 0), (32, .iconst 1, 1, 0, 0), (33, .goto 4, 3, 37, 0), (36, .iconst 0, 1, 0, 0), (37, .istore_n 1, 1, 0, 0), (38, .aload_n 0, 1, 0, 0), (39, .getfield 189, 3, 12, 10), (42, .iconst 2, 1, 0, 0), (43, .if_icmp .eq 9, 3, 52, 0), (46, .iload_n 1, 1, 0, 0), (47, .ifCond .ne 5, 3, 52, 0), (50, .iconst 0, 1, 0, 0), (51, .ireturn, 1, 0, 0), (52, .aload_n 0, 1, 0, 0), (53, .getfield 36, 3, 12, 16), (56, .aload_n 0, 1, 0, 0), (57, .getfield 213, 3, 12, 17), (60, .aload_n 0, 1, 0, 0), (61, .getfield 189, 3, 12, 10), (64, .iconst 2, 1, 0, 0), (65, .if_icmp .ne 10, 3, 75, 0), (68, .aload_n 0, 1, 0, 0), (69, .getfield 195, 3, 12, 11), (72, .goto 15, 3, 87, 0), (75, .sipush 10000, 3, 0, 0), (78, .aload_n 0, 1, 0, 0), (79, .aload_n 0, 1, 0, 0), (80, .getfield 195, 3, 12, 11), (83, .invokevirtual 216, 3, 195, 1), (86, .iadd, 1, 0, 0), (87, .iastore, 1, 0, 0), (88, .aload_n 0, 1, 0, 0), (89, .dup, 1, 0, 0), (90, .getfield 213, 3, 12, 17), (93, .iconst 1, 1, 0, 0), (94, .iadd, 1, 0, 0), (95, .putfield 213, 3, 12, 17), (98, .aload_n 0, 1, 0, 0), (99, .dup, 1, 0, 0), (100, .getfield 219, 3, 12, 18), (103, .iconst 1, 1, 0, 0), (104, .iadd, 1, 0, 0), (105, .putfield 219, 3, 12, 18), (108, .aload_n 0, 1, 0, 0), (109, .bipush 6, 2, 0, 0), (111, .invokevirtual 222, 3, 196, 1), (114, .aload_n 0, 1, 0, 0), (115, .invokevirtual 204, 3, 189, 0), (118, .iconst 1, 1, 0, 0), (119, .ireturn, 1, 0, 0)]
/-- GhostTrainModel.nameOf(I)I -/
def mj_p195 : List (Nat × mj_I) := [(0, .aload_n 0, 1, 0, 0), (1, .getfield 201, 3, 12, 13), (4, .lookupswitch 82 #[(0, 28), (1, 60)], 28, 0, 0), (32, .iload_n 1, 1, 0, 0), (33, .bipush 119, 2, 0, 0), (35, .if_icmp .ne 7, 3, 42, 0), (38, .iconst 0, 1, 0, 0), (39, .goto 24, 3, 63, 0), (42, .iload_n 1, 1, 0, 0), (43, .bipush 114, 2, 0, 0), (45, .if_icmp .ne 7, 3, 52, 0), (48, .iconst 1, 1, 0, 0), (49, .goto 14, 3, 63, 0), (52, .iload_n 1, 1, 0, 0), (53, .bipush 98, 2, 0, 0), (55, .if_icmp .ne 7, 3, 62, 0), (58, .iconst 2, 1, 0, 0), (59, .goto 4, 3, 63, 0), (62, .iconst (-1), 1, 0, 0), (63, .ireturn, 1, 0, 0), (64, .iload_n 1, 1, 0, 0), (65, .bipush 115, 2, 0, 0), (67, .if_icmp .ne 7, 3, 74, 0), (70, .iconst 0, 1, 0, 0), (71, .goto 14, 3, 85, 0), (74, .iload_n 1, 1, 0, 0), (75, .bipush 116, 2, 0, 0), (77, .if_icmp .ne 7, 3, 84, 0), (80, .iconst 1, 1, 0, 0), (81, .goto 4, 3, 85, 0), (84, .iconst (-1), 1, 0, 0), (85, .ireturn, 1, 0, 0), (86, .iload_n 1, 1, 0, 0), (87, .bipush 102, 2, 0, 0), (89, .if_icmp .ne 7, 3, 96, 0), (92, .iconst 0, 1, 0, 0), (93, .goto 14, 3, 107, 0), (96, .iload_n 1, 1, 0, 0), (97, .bipush 109, 2, 0, 0), (99, .if_icmp .ne 7, 3, 106, 0), (102, .iconst 1, 1, 0, 0), (103, .goto 4, 3, 107, 0), (106, .iconst (-1), 1, 0, 0), (107, .ireturn, 1, 0, 0)]
/-- GhostTrainModel.settle(I)V -/
def mj_p196 : List (Nat × mj_I) := [(0, .aload_n 0, 1, 0, 0), (1, .getfield 207, 3, 12, 20), (4, .ifCond .le 78, 3, 82, 0), (7, .aload_n 0, 1, 0, 0), (8, .getfield 39, 3, 12, 19), (11, .aload_n 0, 1, 0, 0), (12, .getfield 207, 3, 12, 20), (15, .iconst 1, 1, 0, 0), (16, .isub, 1, 0, 0), (17, .iaload, 1, 0, 0), (18, .bipush (-11), 2, 0, 0), (20, .if_icmp .eq 62, 3, 82, 0), (23, .aload_n 0, 1, 0, 0), (24, .getfield 39, 3, 12, 19), (27, .aload_n 0, 1, 0, 0), (28, .getfield 207, 3, 12, 20), (31, .iconst 1, 1, 0, 0), (32, .isub, 1, 0, 0), (33, .iaload, 1, 0, 0), (34, .invokestatic 210, 3, 197, 1), (37, .iload_n 1, 1, 0, 0), (38, .if_icmp .lt 44, 3, 82, 0), (41, .aload_n 0, 1, 0, 0), (42, .dup, 1, 0, 0), (43, .getfield 207, 3, 12, 20), (46, .iconst 1, 1, 0, 0), (47, .isub, 1, 0, 0), (48, .putfield 207, 3, 12, 20), (51, .aload_n 0, 1, 0, 0), (52, .getfield 36, 3, 12, 16), (55, .aload_n 0, 1, 0, 0), (56, .getfield 213, 3, 12, 17), (59, .aload_n 0, 1, 0, 0), (60, .getfield 39, 3, 12, 19), (63, .aload_n 0, 1, 0, 0), (64, .getfield 207, 3, 12, 20), (67, .iaload, 1, 0, 0), (68, .iastore, 1, 0, 0), (69, .aload_n 0, 1, 0, 0), (70, .dup, 1, 0, 0), (71, .getfield 213, 3, 12, 17), (74, .iconst 1, 1, 0, 0), (75, .iadd, 1, 0, 0), (76, .putfield 213, 3, 12, 17), (79, .goto (-79), 3, 0, 0), (82, .return_, 1, 0, 0)]
/-- GhostTrainModel.rank(I)I -/
def mj_p197 : List (Nat × mj_I) := [(0, .iload_n 0, 1, 0, 0), (1, .iconst (-1), 1, 0, 0), (2, .if_icmp .ne 7, 3, 9, 0), (5, .iconst 1, 1, 0, 0), (6, .goto 45, 3, 51, 0), (9, .iload_n 0, 1, 0, 0), (10, .bipush (-2), 2, 0, 0), (12, .if_icmp .ne 7, 3, 19, 0), (15, .iconst 2, 1, 0, 0), (16, .goto 35, 3, 51, 0), (19, .iload_n 0, 1, 0, 0), (20, .bipush (-5), 2, 0, 0), (22, .if_icmp .lt 7, 3, 29, 0), (25, .iconst 3, 1, 0, 0), (26, .goto 25, 3, 51, 0), (29, .iload_n 0, 1, 0, 0), (30, .bipush (-7), 2, 0, 0), (32, .if_icmp .lt 7, 3, 39, 0), (35, .iconst 4, 1, 0, 0), (36, .goto 15, 3, 51, 0), (39, .iload_n 0, 1, 0, 0), (40, .bipush (-9), 2, 0, 0), (42, .if_icmp .lt 7, 3, 49, 0), (45, .iconst 5, 1, 0, 0), (46, .goto 5, 3, 51, 0), (49, .bipush 6, 2, 0, 0), (51, .ireturn, 1, 0, 0)]
/-- GhostTrainModel.notsOpen()I -/
def mj_p198 : List (Nat × mj_I) := [(0, .iconst 0, 1, 0, 0), (1, .istore_n 1, 1, 0, 0), (2, .iconst 0, 1, 0, 0), (3, .istore_n 2, 1, 0, 0), (4, .iload_n 2, 1, 0, 0), (5, .aload_n 0, 1, 0, 0), (6, .getfield 207, 3, 12, 20), (9, .if_icmp .ge 28, 3, 37, 0), (12, .iload_n 1, 1, 0, 0), (13, .aload_n 0, 1, 0, 0), (14, .getfield 39, 3, 12, 19), (17, .iload_n 2, 1, 0, 0), (18, .iaload, 1, 0, 0), (19, .bipush (-10), 2, 0, 0), (21, .if_icmp .ne 7, 3, 28, 0), (24, .iconst 1, 1, 0, 0), (25, .goto 4, 3, 29, 0), (28, .iconst 0, 1, 0, 0), (29, .iadd, 1, 0, 0), (30, .istore_n 1, 1, 0, 0), (31, .iinc 2 1, 3, 0, 0), (34, .goto (-30), 3, 4, 0), (37, .iload_n 1, 1, 0, 0), (38, .ireturn, 1, 0, 0)]
/-- GhostTrainModel.signHere()I -/
def mj_p199 : List (Nat × mj_I) := [(0, .aload_n 0, 1, 0, 0), (1, .getfield 189, 3, 12, 10), (4, .iconst 3, 1, 0, 0), (5, .if_icmp .eq 5, 3, 10, 0), (8, .iconst 0, 1, 0, 0), (9, .ireturn, 1, 0, 0), (10, .aload_n 0, 1, 0, 0), (11, .getfield 195, 3, 12, 11), (14, .lookupswitch 108 #[(38, 84), (42, 102), (43, 96), (45, 99), (47, 105), (60, 87), (61, 90), (62, 93), (124, 82)], 82, 0, 0), (96, .iconst (-1), 1, 0, 0), (97, .ireturn, 1, 0, 0), (98, .bipush (-2), 2, 0, 0), (100, .ireturn, 1, 0, 0), (101, .bipush (-3), 2, 0, 0), (103, .ireturn, 1, 0, 0), (104, .bipush (-4), 2, 0, 0), (106, .ireturn, 1, 0, 0), (107, .bipush (-5), 2, 0, 0), (109, .ireturn, 1, 0, 0), (110, .bipush (-6), 2, 0, 0), (112, .ireturn, 1, 0, 0), (113, .bipush (-7), 2, 0, 0), (115, .ireturn, 1, 0, 0), (116, .bipush (-8), 2, 0, 0), (118, .ireturn, 1, 0, 0), (119, .bipush (-9), 2, 0, 0), (121, .ireturn, 1, 0, 0), (122, .iconst 0, 1, 0, 0), (123, .ireturn, 1, 0, 0)]
/-- GhostTrainModel.textTold(II)I -/
def mj_p200 : List (Nat × mj_I) := [(0, .iload_n 1, 1, 0, 0), (1, .iconst 0, 1, 0, 0), (2, .aload_n 0, 1, 0, 0), (3, .getfield 9, 3, 12, 0), (6, .iconst 4, 1, 0, 0), (7, .iaload, 1, 0, 0), (8, .iconst 1, 1, 0, 0), (9, .isub, 1, 0, 0), (10, .invokestatic 79, 3, 134, 3), (13, .ifCond .eq 12, 3, 25, 0), (16, .iload_n 2, 1, 0, 0), (17, .iconst 0, 1, 0, 0), (18, .iconst 1, 1, 0, 0), (19, .invokestatic 79, 3, 134, 3), (22, .ifCond .ne 6, 3, 28, 0), (25, .ldc 83, 2, 3294967295, 0), (27, .ireturn, 1, 0, 0), (28, .iload_n 2, 1, 0, 0), (29, .ifCond .ne 21, 3, 50, 0), (32, .aload_n 0, 1, 0, 0), (33, .getfield 9, 3, 12, 0), (36, .bipush 109, 2, 0, 0), (38, .iconst 2, 1, 0, 0), (39, .iload_n 1, 1, 0, 0), (40, .imul, 1, 0, 0), (41, .iadd, 1, 0, 0), (42, .iaload, 1, 0, 0), (43, .sipush 1000, 3, 0, 0), (46, .idiv, 1, 0, 0), (47, .goto 16, 3, 63, 0), (50, .aload_n 0, 1, 0, 0), (51, .getfield 9, 3, 12, 0), (54, .bipush 109, 2, 0, 0), (56, .iconst 2, 1, 0, 0), (57, .iload_n 1, 1, 0, 0), (58, .imul, 1, 0, 0), (59, .iadd, 1, 0, 0), (60, .iconst 1, 1, 0, 0), (61, .iadd, 1, 0, 0), (62, .iaload, 1, 0, 0), (63, .ireturn, 1, 0, 0)]
/-- GhostTrainModel.why(I)I -/
def mj_p201 : List (Nat × mj_I) := [(0, .iload_n 1, 1, 0, 0), (1, .iconst 0, 1, 0, 0), (2, .iconst 2, 1, 0, 0), (3, .invokestatic 79, 3, 134, 3), (6, .ifCond .ne 6, 3, 12, 0), (9, .ldc 83, 2, 3294967295, 0), (11, .ireturn, 1, 0, 0), (12, .aload_n 0, 1, 0, 0), (13, .iload_n 1, 1, 0, 0), (14, .invokevirtual 89, 3, 140, 1), (17, .istore_n 2, 1, 0, 0), (18, .iload_n 2, 1, 0, 0), (19, .ifCond .ge 8, 3, 27, 0), (22, .ldc 165, 2, 3294967291, 0), (24, .goto 4, 3, 28, 0), (27, .iload_n 2, 1, 0, 0), (28, .ireturn, 1, 0, 0)]
/-- GhostTrainModel.sheet(III)I -/
def mj_p202 : List (Nat × mj_I) := [(0, .iload_n 1, 1, 0, 0), (1, .invokestatic 169, 3, 182, 1), (4, .ifCond .eq 22, 3, 26, 0), (7, .iload_n 2, 1, 0, 0), (8, .iconst (-1), 1, 0, 0), (9, .iconst 1, 1, 0, 0), (10, .invokestatic 79, 3, 134, 3), (13, .ifCond .eq 13, 3, 26, 0), (16, .iload_n 2, 1, 0, 0), (17, .ifCond .lt 12, 3, 29, 0), (20, .iload_n 3, 1, 0, 0), (21, .bipush 24, 2, 0, 0), (23, .if_icmp .le 6, 3, 29, 0), (26, .ldc 83, 2, 3294967295, 0), (28, .ireturn, 1, 0, 0), (29, .iload_n 2, 1, 0, 0), (30, .ifCond .lt 10, 3, 40, 0), (33, .iload_n 3, 1, 0, 0), (34, .ifCond .ge 6, 3, 40, 0), (37, .ldc 244, 2, 3294967282, 0), (39, .ireturn, 1, 0, 0), (40, .aload_n 0, 1, 0, 0), (41, .getfield 52, 3, 12, 24), (44, .iload_n 1, 1, 0, 0), (45, .iload_n 2, 1, 0, 0), (46, .iastore, 1, 0, 0), (47, .aload_n 0, 1, 0, 0), (48, .getfield 55, 3, 12, 25), (51, .iload_n 1, 1, 0, 0), (52, .iload_n 2, 1, 0, 0), (53, .ifCond .ge 7, 3, 60, 0), (56, .iconst 0, 1, 0, 0), (57, .goto 4, 3, 61, 0), (60, .iload_n 3, 1, 0, 0), (61, .iastore, 1, 0, 0), (62, .iconst 0, 1, 0, 0), (63, .istore 4, 2, 0, 0), (65, .iload 4, 2, 0, 0), (67, .bipush 24, 2, 0, 0), (69, .if_icmp .ge 22, 3, 91, 0), (72, .aload_n 0, 1, 0, 0), (73, .getfield 58, 3, 12, 26), (76, .bipush 24, 2, 0, 0), (78, .iload_n 1, 1, 0, 0), (79, .imul, 1, 0, 0), (80, .iload 4, 2, 0, 0), (82, .iadd, 1, 0, 0), (83, .iconst 0, 1, 0, 0), (84, .iastore, 1, 0, 0), (85, .iinc 4 1, 3, 0, 0), (88, .goto (-23), 3, 65, 0), (91, .aload_n 0, 1, 0, 0), (92, .getfield 55, 3, 12, 25), (95, .iload_n 1, 1, 0, 0), (96, .iaload, 1, 0, 0), (97, .ireturn, 1, 0, 0)]
/-- GhostTrainModel.mark(III)I -/
def mj_p203 : List (Nat × mj_I) := [(0, .iload_n 1, 1, 0, 0), (1, .invokestatic 169, 3, 182, 1), (4, .ifCond .ne 6, 3, 10, 0), (7, .ldc 83, 2, 3294967295, 0), (9, .ireturn, 1, 0, 0), (10, .aload_n 0, 1, 0, 0), (11, .getfield 52, 3, 12, 24), (14, .iload_n 1, 1, 0, 0), (15, .iaload, 1, 0, 0), (16, .ifCond .ge 6, 3, 22, 0), (19, .ldc 172, 2, 3294967285, 0), (21, .ireturn, 1, 0, 0), (22, .iload_n 2, 1, 0, 0), (23, .iconst 0, 1, 0, 0), (24, .aload_n 0, 1, 0, 0), (25, .getfield 55, 3, 12, 25), (28, .iload_n 1, 1, 0, 0), (29, .iaload, 1, 0, 0), (30, .iconst 1, 1, 0, 0), (31, .isub, 1, 0, 0), (32, .invokestatic 79, 3, 134, 3), (35, .ifCond .ne 6, 3, 41, 0), (38, .ldc 245, 2, 3294967283, 0), (40, .ireturn, 1, 0, 0), (41, .aload_n 0, 1, 0, 0), (42, .getfield 52, 3, 12, 24), (45, .iload_n 1, 1, 0, 0), (46, .iaload, 1, 0, 0), (47, .ifCond .ne 12, 3, 59, 0), (50, .iload_n 3, 1, 0, 0), (51, .ldc 165, 2, 3294967291, 0), (53, .if_icmp .ne 6, 3, 59, 0), (56, .ldc 126, 2, 3294967284, 0), (58, .ireturn, 1, 0, 0), (59, .aload_n 0, 1, 0, 0), (60, .getfield 52, 3, 12, 24), (63, .iload_n 1, 1, 0, 0), (64, .iaload, 1, 0, 0), (65, .iconst 1, 1, 0, 0), (66, .if_icmp .ne 23, 3, 89, 0), (69, .iload_n 3, 1, 0, 0), (70, .ldc 165, 2, 3294967291, 0), (72, .if_icmp .eq 17, 3, 89, 0), (75, .iload_n 3, 1, 0, 0), (76, .ldc 246, 2, 4294867297, 0), (78, .ldc 247, 2, 99999, 0), (80, .invokestatic 79, 3, 134, 3), (83, .ifCond .ne 6, 3, 89, 0), (86, .ldc 83, 2, 3294967295, 0), (88, .ireturn, 1, 0, 0), (89, .aload_n 0, 1, 0, 0), (90, .getfield 58, 3, 12, 26), (93, .bipush 24, 2, 0, 0), (95, .iload_n 1, 1, 0, 0), (96, .imul, 1, 0, 0), (97, .iload_n 2, 1, 0, 0), (98, .iadd, 1, 0, 0), (99, .aload_n 0, 1, 0, 0), (100, .getfield 52, 3, 12, 24), (103, .iload_n 1, 1, 0, 0), (104, .iaload, 1, 0, 0), (105, .ifCond .ne 8, 3, 113, 0), (108, .iload_n 3, 1, 0, 0), (109, .i2s, 1, 0, 0), (110, .goto 4, 3, 114, 0), (113, .iload_n 3, 1, 0, 0), (114, .iastore, 1, 0, 0), (115, .iconst 1, 1, 0, 0), (116, .ireturn, 1, 0, 0)]
/-- GhostTrainModel.pour(I)I -/
def mj_p204 : List (Nat × mj_I) := [(0, .iload_n 1, 1, 0, 0), (1, .invokestatic 169, 3, 182, 1), (4, .ifCond .ne 6, 3, 10, 0), (7, .ldc 83, 2, 3294967295, 0), (9, .ireturn, 1, 0, 0), (10, .aload_n 0, 1, 0, 0), (11, .getfield 52, 3, 12, 24), (14, .iload_n 1, 1, 0, 0), (15, .iaload, 1, 0, 0), (16, .ifCond .ge 6, 3, 22, 0), (19, .ldc 172, 2, 3294967285, 0), (21, .ireturn, 1, 0, 0), (22, .iconst 0, 1, 0, 0), (23, .istore_n 2, 1, 0, 0), (24, .iconst 0, 1, 0, 0), (25, .istore_n 3, 1, 0, 0), (26, .iload_n 3, 1, 0, 0), (27, .aload_n 0, 1, 0, 0), (28, .getfield 55, 3, 12, 25), (31, .iload_n 1, 1, 0, 0), (32, .iaload, 1, 0, 0), (33, .if_icmp .ge 79, 3, 112, 0), (36, .iload_n 3, 1, 0, 0), (37, .bipush 12, 2, 0, 0), (39, .if_icmp .ge 73, 3, 112, 0), (42, .aload_n 0, 1, 0, 0), (43, .getfield 58, 3, 12, 26), (46, .bipush 24, 2, 0, 0), (48, .iload_n 1, 1, 0, 0), (49, .imul, 1, 0, 0), (50, .iload_n 3, 1, 0, 0), (51, .iadd, 1, 0, 0), (52, .iaload, 1, 0, 0), (53, .istore 4, 2, 0, 0), (55, .iload 4, 2, 0, 0), (57, .ldc 165, 2, 3294967291, 0), (59, .if_icmp .ne 14, 3, 73, 0), (62, .aload_n 0, 1, 0, 0), (63, .getfield 9, 3, 12, 0), (66, .iconst 5, 1, 0, 0), (67, .iload_n 3, 1, 0, 0), (68, .iadd, 1, 0, 0), (69, .iaload, 1, 0, 0), (70, .goto 12, 3, 82, 0), (73, .iload 4, 2, 0, 0), (75, .bipush (-9), 2, 0, 0), (77, .bipush 9, 2, 0, 0), (79, .invokestatic 100, 3, 144, 3), (82, .istore 5, 2, 0, 0), (84, .iload_n 2, 1, 0, 0), (85, .aload_n 0, 1, 0, 0), (86, .iconst 5, 1, 0, 0), (87, .iload_n 3, 1, 0, 0), (88, .iadd, 1, 0, 0), (89, .iload 5, 2, 0, 0), (91, .invokevirtual 127, 3, 152, 2), (94, .iload 5, 2, 0, 0), (96, .if_icmp .ne 7, 3, 103, 0), (99, .iconst 0, 1, 0, 0), (100, .goto 4, 3, 104, 0), (103, .iconst 1, 1, 0, 0), (104, .iadd, 1, 0, 0), (105, .istore_n 2, 1, 0, 0), (106, .iinc 3 1, 3, 0, 0), (109, .goto (-83), 3, 26, 0), (112, .iload_n 2, 1, 0, 0), (113, .ireturn, 1, 0, 0)]
/-- GhostTrainModel.reads(I)I -/
def mj_p205 : List (Nat × mj_I) := [(0, .iload_n 1, 1, 0, 0), (1, .invokestatic 169, 3, 182, 1), (4, .ifCond .ne 6, 3, 10, 0), (7, .ldc 83, 2, 3294967295, 0), (9, .ireturn, 1, 0, 0), (10, .aload_n 0, 1, 0, 0), (11, .getfield 52, 3, 12, 24), (14, .iload_n 1, 1, 0, 0), (15, .iaload, 1, 0, 0), (16, .ifCond .ge 6, 3, 22, 0), (19, .ldc 172, 2, 3294967285, 0), (21, .ireturn, 1, 0, 0), (22, .iconst 0, 1, 0, 0), (23, .istore_n 2, 1, 0, 0), (24, .iload_n 2, 1, 0, 0), (25, .aload_n 0, 1, 0, 0), (26, .getfield 55, 3, 12, 25), (29, .iload_n 1, 1, 0, 0), (30, .iaload, 1, 0, 0), (31, .if_icmp .ge 47, 3, 78, 0), (34, .aload_n 0, 1, 0, 0), (35, .getfield 58, 3, 12, 26), (38, .bipush 24, 2, 0, 0), (40, .iload_n 1, 1, 0, 0), (41, .imul, 1, 0, 0), (42, .iload_n 2, 1, 0, 0), (43, .iadd, 1, 0, 0), (44, .iaload, 1, 0, 0), (45, .istore_n 3, 1, 0, 0), (46, .iload_n 3, 1, 0, 0), (47, .ldc 165, 2, 3294967291, 0), (49, .if_icmp .eq 23, 3, 72, 0), (52, .aload_n 0, 1, 0, 0), (53, .iload_n 2, 1, 0, 0), (54, .invokevirtual 103, 3, 137, 1), (57, .ifCond .eq 13, 3, 70, 0), (60, .iload_n 3, 1, 0, 0), (61, .aload_n 0, 1, 0, 0), (62, .iload_n 2, 1, 0, 0), (63, .iconst 1, 1, 0, 0), (64, .invokevirtual 93, 3, 141, 2), (67, .if_icmp .eq 5, 3, 72, 0), (70, .iload_n 2, 1, 0, 0), (71, .ireturn, 1, 0, 0), (72, .iinc 2 1, 3, 0, 0), (75, .goto (-51), 3, 24, 0), (78, .ldc 165, 2, 3294967291, 0), (80, .ireturn, 1, 0, 0)]
/-- GhostTrainModel.copy(IIIII)I -/
def mj_p206 : List (Nat × mj_I) := [(0, .iload_n 1, 1, 0, 0), (1, .invokestatic 169, 3, 182, 1), (4, .ifCond .eq 10, 3, 14, 0), (7, .iload_n 3, 1, 0, 0), (8, .invokestatic 169, 3, 182, 1), (11, .ifCond .ne 6, 3, 17, 0), (14, .ldc 83, 2, 3294967295, 0), (16, .ireturn, 1, 0, 0), (17, .aload_n 0, 1, 0, 0), (18, .getfield 52, 3, 12, 24), (21, .iload_n 1, 1, 0, 0), (22, .iaload, 1, 0, 0), (23, .ifCond .lt 12, 3, 35, 0), (26, .aload_n 0, 1, 0, 0), (27, .getfield 52, 3, 12, 24), (30, .iload_n 3, 1, 0, 0), (31, .iaload, 1, 0, 0), (32, .ifCond .ge 6, 3, 38, 0), (35, .ldc 172, 2, 3294967285, 0), (37, .ireturn, 1, 0, 0), (38, .aload_n 0, 1, 0, 0), (39, .getfield 52, 3, 12, 24), (42, .iload_n 1, 1, 0, 0), (43, .iaload, 1, 0, 0), (44, .aload_n 0, 1, 0, 0), (45, .getfield 52, 3, 12, 24), (48, .iload_n 3, 1, 0, 0), (49, .iaload, 1, 0, 0), (50, .if_icmp .eq 6, 3, 56, 0), (53, .ldc 126, 2, 3294967284, 0), (55, .ireturn, 1, 0, 0), (56, .iload_n 2, 1, 0, 0), (57, .ifCond .lt 40, 3, 97, 0), (60, .iload 4, 2, 0, 0), (62, .ifCond .lt 35, 3, 97, 0), (65, .iload 5, 2, 0, 0), (67, .ifCond .lt 30, 3, 97, 0), (70, .iload_n 2, 1, 0, 0), (71, .aload_n 0, 1, 0, 0), (72, .getfield 55, 3, 12, 25), (75, .iload_n 1, 1, 0, 0), (76, .iaload, 1, 0, 0), (77, .iload 5, 2, 0, 0), (79, .isub, 1, 0, 0), (80, .if_icmp .gt 17, 3, 97, 0), (83, .iload 4, 2, 0, 0), (85, .aload_n 0, 1, 0, 0), (86, .getfield 55, 3, 12, 25), (89, .iload_n 3, 1, 0, 0), (90, .iaload, 1, 0, 0), (91, .iload 5, 2, 0, 0), (93, .isub, 1, 0, 0), (94, .if_icmp .le 6, 3, 100, 0), (97, .ldc 245, 2, 3294967283, 0), (99, .ireturn, 1, 0, 0), (100, .iconst 0, 1, 0, 0), (101, .istore 6, 2, 0, 0), (103, .iload 6, 2, 0, 0), (105, .iload 5, 2, 0, 0), (107, .if_icmp .ge 30, 3, 137, 0), (110, .aload_n 0, 1, 0, 0), (111, .getfield 73, 3, 12, 31), (114, .iload 6, 2, 0, 0), (116, .aload_n 0, 1, 0, 0), (117, .getfield 58, 3, 12, 26), (120, .bipush 24, 2, 0, 0), (122, .iload_n 1, 1, 0, 0), (123, .imul, 1, 0, 0), (124, .iload_n 2, 1, 0, 0), (125, .iadd, 1, 0, 0), (126, .iload 6, 2, 0, 0), (128, .iadd, 1, 0, 0), (129, .iaload, 1, 0, 0), (130, .iastore, 1, 0, 0), (131, .iinc 6 1, 3, 0, 0), (134, .goto (-31), 3, 103, 0), (137, .iconst 0, 1, 0, 0), (138, .istore 6, 2, 0, 0), (140, .iload 6, 2, 0, 0), (142, .iload 5, 2, 0, 0), (144, .if_icmp .ge 31, 3, 175, 0), (147, .aload_n 0, 1, 0, 0), (148, .getfield 58, 3, 12, 26), (151, .bipush 24, 2, 0, 0), (153, .iload_n 3, 1, 0, 0), (154, .imul, 1, 0, 0), (155, .iload 4, 2, 0, 0), (157, .iadd, 1, 0, 0), (158, .iload 6, 2, 0, 0), (160, .iadd, 1, 0, 0), (161, .aload_n 0, 1, 0, 0), (162, .getfield 73, 3, 12, 31), (165, .iload 6, 2, 0, 0), (167, .iaload, 1, 0, 0), (168, .iastore, 1, 0, 0), (169, .iinc 6 1, 3, 0, 0), (172, .goto (-32), 3, 140, 0), (175, .iload 5, 2, 0, 0), (177, .ireturn, 1, 0, 0)]
/-- GhostTrainModel.lay(III)I -/
def mj_p207 : List (Nat × mj_I) := [(0, .iload_n 1, 1, 0, 0), (1, .invokestatic 248, 3, 208, 1), (4, .ifCond .eq 37, 3, 41, 0), (7, .iload_n 2, 1, 0, 0), (8, .iconst 0, 1, 0, 0), (9, .iconst 3, 1, 0, 0), (10, .invokestatic 79, 3, 134, 3), (13, .ifCond .eq 28, 3, 41, 0), (16, .iload_n 2, 1, 0, 0), (17, .iconst 1, 1, 0, 0), (18, .if_icmp .ne 11, 3, 29, 0), (21, .aload_n 0, 1, 0, 0), (22, .iload_n 3, 1, 0, 0), (23, .invokevirtual 103, 3, 137, 1), (26, .ifCond .eq 15, 3, 41, 0), (29, .iload_n 2, 1, 0, 0), (30, .iconst 2, 1, 0, 0), (31, .if_icmp .ne 13, 3, 44, 0), (34, .iload_n 3, 1, 0, 0), (35, .invokestatic 169, 3, 182, 1), (38, .ifCond .ne 6, 3, 44, 0), (41, .ldc 83, 2, 3294967295, 0), (43, .ireturn, 1, 0, 0), (44, .iload_n 2, 1, 0, 0), (45, .iconst 2, 1, 0, 0), (46, .if_icmp .ne 15, 3, 61, 0), (49, .aload_n 0, 1, 0, 0), (50, .getfield 52, 3, 12, 24), (53, .iload_n 3, 1, 0, 0), (54, .iaload, 1, 0, 0), (55, .ifCond .ge 6, 3, 61, 0), (58, .ldc 172, 2, 3294967285, 0), (60, .ireturn, 1, 0, 0), (61, .aload_n 0, 1, 0, 0), (62, .getfield 61, 3, 12, 27), (65, .iload_n 1, 1, 0, 0), (66, .iaload, 1, 0, 0), (67, .istore 4, 2, 0, 0), (69, .aload_n 0, 1, 0, 0), (70, .getfield 61, 3, 12, 27), (73, .iload_n 1, 1, 0, 0), (74, .iload_n 2, 1, 0, 0), (75, .iastore, 1, 0, 0), (76, .aload_n 0, 1, 0, 0), (77, .getfield 64, 3, 12, 28), (80, .iload_n 1, 1, 0, 0), (81, .iload_n 2, 1, 0, 0), (82, .iconst 1, 1, 0, 0), (83, .if_icmp .ne 12, 3, 95, 0), (86, .aload_n 0, 1, 0, 0), (87, .iload_n 3, 1, 0, 0), (88, .iconst 0, 1, 0, 0), (89, .invokevirtual 93, 3, 141, 2), (92, .goto 18, 3, 110, 0), (95, .iload_n 2, 1, 0, 0), (96, .iconst 2, 1, 0, 0), (97, .if_icmp .ne 12, 3, 109, 0), (100, .aload_n 0, 1, 0, 0), (101, .getfield 55, 3, 12, 25), (104, .iload_n 3, 1, 0, 0), (105, .iaload, 1, 0, 0), (106, .goto 4, 3, 110, 0), (109, .iload_n 3, 1, 0, 0), (110, .iastore, 1, 0, 0), (111, .aload_n 0, 1, 0, 0), (112, .getfield 67, 3, 12, 29), (115, .iload_n 1, 1, 0, 0), (116, .iload_n 2, 1, 0, 0), (117, .iconst 1, 1, 0, 0), (118, .if_icmp .ne 11, 3, 129, 0), (121, .aload_n 0, 1, 0, 0), (122, .iload_n 3, 1, 0, 0), (123, .invokevirtual 119, 3, 148, 1), (126, .goto 4, 3, 130, 0), (129, .iconst 0, 1, 0, 0), (130, .iastore, 1, 0, 0), (131, .iconst 0, 1, 0, 0), (132, .istore 5, 2, 0, 0), (134, .iload 5, 2, 0, 0), (136, .bipush 24, 2, 0, 0), (138, .if_icmp .ge 38, 3, 176, 0), (141, .iload_n 2, 1, 0, 0), (142, .iconst 2, 1, 0, 0), (143, .if_icmp .ne 33, 3, 176, 0), (146, .aload_n 0, 1, 0, 0), (147, .getfield 70, 3, 12, 30), (150, .bipush 24, 2, 0, 0), (152, .iload_n 1, 1, 0, 0), (153, .imul, 1, 0, 0), (154, .iload 5, 2, 0, 0), (156, .iadd, 1, 0, 0), (157, .aload_n 0, 1, 0, 0), (158, .getfield 58, 3, 12, 26), (161, .bipush 24, 2, 0, 0), (163, .iload_n 3, 1, 0, 0), (164, .imul, 1, 0, 0), (165, .iload 5, 2, 0, 0), (167, .iadd, 1, 0, 0), (168, .iaload, 1, 0, 0), (169, .iastore, 1, 0, 0), (170, .iinc 5 1, 3, 0, 0), (173, .goto (-39), 3, 134, 0), (176, .iload 4, 2, 0, 0), (178, .ireturn, 1, 0, 0)]
/-- GhostTrainModel.isSlot(I)Z -/
def mj_p208 : List (Nat × mj_I) := [(0, .iload_n 0, 1, 0, 0), (1, .iconst 0, 1, 0, 0), (2, .iconst 4, 1, 0, 0), (3, .invokestatic 79, 3, 134, 3), (6, .ireturn, 1, 0, 0)]
/-- GhostTrainModel.ask(II)I -/
def mj_p209 : List (Nat × mj_I) := [(0, .iload_n 1, 1, 0, 0), (1, .invokestatic 248, 3, 208, 1), (4, .ifCond .eq 12, 3, 16, 0), (7, .iload_n 2, 1, 0, 0), (8, .iconst 0, 1, 0, 0), (9, .iconst 5, 1, 0, 0), (10, .invokestatic 79, 3, 134, 3), (13, .ifCond .ne 6, 3, 19, 0), (16, .ldc 83, 2, 3294967295, 0), (18, .ireturn, 1, 0, 0), (19, .aload_n 0, 1, 0, 0), (20, .getfield 61, 3, 12, 27), (23, .iload_n 1, 1, 0, 0), (24, .iaload, 1, 0, 0), (25, .ifCond .ne 6, 3, 31, 0), (28, .ldc 172, 2, 3294967285, 0), (30, .ireturn, 1, 0, 0), (31, .aload_n 0, 1, 0, 0), (32, .getfield 61, 3, 12, 27), (35, .iload_n 1, 1, 0, 0), (36, .iaload, 1, 0, 0), (37, .iconst 1, 1, 0, 0), (38, .if_icmp .ne 25, 3, 63, 0), (41, .aload_n 0, 1, 0, 0), (42, .getfield 64, 3, 12, 28), (45, .iload_n 1, 1, 0, 0), (46, .iaload, 1, 0, 0), (47, .iload_n 2, 1, 0, 0), (48, .invokestatic 122, 3, 150, 2), (51, .ifCond .eq 12, 3, 63, 0), (54, .aload_n 0, 1, 0, 0), (55, .getfield 67, 3, 12, 29), (58, .iload_n 1, 1, 0, 0), (59, .iaload, 1, 0, 0), (60, .goto 5, 3, 65, 0), (63, .ldc 126, 2, 3294967284, 0), (65, .ireturn, 1, 0, 0)]
/-- GhostTrainModel.item(II)I -/
def mj_p210 : List (Nat × mj_I) := [(0, .iload_n 1, 1, 0, 0), (1, .invokestatic 248, 3, 208, 1), (4, .ifCond .ne 6, 3, 10, 0), (7, .ldc 83, 2, 3294967295, 0), (9, .ireturn, 1, 0, 0), (10, .aload_n 0, 1, 0, 0), (11, .getfield 61, 3, 12, 27), (14, .iload_n 1, 1, 0, 0), (15, .iaload, 1, 0, 0), (16, .ifCond .ne 6, 3, 22, 0), (19, .ldc 172, 2, 3294967285, 0), (21, .ireturn, 1, 0, 0), (22, .aload_n 0, 1, 0, 0), (23, .getfield 61, 3, 12, 27), (26, .iload_n 1, 1, 0, 0), (27, .iaload, 1, 0, 0), (28, .iconst 2, 1, 0, 0), (29, .if_icmp .eq 6, 3, 35, 0), (32, .ldc 126, 2, 3294967284, 0), (34, .ireturn, 1, 0, 0), (35, .iload_n 2, 1, 0, 0), (36, .iconst 0, 1, 0, 0), (37, .aload_n 0, 1, 0, 0), (38, .getfield 64, 3, 12, 28), (41, .iload_n 1, 1, 0, 0), (42, .iaload, 1, 0, 0), (43, .iconst 1, 1, 0, 0), (44, .isub, 1, 0, 0), (45, .invokestatic 79, 3, 134, 3), (48, .ifCond .ne 6, 3, 54, 0), (51, .ldc 245, 2, 3294967283, 0), (53, .ireturn, 1, 0, 0), (54, .aload_n 0, 1, 0, 0), (55, .getfield 70, 3, 12, 30), (58, .bipush 24, 2, 0, 0), (60, .iload_n 1, 1, 0, 0), (61, .imul, 1, 0, 0), (62, .iload_n 2, 1, 0, 0), (63, .iadd, 1, 0, 0), (64, .iaload, 1, 0, 0), (65, .istore_n 3, 1, 0, 0), (66, .iload_n 3, 1, 0, 0), (67, .ldc 165, 2, 3294967291, 0), (69, .if_icmp .ne 8, 3, 77, 0), (72, .ldc 126, 2, 3294967284, 0), (74, .goto 4, 3, 78, 0), (77, .iload_n 3, 1, 0, 0), (78, .ireturn, 1, 0, 0)]
/-- GhostTrainModel.rest(II)I -/
def mj_p211 : List (Nat × mj_I) := [(0, .iload_n 1, 1, 0, 0), (1, .invokestatic 248, 3, 208, 1), (4, .ifCond .ne 6, 3, 10, 0), (7, .ldc 83, 2, 3294967295, 0), (9, .ireturn, 1, 0, 0), (10, .aload_n 0, 1, 0, 0), (11, .getfield 61, 3, 12, 27), (14, .iload_n 1, 1, 0, 0), (15, .iaload, 1, 0, 0), (16, .ifCond .ne 6, 3, 22, 0), (19, .ldc 172, 2, 3294967285, 0), (21, .ireturn, 1, 0, 0), (22, .aload_n 0, 1, 0, 0), (23, .getfield 61, 3, 12, 27), (26, .iload_n 1, 1, 0, 0), (27, .iaload, 1, 0, 0), (28, .iconst 3, 1, 0, 0), (29, .if_icmp .eq 6, 3, 35, 0), (32, .ldc 126, 2, 3294967284, 0), (34, .ireturn, 1, 0, 0), (35, .iload_n 2, 1, 0, 0), (36, .ifCond .ne 8, 3, 44, 0), (39, .ldc 251, 2, 3294967294, 0), (41, .goto 20, 3, 61, 0), (44, .iload_n 2, 1, 0, 0), (45, .iconst (-1), 1, 0, 0), (46, .if_icmp .ne 7, 3, 53, 0), (49, .iconst 0, 1, 0, 0), (50, .goto 11, 3, 61, 0), (53, .aload_n 0, 1, 0, 0), (54, .getfield 64, 3, 12, 28), (57, .iload_n 1, 1, 0, 0), (58, .iaload, 1, 0, 0), (59, .iload_n 2, 1, 0, 0), (60, .irem, 1, 0, 0), (61, .ireturn, 1, 0, 0)]
/-- GhostTrainModel.tell(I)I -/
def mj_p212 : List (Nat × mj_I) := [(0, .aload_n 0, 1, 0, 0), (1, .getfield 252, 3, 12, 33), (4, .bipush 60, 2, 0, 0), (6, .if_icmp .ne 6, 3, 12, 0), (9, .ldc 84, 2, 3294967293, 0), (11, .ireturn, 1, 0, 0), (12, .aload_n 0, 1, 0, 0), (13, .getfield 76, 3, 12, 32), (16, .aload_n 0, 1, 0, 0), (17, .getfield 252, 3, 12, 33), (20, .iload_n 1, 1, 0, 0), (21, .iastore, 1, 0, 0), (22, .aload_n 0, 1, 0, 0), (23, .dup, 1, 0, 0), (24, .getfield 252, 3, 12, 33), (27, .iconst 1, 1, 0, 0), (28, .iadd, 1, 0, 0), (29, .putfield 252, 3, 12, 33), (32, .aload_n 0, 1, 0, 0), (33, .getfield 252, 3, 12, 33), (36, .ireturn, 1, 0, 0)]
/-- GhostTrainModel.check(I)I -/
def mj_p213 : List (Nat × mj_I) := [(0, .aload_n 0, 1, 0, 0), (1, .getfield 252, 3, 12, 33), (4, .istore_n 2, 1, 0, 0), (5, .aload_n 0, 1, 0, 0), (6, .iconst 0, 1, 0, 0), (7, .putfield 252, 3, 12, 33), (10, .iload_n 1, 1, 0, 0), (11, .iconst 1, 1, 0, 0), (12, .bipush 30, 2, 0, 0), (14, .invokestatic 79, 3, 134, 3), (17, .ifCond .ne 6, 3, 23, 0), (20, .ldc 83, 2, 3294967295, 0), (22, .ireturn, 1, 0, 0), (23, .aload_n 0, 1, 0, 0), (24, .getfield 255, 3, 12, 3), (27, .ifCond .ne 6, 3, 33, 0), (30, .ldc 251, 2, 3294967294, 0), (32, .ireturn, 1, 0, 0), (33, .aload_n 0, 1, 0, 0), (34, .getfield 9, 3, 12, 0), (37, .aload_n 0, 1, 0, 0), (38, .getfield 16, 3, 12, 2), (41, .invokestatic 259, 3, 214, 2), (44, .aload_n 0, 1, 0, 0), (45, .getfield 13, 3, 12, 1), (48, .aload_n 0, 1, 0, 0), (49, .getfield 9, 3, 12, 0), (52, .invokestatic 259, 3, 214, 2), (55, .iconst 2, 1, 0, 0), (56, .sipush 9999, 3, 0, 0), (59, .aload_n 0, 1, 0, 0), (60, .getfield 9, 3, 12, 0), (63, .iconst 2, 1, 0, 0), (64, .iaload, 1, 0, 0), (65, .isub, 1, 0, 0), (66, .iconst 0, 1, 0, 0), (67, .iload_n 1, 1, 0, 0), (68, .invokestatic 100, 3, 144, 3), (71, .imul, 1, 0, 0), (72, .istore_n 3, 1, 0, 0), (73, .iconst 0, 1, 0, 0), (74, .istore 4, 2, 0, 0), (76, .iconst 0, 1, 0, 0), (77, .istore 5, 2, 0, 0), (79, .iconst 2, 1, 0, 0), (80, .iload 5, 2, 0, 0), (82, .imul, 1, 0, 0), (83, .iload_n 3, 1, 0, 0), (84, .if_icmp .ge 95, 3, 179, 0), (87, .iload 4, 2, 0, 0), (89, .iconst 2, 1, 0, 0), (90, .iload 5, 2, 0, 0), (92, .imul, 1, 0, 0), (93, .if_icmp .ne 86, 3, 179, 0), (96, .aload_n 0, 1, 0, 0), (97, .invokevirtual 147, 3, 163, 0), (100, .iload 4, 2, 0, 0), (102, .iload 4, 2, 0, 0), (104, .iload_n 2, 1, 0, 0), (105, .if_icmp .ge 22, 3, 127, 0), (108, .aload_n 0, 1, 0, 0), (109, .getfield 76, 3, 12, 32), (112, .iload 4, 2, 0, 0), (114, .iaload, 1, 0, 0), (115, .aload_n 0, 1, 0, 0), (116, .iconst 1, 1, 0, 0), (117, .invokevirtual 150, 3, 161, 1), (120, .if_icmp .ne 7, 3, 127, 0), (123, .iconst 1, 1, 0, 0), (124, .goto 4, 3, 128, 0), (127, .iconst 0, 1, 0, 0), (128, .iadd, 1, 0, 0), (129, .istore 4, 2, 0, 0), (131, .iload 4, 2, 0, 0), (133, .iload 4, 2, 0, 0), (135, .iconst 2, 1, 0, 0), (136, .iload 5, 2, 0, 0), (138, .imul, 1, 0, 0), (139, .iconst 1, 1, 0, 0), (140, .iadd, 1, 0, 0), (141, .if_icmp .ne 28, 3, 169, 0), (144, .iload 4, 2, 0, 0), (146, .iload_n 2, 1, 0, 0), (147, .if_icmp .ge 22, 3, 169, 0), (150, .aload_n 0, 1, 0, 0), (151, .getfield 76, 3, 12, 32), (154, .iload 4, 2, 0, 0), (156, .iaload, 1, 0, 0), (157, .aload_n 0, 1, 0, 0), (158, .iconst 3, 1, 0, 0), (159, .invokevirtual 150, 3, 161, 1), (162, .if_icmp .ne 7, 3, 169, 0), (165, .iconst 1, 1, 0, 0), (166, .goto 4, 3, 170, 0), (169, .iconst 0, 1, 0, 0), (170, .iadd, 1, 0, 0), (171, .istore 4, 2, 0, 0), (173, .iinc 5 1, 3, 0, 0), (176, .goto (-97), 3, 79, 0), (179, .aload_n 0, 1, 0, 0), (180, .getfield 16, 3, 12, 2), (183, .aload_n 0, 1, 0, 0), (184, .getfield 9, 3, 12, 0), (187, .invokestatic 259, 3, 214, 2), (190, .iload 4, 2, 0, 0), (192, .iload_n 2, 1, 0, 0), (193, .if_icmp .ne 13, 3, 206, 0), (196, .iload 4, 2, 0, 0), (198, .iload_n 3, 1, 0, 0), (199, .if_icmp .ne 7, 3, 206, 0), (202, .iconst 0, 1, 0, 0), (203, .goto 7, 3, 210, 0), (206, .iconst 1, 1, 0, 0), (207, .iload 4, 2, 0, 0), (209, .iadd, 1, 0, 0), (210, .ireturn, 1, 0, 0)]
/-- GhostTrainModel.copyAll([I[I)V -/
def mj_p214 : List (Nat × mj_I) := [(0, .iconst 0, 1, 0, 0), (1, .istore_n 2, 1, 0, 0), (2, .iload_n 2, 1, 0, 0), (3, .sipush 1481, 3, 0, 0), (6, .if_icmp .ge 15, 3, 21, 0), (9, .aload_n 1, 1, 0, 0), (10, .iload_n 2, 1, 0, 0), (11, .aload_n 0, 1, 0, 0), (12, .iload_n 2, 1, 0, 0), (13, .iaload, 1, 0, 0), (14, .iastore, 1, 0, 0), (15, .iinc 2 1, 3, 0, 0), (18, .goto (-16), 3, 2, 0), (21, .return_, 1, 0, 0)]
/-- GhostTrainModel.keep()I -/
def mj_p215 : List (Nat × mj_I) := [(0, .aload_n 0, 1, 0, 0), (1, .getfield 9, 3, 12, 0), (4, .aload_n 0, 1, 0, 0), (5, .getfield 13, 3, 12, 1), (8, .invokestatic 259, 3, 214, 2), (11, .aload_n 0, 1, 0, 0), (12, .iconst 1, 1, 0, 0), (13, .putfield 255, 3, 12, 3), (16, .aload_n 0, 1, 0, 0), (17, .getfield 9, 3, 12, 0), (20, .iconst 1, 1, 0, 0), (21, .iaload, 1, 0, 0), (22, .ireturn, 1, 0, 0)]
/-- GhostTrainModel.back()I -/
def mj_p216 : List (Nat × mj_I) := [(0, .aload_n 0, 1, 0, 0), (1, .getfield 255, 3, 12, 3), (4, .ifCond .ne 6, 3, 10, 0), (7, .ldc 251, 2, 3294967294, 0), (9, .ireturn, 1, 0, 0), (10, .aload_n 0, 1, 0, 0), (11, .getfield 13, 3, 12, 1), (14, .aload_n 0, 1, 0, 0), (15, .getfield 9, 3, 12, 0), (18, .invokestatic 259, 3, 214, 2), (21, .aload_n 0, 1, 0, 0), (22, .getfield 9, 3, 12, 0), (25, .iconst 1, 1, 0, 0), (26, .iaload, 1, 0, 0), (27, .ireturn, 1, 0, 0)]
/-- GhostTrainModel.count(I)I -/
def mj_p217 : List (Nat × mj_I) := [(0, .iload_n 1, 1, 0, 0), (1, .tableswitch 97 0 7 #[47, 54, 61, 68, 73, 80, 85, 90], 47, 0, 0), (48, .aload_n 0, 1, 0, 0), (49, .getfield 9, 3, 12, 0), (52, .iconst 1, 1, 0, 0), (53, .iaload, 1, 0, 0), (54, .ireturn, 1, 0, 0), (55, .aload_n 0, 1, 0, 0), (56, .getfield 9, 3, 12, 0), (59, .iconst 2, 1, 0, 0), (60, .iaload, 1, 0, 0), (61, .ireturn, 1, 0, 0), (62, .aload_n 0, 1, 0, 0), (63, .getfield 9, 3, 12, 0), (66, .iconst 3, 1, 0, 0), (67, .iaload, 1, 0, 0), (68, .ireturn, 1, 0, 0), (69, .aload_n 0, 1, 0, 0), (70, .invokevirtual 263, 3, 218, 0), (73, .ireturn, 1, 0, 0), (74, .aload_n 0, 1, 0, 0), (75, .getfield 9, 3, 12, 0), (78, .iconst 4, 1, 0, 0), (79, .iaload, 1, 0, 0), (80, .ireturn, 1, 0, 0), (81, .aload_n 0, 1, 0, 0), (82, .getfield 252, 3, 12, 33), (85, .ireturn, 1, 0, 0), (86, .aload_n 0, 1, 0, 0), (87, .getfield 177, 3, 12, 7), (90, .ireturn, 1, 0, 0), (91, .aload_n 0, 1, 0, 0), (92, .getfield 9, 3, 12, 0), (95, .iconst 0, 1, 0, 0), (96, .iaload, 1, 0, 0), (97, .ireturn, 1, 0, 0), (98, .ldc 83, 2, 3294967295, 0), (100, .ireturn, 1, 0, 0)]
/-- GhostTrainModel.scares()I -/
def mj_p218 : List (Nat × mj_I) := [(0, .iconst 0, 1, 0, 0), (1, .istore_n 1, 1, 0, 0), (2, .iconst 0, 1, 0, 0), (3, .istore_n 2, 1, 0, 0), (4, .iload_n 2, 1, 0, 0), (5, .bipush 12, 2, 0, 0), (7, .if_icmp .ge 29, 3, 36, 0), (10, .iload_n 1, 1, 0, 0), (11, .aload_n 0, 1, 0, 0), (12, .getfield 9, 3, 12, 0), (15, .bipush 29, 2, 0, 0), (17, .iload_n 2, 1, 0, 0), (18, .iadd, 1, 0, 0), (19, .iaload, 1, 0, 0), (20, .ifCond .le 7, 3, 27, 0), (23, .iconst 1, 1, 0, 0), (24, .goto 4, 3, 28, 0), (27, .iconst 0, 1, 0, 0), (28, .iadd, 1, 0, 0), (29, .istore_n 1, 1, 0, 0), (30, .iinc 2 1, 3, 0, 0), (33, .goto (-29), 3, 4, 0), (36, .iload_n 1, 1, 0, 0), (37, .ireturn, 1, 0, 0)]
/-- GhostTrainLaw.law([I)Z -/
def mj_p219 : List (Nat × mj_I) := [(0, .new 7, 3, 11, 0), (3, .dup, 1, 0, 0), (4, .invokespecial 9, 3, 0, 0), (7, .astore_n 1, 1, 0, 0), (8, .new 10, 3, 12, 0), (11, .dup, 1, 0, 0), (12, .invokespecial 12, 3, 132, 0), (15, .astore_n 2, 1, 0, 0), (16, .iconst 0, 1, 0, 0), (17, .istore_n 3, 1, 0, 0), (18, .iload_n 3, 1, 0, 0), (19, .aload_n 0, 1, 0, 0), (20, .arraylength, 1, 0, 0), (21, .bipush 6, 2, 0, 0), (23, .isub, 1, 0, 0), (24, .if_icmp .gt 1538, 3, 1562, 0), (27, .aload_n 0, 1, 0, 0), (28, .iload_n 3, 1, 0, 0), (29, .iaload, 1, 0, 0), (30, .bipush 63, 2, 0, 0), (32, .iand, 1, 0, 0), (33, .tableswitch 1523 0 43 #[191, 234, 267, 300, 333, 366, 409, 442, 485, 508, 531, 554, 577, 600, 613, 646, 659, 702, 745, 778, 821, 854, 877, 920, 933, 956, 999, 1022, 1035, 1068, 1091, 1134, 1177, 1200, 1223, 1286, 1329, 1362, 1395, 1428, 1451, 1474, 1487, 1500], 191, 0, 0), (224, .aload_n 1, 1, 0, 0), (225, .aload_n 0, 1, 0, 0), (226, .iload_n 3, 1, 0, 0), (227, .iconst 1, 1, 0, 0), (228, .iadd, 1, 0, 0), (229, .iaload, 1, 0, 0), (230, .aload_n 0, 1, 0, 0), (231, .iload_n 3, 1, 0, 0), (232, .iconst 2, 1, 0, 0), (233, .iadd, 1, 0, 0), (234, .iaload, 1, 0, 0), (235, .aload_n 0, 1, 0, 0), (236, .iload_n 3, 1, 0, 0), (237, .iconst 3, 1, 0, 0), (238, .iadd, 1, 0, 0), (239, .iaload, 1, 0, 0), (240, .invokevirtual 13, 3, 12, 3), (243, .aload_n 2, 1, 0, 0), (244, .aload_n 0, 1, 0, 0), (245, .iload_n 3, 1, 0, 0), (246, .iconst 1, 1, 0, 0), (247, .iadd, 1, 0, 0), (248, .iaload, 1, 0, 0), (249, .aload_n 0, 1, 0, 0), (250, .iload_n 3, 1, 0, 0), (251, .iconst 2, 1, 0, 0), (252, .iadd, 1, 0, 0), (253, .iaload, 1, 0, 0), (254, .aload_n 0, 1, 0, 0), (255, .iload_n 3, 1, 0, 0), (256, .iconst 3, 1, 0, 0), (257, .iadd, 1, 0, 0), (258, .iaload, 1, 0, 0), (259, .invokevirtual 17, 3, 133, 3), (262, .if_icmp .eq 1294, 3, 1556, 0), (265, .iconst 0, 1, 0, 0), (266, .ireturn, 1, 0, 0), (267, .aload_n 1, 1, 0, 0), (268, .aload_n 0, 1, 0, 0), (269, .iload_n 3, 1, 0, 0), (270, .iconst 1, 1, 0, 0), (271, .iadd, 1, 0, 0), (272, .iaload, 1, 0, 0), (273, .aload_n 0, 1, 0, 0), (274, .iload_n 3, 1, 0, 0), (275, .iconst 2, 1, 0, 0), (276, .iadd, 1, 0, 0), (277, .iaload, 1, 0, 0), (278, .invokevirtual 18, 3, 18, 2), (281, .aload_n 2, 1, 0, 0), (282, .aload_n 0, 1, 0, 0), (283, .iload_n 3, 1, 0, 0), (284, .iconst 1, 1, 0, 0), (285, .iadd, 1, 0, 0), (286, .iaload, 1, 0, 0), (287, .aload_n 0, 1, 0, 0), (288, .iload_n 3, 1, 0, 0), (289, .iconst 2, 1, 0, 0), (290, .iadd, 1, 0, 0), (291, .iaload, 1, 0, 0), (292, .invokevirtual 22, 3, 145, 2), (295, .if_icmp .eq 1261, 3, 1556, 0), (298, .iconst 0, 1, 0, 0), (299, .ireturn, 1, 0, 0), (300, .aload_n 1, 1, 0, 0), (301, .aload_n 0, 1, 0, 0), (302, .iload_n 3, 1, 0, 0), (303, .iconst 1, 1, 0, 0), (304, .iadd, 1, 0, 0), (305, .iaload, 1, 0, 0), (306, .aload_n 0, 1, 0, 0), (307, .iload_n 3, 1, 0, 0), (308, .iconst 2, 1, 0, 0), (309, .iadd, 1, 0, 0), (310, .iaload, 1, 0, 0), (311, .invokevirtual 23, 3, 44, 2), (314, .aload_n 2, 1, 0, 0), (315, .aload_n 0, 1, 0, 0), (316, .iload_n 3, 1, 0, 0), (317, .iconst 1, 1, 0, 0), (318, .iadd, 1, 0, 0), (319, .iaload, 1, 0, 0), (320, .aload_n 0, 1, 0, 0), (321, .iload_n 3, 1, 0, 0), (322, .iconst 2, 1, 0, 0), (323, .iadd, 1, 0, 0), (324, .iaload, 1, 0, 0), (325, .invokevirtual 26, 3, 136, 2), (328, .if_icmp .eq 1228, 3, 1556, 0), (331, .iconst 0, 1, 0, 0), (332, .ireturn, 1, 0, 0), (333, .aload_n 1, 1, 0, 0), (334, .aload_n 0, 1, 0, 0), (335, .iload_n 3, 1, 0, 0), (336, .iconst 1, 1, 0, 0), (337, .iadd, 1, 0, 0), (338, .iaload, 1, 0, 0), (339, .aload_n 0, 1, 0, 0), (340, .iload_n 3, 1, 0, 0), (341, .iconst 2, 1, 0, 0), (342, .iadd, 1, 0, 0), (343, .iaload, 1, 0, 0), (344, .invokevirtual 27, 3, 46, 2), (347, .aload_n 2, 1, 0, 0), (348, .aload_n 0, 1, 0, 0), (349, .iload_n 3, 1, 0, 0), (350, .iconst 1, 1, 0, 0), (351, .iadd, 1, 0, 0), (352, .iaload, 1, 0, 0), (353, .aload_n 0, 1, 0, 0), (354, .iload_n 3, 1, 0, 0), (355, .iconst 2, 1, 0, 0), (356, .iadd, 1, 0, 0), (357, .iaload, 1, 0, 0), (358, .invokevirtual 30, 3, 149, 2), (361, .if_icmp .eq 1195, 3, 1556, 0), (364, .iconst 0, 1, 0, 0), (365, .ireturn, 1, 0, 0), (366, .aload_n 1, 1, 0, 0), (367, .aload_n 0, 1, 0, 0), (368, .iload_n 3, 1, 0, 0), (369, .iconst 1, 1, 0, 0), (370, .iadd, 1, 0, 0), (371, .iaload, 1, 0, 0), (372, .aload_n 0, 1, 0, 0), (373, .iload_n 3, 1, 0, 0), (374, .iconst 2, 1, 0, 0), (375, .iadd, 1, 0, 0), (376, .iaload, 1, 0, 0), (377, .invokevirtual 31, 3, 53, 2), (380, .aload_n 2, 1, 0, 0), (381, .aload_n 0, 1, 0, 0), (382, .iload_n 3, 1, 0, 0), (383, .iconst 1, 1, 0, 0), (384, .iadd, 1, 0, 0), (385, .iaload, 1, 0, 0), (386, .aload_n 0, 1, 0, 0), (387, .iload_n 3, 1, 0, 0), (388, .iconst 2, 1, 0, 0), (389, .iadd, 1, 0, 0), (390, .iaload, 1, 0, 0), (391, .invokevirtual 34, 3, 151, 2), (394, .if_icmp .eq 1162, 3, 1556, 0), (397, .iconst 0, 1, 0, 0), (398, .ireturn, 1, 0, 0), (399, .aload_n 1, 1, 0, 0), (400, .aload_n 0, 1, 0, 0), (401, .iload_n 3, 1, 0, 0), (402, .iconst 1, 1, 0, 0), (403, .iadd, 1, 0, 0), (404, .iaload, 1, 0, 0), (405, .aload_n 0, 1, 0, 0), (406, .iload_n 3, 1, 0, 0), (407, .iconst 2, 1, 0, 0), (408, .iadd, 1, 0, 0), (409, .iaload, 1, 0, 0), (410, .aload_n 0, 1, 0, 0), (411, .iload_n 3, 1, 0, 0), (412, .iconst 3, 1, 0, 0), (413, .iadd, 1, 0, 0), (414, .iaload, 1, 0, 0), (415, .invokevirtual 35, 3, 54, 3), (418, .aload_n 2, 1, 0, 0), (419, .aload_n 0, 1, 0, 0), (420, .iload_n 3, 1, 0, 0), (421, .iconst 1, 1, 0, 0), (422, .iadd, 1, 0, 0), (423, .iaload, 1, 0, 0), (424, .aload_n 0, 1, 0, 0), (425, .iload_n 3, 1, 0, 0), (426, .iconst 2, 1, 0, 0), (427, .iadd, 1, 0, 0), (428, .iaload, 1, 0, 0), (429, .aload_n 0, 1, 0, 0), (430, .iload_n 3, 1, 0, 0), (431, .iconst 3, 1, 0, 0), (432, .iadd, 1, 0, 0), (433, .iaload, 1, 0, 0), (434, .invokevirtual 38, 3, 153, 3), (437, .if_icmp .eq 1119, 3, 1556, 0), (440, .iconst 0, 1, 0, 0), (441, .ireturn, 1, 0, 0), (442, .aload_n 1, 1, 0, 0), (443, .aload_n 0, 1, 0, 0), (444, .iload_n 3, 1, 0, 0), (445, .iconst 1, 1, 0, 0), (446, .iadd, 1, 0, 0), (447, .iaload, 1, 0, 0), (448, .aload_n 0, 1, 0, 0), (449, .iload_n 3, 1, 0, 0), (450, .iconst 2, 1, 0, 0), (451, .iadd, 1, 0, 0), (452, .iaload, 1, 0, 0), (453, .invokevirtual 39, 3, 55, 2), (456, .aload_n 2, 1, 0, 0), (457, .aload_n 0, 1, 0, 0), (458, .iload_n 3, 1, 0, 0), (459, .iconst 1, 1, 0, 0), (460, .iadd, 1, 0, 0), (461, .iaload, 1, 0, 0), (462, .aload_n 0, 1, 0, 0), (463, .iload_n 3, 1, 0, 0), (464, .iconst 2, 1, 0, 0), (465, .iadd, 1, 0, 0), (466, .iaload, 1, 0, 0), (467, .invokevirtual 42, 3, 154, 2), (470, .if_icmp .eq 1086, 3, 1556, 0), (473, .iconst 0, 1, 0, 0), (474, .ireturn, 1, 0, 0), (475, .aload_n 1, 1, 0, 0), (476, .aload_n 0, 1, 0, 0), (477, .iload_n 3, 1, 0, 0), (478, .iconst 1, 1, 0, 0), (479, .iadd, 1, 0, 0), (480, .iaload, 1, 0, 0), (481, .aload_n 0, 1, 0, 0), (482, .iload_n 3, 1, 0, 0), (483, .iconst 2, 1, 0, 0), (484, .iadd, 1, 0, 0), (485, .iaload, 1, 0, 0), (486, .aload_n 0, 1, 0, 0), (487, .iload_n 3, 1, 0, 0), (488, .iconst 3, 1, 0, 0), (489, .iadd, 1, 0, 0), (490, .iaload, 1, 0, 0), (491, .invokevirtual 43, 3, 56, 3), (494, .aload_n 2, 1, 0, 0), (495, .aload_n 0, 1, 0, 0), (496, .iload_n 3, 1, 0, 0), (497, .iconst 1, 1, 0, 0), (498, .iadd, 1, 0, 0), (499, .iaload, 1, 0, 0), (500, .aload_n 0, 1, 0, 0), (501, .iload_n 3, 1, 0, 0), (502, .iconst 2, 1, 0, 0), (503, .iadd, 1, 0, 0), (504, .iaload, 1, 0, 0), (505, .aload_n 0, 1, 0, 0), (506, .iload_n 3, 1, 0, 0), (507, .iconst 3, 1, 0, 0), (508, .iadd, 1, 0, 0), (509, .iaload, 1, 0, 0), (510, .invokevirtual 46, 3, 155, 3), (513, .if_icmp .eq 1043, 3, 1556, 0), (516, .iconst 0, 1, 0, 0), (517, .ireturn, 1, 0, 0), (518, .aload_n 1, 1, 0, 0), (519, .aload_n 0, 1, 0, 0), (520, .iload_n 3, 1, 0, 0), (521, .iconst 1, 1, 0, 0), (522, .iadd, 1, 0, 0), (523, .iaload, 1, 0, 0), (524, .invokevirtual 47, 3, 57, 1), (527, .aload_n 2, 1, 0, 0), (528, .aload_n 0, 1, 0, 0), (529, .iload_n 3, 1, 0, 0), (530, .iconst 1, 1, 0, 0), (531, .iadd, 1, 0, 0), (532, .iaload, 1, 0, 0), (533, .invokevirtual 51, 3, 156, 1), (536, .if_icmp .eq 1020, 3, 1556, 0), (539, .iconst 0, 1, 0, 0), (540, .ireturn, 1, 0, 0), (541, .aload_n 1, 1, 0, 0), (542, .aload_n 0, 1, 0, 0), (543, .iload_n 3, 1, 0, 0), (544, .iconst 1, 1, 0, 0), (545, .iadd, 1, 0, 0), (546, .iaload, 1, 0, 0), (547, .invokevirtual 52, 3, 58, 1), (550, .aload_n 2, 1, 0, 0), (551, .aload_n 0, 1, 0, 0), (552, .iload_n 3, 1, 0, 0), (553, .iconst 1, 1, 0, 0), (554, .iadd, 1, 0, 0), (555, .iaload, 1, 0, 0), (556, .invokevirtual 55, 3, 157, 1), (559, .if_icmp .eq 997, 3, 1556, 0), (562, .iconst 0, 1, 0, 0), (563, .ireturn, 1, 0, 0), (564, .aload_n 1, 1, 0, 0), (565, .aload_n 0, 1, 0, 0), (566, .iload_n 3, 1, 0, 0), (567, .iconst 1, 1, 0, 0), (568, .iadd, 1, 0, 0), (569, .iaload, 1, 0, 0), (570, .invokevirtual 56, 3, 60, 1), (573, .aload_n 2, 1, 0, 0), (574, .aload_n 0, 1, 0, 0), (575, .iload_n 3, 1, 0, 0), (576, .iconst 1, 1, 0, 0), (577, .iadd, 1, 0, 0), (578, .iaload, 1, 0, 0), (579, .invokevirtual 59, 3, 159, 1), (582, .if_icmp .eq 974, 3, 1556, 0), (585, .iconst 0, 1, 0, 0), (586, .ireturn, 1, 0, 0), (587, .aload_n 1, 1, 0, 0), (588, .aload_n 0, 1, 0, 0), (589, .iload_n 3, 1, 0, 0), (590, .iconst 1, 1, 0, 0), (591, .iadd, 1, 0, 0), (592, .iaload, 1, 0, 0), (593, .invokevirtual 60, 3, 61, 1), (596, .aload_n 2, 1, 0, 0), (597, .aload_n 0, 1, 0, 0), (598, .iload_n 3, 1, 0, 0), (599, .iconst 1, 1, 0, 0), (600, .iadd, 1, 0, 0), (601, .iaload, 1, 0, 0), (602, .invokevirtual 63, 3, 160, 1), (605, .if_icmp .eq 951, 3, 1556, 0), (608, .iconst 0, 1, 0, 0), (609, .ireturn, 1, 0, 0), (610, .aload_n 1, 1, 0, 0), (611, .aload_n 0, 1, 0, 0), (612, .iload_n 3, 1, 0, 0), (613, .iconst 1, 1, 0, 0), (614, .iadd, 1, 0, 0), (615, .iaload, 1, 0, 0), (616, .invokevirtual 64, 3, 66, 1), (619, .aload_n 2, 1, 0, 0), (620, .aload_n 0, 1, 0, 0), (621, .iload_n 3, 1, 0, 0), (622, .iconst 1, 1, 0, 0), (623, .iadd, 1, 0, 0), (624, .iaload, 1, 0, 0), (625, .invokevirtual 67, 3, 167, 1), (628, .if_icmp .eq 928, 3, 1556, 0), (631, .iconst 0, 1, 0, 0), (632, .ireturn, 1, 0, 0), (633, .aload_n 1, 1, 0, 0), (634, .invokevirtual 68, 3, 68, 0), (637, .aload_n 2, 1, 0, 0), (638, .invokevirtual 72, 3, 169, 0), (641, .if_icmp .eq 915, 3, 1556, 0), (644, .iconst 0, 1, 0, 0), (645, .ireturn, 1, 0, 0), (646, .aload_n 1, 1, 0, 0), (647, .aload_n 0, 1, 0, 0), (648, .iload_n 3, 1, 0, 0), (649, .iconst 1, 1, 0, 0), (650, .iadd, 1, 0, 0), (651, .iaload, 1, 0, 0), (652, .aload_n 0, 1, 0, 0), (653, .iload_n 3, 1, 0, 0), (654, .iconst 2, 1, 0, 0), (655, .iadd, 1, 0, 0), (656, .iaload, 1, 0, 0), (657, .invokevirtual 73, 3, 69, 2), (660, .aload_n 2, 1, 0, 0), (661, .aload_n 0, 1, 0, 0), (662, .iload_n 3, 1, 0, 0), (663, .iconst 1, 1, 0, 0), (664, .iadd, 1, 0, 0), (665, .iaload, 1, 0, 0), (666, .aload_n 0, 1, 0, 0), (667, .iload_n 3, 1, 0, 0), (668, .iconst 2, 1, 0, 0), (669, .iadd, 1, 0, 0), (670, .iaload, 1, 0, 0), (671, .invokevirtual 76, 3, 170, 2), (674, .if_icmp .eq 882, 3, 1556, 0), (677, .iconst 0, 1, 0, 0), (678, .ireturn, 1, 0, 0), (679, .aload_n 1, 1, 0, 0), (680, .invokevirtual 77, 3, 71, 0), (683, .aload_n 2, 1, 0, 0), (684, .invokevirtual 80, 3, 173, 0), (687, .if_icmp .eq 869, 3, 1556, 0), (690, .iconst 0, 1, 0, 0), (691, .ireturn, 1, 0, 0), (692, .aload_n 1, 1, 0, 0), (693, .aload_n 0, 1, 0, 0), (694, .iload_n 3, 1, 0, 0), (695, .iconst 1, 1, 0, 0), (696, .iadd, 1, 0, 0), (697, .iaload, 1, 0, 0), (698, .aload_n 0, 1, 0, 0), (699, .iload_n 3, 1, 0, 0), (700, .iconst 2, 1, 0, 0), (701, .iadd, 1, 0, 0), (702, .iaload, 1, 0, 0), (703, .aload_n 0, 1, 0, 0), (704, .iload_n 3, 1, 0, 0), (705, .iconst 3, 1, 0, 0), (706, .iadd, 1, 0, 0), (707, .iaload, 1, 0, 0), (708, .invokevirtual 81, 3, 72, 3), (711, .aload_n 2, 1, 0, 0), (712, .aload_n 0, 1, 0, 0), (713, .iload_n 3, 1, 0, 0), (714, .iconst 1, 1, 0, 0), (715, .iadd, 1, 0, 0), (716, .iaload, 1, 0, 0), (717, .aload_n 0, 1, 0, 0), (718, .iload_n 3, 1, 0, 0), (719, .iconst 2, 1, 0, 0), (720, .iadd, 1, 0, 0), (721, .iaload, 1, 0, 0), (722, .aload_n 0, 1, 0, 0), (723, .iload_n 3, 1, 0, 0), (724, .iconst 3, 1, 0, 0), (725, .iadd, 1, 0, 0), (726, .iaload, 1, 0, 0), (727, .invokevirtual 84, 3, 174, 3), (730, .if_icmp .eq 826, 3, 1556, 0), (733, .iconst 0, 1, 0, 0), (734, .ireturn, 1, 0, 0), (735, .aload_n 1, 1, 0, 0), (736, .aload_n 0, 1, 0, 0), (737, .iload_n 3, 1, 0, 0), (738, .iconst 1, 1, 0, 0), (739, .iadd, 1, 0, 0), (740, .iaload, 1, 0, 0), (741, .aload_n 0, 1, 0, 0), (742, .iload_n 3, 1, 0, 0), (743, .iconst 2, 1, 0, 0), (744, .iadd, 1, 0, 0), (745, .iaload, 1, 0, 0), (746, .aload_n 0, 1, 0, 0), (747, .iload_n 3, 1, 0, 0), (748, .iconst 3, 1, 0, 0), (749, .iadd, 1, 0, 0), (750, .iaload, 1, 0, 0), (751, .invokevirtual 85, 3, 75, 3), (754, .aload_n 2, 1, 0, 0), (755, .aload_n 0, 1, 0, 0), (756, .iload_n 3, 1, 0, 0), (757, .iconst 1, 1, 0, 0), (758, .iadd, 1, 0, 0), (759, .iaload, 1, 0, 0), (760, .aload_n 0, 1, 0, 0), (761, .iload_n 3, 1, 0, 0), (762, .iconst 2, 1, 0, 0), (763, .iadd, 1, 0, 0), (764, .iaload, 1, 0, 0), (765, .aload_n 0, 1, 0, 0), (766, .iload_n 3, 1, 0, 0), (767, .iconst 3, 1, 0, 0), (768, .iadd, 1, 0, 0), (769, .iaload, 1, 0, 0), (770, .invokevirtual 88, 3, 175, 3), (773, .if_icmp .eq 783, 3, 1556, 0), (776, .iconst 0, 1, 0, 0), (777, .ireturn, 1, 0, 0), (778, .aload_n 1, 1, 0, 0), (779, .aload_n 0, 1, 0, 0), (780, .iload_n 3, 1, 0, 0), (781, .iconst 1, 1, 0, 0), (782, .iadd, 1, 0, 0), (783, .iaload, 1, 0, 0), (784, .aload_n 0, 1, 0, 0), (785, .iload_n 3, 1, 0, 0), (786, .iconst 2, 1, 0, 0), (787, .iadd, 1, 0, 0), (788, .iaload, 1, 0, 0), (789, .invokevirtual 89, 3, 77, 2), (792, .aload_n 2, 1, 0, 0), (793, .aload_n 0, 1, 0, 0), (794, .iload_n 3, 1, 0, 0), (795, .iconst 1, 1, 0, 0), (796, .iadd, 1, 0, 0), (797, .iaload, 1, 0, 0), (798, .aload_n 0, 1, 0, 0), (799, .iload_n 3, 1, 0, 0), (800, .iconst 2, 1, 0, 0), (801, .iadd, 1, 0, 0), (802, .iaload, 1, 0, 0), (803, .invokevirtual 92, 3, 177, 2), (806, .if_icmp .eq 750, 3, 1556, 0), (809, .iconst 0, 1, 0, 0), (810, .ireturn, 1, 0, 0), (811, .aload_n 1, 1, 0, 0), (812, .aload_n 0, 1, 0, 0), (813, .iload_n 3, 1, 0, 0), (814, .iconst 1, 1, 0, 0), (815, .iadd, 1, 0, 0), (816, .iaload, 1, 0, 0), (817, .aload_n 0, 1, 0, 0), (818, .iload_n 3, 1, 0, 0), (819, .iconst 2, 1, 0, 0), (820, .iadd, 1, 0, 0), (821, .iaload, 1, 0, 0), (822, .aload_n 0, 1, 0, 0), (823, .iload_n 3, 1, 0, 0), (824, .iconst 3, 1, 0, 0), (825, .iadd, 1, 0, 0), (826, .iaload, 1, 0, 0), (827, .invokevirtual 93, 3, 79, 3), (830, .aload_n 2, 1, 0, 0), (831, .aload_n 0, 1, 0, 0), (832, .iload_n 3, 1, 0, 0), (833, .iconst 1, 1, 0, 0), (834, .iadd, 1, 0, 0), (835, .iaload, 1, 0, 0), (836, .aload_n 0, 1, 0, 0), (837, .iload_n 3, 1, 0, 0), (838, .iconst 2, 1, 0, 0), (839, .iadd, 1, 0, 0), (840, .iaload, 1, 0, 0), (841, .aload_n 0, 1, 0, 0), (842, .iload_n 3, 1, 0, 0), (843, .iconst 3, 1, 0, 0), (844, .iadd, 1, 0, 0), (845, .iaload, 1, 0, 0), (846, .invokevirtual 96, 3, 178, 3), (849, .if_icmp .eq 707, 3, 1556, 0), (852, .iconst 0, 1, 0, 0), (853, .ireturn, 1, 0, 0), (854, .aload_n 1, 1, 0, 0), (855, .aload_n 0, 1, 0, 0), (856, .iload_n 3, 1, 0, 0), (857, .iconst 1, 1, 0, 0), (858, .iadd, 1, 0, 0), (859, .iaload, 1, 0, 0), (860, .aload_n 0, 1, 0, 0), (861, .iload_n 3, 1, 0, 0), (862, .iconst 2, 1, 0, 0), (863, .iadd, 1, 0, 0), (864, .iaload, 1, 0, 0), (865, .invokevirtual 97, 3, 80, 2), (868, .aload_n 2, 1, 0, 0), (869, .aload_n 0, 1, 0, 0), (870, .iload_n 3, 1, 0, 0), (871, .iconst 1, 1, 0, 0), (872, .iadd, 1, 0, 0), (873, .iaload, 1, 0, 0), (874, .aload_n 0, 1, 0, 0), (875, .iload_n 3, 1, 0, 0), (876, .iconst 2, 1, 0, 0), (877, .iadd, 1, 0, 0), (878, .iaload, 1, 0, 0), (879, .invokevirtual 100, 3, 179, 2), (882, .if_icmp .eq 674, 3, 1556, 0), (885, .iconst 0, 1, 0, 0), (886, .ireturn, 1, 0, 0), (887, .aload_n 1, 1, 0, 0), (888, .aload_n 0, 1, 0, 0), (889, .iload_n 3, 1, 0, 0), (890, .iconst 1, 1, 0, 0), (891, .iadd, 1, 0, 0), (892, .iaload, 1, 0, 0), (893, .invokevirtual 101, 3, 81, 1), (896, .aload_n 2, 1, 0, 0), (897, .aload_n 0, 1, 0, 0), (898, .iload_n 3, 1, 0, 0), (899, .iconst 1, 1, 0, 0), (900, .iadd, 1, 0, 0), (901, .iaload, 1, 0, 0), (902, .invokevirtual 104, 3, 180, 1), (905, .if_icmp .eq 651, 3, 1556, 0), (908, .iconst 0, 1, 0, 0), (909, .ireturn, 1, 0, 0), (910, .aload_n 1, 1, 0, 0), (911, .aload_n 0, 1, 0, 0), (912, .iload_n 3, 1, 0, 0), (913, .iconst 1, 1, 0, 0), (914, .iadd, 1, 0, 0), (915, .iaload, 1, 0, 0), (916, .aload_n 0, 1, 0, 0), (917, .iload_n 3, 1, 0, 0), (918, .iconst 2, 1, 0, 0), (919, .iadd, 1, 0, 0), (920, .iaload, 1, 0, 0), (921, .aload_n 0, 1, 0, 0), (922, .iload_n 3, 1, 0, 0), (923, .iconst 3, 1, 0, 0), (924, .iadd, 1, 0, 0), (925, .iaload, 1, 0, 0), (926, .invokevirtual 105, 3, 83, 3), (929, .aload_n 2, 1, 0, 0), (930, .aload_n 0, 1, 0, 0), (931, .iload_n 3, 1, 0, 0), (932, .iconst 1, 1, 0, 0), (933, .iadd, 1, 0, 0), (934, .iaload, 1, 0, 0), (935, .aload_n 0, 1, 0, 0), (936, .iload_n 3, 1, 0, 0), (937, .iconst 2, 1, 0, 0), (938, .iadd, 1, 0, 0), (939, .iaload, 1, 0, 0), (940, .aload_n 0, 1, 0, 0), (941, .iload_n 3, 1, 0, 0), (942, .iconst 3, 1, 0, 0), (943, .iadd, 1, 0, 0), (944, .iaload, 1, 0, 0), (945, .invokevirtual 108, 3, 181, 3), (948, .if_icmp .eq 608, 3, 1556, 0), (951, .iconst 0, 1, 0, 0), (952, .ireturn, 1, 0, 0), (953, .aload_n 1, 1, 0, 0), (954, .invokevirtual 109, 3, 88, 0), (957, .aload_n 2, 1, 0, 0), (958, .invokevirtual 112, 3, 184, 0), (961, .if_icmp .eq 595, 3, 1556, 0), (964, .iconst 0, 1, 0, 0), (965, .ireturn, 1, 0, 0), (966, .aload_n 1, 1, 0, 0), (967, .aload_n 0, 1, 0, 0), (968, .iload_n 3, 1, 0, 0), (969, .iconst 1, 1, 0, 0), (970, .iadd, 1, 0, 0), (971, .iaload, 1, 0, 0), (972, .invokevirtual 113, 3, 89, 1), (975, .aload_n 2, 1, 0, 0), (976, .aload_n 0, 1, 0, 0), (977, .iload_n 3, 1, 0, 0), (978, .iconst 1, 1, 0, 0), (979, .iadd, 1, 0, 0), (980, .iaload, 1, 0, 0), (981, .invokevirtual 116, 3, 185, 1), (984, .if_icmp .eq 572, 3, 1556, 0), (987, .iconst 0, 1, 0, 0), (988, .ireturn, 1, 0, 0), (989, .aload_n 1, 1, 0, 0), (990, .aload_n 0, 1, 0, 0), (991, .iload_n 3, 1, 0, 0), (992, .iconst 1, 1, 0, 0), (993, .iadd, 1, 0, 0), (994, .iaload, 1, 0, 0), (995, .aload_n 0, 1, 0, 0), (996, .iload_n 3, 1, 0, 0), (997, .iconst 2, 1, 0, 0), (998, .iadd, 1, 0, 0), (999, .iaload, 1, 0, 0), (1000, .aload_n 0, 1, 0, 0), (1001, .iload_n 3, 1, 0, 0), (1002, .iconst 3, 1, 0, 0), (1003, .iadd, 1, 0, 0), (1004, .iaload, 1, 0, 0), (1005, .invokevirtual 117, 3, 90, 3), (1008, .aload_n 2, 1, 0, 0), (1009, .aload_n 0, 1, 0, 0), (1010, .iload_n 3, 1, 0, 0), (1011, .iconst 1, 1, 0, 0), (1012, .iadd, 1, 0, 0), (1013, .iaload, 1, 0, 0), (1014, .aload_n 0, 1, 0, 0), (1015, .iload_n 3, 1, 0, 0), (1016, .iconst 2, 1, 0, 0), (1017, .iadd, 1, 0, 0), (1018, .iaload, 1, 0, 0), (1019, .aload_n 0, 1, 0, 0), (1020, .iload_n 3, 1, 0, 0), (1021, .iconst 3, 1, 0, 0), (1022, .iadd, 1, 0, 0), (1023, .iaload, 1, 0, 0), (1024, .invokevirtual 120, 3, 186, 3), (1027, .if_icmp .eq 529, 3, 1556, 0), (1030, .iconst 0, 1, 0, 0), (1031, .ireturn, 1, 0, 0), (1032, .aload_n 1, 1, 0, 0), (1033, .aload_n 0, 1, 0, 0), (1034, .iload_n 3, 1, 0, 0), (1035, .iconst 1, 1, 0, 0), (1036, .iadd, 1, 0, 0), (1037, .iaload, 1, 0, 0), (1038, .invokevirtual 121, 3, 92, 1), (1041, .aload_n 2, 1, 0, 0), (1042, .aload_n 0, 1, 0, 0), (1043, .iload_n 3, 1, 0, 0), (1044, .iconst 1, 1, 0, 0), (1045, .iadd, 1, 0, 0), (1046, .iaload, 1, 0, 0), (1047, .invokevirtual 124, 3, 187, 1), (1050, .if_icmp .eq 506, 3, 1556, 0), (1053, .iconst 0, 1, 0, 0), (1054, .ireturn, 1, 0, 0), (1055, .aload_n 1, 1, 0, 0), (1056, .invokevirtual 125, 3, 93, 0), (1059, .aload_n 2, 1, 0, 0), (1060, .invokevirtual 128, 3, 188, 0), (1063, .if_icmp .eq 493, 3, 1556, 0), (1066, .iconst 0, 1, 0, 0), (1067, .ireturn, 1, 0, 0), (1068, .aload_n 1, 1, 0, 0), (1069, .aload_n 0, 1, 0, 0), (1070, .iload_n 3, 1, 0, 0), (1071, .iconst 1, 1, 0, 0), (1072, .iadd, 1, 0, 0), (1073, .iaload, 1, 0, 0), (1074, .aload_n 0, 1, 0, 0), (1075, .iload_n 3, 1, 0, 0), (1076, .iconst 2, 1, 0, 0), (1077, .iadd, 1, 0, 0), (1078, .iaload, 1, 0, 0), (1079, .invokevirtual 129, 3, 111, 2), (1082, .aload_n 2, 1, 0, 0), (1083, .aload_n 0, 1, 0, 0), (1084, .iload_n 3, 1, 0, 0), (1085, .iconst 1, 1, 0, 0), (1086, .iadd, 1, 0, 0), (1087, .iaload, 1, 0, 0), (1088, .aload_n 0, 1, 0, 0), (1089, .iload_n 3, 1, 0, 0), (1090, .iconst 2, 1, 0, 0), (1091, .iadd, 1, 0, 0), (1092, .iaload, 1, 0, 0), (1093, .invokevirtual 132, 3, 200, 2), (1096, .if_icmp .eq 460, 3, 1556, 0), (1099, .iconst 0, 1, 0, 0), (1100, .ireturn, 1, 0, 0), (1101, .aload_n 1, 1, 0, 0), (1102, .aload_n 0, 1, 0, 0), (1103, .iload_n 3, 1, 0, 0), (1104, .iconst 1, 1, 0, 0), (1105, .iadd, 1, 0, 0), (1106, .iaload, 1, 0, 0), (1107, .invokevirtual 133, 3, 112, 1), (1110, .aload_n 2, 1, 0, 0), (1111, .aload_n 0, 1, 0, 0), (1112, .iload_n 3, 1, 0, 0), (1113, .iconst 1, 1, 0, 0), (1114, .iadd, 1, 0, 0), (1115, .iaload, 1, 0, 0), (1116, .invokevirtual 136, 3, 201, 1), (1119, .if_icmp .eq 437, 3, 1556, 0), (1122, .iconst 0, 1, 0, 0), (1123, .ireturn, 1, 0, 0), (1124, .aload_n 1, 1, 0, 0), (1125, .aload_n 0, 1, 0, 0), (1126, .iload_n 3, 1, 0, 0), (1127, .iconst 1, 1, 0, 0), (1128, .iadd, 1, 0, 0), (1129, .iaload, 1, 0, 0), (1130, .aload_n 0, 1, 0, 0), (1131, .iload_n 3, 1, 0, 0), (1132, .iconst 2, 1, 0, 0), (1133, .iadd, 1, 0, 0), (1134, .iaload, 1, 0, 0), (1135, .aload_n 0, 1, 0, 0), (1136, .iload_n 3, 1, 0, 0), (1137, .iconst 3, 1, 0, 0), (1138, .iadd, 1, 0, 0), (1139, .iaload, 1, 0, 0), (1140, .invokevirtual 137, 3, 113, 3), (1143, .aload_n 2, 1, 0, 0), (1144, .aload_n 0, 1, 0, 0), (1145, .iload_n 3, 1, 0, 0), (1146, .iconst 1, 1, 0, 0), (1147, .iadd, 1, 0, 0), (1148, .iaload, 1, 0, 0), (1149, .aload_n 0, 1, 0, 0), (1150, .iload_n 3, 1, 0, 0), (1151, .iconst 2, 1, 0, 0), (1152, .iadd, 1, 0, 0), (1153, .iaload, 1, 0, 0), (1154, .aload_n 0, 1, 0, 0), (1155, .iload_n 3, 1, 0, 0), (1156, .iconst 3, 1, 0, 0), (1157, .iadd, 1, 0, 0), (1158, .iaload, 1, 0, 0), (1159, .invokevirtual 140, 3, 202, 3), (1162, .if_icmp .eq 394, 3, 1556, 0), (1165, .iconst 0, 1, 0, 0), (1166, .ireturn, 1, 0, 0), (1167, .aload_n 1, 1, 0, 0), (1168, .aload_n 0, 1, 0, 0), (1169, .iload_n 3, 1, 0, 0), (1170, .iconst 1, 1, 0, 0), (1171, .iadd, 1, 0, 0), (1172, .iaload, 1, 0, 0), (1173, .aload_n 0, 1, 0, 0), (1174, .iload_n 3, 1, 0, 0), (1175, .iconst 2, 1, 0, 0), (1176, .iadd, 1, 0, 0), (1177, .iaload, 1, 0, 0), (1178, .aload_n 0, 1, 0, 0), (1179, .iload_n 3, 1, 0, 0), (1180, .iconst 3, 1, 0, 0), (1181, .iadd, 1, 0, 0), (1182, .iaload, 1, 0, 0), (1183, .invokevirtual 141, 3, 115, 3), (1186, .aload_n 2, 1, 0, 0), (1187, .aload_n 0, 1, 0, 0), (1188, .iload_n 3, 1, 0, 0), (1189, .iconst 1, 1, 0, 0), (1190, .iadd, 1, 0, 0), (1191, .iaload, 1, 0, 0), (1192, .aload_n 0, 1, 0, 0), (1193, .iload_n 3, 1, 0, 0), (1194, .iconst 2, 1, 0, 0), (1195, .iadd, 1, 0, 0), (1196, .iaload, 1, 0, 0), (1197, .aload_n 0, 1, 0, 0), (1198, .iload_n 3, 1, 0, 0), (1199, .iconst 3, 1, 0, 0), (1200, .iadd, 1, 0, 0), (1201, .iaload, 1, 0, 0), (1202, .invokevirtual 144, 3, 203, 3), (1205, .if_icmp .eq 351, 3, 1556, 0), (1208, .iconst 0, 1, 0, 0), (1209, .ireturn, 1, 0, 0), (1210, .aload_n 1, 1, 0, 0), (1211, .aload_n 0, 1, 0, 0), (1212, .iload_n 3, 1, 0, 0), (1213, .iconst 1, 1, 0, 0), (1214, .iadd, 1, 0, 0), (1215, .iaload, 1, 0, 0), (1216, .invokevirtual 145, 3, 117, 1), (1219, .aload_n 2, 1, 0, 0), (1220, .aload_n 0, 1, 0, 0), (1221, .iload_n 3, 1, 0, 0), (1222, .iconst 1, 1, 0, 0), (1223, .iadd, 1, 0, 0), (1224, .iaload, 1, 0, 0), (1225, .invokevirtual 148, 3, 204, 1), (1228, .if_icmp .eq 328, 3, 1556, 0), (1231, .iconst 0, 1, 0, 0), (1232, .ireturn, 1, 0, 0), (1233, .aload_n 1, 1, 0, 0), (1234, .aload_n 0, 1, 0, 0), (1235, .iload_n 3, 1, 0, 0), (1236, .iconst 1, 1, 0, 0), (1237, .iadd, 1, 0, 0), (1238, .iaload, 1, 0, 0), (1239, .invokevirtual 149, 3, 118, 1), (1242, .aload_n 2, 1, 0, 0), (1243, .aload_n 0, 1, 0, 0), (1244, .iload_n 3, 1, 0, 0), (1245, .iconst 1, 1, 0, 0), (1246, .iadd, 1, 0, 0), (1247, .iaload, 1, 0, 0), (1248, .invokevirtual 152, 3, 205, 1), (1251, .if_icmp .eq 305, 3, 1556, 0), (1254, .iconst 0, 1, 0, 0), (1255, .ireturn, 1, 0, 0), (1256, .aload_n 1, 1, 0, 0), (1257, .aload_n 0, 1, 0, 0), (1258, .iload_n 3, 1, 0, 0), (1259, .iconst 1, 1, 0, 0), (1260, .iadd, 1, 0, 0), (1261, .iaload, 1, 0, 0), (1262, .aload_n 0, 1, 0, 0), (1263, .iload_n 3, 1, 0, 0), (1264, .iconst 2, 1, 0, 0), (1265, .iadd, 1, 0, 0), (1266, .iaload, 1, 0, 0), (1267, .aload_n 0, 1, 0, 0), (1268, .iload_n 3, 1, 0, 0), (1269, .iconst 3, 1, 0, 0), (1270, .iadd, 1, 0, 0), (1271, .iaload, 1, 0, 0), (1272, .aload_n 0, 1, 0, 0), (1273, .iload_n 3, 1, 0, 0), (1274, .iconst 4, 1, 0, 0), (1275, .iadd, 1, 0, 0), (1276, .iaload, 1, 0, 0), (1277, .aload_n 0, 1, 0, 0), (1278, .iload_n 3, 1, 0, 0), (1279, .iconst 5, 1, 0, 0), (1280, .iadd, 1, 0, 0), (1281, .iaload, 1, 0, 0), (1282, .invokevirtual 153, 3, 119, 5), (1285, .aload_n 2, 1, 0, 0), (1286, .aload_n 0, 1, 0, 0), (1287, .iload_n 3, 1, 0, 0), (1288, .iconst 1, 1, 0, 0), (1289, .iadd, 1, 0, 0), (1290, .iaload, 1, 0, 0), (1291, .aload_n 0, 1, 0, 0), (1292, .iload_n 3, 1, 0, 0), (1293, .iconst 2, 1, 0, 0), (1294, .iadd, 1, 0, 0), (1295, .iaload, 1, 0, 0), (1296, .aload_n 0, 1, 0, 0), (1297, .iload_n 3, 1, 0, 0), (1298, .iconst 3, 1, 0, 0), (1299, .iadd, 1, 0, 0), (1300, .iaload, 1, 0, 0), (1301, .aload_n 0, 1, 0, 0), (1302, .iload_n 3, 1, 0, 0), (1303, .iconst 4, 1, 0, 0), (1304, .iadd, 1, 0, 0), (1305, .iaload, 1, 0, 0), (1306, .aload_n 0, 1, 0, 0), (1307, .iload_n 3, 1, 0, 0), (1308, .iconst 5, 1, 0, 0), (1309, .iadd, 1, 0, 0), (1310, .iaload, 1, 0, 0), (1311, .invokevirtual 157, 3, 206, 5), (1314, .if_icmp .eq 242, 3, 1556, 0), (1317, .iconst 0, 1, 0, 0), (1318, .ireturn, 1, 0, 0), (1319, .aload_n 1, 1, 0, 0), (1320, .aload_n 0, 1, 0, 0), (1321, .iload_n 3, 1, 0, 0), (1322, .iconst 1, 1, 0, 0), (1323, .iadd, 1, 0, 0), (1324, .iaload, 1, 0, 0), (1325, .aload_n 0, 1, 0, 0), (1326, .iload_n 3, 1, 0, 0), (1327, .iconst 2, 1, 0, 0), (1328, .iadd, 1, 0, 0), (1329, .iaload, 1, 0, 0), (1330, .aload_n 0, 1, 0, 0), (1331, .iload_n 3, 1, 0, 0), (1332, .iconst 3, 1, 0, 0), (1333, .iadd, 1, 0, 0), (1334, .iaload, 1, 0, 0), (1335, .invokevirtual 158, 3, 120, 3), (1338, .aload_n 2, 1, 0, 0), (1339, .aload_n 0, 1, 0, 0), (1340, .iload_n 3, 1, 0, 0), (1341, .iconst 1, 1, 0, 0), (1342, .iadd, 1, 0, 0), (1343, .iaload, 1, 0, 0), (1344, .aload_n 0, 1, 0, 0), (1345, .iload_n 3, 1, 0, 0), (1346, .iconst 2, 1, 0, 0), (1347, .iadd, 1, 0, 0), (1348, .iaload, 1, 0, 0), (1349, .aload_n 0, 1, 0, 0), (1350, .iload_n 3, 1, 0, 0), (1351, .iconst 3, 1, 0, 0), (1352, .iadd, 1, 0, 0), (1353, .iaload, 1, 0, 0), (1354, .invokevirtual 161, 3, 207, 3), (1357, .if_icmp .eq 199, 3, 1556, 0), (1360, .iconst 0, 1, 0, 0), (1361, .ireturn, 1, 0, 0), (1362, .aload_n 1, 1, 0, 0), (1363, .aload_n 0, 1, 0, 0), (1364, .iload_n 3, 1, 0, 0), (1365, .iconst 1, 1, 0, 0), (1366, .iadd, 1, 0, 0), (1367, .iaload, 1, 0, 0), (1368, .aload_n 0, 1, 0, 0), (1369, .iload_n 3, 1, 0, 0), (1370, .iconst 2, 1, 0, 0), (1371, .iadd, 1, 0, 0), (1372, .iaload, 1, 0, 0), (1373, .invokevirtual 162, 3, 123, 2), (1376, .aload_n 2, 1, 0, 0), (1377, .aload_n 0, 1, 0, 0), (1378, .iload_n 3, 1, 0, 0), (1379, .iconst 1, 1, 0, 0), (1380, .iadd, 1, 0, 0), (1381, .iaload, 1, 0, 0), (1382, .aload_n 0, 1, 0, 0), (1383, .iload_n 3, 1, 0, 0), (1384, .iconst 2, 1, 0, 0), (1385, .iadd, 1, 0, 0), (1386, .iaload, 1, 0, 0), (1387, .invokevirtual 165, 3, 209, 2), (1390, .if_icmp .eq 166, 3, 1556, 0), (1393, .iconst 0, 1, 0, 0), (1394, .ireturn, 1, 0, 0), (1395, .aload_n 1, 1, 0, 0), (1396, .aload_n 0, 1, 0, 0), (1397, .iload_n 3, 1, 0, 0), (1398, .iconst 1, 1, 0, 0), (1399, .iadd, 1, 0, 0), (1400, .iaload, 1, 0, 0), (1401, .aload_n 0, 1, 0, 0), (1402, .iload_n 3, 1, 0, 0), (1403, .iconst 2, 1, 0, 0), (1404, .iadd, 1, 0, 0), (1405, .iaload, 1, 0, 0), (1406, .invokevirtual 166, 3, 124, 2), (1409, .aload_n 2, 1, 0, 0), (1410, .aload_n 0, 1, 0, 0), (1411, .iload_n 3, 1, 0, 0), (1412, .iconst 1, 1, 0, 0), (1413, .iadd, 1, 0, 0), (1414, .iaload, 1, 0, 0), (1415, .aload_n 0, 1, 0, 0), (1416, .iload_n 3, 1, 0, 0), (1417, .iconst 2, 1, 0, 0), (1418, .iadd, 1, 0, 0), (1419, .iaload, 1, 0, 0), (1420, .invokevirtual 169, 3, 210, 2), (1423, .if_icmp .eq 133, 3, 1556, 0), (1426, .iconst 0, 1, 0, 0), (1427, .ireturn, 1, 0, 0), (1428, .aload_n 1, 1, 0, 0), (1429, .aload_n 0, 1, 0, 0), (1430, .iload_n 3, 1, 0, 0), (1431, .iconst 1, 1, 0, 0), (1432, .iadd, 1, 0, 0), (1433, .iaload, 1, 0, 0), (1434, .aload_n 0, 1, 0, 0), (1435, .iload_n 3, 1, 0, 0), (1436, .iconst 2, 1, 0, 0), (1437, .iadd, 1, 0, 0), (1438, .iaload, 1, 0, 0), (1439, .invokevirtual 170, 3, 125, 2), (1442, .aload_n 2, 1, 0, 0), (1443, .aload_n 0, 1, 0, 0), (1444, .iload_n 3, 1, 0, 0), (1445, .iconst 1, 1, 0, 0), (1446, .iadd, 1, 0, 0), (1447, .iaload, 1, 0, 0), (1448, .aload_n 0, 1, 0, 0), (1449, .iload_n 3, 1, 0, 0), (1450, .iconst 2, 1, 0, 0), (1451, .iadd, 1, 0, 0), (1452, .iaload, 1, 0, 0), (1453, .invokevirtual 173, 3, 211, 2), (1456, .if_icmp .eq 100, 3, 1556, 0), (1459, .iconst 0, 1, 0, 0), (1460, .ireturn, 1, 0, 0), (1461, .aload_n 1, 1, 0, 0), (1462, .aload_n 0, 1, 0, 0), (1463, .iload_n 3, 1, 0, 0), (1464, .iconst 1, 1, 0, 0), (1465, .iadd, 1, 0, 0), (1466, .iaload, 1, 0, 0), (1467, .invokevirtual 174, 3, 126, 1), (1470, .aload_n 2, 1, 0, 0), (1471, .aload_n 0, 1, 0, 0), (1472, .iload_n 3, 1, 0, 0), (1473, .iconst 1, 1, 0, 0), (1474, .iadd, 1, 0, 0), (1475, .iaload, 1, 0, 0), (1476, .invokevirtual 177, 3, 212, 1), (1479, .if_icmp .eq 77, 3, 1556, 0), (1482, .iconst 0, 1, 0, 0), (1483, .ireturn, 1, 0, 0), (1484, .aload_n 1, 1, 0, 0), (1485, .aload_n 0, 1, 0, 0), (1486, .iload_n 3, 1, 0, 0), (1487, .iconst 1, 1, 0, 0), (1488, .iadd, 1, 0, 0), (1489, .iaload, 1, 0, 0), (1490, .invokevirtual 178, 3, 127, 1), (1493, .aload_n 2, 1, 0, 0), (1494, .aload_n 0, 1, 0, 0), (1495, .iload_n 3, 1, 0, 0), (1496, .iconst 1, 1, 0, 0), (1497, .iadd, 1, 0, 0), (1498, .iaload, 1, 0, 0), (1499, .invokevirtual 181, 3, 213, 1), (1502, .if_icmp .eq 54, 3, 1556, 0), (1505, .iconst 0, 1, 0, 0), (1506, .ireturn, 1, 0, 0), (1507, .aload_n 1, 1, 0, 0), (1508, .invokevirtual 182, 3, 128, 0), (1511, .aload_n 2, 1, 0, 0), (1512, .invokevirtual 185, 3, 215, 0), (1515, .if_icmp .eq 41, 3, 1556, 0), (1518, .iconst 0, 1, 0, 0), (1519, .ireturn, 1, 0, 0), (1520, .aload_n 1, 1, 0, 0), (1521, .invokevirtual 186, 3, 129, 0), (1524, .aload_n 2, 1, 0, 0), (1525, .invokevirtual 189, 3, 216, 0), (1528, .if_icmp .eq 28, 3, 1556, 0), (1531, .iconst 0, 1, 0, 0), (1532, .ireturn, 1, 0, 0), (1533, .aload_n 1, 1, 0, 0), (1534, .aload_n 0, 1, 0, 0), (1535, .iload_n 3, 1, 0, 0), (1536, .iconst 1, 1, 0, 0), (1537, .iadd, 1, 0, 0), (1538, .iaload, 1, 0, 0), (1539, .invokevirtual 190, 3, 130, 1), (1542, .aload_n 2, 1, 0, 0), (1543, .aload_n 0, 1, 0, 0), (1544, .iload_n 3, 1, 0, 0), (1545, .iconst 1, 1, 0, 0), (1546, .iadd, 1, 0, 0), (1547, .iaload, 1, 0, 0), (1548, .invokevirtual 193, 3, 217, 1), (1551, .if_icmp .eq 5, 3, 1556, 0), (1554, .iconst 0, 1, 0, 0), (1555, .ireturn, 1, 0, 0), (1556, .iinc 3 6, 3, 0, 0), (1559, .goto (-1541), 3, 18, 0), (1562, .iconst 1, 1, 0, 0), (1563, .ireturn, 1, 0, 0)]
def mj_progs : List (List (Nat × mj_I)) := [mj_p0, mj_p1, mj_p2, mj_p3, mj_p4, mj_p5, mj_p6, mj_p7, mj_p8, mj_p9, mj_p10, mj_p11, mj_p12, mj_p13, mj_p14, mj_p15, mj_p16, mj_p17, mj_p18, mj_p19, mj_p20, mj_p21, mj_p22, mj_p23, mj_p24, mj_p25, mj_p26, mj_p27, mj_p28, mj_p29, mj_p30, mj_p31, mj_p32, mj_p33, mj_p34, mj_p35, mj_p36, mj_p37, mj_p38, mj_p39, mj_p40, mj_p41, mj_p42, mj_p43, mj_p44, mj_p45, mj_p46, mj_p47, mj_p48, mj_p49, mj_p50, mj_p51, mj_p52, mj_p53, mj_p54, mj_p55, mj_p56, mj_p57, mj_p58, mj_p59, mj_p60, mj_p61, mj_p62, mj_p63, mj_p64, mj_p65, mj_p66, mj_p67, mj_p68, mj_p69, mj_p70, mj_p71, mj_p72, mj_p73, mj_p74, mj_p75, mj_p76, mj_p77, mj_p78, mj_p79, mj_p80, mj_p81, mj_p82, mj_p83, mj_p84, mj_p85, mj_p86, mj_p87, mj_p88, mj_p89, mj_p90, mj_p91, mj_p92, mj_p93, mj_p94, mj_p95, mj_p96, mj_p97, mj_p98, mj_p99, mj_p100, mj_p101, mj_p102, mj_p103, mj_p104, mj_p105, mj_p106, mj_p107, mj_p108, mj_p109, mj_p110, mj_p111, mj_p112, mj_p113, mj_p114, mj_p115, mj_p116, mj_p117, mj_p118, mj_p119, mj_p120, mj_p121, mj_p122, mj_p123, mj_p124, mj_p125, mj_p126, mj_p127, mj_p128, mj_p129, mj_p130, mj_p131, mj_p132, mj_p133, mj_p134, mj_p135, mj_p136, mj_p137, mj_p138, mj_p139, mj_p140, mj_p141, mj_p142, mj_p143, mj_p144, mj_p145, mj_p146, mj_p147, mj_p148, mj_p149, mj_p150, mj_p151, mj_p152, mj_p153, mj_p154, mj_p155, mj_p156, mj_p157, mj_p158, mj_p159, mj_p160, mj_p161, mj_p162, mj_p163, mj_p164, mj_p165, mj_p166, mj_p167, mj_p168, mj_p169, mj_p170, mj_p171, mj_p172, mj_p173, mj_p174, mj_p175, mj_p176, mj_p177, mj_p178, mj_p179, mj_p180, mj_p181, mj_p182, mj_p183, mj_p184, mj_p185, mj_p186, mj_p187, mj_p188, mj_p189, mj_p190, mj_p191, mj_p192, mj_p193, mj_p194, mj_p195, mj_p196, mj_p197, mj_p198, mj_p199, mj_p200, mj_p201, mj_p202, mj_p203, mj_p204, mj_p205, mj_p206, mj_p207, mj_p208, mj_p209, mj_p210, mj_p211, mj_p212, mj_p213, mj_p214, mj_p215, mj_p216, mj_p217, mj_p218, mj_p219]
def mj_mt : List (MethodName × ByteArray × Nat × Option FieldType × Nat) := [(⟨"GhostTrain", "<init>", "()V"⟩, prog_1_method_1_code, 2, none, 11),
  (⟨"GhostTrain$CarKind", "<init>", "()V"⟩, prog_3_method_1_code, 1, none, 1),
  (⟨"GhostTrain$HeavyKind", "<init>", "()V"⟩, prog_5_method_1_code, 1, none, 3),
  (⟨"GhostTrain$LightKind", "<init>", "()V"⟩, prog_7_method_1_code, 1, none, 5),
  (⟨"GhostTrain$IronKind", "<init>", "()V"⟩, prog_6_method_1_code, 1, none, 4),
  (⟨"GhostTrain$BridalKind", "<init>", "()V"⟩, prog_2_method_1_code, 1, none, 0),
  (⟨"GhostTrain$GhostKind", "<init>", "()V"⟩, prog_4_method_1_code, 1, none, 2),
  (⟨"GhostTrain$Tape", "<init>", "()V"⟩, prog_11_method_1_code, 1, none, 9),
  (⟨"GhostTrain$Ring", "<init>", "([LGhostTrain$CarKind;[LGhostTrain$Text;)V"⟩, prog_8_method_1_code, 3, none, 6),
  (⟨"GhostTrain$Text", "<init>", "()V"⟩, prog_12_method_1_code, 1, none, 10),
  (⟨"GhostTrain$Sheet", "<init>", "()V"⟩, prog_9_method_1_code, 1, none, 7),
  (⟨"GhostTrain$Slot", "<init>", "()V"⟩, prog_10_method_1_code, 1, none, 8),
  (⟨"GhostTrain", "car", "(III)I"⟩, prog_1_method_2_code, 4, (some FieldType.int), 11),
  (⟨"GhostTrain", "isKind", "(I)Z"⟩, prog_1_method_51_code, 1, (some FieldType.boolean), 11),
  (⟨"GhostTrain", "isFoot", "(I)Z"⟩, prog_1_method_54_code, 1, (some FieldType.boolean), 11),
  (⟨"GhostTrain", "isWeight", "(I)Z"⟩, prog_1_method_55_code, 1, (some FieldType.boolean), 11),
  (⟨"GhostTrain", "isWithin", "(III)Z"⟩, prog_1_method_57_code, 3, (some FieldType.boolean), 11),
  (⟨"GhostTrain$Ring", "addCar", "(III)I"⟩, prog_8_method_3_code, 6, (some FieldType.int), 6),
  (⟨"GhostTrain", "told", "(II)I"⟩, prog_1_method_3_code, 3, (some FieldType.int), 11),
  (⟨"GhostTrain", "isCar", "(I)Z"⟩, prog_1_method_49_code, 2, (some FieldType.boolean), 11),
  (⟨"GhostTrain$Ring", "partOf", "(I)I"⟩, prog_8_method_11_code, 2, (some FieldType.int), 6),
  (⟨"GhostTrain$Ring", "paceIn", "(II)I"⟩, prog_8_method_12_code, 8, (some FieldType.int), 6),
  (⟨"GhostTrain$Text", "gives", "(III)I"⟩, prog_12_method_7_code, 7, (some FieldType.int), 10),
  (⟨"GhostTrain$Text", "joined", "(III)I"⟩, prog_12_method_8_code, 3, (some FieldType.int), 10),
  (⟨"GhostTrain$Ring", "kindOf", "(I)LGhostTrain$CarKind;"⟩, prog_8_method_10_code, 2, (some (FieldType.object "GhostTrain$CarKind")), 6),
  (⟨"GhostTrain", "held", "(III)I"⟩, prog_1_method_58_code, 3, (some FieldType.int), 11),
  (⟨"GhostTrain$BridalKind", "gains", "(III)I"⟩, prog_2_method_3_code, 4, (some FieldType.int), 0),
  (⟨"GhostTrain$LightKind", "gains", "(III)I"⟩, prog_7_method_3_code, 4, (some FieldType.int), 5),
  (⟨"GhostTrain$GhostKind", "gains", "(III)I"⟩, prog_4_method_3_code, 4, (some FieldType.int), 2),
  (⟨"GhostTrain$HeavyKind", "gains", "(III)I"⟩, prog_5_method_3_code, 4, (some FieldType.int), 3),
  (⟨"GhostTrain$IronKind", "gains", "(III)I"⟩, prog_6_method_3_code, 5, (some FieldType.int), 4),
  (⟨"GhostTrain$CarKind", "gains", "(III)I"⟩, prog_3_method_3_code, 4, (some FieldType.int), 1),
  (⟨"GhostTrain$Ring", "roomOf", "(I)I"⟩, prog_8_method_13_code, 5, (some FieldType.int), 6),
  (⟨"GhostTrain$BridalKind", "loudness", "()I"⟩, prog_2_method_4_code, 1, (some FieldType.int), 0),
  (⟨"GhostTrain$LightKind", "loudness", "()I"⟩, prog_7_method_4_code, 1, (some FieldType.int), 5),
  (⟨"GhostTrain$GhostKind", "loudness", "()I"⟩, prog_4_method_4_code, 1, (some FieldType.int), 2),
  (⟨"GhostTrain$HeavyKind", "loudness", "()I"⟩, prog_5_method_4_code, 1, (some FieldType.int), 3),
  (⟨"GhostTrain$CarKind", "loudness", "()I"⟩, prog_3_method_4_code, 1, (some FieldType.int), 1),
  (⟨"GhostTrain$BridalKind", "worthOf", "(I)I"⟩, prog_2_method_5_code, 2, (some FieldType.int), 0),
  (⟨"GhostTrain$LightKind", "worthOf", "(I)I"⟩, prog_7_method_5_code, 2, (some FieldType.int), 5),
  (⟨"GhostTrain$GhostKind", "worthOf", "(I)I"⟩, prog_4_method_5_code, 2, (some FieldType.int), 2),
  (⟨"GhostTrain$HeavyKind", "worthOf", "(I)I"⟩, prog_5_method_5_code, 2, (some FieldType.int), 3),
  (⟨"GhostTrain$IronKind", "worthOf", "(I)I"⟩, prog_6_method_4_code, 2, (some FieldType.int), 4),
  (⟨"GhostTrain$CarKind", "worthOf", "(I)I"⟩, prog_3_method_5_code, 2, (some FieldType.int), 1),
  (⟨"GhostTrain", "pace", "(II)I"⟩, prog_1_method_4_code, 3, (some FieldType.int), 11),
  (⟨"GhostTrain", "isPart", "(I)Z"⟩, prog_1_method_50_code, 1, (some FieldType.boolean), 11),
  (⟨"GhostTrain", "as", "(II)I"⟩, prog_1_method_5_code, 3, (some FieldType.int), 11),
  (⟨"GhostTrain$BridalKind", "isUnder", "(I)Z"⟩, prog_2_method_2_code, 2, (some FieldType.boolean), 0),
  (⟨"GhostTrain$LightKind", "isUnder", "(I)Z"⟩, prog_7_method_2_code, 2, (some FieldType.boolean), 5),
  (⟨"GhostTrain$GhostKind", "isUnder", "(I)Z"⟩, prog_4_method_2_code, 2, (some FieldType.boolean), 2),
  (⟨"GhostTrain$HeavyKind", "isUnder", "(I)Z"⟩, prog_5_method_2_code, 2, (some FieldType.boolean), 3),
  (⟨"GhostTrain$IronKind", "isUnder", "(I)Z"⟩, prog_6_method_2_code, 2, (some FieldType.boolean), 4),
  (⟨"GhostTrain$CarKind", "isUnder", "(I)Z"⟩, prog_3_method_2_code, 2, (some FieldType.boolean), 1),
  (⟨"GhostTrain", "turns", "(II)I"⟩, prog_1_method_6_code, 4, (some FieldType.int), 11),
  (⟨"GhostTrain", "set", "(III)I"⟩, prog_1_method_7_code, 6, (some FieldType.int), 11),
  (⟨"GhostTrain", "part", "(II)I"⟩, prog_1_method_8_code, 3, (some FieldType.int), 11),
  (⟨"GhostTrain", "lays", "(III)I"⟩, prog_1_method_9_code, 6, (some FieldType.int), 11),
  (⟨"GhostTrain", "gap", "(I)I"⟩, prog_1_method_10_code, 3, (some FieldType.int), 11),
  (⟨"GhostTrain", "deal", "(I)I"⟩, prog_1_method_11_code, 7, (some FieldType.int), 11),
  (⟨"GhostTrain$Ring", "draw", "()I"⟩, prog_8_method_6_code, 1, (some FieldType.int), 6),
  (⟨"GhostTrain", "seed", "(I)I"⟩, prog_1_method_12_code, 3, (some FieldType.int), 11),
  (⟨"GhostTrain", "seconds", "(I)I"⟩, prog_1_method_13_code, 3, (some FieldType.int), 11),
  (⟨"GhostTrain$Ring", "totalOf", "(I)I"⟩, prog_8_method_15_code, 4, (some FieldType.int), 6),
  (⟨"GhostTrain$Ring", "passSeconds", "(I)V"⟩, prog_8_method_7_code, 4, none, 6),
  (⟨"GhostTrain$Ring", "goOn", "(I)V"⟩, prog_8_method_8_code, 5, none, 6),
  (⟨"GhostTrain$Ring", "enter", "(II)V"⟩, prog_8_method_9_code, 3, none, 6),
  (⟨"GhostTrain", "ride", "(I)I"⟩, prog_1_method_14_code, 2, (some FieldType.int), 11),
  (⟨"GhostTrain$Ring", "near", "()I"⟩, prog_8_method_14_code, 3, (some FieldType.int), 6),
  (⟨"GhostTrain", "lamps", "()I"⟩, prog_1_method_15_code, 3, (some FieldType.int), 11),
  (⟨"GhostTrain", "behind", "(II)I"⟩, prog_1_method_16_code, 5, (some FieldType.int), 11),
  (⟨"GhostTrain$Ring", "become", "(LGhostTrain$Ring;)V"⟩, prog_8_method_2_code, 3, none, 6),
  (⟨"GhostTrain", "stands", "()I"⟩, prog_1_method_17_code, 3, (some FieldType.int), 11),
  (⟨"GhostTrain", "brake", "(III)I"⟩, prog_1_method_18_code, 8, (some FieldType.int), 11),
  (⟨"GhostTrain", "isFar", "(I)Z"⟩, prog_1_method_56_code, 1, (some FieldType.boolean), 11),
  (⟨"GhostTrain", "thoughtScreams", "(I)I"⟩, prog_1_method_46_code, 2, (some FieldType.int), 11),
  (⟨"GhostTrain", "moved", "(III)I"⟩, prog_1_method_19_code, 5, (some FieldType.int), 11),
  (⟨"GhostTrain$Ring", "changeScares", "(II)V"⟩, prog_8_method_5_code, 5, none, 6),
  (⟨"GhostTrain", "off", "(II)I"⟩, prog_1_method_20_code, 7, (some FieldType.int), 11),
  (⟨"GhostTrain$Ring", "dropCar", "(I)V"⟩, prog_8_method_4_code, 3, none, 6),
  (⟨"GhostTrain", "kind", "(III)I"⟩, prog_1_method_21_code, 8, (some FieldType.int), 11),
  (⟨"GhostTrain", "kiss", "(II)I"⟩, prog_1_method_22_code, 4, (some FieldType.int), 11),
  (⟨"GhostTrain", "gaps", "(I)I"⟩, prog_1_method_23_code, 3, (some FieldType.int), 11),
  (⟨"GhostTrain", "nobodyStands", "(II)Z"⟩, prog_1_method_47_code, 5, (some FieldType.boolean), 11),
  (⟨"GhostTrain", "weighed", "(III)I"⟩, prog_1_method_24_code, 8, (some FieldType.int), 11),
  (⟨"GhostTrain", "isSheet", "(I)Z"⟩, prog_1_method_52_code, 1, (some FieldType.boolean), 11),
  (⟨"GhostTrain$Sheet", "isMissing", "()Z"⟩, prog_9_method_2_code, 1, (some FieldType.boolean), 7),
  (⟨"GhostTrain", "differencesWith", "(IILGhostTrain$Sheet;)I"⟩, prog_1_method_48_code, 6, (some FieldType.int), 11),
  (⟨"GhostTrain$Sheet", "isNumber", "(I)Z"⟩, prog_9_method_4_code, 2, (some FieldType.boolean), 7),
  (⟨"GhostTrain", "fee", "()I"⟩, prog_1_method_25_code, 3, (some FieldType.int), 11),
  (⟨"GhostTrain", "fine", "(I)I"⟩, prog_1_method_26_code, 4, (some FieldType.int), 11),
  (⟨"GhostTrain", "feed", "(III)I"⟩, prog_1_method_27_code, 4, (some FieldType.int), 11),
  (⟨"GhostTrain$Tape", "addFour", "(I)V"⟩, prog_11_method_2_code, 3, none, 9),
  (⟨"GhostTrain", "trim", "(I)I"⟩, prog_1_method_28_code, 2, (some FieldType.int), 11),
  (⟨"GhostTrain", "text", "()I"⟩, prog_1_method_29_code, 3, (some FieldType.int), 11),
  (⟨"GhostTrain$Tape", "readInto", "(LGhostTrain$Text;)Z"⟩, prog_11_method_3_code, 3, (some FieldType.boolean), 9),
  (⟨"GhostTrain$Tape", "advance", "()V"⟩, prog_11_method_7_code, 4, none, 9),
  (⟨"GhostTrain$Tape", "sortOf", "(I)I"⟩, prog_11_method_8_code, 1, (some FieldType.int), 9),
  (⟨"GhostTrain$Tape", "keyHere", "()I"⟩, prog_11_method_11_code, 1, (some FieldType.int), 9),
  (⟨"GhostTrain$Tape", "isWordHere", "(Ljava/lang/String;)Z"⟩, prog_11_method_12_code, 3, (some FieldType.boolean), 9),
  (⟨"GhostTrain$Text", "begin", "(I)V"⟩, prog_12_method_2_code, 2, none, 10),
  (⟨"GhostTrain$Tape", "readLevel", "(LGhostTrain$Text;III)Z"⟩, prog_11_method_4_code, 8, (some FieldType.boolean), 9),
  (⟨"GhostTrain$Tape", "readPiece", "(LGhostTrain$Text;II)Z"⟩, prog_11_method_5_code, 4, (some FieldType.boolean), 9),
  (⟨"GhostTrain$Tape", "isOneOf", "(Ljava/lang/String;)Z"⟩, prog_11_method_10_code, 2, (some FieldType.boolean), 9),
  (⟨"GhostTrain$Text", "addSign", "(I)V"⟩, prog_12_method_5_code, 2, none, 10),
  (⟨"GhostTrain$Text", "add", "(I)V"⟩, prog_12_method_6_code, 2, none, 10),
  (⟨"GhostTrain$Tape", "readOperand", "(LGhostTrain$Text;)Z"⟩, prog_11_method_6_code, 3, (some FieldType.boolean), 9),
  (⟨"GhostTrain$Tape", "nameHere", "(I)I"⟩, prog_11_method_13_code, 3, (some FieldType.int), 9),
  (⟨"GhostTrain$Tape", "numberHere", "()I"⟩, prog_11_method_14_code, 3, (some FieldType.int), 9),
  (⟨"GhostTrain$Text", "addNumber", "(I)V"⟩, prog_12_method_3_code, 2, none, 10),
  (⟨"GhostTrain$Text", "addName", "(I)V"⟩, prog_12_method_4_code, 2, none, 10),
  (⟨"GhostTrain$Tape", "operatorsOf", "(I)Ljava/lang/String;"⟩, prog_11_method_9_code, 1, (some (FieldType.object "java/lang/String")), 9),
  (⟨"GhostTrain", "textTold", "(II)I"⟩, prog_1_method_30_code, 3, (some FieldType.int), 11),
  (⟨"GhostTrain", "why", "(I)I"⟩, prog_1_method_31_code, 2, (some FieldType.int), 11),
  (⟨"GhostTrain", "sheet", "(III)I"⟩, prog_1_method_32_code, 5, (some FieldType.int), 11),
  (⟨"GhostTrain$Sheet", "renew", "(II)V"⟩, prog_9_method_5_code, 4, none, 7),
  (⟨"GhostTrain", "mark", "(III)I"⟩, prog_1_method_33_code, 5, (some FieldType.int), 11),
  (⟨"GhostTrain$Sheet", "has", "(II)Z"⟩, prog_9_method_3_code, 3, (some FieldType.boolean), 7),
  (⟨"GhostTrain", "pour", "(I)I"⟩, prog_1_method_34_code, 6, (some FieldType.int), 11),
  (⟨"GhostTrain", "reads", "(I)I"⟩, prog_1_method_35_code, 5, (some FieldType.int), 11),
  (⟨"GhostTrain", "copy", "(IIIII)I"⟩, prog_1_method_36_code, 8, (some FieldType.int), 11),
  (⟨"GhostTrain", "lay", "(III)I"⟩, prog_1_method_37_code, 7, (some FieldType.int), 11),
  (⟨"GhostTrain", "isSlot", "(I)Z"⟩, prog_1_method_53_code, 1, (some FieldType.boolean), 11),
  (⟨"GhostTrain$Sheet", "become", "(LGhostTrain$Sheet;)V"⟩, prog_9_method_6_code, 2, none, 7),
  (⟨"GhostTrain", "ask", "(II)I"⟩, prog_1_method_38_code, 4, (some FieldType.int), 11),
  (⟨"GhostTrain", "item", "(II)I"⟩, prog_1_method_39_code, 4, (some FieldType.int), 11),
  (⟨"GhostTrain", "rest", "(II)I"⟩, prog_1_method_40_code, 4, (some FieldType.int), 11),
  (⟨"GhostTrain", "tell", "(I)I"⟩, prog_1_method_41_code, 2, (some FieldType.int), 11),
  (⟨"GhostTrain", "check", "(I)I"⟩, prog_1_method_42_code, 6, (some FieldType.int), 11),
  (⟨"GhostTrain", "keep", "()I"⟩, prog_1_method_43_code, 1, (some FieldType.int), 11),
  (⟨"GhostTrain", "back", "()I"⟩, prog_1_method_44_code, 1, (some FieldType.int), 11),
  (⟨"GhostTrain", "count", "(I)I"⟩, prog_1_method_45_code, 2, (some FieldType.int), 11),
  (⟨"GhostTrain$Ring", "scareCount", "()I"⟩, prog_8_method_16_code, 3, (some FieldType.int), 6),
  (⟨"GhostTrainModel", "<init>", "()V"⟩, prog_14_method_1_code, 1, none, 12),
  (⟨"GhostTrainModel", "car", "(III)I"⟩, prog_14_method_11_code, 4, (some FieldType.int), 12),
  (⟨"GhostTrainModel", "in", "(III)Z"⟩, prog_14_method_2_code, 3, (some FieldType.boolean), 12),
  (⟨"GhostTrainModel", "comes", "(III)I"⟩, prog_14_method_10_code, 7, (some FieldType.int), 12),
  (⟨"GhostTrainModel", "pace", "(II)I"⟩, prog_14_method_13_code, 3, (some FieldType.int), 12),
  (⟨"GhostTrainModel", "isCar", "(I)Z"⟩, prog_14_method_5_code, 2, (some FieldType.boolean), 12),
  (⟨"GhostTrainModel", "isPart", "(I)Z"⟩, prog_14_method_6_code, 1, (some FieldType.boolean), 12),
  (⟨"GhostTrainModel", "paceIn", "(II)I"⟩, prog_14_method_12_code, 9, (some FieldType.int), 12),
  (⟨"GhostTrainModel", "counts", "(I)I"⟩, prog_14_method_67_code, 3, (some FieldType.int), 12),
  (⟨"GhostTrainModel", "of", "(II)I"⟩, prog_14_method_7_code, 3, (some FieldType.int), 12),
  (⟨"GhostTrainModel", "worksOut", "(I)I"⟩, prog_14_method_70_code, 6, (some FieldType.int), 12),
  (⟨"GhostTrainModel", "two", "(III)I"⟩, prog_14_method_69_code, 3, (some FieldType.int), 12),
  (⟨"GhostTrainModel", "within", "(III)I"⟩, prog_14_method_3_code, 3, (some FieldType.int), 12),
  (⟨"GhostTrainModel", "told", "(II)I"⟩, prog_14_method_17_code, 3, (some FieldType.int), 12),
  (⟨"GhostTrainModel", "roomOf", "(I)I"⟩, prog_14_method_16_code, 5, (some FieldType.int), 12),
  (⟨"GhostTrainModel", "loudOf", "(I)I"⟩, prog_14_method_14_code, 2, (some FieldType.int), 12),
  (⟨"GhostTrainModel", "worthOf", "(I)I"⟩, prog_14_method_15_code, 3, (some FieldType.int), 12),
  (⟨"GhostTrainModel", "as", "(II)I"⟩, prog_14_method_19_code, 3, (some FieldType.int), 12),
  (⟨"GhostTrainModel", "isUnder", "(II)Z"⟩, prog_14_method_18_code, 2, (some FieldType.boolean), 12),
  (⟨"GhostTrainModel", "turns", "(II)I"⟩, prog_14_method_20_code, 3, (some FieldType.int), 12),
  (⟨"GhostTrainModel", "becomes", "(II)I"⟩, prog_14_method_9_code, 4, (some FieldType.int), 12),
  (⟨"GhostTrainModel", "set", "(III)I"⟩, prog_14_method_21_code, 4, (some FieldType.int), 12),
  (⟨"GhostTrainModel", "part", "(II)I"⟩, prog_14_method_22_code, 3, (some FieldType.int), 12),
  (⟨"GhostTrainModel", "lays", "(III)I"⟩, prog_14_method_23_code, 4, (some FieldType.int), 12),
  (⟨"GhostTrainModel", "gap", "(I)I"⟩, prog_14_method_24_code, 2, (some FieldType.int), 12),
  (⟨"GhostTrainModel", "deal", "(I)I"⟩, prog_14_method_26_code, 6, (some FieldType.int), 12),
  (⟨"GhostTrainModel", "draw", "()I"⟩, prog_14_method_25_code, 1, (some FieldType.int), 12),
  (⟨"GhostTrainModel", "seed", "(I)I"⟩, prog_14_method_27_code, 2, (some FieldType.int), 12),
  (⟨"GhostTrainModel", "seconds", "(I)I"⟩, prog_14_method_33_code, 3, (some FieldType.int), 12),
  (⟨"GhostTrainModel", "sumOf", "(I)I"⟩, prog_14_method_32_code, 4, (some FieldType.int), 12),
  (⟨"GhostTrainModel", "goesOn", "(I)V"⟩, prog_14_method_31_code, 3, none, 12),
  (⟨"GhostTrainModel", "second", "()V"⟩, prog_14_method_30_code, 2, none, 12),
  (⟨"GhostTrainModel", "goes", "(I)V"⟩, prog_14_method_29_code, 5, none, 12),
  (⟨"GhostTrainModel", "adds", "(III)V"⟩, prog_14_method_8_code, 4, none, 12),
  (⟨"GhostTrainModel", "enters", "(II)V"⟩, prog_14_method_28_code, 3, none, 12),
  (⟨"GhostTrainModel", "ride", "(I)I"⟩, prog_14_method_35_code, 2, (some FieldType.int), 12),
  (⟨"GhostTrainModel", "near", "()I"⟩, prog_14_method_34_code, 3, (some FieldType.int), 12),
  (⟨"GhostTrainModel", "lamps", "()I"⟩, prog_14_method_36_code, 3, (some FieldType.int), 12),
  (⟨"GhostTrainModel", "behind", "(II)I"⟩, prog_14_method_39_code, 4, (some FieldType.int), 12),
  (⟨"GhostTrainModel", "thinks", "()V"⟩, prog_14_method_37_code, 2, none, 12),
  (⟨"GhostTrainModel", "putsBack", "()V"⟩, prog_14_method_38_code, 2, none, 12),
  (⟨"GhostTrainModel", "stands", "()I"⟩, prog_14_method_40_code, 3, (some FieldType.int), 12),
  (⟨"GhostTrainModel", "brake", "(III)I"⟩, prog_14_method_42_code, 8, (some FieldType.int), 12),
  (⟨"GhostTrainModel", "moved", "(III)I"⟩, prog_14_method_43_code, 6, (some FieldType.int), 12),
  (⟨"GhostTrainModel", "screamsBehind", "(I)I"⟩, prog_14_method_41_code, 3, (some FieldType.int), 12),
  (⟨"GhostTrainModel", "off", "(II)I"⟩, prog_14_method_44_code, 7, (some FieldType.int), 12),
  (⟨"GhostTrainModel", "kind", "(III)I"⟩, prog_14_method_45_code, 8, (some FieldType.int), 12),
  (⟨"GhostTrainModel", "kiss", "(II)I"⟩, prog_14_method_46_code, 4, (some FieldType.int), 12),
  (⟨"GhostTrainModel", "gaps", "(I)I"⟩, prog_14_method_47_code, 5, (some FieldType.int), 12),
  (⟨"GhostTrainModel", "weighed", "(III)I"⟩, prog_14_method_49_code, 10, (some FieldType.int), 12),
  (⟨"GhostTrainModel", "isSheet", "(I)Z"⟩, prog_14_method_71_code, 1, (some FieldType.boolean), 12),
  (⟨"GhostTrainModel", "offBy", "(III)J"⟩, prog_14_method_48_code, 10, (some FieldType.long), 12),
  (⟨"GhostTrainModel", "fee", "()I"⟩, prog_14_method_50_code, 2, (some FieldType.int), 12),
  (⟨"GhostTrainModel", "fine", "(I)I"⟩, prog_14_method_51_code, 3, (some FieldType.int), 12),
  (⟨"GhostTrainModel", "feed", "(III)I"⟩, prog_14_method_52_code, 6, (some FieldType.int), 12),
  (⟨"GhostTrainModel", "trim", "(I)I"⟩, prog_14_method_53_code, 2, (some FieldType.int), 12),
  (⟨"GhostTrainModel", "text", "()I"⟩, prog_14_method_65_code, 4, (some FieldType.int), 12),
  (⟨"GhostTrainModel", "go", "()V"⟩, prog_14_method_56_code, 2, none, 12),
  (⟨"GhostTrainModel", "isLetter", "(I)Z"⟩, prog_14_method_54_code, 2, (some FieldType.boolean), 12),
  (⟨"GhostTrainModel", "isFigure", "(I)Z"⟩, prog_14_method_55_code, 2, (some FieldType.boolean), 12),
  (⟨"GhostTrainModel", "takesKey", "()Z"⟩, prog_14_method_57_code, 5, (some FieldType.boolean), 12),
  (⟨"GhostTrainModel", "takesE", "()Z"⟩, prog_14_method_63_code, 5, (some FieldType.boolean), 12),
  (⟨"GhostTrainModel", "takesPart", "()Z"⟩, prog_14_method_62_code, 2, (some FieldType.boolean), 12),
  (⟨"GhostTrainModel", "nameOf", "(I)I"⟩, prog_14_method_58_code, 2, (some FieldType.int), 12),
  (⟨"GhostTrainModel", "settle", "(I)V"⟩, prog_14_method_60_code, 2, none, 12),
  (⟨"GhostTrainModel", "rank", "(I)I"⟩, prog_14_method_59_code, 1, (some FieldType.int), 12),
  (⟨"GhostTrainModel", "notsOpen", "()I"⟩, prog_14_method_64_code, 3, (some FieldType.int), 12),
  (⟨"GhostTrainModel", "signHere", "()I"⟩, prog_14_method_61_code, 1, (some FieldType.int), 12),
  (⟨"GhostTrainModel", "textTold", "(II)I"⟩, prog_14_method_66_code, 3, (some FieldType.int), 12),
  (⟨"GhostTrainModel", "why", "(I)I"⟩, prog_14_method_68_code, 3, (some FieldType.int), 12),
  (⟨"GhostTrainModel", "sheet", "(III)I"⟩, prog_14_method_73_code, 5, (some FieldType.int), 12),
  (⟨"GhostTrainModel", "mark", "(III)I"⟩, prog_14_method_74_code, 4, (some FieldType.int), 12),
  (⟨"GhostTrainModel", "pour", "(I)I"⟩, prog_14_method_75_code, 6, (some FieldType.int), 12),
  (⟨"GhostTrainModel", "reads", "(I)I"⟩, prog_14_method_76_code, 4, (some FieldType.int), 12),
  (⟨"GhostTrainModel", "copy", "(IIIII)I"⟩, prog_14_method_77_code, 7, (some FieldType.int), 12),
  (⟨"GhostTrainModel", "lay", "(III)I"⟩, prog_14_method_78_code, 6, (some FieldType.int), 12),
  (⟨"GhostTrainModel", "isSlot", "(I)Z"⟩, prog_14_method_72_code, 1, (some FieldType.boolean), 12),
  (⟨"GhostTrainModel", "ask", "(II)I"⟩, prog_14_method_79_code, 3, (some FieldType.int), 12),
  (⟨"GhostTrainModel", "item", "(II)I"⟩, prog_14_method_80_code, 4, (some FieldType.int), 12),
  (⟨"GhostTrainModel", "rest", "(II)I"⟩, prog_14_method_81_code, 3, (some FieldType.int), 12),
  (⟨"GhostTrainModel", "tell", "(I)I"⟩, prog_14_method_82_code, 2, (some FieldType.int), 12),
  (⟨"GhostTrainModel", "check", "(I)I"⟩, prog_14_method_83_code, 6, (some FieldType.int), 12),
  (⟨"GhostTrainModel", "copyAll", "([I[I)V"⟩, prog_14_method_4_code, 3, none, 12),
  (⟨"GhostTrainModel", "keep", "()I"⟩, prog_14_method_84_code, 1, (some FieldType.int), 12),
  (⟨"GhostTrainModel", "back", "()I"⟩, prog_14_method_85_code, 1, (some FieldType.int), 12),
  (⟨"GhostTrainModel", "count", "(I)I"⟩, prog_14_method_87_code, 2, (some FieldType.int), 12),
  (⟨"GhostTrainModel", "scares", "()I"⟩, prog_14_method_86_code, 3, (some FieldType.int), 12),
  (⟨"GhostTrainLaw", "law", "([I)Z"⟩, code, 4, (some FieldType.boolean), 14)]
def mj_dt : List (List Nat) := [[47, 52, 49, 50, 51, 48], [26, 31, 28, 29, 30, 27], [33, 37, 35, 36, 36, 34], [38, 43, 40, 41, 42, 39]]
end
section
/-! ===== the words that the instructions link, by their places in lw_tbl (written by wip/whole/gen_rows.py) ===== -/
def mj_own : Nat → String := fun k => ["GhostTrain$BridalKind", "GhostTrain$CarKind", "GhostTrain$GhostKind", "GhostTrain$HeavyKind", "GhostTrain$IronKind", "GhostTrain$LightKind", "GhostTrain$Ring", "GhostTrain$Sheet", "GhostTrain$Slot", "GhostTrain$Tape", "GhostTrain$Text", "GhostTrain", "GhostTrainModel", "java/lang/Math", "GhostTrainLaw"].getD k ""
/-- own class, index, class, field, place -/
def mj_fl : List (Nat × Nat × Nat × Nat × Nat) := [(11, 25, 11, 0, 269), (11, 33, 11, 1, 270), (11, 40, 11, 2, 271), (11, 49, 11, 3, 272), (11, 53, 11, 4, 273), (11, 56, 11, 5, 274),
  (11, 59, 11, 6, 275), (11, 65, 11, 7, 276), (11, 71, 11, 8, 277), (11, 75, 11, 9, 278), (11, 79, 11, 10, 279), (9, 9, 9, 0, 129),
  (9, 15, 9, 1, 130), (9, 19, 9, 2, 132), (9, 22, 9, 3, 134), (9, 25, 9, 4, 135), (6, 11, 6, 2, 158), (6, 16, 6, 3, 160),
  (6, 19, 6, 4, 162), (6, 23, 6, 5, 164), (6, 27, 6, 6, 166), (6, 30, 6, 7, 168), (6, 33, 6, 8, 170), (6, 36, 6, 9, 172),
  (6, 39, 6, 0, 156), (6, 43, 6, 1, 157), (10, 9, 10, 0, 204), (10, 15, 10, 1, 205), (10, 18, 10, 2, 206), (10, 22, 10, 3, 207),
  (10, 25, 10, 4, 210), (7, 9, 7, 0, 228), (7, 15, 7, 1, 230), (7, 19, 7, 2, 232), (8, 9, 8, 0, 248), (8, 15, 8, 1, 250),
  (8, 19, 8, 2, 252), (8, 25, 8, 3, 254), (8, 29, 8, 4, 256), (11, 97, 6, 5, 165), (11, 108, 6, 3, 161), (11, 145, 6, 2, 159),
  (11, 148, 6, 6, 167), (11, 159, 6, 8, 171), (11, 165, 6, 7, 169), (11, 253, 7, 2, 233), (11, 250, 7, 0, 229), (11, 209, 6, 4, 163),
  (11, 215, 9, 1, 131), (11, 221, 6, 9, 173), (11, 228, 9, 2, 133), (11, 231, 10, 3, 209), (9, 70, 10, 3, 208), (11, 234, 10, 4, 211),
  (11, 245, 7, 1, 231), (11, 271, 8, 0, 249), (11, 274, 8, 1, 251), (11, 278, 8, 2, 253), (11, 281, 8, 3, 255), (11, 288, 8, 4, 257),
  (12, 9, 12, 0, 929), (12, 13, 12, 1, 930), (12, 16, 12, 2, 931), (12, 19, 12, 4, 933), (12, 23, 12, 5, 934), (12, 26, 12, 6, 935),
  (12, 29, 12, 14, 943), (12, 33, 12, 15, 944), (12, 36, 12, 16, 945), (12, 39, 12, 19, 948), (12, 42, 12, 21, 950), (12, 46, 12, 22, 951),
  (12, 49, 12, 23, 952), (12, 52, 12, 24, 953), (12, 55, 12, 25, 954), (12, 58, 12, 26, 955), (12, 61, 12, 27, 956), (12, 64, 12, 28, 957),
  (12, 67, 12, 29, 958), (12, 70, 12, 30, 959), (12, 73, 12, 31, 960), (12, 76, 12, 32, 961), (12, 177, 12, 7, 936), (12, 180, 12, 8, 937),
  (12, 186, 12, 12, 941), (12, 183, 12, 9, 938), (12, 201, 12, 13, 942), (12, 213, 12, 17, 946), (12, 219, 12, 18, 947), (12, 189, 12, 10, 939),
  (12, 195, 12, 11, 940), (12, 207, 12, 20, 949), (12, 252, 12, 33, 962), (12, 255, 12, 3, 932)]
/-- own class, index, the constant (of 32 bits), place -/
def mj_kl : List (Nat × Nat × Nat × Nat) := [(11, 96, 3294967295, 319), (11, 100, 3294967293, 320), (11, 140, 3294967284, 469), (6, 53, 1103515245, 498), (11, 179, 3294967291, 555), (11, 204, 3294967285, 610),
  (7, 22, 3294967291, 619), (11, 237, 3294967282, 844), (11, 244, 3294967283, 857), (11, 248, 4294867297, 858), (11, 249, 99999, 859), (11, 291, 3294967294, 898),
  (12, 83, 3294967295, 1041), (12, 84, 3294967293, 1042), (12, 126, 3294967284, 1103), (12, 130, 1103515245, 1136), (12, 165, 3294967291, 1197), (12, 172, 3294967285, 1233),
  (12, 244, 3294967282, 1313), (12, 245, 3294967283, 1318), (12, 246, 4294867297, 1319), (12, 247, 99999, 1320), (12, 251, 3294967294, 1352)]
/-- own class, index, kind, callee, how many arguments, places, places by the receiver -/
def mj_cl : List (Nat × Nat × Nat × Nat × Nat × List Nat × List (List Nat)) := [(11, 9, 3, 1, 0, [82, 51], []), (11, 12, 3, 2, 0, [89, 52], []), (11, 15, 3, 3, 0, [96, 53], []),
  (11, 18, 3, 4, 0, [103, 54], []), (11, 21, 3, 5, 0, [110, 55], []), (11, 24, 3, 6, 0, [117, 56], []),
  (11, 39, 3, 7, 0, [126, 57], []), (11, 46, 2, 8, 2, [150, 151, 58], []), (11, 83, 3, 9, 0, [201, 59], []),
  (11, 84, 3, 10, 0, [225, 60], []), (11, 85, 3, 11, 0, [243, 61], []), (3, 3, 3, 1, 0, [82, 51], []),
  (5, 1, 3, 1, 0, [82, 51], []), (4, 1, 3, 2, 0, [89, 52], []), (0, 1, 3, 3, 0, [96, 53], []),
  (2, 1, 3, 1, 0, [82, 51], []), (8, 24, 3, 10, 0, [225, 60], []), (11, 86, 0, 13, 1, [307, 308, 50], []),
  (11, 90, 0, 14, 1, [310, 311, 50], []), (11, 93, 0, 15, 1, [313, 314, 50], []), (11, 101, 5, 17, 3, [321, 322, 323, 58], []),
  (11, 141, 0, 16, 3, [316, 317, 50], []), (11, 105, 5, 19, 1, [329, 331, 0, 50], []), (11, 112, 5, 20, 1, [333, 334, 335, 58], []),
  (11, 116, 5, 21, 2, [337, 338, 339, 58], []), (11, 120, 5, 32, 1, [386, 387, 388, 58], []), (11, 123, 5, 24, 1, [391, 349, 350, 58], []),
  (11, 127, 6, 1002, 0, [392, 395, 393], [[396, 397, 55], [394, 393, 51], [402, 403, 56], [405, 406, 52], [408, 406, 52], [409, 400, 53]]), (11, 131, 6, 1003, 1, [411, 414, 412], [[415, 416, 55], [413, 412, 51], [421, 422, 56], [424, 425, 52], [427, 428, 54], [431, 419, 53]]), (6, 91, 5, 22, 3, [341, 342, 343, 59], []),
  (6, 81, 5, 24, 1, [348, 349, 350, 58], []), (6, 97, 1, 25, 3, [353, 50], []), (6, 100, 6, 1001, 3, [361, 364, 362], [[365, 366, 55], [363, 362, 51], [372, 373, 56], [375, 376, 52], [379, 380, 54], [384, 369, 53]]),
  (10, 32, 0, 23, 3, [345, 346, 59], []), (0, 11, 4, 27, 3, [368, 1380, 113, 369, 53], []), (4, 11, 4, 29, 3, [382, 1381, 106, 376, 52], []),
  (0, 15, 4, 34, 0, [399, 1382, 113, 400, 53], []), (0, 19, 4, 39, 1, [418, 1383, 113, 419, 53], []), (4, 21, 4, 41, 1, [430, 1384, 106, 425, 52], []),
  (11, 134, 0, 45, 1, [437, 438, 50], []), (11, 137, 6, 1000, 1, [444, 447, 445], [[448, 449, 55], [446, 445, 51], [455, 456, 56], [459, 460, 52], [463, 464, 54], [467, 452, 53]]), (0, 7, 4, 48, 1, [451, 1385, 113, 452, 53], []),
  (5, 7, 4, 52, 1, [454, 447, 99, 445, 51], []), (2, 7, 4, 52, 1, [458, 447, 120, 445, 51], []), (3, 9, 4, 52, 1, [462, 447, 92, 445, 51], []),
  (4, 7, 4, 50, 1, [466, 1386, 106, 460, 52], []), (11, 156, 5, 59, 0, [494, 495, 496, 58], []), (11, 162, 5, 62, 1, [507, 508, 509, 58], []),
  (11, 168, 5, 63, 1, [511, 512, 513, 58], []), (6, 60, 5, 64, 1, [516, 518, 1, 58], []), (6, 64, 5, 32, 1, [520, 387, 388, 58], []),
  (6, 68, 5, 20, 1, [521, 334, 335, 58], []), (6, 71, 5, 21, 2, [522, 338, 339, 58], []), (6, 77, 5, 65, 2, [523, 525, 2, 58], []),
  (6, 85, 6, 1002, 0, [527, 395, 393], [[396, 397, 55], [394, 393, 51], [402, 403, 56], [405, 406, 52], [408, 406, 52], [409, 400, 53]]), (11, 172, 5, 67, 0, [532, 533, 534, 58], []), (11, 175, 5, 70, 1, [544, 545, 546, 58], []),
  (11, 180, 0, 73, 1, [560, 561, 50], []), (11, 183, 5, 74, 1, [563, 565, 3, 50], []), (11, 186, 5, 76, 2, [571, 572, 573, 58], []),
  (11, 190, 5, 78, 1, [579, 580, 581, 58], []), (11, 193, 5, 82, 2, [595, 597, 4, 50], []), (11, 197, 0, 84, 1, [603, 604, 50], []),
  (11, 200, 5, 85, 0, [606, 607, 608, 60], []), (11, 205, 5, 86, 3, [611, 613, 5, 50], []), (11, 259, 5, 87, 1, [615, 616, 617, 60], []),
  (11, 212, 5, 22, 3, [627, 342, 343, 59], []), (11, 218, 5, 91, 1, [636, 637, 638, 57], []), (11, 224, 5, 94, 1, [648, 649, 650, 57], []),
  (9, 28, 5, 95, 0, [652, 654, 6, 57], []), (9, 31, 5, 97, 0, [659, 661, 7, 57], []), (9, 35, 5, 99, 1, [718, 719, 720, 59], []),
  (9, 41, 5, 100, 4, [722, 724, 9, 57], []), (9, 86, 0, 96, 1, [656, 657, 57], []), (9, 106, 5, 98, 1, [664, 666, 8, 57], []),
  (9, 45, 5, 101, 3, [726, 728, 10, 57], []), (9, 49, 0, 110, 1, [823, 824, 57], []), (9, 53, 5, 102, 1, [731, 733, 11, 57], []),
  (9, 57, 5, 103, 1, [790, 791, 792, 59], []), (9, 66, 5, 105, 1, [800, 802, 13, 57], []), (10, 28, 5, 104, 1, [794, 796, 12, 59], []),
  (9, 73, 5, 106, 1, [804, 806, 14, 57], []), (9, 77, 5, 107, 0, [811, 813, 15, 57], []), (9, 80, 5, 108, 1, [815, 816, 817, 59], []),
  (9, 83, 5, 109, 1, [819, 820, 821, 59], []), (11, 238, 5, 114, 2, [845, 846, 847, 60], []), (11, 241, 5, 116, 2, [853, 854, 855, 60], []),
  (11, 256, 0, 25, 3, [864, 353, 50], []), (11, 268, 0, 121, 1, [878, 879, 50], []), (11, 285, 5, 122, 1, [881, 882, 883, 60], []),
  (11, 292, 5, 131, 0, [919, 920, 921, 58], []), (12, 79, 0, 134, 3, [1038, 1039, 62], []), (12, 85, 5, 135, 3, [1043, 1045, 16, 62], []),
  (12, 103, 5, 137, 1, [1051, 1053, 17, 62], []), (12, 107, 0, 138, 1, [1055, 1056, 62], []), (12, 110, 5, 139, 2, [1058, 1060, 18, 62], []),
  (12, 89, 5, 140, 1, [1062, 1064, 19, 62], []), (12, 93, 5, 141, 2, [1066, 1068, 20, 62], []), (12, 97, 5, 142, 1, [1070, 1072, 21, 62], []),
  (12, 100, 0, 144, 3, [1077, 1078, 62], []), (12, 241, 0, 143, 3, [1074, 1075, 62], []), (12, 113, 5, 146, 1, [1084, 1086, 22, 62], []),
  (12, 116, 5, 147, 1, [1088, 1090, 23, 62], []), (12, 119, 5, 148, 1, [1092, 1094, 24, 62], []), (12, 122, 0, 150, 2, [1100, 1101, 62], []),
  (12, 127, 5, 152, 2, [1108, 1110, 25, 62], []), (12, 131, 5, 158, 0, [1132, 1134, 26, 62], []), (12, 150, 5, 161, 1, [1145, 1147, 27, 62], []),
  (12, 153, 5, 162, 1, [1149, 1151, 28, 62], []), (12, 147, 5, 163, 0, [1153, 1155, 29, 62], []), (12, 143, 5, 164, 1, [1157, 1159, 30, 62], []),
  (12, 135, 5, 165, 3, [1161, 1163, 31, 62], []), (12, 139, 5, 166, 2, [1165, 1167, 32, 62], []), (12, 156, 5, 168, 0, [1173, 1175, 33, 62], []),
  (12, 159, 5, 171, 0, [1185, 1187, 34, 62], []), (12, 162, 5, 172, 0, [1189, 1191, 35, 62], []), (12, 166, 5, 176, 1, [1206, 1208, 36, 62], []),
  (12, 169, 0, 182, 1, [1230, 1231, 62], []), (12, 173, 5, 183, 3, [1234, 1236, 37, 62], []), (12, 204, 5, 189, 0, [1258, 1260, 38, 62], []),
  (12, 235, 5, 192, 0, [1270, 1272, 41, 62], []), (12, 238, 5, 193, 0, [1274, 1276, 42, 62], []), (12, 192, 5, 190, 1, [1262, 1264, 39, 62], []),
  (12, 198, 5, 191, 1, [1266, 1268, 40, 62], []), (12, 225, 5, 194, 0, [1278, 1280, 43, 62], []), (12, 229, 5, 198, 0, [1293, 1295, 46, 62], []),
  (12, 222, 5, 196, 1, [1286, 1288, 45, 62], []), (12, 232, 5, 199, 0, [1297, 1299, 47, 62], []), (12, 210, 0, 197, 1, [1290, 1291, 62], []),
  (12, 216, 5, 195, 1, [1282, 1284, 44, 62], []), (12, 248, 0, 208, 1, [1337, 1338, 62], []), (12, 259, 0, 214, 2, [1361, 1362, 62], []),
  (12, 263, 5, 218, 0, [1376, 1378, 48, 62], []), (14, 9, 2, 0, 0, [72, 73, 50], []), (14, 12, 2, 132, 0, [925, 926, 62], []),
  (14, 13, 5, 12, 3, [303, 304, 305, 50], []), (14, 17, 5, 133, 3, [1034, 1035, 1036, 62], []), (14, 18, 5, 18, 2, [325, 326, 327, 50], []),
  (14, 22, 5, 145, 2, [1080, 1081, 1082, 62], []), (14, 23, 5, 44, 2, [433, 434, 435, 50], []), (14, 26, 5, 136, 2, [1047, 1048, 1049, 62], []),
  (14, 27, 5, 46, 2, [440, 441, 442, 50], []), (14, 30, 5, 149, 2, [1096, 1097, 1098, 62], []), (14, 31, 5, 53, 2, [470, 471, 472, 50], []),
  (14, 34, 5, 151, 2, [1104, 1105, 1106, 62], []), (14, 35, 5, 54, 3, [474, 475, 476, 50], []), (14, 38, 5, 153, 3, [1112, 1113, 1114, 62], []),
  (14, 39, 5, 55, 2, [478, 479, 480, 50], []), (14, 42, 5, 154, 2, [1116, 1117, 1118, 62], []), (14, 43, 5, 56, 3, [482, 483, 484, 50], []),
  (14, 46, 5, 155, 3, [1120, 1121, 1122, 62], []), (14, 47, 5, 57, 1, [486, 487, 488, 50], []), (14, 51, 5, 156, 1, [1124, 1125, 1126, 62], []),
  (14, 52, 5, 58, 1, [490, 491, 492, 50], []), (14, 55, 5, 157, 1, [1128, 1129, 1130, 62], []), (14, 56, 5, 60, 1, [499, 500, 501, 50], []),
  (14, 59, 5, 159, 1, [1137, 1138, 1139, 62], []), (14, 60, 5, 61, 1, [503, 504, 505, 50], []), (14, 63, 5, 160, 1, [1141, 1142, 1143, 62], []),
  (14, 64, 5, 66, 1, [528, 529, 530, 50], []), (14, 67, 5, 167, 1, [1169, 1170, 1171, 62], []), (14, 68, 5, 68, 0, [536, 537, 538, 50], []),
  (14, 72, 5, 169, 0, [1177, 1178, 1179, 62], []), (14, 73, 5, 69, 2, [540, 541, 542, 50], []), (14, 76, 5, 170, 2, [1181, 1182, 1183, 62], []),
  (14, 77, 5, 71, 0, [551, 552, 553, 50], []), (14, 80, 5, 173, 0, [1193, 1194, 1195, 62], []), (14, 81, 5, 72, 3, [556, 557, 558, 50], []),
  (14, 84, 5, 174, 3, [1198, 1199, 1200, 62], []), (14, 85, 5, 75, 3, [567, 568, 569, 50], []), (14, 88, 5, 175, 3, [1202, 1203, 1204, 62], []),
  (14, 89, 5, 77, 2, [575, 576, 577, 50], []), (14, 92, 5, 177, 2, [1210, 1211, 1212, 62], []), (14, 93, 5, 79, 3, [583, 584, 585, 50], []),
  (14, 96, 5, 178, 3, [1214, 1215, 1216, 62], []), (14, 97, 5, 80, 2, [587, 588, 589, 50], []), (14, 100, 5, 179, 2, [1218, 1219, 1220, 62], []),
  (14, 101, 5, 81, 1, [591, 592, 593, 50], []), (14, 104, 5, 180, 1, [1222, 1223, 1224, 62], []), (14, 105, 5, 83, 3, [599, 600, 601, 50], []),
  (14, 108, 5, 181, 3, [1226, 1227, 1228, 62], []), (14, 109, 5, 88, 0, [623, 624, 625, 50], []), (14, 112, 5, 184, 0, [1238, 1239, 1240, 62], []),
  (14, 113, 5, 89, 1, [628, 629, 630, 50], []), (14, 116, 5, 185, 1, [1242, 1243, 1244, 62], []), (14, 117, 5, 90, 3, [632, 633, 634, 50], []),
  (14, 120, 5, 186, 3, [1246, 1247, 1248, 62], []), (14, 121, 5, 92, 1, [640, 641, 642, 50], []), (14, 124, 5, 187, 1, [1250, 1251, 1252, 62], []),
  (14, 125, 5, 93, 0, [644, 645, 646, 50], []), (14, 128, 5, 188, 0, [1254, 1255, 1256, 62], []), (14, 129, 5, 111, 2, [832, 833, 834, 50], []),
  (14, 132, 5, 200, 2, [1301, 1302, 1303, 62], []), (14, 133, 5, 112, 1, [836, 837, 838, 50], []), (14, 136, 5, 201, 1, [1305, 1306, 1307, 62], []),
  (14, 137, 5, 113, 3, [840, 841, 842, 50], []), (14, 140, 5, 202, 3, [1309, 1310, 1311, 62], []), (14, 141, 5, 115, 3, [849, 850, 851, 50], []),
  (14, 144, 5, 203, 3, [1314, 1315, 1316, 62], []), (14, 145, 5, 117, 1, [860, 861, 862, 50], []), (14, 148, 5, 204, 1, [1321, 1322, 1323, 62], []),
  (14, 149, 5, 118, 1, [865, 866, 867, 50], []), (14, 152, 5, 205, 1, [1325, 1326, 1327, 62], []), (14, 153, 5, 119, 5, [869, 870, 871, 50], []),
  (14, 157, 5, 206, 5, [1329, 1330, 1331, 62], []), (14, 158, 5, 120, 3, [874, 875, 876, 50], []), (14, 161, 5, 207, 3, [1333, 1334, 1335, 62], []),
  (14, 162, 5, 123, 2, [886, 887, 888, 50], []), (14, 165, 5, 209, 2, [1340, 1341, 1342, 62], []), (14, 166, 5, 124, 2, [890, 891, 892, 50], []),
  (14, 169, 5, 210, 2, [1344, 1345, 1346, 62], []), (14, 170, 5, 125, 2, [894, 895, 896, 50], []), (14, 173, 5, 211, 2, [1348, 1349, 1350, 62], []),
  (14, 174, 5, 126, 1, [899, 900, 901, 50], []), (14, 177, 5, 212, 1, [1353, 1354, 1355, 62], []), (14, 178, 5, 127, 1, [903, 904, 905, 50], []),
  (14, 181, 5, 213, 1, [1357, 1358, 1359, 62], []), (14, 182, 5, 128, 0, [907, 908, 909, 50], []), (14, 185, 5, 215, 0, [1364, 1365, 1366, 62], []),
  (14, 186, 5, 129, 0, [911, 912, 913, 50], []), (14, 189, 5, 216, 0, [1368, 1369, 1370, 62], []), (14, 190, 5, 130, 1, [915, 916, 917, 50], []),
  (14, 193, 5, 217, 1, [1372, 1373, 1374, 62], [])]
/-- words that are no good words: calls of nest mates, and what may be cast -/
def mj_nw : List Cond := [(Jvm.Cond.methodLinkNest "GhostTrain" (9 : Nat) ({ cls := "GhostTrain$CarKind", name := "<init>", desc := "()V" } : Jvm.MethodName) "GhostTrain"),
  (Jvm.Cond.methodLinkNest "GhostTrain" (12 : Nat) ({ cls := "GhostTrain$HeavyKind", name := "<init>", desc := "()V" } : Jvm.MethodName) "GhostTrain"),
  (Jvm.Cond.methodLinkNest "GhostTrain" (15 : Nat) ({ cls := "GhostTrain$LightKind", name := "<init>", desc := "()V" } : Jvm.MethodName) "GhostTrain"),
  (Jvm.Cond.methodLinkNest "GhostTrain" (18 : Nat) ({ cls := "GhostTrain$IronKind", name := "<init>", desc := "()V" } : Jvm.MethodName) "GhostTrain"),
  (Jvm.Cond.methodLinkNest "GhostTrain" (21 : Nat) ({ cls := "GhostTrain$BridalKind", name := "<init>", desc := "()V" } : Jvm.MethodName) "GhostTrain"),
  (Jvm.Cond.methodLinkNest "GhostTrain" (24 : Nat) ({ cls := "GhostTrain$GhostKind", name := "<init>", desc := "()V" } : Jvm.MethodName) "GhostTrain"),
  (Jvm.Cond.methodLinkNest "GhostTrain" (39 : Nat) ({ cls := "GhostTrain$Tape", name := "<init>", desc := "()V" } : Jvm.MethodName) "GhostTrain"),
  (Jvm.Cond.methodLinkNest "GhostTrain" (83 : Nat) ({ cls := "GhostTrain$Text", name := "<init>", desc := "()V" } : Jvm.MethodName) "GhostTrain"),
  (Jvm.Cond.methodLinkNest "GhostTrain" (84 : Nat) ({ cls := "GhostTrain$Sheet", name := "<init>", desc := "()V" } : Jvm.MethodName) "GhostTrain"),
  (Jvm.Cond.methodLinkNest "GhostTrain" (85 : Nat) ({ cls := "GhostTrain$Slot", name := "<init>", desc := "()V" } : Jvm.MethodName) "GhostTrain"),
  (Jvm.Cond.methodLinkNest "GhostTrain$HeavyKind" (3 : Nat) ({ cls := "GhostTrain$CarKind", name := "<init>", desc := "()V" } : Jvm.MethodName) "GhostTrain"),
  (Jvm.Cond.methodLinkNest "GhostTrain$LightKind" (1 : Nat) ({ cls := "GhostTrain$CarKind", name := "<init>", desc := "()V" } : Jvm.MethodName) "GhostTrain"),
  (Jvm.Cond.methodLinkNest "GhostTrain$IronKind" (1 : Nat) ({ cls := "GhostTrain$HeavyKind", name := "<init>", desc := "()V" } : Jvm.MethodName) "GhostTrain"),
  (Jvm.Cond.methodLinkNest "GhostTrain$BridalKind" (1 : Nat) ({ cls := "GhostTrain$LightKind", name := "<init>", desc := "()V" } : Jvm.MethodName) "GhostTrain"),
  (Jvm.Cond.methodLinkNest "GhostTrain$GhostKind" (1 : Nat) ({ cls := "GhostTrain$CarKind", name := "<init>", desc := "()V" } : Jvm.MethodName) "GhostTrain"),
  (Jvm.Cond.methodLinkNest "GhostTrain$Slot" (24 : Nat) ({ cls := "GhostTrain$Sheet", name := "<init>", desc := "()V" } : Jvm.MethodName) "GhostTrain"),
  (Jvm.Cond.methodLinkNest "GhostTrain$Ring" (97 : Nat) ({ cls := "GhostTrain", name := "held", desc := "(III)I" } : Jvm.MethodName) "GhostTrain"),
  (Jvm.Cond.castable "GhostTrain$HeavyKind" "GhostTrain$CarKind"),
  (Jvm.Cond.castable "GhostTrain$LightKind" "GhostTrain$CarKind"),
  (Jvm.Cond.castable "GhostTrain$IronKind" "GhostTrain$CarKind"),
  (Jvm.Cond.castable "GhostTrain$BridalKind" "GhostTrain$CarKind"),
  (Jvm.Cond.castable "GhostTrain$GhostKind" "GhostTrain$CarKind")]
def mj_np : List Nat := [81, 88, 95, 102, 109, 116, 125, 200, 224, 242, 91, 98, 105, 112, 119, 247, 352, 1387, 1388, 1389, 1390, 1391]
/-- new: own class, index, class, places -/
def mj_nl : List (Nat × Nat × Nat × List Nat) := [(14, 7, 11, [70, 71, 50]), (11, 7, 1, [78, 80, 51]), (11, 10, 3, [86, 87, 52]), (11, 13, 5, [93, 94, 53]), (11, 16, 4, [100, 101, 54]), (11, 19, 0, [107, 108, 55]),
  (11, 22, 2, [114, 115, 56]), (11, 31, 10, [121, 199, 59]), (11, 37, 9, [123, 124, 57]), (11, 44, 6, [148, 149, 58]), (11, 63, 7, [195, 223, 60]), (11, 69, 8, [197, 241, 61]),
  (8, 22, 7, [246, 223, 60]), (14, 10, 12, [923, 924, 62])]
/-- arrays of references: own class, index, tag, place -/
def mj_al : List (Nat × Nat × Nat × Nat) := [(11, 7, 23, 78), (11, 31, 24, 121), (6, 9, 27, 154), (11, 63, 25, 195), (11, 69, 26, 197), (8, 22, 25, 246)]
def mj_ol : List (Nat × Nat × Nat) := [(11, 1, 75), (1, 1, 84), (9, 3, 128), (6, 3, 153), (10, 3, 203), (7, 3, 227),
  (8, 3, 245), (12, 1, 928)]
def mj_ml : List (Nat × Nat × Nat × Nat) := [(11, 151, 3006, 355), (11, 298, 3005, 358), (5, 11, 3005, 371), (3, 13, 3006, 378), (4, 15, 3005, 383), (6, 74, 3006, 390),
  (6, 54, 3005, 515), (11, 295, 3007, 620)]
def mj_tl : List (Nat × Nat × Nat) := [(9, 104, 0), (9, 109, 1), (9, 111, 2), (9, 60, 3), (9, 62, 4), (9, 64, 5),
  (9, 119, 6), (9, 121, 7), (9, 123, 8), (9, 89, 9), (9, 91, 10), (9, 93, 11),
  (9, 95, 12), (9, 97, 13)]
def mj_vl : List (Nat × Nat × Nat × Nat) := [(9, 113, 3002, 668), (9, 115, 3003, 678), (9, 99, 3004, 735)]
def mj_acl : List (Nat × Nat × Nat) := [(6, 47, 548), (11, 262, 873), (7, 23, 885)]
def mj_ll : List (List Nat) := [[],
  [],
  [],
  [],
  [],
  [],
  [174, 176, 178, 180, 182, 184, 186, 188, 190, 192],
  [234, 236, 238],
  [258, 260, 262, 264, 266],
  [136, 138, 140, 142, 144],
  [212, 214, 216, 218, 220],
  [280, 282, 284, 286, 288, 290, 292, 294, 296, 298, 300],
  [963, 965, 967, 969, 971, 973, 975, 977, 979, 981, 983, 985, 987, 989, 991, 993, 995, 997, 999, 1001, 1003, 1005, 1007, 1009, 1011, 1013, 1015, 1017, 1019, 1021, 1023, 1025, 1027, 1029]]
end
section
/-! ===== runs of the small machine ===== -/
def mj_prog (y : Nat) : List (Nat × mj_I) := mj_progs.getD y []
def mj_look : List (Nat × mj_I) → Nat → Option mj_I
  | [], _ => none
  | q :: l, pc => if q.1 = pc then some q.2 else mj_look l pc
def mj_m (y : Nat) : MethodName × ByteArray × Nat × Option FieldType × Nat := mj_mt.getD y (⟨"", "", ""⟩, ⟨#[]⟩, 0, none, 99)
def mj_disp (a t : Nat) : Option Nat := if a < 1000 then (if (mj_m a).2.2.2.2 = t then some a else none) else (mj_dt.getD (a - 1000) [])[t]?
def mj_sum (r : List Value) : Nat := (r.map fun v => v.category).sum
def mj_arg (y : Nat) (as rest : List Value) : Option (Nat × List Value × List Value) := if as.all mj_cat1 = true ∧ as.length ≤ (mj_m y).2.2.1 ∧ y < 219 ∧ mj_sum rest ≤ 8 then some (y, as, rest) else none
/-- a call: the callee, its arguments, what stays on the stack -/
def mj_call (e : mj_I) (st : List Value) (h : mj_H) : Option (Nat × List Value × List Value) :=
  match e.1 with
  | .invokestatic _ => if e.2.2.1 < 1000 ∧ e.2.2.2 ≤ st.length then mj_arg e.2.2.1 (st.take e.2.2.2).reverse (st.drop e.2.2.2) else none
  | .invokespecial _ => match st.drop e.2.2.2 with
    | .ref r :: rest => if e.2.2.1 < 1000 ∧ r < h.1 ∧ (h.2.2.1 r).1 < 13 then mj_arg e.2.2.1 (.ref r :: (st.take e.2.2.2).reverse) rest else none
    | _ => none
  | .invokevirtual _ => match st.drop e.2.2.2 with
    | .ref r :: rest => if e.2.2.1 < 2000 ∧ r < h.1 ∧ (h.2.2.1 r).1 < 13 then (match mj_disp e.2.2.1 (h.2.2.1 r).1 with
      | some y => mj_arg y (.ref r :: (st.take e.2.2.2).reverse) rest
      | none => none) else none
    | _ => none
  | _ => none
def mj_ent (n : Nat) (as : List Value) : List Value := as ++ List.replicate (n - as.length) mj_no
/-- k steps at most, d calls deep at most: what the method gives back, and the cells then -/
def mj_run : Nat → Nat → Nat → Nat → List Value → List Value → mj_H → Option (Option Value × mj_H)
  | 0, _, _, _, _, _, _ => none
  | k + 1, d, y, pc, ls, st, h =>
    match mj_look (mj_prog y) pc with
    | none => none
    | some e =>
      match mj_ret (mj_m y).2.2.2.1 e st with
      | some r => some (r, h)
      | none =>
        match mj_call e st h with
        | some q =>
          match d with
          | 0 => none
          | d' + 1 =>
            match mj_run k d' q.1 0 (mj_ent (mj_m q.1).2.2.1 q.2.1) [] h with
            | none => none
            | some w => mj_run k (d' + 1) y (pc + e.2.1) ls (w.1.toList ++ q.2.2) w.2
        | none =>
          match mj_stp e pc ls st h with
          | none => none
          | some q => mj_run k d y q.1 q.2.1 q.2.2.1 q.2.2.2
theorem mj_mono : ∀ (k d y pc : Nat) (ls st : List Value) (h : mj_H) (w : Option Value × mj_H), mj_run k d y pc ls st h = some w → ∀ k' d' : Nat, k ≤ k' → d ≤ d' → mj_run k' d' y pc ls st h = some w
  | 0, _, _, _, _, _, _, _, hr, _, _, _, _ => by cases hr
  | k + 1, d, y, pc, ls, st, h, w, hr, 0, d', hk, hd => by omega
  | k + 1, d, y, pc, ls, st, h, w, hr, k' + 1, d', hk, hd => by
    unfold mj_run at hr ⊢
    cases h1 : mj_look (mj_prog y) pc with
    | none => rw [h1] at hr; cases hr
    | some e =>
      rw [h1] at hr
      dsimp only at hr ⊢
      cases h2 : mj_ret (mj_m y).2.2.2.1 e st with
      | some r => rw [h2] at hr; exact hr
      | none =>
        rw [h2] at hr
        dsimp only at hr ⊢
        cases h3 : mj_call e st h with
        | some q =>
          rw [h3] at hr
          dsimp only at hr ⊢
          cases d with
          | zero => cases hr
          | succ d0 =>
            cases d' with
            | zero => omega
            | succ d1 =>
              dsimp only at hr ⊢
              cases h4 : mj_run k d0 q.1 0 (mj_ent (mj_m q.1).2.2.1 q.2.1) [] h with
              | none => rw [h4] at hr; cases hr
              | some u =>
                rw [h4] at hr
                rw [mj_mono k d0 _ _ _ _ _ _ h4 k' d1 (by omega) (by omega)]
                exact mj_mono k (d0 + 1) _ _ _ _ _ _ hr k' (d1 + 1) (by omega) (by omega)
        | none =>
          rw [h3] at hr
          dsimp only at hr ⊢
          cases h4 : mj_stp e pc ls st h with
          | none => rw [h4] at hr; cases hr
          | some q =>
            rw [h4] at hr
            exact mj_mono k d _ _ _ _ _ _ hr k' d' (by omega) hd
/-- from here the method comes to its end, and then Q -/
def mj_Ev (d y pc : Nat) (ls st : List Value) (h : mj_H) (Q : Option Value → mj_H → Prop) : Prop := ∃ (k : Nat) (r : Option Value) (h' : mj_H), mj_run k d y pc ls st h = some (r, h') ∧ Q r h'
/-- a call of a method with these arguments -/
def mj_Cl (d y : Nat) (as : List Value) (h : mj_H) (Q : Option Value → mj_H → Prop) : Prop := mj_Ev d y 0 (mj_ent (mj_m y).2.2.1 as) [] h Q
theorem mj_Ev.deep {d d' y pc : Nat} {ls st : List Value} {h : mj_H} {Q : Option Value → mj_H → Prop} (hd : d ≤ d') (H : mj_Ev d y pc ls st h Q) : mj_Ev d' y pc ls st h Q := by
  obtain ⟨k, r, h', h1, h2⟩ := H
  exact ⟨k, r, h', mj_mono _ _ _ _ _ _ _ _ h1 k d' (Nat.le_refl k) hd, h2⟩
theorem mj_Ev.mp {d y pc : Nat} {ls st : List Value} {h : mj_H} {Q Q' : Option Value → mj_H → Prop} (H : mj_Ev d y pc ls st h Q) (hQ : ∀ r h', Q r h' → Q' r h') : mj_Ev d y pc ls st h Q' := by
  obtain ⟨k, r, h', h1, h2⟩ := H
  exact ⟨k, r, h', h1, hQ r h' h2⟩
theorem mj_Ev.stp {d y pc : Nat} {ls st : List Value} {h : mj_H} {Q : Option Value → mj_H → Prop} {e : mj_I} {pc' : Nat} {ls' st' : List Value} {h' : mj_H} (h1 : mj_look (mj_prog y) pc = some e) (h2 : mj_ret (mj_m y).2.2.2.1 e st = none) (h3 : mj_call e st h = none) (h4 : mj_stp e pc ls st h = some (pc', ls', st', h')) (H : mj_Ev d y pc' ls' st' h' Q) : mj_Ev d y pc ls st h Q := by
  obtain ⟨k, r, h', q1, q2⟩ := H
  refine ⟨k + 1, r, h', ?_, q2⟩
  unfold mj_run
  rw [h1]
  dsimp only
  rw [h2]
  dsimp only
  rw [h3]
  dsimp only
  rw [h4]
  exact q1
theorem mj_Ev.ret {d y pc : Nat} {ls st : List Value} {h : mj_H} {Q : Option Value → mj_H → Prop} {e : mj_I} {r : Option Value} (h1 : mj_look (mj_prog y) pc = some e) (h2 : mj_ret (mj_m y).2.2.2.1 e st = some r) (H : Q r h) : mj_Ev d y pc ls st h Q := by
  refine ⟨1, r, h, ?_, H⟩
  unfold mj_run
  rw [h1]
  dsimp only
  rw [h2]
theorem mj_Ev.call {d y pc : Nat} {ls st : List Value} {h : mj_H} {Q : Option Value → mj_H → Prop} {e : mj_I} {y' : Nat} {as rest : List Value} (h1 : mj_look (mj_prog y) pc = some e) (h2 : mj_ret (mj_m y).2.2.2.1 e st = none) (h3 : mj_call e st h = some (y', as, rest)) (H : mj_Cl d y' as h (fun r h' => mj_Ev (d + 1) y (pc + e.2.1) ls (r.toList ++ rest) h' Q)) : mj_Ev (d + 1) y pc ls st h Q := by
  obtain ⟨k1, r1, g1, p1, k2, r2, g2, p2, p3⟩ := H
  refine ⟨max k1 k2 + 1, r2, g2, ?_, p3⟩
  unfold mj_run
  rw [h1]
  dsimp only
  rw [h2]
  dsimp only
  rw [h3]
  dsimp only
  rw [mj_mono _ _ _ _ _ _ _ _ p1 (max k1 k2) d (Nat.le_max_left _ _) (Nat.le_refl _)]
  exact mj_mono _ _ _ _ _ _ _ _ p2 (max k1 k2) (d + 1) (Nat.le_max_right _ _) (Nat.le_refl _)
end
section
/-! ===== the good words of the tables, and the program's check ===== -/
def mj_T : List Cond := lw_tbl.filter goodWord
def mj_wp (w : Cond) (q : Nat) : Bool := decide (lw_tbl[q]? = some w) && goodWord w
theorem mj_wp_in {w : Cond} {q : Nat} (h : mj_wp w q = true) : w ∈ mj_T := by
  unfold mj_wp at h
  rw [Bool.and_eq_true, decide_eq_true_eq] at h
  exact List.mem_filter.mpr ⟨List.mem_of_getElem? h.1, h.2⟩
def mj_wps : List Cond → List Nat → Bool
  | [], _ => true
  | w :: l, q :: r => mj_wp w q && mj_wps l r
  | _ :: _, [] => false
theorem mj_wps_in : ∀ {ws : List Cond} {qs : List Nat}, mj_wps ws qs = true → ∀ w ∈ ws, w ∈ mj_T
  | [], _, _, w, hw => by cases hw
  | w0 :: l, [], h, w, hw => by cases h
  | w0 :: l, q :: r, h, w, hw => by
    simp only [mj_wps, Bool.and_eq_true] at h
    rcases List.mem_cons.mp hw with rfl | hw
    · exact mj_wp_in h.1
    · exact mj_wps_in h.2 w hw
def mj_Y (y : Nat) : MethodName := (mj_m y).1
def mj_C (y : Nat) : Cond := .code (mj_m y).1 (mj_m y).2.1 (mj_m y).2.2.1 (mj_m y).2.2.2.1
/-- the words that a call of a kind links (0 static, 1 of a nest mate, 2 <init>, 3 of a nest mate, 4 super, 5 virtual) -/
def mj_cw (own : String) (i k y : Nat) : List Cond :=
  match k with
  | 0 => [.methodLink own i (mj_Y y), .static (mj_Y y), .initialized (mj_Y y).cls]
  | 1 => [.static (mj_Y y), .initialized (mj_Y y).cls]
  | 2 => [.methodLink own i (mj_Y y), .instanceMethod (mj_Y y), .initialized (mj_Y y).cls]
  | 3 => [.instanceMethod (mj_Y y), .initialized (mj_Y y).cls]
  | 4 => [.methodLink own i (mj_Y y), .sameMethod (mj_Y y).cls (mj_Y y).cls (mj_Y y).name (mj_Y y).desc, .superclass own (mj_Y y).cls, .instanceMethod (mj_Y y), .initialized (mj_Y y).cls]
  | _ => [.methodLink own i (mj_Y y), .instanceMethod (mj_Y y), .selects (mj_Y y).cls (mj_Y y) (mj_Y y), .initialized (mj_Y y).cls]
/-- the method that a group is named by -/
def mj_gx (g : Nat) : MethodName := ([⟨"GhostTrain$CarKind", "isUnder", "(I)Z"⟩, ⟨"GhostTrain$CarKind", "gains", "(III)I"⟩, ⟨"GhostTrain$CarKind", "loudness", "()I"⟩, ⟨"GhostTrain$CarKind", "worthOf", "(I)I"⟩] : List MethodName).getD (g - 1000) ⟨"", "", ""⟩
def mj_gy (g : Nat) : Nat := (mj_dt.getD (g - 1000) []).getD 1 0
def mj_gw (own : String) (i g : Nat) : List Cond := [.methodLink own i (mj_gx g), .sameMethod "GhostTrain$CarKind" "GhostTrain$CarKind" (mj_gx g).name (mj_gx g).desc, .instanceMethod (mj_gx g)]
def mj_gt (g t : Nat) : List Cond := [.selects (mj_own t) (mj_gx g) (mj_Y ((mj_dt.getD (g - 1000) []).getD t 0)), .instanceMethod (mj_Y ((mj_dt.getD (g - 1000) []).getD t 0)), .initialized (mj_Y ((mj_dt.getD (g - 1000) []).getD t 0)).cls]
def mj_plen (y n : Nat) : Bool := decide ((parseMethodDescriptor (mj_Y y).desc).map (fun d => d.parameters.length) = some n)
def mj_notMH (y : Nat) : Bool := decide ((mj_Y y).cls ≠ "java/lang/invoke/MethodHandle") && decide ((mj_Y y).cls ≠ "java/lang/invoke/VarHandle")
/-- a row of mj_cl is right -/
def mj_clok (r : Nat × Nat × Nat × Nat × Nat × List Nat × List (List Nat)) : Bool :=
  if r.2.2.1 = 6 then mj_wps (mj_gw (mj_own r.1) r.2.1 r.2.2.2.1) r.2.2.2.2.2.1 && ((List.range 6).all fun t => mj_wps (mj_gt r.2.2.2.1 t) (r.2.2.2.2.2.2.getD t [])) && decide (mj_Y (mj_gy r.2.2.2.1) = mj_gx r.2.2.2.1) && ((List.range 6).all fun t => mj_plen ((mj_dt.getD (r.2.2.2.1 - 1000) []).getD t 0) r.2.2.2.2.1 && mj_notMH ((mj_dt.getD (r.2.2.2.1 - 1000) []).getD t 0)) && decide ((mj_dt.getD (r.2.2.2.1 - 1000) []).length = 6) && decide (1000 ≤ r.2.2.2.1)
  else mj_wps (mj_cw (mj_own r.1) r.2.1 r.2.2.1 r.2.2.2.1) r.2.2.2.2.2.1 && mj_plen r.2.2.2.1 r.2.2.2.2.1 && mj_notMH r.2.2.2.1 && decide (r.2.2.2.1 < 1000) &&
    (match r.2.2.1 with
      | 1 => decide (Cond.methodLinkNest (mj_own r.1) r.2.1 (mj_Y r.2.2.2.1) "GhostTrain" ∈ mj_nw)
      | 2 => decide ((mj_Y r.2.2.2.1).name = "<init>") && decide ((mj_m r.2.2.2.1).2.2.2.1 = none)
      | 3 => decide ((mj_Y r.2.2.2.1).name = "<init>") && decide ((mj_m r.2.2.2.1).2.2.2.1 = none) && decide (Cond.methodLinkNest (mj_own r.1) r.2.1 (mj_Y r.2.2.2.1) "GhostTrain" ∈ mj_nw)
      | 4 => decide ((mj_Y r.2.2.2.1).name ≠ "<init>")
      | 5 => decide (mj_own (mj_m r.2.2.2.1).2.2.2.2 = (mj_Y r.2.2.2.1).cls)
      | _ => true)
set_option maxRecDepth 1000000 in
theorem mj_cl_ok : mj_cl.all mj_clok = true := by decide +kernel
def mj_flok (r : Nat × Nat × Nat × Nat × Nat) : Bool :=
  match vwCl[r.2.2.1]? with
  | some q => mj_wp (.fieldLink (mj_own r.1) r.2.1 (q.2.1 r.2.2.2.1).1 (q.2.1 r.2.2.2.1).2.1 (q.2.1 r.2.2.2.1).2.2.1) r.2.2.2.2 && decide (r.2.2.2.1 < q.2.2) && decide (q.1 = (q.2.1 r.2.2.2.1).1)
  | none => false
set_option maxRecDepth 1000000 in
theorem mj_fl_ok : mj_fl.all mj_flok = true := by decide +kernel
def mj_klok (r : Nat × Nat × Nat × Nat) : Bool := mj_wp (.constant (mj_own r.1) r.2.1 (Int32.ofNat r.2.2.1)) r.2.2.2
set_option maxRecDepth 1000000 in
theorem mj_kl_ok : mj_kl.all mj_klok = true := by decide +kernel
def mj_nlok (r : Nat × Nat × Nat × List Nat) : Bool :=
  match vwCl[r.2.2.1]? with
  | some q => mj_wps [.classLink (mj_own r.1) r.2.1 q.1, .instantiable q.1 q.2.2, .initialized q.1] r.2.2.2
  | none => false
set_option maxRecDepth 1000000 in
theorem mj_nl_ok : mj_nl.all mj_nlok = true := by decide +kernel
def mj_alok (r : Nat × Nat × Nat × Nat) : Bool := mj_wp (.classLink (mj_own r.1) r.2.1 (if r.2.2.1 = 27 then "[[I" else match mj_ty r.2.2.1 with | .object C => C | _ => "")) r.2.2.2
set_option maxRecDepth 1000000 in
theorem mj_al_ok : mj_al.all mj_alok = true := by decide +kernel
def mj_olok (r : Nat × Nat × Nat) : Bool := mj_wps [.methodLink (mj_own r.1) r.2.1 objectInit, .instanceMethod objectInit, .code objectInit ⟨#[0xb1]⟩ 1 none] [r.2.2, 76, 77]
set_option maxRecDepth 1000000 in
theorem mj_ol_ok : mj_ol.all mj_olok = true := by decide +kernel
def mj_acok (r : Nat × Nat × Nat) : Bool := mj_wps [.methodLink (mj_own r.1) r.2.1 arraycopyName, .native arraycopyName, .static arraycopyName, .initialized "java/lang/System"] [r.2.2, 550, 549, 64]
set_option maxRecDepth 1000000 in
theorem mj_ac_ok : mj_acl.all mj_acok = true := by decide +kernel
def mj_llok (k : Nat) : Bool := match vwCl[k]? with
  | some q => mj_wps (u_ws q.1 q.2.1 q.2.2) (mj_ll.getD k [])
  | none => true
set_option maxRecDepth 1000000 in
theorem mj_ll_ok : (List.range 13).all mj_llok = true := by decide +kernel
theorem mj_ac_int : Cond.arrayClass .int ∈ mj_T := mj_wp_in (q := 147) (by decide +kernel)
theorem mj_ac_bool : Cond.arrayClass .boolean ∈ mj_T := mj_wp_in (q := 1033) (by decide +kernel)
theorem mj_ac_char : Cond.arrayClass .char ∈ mj_T := mj_wp_in (q := 1032) (by decide +kernel)
def mj_mlok (r : Nat × Nat × Nat × Nat) : Bool :=
  if r.2.2.1 = 3005 then mj_wps [.methodLink (mj_own r.1) r.2.1 Lib.Math.max.name, .static Lib.Math.max.name, .initialized "java/lang/Math", .code Lib.Math.max.name Lib.Math.max.code 2 (some .int)] [r.2.2.2, 359, 63, 360]
  else if r.2.2.1 = 3006 then mj_wps [.methodLink (mj_own r.1) r.2.1 Lib.Math.min.name, .static Lib.Math.min.name, .initialized "java/lang/Math", .code Lib.Math.min.name Lib.Math.min.code 2 (some .int)] [r.2.2.2, 356, 63, 357]
  else mj_wps [.methodLink (mj_own r.1) r.2.1 Lib.Math.abs.name, .static Lib.Math.abs.name, .initialized "java/lang/Math", .code Lib.Math.abs.name Lib.Math.abs.code 1 (some .int)] [r.2.2.2, 621, 63, 622] && decide (r.2.2.1 = 3007)
set_option maxRecDepth 1000000 in
theorem mj_ml_ok : mj_ml.all mj_mlok = true := by decide +kernel
theorem mj_tin {w : Cond} {q : Nat} (h : lw_tbl[q]? = some w) (hg : goodWord w = true) : w ∈ mj_T := List.mem_filter.mpr ⟨List.mem_of_getElem? h, hg⟩
set_option maxRecDepth 1000000 in
theorem mj_ci0 : mj_C 0 ∈ mj_T := mj_tin (q := 74) rfl rfl
set_option maxRecDepth 1000000 in
theorem mj_ci1 : mj_C 1 ∈ mj_T := mj_tin (q := 83) rfl rfl
set_option maxRecDepth 1000000 in
theorem mj_ci2 : mj_C 2 ∈ mj_T := mj_tin (q := 90) rfl rfl
set_option maxRecDepth 1000000 in
theorem mj_ci3 : mj_C 3 ∈ mj_T := mj_tin (q := 97) rfl rfl
set_option maxRecDepth 1000000 in
theorem mj_ci4 : mj_C 4 ∈ mj_T := mj_tin (q := 104) rfl rfl
set_option maxRecDepth 1000000 in
theorem mj_ci5 : mj_C 5 ∈ mj_T := mj_tin (q := 111) rfl rfl
set_option maxRecDepth 1000000 in
theorem mj_ci6 : mj_C 6 ∈ mj_T := mj_tin (q := 118) rfl rfl
set_option maxRecDepth 1000000 in
theorem mj_ci7 : mj_C 7 ∈ mj_T := mj_tin (q := 127) rfl rfl
set_option maxRecDepth 1000000 in
theorem mj_ci8 : mj_C 8 ∈ mj_T := mj_tin (q := 152) rfl rfl
set_option maxRecDepth 1000000 in
theorem mj_ci9 : mj_C 9 ∈ mj_T := mj_tin (q := 202) rfl rfl
set_option maxRecDepth 1000000 in
theorem mj_ci10 : mj_C 10 ∈ mj_T := mj_tin (q := 226) rfl rfl
set_option maxRecDepth 1000000 in
theorem mj_ci11 : mj_C 11 ∈ mj_T := mj_tin (q := 244) rfl rfl
set_option maxRecDepth 1000000 in
theorem mj_ci12 : mj_C 12 ∈ mj_T := mj_tin (q := 306) rfl rfl
set_option maxRecDepth 1000000 in
theorem mj_ci13 : mj_C 13 ∈ mj_T := mj_tin (q := 309) rfl rfl
set_option maxRecDepth 1000000 in
theorem mj_ci14 : mj_C 14 ∈ mj_T := mj_tin (q := 312) rfl rfl
set_option maxRecDepth 1000000 in
theorem mj_ci15 : mj_C 15 ∈ mj_T := mj_tin (q := 315) rfl rfl
set_option maxRecDepth 1000000 in
theorem mj_ci16 : mj_C 16 ∈ mj_T := mj_tin (q := 318) rfl rfl
set_option maxRecDepth 1000000 in
theorem mj_ci17 : mj_C 17 ∈ mj_T := mj_tin (q := 324) rfl rfl
set_option maxRecDepth 1000000 in
theorem mj_ci18 : mj_C 18 ∈ mj_T := mj_tin (q := 328) rfl rfl
set_option maxRecDepth 1000000 in
theorem mj_ci19 : mj_C 19 ∈ mj_T := mj_tin (q := 332) rfl rfl
set_option maxRecDepth 1000000 in
theorem mj_ci20 : mj_C 20 ∈ mj_T := mj_tin (q := 336) rfl rfl
set_option maxRecDepth 1000000 in
theorem mj_ci21 : mj_C 21 ∈ mj_T := mj_tin (q := 340) rfl rfl
set_option maxRecDepth 1000000 in
theorem mj_ci22 : mj_C 22 ∈ mj_T := mj_tin (q := 344) rfl rfl
set_option maxRecDepth 1000000 in
theorem mj_ci23 : mj_C 23 ∈ mj_T := mj_tin (q := 347) rfl rfl
set_option maxRecDepth 1000000 in
theorem mj_ci24 : mj_C 24 ∈ mj_T := mj_tin (q := 351) rfl rfl
set_option maxRecDepth 1000000 in
theorem mj_ci25 : mj_C 25 ∈ mj_T := mj_tin (q := 354) rfl rfl
set_option maxRecDepth 1000000 in
theorem mj_ci26 : mj_C 26 ∈ mj_T := mj_tin (q := 367) rfl rfl
set_option maxRecDepth 1000000 in
theorem mj_ci27 : mj_C 27 ∈ mj_T := mj_tin (q := 370) rfl rfl
set_option maxRecDepth 1000000 in
theorem mj_ci28 : mj_C 28 ∈ mj_T := mj_tin (q := 374) rfl rfl
set_option maxRecDepth 1000000 in
theorem mj_ci29 : mj_C 29 ∈ mj_T := mj_tin (q := 377) rfl rfl
set_option maxRecDepth 1000000 in
theorem mj_ci30 : mj_C 30 ∈ mj_T := mj_tin (q := 381) rfl rfl
set_option maxRecDepth 1000000 in
theorem mj_ci31 : mj_C 31 ∈ mj_T := mj_tin (q := 385) rfl rfl
set_option maxRecDepth 1000000 in
theorem mj_ci32 : mj_C 32 ∈ mj_T := mj_tin (q := 389) rfl rfl
set_option maxRecDepth 1000000 in
theorem mj_ci33 : mj_C 33 ∈ mj_T := mj_tin (q := 398) rfl rfl
set_option maxRecDepth 1000000 in
theorem mj_ci34 : mj_C 34 ∈ mj_T := mj_tin (q := 401) rfl rfl
set_option maxRecDepth 1000000 in
theorem mj_ci35 : mj_C 35 ∈ mj_T := mj_tin (q := 404) rfl rfl
set_option maxRecDepth 1000000 in
theorem mj_ci36 : mj_C 36 ∈ mj_T := mj_tin (q := 407) rfl rfl
set_option maxRecDepth 1000000 in
theorem mj_ci37 : mj_C 37 ∈ mj_T := mj_tin (q := 410) rfl rfl
set_option maxRecDepth 1000000 in
theorem mj_ci38 : mj_C 38 ∈ mj_T := mj_tin (q := 417) rfl rfl
set_option maxRecDepth 1000000 in
theorem mj_ci39 : mj_C 39 ∈ mj_T := mj_tin (q := 420) rfl rfl
set_option maxRecDepth 1000000 in
theorem mj_ci40 : mj_C 40 ∈ mj_T := mj_tin (q := 423) rfl rfl
set_option maxRecDepth 1000000 in
theorem mj_ci41 : mj_C 41 ∈ mj_T := mj_tin (q := 426) rfl rfl
set_option maxRecDepth 1000000 in
theorem mj_ci42 : mj_C 42 ∈ mj_T := mj_tin (q := 429) rfl rfl
set_option maxRecDepth 1000000 in
theorem mj_ci43 : mj_C 43 ∈ mj_T := mj_tin (q := 432) rfl rfl
set_option maxRecDepth 1000000 in
theorem mj_ci44 : mj_C 44 ∈ mj_T := mj_tin (q := 436) rfl rfl
set_option maxRecDepth 1000000 in
theorem mj_ci45 : mj_C 45 ∈ mj_T := mj_tin (q := 439) rfl rfl
set_option maxRecDepth 1000000 in
theorem mj_ci46 : mj_C 46 ∈ mj_T := mj_tin (q := 443) rfl rfl
set_option maxRecDepth 1000000 in
theorem mj_ci47 : mj_C 47 ∈ mj_T := mj_tin (q := 450) rfl rfl
set_option maxRecDepth 1000000 in
theorem mj_ci48 : mj_C 48 ∈ mj_T := mj_tin (q := 453) rfl rfl
set_option maxRecDepth 1000000 in
theorem mj_ci49 : mj_C 49 ∈ mj_T := mj_tin (q := 457) rfl rfl
set_option maxRecDepth 1000000 in
theorem mj_ci50 : mj_C 50 ∈ mj_T := mj_tin (q := 461) rfl rfl
set_option maxRecDepth 1000000 in
theorem mj_ci51 : mj_C 51 ∈ mj_T := mj_tin (q := 465) rfl rfl
set_option maxRecDepth 1000000 in
theorem mj_ci52 : mj_C 52 ∈ mj_T := mj_tin (q := 468) rfl rfl
set_option maxRecDepth 1000000 in
theorem mj_ci53 : mj_C 53 ∈ mj_T := mj_tin (q := 473) rfl rfl
set_option maxRecDepth 1000000 in
theorem mj_ci54 : mj_C 54 ∈ mj_T := mj_tin (q := 477) rfl rfl
set_option maxRecDepth 1000000 in
theorem mj_ci55 : mj_C 55 ∈ mj_T := mj_tin (q := 481) rfl rfl
set_option maxRecDepth 1000000 in
theorem mj_ci56 : mj_C 56 ∈ mj_T := mj_tin (q := 485) rfl rfl
set_option maxRecDepth 1000000 in
theorem mj_ci57 : mj_C 57 ∈ mj_T := mj_tin (q := 489) rfl rfl
set_option maxRecDepth 1000000 in
theorem mj_ci58 : mj_C 58 ∈ mj_T := mj_tin (q := 493) rfl rfl
set_option maxRecDepth 1000000 in
theorem mj_ci59 : mj_C 59 ∈ mj_T := mj_tin (q := 497) rfl rfl
set_option maxRecDepth 1000000 in
theorem mj_ci60 : mj_C 60 ∈ mj_T := mj_tin (q := 502) rfl rfl
set_option maxRecDepth 1000000 in
theorem mj_ci61 : mj_C 61 ∈ mj_T := mj_tin (q := 506) rfl rfl
set_option maxRecDepth 1000000 in
theorem mj_ci62 : mj_C 62 ∈ mj_T := mj_tin (q := 510) rfl rfl
set_option maxRecDepth 1000000 in
theorem mj_ci63 : mj_C 63 ∈ mj_T := mj_tin (q := 514) rfl rfl
set_option maxRecDepth 1000000 in
theorem mj_ci64 : mj_C 64 ∈ mj_T := mj_tin (q := 519) rfl rfl
set_option maxRecDepth 1000000 in
theorem mj_ci65 : mj_C 65 ∈ mj_T := mj_tin (q := 526) rfl rfl
set_option maxRecDepth 1000000 in
theorem mj_ci66 : mj_C 66 ∈ mj_T := mj_tin (q := 531) rfl rfl
set_option maxRecDepth 1000000 in
theorem mj_ci67 : mj_C 67 ∈ mj_T := mj_tin (q := 535) rfl rfl
set_option maxRecDepth 1000000 in
theorem mj_ci68 : mj_C 68 ∈ mj_T := mj_tin (q := 539) rfl rfl
set_option maxRecDepth 1000000 in
theorem mj_ci69 : mj_C 69 ∈ mj_T := mj_tin (q := 543) rfl rfl
set_option maxRecDepth 1000000 in
theorem mj_ci70 : mj_C 70 ∈ mj_T := mj_tin (q := 547) rfl rfl
set_option maxRecDepth 1000000 in
theorem mj_ci71 : mj_C 71 ∈ mj_T := mj_tin (q := 554) rfl rfl
set_option maxRecDepth 1000000 in
theorem mj_ci72 : mj_C 72 ∈ mj_T := mj_tin (q := 559) rfl rfl
set_option maxRecDepth 1000000 in
theorem mj_ci73 : mj_C 73 ∈ mj_T := mj_tin (q := 562) rfl rfl
set_option maxRecDepth 1000000 in
theorem mj_ci74 : mj_C 74 ∈ mj_T := mj_tin (q := 566) rfl rfl
set_option maxRecDepth 1000000 in
theorem mj_ci75 : mj_C 75 ∈ mj_T := mj_tin (q := 570) rfl rfl
set_option maxRecDepth 1000000 in
theorem mj_ci76 : mj_C 76 ∈ mj_T := mj_tin (q := 574) rfl rfl
set_option maxRecDepth 1000000 in
theorem mj_ci77 : mj_C 77 ∈ mj_T := mj_tin (q := 578) rfl rfl
set_option maxRecDepth 1000000 in
theorem mj_ci78 : mj_C 78 ∈ mj_T := mj_tin (q := 582) rfl rfl
set_option maxRecDepth 1000000 in
theorem mj_ci79 : mj_C 79 ∈ mj_T := mj_tin (q := 586) rfl rfl
set_option maxRecDepth 1000000 in
theorem mj_ci80 : mj_C 80 ∈ mj_T := mj_tin (q := 590) rfl rfl
set_option maxRecDepth 1000000 in
theorem mj_ci81 : mj_C 81 ∈ mj_T := mj_tin (q := 594) rfl rfl
set_option maxRecDepth 1000000 in
theorem mj_ci82 : mj_C 82 ∈ mj_T := mj_tin (q := 598) rfl rfl
set_option maxRecDepth 1000000 in
theorem mj_ci83 : mj_C 83 ∈ mj_T := mj_tin (q := 602) rfl rfl
set_option maxRecDepth 1000000 in
theorem mj_ci84 : mj_C 84 ∈ mj_T := mj_tin (q := 605) rfl rfl
set_option maxRecDepth 1000000 in
theorem mj_ci85 : mj_C 85 ∈ mj_T := mj_tin (q := 609) rfl rfl
set_option maxRecDepth 1000000 in
theorem mj_ci86 : mj_C 86 ∈ mj_T := mj_tin (q := 614) rfl rfl
set_option maxRecDepth 1000000 in
theorem mj_ci87 : mj_C 87 ∈ mj_T := mj_tin (q := 618) rfl rfl
set_option maxRecDepth 1000000 in
theorem mj_ci88 : mj_C 88 ∈ mj_T := mj_tin (q := 626) rfl rfl
set_option maxRecDepth 1000000 in
theorem mj_ci89 : mj_C 89 ∈ mj_T := mj_tin (q := 631) rfl rfl
set_option maxRecDepth 1000000 in
theorem mj_ci90 : mj_C 90 ∈ mj_T := mj_tin (q := 635) rfl rfl
set_option maxRecDepth 1000000 in
theorem mj_ci91 : mj_C 91 ∈ mj_T := mj_tin (q := 639) rfl rfl
set_option maxRecDepth 1000000 in
theorem mj_ci92 : mj_C 92 ∈ mj_T := mj_tin (q := 643) rfl rfl
set_option maxRecDepth 1000000 in
theorem mj_ci93 : mj_C 93 ∈ mj_T := mj_tin (q := 647) rfl rfl
set_option maxRecDepth 1000000 in
theorem mj_ci94 : mj_C 94 ∈ mj_T := mj_tin (q := 651) rfl rfl
set_option maxRecDepth 1000000 in
theorem mj_ci95 : mj_C 95 ∈ mj_T := mj_tin (q := 655) rfl rfl
set_option maxRecDepth 1000000 in
theorem mj_ci96 : mj_C 96 ∈ mj_T := mj_tin (q := 658) rfl rfl
set_option maxRecDepth 1000000 in
theorem mj_ci97 : mj_C 97 ∈ mj_T := mj_tin (q := 662) rfl rfl
set_option maxRecDepth 1000000 in
theorem mj_ci98 : mj_C 98 ∈ mj_T := mj_tin (q := 667) rfl rfl
set_option maxRecDepth 1000000 in
theorem mj_ci99 : mj_C 99 ∈ mj_T := mj_tin (q := 721) rfl rfl
set_option maxRecDepth 1000000 in
theorem mj_ci100 : mj_C 100 ∈ mj_T := mj_tin (q := 725) rfl rfl
set_option maxRecDepth 1000000 in
theorem mj_ci101 : mj_C 101 ∈ mj_T := mj_tin (q := 729) rfl rfl
set_option maxRecDepth 1000000 in
theorem mj_ci102 : mj_C 102 ∈ mj_T := mj_tin (q := 734) rfl rfl
set_option maxRecDepth 1000000 in
theorem mj_ci103 : mj_C 103 ∈ mj_T := mj_tin (q := 793) rfl rfl
set_option maxRecDepth 1000000 in
theorem mj_ci104 : mj_C 104 ∈ mj_T := mj_tin (q := 797) rfl rfl
set_option maxRecDepth 1000000 in
theorem mj_ci105 : mj_C 105 ∈ mj_T := mj_tin (q := 803) rfl rfl
set_option maxRecDepth 1000000 in
theorem mj_ci106 : mj_C 106 ∈ mj_T := mj_tin (q := 807) rfl rfl
set_option maxRecDepth 1000000 in
theorem mj_ci107 : mj_C 107 ∈ mj_T := mj_tin (q := 814) rfl rfl
set_option maxRecDepth 1000000 in
theorem mj_ci108 : mj_C 108 ∈ mj_T := mj_tin (q := 818) rfl rfl
set_option maxRecDepth 1000000 in
theorem mj_ci109 : mj_C 109 ∈ mj_T := mj_tin (q := 822) rfl rfl
set_option maxRecDepth 1000000 in
theorem mj_ci110 : mj_C 110 ∈ mj_T := mj_tin (q := 825) rfl rfl
set_option maxRecDepth 1000000 in
theorem mj_ci111 : mj_C 111 ∈ mj_T := mj_tin (q := 835) rfl rfl
set_option maxRecDepth 1000000 in
theorem mj_ci112 : mj_C 112 ∈ mj_T := mj_tin (q := 839) rfl rfl
set_option maxRecDepth 1000000 in
theorem mj_ci113 : mj_C 113 ∈ mj_T := mj_tin (q := 843) rfl rfl
set_option maxRecDepth 1000000 in
theorem mj_ci114 : mj_C 114 ∈ mj_T := mj_tin (q := 848) rfl rfl
set_option maxRecDepth 1000000 in
theorem mj_ci115 : mj_C 115 ∈ mj_T := mj_tin (q := 852) rfl rfl
set_option maxRecDepth 1000000 in
theorem mj_ci116 : mj_C 116 ∈ mj_T := mj_tin (q := 856) rfl rfl
set_option maxRecDepth 1000000 in
theorem mj_ci117 : mj_C 117 ∈ mj_T := mj_tin (q := 863) rfl rfl
set_option maxRecDepth 1000000 in
theorem mj_ci118 : mj_C 118 ∈ mj_T := mj_tin (q := 868) rfl rfl
set_option maxRecDepth 1000000 in
theorem mj_ci119 : mj_C 119 ∈ mj_T := mj_tin (q := 872) rfl rfl
set_option maxRecDepth 1000000 in
theorem mj_ci120 : mj_C 120 ∈ mj_T := mj_tin (q := 877) rfl rfl
set_option maxRecDepth 1000000 in
theorem mj_ci121 : mj_C 121 ∈ mj_T := mj_tin (q := 880) rfl rfl
set_option maxRecDepth 1000000 in
theorem mj_ci122 : mj_C 122 ∈ mj_T := mj_tin (q := 884) rfl rfl
set_option maxRecDepth 1000000 in
theorem mj_ci123 : mj_C 123 ∈ mj_T := mj_tin (q := 889) rfl rfl
set_option maxRecDepth 1000000 in
theorem mj_ci124 : mj_C 124 ∈ mj_T := mj_tin (q := 893) rfl rfl
set_option maxRecDepth 1000000 in
theorem mj_ci125 : mj_C 125 ∈ mj_T := mj_tin (q := 897) rfl rfl
set_option maxRecDepth 1000000 in
theorem mj_ci126 : mj_C 126 ∈ mj_T := mj_tin (q := 902) rfl rfl
set_option maxRecDepth 1000000 in
theorem mj_ci127 : mj_C 127 ∈ mj_T := mj_tin (q := 906) rfl rfl
set_option maxRecDepth 1000000 in
theorem mj_ci128 : mj_C 128 ∈ mj_T := mj_tin (q := 910) rfl rfl
set_option maxRecDepth 1000000 in
theorem mj_ci129 : mj_C 129 ∈ mj_T := mj_tin (q := 914) rfl rfl
set_option maxRecDepth 1000000 in
theorem mj_ci130 : mj_C 130 ∈ mj_T := mj_tin (q := 918) rfl rfl
set_option maxRecDepth 1000000 in
theorem mj_ci131 : mj_C 131 ∈ mj_T := mj_tin (q := 922) rfl rfl
set_option maxRecDepth 1000000 in
theorem mj_ci132 : mj_C 132 ∈ mj_T := mj_tin (q := 927) rfl rfl
set_option maxRecDepth 1000000 in
theorem mj_ci133 : mj_C 133 ∈ mj_T := mj_tin (q := 1037) rfl rfl
set_option maxRecDepth 1000000 in
theorem mj_ci134 : mj_C 134 ∈ mj_T := mj_tin (q := 1040) rfl rfl
set_option maxRecDepth 1000000 in
theorem mj_ci135 : mj_C 135 ∈ mj_T := mj_tin (q := 1046) rfl rfl
set_option maxRecDepth 1000000 in
theorem mj_ci136 : mj_C 136 ∈ mj_T := mj_tin (q := 1050) rfl rfl
set_option maxRecDepth 1000000 in
theorem mj_ci137 : mj_C 137 ∈ mj_T := mj_tin (q := 1054) rfl rfl
set_option maxRecDepth 1000000 in
theorem mj_ci138 : mj_C 138 ∈ mj_T := mj_tin (q := 1057) rfl rfl
set_option maxRecDepth 1000000 in
theorem mj_ci139 : mj_C 139 ∈ mj_T := mj_tin (q := 1061) rfl rfl
set_option maxRecDepth 1000000 in
theorem mj_ci140 : mj_C 140 ∈ mj_T := mj_tin (q := 1065) rfl rfl
set_option maxRecDepth 1000000 in
theorem mj_ci141 : mj_C 141 ∈ mj_T := mj_tin (q := 1069) rfl rfl
set_option maxRecDepth 1000000 in
theorem mj_ci142 : mj_C 142 ∈ mj_T := mj_tin (q := 1073) rfl rfl
set_option maxRecDepth 1000000 in
theorem mj_ci143 : mj_C 143 ∈ mj_T := mj_tin (q := 1076) rfl rfl
set_option maxRecDepth 1000000 in
theorem mj_ci144 : mj_C 144 ∈ mj_T := mj_tin (q := 1079) rfl rfl
set_option maxRecDepth 1000000 in
theorem mj_ci145 : mj_C 145 ∈ mj_T := mj_tin (q := 1083) rfl rfl
set_option maxRecDepth 1000000 in
theorem mj_ci146 : mj_C 146 ∈ mj_T := mj_tin (q := 1087) rfl rfl
set_option maxRecDepth 1000000 in
theorem mj_ci147 : mj_C 147 ∈ mj_T := mj_tin (q := 1091) rfl rfl
set_option maxRecDepth 1000000 in
theorem mj_ci148 : mj_C 148 ∈ mj_T := mj_tin (q := 1095) rfl rfl
set_option maxRecDepth 1000000 in
theorem mj_ci149 : mj_C 149 ∈ mj_T := mj_tin (q := 1099) rfl rfl
set_option maxRecDepth 1000000 in
theorem mj_ci150 : mj_C 150 ∈ mj_T := mj_tin (q := 1102) rfl rfl
set_option maxRecDepth 1000000 in
theorem mj_ci151 : mj_C 151 ∈ mj_T := mj_tin (q := 1107) rfl rfl
set_option maxRecDepth 1000000 in
theorem mj_ci152 : mj_C 152 ∈ mj_T := mj_tin (q := 1111) rfl rfl
set_option maxRecDepth 1000000 in
theorem mj_ci153 : mj_C 153 ∈ mj_T := mj_tin (q := 1115) rfl rfl
set_option maxRecDepth 1000000 in
theorem mj_ci154 : mj_C 154 ∈ mj_T := mj_tin (q := 1119) rfl rfl
set_option maxRecDepth 1000000 in
theorem mj_ci155 : mj_C 155 ∈ mj_T := mj_tin (q := 1123) rfl rfl
set_option maxRecDepth 1000000 in
theorem mj_ci156 : mj_C 156 ∈ mj_T := mj_tin (q := 1127) rfl rfl
set_option maxRecDepth 1000000 in
theorem mj_ci157 : mj_C 157 ∈ mj_T := mj_tin (q := 1131) rfl rfl
set_option maxRecDepth 1000000 in
theorem mj_ci158 : mj_C 158 ∈ mj_T := mj_tin (q := 1135) rfl rfl
set_option maxRecDepth 1000000 in
theorem mj_ci159 : mj_C 159 ∈ mj_T := mj_tin (q := 1140) rfl rfl
set_option maxRecDepth 1000000 in
theorem mj_ci160 : mj_C 160 ∈ mj_T := mj_tin (q := 1144) rfl rfl
set_option maxRecDepth 1000000 in
theorem mj_ci161 : mj_C 161 ∈ mj_T := mj_tin (q := 1148) rfl rfl
set_option maxRecDepth 1000000 in
theorem mj_ci162 : mj_C 162 ∈ mj_T := mj_tin (q := 1152) rfl rfl
set_option maxRecDepth 1000000 in
theorem mj_ci163 : mj_C 163 ∈ mj_T := mj_tin (q := 1156) rfl rfl
set_option maxRecDepth 1000000 in
theorem mj_ci164 : mj_C 164 ∈ mj_T := mj_tin (q := 1160) rfl rfl
set_option maxRecDepth 1000000 in
theorem mj_ci165 : mj_C 165 ∈ mj_T := mj_tin (q := 1164) rfl rfl
set_option maxRecDepth 1000000 in
theorem mj_ci166 : mj_C 166 ∈ mj_T := mj_tin (q := 1168) rfl rfl
set_option maxRecDepth 1000000 in
theorem mj_ci167 : mj_C 167 ∈ mj_T := mj_tin (q := 1172) rfl rfl
set_option maxRecDepth 1000000 in
theorem mj_ci168 : mj_C 168 ∈ mj_T := mj_tin (q := 1176) rfl rfl
set_option maxRecDepth 1000000 in
theorem mj_ci169 : mj_C 169 ∈ mj_T := mj_tin (q := 1180) rfl rfl
set_option maxRecDepth 1000000 in
theorem mj_ci170 : mj_C 170 ∈ mj_T := mj_tin (q := 1184) rfl rfl
set_option maxRecDepth 1000000 in
theorem mj_ci171 : mj_C 171 ∈ mj_T := mj_tin (q := 1188) rfl rfl
set_option maxRecDepth 1000000 in
theorem mj_ci172 : mj_C 172 ∈ mj_T := mj_tin (q := 1192) rfl rfl
set_option maxRecDepth 1000000 in
theorem mj_ci173 : mj_C 173 ∈ mj_T := mj_tin (q := 1196) rfl rfl
set_option maxRecDepth 1000000 in
theorem mj_ci174 : mj_C 174 ∈ mj_T := mj_tin (q := 1201) rfl rfl
set_option maxRecDepth 1000000 in
theorem mj_ci175 : mj_C 175 ∈ mj_T := mj_tin (q := 1205) rfl rfl
set_option maxRecDepth 1000000 in
theorem mj_ci176 : mj_C 176 ∈ mj_T := mj_tin (q := 1209) rfl rfl
set_option maxRecDepth 1000000 in
theorem mj_ci177 : mj_C 177 ∈ mj_T := mj_tin (q := 1213) rfl rfl
set_option maxRecDepth 1000000 in
theorem mj_ci178 : mj_C 178 ∈ mj_T := mj_tin (q := 1217) rfl rfl
set_option maxRecDepth 1000000 in
theorem mj_ci179 : mj_C 179 ∈ mj_T := mj_tin (q := 1221) rfl rfl
set_option maxRecDepth 1000000 in
theorem mj_ci180 : mj_C 180 ∈ mj_T := mj_tin (q := 1225) rfl rfl
set_option maxRecDepth 1000000 in
theorem mj_ci181 : mj_C 181 ∈ mj_T := mj_tin (q := 1229) rfl rfl
set_option maxRecDepth 1000000 in
theorem mj_ci182 : mj_C 182 ∈ mj_T := mj_tin (q := 1232) rfl rfl
set_option maxRecDepth 1000000 in
theorem mj_ci183 : mj_C 183 ∈ mj_T := mj_tin (q := 1237) rfl rfl
set_option maxRecDepth 1000000 in
theorem mj_ci184 : mj_C 184 ∈ mj_T := mj_tin (q := 1241) rfl rfl
set_option maxRecDepth 1000000 in
theorem mj_ci185 : mj_C 185 ∈ mj_T := mj_tin (q := 1245) rfl rfl
set_option maxRecDepth 1000000 in
theorem mj_ci186 : mj_C 186 ∈ mj_T := mj_tin (q := 1249) rfl rfl
set_option maxRecDepth 1000000 in
theorem mj_ci187 : mj_C 187 ∈ mj_T := mj_tin (q := 1253) rfl rfl
set_option maxRecDepth 1000000 in
theorem mj_ci188 : mj_C 188 ∈ mj_T := mj_tin (q := 1257) rfl rfl
set_option maxRecDepth 1000000 in
theorem mj_ci189 : mj_C 189 ∈ mj_T := mj_tin (q := 1261) rfl rfl
set_option maxRecDepth 1000000 in
theorem mj_ci190 : mj_C 190 ∈ mj_T := mj_tin (q := 1265) rfl rfl
set_option maxRecDepth 1000000 in
theorem mj_ci191 : mj_C 191 ∈ mj_T := mj_tin (q := 1269) rfl rfl
set_option maxRecDepth 1000000 in
theorem mj_ci192 : mj_C 192 ∈ mj_T := mj_tin (q := 1273) rfl rfl
set_option maxRecDepth 1000000 in
theorem mj_ci193 : mj_C 193 ∈ mj_T := mj_tin (q := 1277) rfl rfl
set_option maxRecDepth 1000000 in
theorem mj_ci194 : mj_C 194 ∈ mj_T := mj_tin (q := 1281) rfl rfl
set_option maxRecDepth 1000000 in
theorem mj_ci195 : mj_C 195 ∈ mj_T := mj_tin (q := 1285) rfl rfl
set_option maxRecDepth 1000000 in
theorem mj_ci196 : mj_C 196 ∈ mj_T := mj_tin (q := 1289) rfl rfl
set_option maxRecDepth 1000000 in
theorem mj_ci197 : mj_C 197 ∈ mj_T := mj_tin (q := 1292) rfl rfl
set_option maxRecDepth 1000000 in
theorem mj_ci198 : mj_C 198 ∈ mj_T := mj_tin (q := 1296) rfl rfl
set_option maxRecDepth 1000000 in
theorem mj_ci199 : mj_C 199 ∈ mj_T := mj_tin (q := 1300) rfl rfl
set_option maxRecDepth 1000000 in
theorem mj_ci200 : mj_C 200 ∈ mj_T := mj_tin (q := 1304) rfl rfl
set_option maxRecDepth 1000000 in
theorem mj_ci201 : mj_C 201 ∈ mj_T := mj_tin (q := 1308) rfl rfl
set_option maxRecDepth 1000000 in
theorem mj_ci202 : mj_C 202 ∈ mj_T := mj_tin (q := 1312) rfl rfl
set_option maxRecDepth 1000000 in
theorem mj_ci203 : mj_C 203 ∈ mj_T := mj_tin (q := 1317) rfl rfl
set_option maxRecDepth 1000000 in
theorem mj_ci204 : mj_C 204 ∈ mj_T := mj_tin (q := 1324) rfl rfl
set_option maxRecDepth 1000000 in
theorem mj_ci205 : mj_C 205 ∈ mj_T := mj_tin (q := 1328) rfl rfl
set_option maxRecDepth 1000000 in
theorem mj_ci206 : mj_C 206 ∈ mj_T := mj_tin (q := 1332) rfl rfl
set_option maxRecDepth 1000000 in
theorem mj_ci207 : mj_C 207 ∈ mj_T := mj_tin (q := 1336) rfl rfl
set_option maxRecDepth 1000000 in
theorem mj_ci208 : mj_C 208 ∈ mj_T := mj_tin (q := 1339) rfl rfl
set_option maxRecDepth 1000000 in
theorem mj_ci209 : mj_C 209 ∈ mj_T := mj_tin (q := 1343) rfl rfl
set_option maxRecDepth 1000000 in
theorem mj_ci210 : mj_C 210 ∈ mj_T := mj_tin (q := 1347) rfl rfl
set_option maxRecDepth 1000000 in
theorem mj_ci211 : mj_C 211 ∈ mj_T := mj_tin (q := 1351) rfl rfl
set_option maxRecDepth 1000000 in
theorem mj_ci212 : mj_C 212 ∈ mj_T := mj_tin (q := 1356) rfl rfl
set_option maxRecDepth 1000000 in
theorem mj_ci213 : mj_C 213 ∈ mj_T := mj_tin (q := 1360) rfl rfl
set_option maxRecDepth 1000000 in
theorem mj_ci214 : mj_C 214 ∈ mj_T := mj_tin (q := 1363) rfl rfl
set_option maxRecDepth 1000000 in
theorem mj_ci215 : mj_C 215 ∈ mj_T := mj_tin (q := 1367) rfl rfl
set_option maxRecDepth 1000000 in
theorem mj_ci216 : mj_C 216 ∈ mj_T := mj_tin (q := 1371) rfl rfl
set_option maxRecDepth 1000000 in
theorem mj_ci217 : mj_C 217 ∈ mj_T := mj_tin (q := 1375) rfl rfl
set_option maxRecDepth 1000000 in
theorem mj_ci218 : mj_C 218 ∈ mj_T := mj_tin (q := 1379) rfl rfl
theorem mj_cb0 : ∀ y ∈ ([0, 1, 2, 3, 4, 5, 6, 7, 8, 9, 10, 11, 12, 13, 14, 15, 16, 17, 18, 19, 20, 21, 22, 23, 24, 25, 26, 27, 28, 29, 30, 31, 32, 33, 34, 35, 36, 37, 38, 39] : List Nat), mj_C y ∈ mj_T := List.forall_mem_cons.mpr ⟨mj_ci0, List.forall_mem_cons.mpr ⟨mj_ci1, List.forall_mem_cons.mpr ⟨mj_ci2, List.forall_mem_cons.mpr ⟨mj_ci3, List.forall_mem_cons.mpr ⟨mj_ci4, List.forall_mem_cons.mpr ⟨mj_ci5, List.forall_mem_cons.mpr ⟨mj_ci6, List.forall_mem_cons.mpr ⟨mj_ci7, List.forall_mem_cons.mpr ⟨mj_ci8, List.forall_mem_cons.mpr ⟨mj_ci9, List.forall_mem_cons.mpr ⟨mj_ci10, List.forall_mem_cons.mpr ⟨mj_ci11, List.forall_mem_cons.mpr ⟨mj_ci12, List.forall_mem_cons.mpr ⟨mj_ci13, List.forall_mem_cons.mpr ⟨mj_ci14, List.forall_mem_cons.mpr ⟨mj_ci15, List.forall_mem_cons.mpr ⟨mj_ci16, List.forall_mem_cons.mpr ⟨mj_ci17, List.forall_mem_cons.mpr ⟨mj_ci18, List.forall_mem_cons.mpr ⟨mj_ci19, List.forall_mem_cons.mpr ⟨mj_ci20, List.forall_mem_cons.mpr ⟨mj_ci21, List.forall_mem_cons.mpr ⟨mj_ci22, List.forall_mem_cons.mpr ⟨mj_ci23, List.forall_mem_cons.mpr ⟨mj_ci24, List.forall_mem_cons.mpr ⟨mj_ci25, List.forall_mem_cons.mpr ⟨mj_ci26, List.forall_mem_cons.mpr ⟨mj_ci27, List.forall_mem_cons.mpr ⟨mj_ci28, List.forall_mem_cons.mpr ⟨mj_ci29, List.forall_mem_cons.mpr ⟨mj_ci30, List.forall_mem_cons.mpr ⟨mj_ci31, List.forall_mem_cons.mpr ⟨mj_ci32, List.forall_mem_cons.mpr ⟨mj_ci33, List.forall_mem_cons.mpr ⟨mj_ci34, List.forall_mem_cons.mpr ⟨mj_ci35, List.forall_mem_cons.mpr ⟨mj_ci36, List.forall_mem_cons.mpr ⟨mj_ci37, List.forall_mem_cons.mpr ⟨mj_ci38, List.forall_mem_cons.mpr ⟨mj_ci39, fun _ h => absurd h List.not_mem_nil⟩⟩⟩⟩⟩⟩⟩⟩⟩⟩⟩⟩⟩⟩⟩⟩⟩⟩⟩⟩⟩⟩⟩⟩⟩⟩⟩⟩⟩⟩⟩⟩⟩⟩⟩⟩⟩⟩⟩⟩
theorem mj_cb40 : ∀ y ∈ ([40, 41, 42, 43, 44, 45, 46, 47, 48, 49, 50, 51, 52, 53, 54, 55, 56, 57, 58, 59, 60, 61, 62, 63, 64, 65, 66, 67, 68, 69, 70, 71, 72, 73, 74, 75, 76, 77, 78, 79] : List Nat), mj_C y ∈ mj_T := List.forall_mem_cons.mpr ⟨mj_ci40, List.forall_mem_cons.mpr ⟨mj_ci41, List.forall_mem_cons.mpr ⟨mj_ci42, List.forall_mem_cons.mpr ⟨mj_ci43, List.forall_mem_cons.mpr ⟨mj_ci44, List.forall_mem_cons.mpr ⟨mj_ci45, List.forall_mem_cons.mpr ⟨mj_ci46, List.forall_mem_cons.mpr ⟨mj_ci47, List.forall_mem_cons.mpr ⟨mj_ci48, List.forall_mem_cons.mpr ⟨mj_ci49, List.forall_mem_cons.mpr ⟨mj_ci50, List.forall_mem_cons.mpr ⟨mj_ci51, List.forall_mem_cons.mpr ⟨mj_ci52, List.forall_mem_cons.mpr ⟨mj_ci53, List.forall_mem_cons.mpr ⟨mj_ci54, List.forall_mem_cons.mpr ⟨mj_ci55, List.forall_mem_cons.mpr ⟨mj_ci56, List.forall_mem_cons.mpr ⟨mj_ci57, List.forall_mem_cons.mpr ⟨mj_ci58, List.forall_mem_cons.mpr ⟨mj_ci59, List.forall_mem_cons.mpr ⟨mj_ci60, List.forall_mem_cons.mpr ⟨mj_ci61, List.forall_mem_cons.mpr ⟨mj_ci62, List.forall_mem_cons.mpr ⟨mj_ci63, List.forall_mem_cons.mpr ⟨mj_ci64, List.forall_mem_cons.mpr ⟨mj_ci65, List.forall_mem_cons.mpr ⟨mj_ci66, List.forall_mem_cons.mpr ⟨mj_ci67, List.forall_mem_cons.mpr ⟨mj_ci68, List.forall_mem_cons.mpr ⟨mj_ci69, List.forall_mem_cons.mpr ⟨mj_ci70, List.forall_mem_cons.mpr ⟨mj_ci71, List.forall_mem_cons.mpr ⟨mj_ci72, List.forall_mem_cons.mpr ⟨mj_ci73, List.forall_mem_cons.mpr ⟨mj_ci74, List.forall_mem_cons.mpr ⟨mj_ci75, List.forall_mem_cons.mpr ⟨mj_ci76, List.forall_mem_cons.mpr ⟨mj_ci77, List.forall_mem_cons.mpr ⟨mj_ci78, List.forall_mem_cons.mpr ⟨mj_ci79, fun _ h => absurd h List.not_mem_nil⟩⟩⟩⟩⟩⟩⟩⟩⟩⟩⟩⟩⟩⟩⟩⟩⟩⟩⟩⟩⟩⟩⟩⟩⟩⟩⟩⟩⟩⟩⟩⟩⟩⟩⟩⟩⟩⟩⟩⟩
theorem mj_cb80 : ∀ y ∈ ([80, 81, 82, 83, 84, 85, 86, 87, 88, 89, 90, 91, 92, 93, 94, 95, 96, 97, 98, 99, 100, 101, 102, 103, 104, 105, 106, 107, 108, 109, 110, 111, 112, 113, 114, 115, 116, 117, 118, 119] : List Nat), mj_C y ∈ mj_T := List.forall_mem_cons.mpr ⟨mj_ci80, List.forall_mem_cons.mpr ⟨mj_ci81, List.forall_mem_cons.mpr ⟨mj_ci82, List.forall_mem_cons.mpr ⟨mj_ci83, List.forall_mem_cons.mpr ⟨mj_ci84, List.forall_mem_cons.mpr ⟨mj_ci85, List.forall_mem_cons.mpr ⟨mj_ci86, List.forall_mem_cons.mpr ⟨mj_ci87, List.forall_mem_cons.mpr ⟨mj_ci88, List.forall_mem_cons.mpr ⟨mj_ci89, List.forall_mem_cons.mpr ⟨mj_ci90, List.forall_mem_cons.mpr ⟨mj_ci91, List.forall_mem_cons.mpr ⟨mj_ci92, List.forall_mem_cons.mpr ⟨mj_ci93, List.forall_mem_cons.mpr ⟨mj_ci94, List.forall_mem_cons.mpr ⟨mj_ci95, List.forall_mem_cons.mpr ⟨mj_ci96, List.forall_mem_cons.mpr ⟨mj_ci97, List.forall_mem_cons.mpr ⟨mj_ci98, List.forall_mem_cons.mpr ⟨mj_ci99, List.forall_mem_cons.mpr ⟨mj_ci100, List.forall_mem_cons.mpr ⟨mj_ci101, List.forall_mem_cons.mpr ⟨mj_ci102, List.forall_mem_cons.mpr ⟨mj_ci103, List.forall_mem_cons.mpr ⟨mj_ci104, List.forall_mem_cons.mpr ⟨mj_ci105, List.forall_mem_cons.mpr ⟨mj_ci106, List.forall_mem_cons.mpr ⟨mj_ci107, List.forall_mem_cons.mpr ⟨mj_ci108, List.forall_mem_cons.mpr ⟨mj_ci109, List.forall_mem_cons.mpr ⟨mj_ci110, List.forall_mem_cons.mpr ⟨mj_ci111, List.forall_mem_cons.mpr ⟨mj_ci112, List.forall_mem_cons.mpr ⟨mj_ci113, List.forall_mem_cons.mpr ⟨mj_ci114, List.forall_mem_cons.mpr ⟨mj_ci115, List.forall_mem_cons.mpr ⟨mj_ci116, List.forall_mem_cons.mpr ⟨mj_ci117, List.forall_mem_cons.mpr ⟨mj_ci118, List.forall_mem_cons.mpr ⟨mj_ci119, fun _ h => absurd h List.not_mem_nil⟩⟩⟩⟩⟩⟩⟩⟩⟩⟩⟩⟩⟩⟩⟩⟩⟩⟩⟩⟩⟩⟩⟩⟩⟩⟩⟩⟩⟩⟩⟩⟩⟩⟩⟩⟩⟩⟩⟩⟩
theorem mj_cb120 : ∀ y ∈ ([120, 121, 122, 123, 124, 125, 126, 127, 128, 129, 130, 131, 132, 133, 134, 135, 136, 137, 138, 139, 140, 141, 142, 143, 144, 145, 146, 147, 148, 149, 150, 151, 152, 153, 154, 155, 156, 157, 158, 159] : List Nat), mj_C y ∈ mj_T := List.forall_mem_cons.mpr ⟨mj_ci120, List.forall_mem_cons.mpr ⟨mj_ci121, List.forall_mem_cons.mpr ⟨mj_ci122, List.forall_mem_cons.mpr ⟨mj_ci123, List.forall_mem_cons.mpr ⟨mj_ci124, List.forall_mem_cons.mpr ⟨mj_ci125, List.forall_mem_cons.mpr ⟨mj_ci126, List.forall_mem_cons.mpr ⟨mj_ci127, List.forall_mem_cons.mpr ⟨mj_ci128, List.forall_mem_cons.mpr ⟨mj_ci129, List.forall_mem_cons.mpr ⟨mj_ci130, List.forall_mem_cons.mpr ⟨mj_ci131, List.forall_mem_cons.mpr ⟨mj_ci132, List.forall_mem_cons.mpr ⟨mj_ci133, List.forall_mem_cons.mpr ⟨mj_ci134, List.forall_mem_cons.mpr ⟨mj_ci135, List.forall_mem_cons.mpr ⟨mj_ci136, List.forall_mem_cons.mpr ⟨mj_ci137, List.forall_mem_cons.mpr ⟨mj_ci138, List.forall_mem_cons.mpr ⟨mj_ci139, List.forall_mem_cons.mpr ⟨mj_ci140, List.forall_mem_cons.mpr ⟨mj_ci141, List.forall_mem_cons.mpr ⟨mj_ci142, List.forall_mem_cons.mpr ⟨mj_ci143, List.forall_mem_cons.mpr ⟨mj_ci144, List.forall_mem_cons.mpr ⟨mj_ci145, List.forall_mem_cons.mpr ⟨mj_ci146, List.forall_mem_cons.mpr ⟨mj_ci147, List.forall_mem_cons.mpr ⟨mj_ci148, List.forall_mem_cons.mpr ⟨mj_ci149, List.forall_mem_cons.mpr ⟨mj_ci150, List.forall_mem_cons.mpr ⟨mj_ci151, List.forall_mem_cons.mpr ⟨mj_ci152, List.forall_mem_cons.mpr ⟨mj_ci153, List.forall_mem_cons.mpr ⟨mj_ci154, List.forall_mem_cons.mpr ⟨mj_ci155, List.forall_mem_cons.mpr ⟨mj_ci156, List.forall_mem_cons.mpr ⟨mj_ci157, List.forall_mem_cons.mpr ⟨mj_ci158, List.forall_mem_cons.mpr ⟨mj_ci159, fun _ h => absurd h List.not_mem_nil⟩⟩⟩⟩⟩⟩⟩⟩⟩⟩⟩⟩⟩⟩⟩⟩⟩⟩⟩⟩⟩⟩⟩⟩⟩⟩⟩⟩⟩⟩⟩⟩⟩⟩⟩⟩⟩⟩⟩⟩
theorem mj_cb160 : ∀ y ∈ ([160, 161, 162, 163, 164, 165, 166, 167, 168, 169, 170, 171, 172, 173, 174, 175, 176, 177, 178, 179, 180, 181, 182, 183, 184, 185, 186, 187, 188, 189, 190, 191, 192, 193, 194, 195, 196, 197, 198, 199] : List Nat), mj_C y ∈ mj_T := List.forall_mem_cons.mpr ⟨mj_ci160, List.forall_mem_cons.mpr ⟨mj_ci161, List.forall_mem_cons.mpr ⟨mj_ci162, List.forall_mem_cons.mpr ⟨mj_ci163, List.forall_mem_cons.mpr ⟨mj_ci164, List.forall_mem_cons.mpr ⟨mj_ci165, List.forall_mem_cons.mpr ⟨mj_ci166, List.forall_mem_cons.mpr ⟨mj_ci167, List.forall_mem_cons.mpr ⟨mj_ci168, List.forall_mem_cons.mpr ⟨mj_ci169, List.forall_mem_cons.mpr ⟨mj_ci170, List.forall_mem_cons.mpr ⟨mj_ci171, List.forall_mem_cons.mpr ⟨mj_ci172, List.forall_mem_cons.mpr ⟨mj_ci173, List.forall_mem_cons.mpr ⟨mj_ci174, List.forall_mem_cons.mpr ⟨mj_ci175, List.forall_mem_cons.mpr ⟨mj_ci176, List.forall_mem_cons.mpr ⟨mj_ci177, List.forall_mem_cons.mpr ⟨mj_ci178, List.forall_mem_cons.mpr ⟨mj_ci179, List.forall_mem_cons.mpr ⟨mj_ci180, List.forall_mem_cons.mpr ⟨mj_ci181, List.forall_mem_cons.mpr ⟨mj_ci182, List.forall_mem_cons.mpr ⟨mj_ci183, List.forall_mem_cons.mpr ⟨mj_ci184, List.forall_mem_cons.mpr ⟨mj_ci185, List.forall_mem_cons.mpr ⟨mj_ci186, List.forall_mem_cons.mpr ⟨mj_ci187, List.forall_mem_cons.mpr ⟨mj_ci188, List.forall_mem_cons.mpr ⟨mj_ci189, List.forall_mem_cons.mpr ⟨mj_ci190, List.forall_mem_cons.mpr ⟨mj_ci191, List.forall_mem_cons.mpr ⟨mj_ci192, List.forall_mem_cons.mpr ⟨mj_ci193, List.forall_mem_cons.mpr ⟨mj_ci194, List.forall_mem_cons.mpr ⟨mj_ci195, List.forall_mem_cons.mpr ⟨mj_ci196, List.forall_mem_cons.mpr ⟨mj_ci197, List.forall_mem_cons.mpr ⟨mj_ci198, List.forall_mem_cons.mpr ⟨mj_ci199, fun _ h => absurd h List.not_mem_nil⟩⟩⟩⟩⟩⟩⟩⟩⟩⟩⟩⟩⟩⟩⟩⟩⟩⟩⟩⟩⟩⟩⟩⟩⟩⟩⟩⟩⟩⟩⟩⟩⟩⟩⟩⟩⟩⟩⟩⟩
theorem mj_cb200 : ∀ y ∈ ([200, 201, 202, 203, 204, 205, 206, 207, 208, 209, 210, 211, 212, 213, 214, 215, 216, 217, 218] : List Nat), mj_C y ∈ mj_T := List.forall_mem_cons.mpr ⟨mj_ci200, List.forall_mem_cons.mpr ⟨mj_ci201, List.forall_mem_cons.mpr ⟨mj_ci202, List.forall_mem_cons.mpr ⟨mj_ci203, List.forall_mem_cons.mpr ⟨mj_ci204, List.forall_mem_cons.mpr ⟨mj_ci205, List.forall_mem_cons.mpr ⟨mj_ci206, List.forall_mem_cons.mpr ⟨mj_ci207, List.forall_mem_cons.mpr ⟨mj_ci208, List.forall_mem_cons.mpr ⟨mj_ci209, List.forall_mem_cons.mpr ⟨mj_ci210, List.forall_mem_cons.mpr ⟨mj_ci211, List.forall_mem_cons.mpr ⟨mj_ci212, List.forall_mem_cons.mpr ⟨mj_ci213, List.forall_mem_cons.mpr ⟨mj_ci214, List.forall_mem_cons.mpr ⟨mj_ci215, List.forall_mem_cons.mpr ⟨mj_ci216, List.forall_mem_cons.mpr ⟨mj_ci217, List.forall_mem_cons.mpr ⟨mj_ci218, fun _ h => absurd h List.not_mem_nil⟩⟩⟩⟩⟩⟩⟩⟩⟩⟩⟩⟩⟩⟩⟩⟩⟩⟩⟩
theorem mj_cin {y : Nat} (hy : y < 219) : mj_C y ∈ mj_T := by
  rcases Nat.lt_or_ge y 40 with h | h
  · exact mj_cb0 y (by (have : ∀ z, z < 40 → 0 ≤ z → z ∈ ([0, 1, 2, 3, 4, 5, 6, 7, 8, 9, 10, 11, 12, 13, 14, 15, 16, 17, 18, 19, 20, 21, 22, 23, 24, 25, 26, 27, 28, 29, 30, 31, 32, 33, 34, 35, 36, 37, 38, 39] : List Nat) := by decide +kernel); exact this y h (by omega))
  rcases Nat.lt_or_ge y 80 with h | h
  · exact mj_cb40 y (by (have : ∀ z, z < 80 → 40 ≤ z → z ∈ ([40, 41, 42, 43, 44, 45, 46, 47, 48, 49, 50, 51, 52, 53, 54, 55, 56, 57, 58, 59, 60, 61, 62, 63, 64, 65, 66, 67, 68, 69, 70, 71, 72, 73, 74, 75, 76, 77, 78, 79] : List Nat) := by decide +kernel); exact this y h (by omega))
  rcases Nat.lt_or_ge y 120 with h | h
  · exact mj_cb80 y (by (have : ∀ z, z < 120 → 80 ≤ z → z ∈ ([80, 81, 82, 83, 84, 85, 86, 87, 88, 89, 90, 91, 92, 93, 94, 95, 96, 97, 98, 99, 100, 101, 102, 103, 104, 105, 106, 107, 108, 109, 110, 111, 112, 113, 114, 115, 116, 117, 118, 119] : List Nat) := by decide +kernel); exact this y h (by omega))
  rcases Nat.lt_or_ge y 160 with h | h
  · exact mj_cb120 y (by (have : ∀ z, z < 160 → 120 ≤ z → z ∈ ([120, 121, 122, 123, 124, 125, 126, 127, 128, 129, 130, 131, 132, 133, 134, 135, 136, 137, 138, 139, 140, 141, 142, 143, 144, 145, 146, 147, 148, 149, 150, 151, 152, 153, 154, 155, 156, 157, 158, 159] : List Nat) := by decide +kernel); exact this y h (by omega))
  rcases Nat.lt_or_ge y 200 with h | h
  · exact mj_cb160 y (by (have : ∀ z, z < 200 → 160 ≤ z → z ∈ ([160, 161, 162, 163, 164, 165, 166, 167, 168, 169, 170, 171, 172, 173, 174, 175, 176, 177, 178, 179, 180, 181, 182, 183, 184, 185, 186, 187, 188, 189, 190, 191, 192, 193, 194, 195, 196, 197, 198, 199] : List Nat) := by decide +kernel); exact this y h (by omega))
  exact mj_cb200 y (by (have : ∀ z, z < 219 → 200 ≤ z → z ∈ ([200, 201, 202, 203, 204, 205, 206, 207, 208, 209, 210, 211, 212, 213, 214, 215, 216, 217, 218] : List Nat) := by decide +kernel); exact this y hy h)
end
section
/-- an instruction of a method, checked: its length, where it goes on, what it links -/
def mj_chk (o : Nat) (init : Bool) (pc : Nat) (e : mj_I) : Bool :=
  match e.1 with
  | .bipush _ | .ldc _ | .iload _ | .lload _ | .aload _ | .istore _ | .lstore _ | .astore _ | .newarray _ => decide (e.2.1 = 2) && (match e.1 with
    | .ldc i => if e.2.2.2 = 1 then mj_tl.any (fun r => r.1 == o && r.2.1 == i && r.2.2 == e.2.2.1) else mj_kl.any (fun r => r.1 == o && r.2.1 == i && r.2.2.1 == e.2.2.1)
    | .newarray t => decide (newarray.typeOf t = mj_ty e.2.2.1)
    | _ => true)
  | .sipush _ => decide (e.2.1 = 3)
  | .ldc_w i => decide (e.2.1 = 3) && mj_kl.any (fun r => r.1 == o && r.2.1 == i && r.2.2.1 == e.2.2.1)
  | .iinc _ _ => decide (e.2.1 = 3) || decide (e.2.1 = 6)
  | .goto off | .ifnull off | .ifnonnull off | .ifCond _ off | .if_icmp _ off => decide (e.2.1 = 3) && decide ((pc : Int) + off = (e.2.2.1 : Int))
  | .tableswitch d lo hi offs => decide (0 ≤ (pc : Int) + d) && offs.toList.all (fun off => decide (0 ≤ (pc : Int) + off)) && decide (offs.size = (hi - lo + 1).toNat)
  | .lookupswitch d ps => decide (0 ≤ (pc : Int) + d) && ps.toList.all (fun q => decide (0 ≤ (pc : Int) + q.2)) && (ps.toList.zip (ps.toList.drop 1)).all (fun (a, next) => a.1 < next.1)
  | .getfield i => decide (e.2.1 = 3) && mj_fl.any (fun r => r.1 == o && r.2.1 == i && r.2.2.1 == e.2.2.1 && r.2.2.2.1 == e.2.2.2)
  | .putfield i => decide (e.2.1 = 3) && mj_fl.any (fun r => r.1 == o && r.2.1 == i && r.2.2.1 == e.2.2.1 && r.2.2.2.1 == e.2.2.2) && (match vwCl[e.2.2.1]? with
    | some q => !(q.2.1 e.2.2.2).2.2.2 || (init && decide ((q.2.1 e.2.2.2).1 = mj_own o))
    | none => false)
  | .new i => decide (e.2.1 = 3) && mj_nl.any (fun r => r.1 == o && r.2.1 == i && r.2.2.1 == e.2.2.1)
  | .anewarray i => decide (e.2.1 = 3) && mj_al.any (fun r => r.1 == o && r.2.1 == i && r.2.2.1 == e.2.2.1)
  | .multianewarray i n => decide (e.2.1 = 4) && decide (n = 2) && mj_al.any (fun r => r.1 == o && r.2.1 == i && r.2.2.1 == 27)
  | .invokestatic i => decide (e.2.1 = 3) && (if e.2.2.1 = 3001 then mj_acl.any (fun r => r.1 == o && r.2.1 == i) else if 3005 ≤ e.2.2.1 then mj_ml.any (fun r => r.1 == o && r.2.1 == i && r.2.2.1 == e.2.2.1) else mj_cl.any (fun r => r.1 == o && r.2.1 == i && decide (r.2.2.1 < 2) && r.2.2.2.1 == e.2.2.1 && r.2.2.2.2.1 == e.2.2.2))
  | .invokespecial i => decide (e.2.1 = 3) && (if e.2.2.1 = 3000 then mj_ol.any (fun r => r.1 == o && r.2.1 == i) else mj_cl.any (fun r => r.1 == o && r.2.1 == i && decide (2 ≤ r.2.2.1) && decide (r.2.2.1 < 5) && r.2.2.2.1 == e.2.2.1 && r.2.2.2.2.1 == e.2.2.2))
  | .invokevirtual i => decide (e.2.1 = 3) && (if 3002 ≤ e.2.2.1 then mj_vl.any (fun r => r.1 == o && r.2.1 == i && r.2.2.1 == e.2.2.1) else mj_cl.any (fun r => r.1 == o && r.2.1 == i && (if e.2.2.1 < 1000 then r.2.2.1 == 5 else r.2.2.1 == 6) && r.2.2.2.1 == e.2.2.1 && r.2.2.2.2.1 == e.2.2.2))
  | .pop | .dup | .dup2 | .iadd | .isub | .imul | .idiv | .irem | .ineg | .ishl | .ishr | .iushr | .iand | .ior | .ixor | .ladd | .lsub | .lneg | .lcmp | .i2l | .l2i | .i2s | .i2c | .aconst_null | .iconst _ | .lconst _ | .iload_n _ | .lload_n _ | .aload_n _ | .istore_n _ | .astore_n _ | .lstore_n _ | .arraylength | .iaload | .baload | .caload | .aaload | .iastore | .bastore | .castore | .aastore | .ireturn | .lreturn | .areturn | .return_ => decide (e.2.1 = 1)
  | _ => false
/-- the own class of a method, by number -/
def mj_oc (y : Nat) : Nat := (mj_m y).2.2.2.2
def mj_mok (y : Nat) : Bool := (mj_prog y).all (fun q => decide (decode (mj_m y).2.1 q.1 = .ok (q.2.1, q.2.2.1)) && mj_chk (mj_oc y) (decide ((mj_Y y).name = "<init>")) q.1 q.2) && decide (mj_own (mj_oc y) = (mj_Y y).cls) && plainName (mj_Y y).cls
end
section
/-! ===== what the small machine does without cells, the machine does ===== -/
/-- where the cells lie: the first, the script, the text constants -/
abbrev mj_G : Type := Nat × Nat × (Nat → Nat)
def mj_ad (g : mj_G) (i : Nat) : Nat := if i < mj_X then g.1 + i else if i = mj_X then g.2.1 else g.2.2 (i - (mj_X + 1))
def mj_tr (g : mj_G) : Value → Value
  | .ref i => .ref (mj_ad g i)
  | v => v
theorem mj_tr_cat (g : mj_G) (v : Value) : (mj_tr g v).category = v.category := by cases v <;> rfl
theorem mj_tr_sum (g : mj_G) : ∀ r : List Value, ((r.map (mj_tr g)).map fun v => v.category).sum = mj_sum r
  | [] => rfl
  | v :: r => by
    have h := mj_tr_sum g r
    unfold mj_sum at h ⊢
    simp only [List.map_cons, List.sum_cons, h, mj_tr_cat]
theorem mj_tr_no (g : mj_G) {v : Value} (h : mj_isno v = false) : mj_isno (mj_tr g v) = false := by cases v <;> first | rfl | cases h
def mj_lvl (g : mj_G) : Nat → List Value → List (Nat × Value)
  | _, [] => []
  | i, v :: l => if mj_isno v = true then mj_lvl g (i + 1) l else (i, mj_tr g v) :: mj_lvl g (i + 1) l
theorem mj_lvl_mem (g : mj_G) : ∀ (l : List Value) (i j : Nat) (w : Value), (j, w) ∈ mj_lvl g i l ↔ ∃ v, i ≤ j ∧ l[j - i]? = some v ∧ mj_isno v = false ∧ w = mj_tr g v
  | [], i, j, w => by simp [mj_lvl]
  | x :: l, i, j, w => by
    have ih := mj_lvl_mem g l (i + 1) j w
    have up : ∀ v, i + 1 ≤ j → (l[j - (i + 1)]? = some v ↔ (x :: l)[j - i]? = some v) := fun v h => by
      rw [show j - i = (j - (i + 1)) + 1 by omega, List.getElem?_cons_succ]
    unfold mj_lvl
    by_cases hx : mj_isno x = true
    · rw [if_pos hx, ih]
      constructor
      · rintro ⟨v, h1, h2, h3⟩
        exact ⟨v, by omega, (up v h1).mp h2, h3⟩
      · rintro ⟨v, h1, h2, h3, h4⟩
        by_cases e : j = i
        · subst e
          rw [Nat.sub_self, List.getElem?_cons_zero] at h2
          cases h2
          rw [hx] at h3
          cases h3
        · exact ⟨v, by omega, (up v (by omega)).mpr h2, h3, h4⟩
    · rw [if_neg hx, List.mem_cons, ih]
      constructor
      · rintro (h | ⟨v, h1, h2, h3⟩)
        · cases h
          exact ⟨x, Nat.le_refl _, by rw [Nat.sub_self, List.getElem?_cons_zero], by simpa using hx, rfl⟩
        · exact ⟨v, by omega, (up v h1).mp h2, h3⟩
      · rintro ⟨v, h1, h2, h3, h4⟩
        by_cases e : j = i
        · subst e
          rw [Nat.sub_self, List.getElem?_cons_zero] at h2
          cases h2
          exact Or.inl (by rw [h4])
        · exact Or.inr ⟨v, by omega, (up v (by omega)).mpr h2, h3, h4⟩
/-- the locals hold what the small machine's hold -/
def mj_lok (g : mj_G) (lsr : Array Slot) (ls : List Value) : Prop := lsr.size = ls.length ∧ lv_wf lsr ∧ ∀ (i : Nat) (v : Value), ls[i]? = some v → mj_isno v = false → lsr[i]? = some (.val (mj_tr g v))
theorem mj_lok.get {g : mj_G} {lsr : Array Slot} {ls : List Value} {i : Nat} {v : Value} (h : mj_lok g lsr ls) (hv : ls[i]? = some v) (hn : mj_isno v = false) : lsr[i]? = some (.val (mj_tr g v)) := h.2.2 i v hv hn
theorem mj_lok.has {g : mj_G} {lsr : Array Slot} {ls : List Value} (h : mj_lok g lsr ls) : lv_has lsr ls.length (mj_lvl g 0 ls) := by
  refine ⟨h.1, h.2.1, fun q hq => ?_⟩
  obtain ⟨j, w⟩ := q
  obtain ⟨v, h1, h2, h3, h4⟩ := (mj_lvl_mem g ls 0 j w).mp hq
  rw [Nat.sub_zero] at h2
  rw [h4]
  exact h.get h2 h3
theorem mj_lvl_at {g : mj_G} {ls : List Value} {i : Nat} {v : Value} (h : ls[i]? = some v) (hn : mj_isno v = false) : ∃ k : Nat, (mj_lvl g 0 ls)[k]? = some (i, mj_tr g v) :=
  List.getElem?_of_mem ((mj_lvl_mem g ls 0 i _).mpr ⟨v, Nat.zero_le _, by rw [Nat.sub_zero]; exact h, hn, rfl⟩)
theorem mj_lt {ls : List Value} {i : Nat} {v : Value} (h : ls[i]? = some v) : i < ls.length := (List.getElem?_eq_some_iff.mp h).1
theorem mj_cat2 {g : mj_G} {u : Value} (h : mj_wide (some u) = false) : ((mj_tr g u).category == 2) = false := by cases u <;> first | rfl | cases h
theorem mj_lok.set {g : mj_G} {lsr' : Array Slot} {ls : List Value} {i : Nat} {v : Value} (hi : i < ls.length) (hw : mj_wide ls[i - 1]? = false) (h : lv_has lsr' ls.length ((i, mj_tr g v) :: (mj_lvl g 0 ls).filter (fun q => !(q.1 == i) && !(q.1 + 1 == i && q.2.category == 2)))) : mj_lok g lsr' (ls.set i v) := by
  obtain ⟨h1, h2, h3⟩ := h
  refine ⟨by rw [h1, List.length_set], h2, fun j u hj hn => ?_⟩
  by_cases e : j = i
  · subst e
    rw [List.getElem?_set_self hi] at hj
    cases hj
    exact h3 (j, mj_tr g v) List.mem_cons_self
  · rw [List.getElem?_set_ne (Ne.symm e)] at hj
    refine h3 (j, mj_tr g u) (List.mem_cons_of_mem _ (List.mem_filter.mpr ⟨(mj_lvl_mem g ls 0 j _).mpr ⟨u, Nat.zero_le _, by rw [Nat.sub_zero]; exact hj, hn, rfl⟩, ?_⟩))
    have e1 : (j == i) = false := by simpa using e
    by_cases e2 : j + 1 = i
    · have e3 : i - 1 = j := by omega
      rw [e3, hj] at hw
      simp [e1, mj_cat2 hw]
    · have e3 : (j + 1 == i) = false := by simpa using e2
      simp [e1, e3]
theorem mj_lok.set2 {g : mj_G} {lsr' : Array Slot} {ls : List Value} {i : Nat} {v : Value} (hi : i + 1 < ls.length) (hw : mj_wide ls[i - 1]? = false) (h : lv_has lsr' ls.length ((i, mj_tr g v) :: (mj_lvl g 0 ls).filter (fun q => !(q.1 == i) && (!(q.1 == i + 1) && !(q.1 + 1 == i && q.2.category == 2))))) : mj_lok g lsr' ((ls.set i v).set (i + 1) mj_no) := by
  obtain ⟨h1, h2, h3⟩ := h
  refine ⟨by rw [h1, List.length_set, List.length_set], h2, fun j u hj hn => ?_⟩
  by_cases e0 : j = i + 1
  · subst e0
    rw [List.getElem?_set_self (by rw [List.length_set]; exact hi)] at hj
    cases hj
    cases hn
  rw [List.getElem?_set_ne (Ne.symm e0)] at hj
  by_cases e : j = i
  · subst e
    rw [List.getElem?_set_self (by omega)] at hj
    cases hj
    exact h3 (j, mj_tr g v) List.mem_cons_self
  · rw [List.getElem?_set_ne (Ne.symm e)] at hj
    refine h3 (j, mj_tr g u) (List.mem_cons_of_mem _ (List.mem_filter.mpr ⟨(mj_lvl_mem g ls 0 j _).mpr ⟨u, Nat.zero_le _, by rw [Nat.sub_zero]; exact hj, hn, rfl⟩, ?_⟩))
    have e1 : (j == i) = false := by simpa using e
    have e4 : (j == i + 1) = false := by simpa using e0
    by_cases e2 : j + 1 = i
    · have e3 : i - 1 = j := by omega
      rw [e3, hj] at hw
      simp [e1, e4, mj_cat2 hw]
    · have e3 : (j + 1 == i) = false := by simpa using e2
      simp [e1, e4, e3]
theorem mj_swoff (pc : Nat) (d x : Int) (hd : 0 ≤ (pc : Int) + d) : ∀ ps : List (Int × Int), (∀ q ∈ ps, 0 ≤ (pc : Int) + q.2) → 0 ≤ (pc : Int) + Op.lookupswitch.offset ps d x
  | [], _ => hd
  | (a, o) :: r, h => by
    rw [Op.lookupswitch.offset_cons]
    split
    · exact h _ List.mem_cons_self
    · exact mj_swoff pc d x hd r fun q hq => h q (List.mem_cons_of_mem _ hq)
theorem mj_kl_in {o i a : Nat} (h : (mj_kl.any (fun r => r.1 == o && r.2.1 == i && r.2.2.1 == a)) = true) : Cond.constant (mj_own o) i (Int32.ofNat a) ∈ mj_T := by
  obtain ⟨r, hr, h1⟩ := List.any_eq_true.mp h
  simp only [Bool.and_eq_true, beq_iff_eq] at h1
  obtain ⟨⟨rfl, rfl⟩, rfl⟩ := h1
  exact mj_wp_in (List.all_eq_true.mp mj_kl_ok r hr)
section MJP
variable {p : Program} {l : Launch} {e : Env} {R : Room} {s : State} {m : MethodId} {args : Array Value} {below : List Frame} {meth : Method} {c : Code} {H : Heap} {locs : List Loc} {cells slots : Nat} {Q : State → Prop} {cc : ByteArray} {pc : Nat}
set_option maxHeartbeats 4000000 in
theorem mj_sp_ok (hx : p.tables.exec = Jvm.exec) (hb : c.code = cc) {o : Nat} {ini : Bool} (hown : s.vm.findClass (mj_own o) = some m.cls) (hts : ∀ w ∈ mj_T, w.before args s = true) {g : mj_G} {en : mj_I} (hd : decode cc pc = .ok (en.1, en.2.1)) (hk : mj_chk o ini pc en = true)
    {ls st : List Value} {q : Nat × List Value × List Value} (hs : mj_sp en pc ls st = some q) {lsr : Array Slot} (hl : mj_lok g lsr ls) (kk : ∀ lsr' : Array Slot, mj_lok g lsr' q.2.1 → W p l e R s m args below meth c H locs cells slots Q (F0 m q.1 lsr' (q.2.2.map (mj_tr g)))) :
    W p l e R s m args below meth c H locs cells slots Q (F0 m pc lsr (st.map (mj_tr g))) := by
  obtain ⟨ins, ln, ea, eb⟩ := en
  dsimp only at hd
  cases ins
  case aconst_null =>
    obtain rfl : ln = 1 := by simpa [mj_chk] using hk
    simp only [mj_sp] at hs
    cases hs
    exact lv_null hx hb hd (kk _ hl)
  case iconst n =>
    obtain rfl : ln = 1 := by simpa [mj_chk] using hk
    simp only [mj_sp] at hs
    cases hs
    exact lv_iconst hx hb hd rfl (kk _ hl)
  case bipush n =>
    obtain rfl : ln = 2 := by simpa [mj_chk] using hk
    simp only [mj_sp] at hs
    cases hs
    exact lv_bipush hx hb hd rfl (kk _ hl)
  case sipush n =>
    obtain rfl : ln = 3 := by simpa [mj_chk] using hk
    simp only [mj_sp] at hs
    cases hs
    exact lv_sipush hx hb hd rfl (kk _ hl)
  case lconst n =>
    obtain rfl : ln = 1 := by simpa [mj_chk] using hk
    simp only [mj_sp] at hs
    cases hs
    exact lv_lconst hx hb hd rfl (kk _ hl)
  case ldc i =>
    simp only [mj_sp] at hs
    split at hs
    · rename_i h0
      subst h0
      cases hs
      simp only [mj_chk, Bool.and_eq_true, decide_eq_true_eq] at hk
      obtain ⟨hln, hk⟩ := hk
      subst hln
      have hk2 : (mj_kl.any (fun r => r.1 == o && r.2.1 == i && r.2.2.1 == ea)) = true := by simpa using hk
      exact lv_ldc hx hb hown (hts _ (mj_kl_in hk2)) hd (kk _ hl)
    · cases hs
  case ldc_w i =>
    simp only [mj_sp] at hs
    split at hs
    · rename_i h0
      subst h0
      cases hs
      simp only [mj_chk, Bool.and_eq_true, decide_eq_true_eq] at hk
      obtain ⟨hln, hk⟩ := hk
      subst hln
      have hk2 : (mj_kl.any (fun r => r.1 == o && r.2.1 == i && r.2.2.1 == ea)) = true := by simpa using hk
      exact lv_ldcw hx hb hown (hts _ (mj_kl_in hk2)) hd (kk _ hl)
    · cases hs
  case iload i =>
    obtain rfl : ln = 2 := by simpa [mj_chk] using hk
    simp only [mj_sp] at hs
    split at hs
    · rename_i x heq
      cases hs
      exact lv_iload hx hb hd (hl.get heq rfl) (kk _ hl)
    · cases hs
  case iload_n i =>
    obtain rfl : ln = 1 := by simpa [mj_chk] using hk
    simp only [mj_sp] at hs
    split at hs
    · rename_i x heq
      cases hs
      exact lv_iload_n hx hb hd rfl (hl.get heq rfl) (kk _ hl)
    · cases hs
  case lload i =>
    obtain rfl : ln = 2 := by simpa [mj_chk] using hk
    simp only [mj_sp] at hs
    split at hs
    · rename_i x heq
      cases hs
      exact lv_lload hx hb hd (hl.get heq rfl) (kk _ hl)
    · cases hs
  case lload_n i =>
    obtain rfl : ln = 1 := by simpa [mj_chk] using hk
    simp only [mj_sp] at hs
    split at hs
    · rename_i x heq
      cases hs
      exact lv_lload_n hx hb hd rfl (hl.get heq rfl) (kk _ hl)
    · cases hs
  case aload i =>
    obtain rfl : ln = 2 := by simpa [mj_chk] using hk
    simp only [mj_sp] at hs
    split at hs
    · rename_i x heq
      cases hs
      exact lv_aload hx hb hd (hl.get heq rfl) (kk _ hl)
    · cases hs
  case aload_n i =>
    obtain rfl : ln = 1 := by simpa [mj_chk] using hk
    simp only [mj_sp] at hs
    split at hs
    · rename_i x heq
      cases hs
      exact lv_aload_n hx hb hd rfl (hl.get heq rfl) (kk _ hl)
    · cases hs
  case istore i =>
    obtain rfl : ln = 2 := by simpa [mj_chk] using hk
    simp only [mj_sp] at hs
    split at hs
    · split at hs
      · rename_i h0
        cases hs
        exact lv_istore hx hb hd hl.has h0.1 rfl (fun lsr' h1 => kk lsr' (mj_lok.set h0.1 h0.2 h1))
      · cases hs
    · cases hs
  case istore_n i =>
    obtain rfl : ln = 1 := by simpa [mj_chk] using hk
    simp only [mj_sp] at hs
    split at hs
    · split at hs
      · rename_i h0
        cases hs
        exact lv_istore_n hx hb hd rfl hl.has h0.1 rfl (fun lsr' h1 => kk lsr' (mj_lok.set h0.1 h0.2 h1))
      · cases hs
    · cases hs
  case astore i =>
    obtain rfl : ln = 2 := by simpa [mj_chk] using hk
    simp only [mj_sp] at hs
    split at hs
    · split at hs
      · rename_i h0
        cases hs
        exact lv_astore hx hb hd hl.has h0.1 rfl (fun lsr' h1 => kk lsr' (mj_lok.set h0.1 h0.2 h1))
      · cases hs
    · cases hs
  case astore_n i =>
    obtain rfl : ln = 1 := by simpa [mj_chk] using hk
    simp only [mj_sp] at hs
    split at hs
    · split at hs
      · rename_i h0
        cases hs
        exact lv_astore_n hx hb hd rfl hl.has h0.1 rfl (fun lsr' h1 => kk lsr' (mj_lok.set h0.1 h0.2 h1))
      · cases hs
    · cases hs
  case lstore i =>
    obtain rfl : ln = 2 := by simpa [mj_chk] using hk
    simp only [mj_sp] at hs
    split at hs
    · split at hs
      · rename_i h0
        cases hs
        exact lv_lstore hx hb hd hl.has h0.1 rfl (fun lsr' h1 => kk lsr' (mj_lok.set2 h0.1 h0.2 h1))
      · cases hs
    · cases hs
  case lstore_n i =>
    obtain rfl : ln = 1 := by simpa [mj_chk] using hk
    simp only [mj_sp] at hs
    split at hs
    · split at hs
      · rename_i h0
        cases hs
        exact lv_lstore_n hx hb hd rfl hl.has h0.1 rfl (fun lsr' h1 => kk lsr' (mj_lok.set2 h0.1 h0.2 h1))
      · cases hs
    · cases hs
  case iinc i n =>
    simp only [mj_sp] at hs
    split at hs
    · rename_i x heq
      split at hs
      · rename_i h0
        cases hs
        obtain ⟨k, hk1⟩ := mj_lvl_at (g := g) heq rfl
        have hln : ln = 3 ∨ ln = 6 := by simpa [mj_chk] using hk
        rcases hln with rfl | rfl
        · exact lv_iinc hx hb hd hl.has hk1 rfl (mj_lt heq) rfl (fun lsr' h1 => kk lsr' (mj_lok.set (mj_lt heq) h0 h1))
        · exact lv_iincW hx hb hd hl.has hk1 rfl (mj_lt heq) rfl (fun lsr' h1 => kk lsr' (mj_lok.set (mj_lt heq) h0 h1))
      · cases hs
    · cases hs
  case pop =>
    obtain rfl : ln = 1 := by simpa [mj_chk] using hk
    simp only [mj_sp] at hs
    split at hs
    · split at hs
      · rename_i h0
        cases hs
        exact lv_pop hx hb hd (by rw [mj_tr_cat]; simpa [mj_cat1] using h0) (kk _ hl)
      · cases hs
    · cases hs
  case dup =>
    obtain rfl : ln = 1 := by simpa [mj_chk] using hk
    simp only [mj_sp] at hs
    split at hs
    · split at hs
      · rename_i h0
        cases hs
        exact lv_dup hx hb hd (by rw [mj_tr_cat]; simpa [mj_cat1] using h0) (kk _ hl)
      · cases hs
    · cases hs
  case dup2 =>
    obtain rfl : ln = 1 := by simpa [mj_chk] using hk
    simp only [mj_sp] at hs
    split at hs
    · split at hs
      · rename_i h0
        rw [Bool.and_eq_true] at h0
        cases hs
        exact lv_dup2_11 hx hb hd (by rw [mj_tr_cat]; simpa [mj_cat1] using h0.1) (by rw [mj_tr_cat]; simpa [mj_cat1] using h0.2) (kk _ hl)
      · cases hs
    · cases hs
  case iadd =>
    obtain rfl : ln = 1 := by simpa [mj_chk] using hk
    simp only [mj_sp] at hs
    split at hs
    · cases hs
      exact lv_iadd hx hb hd (kk _ hl)
    · cases hs
  case isub =>
    obtain rfl : ln = 1 := by simpa [mj_chk] using hk
    simp only [mj_sp] at hs
    split at hs
    · cases hs
      exact lv_isub hx hb hd (kk _ hl)
    · cases hs
  case imul =>
    obtain rfl : ln = 1 := by simpa [mj_chk] using hk
    simp only [mj_sp] at hs
    split at hs
    · cases hs
      exact lv_imul hx hb hd (kk _ hl)
    · cases hs
  case iand =>
    obtain rfl : ln = 1 := by simpa [mj_chk] using hk
    simp only [mj_sp] at hs
    split at hs
    · cases hs
      exact lv_iand hx hb hd (kk _ hl)
    · cases hs
  case ior =>
    obtain rfl : ln = 1 := by simpa [mj_chk] using hk
    simp only [mj_sp] at hs
    split at hs
    · cases hs
      exact lv_ior hx hb hd (kk _ hl)
    · cases hs
  case ixor =>
    obtain rfl : ln = 1 := by simpa [mj_chk] using hk
    simp only [mj_sp] at hs
    split at hs
    · cases hs
      exact lv_ixor hx hb hd (kk _ hl)
    · cases hs
  case ladd =>
    obtain rfl : ln = 1 := by simpa [mj_chk] using hk
    simp only [mj_sp] at hs
    split at hs
    · cases hs
      exact lv_ladd hx hb hd (kk _ hl)
    · cases hs
  case lsub =>
    obtain rfl : ln = 1 := by simpa [mj_chk] using hk
    simp only [mj_sp] at hs
    split at hs
    · cases hs
      exact lv_lsub hx hb hd (kk _ hl)
    · cases hs
  case ineg =>
    obtain rfl : ln = 1 := by simpa [mj_chk] using hk
    simp only [mj_sp] at hs
    split at hs
    · cases hs
      exact lv_ineg hx hb hd (kk _ hl)
    · cases hs
  case lneg =>
    obtain rfl : ln = 1 := by simpa [mj_chk] using hk
    simp only [mj_sp] at hs
    split at hs
    · cases hs
      exact lv_lneg hx hb hd (kk _ hl)
    · cases hs
  case ishl =>
    obtain rfl : ln = 1 := by simpa [mj_chk] using hk
    simp only [mj_sp] at hs
    split at hs
    · cases hs
      exact lv_ishl hx hb hd (kk _ hl)
    · cases hs
  case ishr =>
    obtain rfl : ln = 1 := by simpa [mj_chk] using hk
    simp only [mj_sp] at hs
    split at hs
    · cases hs
      exact lv_ishr hx hb hd (kk _ hl)
    · cases hs
  case i2l =>
    obtain rfl : ln = 1 := by simpa [mj_chk] using hk
    simp only [mj_sp] at hs
    split at hs
    · cases hs
      exact lv_i2l hx hb hd rfl (kk _ hl)
    · cases hs
  case l2i =>
    obtain rfl : ln = 1 := by simpa [mj_chk] using hk
    simp only [mj_sp] at hs
    split at hs
    · cases hs
      exact lv_l2i hx hb hd rfl (kk _ hl)
    · cases hs
  case i2s =>
    obtain rfl : ln = 1 := by simpa [mj_chk] using hk
    simp only [mj_sp] at hs
    split at hs
    · cases hs
      exact lv_i2s hx hb hd rfl (kk _ hl)
    · cases hs
  case i2c =>
    obtain rfl : ln = 1 := by simpa [mj_chk] using hk
    simp only [mj_sp] at hs
    split at hs
    · cases hs
      exact lv_i2c hx hb hd rfl (kk _ hl)
    · cases hs
  case iushr =>
    obtain rfl : ln = 1 := by simpa [mj_chk] using hk
    simp only [mj_sp] at hs
    split at hs
    · cases hs
      exact lv_iushr hx hb hd rfl (kk _ hl)
    · cases hs
  case lcmp =>
    obtain rfl : ln = 1 := by simpa [mj_chk] using hk
    simp only [mj_sp] at hs
    split at hs
    · cases hs
      exact W.lcmp hx hb hd (kk _ hl)
    · cases hs
  case idiv =>
    obtain rfl : ln = 1 := by simpa [mj_chk] using hk
    simp only [mj_sp] at hs
    split at hs
    · split at hs
      · cases hs
      · rename_i h0
        cases hs
        exact lv_idiv hx hb hd h0 (kk _ hl)
    · cases hs
  case irem =>
    obtain rfl : ln = 1 := by simpa [mj_chk] using hk
    simp only [mj_sp] at hs
    split at hs
    · split at hs
      · cases hs
      · rename_i h0
        cases hs
        exact lv_irem hx hb hd h0 (by rw [irem_eq_mod]; exact kk _ hl)
    · cases hs
  case goto off =>
    simp only [mj_chk, Bool.and_eq_true, decide_eq_true_eq] at hk
    obtain ⟨hln, ht⟩ := hk
    subst hln
    simp only [mj_sp] at hs
    cases hs
    exact lv_goto hx hb hd ht (kk _ hl)
  case ifCond cnd off =>
    simp only [mj_chk, Bool.and_eq_true, decide_eq_true_eq] at hk
    obtain ⟨hln, ht⟩ := hk
    subst hln
    simp only [mj_sp] at hs
    split at hs
    · cases cnd
      case eq =>
        cases hs
        exact lv_if_eq hx hb hd ht (fun h => by have k2 := kk _ hl; dsimp only at k2; rw [if_pos h] at k2; exact k2) (fun h => by have k2 := kk _ hl; dsimp only at k2; rw [if_neg h] at k2; exact k2)
      case ne =>
        cases hs
        exact lv_if_ne hx hb hd ht (fun h => by have k2 := kk _ hl; dsimp only at k2; rw [if_neg h] at k2; exact k2) (fun h => by have k2 := kk _ hl; dsimp only at k2; rw [if_pos h] at k2; exact k2)
      case lt =>
        cases hs
        exact lv_if_lt hx hb hd ht (fun h => by have k2 := kk _ hl; dsimp only at k2; rw [if_pos h] at k2; exact k2) (fun h => by have k2 := kk _ hl; dsimp only at k2; rw [if_neg h] at k2; exact k2)
      case ge =>
        cases hs
        exact lv_if_ge hx hb hd ht (fun h => by have k2 := kk _ hl; dsimp only at k2; rw [if_pos h] at k2; exact k2) (fun h => by have k2 := kk _ hl; dsimp only at k2; rw [if_neg h] at k2; exact k2)
      case gt =>
        cases hs
        exact lv_if_gt hx hb hd ht (fun h => by have k2 := kk _ hl; dsimp only at k2; rw [if_pos h] at k2; exact k2) (fun h => by have k2 := kk _ hl; dsimp only at k2; rw [if_neg h] at k2; exact k2)
      case le =>
        cases hs
        exact lv_if_le hx hb hd ht (fun h => by have k2 := kk _ hl; dsimp only at k2; rw [if_pos h] at k2; exact k2) (fun h => by have k2 := kk _ hl; dsimp only at k2; rw [if_neg h] at k2; exact k2)
    · cases hs
  case if_icmp cnd off =>
    simp only [mj_chk, Bool.and_eq_true, decide_eq_true_eq] at hk
    obtain ⟨hln, ht⟩ := hk
    subst hln
    simp only [mj_sp] at hs
    split at hs
    · cases cnd
      case eq =>
        cases hs
        exact lv_icmp_eq hx hb hd ht (fun h => by have k2 := kk _ hl; dsimp only at k2; rw [if_pos h] at k2; exact k2) (fun h => by have k2 := kk _ hl; dsimp only at k2; rw [if_neg h] at k2; exact k2)
      case ne =>
        cases hs
        exact lv_icmp_ne hx hb hd ht (fun h => by have k2 := kk _ hl; dsimp only at k2; rw [if_neg h] at k2; exact k2) (fun h => by have k2 := kk _ hl; dsimp only at k2; rw [if_pos h] at k2; exact k2)
      case lt =>
        cases hs
        exact lv_icmp_lt hx hb hd ht (fun h => by have k2 := kk _ hl; dsimp only at k2; rw [if_pos h] at k2; exact k2) (fun h => by have k2 := kk _ hl; dsimp only at k2; rw [if_neg h] at k2; exact k2)
      case ge =>
        cases hs
        exact lv_icmp_ge hx hb hd ht (fun h => by have k2 := kk _ hl; dsimp only at k2; rw [if_pos h] at k2; exact k2) (fun h => by have k2 := kk _ hl; dsimp only at k2; rw [if_neg h] at k2; exact k2)
      case gt =>
        cases hs
        exact lv_icmp_gt hx hb hd ht (fun h => by have k2 := kk _ hl; dsimp only at k2; rw [if_pos h] at k2; exact k2) (fun h => by have k2 := kk _ hl; dsimp only at k2; rw [if_neg h] at k2; exact k2)
      case le =>
        cases hs
        exact lv_icmp_le hx hb hd ht (fun h => by have k2 := kk _ hl; dsimp only at k2; rw [if_pos h] at k2; exact k2) (fun h => by have k2 := kk _ hl; dsimp only at k2; rw [if_neg h] at k2; exact k2)
    · cases hs
  case ifnull off =>
    simp only [mj_chk, Bool.and_eq_true, decide_eq_true_eq] at hk
    obtain ⟨hln, ht⟩ := hk
    subst hln
    simp only [mj_sp] at hs
    split at hs
    · cases hs
      exact lv_ifnull hx hb hd (kk _ hl)
    · cases hs
      exact lv_ifnullN hx hb hd ht (kk _ hl)
    · cases hs
  case ifnonnull off =>
    simp only [mj_chk, Bool.and_eq_true, decide_eq_true_eq] at hk
    obtain ⟨hln, ht⟩ := hk
    subst hln
    simp only [mj_sp] at hs
    split at hs
    · cases hs
      exact lv_ifnonnull hx hb hd ht (kk _ hl)
    · cases hs
      exact lv_ifnonnullN hx hb hd (kk _ hl)
    · cases hs
  case tableswitch d lo hi offs =>
    simp only [mj_chk, Bool.and_eq_true, decide_eq_true_eq, List.all_eq_true] at hk
    obtain ⟨⟨hd0, hds⟩, hsz⟩ := hk
    simp only [mj_sp] at hs
    split at hs
    · rename_i x r
      cases hs
      have k2 := kk _ hl
      dsimp only at k2
      by_cases h0 : x.toInt < lo ∨ hi < x.toInt
      · rw [if_pos h0] at k2
        exact lv_tableOut hx hb hd h0 (Int.toNat_of_nonneg hd0).symm k2
      · rw [if_neg h0] at k2
        have h1 : ¬ x.toInt < lo := fun z => h0 (Or.inl z)
        have h2 : ¬ hi < x.toInt := fun z => h0 (Or.inr z)
        obtain ⟨off, ho⟩ : ∃ off, offs[(x.toInt - lo).toNat]? = some off := ⟨_, Array.getElem?_eq_getElem (by omega)⟩
        rw [ho] at k2
        have hm : off ∈ offs.toList := by rw [← Array.getElem?_toList] at ho; exact List.mem_of_getElem? ho
        exact lv_tableIn hx hb hd h1 h2 ho (Int.toNat_of_nonneg (hds off hm)).symm k2
    · cases hs
  case lookupswitch d ps =>
    simp only [mj_chk, Bool.and_eq_true, decide_eq_true_eq] at hk
    obtain ⟨⟨hd0, hds⟩, hsz⟩ := hk
    have hds2 : ∀ q ∈ ps.toList, 0 ≤ (pc : Int) + q.2 := fun q hq => by simpa using List.all_eq_true.mp hds q hq
    simp only [mj_sp] at hs
    split at hs
    · rename_i x r
      cases hs
      exact lv_lookup hx hb hd hsz rfl (Int.toNat_of_nonneg (mj_swoff pc d x.toInt hd0 ps.toList hds2)).symm (kk _ hl)
    · cases hs
  all_goals (simp only [mj_sp] at hs; cases hs)
end MJP
end
section
/-! ===== what the small machine does with its cells, the machine does ===== -/
/-- the classes' and fields' numbers, the arrays' classes, the script's length and values -/
abbrev mj_K : Type := va_G × (Nat → ClassId) × Nat × (Nat → Int32)
def mj_cellAt (g : mj_G) (K : mj_K) (t n : Nat) (v : Nat → Value) (a : Nat) (H : Heap) : Prop :=
  if t < 13 then ∃ r : vw_C, vwCl[t]? = some r ∧ n = r.2.2 ∧ t_OB a (K.1.1 t) r.2.2 (K.1.2 t) H (fun k => mj_tr g (v k))
  else H[a]? = some (arrV (K.2.1 t) n (fun j => mj_tr g (v j)))
/-- the heap holds the small machine's cells -/
def mj_Wh (g : mj_G) (K : mj_K) (h : mj_H) (H : Heap) : Prop :=
  H.size = g.1 + h.1 ∧ h.1 ≤ 1000 ∧ (h.2.2.1 mj_X = (20, K.2.2.1) ∧ ∀ j : Nat, j < K.2.2.1 → h.2.2.2 mj_X j = .int (K.2.2.2 j)) ∧ ∀ i : Nat, i < h.1 → mj_cellAt g K (h.2.2.1 i).1 (h.2.2.1 i).2 (h.2.2.2 i) (g.1 + i) H
def mj_AOA (t : FieldType) (U : State) : Prop := (Cond.arrayOver (.array t)).before #[] U = true
def mj_tys (ka : Nat → ClassId) : List (ClassId × FieldType) := (List.range 8).map fun i => (ka (20 + i), mj_ty (20 + i))
/-- what holds at the entry of every method: the classes, the words that are no good words, the script -/
def mj_F (g : mj_G) (K : mj_K) (Z : State → Prop) (s : State) : Prop :=
  va_K K.1 vwCl (mj_tys K.2.1) s ∧ (∀ w ∈ mj_nw, va_Nw w s) ∧ (va_AO "GhostTrain$CarKind" s ∧ va_AO "GhostTrain$Text" s ∧ va_AO "GhostTrain$Sheet" s ∧ va_AO "GhostTrain$Slot" s ∧ mj_AOA .int s) ∧ va_X g.2.1 K.2.2.1 K.2.2.2 s s.heap ∧ g.2.1 < g.1 ∧ Z s
theorem mj_F.arr {g : mj_G} {K : mj_K} {Z : State → Prop} {s : State} (h : mj_F g K Z s) {t : Nat} (h1 : 20 ≤ t) (h2 : t < 28) : ArrOfT s (K.2.1 t) (mj_ty t) ∧ va_RA s (K.2.1 t) (mj_ty t) := by
  have := h.1.2 (t - 20) (K.2.1 (20 + (t - 20)), mj_ty (20 + (t - 20))) (by unfold mj_tys; rw [List.getElem?_map, List.getElem?_range (by omega)]; rfl)
  rw [show 20 + (t - 20) = t by omega] at this
  exact this
theorem mj_cellAt.kept {g : mj_G} {K : mj_K} {t n : Nat} {v : Nat → Value} {a : Nat} {H H1 : Heap} (h : mj_cellAt g K t n v a H) (hq : H1[a]? = H[a]?) : mj_cellAt g K t n v a H1 := by
  unfold mj_cellAt at h ⊢
  by_cases h0 : t < 13
  · rw [if_pos h0] at h ⊢
    obtain ⟨r, h1, h2, h3⟩ := h
    exact ⟨r, h1, h2, h3.kept hq⟩
  · rw [if_neg h0] at h ⊢
    rw [hq]
    exact h
theorem mj_cellAt.ob {g : mj_G} {K : mj_K} {t n : Nat} {v : Nat → Value} {a : Nat} {H : Heap} (h : mj_cellAt g K t n v a H) (h0 : t < 13) : ∃ r : vw_C, vwCl[t]? = some r ∧ n = r.2.2 ∧ t_OB a (K.1.1 t) r.2.2 (K.1.2 t) H (fun k => mj_tr g (v k)) := by
  unfold mj_cellAt at h
  rwa [if_pos h0] at h
theorem mj_cellAt.ar {g : mj_G} {K : mj_K} {t n : Nat} {v : Nat → Value} {a : Nat} {H : Heap} (h : mj_cellAt g K t n v a H) (h0 : 20 ≤ t) : H[a]? = some (arrV (K.2.1 t) n (fun j => mj_tr g (v j))) := by
  unfold mj_cellAt at h
  rwa [if_neg (by omega)] at h
/-- one cell is otherwise -/
theorem mj_Wh.upd {g : mj_G} {K : mj_K} {h : mj_H} {H H1 : Heap} {i : Nat} {V' : Nat → Nat → Value} (hW : mj_Wh g K h H) (hi : i < h.1) (hV : ∀ j, j ≠ i → V' j = h.2.2.2 j) (z : H1.size = H.size) (oq : ∀ q : Nat, q ≠ g.1 + i → H1[q]? = H[q]?) (hc : mj_cellAt g K (h.2.2.1 i).1 (h.2.2.1 i).2 (V' i) (g.1 + i) H1) : mj_Wh g K (h.1, h.2.1, h.2.2.1, V') H1 := by
  obtain ⟨w1, w2, w3, w4⟩ := hW
  refine ⟨by rw [z]; exact w1, w2, ⟨w3.1, fun j hj => ?_⟩, fun j hj => ?_⟩
  · show V' mj_X j = _
    rw [hV mj_X (by show (1000000 : Nat) ≠ i; omega)]
    exact w3.2 j hj
  · by_cases e : j = i
    · subst e
      exact hc
    · show mj_cellAt g K (h.2.2.1 j).1 (h.2.2.1 j).2 (V' j) (g.1 + j) H1
      rw [hV j e]
      exact (w4 j hj).kept (oq _ (by omega))
/-- a cell more -/
theorem mj_Wh.new {g : mj_G} {K : mj_K} {h : mj_H} {H H1 : Heap} {t n : Nat} {v : Nat → Value} (hW : mj_Wh g K h H) (hm : h.1 < 1000) (z : H1.size = H.size + 1) (oq : ∀ q : Nat, q < H.size → H1[q]? = H[q]?) (hc : mj_cellAt g K t n v (g.1 + h.1) H1) : mj_Wh g K (mj_new h t n v) H1 := by
  obtain ⟨w1, w2, w3, w4⟩ := hW
  have hX : ¬ mj_X = h.1 := by show ¬ (1000000 : Nat) = h.1; omega
  refine ⟨by rw [z, w1]; rfl, hm, ⟨?_, fun j hj => ?_⟩, fun j hj => ?_⟩
  · show (if mj_X = h.1 then (t, n) else h.2.2.1 mj_X) = _
    rw [if_neg hX]
    exact w3.1
  · show (if mj_X = h.1 then v j else h.2.2.2 mj_X j) = _
    rw [if_neg hX]
    exact w3.2 j hj
  · by_cases e : j = h.1
    · subst e
      show mj_cellAt g K (if h.1 = h.1 then (t, n) else h.2.2.1 h.1).1 (if h.1 = h.1 then (t, n) else h.2.2.1 h.1).2 (fun k => if h.1 = h.1 then v k else h.2.2.2 h.1 k) (g.1 + h.1) H1
      simp only [if_true]
      exact hc
    · show mj_cellAt g K (if j = h.1 then (t, n) else h.2.2.1 j).1 (if j = h.1 then (t, n) else h.2.2.1 j).2 (fun k => if j = h.1 then v k else h.2.2.2 j k) (g.1 + j) H1
      simp only [if_neg e]
      have hj' : j < h.1 + 1 := hj
      exact (w4 j (by omega)).kept (oq _ (by omega))
theorem mj_names : ∀ c : Nat, c < 13 → ∀ q : vw_C, vwCl[c]? = some q → (∀ k, k < q.2.2 → parseFieldDescriptor (q.2.1 k).2.2.1 = some (mj_fty c k)) ∧ (∀ a, a < q.2.2 → ∀ b, b < q.2.2 → a ≠ b → (q.2.1 a).2.1 ≠ (q.2.1 b).2.1) := by
  intro c hc q hq
  match c, hc, hq with
  | 0, _, hq => cases hq; exact ⟨fun k hk => absurd hk (Nat.not_lt_zero _), nmX0⟩
  | 1, _, hq => cases hq; exact ⟨fun k hk => absurd hk (Nat.not_lt_zero _), nmX1⟩
  | 2, _, hq => cases hq; exact ⟨fun k hk => absurd hk (Nat.not_lt_zero _), nmX2⟩
  | 3, _, hq => cases hq; exact ⟨fun k hk => absurd hk (Nat.not_lt_zero _), nmX3⟩
  | 4, _, hq => cases hq; exact ⟨fun k hk => absurd hk (Nat.not_lt_zero _), nmX4⟩
  | 5, _, hq => cases hq; exact ⟨fun k hk => absurd hk (Nat.not_lt_zero _), nmX5⟩
  | 6, _, hq => cases hq; exact ⟨fun k hk => by rw [tyX6_ok k hk]; unfold mj_fty; dsimp only [vwCl, List.getElem?_cons_succ, List.getElem?_cons_zero]; rw [tyX6_ok k hk]; rfl, nmX6⟩
  | 7, _, hq => cases hq; exact ⟨fun k hk => by rw [tyX7_ok k hk]; unfold mj_fty; dsimp only [vwCl, List.getElem?_cons_succ, List.getElem?_cons_zero]; rw [tyX7_ok k hk]; rfl, nmX7⟩
  | 8, _, hq => cases hq; exact ⟨fun k hk => by rw [tyX8_ok k hk]; unfold mj_fty; dsimp only [vwCl, List.getElem?_cons_succ, List.getElem?_cons_zero]; rw [tyX8_ok k hk]; rfl, nmX8⟩
  | 9, _, hq => cases hq; exact ⟨fun k hk => by rw [tyX9_ok k hk]; unfold mj_fty; dsimp only [vwCl, List.getElem?_cons_succ, List.getElem?_cons_zero]; rw [tyX9_ok k hk]; rfl, nmX9⟩
  | 10, _, hq => cases hq; exact ⟨fun k hk => by rw [tyX10_ok k hk]; unfold mj_fty; dsimp only [vwCl, List.getElem?_cons_succ, List.getElem?_cons_zero]; rw [tyX10_ok k hk]; rfl, nmX10⟩
  | 11, _, hq => cases hq; exact ⟨fun k hk => by rw [tyX11_ok k hk]; unfold mj_fty; dsimp only [vwCl, List.getElem?_cons_succ, List.getElem?_cons_zero]; rw [tyX11_ok k hk]; rfl, nmX11⟩
  | 12, _, hq => cases hq; exact ⟨fun k hk => by rw [tyX12_ok k hk]; unfold mj_fty; dsimp only [vwCl, List.getElem?_cons_succ, List.getElem?_cons_zero]; rw [tyX12_ok k hk]; rfl, nmX12⟩
  | n + 13, h, _ => omega
theorem mj_vlt {c : Nat} {q : vw_C} (h : vwCl[c]? = some q) : c < 13 := (List.getElem?_eq_some_iff.mp h).1
theorem mj_lays_in {c : Nat} {q : vw_C} (h : vwCl[c]? = some q) : ∀ w ∈ u_ws q.1 q.2.1 q.2.2, w ∈ mj_T := by
  have h1 := List.all_eq_true.mp mj_ll_ok c (List.mem_range.mpr (mj_vlt h))
  unfold mj_llok at h1
  rw [h] at h1
  exact mj_wps_in h1
theorem mj_fl_in {o i a b : Nat} (h : (mj_fl.any (fun r => r.1 == o && r.2.1 == i && r.2.2.1 == a && r.2.2.2.1 == b)) = true) : ∃ q : vw_C, vwCl[a]? = some q ∧ b < q.2.2 ∧ Cond.fieldLink (mj_own o) i (q.2.1 b).1 (q.2.1 b).2.1 (q.2.1 b).2.2.1 ∈ mj_T := by
  obtain ⟨r, hr, h1⟩ := List.any_eq_true.mp h
  simp only [Bool.and_eq_true, beq_iff_eq] at h1
  obtain ⟨⟨⟨rfl, rfl⟩, rfl⟩, rfl⟩ := h1
  have h2 := List.all_eq_true.mp mj_fl_ok r hr
  unfold mj_flok at h2
  cases hq : vwCl[r.2.2.1]? with
  | none => rw [hq] at h2; cases h2
  | some q =>
    rw [hq] at h2
    simp only [Bool.and_eq_true, decide_eq_true_eq] at h2
    exact ⟨q, rfl, h2.1.2, mj_wp_in h2.1.1⟩
theorem mj_inv {i : Int32} {n : Nat} (h : mj_in i n = true) : vp_in i n ∧ ¬ i < 0 ∧ i.toNatClampNeg < n := by
  unfold mj_in at h
  rw [Bool.and_eq_true, decide_eq_true_eq, decide_eq_true_eq] at h
  exact ⟨fun q => q.elim h.1 (fun q => by omega), h.1, h.2⟩
section MJH
variable {p : Program} {l : Launch} {e : Env} {R : Room} {s : State} {m : MethodId} {args : Array Value} {below : List Frame} {meth : Method} {c : Code} {H : Heap} {locs : List Loc} {cells slots : Nat} {Q : State → Prop} {cc : ByteArray} {pc : Nat}
/-- new T[n][m] -/
def mj_MA (l : Launch) (g : mj_G) (K : mj_K) (Z : State → Prop) : Prop := ∀ {p : Program} {e : Env} {R : Room} {s : State} {m : MethodId} {args : Array Value} {below : List Frame} {meth : Method} {c : Code} {H : Heap} {locs : List Loc} {cells slots : Nat} {Q : State → Prop} {cc : ByteArray} {pc : Nat} {lsr : Array Slot} {rest : List Value} {h : mj_H} {own : String} {i : Nat} {n k : Int32},
  p.tables.exec = Jvm.exec → c.code = cc → s.vm.findClass own = some m.cls → (∀ w ∈ mj_T, w.before args s = true) → mj_F g K Z s → (Cond.classLink own i "[[I").before args s = true → decode cc pc = .ok (.multianewarray i 2, 4) → mj_Wh g K h H →
  h.1 + 1 + n.toNatClampNeg < 1000 → ¬ n < 0 → ¬ k < 0 → n.toNatClampNeg ≤ 1000 → k.toNatClampNeg ≤ 1000 → cells + (1 + n.toNatClampNeg) ≤ R.cells → slots + (n.toNatClampNeg + n.toNatClampNeg * k.toNatClampNeg) ≤ R.slots →
  (∀ H1 : Heap, mj_Wh g K (mj_new2 h 27 20 n.toNatClampNeg k.toNatClampNeg (.int 0)) H1 → (∀ q : Nat, q < H.size → H1[q]? = H[q]?) → W p l e R s m args below meth c H1 locs (cells + (1 + n.toNatClampNeg)) (slots + (n.toNatClampNeg + n.toNatClampNeg * k.toNatClampNeg)) Q (F0 m (pc + 4) lsr (.ref (g.1 + h.1) :: rest))) →
  W p l e R s m args below meth c H locs cells slots Q (F0 m pc lsr (.int k :: .int n :: rest))
theorem mj_adr {g : mj_G} {a : Nat} (h : a < 1000) : mj_tr g (.ref a) = .ref (g.1 + a) := by
  show Value.ref (mj_ad g a) = _
  unfold mj_ad
  rw [if_pos (by show a < 1000000; omega)]
theorem mj_adX {g : mj_G} : mj_tr g (.ref mj_X) = .ref g.2.1 := by
  show Value.ref (mj_ad g mj_X) = _
  unfold mj_ad
  rw [if_neg (by show ¬ (1000000 : Nat) < 1000000; omega), if_pos rfl]
theorem mj_putS {V : Nat → Nat → Value} {i k : Nat} {v : Value} : mj_put V i k v i = fun b => if b = k then v else V i b := by
  funext b
  simp [mj_put]
theorem mj_putN {V : Nat → Nat → Value} {i j k : Nat} {v : Value} (h : j ≠ i) : mj_put V i k v j = V j := by
  funext b
  simp [mj_put, h]
theorem mj_cellAt.st {g : mj_G} {K : mj_K} {t n : Nat} {v : Nat → Value} {a k : Nat} {x : Value} {H : Heap} (h0 : 20 ≤ t) (h : H[a]? = some ((arrV (K.2.1 t) n (fun j => mj_tr g (v j))).setSlot k (mj_tr g x))) : mj_cellAt g K t n (fun b => if b = k then x else v b) a H := by
  unfold mj_cellAt
  rw [if_neg (by omega), h, arrV_store]
  refine congrArg some (congrArg (arrV (K.2.1 t) n) (funext fun j => ?_))
  unfold updV
  by_cases e : j = k
  · dsimp only
    rw [if_pos e, if_pos e]
  · dsimp only
    rw [if_neg e, if_neg e]
theorem mj_refs : ∀ t : Nat, 23 ≤ t → t < 28 → (mj_ty t).isReference = true := by
  intro t h1 h2
  rcases (show t = 23 ∨ t = 24 ∨ t = 25 ∨ t = 26 ∨ t = 27 by omega) with rfl | rfl | rfl | rfl | rfl <;> rfl
theorem mj_castok {g : mj_G} {K : mj_K} {Z : State → Prop} {s : State} (hF : mj_F g K Z s) {t : Nat} (ht : t < 6) : s.vm.assignable (K.1.1 t) (K.1.1 1) = true := by
  have hn : ∀ t : Nat, t < 6 → t ≠ 1 → Cond.castable (mj_own t) "GhostTrain$CarKind" ∈ mj_nw := by decide +kernel
  have hcl : ∀ t : Nat, t < 6 → ∃ q : vw_C, vwCl[t]? = some q ∧ q.1 = mj_own t := by
    intro t ht
    match t, ht with
    | 0, _ => exact ⟨_, rfl, rfl⟩
    | 1, _ => exact ⟨_, rfl, rfl⟩
    | 2, _ => exact ⟨_, rfl, rfl⟩
    | 3, _ => exact ⟨_, rfl, rfl⟩
    | 4, _ => exact ⟨_, rfl, rfl⟩
    | 5, _ => exact ⟨_, rfl, rfl⟩
    | n + 6, h => omega
  obtain ⟨q, hq, hqn⟩ := hcl t ht
  have hc := (hF.1.1 t q hq).2
  have h1 := (hF.1.1 1 _ rfl).2
  by_cases e : t = 1
  · subst e
    exact va_assign h1
  · obtain ⟨a, b, f1, f2, f3⟩ := Cond.castable_spec (va_Nw.use (A := #[]) rfl (hF.2.1 _ (hn t ht e)))
    rw [← hqn] at f1
    cases hc.1.symm.trans f1
    cases h1.1.symm.trans f2
    exact f3
theorem mj_ast_ok {g : mj_G} {K : mj_K} {Z : State → Prop} {s : State} (hF : mj_F g K Z s) {ta tv : Nat} (h : ta = 23 ∧ tv < 6 ∨ ta = 24 ∧ tv = 10 ∨ ta = 25 ∧ tv = 7 ∨ ta = 26 ∧ tv = 8) : ∃ (kA kc : Class) (comp : ClassId), s.vm.classes[K.2.1 ta]? = some kA ∧ kA.kind = .array comp (mj_ty ta) ∧ s.vm.classes[comp]? = some kc ∧ s.vm.assignable (K.1.1 tv) comp = true := by
  have go : ∀ (ta tc : Nat) (q : vw_C), 20 ≤ ta → ta < 28 → vwCl[tc]? = some q → mj_ty ta = .object q.1 → s.vm.assignable (K.1.1 tv) (K.1.1 tc) = true → ∃ (kA kc : Class) (comp : ClassId), s.vm.classes[K.2.1 ta]? = some kA ∧ kA.kind = .array comp (mj_ty ta) ∧ s.vm.classes[comp]? = some kc ∧ s.vm.assignable (K.1.1 tv) comp = true := by
    intro ta tc q h1 h2 hq hty has
    have hra := (hF.arr h1 h2).2
    rw [hty] at hra ⊢
    obtain ⟨kA, comp, k1, k2, k3, -⟩ := hra
    have hc := (hF.1.1 tc q hq).2
    obtain ⟨hc1, kC, hkC, -⟩ := hc
    have e : comp = K.1.1 tc := Option.some.inj (k3.symm.trans hc1)
    subst e
    exact ⟨kA, kC, _, k1, k2, hkC, has⟩
  rcases h with ⟨rfl, h⟩ | ⟨rfl, rfl⟩ | ⟨rfl, rfl⟩ | ⟨rfl, rfl⟩
  · exact go 23 1 _ (by decide) (by decide) rfl rfl (mj_castok hF h)
  · exact go 24 10 _ (by decide) (by decide) rfl rfl (va_assign (hF.1.1 10 _ rfl).2)
  · exact go 25 7 _ (by decide) (by decide) rfl rfl (va_assign (hF.1.1 7 _ rfl).2)
  · exact go 26 8 _ (by decide) (by decide) rfl rfl (va_assign (hF.1.1 8 _ rfl).2)
theorem mj_nl_in {o i a : Nat} (h : (mj_nl.any (fun r => r.1 == o && r.2.1 == i && r.2.2.1 == a)) = true) : ∃ q : vw_C, vwCl[a]? = some q ∧ ∀ w ∈ [Cond.classLink (mj_own o) i q.1, .instantiable q.1 q.2.2, .initialized q.1], w ∈ mj_T := by
  obtain ⟨r, hr, h1⟩ := List.any_eq_true.mp h
  simp only [Bool.and_eq_true, beq_iff_eq] at h1
  obtain ⟨⟨rfl, rfl⟩, rfl⟩ := h1
  have h2 := List.all_eq_true.mp mj_nl_ok r hr
  unfold mj_nlok at h2
  cases hq : vwCl[r.2.2.1]? with
  | none => rw [hq] at h2; cases h2
  | some q =>
    rw [hq] at h2
    exact ⟨q, rfl, mj_wps_in h2⟩
theorem mj_al_in {o i a : Nat} (h : (mj_al.any (fun r => r.1 == o && r.2.1 == i && r.2.2.1 == a)) = true) : Cond.classLink (mj_own o) i (if a = 27 then "[[I" else match mj_ty a with | .object C => C | _ => "") ∈ mj_T := by
  obtain ⟨r, hr, h1⟩ := List.any_eq_true.mp h
  simp only [Bool.and_eq_true, beq_iff_eq] at h1
  obtain ⟨⟨rfl, rfl⟩, rfl⟩ := h1
  exact mj_wp_in (List.all_eq_true.mp mj_al_ok r hr)
theorem mj_ol_in {o i : Nat} (h : (mj_ol.any (fun r => r.1 == o && r.2.1 == i)) = true) : ∀ w ∈ [Cond.methodLink (mj_own o) i objectInit, .instanceMethod objectInit, .code objectInit ⟨#[0xb1]⟩ 1 none], w ∈ mj_T := by
  obtain ⟨r, hr, h1⟩ := List.any_eq_true.mp h
  simp only [Bool.and_eq_true, beq_iff_eq] at h1
  obtain ⟨rfl, rfl⟩ := h1
  exact mj_wps_in (List.all_eq_true.mp mj_ol_ok r hr)
theorem mj_acl_in {o i : Nat} (h : (mj_acl.any (fun r => r.1 == o && r.2.1 == i)) = true) : ∀ w ∈ [Cond.methodLink (mj_own o) i arraycopyName, .native arraycopyName, .static arraycopyName, .initialized "java/lang/System"], w ∈ mj_T := by
  obtain ⟨r, hr, h1⟩ := List.any_eq_true.mp h
  simp only [Bool.and_eq_true, beq_iff_eq] at h1
  obtain ⟨rfl, rfl⟩ := h1
  exact mj_wps_in (List.all_eq_true.mp mj_ac_ok r hr)
theorem mj_dflt (g : mj_G) (ty : FieldType) : defaultValue ty = mj_tr g (defaultValue ty) := by cases ty <;> rfl
set_option maxHeartbeats 8000000 in
theorem mj_sh_ok (hx : p.tables.exec = Jvm.exec) (hb : c.code = cc) {o : Nat} {ini : Bool} (hown : s.vm.findClass (mj_own o) = some m.cls) (hts : ∀ w ∈ mj_T, w.before args s = true) {g : mj_G} {K : mj_K} {Z : State → Prop} (hF : mj_F g K Z s) (hMA : mj_MA l g K Z) {en : mj_I} (hd : decode cc pc = .ok (en.1, en.2.1)) (hk : mj_chk o ini pc en = true)
    {ls st : List Value} {h : mj_H} {q : Nat × List Value × List Value × mj_H} (hs : mj_sh en pc ls st h = some q) {lsr : Array Slot} (hl : mj_lok g lsr ls) (hml : c.maxLocals = ls.length) (hW : mj_Wh g K h H) (hlow : ∀ a : Nat, a < g.1 → H[a]? = s.heap[a]?) (hlo : ∀ x ∈ locs, g.1 ≤ x.base) (hini : ini = true → meth.name = "<init>") (hR : 10 ≤ R.frames ∧ 1000 ≤ R.locals) (hc1 : cells + (q.2.2.2.1 - h.1) ≤ R.cells) (hc2 : slots + (q.2.2.2.2.1 - h.2.1) ≤ R.slots)
    (kk : ∀ (lsr' : Array Slot) (H' : Heap) (locs' : List Loc), mj_lok g lsr' q.2.1 → mj_Wh g K q.2.2.2 H' → (∀ a : Nat, a < g.1 → H'[a]? = s.heap[a]?) → (∀ x ∈ locs', g.1 ≤ x.base) → W p l e R s m args below meth c H' locs' (cells + (q.2.2.2.1 - h.1)) (slots + (q.2.2.2.2.1 - h.2.1)) Q (F0 m q.1 lsr' (q.2.2.1.map (mj_tr g)))) :
    W p l e R s m args below meth c H locs cells slots Q (F0 m pc lsr (st.map (mj_tr g))) := by
  obtain ⟨ins, ln, ea, eb⟩ := en
  dsimp only at hd
  have w1 := hW.1
  have w2 := hW.2.1
  have w4 := hW.2.2.2
  have kk0 : q.2.2.2.1 = h.1 → q.2.2.2.2.1 = h.2.1 → ∀ (lsr' : Array Slot) (H' : Heap) (locs' : List Loc), mj_lok g lsr' q.2.1 → mj_Wh g K q.2.2.2 H' → (∀ a : Nat, a < g.1 → H'[a]? = s.heap[a]?) → (∀ x ∈ locs', g.1 ≤ x.base) → W p l e R s m args below meth c H' locs' cells slots Q (F0 m q.1 lsr' (q.2.2.1.map (mj_tr g))) := by
    intro e1 e2 lsr' H' locs' a1 a2 a3 a4
    have := kk lsr' H' locs' a1 a2 a3 a4
    rwa [e1, e2, Nat.sub_self, Nat.sub_self, Nat.add_zero, Nat.add_zero] at this
  have kk1 : ∀ k n : Nat, q.2.2.2.1 = h.1 + k → q.2.2.2.2.1 = h.2.1 + n → (cells + k ≤ R.cells ∧ slots + n ≤ R.slots) ∧ ∀ (lsr' : Array Slot) (H' : Heap) (locs' : List Loc), mj_lok g lsr' q.2.1 → mj_Wh g K q.2.2.2 H' → (∀ a : Nat, a < g.1 → H'[a]? = s.heap[a]?) → (∀ x ∈ locs', g.1 ≤ x.base) → W p l e R s m args below meth c H' locs' (cells + k) (slots + n) Q (F0 m q.1 lsr' (q.2.2.1.map (mj_tr g))) := by
    intro k n e1 e2
    rw [e1, Nat.add_sub_cancel_left] at hc1
    rw [e2, Nat.add_sub_cancel_left] at hc2
    refine ⟨⟨hc1, hc2⟩, fun lsr' H' locs' a1 a2 a3 a4 => ?_⟩
    have := kk lsr' H' locs' a1 a2 a3 a4
    rwa [e1, e2, Nat.add_sub_cancel_left, Nat.add_sub_cancel_left] at this
  cases ins
  case getfield i =>
    simp only [mj_chk, Bool.and_eq_true, decide_eq_true_eq] at hk
    obtain ⟨hln, hk⟩ := hk
    subst hln
    obtain ⟨r, hr, hbn, hw⟩ := mj_fl_in hk
    simp only [mj_sh] at hs
    split at hs
    · rename_i a rest
      split at hs
      · rename_i h0
        have ha1 := h0.1
        cases hs
        obtain ⟨r', e1, e2, cell, q1, q2, q3, q4⟩ := (w4 a h0.1).ob (by rw [h0.2]; exact mj_vlt hr)
        rw [h0.2, hr] at e1
        cases e1
        rw [h0.2] at q2 q4
        obtain ⟨hS, hfc, kC, hkC, hkind⟩ := hF.1.1 ea _ hr
        obtain ⟨cf, kf, fi, f, hi, hsl⟩ := hS eb hbn
        have kx := kk0 rfl rfl lsr H locs hl hW hlow hlo
        show W p l e R s m args below meth c H locs cells slots Q (F0 m pc lsr (mj_tr g (.ref a) :: rest.map (mj_tr g)))
        rw [mj_adr (a := a) (Nat.lt_of_lt_of_le ha1 w2)]
        exact W.getf hx hb hown (hts _ hw) hi (u_facts hfc hkC (u_lays hts (mj_lays_in hr) hbn) hi).1 q1 (by rw [q3]; exact fun h => by cases h) (v := mj_tr g (h.2.2.2 a eb)) (by rw [hsl, q4 eb hbn]) rfl rfl hd kx
      · cases hs
    · cases hs
  case baload =>
    obtain rfl : ln = 1 := by simpa [mj_chk] using hk
    simp only [mj_sh] at hs
    split at hs
    · rename_i i a rest
      split at hs
      · rename_i h0
        have ha1 := h0.1
        cases hs
        obtain ⟨hv, hi0, hin⟩ := mj_inv h0.2.2
        have kx := kk0 rfl rfl lsr H locs hl hW hlow hlo
        have hcell := (w4 a h0.1).ar (by rw [h0.2.1]; decide)
        rw [h0.2.1] at hcell
        show W p l e R s m args below meth c H locs cells slots Q (F0 m pc lsr (.int i :: mj_tr g (.ref a) :: rest.map (mj_tr g)))
        rw [mj_adr (a := a) (Nat.lt_of_lt_of_le ha1 w2)]
        exact W.zald (v := mj_tr g (h.2.2.2 a i.toNatClampNeg)) hx hb hcell ((hF.arr (t := 21) (by decide) (by decide)).1 _ _) (fun q => by cases q) (by rw [arrV_size]; exact hv) (by rw [arrV_read _ _ hin]) rfl rfl hd kx
      · cases hs
    · cases hs
  case caload =>
    obtain rfl : ln = 1 := by simpa [mj_chk] using hk
    simp only [mj_sh] at hs
    split at hs
    · rename_i i a rest
      split at hs
      · rename_i h0
        have ha1 := h0.1
        cases hs
        obtain ⟨hv, hi0, hin⟩ := mj_inv h0.2.2
        have kx := kk0 rfl rfl lsr H locs hl hW hlow hlo
        have hcell := (w4 a h0.1).ar (by rw [h0.2.1]; decide)
        rw [h0.2.1] at hcell
        show W p l e R s m args below meth c H locs cells slots Q (F0 m pc lsr (.int i :: mj_tr g (.ref a) :: rest.map (mj_tr g)))
        rw [mj_adr (a := a) (Nat.lt_of_lt_of_le ha1 w2)]
        exact W.cald (v := mj_tr g (h.2.2.2 a i.toNatClampNeg)) hx hb hcell ((hF.arr (t := 22) (by decide) (by decide)).1 _ _) (fun q => by cases q) (by rw [arrV_size]; exact hv) (by rw [arrV_read _ _ hin]) rfl rfl hd kx
      · cases hs
    · cases hs
  case iaload =>
    obtain rfl : ln = 1 := by simpa [mj_chk] using hk
    simp only [mj_sh] at hs
    split at hs
    · rename_i i a rest
      split at hs
      · rename_i h0
        have ha1 := h0.1
        cases hs
        obtain ⟨hv, hi0, hin⟩ := mj_inv h0.2.2
        have kx := kk0 rfl rfl lsr H locs hl hW hlow hlo
        by_cases ha : a < h.1
        · have hcell := (w4 a ha).ar (by rw [h0.2.1]; decide)
          rw [h0.2.1] at hcell
          show W p l e R s m args below meth c H locs cells slots Q (F0 m pc lsr (.int i :: mj_tr g (.ref a) :: rest.map (mj_tr g)))
          rw [mj_adr (a := a) (Nat.lt_of_lt_of_le ha w2)]
          exact W.iald (v := mj_tr g (h.2.2.2 a i.toNatClampNeg)) hx hb hcell ((hF.arr (t := 20) (by decide) (by decide)).1 _ _) (fun q => by cases q) (by rw [arrV_size]; exact hv) (by rw [arrV_read _ _ hin]) rfl rfl hd kx
        · have e : a = mj_X := by
            have := h0.1
            unfold mj_rd at this
            simpa [ha] using this
          subst e
          obtain ⟨scr, x1, x2, x3, x4, x5⟩ := hF.2.2.2.1
          obtain ⟨y1, y2⟩ := hW.2.2.1
          rw [y1] at hv hin
          have e5 := y2 _ hin
          have kx2 : W p l e R s m args below meth c H locs cells slots Q (F0 m (pc + 1) lsr (.int (K.2.2.2 i.toNatClampNeg) :: rest.map (mj_tr g))) := by
            have k2 := kx
            simp only [List.map_cons, e5] at k2
            exact k2
          show W p l e R s m args below meth c H locs cells slots Q (F0 m pc lsr (.int i :: mj_tr g (.ref mj_X) :: rest.map (mj_tr g)))
          rw [mj_adX]
          exact W.iald (v := .int (K.2.2.2 i.toNatClampNeg)) hx hb (by rw [hlow _ hF.2.2.2.2.1]; exact x1) x2 x3 (by rw [x4]; exact hv) (x5 _ hin) rfl rfl hd kx2
      · cases hs
    · cases hs
  case arraylength =>
    obtain rfl : ln = 1 := by simpa [mj_chk] using hk
    simp only [mj_sh] at hs
    split at hs
    · rename_i a rest
      split at hs
      · rename_i h0
        cases hs
        have kx := kk0 rfl rfl lsr H locs hl hW hlow hlo
        by_cases ha : a < h.1
        · have hcell := (w4 a ha).ar h0.2.1
          show W p l e R s m args below meth c H locs cells slots Q (F0 m pc lsr (mj_tr g (.ref a) :: rest.map (mj_tr g)))
          rw [mj_adr (a := a) (Nat.lt_of_lt_of_le ha w2)]
          exact W.alen hx hb hcell ((hF.arr h0.2.1 h0.2.2).1 _ _) (by rw [arrV_size]) rfl rfl hd kx
        · have e : a = mj_X := by
            have := h0.1
            unfold mj_rd at this
            simpa [ha] using this
          subst e
          obtain ⟨scr, x1, x2, x3, x4, x5⟩ := hF.2.2.2.1
          obtain ⟨y1, y2⟩ := hW.2.2.1
          show W p l e R s m args below meth c H locs cells slots Q (F0 m pc lsr (mj_tr g (.ref mj_X) :: rest.map (mj_tr g)))
          rw [mj_adX]
          exact W.alen (n := Int32.ofNat (h.2.2.1 mj_X).2) hx hb (by rw [hlow _ hF.2.2.2.2.1]; exact x1) x2 (by rw [x4, y1]) rfl rfl hd kx
      · cases hs
    · cases hs
  case aaload =>
    obtain rfl : ln = 1 := by simpa [mj_chk] using hk
    simp only [mj_sh] at hs
    split at hs
    · rename_i i a rest
      split at hs
      · rename_i h0
        have ha1 := h0.1
        cases hs
        obtain ⟨hv, hi0, hin⟩ := mj_inv h0.2.2.2
        have kx := kk0 rfl rfl lsr H locs hl hW hlow hlo
        have hcell := (w4 a h0.1).ar (by have := h0.2.1; omega)
        show W p l e R s m args below meth c H locs cells slots Q (F0 m pc lsr (.int i :: mj_tr g (.ref a) :: rest.map (mj_tr g)))
        rw [mj_adr (a := a) (Nat.lt_of_lt_of_le ha1 w2)]
        exact W.aald (v := mj_tr g (h.2.2.2 a i.toNatClampNeg)) hx hb hcell ((hF.arr (t := (h.2.2.1 a).1) (by have := h0.2.1; omega) h0.2.2.1).1 _ _) (mj_refs _ h0.2.1 h0.2.2.1) (fun q => by cases q) (by rw [arrV_size]; exact hv) (by rw [arrV_read _ _ hin]) rfl rfl hd kx
      · cases hs
    · cases hs
  case iastore =>
    obtain rfl : ln = 1 := by simpa [mj_chk] using hk
    simp only [mj_sh] at hs
    split at hs
    · rename_i x i a rest
      split at hs
      · rename_i h0
        have ha1 := h0.1
        cases hs
        obtain ⟨hv, hi0, hin⟩ := mj_inv h0.2.2
        have hcell := (w4 a h0.1).ar (by rw [h0.2.1]; decide)
        rw [h0.2.1] at hcell
        show W p l e R s m args below meth c H locs cells slots Q (F0 m pc lsr (.int x :: .int i :: mj_tr g (.ref a) :: rest.map (mj_tr g)))
        rw [mj_adr (a := a) (Nat.lt_of_lt_of_le ha1 w2)]
        refine W.iast hx hb hcell ((hF.arr (t := 20) (by decide) (by decide)).1 _ _) (fun q => by cases q) (by rw [arrV_size]; exact hv) rfl rfl hd (fun H' e1 e2 e3 => ?_)
        refine kk0 rfl rfl lsr H' _ hl (hW.upd h0.1 (fun j hj => mj_putN hj) e2 e3 ?_) (fun x hx => by rw [e3 x (show ¬ @Eq Nat x (g.1 + a) by omega)]; exact hlow x hx) (fun x hx => ?_)
        · rw [mj_putS, h0.2.1]
          exact mj_cellAt.st (by decide) e1
        · rcases List.mem_append.mp hx with hx | hx
          · exact hlo x hx
          · rw [List.mem_singleton.mp hx]
            exact Nat.le_add_right _ _
      · cases hs
    · cases hs
  case bastore =>
    obtain rfl : ln = 1 := by simpa [mj_chk] using hk
    simp only [mj_sh] at hs
    split at hs
    · rename_i x i a rest
      split at hs
      · rename_i h0
        have ha1 := h0.1
        cases hs
        obtain ⟨hv, hi0, hin⟩ := mj_inv h0.2.2
        have hcell := (w4 a h0.1).ar (by rw [h0.2.1]; decide)
        rw [h0.2.1] at hcell
        show W p l e R s m args below meth c H locs cells slots Q (F0 m pc lsr (.int x :: .int i :: mj_tr g (.ref a) :: rest.map (mj_tr g)))
        rw [mj_adr (a := a) (Nat.lt_of_lt_of_le ha1 w2)]
        refine W.zast hx hb hcell ((hF.arr (t := 21) (by decide) (by decide)).1 _ _) (fun q => by cases q) (by rw [arrV_size]; exact hv) rfl rfl hd (fun H' e1 e2 e3 => ?_)
        refine kk0 rfl rfl lsr H' _ hl (hW.upd h0.1 (fun j hj => mj_putN hj) e2 e3 ?_) (fun x hx => by rw [e3 x (show ¬ @Eq Nat x (g.1 + a) by omega)]; exact hlow x hx) (fun x hx => ?_)
        · rw [mj_putS, h0.2.1]
          exact mj_cellAt.st (by decide) e1
        · rcases List.mem_append.mp hx with hx | hx
          · exact hlo x hx
          · rw [List.mem_singleton.mp hx]
            exact Nat.le_add_right _ _
      · cases hs
    · cases hs
  case castore =>
    obtain rfl : ln = 1 := by simpa [mj_chk] using hk
    simp only [mj_sh] at hs
    split at hs
    · rename_i x i a rest
      split at hs
      · rename_i h0
        have ha1 := h0.1
        cases hs
        obtain ⟨hv, hi0, hin⟩ := mj_inv h0.2.2
        have hcell := (w4 a h0.1).ar (by rw [h0.2.1]; decide)
        rw [h0.2.1] at hcell
        show W p l e R s m args below meth c H locs cells slots Q (F0 m pc lsr (.int x :: .int i :: mj_tr g (.ref a) :: rest.map (mj_tr g)))
        rw [mj_adr (a := a) (Nat.lt_of_lt_of_le ha1 w2)]
        refine W.cast hx hb hcell ((hF.arr (t := 22) (by decide) (by decide)).1 _ _) (fun q => by cases q) (by rw [arrV_size]; exact hv) rfl rfl hd (fun H' e1 e2 e3 => ?_)
        refine kk0 rfl rfl lsr H' _ hl (hW.upd h0.1 (fun j hj => mj_putN hj) e2 e3 ?_) (fun x hx => by rw [e3 x (show ¬ @Eq Nat x (g.1 + a) by omega)]; exact hlow x hx) (fun x hx => ?_)
        · rw [mj_putS, h0.2.1]
          exact mj_cellAt.st (by decide) e1
        · rcases List.mem_append.mp hx with hx | hx
          · exact hlo x hx
          · rw [List.mem_singleton.mp hx]
            exact Nat.le_add_right _ _
      · cases hs
    · cases hs
  case putfield i =>
    simp only [mj_chk, Bool.and_eq_true, decide_eq_true_eq] at hk
    obtain ⟨⟨hln, hk⟩, hfin⟩ := hk
    subst hln
    obtain ⟨r, hr, hbn, hw⟩ := mj_fl_in hk
    simp only [hr] at hfin
    simp only [mj_sh] at hs
    split at hs
    · rename_i v a rest
      split at hs
      · rename_i h0
        have ha1 : @LT.lt Nat instLTNat a h.1 := h0.1
        cases hs
        have ho := (w4 a h0.1).ob (by rw [h0.2.1]; exact mj_vlt hr)
        rw [h0.2.1] at ho
        obtain ⟨r', e1, e2, cell, q1, q2, q3, q4⟩ := ho
        rw [hr] at e1
        cases e1
        obtain ⟨hS, hfc, kC, hkC, hkind⟩ := hF.1.1 ea _ hr
        obtain ⟨cf, kf, fi, f, hi, hsl⟩ := hS eb hbn
        obtain ⟨hty, hnm⟩ := mj_names ea (mj_vlt hr) _ hr
        have hap := va_apart (own := mj_own o) hts (mj_lays_in hr) (mj_fty ea) hty hnm hF.1 hr
        have hd1 := hty eb hbn
        have hn1 : narrow (mj_fty ea eb) (mj_tr g v) = mj_tr g v := by
          have := h0.2.2.1
          cases v with
          | ref a => unfold mj_tr; cases mj_fty ea eb <;> rfl
          | int x => exact this
          | long x => exact this
          | float x => exact this
          | double x => exact this
          | null => exact this
          | retAddr x => exact this
        have hf1 : fits (mj_fty ea eb) (mj_tr g v) = true := by
          have := h0.2.2.2
          cases v with
          | ref a => revert this; unfold mj_tr; cases mj_fty ea eb <;> exact id
          | int x => exact this
          | long x => exact this
          | float x => exact this
          | double x => exact this
          | null => exact this
          | retAddr x => exact this
        have fin : ∀ (H' : Heap), H'[g.1 + a]? = some (cell.setSlot (K.1.2 ea eb) (mj_tr g v)) → H'.size = H.size → (∀ q : Nat, q ≠ g.1 + a → H'[q]? = H[q]?) → W p l e R s m args below meth c H' (locs ++ [⟨g.1 + a, K.1.2 ea eb⟩]) cells slots Q (F0 m (pc + 3) lsr (rest.map (mj_tr g))) := by
          intro H' x1 x2 x3
          refine kk0 rfl rfl lsr H' _ hl (hW.upd h0.1 (fun j hj => mj_putN hj) x2 x3 ?_) (fun x hx => by rw [x3 x (show ¬ @Eq Nat x (g.1 + a) by omega)]; exact hlow x hx) (fun x hx => ?_)
          · rw [mj_putS, h0.2.1]
            unfold mj_cellAt
            rw [if_pos (mj_vlt hr)]
            refine ⟨r, hr, e2, t_OB.to (V := updV (fun k => mj_tr g (h.2.2.2 a k)) eb (mj_tr g v)) ⟨_, x1, q2, q3, t_set q4 hap hbn (mj_tr g v)⟩ (fun j _ => ?_)⟩
            unfold updV
            by_cases e : j = eb
            · rw [if_pos e]
              dsimp only
              rw [if_pos e]
            · rw [if_neg e]
              dsimp only
              rw [if_neg e]
          · rcases List.mem_append.mp hx with hx | hx
            · exact hlo x hx
            · rw [List.mem_singleton.mp hx]
              exact Nat.le_add_right _ _
        show W p l e R s m args below meth c H locs cells slots Q (F0 m pc lsr (mj_tr g v :: mj_tr g (.ref a) :: rest.map (mj_tr g)))
        rw [mj_adr (a := a) (Nat.lt_of_lt_of_le ha1 w2)]
        have hst := (u_facts hfc hkC (u_lays hts (mj_lays_in hr) hbn) hi).1
        have hlay := hts _ (mj_lays_in hr _ (u_in_lay hbn))
        unfold u_lay at hlay
        by_cases hfn : (r.2.1 eb).2.2.2 = true
        · rw [if_pos hfn] at hlay
          simp only [hfn, Bool.not_true, Bool.false_or, Bool.and_eq_true, decide_eq_true_eq] at hfin
          have hcf : m.cls = cf := by
            obtain ⟨_, _, c', _, _, _, -, -, hf', -, -, -, hown2, -⟩ := Cond.laysFinal_spec hlay
            have e1 : c' = cf := by have := hi.symm.trans hf'; simp at this; exact this.1.symm
            rw [hfin.2] at hown2
            rw [← e1]; exact Option.some.inj (hown.symm.trans hown2)
          have h6 := u_fits hfc hkC hkind (Or.inr hlay) hi hd1 hn1 hf1
          exact W.putFinK hx hb hown (hts _ hw) hi hst hcf (hini hfin.1) (by rw [q2]; exact h6) q1 q3 (by rw [hsl]; exact k2_hasslot (q4 eb hbn)) rfl rfl hd (fun H' x1 x2 x3 => by rw [hsl] at x1 ⊢; exact fin H' x1 x2 x3)
        · rw [if_neg hfn] at hlay
          have h6 := u_store hfc hkC hkind hlay hi hd1 hn1 hf1
          exact W.putK hx hb (f := f) ⟨hown, hts _ hw, ⟨_, _, _, hi⟩, hst⟩ (by rw [q2]; exact h6) q1 q3 (by rw [hsl]; exact k2_hasslot (q4 eb hbn)) rfl rfl hd (fun H' x1 x2 x3 => by rw [hsl] at x1 ⊢; exact fin H' x1 x2 x3)
      · cases hs
    · cases hs
  case aastore =>
    obtain rfl : ln = 1 := by simpa [mj_chk] using hk
    simp only [mj_sh] at hs
    split at hs
    · rename_i v i a rest
      split at hs
      · rename_i h0
        have ha1 : @LT.lt Nat instLTNat a h.1 := h0.1
        have hv1 : @LT.lt Nat instLTNat v h.1 := h0.2.1
        cases hs
        obtain ⟨hv, hi0, hin⟩ := mj_inv h0.2.2.2
        have htag := h0.2.2.1
        obtain ⟨kA, kc, comp, k1, k2, k3, k4⟩ := mj_ast_ok hF htag
        have ht20 : 20 ≤ (h.2.2.1 a).1 := by omega
        have htv : (h.2.2.1 v).1 < 13 := by omega
        have href : (mj_ty (h.2.2.1 a).1).isReference = true := mj_refs _ (by omega) (by omega)
        have hcell := (w4 a h0.1).ar ht20
        obtain ⟨r', e1, e2, cellV, q1, q2, q3, q4⟩ := (w4 v h0.2.1).ob htv
        have hcv := (hF.1.1 _ _ e1).2
        obtain ⟨-, kV, hkV, -⟩ := id hcv
        show W p l e R s m args below meth c H locs cells slots Q (F0 m pc lsr (mj_tr g (.ref v) :: .int i :: mj_tr g (.ref a) :: rest.map (mj_tr g)))
        rw [mj_adr (a := a) (Nat.lt_of_lt_of_le ha1 w2), mj_adr (a := v) (Nat.lt_of_lt_of_le hv1 w2)]
        refine W.aast hx hb hcell (fun q h => by cases h) (fun h => by cases h) k1 k2 href k3 ⟨hi0, by rw [arrV_size]; exact hin⟩ q1 (fun q h => by rw [q3] at h; cases h) (by rw [q2]; exact hkV) (by rw [q2]; exact k4) rfl rfl hd fun H' x1 x2 x3 => ?_
        refine kk0 rfl rfl lsr H' _ hl (hW.upd h0.1 (fun j hj => mj_putN hj) x2 x3 ?_) (fun x hx => by rw [x3 x (show ¬ @Eq Nat x (g.1 + a) by omega)]; exact hlow x hx) (fun x hx => ?_)
        · rw [mj_putS]
          exact mj_cellAt.st ht20 (by rw [mj_adr (a := v) (Nat.lt_of_lt_of_le hv1 w2)]; exact x1)
        · rcases List.mem_append.mp hx with hx | hx
          · exact hlo x hx
          · rw [List.mem_singleton.mp hx]
            exact Nat.le_add_right _ _
      · cases hs
    · cases hs
  case new i =>
    simp only [mj_chk, Bool.and_eq_true, decide_eq_true_eq] at hk
    obtain ⟨hln, hk⟩ := hk
    subst hln
    obtain ⟨r, hr, hw⟩ := mj_nl_in hk
    simp only [mj_sh, hr] at hs
    split at hs
    · rename_i h0
      cases hs
      obtain ⟨⟨b1, b2⟩, kx⟩ := kk1 1 r.2.2 rfl rfl
      have hKn := hF.1.1 ea _ hr
      obtain ⟨hty, -⟩ := mj_names ea (mj_vlt hr) _ hr
      refine W.newcK hx hb hown (hts _ (hw _ (by simp))) (hts _ (hw _ (by simp))) (hts _ (hw _ (by simp))) rfl hd b1 b2 hKn.2.1 w1 fun H1 kC hkC e1 z1 o1 => ?_
      have := kx lsr H1 locs hl (hW.new h0 (by rw [z1, w1]) (fun q hq => o1 q (by rw [← w1]; exact hq)) ?_) (fun x hx => by rw [o1 x (by omega)]; exact hlow x hx) hlo
      · show W p l e R s m args below meth c H1 locs (cells + 1) (slots + r.2.2) Q (F0 m (pc + 3) lsr (.ref (g.1 + h.1) :: st.map (mj_tr g)))
        rw [← mj_adr (g := g) (a := h.1) h0]
        exact this
      · unfold mj_cellAt
        rw [if_pos (mj_vlt hr)]
        exact ⟨r, hr, rfl, (u_born (mj_fty ea) hts (mj_lays_in hr) hKn hkC e1 hty).to (fun k _ => mj_dflt g _)⟩
    · cases hs
  case newarray t =>
    simp only [mj_chk, Bool.and_eq_true, decide_eq_true_eq] at hk
    obtain ⟨hln, hty⟩ := hk
    subst hln
    simp only [mj_sh] at hs
    split at hs
    · rename_i n rest
      split at hs
      · rename_i h0
        obtain ⟨h00, h01, h02, h03, h04⟩ := h0
        cases hs
        obtain ⟨⟨b1, b2⟩, kx⟩ := kk1 1 n.toNatClampNeg rfl rfl
        have key : (Cond.arrayClass (mj_ty ea)).before args s = true ∧ componentBytes (mj_ty ea) ≤ 8 ∧ defaultValue (mj_ty ea) = .int 0 ∧ s.vm.findClass ("[" ++ (mj_ty ea).toString) = some (K.2.1 ea) := by
          have hra := (hF.arr (t := ea) h03 (by omega)).2
          rcases (show ea = 20 ∨ ea = 21 ∨ ea = 22 by omega) with rfl | rfl | rfl
          · exact ⟨hts _ mj_ac_int, by decide, rfl, hra⟩
          · exact ⟨hts _ mj_ac_bool, by decide, rfl, hra⟩
          · exact ⟨hts _ mj_ac_char, by decide, rfl, hra⟩
        obtain ⟨k1, k2, k3, k4⟩ := key
        refine va_newaK hx hb (by rw [hty]; exact k1) rfl hd rfl h01 rfl (by rw [hty]; exact Nat.le_trans (Nat.mul_le_mul h02 k2) (by decide)) b1 b2 w1 fun H1 cA e1 z1 o1 hAr hNm => ?_
        rw [hty] at e1 hNm
        have ec : cA = K.2.1 ea := Option.some.inj (hNm.symm.trans k4)
        subst ec
        rw [k3] at e1
        have := kx lsr H1 locs hl (hW.new h00 (by rw [z1, w1]) (fun q hq => o1 q (by rw [← w1]; exact hq)) ?_) (fun x hx => by rw [o1 x (by omega)]; exact hlow x hx) hlo
        · show W p l e R s m args below meth c H1 locs (cells + 1) (slots + n.toNatClampNeg) Q (F0 m (pc + 2) lsr (.ref (g.1 + h.1) :: rest.map (mj_tr g)))
          rw [← mj_adr (g := g) (a := h.1) h00]
          exact this
        · unfold mj_cellAt
          rw [if_neg (by omega)]
          exact e1
      · cases hs
    · cases hs
  case anewarray i =>
    simp only [mj_chk, Bool.and_eq_true, decide_eq_true_eq] at hk
    obtain ⟨hln, hk⟩ := hk
    subst hln
    have hw := mj_al_in hk
    simp only [mj_sh] at hs
    split at hs
    · rename_i n rest
      split at hs
      · rename_i h0
        obtain ⟨h00, h01, h02, h03, h04⟩ := h0
        cases hs
        obtain ⟨⟨b1, b2⟩, kx⟩ := kk1 1 n.toNatClampNeg rfl rfl
        have key : ∃ C : String, mj_ty ea = .object C ∧ (Cond.classLink (mj_own o) i C).before args s = true ∧ (Cond.arrayOver (.object C)).before args s = true := by
          obtain ⟨a1, a2, a3, a4, -⟩ := hF.2.2.1
          rcases (show ea = 23 ∨ ea = 24 ∨ ea = 25 ∨ ea = 26 by omega) with rfl | rfl | rfl | rfl
          · exact ⟨_, rfl, hts _ hw, a1.use⟩
          · exact ⟨_, rfl, hts _ hw, a2.use⟩
          · exact ⟨_, rfl, hts _ hw, a3.use⟩
          · exact ⟨_, rfl, hts _ hw, a4.use⟩
        obtain ⟨C, k1, k2, k3⟩ := key
        have hra := (hF.arr (t := ea) (by omega) (by omega)).2
        rw [k1] at hra
        obtain ⟨kA', comp', -, -, -, k4⟩ := hra
        refine W.anew hx hb hown k2 k3 rfl hd rfl h01 (by omega) b1 b2 fun cA kA comp x1 x2 x3 x4 => ?_
        have ec : cA = K.2.1 ea := Option.some.inj (x1.symm.trans k4)
        subst ec
        have := kx lsr (H.push { cls := K.2.1 ea, slots := Array.replicate n.toNatClampNeg .null, vm := .none }) locs hl (hW.new h00 (by simp) (fun q hq => by rw [Array.getElem?_push, if_neg (Nat.ne_of_lt hq)]) ?_) (fun x hx => by rw [Array.getElem?_push, if_neg (by omega)]; exact hlow x hx) hlo
        · show W p l e R s m args below meth c _ locs (cells + 1) (slots + n.toNatClampNeg) Q (F0 m (pc + 3) lsr (.ref H.size :: rest.map (mj_tr g)))
          rw [w1, ← mj_adr (g := g) (a := h.1) h00]
          exact this
        · unfold mj_cellAt
          rw [if_neg (by omega), arrV_new, ← w1]
          simp
          rfl
      · cases hs
    · cases hs
  case multianewarray i d =>
    simp only [mj_chk, Bool.and_eq_true, decide_eq_true_eq] at hk
    obtain ⟨⟨hln, hd2⟩, hk⟩ := hk
    subst hln
    subst hd2
    have hw := mj_al_in hk
    simp only [mj_sh] at hs
    split at hs
    · rename_i k n rest
      split at hs
      · rename_i h0
        obtain ⟨h00, h01, h02, h03, h04⟩ := h0
        cases hs
        obtain ⟨⟨b1, b2⟩, kx⟩ := kk1 (1 + n.toNatClampNeg) (n.toNatClampNeg + n.toNatClampNeg * k.toNatClampNeg) (by show h.1 + 1 + _ = _; omega) rfl
        refine hMA hx hb hown hts hF (hts _ hw) hd hW h00 h01 h02 h03 h04 b1 b2 fun H1 y1 y2 => ?_
        have := kx lsr H1 locs hl y1 (fun x hx => by rw [y2 x (by omega)]; exact hlow x hx) hlo
        rw [← mj_adr (g := g) (a := h.1) (by omega)]
        exact this
      · cases hs
    · cases hs
  case invokespecial i =>
    simp only [mj_sh] at hs
    split at hs
    · rename_i a rest
      split at hs
      · rename_i h0
        have ha1 : @LT.lt Nat instLTNat a h.1 := h0.2.1
        have he : ea = 3000 := h0.1
        subst he
        cases hs
        simp only [mj_chk, Bool.and_eq_true, decide_eq_true_eq, if_true] at hk
        obtain ⟨hln, hk⟩ := hk
        subst hln
        have hw := mj_ol_in hk
        have kx := kk0 rfl rfl lsr H locs hl hW hlow hlo
        show W p l e R s m args below meth c H locs cells slots Q (F0 m pc lsr (mj_tr g (.ref a) :: rest.map (mj_tr g)))
        rw [mj_adr (a := a) (Nat.lt_of_lt_of_le ha1 w2)]
        have h8 : 2 * (F0 m pc lsr (.ref (g.1 + a) :: rest.map (mj_tr g))).monitorRoom + ((rest.map (mj_tr g)).map fun v => v.category).sum ≤ 8 := lv_room (by rw [mj_tr_sum]; exact h0.2.2)
        exact W.objInit hx hb hown (hts _ (hw _ (by simp))) (hts _ (hw _ (by simp))) (hts _ (hw _ (by simp))) rfl (by rw [hml]; exact hl.1) rfl hd (by omega) (by omega) kx
      · cases hs
    · cases hs
  case invokestatic i =>
    simp only [mj_sh] at hs
    split at hs
    · rename_i n dp b sp a rest
      split at hs
      · rename_i h0
        obtain ⟨he, ha1, hb1, hta, htb, h1, h2, h3, h4, h5, h6, h7⟩ := h0
        have ha2 : @LT.lt Nat instLTNat a h.1 := ha1
        have hb2 : @LT.lt Nat instLTNat b h.1 := hb1
        subst he
        cases hs
        simp only [mj_chk, Bool.and_eq_true, decide_eq_true_eq, if_true] at hk
        obtain ⟨hln, hk⟩ := hk
        subst hln
        have hw := mj_acl_in hk
        have hcA := (w4 a ha1).ar (by rw [hta]; decide)
        have hcB := (w4 b hb1).ar (by rw [htb]; decide)
        rw [hta] at hcA
        rw [htb] at hcB
        have hO := (hF.arr (t := 20) (by decide) (by decide)).1
        obtain ⟨-, k0, hk0, cm0, hkk0⟩ := hO (h.2.2.1 a).2 (fun j => mj_tr g (h.2.2.2 a j))
        obtain ⟨-, k1, hk1, cm1, hkk1⟩ := hO (h.2.2.1 b).2 (fun j => mj_tr g (h.2.2.2 b j))
        have nn : ∀ z : Int32, ¬ z < 0 → z.toInt = (z.toNatClampNeg : Int) := by
          intro z hz
          have hz0 : (0 : Int) ≤ z.toInt := by
            have := Int32.not_lt.mp hz
            simpa using Int32.le_iff_toInt_le.mp this
          show z.toInt = ((z.toInt.toNat : Nat) : Int)
          omega
        have kx := kk0 rfl rfl lsr
        show W p l e R s m args below meth c H locs cells slots Q (F0 m pc lsr (.int n :: .int dp :: mj_tr g (.ref b) :: .int sp :: mj_tr g (.ref a) :: rest.map (mj_tr g)))
        rw [mj_adr (a := a) (Nat.lt_of_lt_of_le ha2 w2), mj_adr (a := b) (Nat.lt_of_lt_of_le hb2 w2)]
        intro T hT X
        obtain ⟨vm', X', step⟩ := X.arraycopy (own := mj_own o) (index := i) hx hown (hts _ (hw _ (by simp))) (hts _ (hw _ (by simp))) (hts _ (hw _ (by simp))) (hts _ (hw _ (by simp))) (src := g.1 + a) (dst := g.1 + b) (cs := arrV (K.2.1 20) (h.2.2.1 a).2 (fun j => mj_tr g (h.2.2.2 a j))) (cd := arrV (K.2.1 20) (h.2.2.1 b).2 (fun j => mj_tr g (h.2.2.2 b j))) (srcPos := sp) (destPos := dp) (n := n) (by rw [hT]; exact hcA) (by rw [hT]; exact hcB)
          (fun _ h => by cases h) (fun _ h => by cases h) (fun h => by cases h) (fun h => by cases h) hk0 hk1 hkk0 hkk1 (by rfl) h1 h2 h3
          (by rw [nn sp h1, nn n h3, arrV_size]; omega)
          (by rw [nn dp h2, nn n h3, arrV_size]; omega)
          (fun vm₁ _ i hi => by
            have e : (arrV (K.2.1 20) (h.2.2.1 a).2 (fun j => mj_tr g (h.2.2.2 a j))).slots.getD (sp.toNatClampNeg + i) .null = mj_tr g (h.2.2.2 a (sp.toNatClampNeg + i)) := by
              rw [Array.getD_eq_getD_getElem?, arrV_read _ _ (by omega)]
              rfl
            have hi2 := h6 i hi
            rw [e]
            cases hv : h.2.2.2 a (sp.toNatClampNeg + i) with
            | int z => exact ⟨rfl, trivial⟩
            | _ => rw [hv] at hi2; cases hi2)
          (g := F0 m pc lsr (.int n :: .int dp :: .ref (g.1 + b) :: .int sp :: .ref (g.1 + a) :: rest.map (mj_tr g))) rfl (by rw [hml]; exact hl.1) (rest := rest.map (mj_tr g)) rfl (by rw [hb]; exact hd) (by omega) (by
            have e1 : ((rest.map (mj_tr g)).map fun v => v.category).sum = mj_sum rest := mj_tr_sum g rest
            have e2 : mj_sum rest ≤ 8 := h7
            have e3 : nativeFrameWords "java/lang/System" "arraycopy" 5 ≤ 900 := by decide +kernel
            show 2 * 0 + _ + _ ≤ _
            omega)
        have e1 : copied (arrV (K.2.1 20) (h.2.2.1 a).2 (fun j => mj_tr g (h.2.2.2 a j))) (arrV (K.2.1 20) (h.2.2.1 b).2 (fun j => mj_tr g (h.2.2.2 b j))) sp dp n = arrV (K.2.1 20) (h.2.2.1 b).2 (fun j => mj_tr g (va_cpy (h.2.2.2 a) (h.2.2.2 b) sp.toNatClampNeg dp.toNatClampNeg n.toNatClampNeg j)) := va_copied (mj_tr g) (K.2.1 20) (K.2.1 20) (h.2.2.2 a) (h.2.2.2 b) h4
        rw [e1] at X' step
        have hl2 : g.1 + b < H.size := (Array.getElem?_eq_some_iff.mp hcB).1
        obtain ⟨t, a1, b1⟩ := kx _ _ hl (hW.upd (V' := mj_cpy h.2.2.2 a sp.toNatClampNeg b dp.toNatClampNeg n.toNatClampNeg) hb1 (fun j hj => by funext k; simp [mj_cpy, hj]) (H1 := H.setIfInBounds (g.1 + b) (arrV (K.2.1 20) (h.2.2.1 b).2 (fun j => mj_tr g (va_cpy (h.2.2.2 a) (h.2.2.2 b) sp.toNatClampNeg dp.toNatClampNeg n.toNatClampNeg j)))) (by simp) (fun q hq => by simp [Array.getElem?_setIfInBounds, Ne.symm hq]) (by
            unfold mj_cellAt
            rw [if_neg (by rw [htb]; decide), htb]
            simp only [Array.getElem?_setIfInBounds, hl2, if_true]
            refine congrArg some (congrArg (arrV (K.2.1 20) (h.2.2.1 b).2) (funext fun j => ?_))
            simp [mj_cpy, va_cpy])) (fun x hx => by rw [Array.getElem?_setIfInBounds, if_neg (by omega)]; exact hlow x hx) (fun x hx => by
            rcases List.mem_append.mp hx with hx | hx
            · exact hlo x hx
            · obtain ⟨z, -, hz⟩ := List.mem_map.mp hx
              rw [← hz]
              exact Nat.le_add_right _ _) ((T.setVm vm').setCell (g.1 + b) (arrV (K.2.1 20) (h.2.2.1 b).2 (fun j => mj_tr g (va_cpy (h.2.2.2 a) (h.2.2.2 b) sp.toNatClampNeg dp.toNatClampNeg n.toNatClampNeg j)))) (by rw [← hT]; rfl) X'
        exact ⟨t, step t a1, b1⟩
      · cases hs
    · cases hs
  all_goals (simp only [mj_sh] at hs; cases hs)
end MJH
end
section
/-! ===== calls ===== -/
/-- a fact of the state that warming and lower cells keep -/
def mj_ZZ (g : mj_G) (Z : State → Prop) : Prop := (∀ u U : State, U.vm = u.vm → U.heap = u.heap → Z u → Z U) ∧ ∀ s U : State, s.WarmedH U.vm → (∀ a : Nat, a < g.1 → U.heap[a]? = s.heap[a]?) → Z s → Z U
theorem mj_AOA.moved {t : FieldType} {u U : State} (hvm : u.vm.Alike U.vm) (h : mj_AOA t u) : mj_AOA t U := by
  obtain ⟨comp, c, k, h1, h2, h3, h4, h5⟩ := arrayOverA_spec h
  obtain ⟨k', hk', he⟩ := hvm.2.2 _ _ h3
  have hi : (U.vm.classes.findIdx? fun (x : Class) => match x.kind with | .array component _ => component == comp | _ => false) = some c := by
    have e1 := va_idx_bare U.vm comp
    have e2 := va_idx_bare u.vm comp
    have hb : U.vm.bare = u.vm.bare := by first | exact hvm.bare_eq | exact hvm.bare_eq.symm
    rw [hb] at e1
    exact (e1.symm.trans e2).trans h2
  have hkind : k'.kind = .array comp (.array t) := by rw [he]; exact h4
  have f1 : U.vm.findClass (FieldType.array t).toString = some comp := by rw [hvm.findClass]; exact h1
  have f2 : U.vm.findClass ("[" ++ (FieldType.array t).toString) = some c := by rw [hvm.findClass]; exact h5
  unfold mj_AOA Cond.before Cond.holds
  simp only [Cond.value]
  rw [f1, Option.bind_some]
  refine (congrArg (fun o : Option Nat => (o.bind (fun c => (U.vm.classes[c]?).map fun (k : Class) => match k.kind with | .array _ ty => decide (ty = FieldType.array t) && decide (U.vm.findClass ("[" ++ (FieldType.array t).toString) = some c) | _ => false) == some true)) hi).trans ?_
  simp [hk', hkind, f2]
def mj_nwk : Cond → Bool
  | .methodLinkNest .. => true
  | .castable .. => true
  | _ => false
theorem mj_nwk_ok : ∀ w ∈ mj_nw, mj_nwk w = true := by
  have h : mj_nw.all mj_nwk = true := by decide +kernel
  exact List.all_eq_true.mp h
theorem mj_F.warm {g : mj_G} {K : mj_K} {Z : State → Prop} {s U : State} (hZ : mj_ZZ g Z) (hW : s.WarmedH U.vm) (hq : ∀ a : Nat, a < g.1 → U.heap[a]? = s.heap[a]?) (h : mj_F g K Z s) : mj_F g K Z U := by
  obtain ⟨h1, h2, ⟨h3, h4, h5, h6, h7⟩, h8, h9, h10⟩ := h
  refine ⟨h1.moved hW.alike, fun w hw => ?_, ⟨h3.moved hW.alike, h4.moved hW.alike, h5.moved hW.alike, h6.moved hW.alike, h7.moved hW.alike⟩, (h8.moved hW.alike).kept (hq _ h9), h9, hZ.2 _ _ hW hq h10⟩
  have hk := mj_nwk_ok w hw
  have h0 := h2 w hw
  cases w with
  | methodLinkNest a i x hh => exact va_Nw.warmM hW h0
  | castable a b => exact va_Nw.warmC hW h0
  | _ => cases hk
theorem mj_F.same {g : mj_G} {K : mj_K} {Z : State → Prop} {s U : State} (hZ : mj_ZZ g Z) (hv : U.vm = s.vm) (hh : U.heap = s.heap) (h : mj_F g K Z s) : mj_F g K Z U := by
  obtain ⟨h1, h2, ⟨h3, h4, h5, h6, h7⟩, h8, h9, h10⟩ := h
  have ha : s.vm.Alike U.vm := by rw [hv]; exact Vm.Alike.refl _
  refine ⟨h1.moved ha, fun w hw => ?_, ⟨h3.moved ha, h4.moved ha, h5.moved ha, h6.moved ha, h7.moved ha⟩, (h8.moved ha).kept (by rw [hh]), h9, hZ.1 _ _ hv hh h10⟩
  have hk := mj_nwk_ok w hw
  have h0 := h2 w hw
  cases w with
  | methodLinkNest a i x hh => exact h0.same rfl hv.symm
  | castable a b => exact h0.same rfl hv.symm
  | _ => cases hk
def mj_rm (d mc ms : Nat) : Room := { frames := d + 10, cells := mc, slots := ms, locals := 1000 + 100 * d }
def mj_ws (y : Nat) : List Cond := mj_C y :: mj_T
def mj_P (g : mj_G) (K : mj_K) (Z : State → Prop) (as : List Value) (h : mj_H) : Array Value → State → Prop := fun v U => v = (as.map (mj_tr g)).toArray ∧ mj_F g K Z U ∧ mj_Wh g K h U.heap
def mj_Q (g : mj_G) (K : mj_K) (r : Option Value) (h1 : mj_H) : Array Value → State → Outcome → State → Prop := fun _ st o t => o = .returned (r.map (mj_tr g)) ∧ mj_Wh g K h1 t.heap ∧ ∀ a : Nat, a < g.1 → t.heap[a]? = st.heap[a]?
abbrev mj_fr (g : mj_G) : Addr → Prop := fun a => g.1 ≤ a
/-- the contract of a call that the small machine runs -/
def mj_M (l : Launch) (g : mj_G) (K : mj_K) (Z : State → Prop) (d y : Nat) (as : List Value) (h : mj_H) (r : Option Value) (h1 : mj_H) : Prop := Met l (mj_Y y) (mj_ws y) (mj_rm d (h1.1 - h.1) (h1.2.1 - h.2.1)) (mj_P g K Z as h) (mj_Q g K r h1) (h1.1 - h.1) (h1.2.1 - h.2.1) (mj_fr g)
theorem mj_blind {g : mj_G} {K : mj_K} {Z : State → Prop} (hZ : mj_ZZ g Z) (as : List Value) (h : mj_H) : FrameBlind (mj_P g K Z as h) := fun a U fr mk hP => ⟨hP.1, mj_F.same (s := U) (U := U.calling fr mk a) hZ rfl rfl hP.2.1, hP.2.2⟩
theorem mj_maxL : ∀ y : Nat, y < 220 → (mj_m y).2.2.1 ≤ 80 := by decide +kernel
theorem mj_ownq : ∀ t : Nat, t < 13 → ∀ q : vw_C, vwCl[t]? = some q → q.1 = mj_own t := by
  intro t ht q hq
  have h : ∀ t : Nat, t < 13 → (vwCl[t]?).map (fun q => q.1) = some (mj_own t) := by decide +kernel
  have := h t ht
  rw [hq] at this
  exact Option.some.inj this
section MJC
variable {p : Program} {l : Launch} {e : Env} {R : Room} {s : State} {m : MethodId} {args : Array Value} {below : List Frame} {meth : Method} {c : Code} {H : Heap} {locs : List Loc} {cells slots : Nat} {Q : State → Prop} {cc : ByteArray} {pc : Nat} {lsr : Array Slot}
theorem mj_pay (hts : ∀ w ∈ mj_T, w.before args s = true) {y : Nat} (hy : y < 219) : ∀ w ∈ mj_ws y, ∀ (a' : Array Value) (U : State), s.WarmedH U.vm → w.before a' U = true := by
  refine pay_in (big := mj_T) hts fun w hw => ?_
  have hm : w ∈ mj_T := by
    rcases List.mem_cons.mp hw with rfl | h
    · exact mj_cin hy
    · exact h
  exact ⟨hm, good_of_word (List.mem_filter.mp hm).2⟩
theorem mj_plen_of {y n : Nat} (h : mj_plen y n = true) : ∀ sig, parseMethodDescriptor (mj_Y y).desc = some sig → n = sig.parameters.length := by
  intro sig hs
  unfold mj_plen at h
  rw [decide_eq_true_eq, hs] at h
  exact (Option.some.inj h).symm
theorem mj_notMH_of {y : Nat} (h : mj_notMH y = true) : (mj_Y y).cls ≠ "java/lang/invoke/MethodHandle" ∧ (mj_Y y).cls ≠ "java/lang/invoke/VarHandle" := by
  unfold mj_notMH at h
  rw [Bool.and_eq_true, decide_eq_true_eq, decide_eq_true_eq] at h
  exact h
/-- behind a call -/
theorem mj_after {g : mj_G} {K : mj_K} {v : Option Value} {h2 : mj_H} {av : Array Value} {mc ms : Nat} {st rest : List Value} (hr : va_Run p l e R s m args below meth c H locs cells slots mc ms (F0 m pc lsr st) rest (mj_Q g K v h2 av) (mj_fr g)) (hlow : ∀ a : Nat, a < g.1 → H[a]? = s.heap[a]?) (hlo : ∀ x ∈ locs, g.1 ≤ x.base)
    (kk : ∀ (H' : Heap) (locs' : List Loc), mj_Wh g K h2 H' → (∀ a : Nat, a < g.1 → H'[a]? = s.heap[a]?) → (∀ x ∈ locs', g.1 ≤ x.base) → W p l e R s m args below meth c H' locs' (cells + mc) (slots + ms) Q (F0 m (pc + 3) lsr ((v.map (mj_tr g)).toList ++ rest))) :
    W p l e R s m args below meth c H locs cells slots Q (F0 m pc lsr st) := by
  intro T hT X
  obtain ⟨v', st₀, t, T', L, h0, X', hL, e1, e2, ⟨q1, q2, q3⟩, stp⟩ := hr T hT X
  cases q1
  obtain ⟨t2, a1, b1⟩ := kk T'.heap (locs ++ L) (by rw [e1]; exact q2) (fun a ha => by rw [e1, q3 a ha, h0]; exact hlow a ha) (fun x hx => by
    rcases List.mem_append.mp hx with h | h
    · exact hlo x h
    · exact hL x h) T' rfl X'
  exact ⟨t2, stp t2 a1, b1⟩
end MJC
end
section
/-! ===== a call, by its kind ===== -/
/-- what a kind of call asks besides -/
def mj_kx (own : String) (i k a : Nat) : Bool :=
  match k with
  | 1 => decide (Cond.methodLinkNest own i (mj_Y a) "GhostTrain" ∈ mj_nw)
  | 2 => decide ((mj_Y a).name = "<init>") && decide ((mj_m a).2.2.2.1 = none)
  | 3 => decide ((mj_Y a).name = "<init>") && decide ((mj_m a).2.2.2.1 = none) && decide (Cond.methodLinkNest own i (mj_Y a) "GhostTrain" ∈ mj_nw)
  | 4 => decide ((mj_Y a).name ≠ "<init>")
  | 5 => decide (mj_own (mj_m a).2.2.2.2 = (mj_Y a).cls)
  | _ => true
theorem mj_clok_of {o i k a b : Nat} {r : Nat × Nat × Nat × Nat × Nat × List Nat × List (List Nat)} (hr : r ∈ mj_cl) (h1 : r.1 = o) (h2 : r.2.1 = i) (h3 : r.2.2.1 = k) (h4 : r.2.2.2.1 = a) (h5 : r.2.2.2.2.1 = b) (hk : k ≠ 6) :
    (∀ w ∈ mj_cw (mj_own o) i k a, w ∈ mj_T) ∧ mj_plen a b = true ∧ mj_notMH a = true ∧ a < 1000 ∧ mj_kx (mj_own o) i k a = true := by
  have h := List.all_eq_true.mp mj_cl_ok r hr
  subst h1 h2 h3 h4 h5
  unfold mj_clok at h
  rw [if_neg hk] at h
  simp only [Bool.and_eq_true, decide_eq_true_eq] at h
  obtain ⟨⟨⟨⟨e1, e2⟩, e3⟩, e4⟩, e5⟩ := h
  exact ⟨mj_wps_in e1, e2, e3, e4, e5⟩
theorem mj_clok6 {o i a b : Nat} {r : Nat × Nat × Nat × Nat × Nat × List Nat × List (List Nat)} (hr : r ∈ mj_cl) (h1 : r.1 = o) (h2 : r.2.1 = i) (h3 : r.2.2.1 = 6) (h4 : r.2.2.2.1 = a) (h5 : r.2.2.2.2.1 = b) :
    (∀ w ∈ mj_gw (mj_own o) i a, w ∈ mj_T) ∧ (∀ t, t < 6 → ∀ w ∈ mj_gt a t, w ∈ mj_T) ∧ mj_Y (mj_gy a) = mj_gx a ∧ (∀ t, t < 6 → mj_plen ((mj_dt.getD (a - 1000) []).getD t 0) b = true ∧ mj_notMH ((mj_dt.getD (a - 1000) []).getD t 0) = true) ∧ (mj_dt.getD (a - 1000) []).length = 6 ∧ 1000 ≤ a := by
  have h := List.all_eq_true.mp mj_cl_ok r hr
  subst h1 h2 h4 h5
  unfold mj_clok at h
  rw [if_pos h3] at h
  simp only [Bool.and_eq_true, decide_eq_true_eq, List.all_eq_true, List.mem_range] at h
  obtain ⟨⟨⟨⟨⟨e1, e2⟩, e3⟩, e4⟩, e5⟩, e6⟩ := h
  exact ⟨mj_wps_in e1, fun t ht => mj_wps_in (e2 t ht), e3, e4, e5, e6⟩
theorem mj_st_split (g : mj_G) (st : List Value) (n : Nat) : st.map (mj_tr g) = (((st.take n).reverse).map (mj_tr g)).reverse ++ (st.drop n).map (mj_tr g) := by
  rw [List.map_reverse, List.reverse_reverse, ← List.map_append, List.take_append_drop]
theorem mj_arg_of {y : Nat} {as rest : List Value} {q : Nat × List Value × List Value} (h : mj_arg y as rest = some q) : q = (y, as, rest) ∧ as.all mj_cat1 = true ∧ as.length ≤ (mj_m y).2.2.1 ∧ y < 219 ∧ mj_sum rest ≤ 8 := by
  unfold mj_arg at h
  split at h
  · rename_i h0
    cases h
    exact ⟨rfl, h0⟩
  · cases h
section MJI
variable {p : Program} {l : Launch} {e : Env} {R : Room} {s : State} {m : MethodId} {args : Array Value} {below : List Frame} {meth : Method} {c : Code} {H : Heap} {locs : List Loc} {cells slots : Nat} {Q : State → Prop} {cc : ByteArray} {pc : Nat} {lsr : Array Slot}
set_option maxHeartbeats 8000000 in
theorem mj_invoke (hx : p.tables.exec = Jvm.exec) (hb : c.code = cc) {o : Nat} {ini : Bool} (hown : s.vm.findClass (mj_own o) = some m.cls) (hts : ∀ w ∈ mj_T, w.before args s = true) {g : mj_G} {K : mj_K} {Z : State → Prop} (hZ : mj_ZZ g Z) (hF : mj_F g K Z s) {en : mj_I} (hd : decode cc pc = .ok (en.1, en.2.1)) (hk : mj_chk o ini pc en = true)
    {st : List Value} {h : mj_H} {q : Nat × List Value × List Value} (hc : mj_call en st h = some q) {d : Nat} {v : Option Value} {h2 : mj_H} (hM : mj_M l g K Z d q.1 q.2.1 h v h2) (hml : c.maxLocals = lsr.size) (hW : mj_Wh g K h H) (hlow : ∀ a : Nat, a < g.1 → H[a]? = s.heap[a]?) (hR1 : d + 11 ≤ R.frames) (hR2 : 1100 + 100 * d ≤ R.locals) (hc1 : cells + (h2.1 - h.1) ≤ R.cells) (hc2 : slots + (h2.2.1 - h.2.1) ≤ R.slots) :
    en.2.1 = 3 ∧ va_Run p l e R s m args below meth c H locs cells slots (h2.1 - h.1) (h2.2.1 - h.2.1) (F0 m pc lsr (st.map (mj_tr g))) (q.2.2.map (mj_tr g)) (mj_Q g K v h2 (q.2.1.map (mj_tr g)).toArray) (mj_fr g) := by
  obtain ⟨ins, ln, ea, eb⟩ := en
  dsimp only at hd
  have S : CallFix p m c cc lsr.size s args mj_T (mj_own o) := ⟨hx, hb, hml, hown, hts⟩
  have room : ∀ y : Nat, y < 219 → (mj_rm d (h2.1 - h.1) (h2.2.1 - h.2.1)).frames + 1 ≤ R.frames ∧ 8 + ((mj_m y).2.2.1 + 11) + (mj_rm d (h2.1 - h.1) (h2.2.1 - h.2.1)).locals ≤ R.locals := fun y hy => by
    have := mj_maxL y (by omega)
    exact ⟨hR1, by show 8 + ((mj_m y).2.2.1 + 11) + (1000 + 100 * d) ≤ R.locals; omega⟩
  have pre : ∀ as : List Value, ∀ U : State, U.heap = H → s.WarmedH U.vm → mj_P g K Z as h (as.map (mj_tr g)).toArray U := fun as U hU hw =>
    ⟨rfl, hF.warm hZ hw (fun a ha => by rw [hU]; exact hlow a ha), by rw [hU]; exact hW⟩
  have w8 : ∀ rest : List Value, mj_sum rest ≤ 8 → ∀ S0 : List Value, 2 * (F0 m pc lsr S0).monitorRoom + ((rest.map (mj_tr g)).map fun v => v.category).sum ≤ 8 := fun rest hr S0 => lv_room (by rw [mj_tr_sum]; exact hr)
  have recv : ∀ r : Nat, r < h.1 → (h.2.2.1 r).1 < 13 → ∃ cellB : Cell, H[g.1 + r]? = some cellB ∧ cellB.vm.isStatics = false ∧ s.vm.findClass (mj_own (h.2.2.1 r).1) = some cellB.cls ∧ ClassAt s (mj_own (h.2.2.1 r).1) cellB.cls := fun r hr ht => by
    obtain ⟨r', e1, e2, cell, q1, q2, q3, q4⟩ := (hW.2.2.2 r hr).ob ht
    have hca := (hF.1.1 _ _ e1).2
    rw [mj_ownq _ ht _ e1] at hca
    exact ⟨cell, q1, by rw [q3]; rfl, by rw [q2]; exact hca.1, by rw [q2]; exact hca⟩
  have w2 := hW.2.1
  cases ins
  case invokestatic i =>
    simp only [mj_call] at hc
    split at hc
    · rename_i h0
      obtain ⟨he, hlen⟩ := h0
      obtain ⟨rfl, g1, g2, g3, g4⟩ := mj_arg_of hc
      simp only [mj_chk, Bool.and_eq_true, decide_eq_true_eq] at hk
      obtain ⟨hln, hk⟩ := hk
      subst hln
      rw [if_neg (by omega), if_neg (by omega)] at hk
      obtain ⟨r, hr, hk⟩ := List.any_eq_true.mp hk
      simp only [Bool.and_eq_true, beq_iff_eq, decide_eq_true_eq] at hk
      obtain ⟨⟨⟨⟨k1, k2⟩, k3⟩, k4⟩, k5⟩ := hk
      refine ⟨rfl, ?_⟩
      obtain ⟨z1, z2, z3, z4, z5⟩ := mj_clok_of hr k1 k2 rfl k4 k5 (by omega)
      have hcode := mj_cin g3
      have pS : PreS s H (mj_P g K Z (st.take eb).reverse h) ((st.take eb).reverse.map (mj_tr g)) := ⟨mj_blind hZ _ _, pre _⟩
      have hlen2 : ((st.take eb).reverse.map (mj_tr g)).length = eb := by simp; omega
      rcases (show r.2.2.1 = 0 ∨ r.2.2.1 = 1 by omega) with e0 | e0
      · rw [e0] at z1
        have hl := z1 _ (by unfold mj_cw; exact List.mem_cons_self)
        have hst := z1 (.static (mj_Y ea)) (by unfold mj_cw; simp)
        have hin := z1 (.initialized (mj_Y ea).cls) (by unfold mj_cw; simp)
        exact va_runS S hM ⟨⟨rfl, rfl, (room _ g3).1, (room _ g3).2, mj_pay hts g3, List.mem_cons_self, hts _ hcode, hts _ hin, mj_notMH_of z3, mj_plen_of z2, hts _ hl⟩, hts _ hst⟩ pS rfl hlen2 rfl (mj_st_split g st eb) (w8 _ g4 _) hd ⟨hc1, hc2⟩
      · rw [e0] at z1 z5
        have hst := z1 (.static (mj_Y ea)) (by unfold mj_cw; simp)
        have hin := z1 (.initialized (mj_Y ea).cls) (by unfold mj_cw; simp)
        have hnl := va_Nw.use (A := args) rfl (hF.2.1 _ (of_decide_eq_true z5))
        exact va_runSN S hM ⟨⟨⟨rfl, rfl, (room _ g3).1, (room _ g3).2, mj_pay hts g3, List.mem_cons_self⟩, hts _ hcode, hts _ hin, mj_notMH_of z3, mj_plen_of z2, hnl⟩, hts _ hst, trivial⟩ pS rfl hlen2 rfl (mj_st_split g st eb) (w8 _ g4 _) hd ⟨hc1, hc2⟩
    · cases hc
  case invokespecial i =>
    simp only [mj_call] at hc
    split at hc
    · rename_i r0 rest heq
      split at hc
      · rename_i h0
        obtain ⟨he, hr0, htag⟩ := h0
        have hr0' : @LT.lt Nat instLTNat r0 h.1 := hr0
        obtain ⟨rfl, g1, g2, g3, g4⟩ := mj_arg_of hc
        simp only [mj_chk, Bool.and_eq_true, decide_eq_true_eq] at hk
        obtain ⟨hln, hk⟩ := hk
        subst hln
        rw [if_neg (by omega)] at hk
        obtain ⟨r, hr, hk⟩ := List.any_eq_true.mp hk
        simp only [Bool.and_eq_true, beq_iff_eq, decide_eq_true_eq] at hk
        obtain ⟨⟨⟨⟨⟨k1, k2⟩, k3⟩, k6⟩, k4⟩, k5⟩ := hk
        refine ⟨rfl, ?_⟩
        obtain ⟨z1, z2, z3, z4, z5⟩ := mj_clok_of hr k1 k2 rfl k4 k5 (by omega)
        have hcode := mj_cin g3
        have hle : eb < st.length := by
          rcases Nat.lt_or_ge eb st.length with q | q
          · exact q
          · rw [List.drop_eq_nil_of_le q] at heq
            cases heq
        have hlen2 : ((st.take eb).reverse.map (mj_tr g)).length = eb := by simp; omega
        have hadr : mj_tr g (.ref r0) = .ref (g.1 + r0) := mj_adr (a := r0) (Nat.lt_of_lt_of_le hr0' w2)
        have hsp : (F0 m pc lsr (st.map (mj_tr g))).stack = ((st.take eb).reverse.map (mj_tr g)).reverse ++ .ref (g.1 + r0) :: rest.map (mj_tr g) := by
          show st.map (mj_tr g) = _
          rw [mj_st_split g st eb, heq, List.map_cons, hadr]
        have pS : PreS s H (mj_P g K Z (.ref r0 :: (st.take eb).reverse) h) (.ref (g.1 + r0) :: (st.take eb).reverse.map (mj_tr g)) := ⟨mj_blind hZ _ _, by
          have := pre (.ref r0 :: (st.take eb).reverse)
          rw [List.map_cons, hadr] at this
          exact this⟩
        rw [List.map_cons, hadr]
        rcases (show r.2.2.1 = 2 ∨ r.2.2.1 = 3 ∨ r.2.2.1 = 4 by omega) with e0 | e0 | e0
        · rw [e0] at z1 z5
          have hl := z1 _ (by unfold mj_cw; exact List.mem_cons_self)
          have hst := z1 (.instanceMethod (mj_Y ea)) (by unfold mj_cw; simp)
          have hin := z1 (.initialized (mj_Y ea).cls) (by unfold mj_cw; simp)
          simp only [mj_kx, Bool.and_eq_true, decide_eq_true_eq] at z5
          have hcn : mj_C ea = .code (mj_Y ea) (mj_m ea).2.1 (mj_m ea).2.2.1 none := by unfold mj_C mj_Y; rw [z5.2]
          exact va_runI (bytes := (mj_m ea).2.1) (maxL := (mj_m ea).2.2.1) S hM ⟨⟨rfl, rfl, (room _ g3).1, (room _ g3).2, mj_pay hts g3, by rw [← hcn]; exact List.mem_cons_self, by rw [← hcn]; exact hts _ hcode, hts _ hin, mj_notMH_of z3, mj_plen_of z2, hts _ hl⟩, z5.1, hts _ hst⟩ pS rfl hlen2 rfl hsp (w8 _ g4 _) hd ⟨hc1, hc2⟩
        · rw [e0] at z1 z5
          have hst := z1 (.instanceMethod (mj_Y ea)) (by unfold mj_cw; simp)
          have hin := z1 (.initialized (mj_Y ea).cls) (by unfold mj_cw; simp)
          simp only [mj_kx, Bool.and_eq_true, decide_eq_true_eq] at z5
          have hnl := va_Nw.use (A := args) rfl (hF.2.1 _ z5.2)
          have hcn : mj_C ea = .code (mj_Y ea) (mj_m ea).2.1 (mj_m ea).2.2.1 none := by unfold mj_C mj_Y; rw [z5.1.2]
          exact va_runIN (bytes := (mj_m ea).2.1) (maxL := (mj_m ea).2.2.1) S hM ⟨⟨⟨rfl, rfl, (room _ g3).1, (room _ g3).2, mj_pay hts g3, by rw [← hcn]; exact List.mem_cons_self⟩, by rw [← hcn]; exact hts _ hcode, hts _ hin, mj_notMH_of z3, mj_plen_of z2, hnl⟩, z5.1.1, hts _ hst⟩ pS rfl hlen2 rfl hsp (w8 _ g4 _) hd ⟨hc1, hc2⟩
        · rw [e0] at z1 z5
          have hl := z1 _ (by unfold mj_cw; exact List.mem_cons_self)
          have hsm := z1 (.sameMethod (mj_Y ea).cls (mj_Y ea).cls (mj_Y ea).name (mj_Y ea).desc) (by unfold mj_cw; simp)
          have hsu := z1 (.superclass (mj_own o) (mj_Y ea).cls) (by unfold mj_cw; simp)
          have hst := z1 (.instanceMethod (mj_Y ea)) (by unfold mj_cw; simp)
          have hin := z1 (.initialized (mj_Y ea).cls) (by unfold mj_cw; simp)
          obtain ⟨cellB, b1, b2, b3, b4⟩ := recv r0 hr0 htag
          have pV : PreV s H (mj_own (h.2.2.1 r0).1) (g.1 + r0) (mj_P g K Z (.ref r0 :: (st.take eb).reverse) h) ((st.take eb).reverse.map (mj_tr g)) := ⟨pS.1, ⟨cellB, b1, b2, b3⟩, pS.2⟩
          exact va_runSU b4 S hM ⟨⟨rfl, rfl, (room _ g3).1, (room _ g3).2, mj_pay hts g3, List.mem_cons_self⟩, hts _ hl, hts _ hsm, hts _ hsu, hts _ hst, hts _ hin, hts _ hcode, of_decide_eq_true z5, mj_plen_of z2⟩ pV rfl hlen2 rfl hsp (w8 _ g4 _) hd ⟨hc1, hc2⟩
      · cases hc
    · cases hc
  case invokevirtual i =>
    simp only [mj_call] at hc
    split at hc
    · rename_i r0 rest heq
      split at hc
      · rename_i h0
        obtain ⟨he, hr0, htag⟩ := h0
        have hr0' : @LT.lt Nat instLTNat r0 h.1 := hr0
        split at hc
        · rename_i y hy
          obtain ⟨rfl, g1, g2, g3, g4⟩ := mj_arg_of hc
          simp only [mj_chk, Bool.and_eq_true, decide_eq_true_eq] at hk
          obtain ⟨hln, hk⟩ := hk
          subst hln
          have hk' : (mj_cl.any (fun r => r.1 == o && r.2.1 == i && (if ea < 1000 then r.2.2.1 == 5 else r.2.2.1 == 6) && r.2.2.2.1 == ea && r.2.2.2.2.1 == eb)) = true := by
            rw [if_neg (by omega)] at hk
            exact hk
          obtain ⟨r, hr, hk⟩ := List.any_eq_true.mp hk'
          simp only [Bool.and_eq_true, beq_iff_eq] at hk
          obtain ⟨⟨⟨⟨k1, k2⟩, k3⟩, k4⟩, k5⟩ := hk
          refine ⟨rfl, ?_⟩
          have hcode := mj_cin g3
          have hle : eb < st.length := by
            rcases Nat.lt_or_ge eb st.length with q | q
            · exact q
            · rw [List.drop_eq_nil_of_le q] at heq
              cases heq
          have hlen2 : ((st.take eb).reverse.map (mj_tr g)).length = eb := by simp; omega
          have hadr : mj_tr g (.ref r0) = .ref (g.1 + r0) := mj_adr (a := r0) (Nat.lt_of_lt_of_le hr0' w2)
          have hsp : (F0 m pc lsr (st.map (mj_tr g))).stack = ((st.take eb).reverse.map (mj_tr g)).reverse ++ .ref (g.1 + r0) :: rest.map (mj_tr g) := by
            show st.map (mj_tr g) = _
            rw [mj_st_split g st eb, heq, List.map_cons, hadr]
          obtain ⟨cellB, b1, b2, b3, b4⟩ := recv r0 hr0 htag
          have pV : PreV s H (mj_own (h.2.2.1 r0).1) (g.1 + r0) (mj_P g K Z (.ref r0 :: (st.take eb).reverse) h) ((st.take eb).reverse.map (mj_tr g)) := ⟨mj_blind hZ _ _, ⟨cellB, b1, b2, b3⟩, by
            have := pre (.ref r0 :: (st.take eb).reverse)
            rw [List.map_cons, hadr] at this
            exact this⟩
          rw [List.map_cons, hadr]
          by_cases hea : ea < 1000
          · rw [if_pos hea] at k3
            have k3 : r.2.2.1 = 5 := by simpa using k3
            obtain ⟨z1, z2, z3, z4, z5⟩ := mj_clok_of hr k1 k2 k3 k4 k5 (by omega)
            unfold mj_disp at hy
            rw [if_pos hea] at hy
            split at hy
            · rename_i hcl
              cases hy
              have hl := z1 _ (by unfold mj_cw; exact List.mem_cons_self)
              have hst := z1 (.instanceMethod (mj_Y ea)) (by unfold mj_cw; simp)
              have hse := z1 (.selects (mj_Y ea).cls (mj_Y ea) (mj_Y ea)) (by unfold mj_cw; simp)
              have hin := z1 (.initialized (mj_Y ea).cls) (by unfold mj_cw; simp)
              have hC : mj_own (h.2.2.1 r0).1 = (mj_Y ea).cls := by rw [← hcl]; exact of_decide_eq_true z5
              rw [hC] at pV
              exact va_runV S hM ⟨⟨rfl, rfl, (room _ g3).1, (room _ g3).2, mj_pay hts g3, List.mem_cons_self, hts _ hcode, hts _ hin, mj_notMH_of z3, mj_plen_of z2, hts _ hl⟩, hts _ hst, hts _ hse⟩ pV rfl hlen2 rfl hsp (w8 _ g4 _) hd ⟨hc1, hc2⟩
            · cases hy
          · rw [if_neg hea] at k3
            have k3 : r.2.2.1 = 6 := by simpa using k3
            obtain ⟨z1, z2, z3, z4, z5, z6⟩ := mj_clok6 hr k1 k2 k3 k4 k5
            unfold mj_disp at hy
            rw [if_neg hea] at hy
            have ht6 : (h.2.2.1 r0).1 < 6 := by
              have := (List.getElem?_eq_some_iff.mp hy).1
              omega
            have hyd : (mj_dt.getD (ea - 1000) []).getD (h.2.2.1 r0).1 0 = y := by rw [List.getD_eq_getElem?_getD, hy]; rfl
            have y1 := z2 _ ht6
            have y2 := z4 _ ht6
            unfold mj_gt at y1
            rw [hyd] at y1 y2
            have hgx : (mj_gx ea).cls = "GhostTrain$CarKind" := by
              have hall : ∀ a : Nat, a < 4 → (mj_gx (1000 + a)).cls = "GhostTrain$CarKind" := by decide +kernel
              have : ea - 1000 < 4 := by
                rcases Nat.lt_or_ge (ea - 1000) 4 with q | q
                · exact q
                · rw [List.getD_eq_getElem?_getD, List.getElem?_eq_none (by show 4 ≤ _; exact q)] at z5
                  cases z5
              have := hall (ea - 1000) this
              rwa [show 1000 + (ea - 1000) = ea by omega] at this
            have hgn : (⟨"GhostTrain$CarKind", (mj_gx ea).name, (mj_gx ea).desc⟩ : MethodName) = mj_gx ea := by rw [← hgx]
            have hl := z1 _ (by unfold mj_gw; exact List.mem_cons_self)
            have hsm := z1 (.sameMethod "GhostTrain$CarKind" "GhostTrain$CarKind" (mj_gx ea).name (mj_gx ea).desc) (by unfold mj_gw; simp)
            have hxi := z1 (.instanceMethod (mj_gx ea)) (by unfold mj_gw; simp)
            have hse := y1 _ List.mem_cons_self
            have hst := y1 (.instanceMethod (mj_Y y)) (by simp)
            have hin := y1 (.initialized (mj_Y y).cls) (by simp)
            have hcx : Cond.code (mj_gx ea) (mj_m (mj_gy ea)).2.1 (mj_m (mj_gy ea)).2.2.1 (mj_m (mj_gy ea)).2.2.2.1 ∈ mj_T := by
              have hgy : mj_gy ea < 219 := by
                have hall : ∀ a : Nat, a < 4 → mj_gy (1000 + a) < 219 := by decide +kernel
                have h4 : ea - 1000 < 4 := by
                  rcases Nat.lt_or_ge (ea - 1000) 4 with q | q
                  · exact q
                  · rw [List.getD_eq_getElem?_getD, List.getElem?_eq_none (by show 4 ≤ _; exact q)] at z5
                    cases z5
                have := hall (ea - 1000) h4
                rwa [show 1000 + (ea - 1000) = ea by omega] at this
              have := mj_cin hgy
              unfold mj_C at this
              rw [← z3]
              exact this
            have hpl : ∀ sig, parseMethodDescriptor (mj_gx ea).desc = some sig → eb = sig.parameters.length := by
              have := mj_plen_of (z4 1 (by decide)).1
              have e1 : (mj_dt.getD (ea - 1000) []).getD 1 0 = mj_gy ea := rfl
              rw [e1, z3] at this
              exact this
            refine va_runU (owner := "GhostTrain$CarKind") (x := mj_gx ea) S hM ⟨⟨rfl, rfl, (room _ g3).1, (room _ g3).2, mj_pay hts g3, List.mem_cons_self⟩, hts _ hcode, hts _ hin, ⟨by decide +kernel, by decide +kernel⟩, hpl, hts _ hl, by rw [hgx]; exact hts _ hsm, by rw [hgn]; exact va_Decl.of (hts _ hxi) (hts _ hcx), hts _ hse, hts _ hst⟩ pV rfl hlen2 rfl hsp (w8 _ g4 _) hd ⟨hc1, hc2⟩
        · cases hc
      · cases hc
    · cases hc
  all_goals (simp only [mj_call] at hc; cases hc)
end MJI
end
section
/-! ===== the small machine's runs are the machine's ===== -/
/-- text constants: loaded, asked for their length, a sign, a sign's place -/
def mj_TX (l : Launch) (g : mj_G) (K : mj_K) (Z : State → Prop) : Prop := ∀ {p : Program} {e : Env} {R : Room} {s : State} {m : MethodId} {args : Array Value} {below : List Frame} {meth : Method} {c : Code} {H : Heap} {locs : List Loc} {cells slots : Nat} {Q : State → Prop} {cc : ByteArray} {pc : Nat} {lsr : Array Slot} {o : Nat} {ini : Bool} {en : mj_I} {ls st : List Value} {q : Nat × List Value × List Value},
  p.tables.exec = Jvm.exec → c.code = cc → s.vm.findClass (mj_own o) = some m.cls → (∀ w ∈ mj_T, w.before args s = true) → mj_F g K Z s → decode cc pc = .ok (en.1, en.2.1) → mj_chk o ini pc en = true → (∀ i, en.1 ≠ .invokestatic i) → mj_sx en pc ls st = some q → c.maxLocals = lsr.size → (∀ a : Nat, a < g.1 → H[a]? = s.heap[a]?) → 10 ≤ R.frames ∧ 1000 ≤ R.locals → cells ≤ R.cells → slots ≤ R.slots →
  W p l e R s m args below meth c H locs cells slots Q (F0 m q.1 lsr (q.2.2.map (mj_tr g))) → W p l e R s m args below meth c H locs cells slots Q (F0 m pc lsr (st.map (mj_tr g)))
theorem mj_ml_in {o i a : Nat} (h : (mj_ml.any (fun r => r.1 == o && r.2.1 == i && r.2.2.1 == a)) = true) : (a = 3005 → ∀ w ∈ [Cond.methodLink (mj_own o) i Lib.Math.max.name, .static Lib.Math.max.name, .initialized "java/lang/Math", .code Lib.Math.max.name Lib.Math.max.code 2 (some .int)], w ∈ mj_T) ∧
    (a = 3006 → ∀ w ∈ [Cond.methodLink (mj_own o) i Lib.Math.min.name, .static Lib.Math.min.name, .initialized "java/lang/Math", .code Lib.Math.min.name Lib.Math.min.code 2 (some .int)], w ∈ mj_T) ∧
    (a = 3007 → ∀ w ∈ [Cond.methodLink (mj_own o) i Lib.Math.abs.name, .static Lib.Math.abs.name, .initialized "java/lang/Math", .code Lib.Math.abs.name Lib.Math.abs.code 1 (some .int)], w ∈ mj_T) := by
  obtain ⟨r, hr, h1⟩ := List.any_eq_true.mp h
  simp only [Bool.and_eq_true, beq_iff_eq] at h1
  obtain ⟨⟨rfl, rfl⟩, rfl⟩ := h1
  have h2 := List.all_eq_true.mp mj_ml_ok r hr
  unfold mj_mlok at h2
  refine ⟨fun e => ?_, fun e => ?_, fun e => ?_⟩
  · rw [if_pos e] at h2
    exact mj_wps_in h2
  · rw [if_neg (by omega), if_pos e] at h2
    exact mj_wps_in h2
  · rw [if_neg (by omega), if_neg (by omega), Bool.and_eq_true] at h2
    exact mj_wps_in h2.1
theorem mj_lv_args : ∀ (as : List Value) (n i : Nat) (v : Value), as.all mj_cat1 = true → as[i]? = some v → (n + i, v) ∈ lv_args n as
  | [], _, _, _, _, h => by simp at h
  | a :: l, n, i, v, hall, h => by
    rw [List.all_cons, Bool.and_eq_true] at hall
    have h1 : ¬ a.category = 2 := by
      have := hall.1
      unfold mj_cat1 at this
      rw [beq_iff_eq] at this
      omega
    unfold lv_args
    cases i with
    | zero =>
      rw [List.getElem?_cons_zero] at h
      cases h
      exact List.mem_cons_self
    | succ i =>
      rw [List.getElem?_cons_succ] at h
      rw [if_neg h1]
      have := mj_lv_args l (n + 1) i v hall.2 h
      rw [show n + (i + 1) = n + 1 + i by omega]
      exact List.mem_cons_of_mem _ this
theorem mj_lg_sl : ∀ as : List Value, as.all mj_cat1 = true → (lg_sl as).length = as.length
  | [], _ => rfl
  | a :: l, h => by
    rw [List.all_cons, Bool.and_eq_true] at h
    have h1 : ¬ a.category = 2 := by
      have := h.1
      unfold mj_cat1 at this
      rw [beq_iff_eq] at this
      omega
    have := mj_lg_sl l h.2
    unfold lg_sl at this ⊢
    rw [List.flatMap_cons, if_neg h1]
    simp [this]
theorem mj_entry {g : mj_G} {as : List Value} {n : Nat} (h1 : as.all mj_cat1 = true) (h2 : as.length ≤ n) : mj_lok g ((lg_sl (as.map (mj_tr g)) ++ List.replicate (n - (lg_sl (as.map (mj_tr g))).length) Slot.unset).toArray) (mj_ent n as) := by
  have hc : (as.map (mj_tr g)).all mj_cat1 = true := by
    rw [List.all_eq_true] at h1 ⊢
    intro v hv
    obtain ⟨u, hu, rfl⟩ := List.mem_map.mp hv
    have := h1 u hu
    unfold mj_cat1 at this ⊢
    rw [mj_tr_cat]
    exact this
  have hlen := mj_lg_sl _ hc
  rw [List.length_map] at hlen
  obtain ⟨q1, q2, q3⟩ := lv_entry (as.map (mj_tr g)) (n := n) (by rw [hlen]; exact h2)
  refine ⟨?_, q2, fun i v hi hn => ?_⟩
  · rw [q1]
    unfold mj_ent
    rw [List.length_append, List.length_replicate]
    omega
  · unfold mj_ent at hi
    rcases Nat.lt_or_ge i as.length with h | h
    · rw [List.getElem?_append_left h] at hi
      have := mj_lv_args (as.map (mj_tr g)) 0 i (mj_tr g v) hc (by rw [List.getElem?_map, hi]; rfl)
      rw [Nat.zero_add] at this
      exact q3 _ this
    · rw [List.getElem?_append_right h] at hi
      have := List.mem_of_getElem? hi
      rw [(List.mem_replicate.mp this).2] at hn
      cases hn
section MJR
variable {p : Program} {l : Launch} {e : Env} {R : Room} {s : State} {m : MethodId} {args : Array Value} {below : List Frame} {meth : Method} {c : Code} {H : Heap} {locs : List Loc} {cells slots : Nat} {Q : State → Prop} {cc : ByteArray} {pc : Nat} {lsr : Array Slot}
theorem mj_sx_ok (hx : p.tables.exec = Jvm.exec) (hb : c.code = cc) {o : Nat} {ini : Bool} (hown : s.vm.findClass (mj_own o) = some m.cls) (hts : ∀ w ∈ mj_T, w.before args s = true) {g : mj_G} {K : mj_K} {Z : State → Prop} (hTX : mj_TX l g K Z) (hF : mj_F g K Z s) {en : mj_I} (hd : decode cc pc = .ok (en.1, en.2.1)) (hk : mj_chk o ini pc en = true)
    {ls st : List Value} {q : Nat × List Value × List Value} (hs : mj_sx en pc ls st = some q) (hml : c.maxLocals = lsr.size) (hlow : ∀ a : Nat, a < g.1 → H[a]? = s.heap[a]?) (hR : 10 ≤ R.frames ∧ 1000 ≤ R.locals) (hc1 : cells ≤ R.cells) (hc2 : slots ≤ R.slots) (kk : W p l e R s m args below meth c H locs cells slots Q (F0 m q.1 lsr (q.2.2.map (mj_tr g)))) :
    q.2.1 = ls ∧ W p l e R s m args below meth c H locs cells slots Q (F0 m pc lsr (st.map (mj_tr g))) := by
  have hq : q.2.1 = ls := by
    unfold mj_sx at hs
    repeat' split at hs
    all_goals first | (cases hs; rfl) | cases hs
  refine ⟨hq, ?_⟩
  by_cases hi : ∃ i, en.1 = .invokestatic i
  · obtain ⟨i, hi⟩ := hi
    obtain ⟨ins, ln, ea, eb⟩ := en
    dsimp only at hi hd
    subst hi
    have w13 : ∀ rest : List Value, mj_sum rest ≤ 8 → ((rest.map (mj_tr g)).map fun v => v.category).sum + 13 ≤ R.locals := fun rest hr => by
      have := mj_tr_sum g rest
      omega
    simp only [mj_chk, Bool.and_eq_true, decide_eq_true_eq] at hk
    obtain ⟨hln, hk⟩ := hk
    subst hln
    simp only [mj_sx] at hs
    have hml2 : c.maxLocals = lsr.size := hml
    split at hs
    · rename_i he
      have he : ea = 3005 := he
      subst he
      rw [if_neg (by decide), if_pos (by decide)] at hk
      have hw := (mj_ml_in hk).1 rfl
      split at hs
      · split at hs
        · rename_i h8
          cases hs
          exact va_mmax (own := mj_own o) (index := i) hx hb hml2 hown (hts _ (hw _ (by simp))) (hts _ (hw _ (by simp))) (hts _ (hw _ (by simp))) (hts _ (hw _ (by simp))) (by omega) (w13 _ h8) hc1 hc2 hd kk
        · cases hs
      · cases hs
    · split at hs
      · rename_i he
        have he : ea = 3006 := he
        subst he
        rw [if_neg (by decide), if_pos (by decide)] at hk
        have hw := (mj_ml_in hk).2.1 rfl
        split at hs
        · split at hs
          · rename_i h8
            cases hs
            exact va_mmin (own := mj_own o) (index := i) hx hb hml2 hown (hts _ (hw _ (by simp))) (hts _ (hw _ (by simp))) (hts _ (hw _ (by simp))) (hts _ (hw _ (by simp))) (by omega) (w13 _ h8) hc1 hc2 hd kk
          · cases hs
        · cases hs
      · split at hs
        · rename_i he
          have he : ea = 3007 := he
          subst he
          rw [if_neg (by decide), if_pos (by decide)] at hk
          have hw := (mj_ml_in hk).2.2 rfl
          split at hs
          · split at hs
            · rename_i h8
              cases hs
              exact va_mabs (own := mj_own o) (index := i) hx hb hml2 hown (hts _ (hw _ (by simp))) (hts _ (hw _ (by simp))) (hts _ (hw _ (by simp))) (hts _ (hw _ (by simp))) (by omega) (w13 _ h8) hc1 hc2 hd kk
            · cases hs
          · cases hs
        · cases hs
  · exact hTX hx hb hown hts hF hd hk (fun i h => hi ⟨i, h⟩) hs hml hlow hR hc1 hc2 kk
end MJR
theorem mj_look_mem : ∀ {l : List (Nat × mj_I)} {pc : Nat} {e : mj_I}, mj_look l pc = some e → (pc, e) ∈ l
  | [], _, _, h => by cases h
  | q :: l, pc, e, h => by
    unfold mj_look at h
    by_cases hq : q.1 = pc
    · rw [if_pos hq] at h
      cases h
      rw [← hq]
      exact List.mem_cons_self
    · rw [if_neg hq] at h
      exact List.mem_cons_of_mem _ (mj_look_mem h)
/-- what the program's check says of an instruction that is come upon -/
theorem mj_at {y pc : Nat} {en : mj_I} (hok : mj_mok y = true) (h : mj_look (mj_prog y) pc = some en) : decode (mj_m y).2.1 pc = .ok (en.1, en.2.1) ∧ mj_chk (mj_oc y) (decide ((mj_Y y).name = "<init>")) pc en = true := by
  unfold mj_mok at hok
  rw [Bool.and_eq_true, Bool.and_eq_true] at hok
  have h2 := List.all_eq_true.mp hok.1.1 (pc, en) (mj_look_mem h)
  rw [Bool.and_eq_true, decide_eq_true_eq] at h2
  exact h2
/-- a method's end: where it stands, and what is on its stack -/
def mj_end (y pc : Nat) (st : List Value) (r : Option Value) : Prop := ∃ en : mj_I, mj_look (mj_prog y) pc = some en ∧ mj_ret (mj_m y).2.2.2.1 en st = some r
theorem mj_stp_le {e : mj_I} {pc : Nat} {ls st : List Value} {h : mj_H} {q : Nat × List Value × List Value × mj_H} (hs : mj_stp e pc ls st h = some q) : h.1 ≤ q.2.2.2.1 ∧ h.2.1 ≤ q.2.2.2.2.1 := by
  unfold mj_stp at hs
  split at hs
  · cases hs
    exact ⟨Nat.le_refl _, Nat.le_refl _⟩
  · split at hs
    · cases hs
      exact ⟨Nat.le_refl _, Nat.le_refl _⟩
    · unfold mj_sh at hs
      repeat' split at hs
      all_goals first | (cases hs; done) | (cases hs; exact ⟨Nat.le_refl _, Nat.le_refl _⟩) | (cases hs; exact ⟨Nat.le_add_right _ _, Nat.le_add_right _ _⟩) | (cases hs; exact ⟨by show h.1 ≤ h.1 + 1 + _; omega, Nat.le_add_right _ _⟩)
theorem mj_run_le : ∀ (k d y pc : Nat) (ls st : List Value) (h : mj_H) (r : Option Value) (h1 : mj_H), mj_run k d y pc ls st h = some (r, h1) → h.1 ≤ h1.1 ∧ h.2.1 ≤ h1.2.1
  | 0, _, _, _, _, _, _, _, _, hr => by cases hr
  | k + 1, d, y, pc, ls, st, h, r, h1, hr => by
    unfold mj_run at hr
    cases e1 : mj_look (mj_prog y) pc with
    | none => rw [e1] at hr; cases hr
    | some e =>
      rw [e1] at hr
      dsimp only at hr
      cases e2 : mj_ret (mj_m y).2.2.2.1 e st with
      | some r0 => rw [e2] at hr; cases hr; exact ⟨Nat.le_refl _, Nat.le_refl _⟩
      | none =>
        rw [e2] at hr
        dsimp only at hr
        cases e3 : mj_call e st h with
        | some q =>
          rw [e3] at hr
          dsimp only at hr
          cases d with
          | zero => cases hr
          | succ d0 =>
            dsimp only at hr
            cases e4 : mj_run k d0 q.1 0 (mj_ent (mj_m q.1).2.2.1 q.2.1) [] h with
            | none => rw [e4] at hr; cases hr
            | some w =>
              rw [e4] at hr
              obtain ⟨v, h2⟩ := w
              have a1 := mj_run_le k d0 _ _ _ _ _ _ _ e4
              have a2 := mj_run_le k (d0 + 1) _ _ _ _ _ _ _ hr
              exact ⟨Nat.le_trans a1.1 a2.1, Nat.le_trans a1.2 a2.2⟩
        | none =>
          rw [e3] at hr
          dsimp only at hr
          cases e4 : mj_stp e pc ls st h with
          | none => rw [e4] at hr; cases hr
          | some q =>
            rw [e4] at hr
            have a1 := mj_stp_le e4
            have a2 := mj_run_le k d _ _ _ _ _ _ _ hr
            exact ⟨Nat.le_trans a1.1 a2.1, Nat.le_trans a1.2 a2.2⟩
/-- where the machine stands in a method: what holds all along -/
def mj_Cx (l : Launch) (g : mj_G) (K : mj_K) (Z : State → Prop) (y : Nat) (p : Program) (s : State) (m : MethodId) (args : Array Value) (meth : Method) (c : Code) : Prop :=
  p.tables.exec = Jvm.exec ∧ c.code = (mj_m y).2.1 ∧ c.maxLocals = (mj_m y).2.2.1 ∧ s.vm.findClass (mj_own (mj_oc y)) = some m.cls ∧ (∀ w ∈ mj_T, w.before args s = true) ∧ mj_F g K Z s ∧ ((mj_Y y).name = "<init>" → meth.name = "<init>")
theorem mj_stp_len {e : mj_I} {pc : Nat} {ls st : List Value} {h : mj_H} {q : Nat × List Value × List Value × mj_H} (hs : mj_stp e pc ls st h = some q) : q.2.1.length = ls.length := by
  unfold mj_stp at hs
  split at hs
  · rename_i q0 h0
    cases hs
    unfold mj_sp at h0
    repeat' split at h0
    all_goals first | (cases h0; done) | (cases h0; rfl) | (cases h0; simp)
  · split at hs
    · rename_i q0 h0
      cases hs
      unfold mj_sx at h0
      repeat' split at h0
      all_goals first | (cases h0; done) | (cases h0; rfl)
    · unfold mj_sh at hs
      repeat' split at hs
      all_goals first | (cases hs; done) | (cases hs; rfl)
end
section
/-! ===== the small machine's runs are the machine's: the main row ===== -/
section MJS
variable {p : Program} {l : Launch} {e : Env} {R : Room} {s : State} {m : MethodId} {args : Array Value} {below : List Frame} {meth : Method} {c : Code} {H : Heap} {locs : List Loc} {cells slots : Nat} {Q : State → Prop} {pc : Nat} {lsr : Array Slot}
/-- a method's end, by contract -/
theorem mj_fin_ok {g : mj_G} {K : mj_K} {y : Nat} {st : List Value} {r : Option Value} {h1 : mj_H} (hok : mj_mok y = true) (he : mj_end y pc st r) (hx : p.tables.exec = Jvm.exec) (hb : c.code = (mj_m y).2.1) (hr : meth.sig.returnType = (mj_m y).2.2.2.1) (hlocks : meth.locks = false) (hW : mj_Wh g K h1 H) (hlow : ∀ a : Nat, a < g.1 → H[a]? = s.heap[a]?) (hlo : ∀ x ∈ locs, g.1 ≤ x.base) :
    W p l e R s m args below meth c H locs cells slots (MQ below (mj_Q g K r h1) args s cells slots (mj_fr g)) (F0 m pc lsr (st.map (mj_tr g))) := by
  obtain ⟨en, e1, e2⟩ := he
  obtain ⟨hd, hk⟩ := mj_at hok e1
  generalize (mj_m y).2.2.2.1 = rt at e2 hr
  have hq : ∀ (o : Outcome), o = .returned (r.map (mj_tr g)) → ∀ t : State, t.heap = H → s.WarmedH t.vm → mj_Q g K r h1 args s o t := fun o ho t ht _ => ⟨ho, by rw [ht]; exact hW, fun a ha => by rw [ht]; exact hlow a ha⟩
  obtain ⟨ins, ln, ea, eb⟩ := en
  dsimp only at hd
  cases ins
  case ireturn =>
    obtain rfl : ln = 1 := by simpa [mj_chk] using hk
    simp only [mj_ret] at e2
    split at e2
    · split at e2
      · rename_i hn
        cases e2
        exact W.zret hx hb hr hn (hq _ rfl) hlo hd hlocks
      · cases e2
    · cases e2
  case lreturn =>
    obtain rfl : ln = 1 := by simpa [mj_chk] using hk
    simp only [mj_ret] at e2
    split at e2
    · cases e2
      exact W.lret hx hb hr (hq _ rfl) hlo hd hlocks
    · cases e2
  case areturn =>
    obtain rfl : ln = 1 := by simpa [mj_chk] using hk
    simp only [mj_ret] at e2
    split at e2
    · cases e2
      exact W.aret hx hb hr (Or.inl ⟨_, rfl⟩) (Or.inl rfl) (hq _ rfl) hlo hd hlocks
    · cases e2
      exact W.aret hx hb hr (Or.inl ⟨_, rfl⟩) (Or.inr ⟨_, rfl⟩) (hq _ rfl) hlo hd hlocks
    · cases e2
  case return_ =>
    obtain rfl : ln = 1 := by simpa [mj_chk] using hk
    simp only [mj_ret] at e2
    split at e2
    · cases e2
      exact W.vret hx hb hr (hq _ rfl) hlo hd hlocks
    · cases e2
  all_goals (simp only [mj_ret] at e2; cases e2)
end MJS
theorem mj_mok_cls {y : Nat} (h : mj_mok y = true) : mj_own (mj_oc y) = (mj_Y y).cls ∧ plainName (mj_Y y).cls = true := by
  unfold mj_mok at h
  rw [Bool.and_eq_true, Bool.and_eq_true] at h
  exact ⟨of_decide_eq_true h.1.2, h.2⟩
theorem mj_call_ok {e : mj_I} {st : List Value} {h : mj_H} {q : Nat × List Value × List Value} (hc : mj_call e st h = some q) : q.2.1.all mj_cat1 = true ∧ q.2.1.length ≤ (mj_m q.1).2.2.1 ∧ q.1 < 219 := by
  unfold mj_call at hc
  repeat' split at hc
  all_goals first | (cases hc; done) | (obtain ⟨rfl, g1, g2, g3, g4⟩ := mj_arg_of hc; exact ⟨g1, g2, g3⟩)
theorem mj_ent_len {n : Nat} {as : List Value} (h : as.length ≤ n) : (mj_ent n as).length = n := by
  unfold mj_ent
  rw [List.length_append, List.length_replicate]
  omega
set_option maxHeartbeats 8000000 in
theorem mj_run_ok {l : Launch} {g : mj_G} {K : mj_K} {Z : State → Prop} (hZ : mj_ZZ g Z) (hMA : mj_MA l g K Z) (hTX : mj_TX l g K Z) (hall : ∀ y, y < 220 → mj_mok y = true) : ∀ (k d y pc : Nat) (ls st : List Value) (h : mj_H) (r : Option Value) (h1 : mj_H), mj_run k d y pc ls st h = some (r, h1) → y < 220 → ls.length = (mj_m y).2.2.1 →
    ∀ (p : Program) (e : Env) (R : Room) (s : State) (m : MethodId) (args : Array Value) (below : List Frame) (meth : Method) (c : Code) (H : Heap) (locs : List Loc) (cells slots : Nat) (Q : State → Prop) (lsr : Array Slot), mj_Cx l g K Z y p s m args meth c → mj_lok g lsr ls → mj_Wh g K h H → (∀ a : Nat, a < g.1 → H[a]? = s.heap[a]?) → (∀ x ∈ locs, g.1 ≤ x.base) → d + 10 ≤ R.frames → 1000 + 100 * d ≤ R.locals → cells + (h1.1 - h.1) ≤ R.cells → slots + (h1.2.1 - h.2.1) ≤ R.slots →
    (∀ (pc' : Nat) (lsr' : Array Slot) (st' : List Value) (H' : Heap) (locs' : List Loc), mj_end y pc' st' r → mj_Wh g K h1 H' → (∀ a : Nat, a < g.1 → H'[a]? = s.heap[a]?) → (∀ x ∈ locs', g.1 ≤ x.base) → W p l e R s m args below meth c H' locs' (cells + (h1.1 - h.1)) (slots + (h1.2.1 - h.2.1)) Q (F0 m pc' lsr' (st'.map (mj_tr g)))) →
    W p l e R s m args below meth c H locs cells slots Q (F0 m pc lsr (st.map (mj_tr g)))
  | 0, _, _, _, _, _, _, _, _, hr, _, _ => by cases hr
  | k + 1, d, y, pc, ls, st, h, r, h1, hr, hy, hlen => by
    intro p e R s m args below meth c H locs cells slots Q lsr C hl hW hlow hlo hR1 hR2 hc1 hc2 fin
    obtain ⟨hx, hb, hml, hown, hts, hF, hini⟩ := id C
    have hle := mj_run_le _ _ _ _ _ _ _ _ _ hr
    unfold mj_run at hr
    cases e1 : mj_look (mj_prog y) pc with
    | none => rw [e1] at hr; cases hr
    | some en =>
      rw [e1] at hr
      dsimp only at hr
      obtain ⟨hd, hk⟩ := mj_at (hall y hy) e1
      cases e2 : mj_ret (mj_m y).2.2.2.1 en st with
      | some r0 =>
        rw [e2] at hr
        cases hr
        have := fin pc lsr st H locs ⟨en, e1, e2⟩ hW hlow hlo
        rwa [Nat.sub_self, Nat.sub_self, Nat.add_zero, Nat.add_zero] at this
      | none =>
        rw [e2] at hr
        dsimp only at hr
        cases e3 : mj_call en st h with
        | some q =>
          rw [e3] at hr
          dsimp only at hr
          cases d with
          | zero => cases hr
          | succ d0 =>
            dsimp only at hr
            cases e4 : mj_run k d0 q.1 0 (mj_ent (mj_m q.1).2.2.1 q.2.1) [] h with
            | none => rw [e4] at hr; cases hr
            | some w =>
              rw [e4] at hr
              obtain ⟨v, h2⟩ := w
              dsimp only at hr
              have a1 := mj_run_le k d0 _ _ _ _ _ _ _ e4
              have a2 := mj_run_le k (d0 + 1) _ _ _ _ _ _ _ hr
              obtain ⟨g1, g2, g3⟩ := mj_call_ok e3
              have hok := hall q.1 (by omega)
              have hM : mj_M l g K Z d0 q.1 q.2.1 h v h2 := by
                refine Met.ofW (cc := (mj_m q.1).2.1) (maxL := (mj_m q.1).2.2.1) (ret := (mj_m q.1).2.2.2.1) (mj_mok_cls hok).2 rfl ?_
                intro p e s m args below meth c s₁ B hml hv
                obtain ⟨hv1, hv2, hv3⟩ := hv
                subst hv1
                rw [lg_entry_eq]
                have hpre := atoms_spec (ws := mj_ws q.1) B.pre
                have hcls : s.vm.findClass (mj_own (mj_oc q.1)) = some m.cls := by rw [(mj_mok_cls hok).1]; exact findClass_of_methodNamed B.named
                refine mj_run_ok hZ hMA hTX hall k d0 q.1 0 _ [] h v h2 e4 (by omega) (mj_ent_len g2) _ _ _ _ _ _ _ _ _ _ _ _ _ _ _ ⟨B.exec, B.bytes, hml, hcls, fun w hw => hpre w (List.mem_cons_of_mem _ hw), hv2, fun hn => (name_of_methodNamed B.named B.method).1.trans hn⟩ (mj_entry g1 g2) hv3 (fun _ _ => rfl) (fun x hx => by cases hx) (Nat.le_refl _) (Nat.le_refl _) (by rw [Nat.zero_add]; exact Nat.le_refl _) (by rw [Nat.zero_add]; exact Nat.le_refl _) (fun pc' lsr' st' H' locs' he hW' hl' hlo' => ?_)
                rw [Nat.zero_add, Nat.zero_add]
                exact mj_fin_ok hok he B.exec B.bytes B.returns B.notSynchronized hW' hl' hlo'
              obtain ⟨hln, hrun⟩ := mj_invoke (locs := locs) (below := below) (meth := meth) (e := e) (R := R) (lsr := lsr) (cells := cells) (slots := slots) hx hb hown hts hZ hF hd hk e3 hM (by rw [hml, ← hlen]; exact hl.1.symm) hW hlow (by omega) (by omega) (by omega) (by omega)
              refine mj_after hrun hlow hlo fun H' locs' b1 b2 b3 => ?_
              have e5 : (v.map (mj_tr g)).toList ++ q.2.2.map (mj_tr g) = (v.toList ++ q.2.2).map (mj_tr g) := by
                rw [List.map_append]
                cases v <;> rfl
              rw [e5]
              rw [hln] at hr
              refine mj_run_ok hZ hMA hTX hall k (d0 + 1) y _ ls _ h2 r h1 hr hy hlen _ _ _ _ _ _ _ _ _ _ _ _ _ _ _ C hl b1 b2 b3 hR1 hR2 (by omega) (by omega) fun pc' lsr' st' H'' locs'' c1 c2 c3 c4 => ?_
              have := fin pc' lsr' st' H'' locs'' c1 c2 c3 c4
              rw [show cells + (h2.1 - h.1) + (h1.1 - h2.1) = cells + (h1.1 - h.1) by omega, show slots + (h2.2.1 - h.2.1) + (h1.2.1 - h2.2.1) = slots + (h1.2.1 - h.2.1) by omega]
              exact this
        | none =>
          rw [e3] at hr
          dsimp only at hr
          cases e4 : mj_stp en pc ls st h with
          | none => rw [e4] at hr; cases hr
          | some q =>
            rw [e4] at hr
            dsimp only at hr
            have a1 := mj_stp_le e4
            have a2 := mj_run_le k d _ _ _ _ _ _ _ hr
            have hlen2 := mj_stp_len e4
            have next : ∀ {H' : Heap} {locs' : List Loc} {lsr' : Array Slot}, mj_lok g lsr' q.2.1 → mj_Wh g K q.2.2.2 H' → (∀ a : Nat, a < g.1 → H'[a]? = s.heap[a]?) → (∀ x ∈ locs', g.1 ≤ x.base) → W p l e R s m args below meth c H' locs' (cells + (q.2.2.2.1 - h.1)) (slots + (q.2.2.2.2.1 - h.2.1)) Q (F0 m q.1 lsr' (q.2.2.1.map (mj_tr g))) := by
              intro H' locs' lsr' b0 b1 b2 b3
              refine mj_run_ok hZ hMA hTX hall k d y _ _ _ _ r h1 hr hy (hlen2.trans hlen) _ _ _ _ _ _ _ _ _ _ _ _ _ _ _ C b0 b1 b2 b3 hR1 hR2 (by omega) (by omega) fun pc' lsr' st' H'' locs'' c1 c2 c3 c4 => ?_
              have := fin pc' lsr' st' H'' locs'' c1 c2 c3 c4
              rw [show cells + (q.2.2.2.1 - h.1) + (h1.1 - q.2.2.2.1) = cells + (h1.1 - h.1) by omega, show slots + (q.2.2.2.2.1 - h.2.1) + (h1.2.1 - q.2.2.2.2.1) = slots + (h1.2.1 - h.2.1) by omega]
              exact this
            unfold mj_stp at e4
            split at e4
            · rename_i q0 h0
              cases e4
              refine mj_sp_ok hx hb hown hts hd hk h0 hl fun lsr' b0 => ?_
              have := next (H' := H) (locs' := locs) (lsr' := lsr') b0 hW hlow hlo
              rwa [Nat.sub_self, Nat.sub_self, Nat.add_zero, Nat.add_zero] at this
            · split at e4
              · rename_i q0 h0
                cases e4
                have hq0 : q0.2.1 = ls := by
                  unfold mj_sx at h0
                  repeat' split at h0
                  all_goals first | (cases h0; rfl) | cases h0
                have := next (H' := H) (locs' := locs) (lsr' := lsr) (by show mj_lok g lsr q0.2.1; rw [hq0]; exact hl) hW hlow hlo
                rw [Nat.sub_self, Nat.sub_self, Nat.add_zero, Nat.add_zero] at this
                exact (mj_sx_ok hx hb hown hts hTX hF hd hk h0 (by rw [hml, ← hlen]; exact hl.1.symm) hlow (by omega) (by omega) (by omega) this).2
              · exact mj_sh_ok hx hb hown hts hF hMA hd hk e4 hl (by rw [hml, hlen]) hW hlow hlo (fun hi => hini (of_decide_eq_true hi)) (by omega) (by omega) (by omega) fun lsr' H' locs' b0 b1 b2 b3 => next b0 b1 b2 b3
end
section
/-! ===== the state behind the constructors: which cells there are, what they refer to (for good, but a SLOT's kind) ===== -/
def mg_tbl : List (Nat × Nat) := [(11, 11), (23, 6), (1, 0), (3, 0), (5, 0), (4, 0), (0, 0), (2, 0), (24, 15), (9, 5), (20, 96), (6, 10), (27, 4), (20, 12), (20, 12), (20, 12), (20, 12), (27, 7), (20, 8), (20, 8),
  (20, 8), (20, 8), (20, 8), (20, 8), (20, 8), (20, 3), (6, 10), (27, 4), (20, 12), (20, 12), (20, 12), (20, 12), (27, 7), (20, 8), (20, 8), (20, 8), (20, 8), (20, 8), (20, 8), (20, 8),
  (20, 3), (6, 10), (27, 4), (20, 12), (20, 12), (20, 12), (20, 12), (27, 7), (20, 8), (20, 8), (20, 8), (20, 8), (20, 8), (20, 8), (20, 8), (20, 3), (25, 4), (26, 5), (20, 60), (10, 5),
  (20, 96), (20, 96), (10, 5), (20, 96), (20, 96), (10, 5), (20, 96), (20, 96), (10, 5), (20, 96), (20, 96), (10, 5), (20, 96), (20, 96), (10, 5), (20, 96), (20, 96), (10, 5), (20, 96), (20, 96),
  (10, 5), (20, 96), (20, 96), (10, 5), (20, 96), (20, 96), (10, 5), (20, 96), (20, 96), (10, 5), (20, 96), (20, 96), (10, 5), (20, 96), (20, 96), (10, 5), (20, 96), (20, 96), (10, 5), (20, 96),
  (20, 96), (10, 5), (20, 96), (20, 96), (7, 3), (20, 24), (7, 3), (20, 24), (7, 3), (20, 24), (7, 3), (20, 24), (8, 5), (7, 3), (20, 24), (8, 5), (7, 3), (20, 24), (8, 5), (7, 3),
  (20, 24), (8, 5), (7, 3), (20, 24), (8, 5), (7, 3), (20, 24), (12, 34), (20, 1481), (20, 1481), (20, 1481), (20, 109), (20, 96), (22, 11), (20, 4), (20, 96), (20, 96), (21, 10), (20, 96), (20, 4),
  (20, 4), (20, 4), (20, 96), (20, 5), (20, 5), (20, 5), (20, 120), (20, 24), (20, 60)]
/-- of each cell what it refers to: 0 a number; 1 a SLOT's kind; r + 2 the cell r -/
def mg_rt : List (List Nat) := [[3, 10, 11, 13, 28, 43, 0, 58, 59, 60, 0], [4, 5, 6, 7, 8, 9], [], [], [], [], [], [], [61, 64, 67, 70, 73, 76, 79, 82, 85, 88, 91, 94, 97, 100, 103], [12, 0, 0, 0, 0], [], [3, 10, 14, 19, 27, 0, 0, 0, 0, 0], [15, 16, 17, 18], [], [], [], [], [20, 21, 22, 23, 24, 25, 26], [], [],
  [], [], [], [], [], [], [3, 10, 29, 34, 42, 0, 0, 0, 0, 0], [30, 31, 32, 33], [], [], [], [], [35, 36, 37, 38, 39, 40, 41], [], [], [], [], [], [], [],
  [], [3, 10, 44, 49, 57, 0, 0, 0, 0, 0], [45, 46, 47, 48], [], [], [], [], [50, 51, 52, 53, 54, 55, 56], [], [], [], [], [], [], [], [], [106, 108, 110, 112], [114, 117, 120, 123, 126], [], [62, 63, 0, 0, 0],
  [], [], [65, 66, 0, 0, 0], [], [], [68, 69, 0, 0, 0], [], [], [71, 72, 0, 0, 0], [], [], [74, 75, 0, 0, 0], [], [], [77, 78, 0, 0, 0], [], [], [80, 81, 0, 0, 0], [], [],
  [83, 84, 0, 0, 0], [], [], [86, 87, 0, 0, 0], [], [], [89, 90, 0, 0, 0], [], [], [92, 93, 0, 0, 0], [], [], [95, 96, 0, 0, 0], [], [], [98, 99, 0, 0, 0], [], [], [101, 102, 0, 0, 0], [],
  [], [104, 105, 0, 0, 0], [], [], [107, 0, 0], [], [109, 0, 0], [], [111, 0, 0], [], [113, 0, 0], [], [0, 1, 0, 115, 0], [116, 0, 0], [], [0, 1, 0, 118, 0], [119, 0, 0], [], [0, 1, 0, 121, 0], [122, 0, 0],
  [], [0, 1, 0, 124, 0], [125, 0, 0], [], [0, 1, 0, 127, 0], [128, 0, 0], [], [130, 131, 132, 0, 0, 133, 134, 0, 0, 0, 0, 0, 0, 0, 135, 136, 137, 0, 0, 138, 0, 139, 140, 141, 142, 143, 144, 145, 146, 147, 148, 149, 150, 0], [], [], [], [], [], [], [], [], [], [], [], [],
  [], [], [], [], [], [], [], [], []]
def mg_sh (L : Nat) : Nat → Nat × Nat := fun i => if i = mj_X then (20, L) else mg_tbl.getD i (99, 0)
def mg_rc (i k : Nat) : Nat := (mg_rt.getD i []).getD k 0
def mg_V (xs : Nat → Int32) (I : Nat → Nat → Int32) : Nat → Nat → Value := fun i k => if i = mj_X then .int (xs k) else match mg_rc i k with
  | 0 => .int (I i k)
  | 1 => if I i k = 0 then .null else .ref (I i k).toNatClampNeg
  | r + 2 => .ref r
/-- the small machine's cells, when the numbers in them are I -/
abbrev mg_h (L : Nat) (xs : Nat → Int32) (I : Nat → Nat → Int32) : mj_H := (149, 9131, mg_sh L, mg_V xs I)
def mg_u (I : Nat → Nat → Int32) (i k : Nat) (v : Int32) : Nat → Nat → Int32 := fun a b => if a = i ∧ b = k then v else I a b
theorem mg_ueq {I : Nat → Nat → Int32} {i k : Nat} {v : Int32} : mg_u I i k v i k = v := by simp [mg_u]
theorem mg_une {I : Nat → Nat → Int32} {i k a b : Nat} {v : Int32} (h : ¬ (a = i ∧ b = k)) : mg_u I i k v a b = I a b := by simp [mg_u, h]
theorem mg_put {xs : Nat → Int32} {I : Nat → Nat → Int32} {a k : Nat} {v : Int32} (ha : a < 149) (hr : mg_rc a k = 0) : mj_put (mg_V xs I) a k (.int v) = mg_V xs (mg_u I a k v) := by
  funext i j
  unfold mj_put mg_V
  have hX : ¬ a = mj_X := by show ¬ a = 1000000; omega
  by_cases hi : i = a
  · subst hi
    rw [if_pos rfl, if_neg hX, if_neg hX]
    by_cases hj : j = k
    · subst hj
      rw [if_pos rfl, hr, mg_ueq]
    · rw [if_neg hj, mg_une (fun z => hj z.2)]
  · rw [if_neg hi, mg_une (fun z => hi z.1)]
theorem mg_get {xs : Nat → Int32} {I : Nat → Nat → Int32} {a k : Nat} (ha : a < 149) (hr : mg_rc a k = 0) : mg_V xs I a k = .int (I a k) := by
  unfold mg_V
  rw [if_neg (by show ¬ a = 1000000; omega), hr]
theorem mg_ref {xs : Nat → Int32} {I : Nat → Nat → Int32} {a k b : Nat} (ha : a < 149) (hr : mg_rc a k = b + 2) : mg_V xs I a k = .ref b := by
  unfold mg_V
  rw [if_neg (by show ¬ a = 1000000; omega), hr]
theorem mg_knd {xs : Nat → Int32} {I : Nat → Nat → Int32} {a k : Nat} (ha : a < 149) (hr : mg_rc a k = 1) : mg_V xs I a k = if I a k = 0 then .null else .ref (I a k).toNatClampNeg := by
  unfold mg_V
  rw [if_neg (by show ¬ a = 1000000; omega), hr]
theorem mg_puk {xs : Nat → Int32} {I : Nat → Nat → Int32} {a k b : Nat} (ha : a < 149) (hr : mg_rc a k = 1) (hb : b ≠ 0 ∧ b < 149) : mj_put (mg_V xs I) a k (.ref b) = mg_V xs (mg_u I a k (nI b)) := by
  have hb2 : (nI b).toNatClampNeg = b := nI_clamp (by omega)
  have hb3 : ¬ nI b = 0 := fun z => by
    rw [z] at hb2
    exact hb.1 hb2.symm
  funext i j
  unfold mj_put mg_V
  have hX : ¬ a = mj_X := by show ¬ a = 1000000; omega
  by_cases hi : i = a
  · subst hi
    rw [if_pos rfl, if_neg hX, if_neg hX]
    by_cases hj : j = k
    · subst hj
      rw [if_pos rfl, hr, mg_ueq]
      dsimp only
      rw [if_neg hb3, hb2]
    · rw [if_neg hj, mg_une (fun z => hj z.2)]
  · rw [if_neg hi, mg_une (fun z => hi z.1)]
end
section
/-! ===== steps of the small machine, a row an instruction ===== -/
section EV
variable {d y pc p' : Nat} {ls r : List Value} {h : mj_H} {Q : Option Value → mj_H → Prop} {a0 b0 L : Nat} {xs : Nat → Int32} {I : Nat → Nat → Int32}
theorem me_of {e : mj_I} {st : List Value} {pc' : Nat} {ls' st' : List Value} (hl : mj_look (mj_prog y) pc = some e) (h2 : mj_ret (mj_m y).2.2.2.1 e st = none) (h3 : mj_call e st h = none) (h4 : mj_sp e pc ls st = some (pc', ls', st')) (k : mj_Ev d y pc' ls' st' h Q) : mj_Ev d y pc ls st h Q := by
  refine mj_Ev.stp hl h2 h3 ?_ k
  unfold mj_stp
  rw [h4]
theorem me_ofx {e : mj_I} {st : List Value} {pc' : Nat} {ls' st' : List Value} (hl : mj_look (mj_prog y) pc = some e) (h2 : mj_ret (mj_m y).2.2.2.1 e st = none) (h3 : mj_call e st h = none) (h1 : mj_sp e pc ls st = none) (h4 : mj_sx e pc ls st = some (pc', ls', st')) (k : mj_Ev d y pc' ls' st' h Q) : mj_Ev d y pc ls st h Q := by
  refine mj_Ev.stp hl h2 h3 ?_ k
  unfold mj_stp
  rw [h1]
  dsimp only
  rw [h4]
theorem me_ofh {e : mj_I} {st : List Value} {pc' : Nat} {ls' st' : List Value} {h' : mj_H} (hl : mj_look (mj_prog y) pc = some e) (h2 : mj_ret (mj_m y).2.2.2.1 e st = none) (h3 : mj_call e st h = none) (h1 : mj_sp e pc ls st = none) (h0 : mj_sx e pc ls st = none) (h4 : mj_sh e pc ls st h = some (pc', ls', st', h')) (k : mj_Ev d y pc' ls' st' h' Q) : mj_Ev d y pc ls st h Q := by
  refine mj_Ev.stp hl h2 h3 ?_ k
  unfold mj_stp
  rw [h1]
  dsimp only
  rw [h0]
  exact h4
theorem me_ite {c : Prop} [Decidable c] {p1 p2 : Nat} {st : List Value} (k1 : c → mj_Ev d y p1 ls st h Q) (k2 : ¬ c → mj_Ev d y p2 ls st h Q) : mj_Ev d y (if c then p1 else p2) ls st h Q := by
  by_cases hc : c
  · rw [if_pos hc]; exact k1 hc
  · rw [if_neg hc]; exact k2 hc
theorem me_iconst {n : Int} {v : Int32} (hl : mj_look (mj_prog y) pc = some (.iconst n, 1, a0, b0)) (hp : pc + 1 = p') (hv : Int32.ofInt n = v) (k : mj_Ev d y p' ls (.int v :: r) h Q) : mj_Ev d y pc ls r h Q := by
  subst hp; subst hv; exact me_of hl rfl rfl rfl k
theorem me_bipush {n : Int} {v : Int32} (hl : mj_look (mj_prog y) pc = some (.bipush n, 2, a0, b0)) (hp : pc + 2 = p') (hv : (Int8.ofInt n).toInt32 = v) (k : mj_Ev d y p' ls (.int v :: r) h Q) : mj_Ev d y pc ls r h Q := by
  subst hp; subst hv; exact me_of hl rfl rfl rfl k
theorem me_sipush {n : Int} {v : Int32} (hl : mj_look (mj_prog y) pc = some (.sipush n, 3, a0, b0)) (hp : pc + 3 = p') (hv : (Int16.ofInt n).toInt32 = v) (k : mj_Ev d y p' ls (.int v :: r) h Q) : mj_Ev d y pc ls r h Q := by
  subst hp; subst hv; exact me_of hl rfl rfl rfl k
theorem me_ldc {i : Nat} {v : Int32} (hl : mj_look (mj_prog y) pc = some (.ldc i, 2, a0, 0)) (hp : pc + 2 = p') (hv : Int32.ofNat a0 = v) (k : mj_Ev d y p' ls (.int v :: r) h Q) : mj_Ev d y pc ls r h Q := by
  subst hp; subst hv; exact me_of hl rfl rfl rfl k
theorem me_ldcw {i : Nat} {v : Int32} (hl : mj_look (mj_prog y) pc = some (.ldc_w i, 3, a0, 0)) (hp : pc + 3 = p') (hv : Int32.ofNat a0 = v) (k : mj_Ev d y p' ls (.int v :: r) h Q) : mj_Ev d y pc ls r h Q := by
  subst hp; subst hv; exact me_of hl rfl rfl rfl k
theorem me_ldcs {i : Nat} (hl : mj_look (mj_prog y) pc = some (.ldc i, 2, a0, 1)) (hp : pc + 2 = p') (k : mj_Ev d y p' ls (.ref (mj_X + 1 + a0) :: r) h Q) : mj_Ev d y pc ls r h Q := by
  subst hp; exact me_ofx hl rfl rfl rfl rfl k
theorem me_lconst {n : Fin 2} {v : Int64} (hl : mj_look (mj_prog y) pc = some (.lconst n, 1, a0, b0)) (hp : pc + 1 = p') (hv : Int64.ofNat (n : Nat) = v) (k : mj_Ev d y p' ls (.long v :: r) h Q) : mj_Ev d y pc ls r h Q := by
  subst hp; subst hv; exact me_of hl rfl rfl rfl k
theorem me_iload {i : Nat} {x : Int32} (hl : mj_look (mj_prog y) pc = some (.iload i, 2, a0, b0)) (hp : pc + 2 = p') (hv : ls[i]? = some (.int x)) (k : mj_Ev d y p' ls (.int x :: r) h Q) : mj_Ev d y pc ls r h Q := by
  subst hp; exact me_of hl rfl rfl (by simp only [mj_sp]; rw [hv]) k
theorem me_iload_n {i : Fin 4} {x : Int32} (hl : mj_look (mj_prog y) pc = some (.iload_n i, 1, a0, b0)) (hp : pc + 1 = p') (hv : ls[(i : Nat)]? = some (.int x)) (k : mj_Ev d y p' ls (.int x :: r) h Q) : mj_Ev d y pc ls r h Q := by
  subst hp; exact me_of hl rfl rfl (by simp only [mj_sp]; rw [hv]) k
theorem me_lload {i : Nat} {x : Int64} (hl : mj_look (mj_prog y) pc = some (.lload i, 2, a0, b0)) (hp : pc + 2 = p') (hv : ls[i]? = some (.long x)) (k : mj_Ev d y p' ls (.long x :: r) h Q) : mj_Ev d y pc ls r h Q := by
  subst hp; exact me_of hl rfl rfl (by simp only [mj_sp]; rw [hv]) k
theorem me_lload_n {i : Fin 4} {x : Int64} (hl : mj_look (mj_prog y) pc = some (.lload_n i, 1, a0, b0)) (hp : pc + 1 = p') (hv : ls[(i : Nat)]? = some (.long x)) (k : mj_Ev d y p' ls (.long x :: r) h Q) : mj_Ev d y pc ls r h Q := by
  subst hp; exact me_of hl rfl rfl (by simp only [mj_sp]; rw [hv]) k
theorem me_aload {i : Nat} {x : Nat} (hl : mj_look (mj_prog y) pc = some (.aload i, 2, a0, b0)) (hp : pc + 2 = p') (hv : ls[i]? = some (.ref x)) (k : mj_Ev d y p' ls (.ref x :: r) h Q) : mj_Ev d y pc ls r h Q := by
  subst hp; exact me_of hl rfl rfl (by simp only [mj_sp]; rw [hv]) k
theorem me_aload_n {i : Fin 4} {x : Nat} (hl : mj_look (mj_prog y) pc = some (.aload_n i, 1, a0, b0)) (hp : pc + 1 = p') (hv : ls[(i : Nat)]? = some (.ref x)) (k : mj_Ev d y p' ls (.ref x :: r) h Q) : mj_Ev d y pc ls r h Q := by
  subst hp; exact me_of hl rfl rfl (by simp only [mj_sp]; rw [hv]) k
theorem me_istore {i : Nat} {x : Int32} {ls' : List Value} (hl : mj_look (mj_prog y) pc = some (.istore i, 2, a0, b0)) (hp : pc + 2 = p') (hw : i < ls.length ∧ mj_wide ls[i - 1]? = false) (hs : ls.set i (.int x) = ls') (k : mj_Ev d y p' ls' r h Q) : mj_Ev d y pc ls (.int x :: r) h Q := by
  subst hp; subst hs; exact me_of hl rfl rfl (by simp only [mj_sp]; rw [if_pos hw]) k
theorem me_istore_n {i : Fin 4} {x : Int32} {ls' : List Value} (hl : mj_look (mj_prog y) pc = some (.istore_n i, 1, a0, b0)) (hp : pc + 1 = p') (hw : (i : Nat) < ls.length ∧ mj_wide ls[(i : Nat) - 1]? = false) (hs : ls.set (i : Nat) (.int x) = ls') (k : mj_Ev d y p' ls' r h Q) : mj_Ev d y pc ls (.int x :: r) h Q := by
  subst hp; subst hs; exact me_of hl rfl rfl (by simp only [mj_sp]; rw [if_pos hw]) k
theorem me_astore {i : Nat} {x : Nat} {ls' : List Value} (hl : mj_look (mj_prog y) pc = some (.astore i, 2, a0, b0)) (hp : pc + 2 = p') (hw : i < ls.length ∧ mj_wide ls[i - 1]? = false) (hs : ls.set i (.ref x) = ls') (k : mj_Ev d y p' ls' r h Q) : mj_Ev d y pc ls (.ref x :: r) h Q := by
  subst hp; subst hs; exact me_of hl rfl rfl (by simp only [mj_sp]; rw [if_pos hw]) k
theorem me_astore_n {i : Fin 4} {x : Nat} {ls' : List Value} (hl : mj_look (mj_prog y) pc = some (.astore_n i, 1, a0, b0)) (hp : pc + 1 = p') (hw : (i : Nat) < ls.length ∧ mj_wide ls[(i : Nat) - 1]? = false) (hs : ls.set (i : Nat) (.ref x) = ls') (k : mj_Ev d y p' ls' r h Q) : mj_Ev d y pc ls (.ref x :: r) h Q := by
  subst hp; subst hs; exact me_of hl rfl rfl (by simp only [mj_sp]; rw [if_pos hw]) k
theorem me_lstore {i : Nat} {x : Int64} {ls' : List Value} (hl : mj_look (mj_prog y) pc = some (.lstore i, 2, a0, b0)) (hp : pc + 2 = p') (hw : i + 1 < ls.length ∧ mj_wide ls[i - 1]? = false) (hs : (ls.set i (.long x)).set (i + 1) mj_no = ls') (k : mj_Ev d y p' ls' r h Q) : mj_Ev d y pc ls (.long x :: r) h Q := by
  subst hp; subst hs; exact me_of hl rfl rfl (by simp only [mj_sp]; rw [if_pos hw]) k
theorem me_iinc {i n : Nat} {m : Int} {x v : Int32} {ls' : List Value} (hl : mj_look (mj_prog y) pc = some (.iinc i m, n, a0, b0)) (hp : pc + n = p') (hv : ls[i]? = some (.int x)) (hw : mj_wide ls[i - 1]? = false) (hx : x + Int32.ofInt m = v) (hs : ls.set i (.int v) = ls') (k : mj_Ev d y p' ls' r h Q) : mj_Ev d y pc ls r h Q := by
  subst hp; subst hx; subst hs; exact me_of hl rfl rfl (by simp only [mj_sp]; rw [hv]; dsimp only; rw [if_pos hw]) k
theorem me_pop {v : Value} (hl : mj_look (mj_prog y) pc = some (.pop, 1, a0, b0)) (hp : pc + 1 = p') (hv : mj_cat1 v = true) (k : mj_Ev d y p' ls r h Q) : mj_Ev d y pc ls (v :: r) h Q := by
  subst hp; exact me_of hl rfl rfl (by simp only [mj_sp]; rw [if_pos hv]) k
theorem me_dup {v : Value} (hl : mj_look (mj_prog y) pc = some (.dup, 1, a0, b0)) (hp : pc + 1 = p') (hv : mj_cat1 v = true) (k : mj_Ev d y p' ls (v :: v :: r) h Q) : mj_Ev d y pc ls (v :: r) h Q := by
  subst hp; exact me_of hl rfl rfl (by simp only [mj_sp]; rw [if_pos hv]) k
theorem me_dup2 {v w : Value} (hl : mj_look (mj_prog y) pc = some (.dup2, 1, a0, b0)) (hp : pc + 1 = p') (hv : (mj_cat1 v && mj_cat1 w) = true) (k : mj_Ev d y p' ls (v :: w :: v :: w :: r) h Q) : mj_Ev d y pc ls (v :: w :: r) h Q := by
  subst hp; exact me_of hl rfl rfl (by simp only [mj_sp]; rw [if_pos hv]) k
theorem me_iadd {x y0 v : Int32} (hl : mj_look (mj_prog y) pc = some (.iadd, 1, a0, b0)) (hp : pc + 1 = p') (hv : x + y0 = v) (k : mj_Ev d y p' ls (.int v :: r) h Q) : mj_Ev d y pc ls (.int y0 :: .int x :: r) h Q := by
  subst hp; subst hv; exact me_of hl rfl rfl rfl k
theorem me_isub {x y0 v : Int32} (hl : mj_look (mj_prog y) pc = some (.isub, 1, a0, b0)) (hp : pc + 1 = p') (hv : x - y0 = v) (k : mj_Ev d y p' ls (.int v :: r) h Q) : mj_Ev d y pc ls (.int y0 :: .int x :: r) h Q := by
  subst hp; subst hv; exact me_of hl rfl rfl rfl k
theorem me_imul {x y0 v : Int32} (hl : mj_look (mj_prog y) pc = some (.imul, 1, a0, b0)) (hp : pc + 1 = p') (hv : x * y0 = v) (k : mj_Ev d y p' ls (.int v :: r) h Q) : mj_Ev d y pc ls (.int y0 :: .int x :: r) h Q := by
  subst hp; subst hv; exact me_of hl rfl rfl rfl k
theorem me_ishl {x y0 v : Int32} (hl : mj_look (mj_prog y) pc = some (.ishl, 1, a0, b0)) (hp : pc + 1 = p') (hv : x <<< (y0 &&& 31) = v) (k : mj_Ev d y p' ls (.int v :: r) h Q) : mj_Ev d y pc ls (.int y0 :: .int x :: r) h Q := by
  subst hp; subst hv; exact me_of hl rfl rfl rfl k
theorem me_ishr {x y0 v : Int32} (hl : mj_look (mj_prog y) pc = some (.ishr, 1, a0, b0)) (hp : pc + 1 = p') (hv : x >>> (y0 &&& 31) = v) (k : mj_Ev d y p' ls (.int v :: r) h Q) : mj_Ev d y pc ls (.int y0 :: .int x :: r) h Q := by
  subst hp; subst hv; exact me_of hl rfl rfl rfl k
theorem me_iushr {x y0 v : Int32} (hl : mj_look (mj_prog y) pc = some (.iushr, 1, a0, b0)) (hp : pc + 1 = p') (hv : (x.toUInt32 >>> (y0.toUInt32 &&& Int32.toUInt32 31)).toInt32 = v) (k : mj_Ev d y p' ls (.int v :: r) h Q) : mj_Ev d y pc ls (.int y0 :: .int x :: r) h Q := by
  subst hp; subst hv; exact me_of hl rfl rfl rfl k
theorem me_iand {x y0 v : Int32} (hl : mj_look (mj_prog y) pc = some (.iand, 1, a0, b0)) (hp : pc + 1 = p') (hv : x &&& y0 = v) (k : mj_Ev d y p' ls (.int v :: r) h Q) : mj_Ev d y pc ls (.int y0 :: .int x :: r) h Q := by
  subst hp; subst hv; exact me_of hl rfl rfl rfl k
theorem me_ior {x y0 v : Int32} (hl : mj_look (mj_prog y) pc = some (.ior, 1, a0, b0)) (hp : pc + 1 = p') (hv : x ||| y0 = v) (k : mj_Ev d y p' ls (.int v :: r) h Q) : mj_Ev d y pc ls (.int y0 :: .int x :: r) h Q := by
  subst hp; subst hv; exact me_of hl rfl rfl rfl k
theorem me_idiv {x y0 v : Int32} (hl : mj_look (mj_prog y) pc = some (.idiv, 1, a0, b0)) (hp : pc + 1 = p') (hz : ¬ y0 = 0) (hv : x / y0 = v) (k : mj_Ev d y p' ls (.int v :: r) h Q) : mj_Ev d y pc ls (.int y0 :: .int x :: r) h Q := by
  subst hp; subst hv; exact me_of hl rfl rfl (by simp only [mj_sp]; rw [if_neg hz]) k
theorem me_irem {x y0 v : Int32} (hl : mj_look (mj_prog y) pc = some (.irem, 1, a0, b0)) (hp : pc + 1 = p') (hz : ¬ y0 = 0) (hv : x % y0 = v) (k : mj_Ev d y p' ls (.int v :: r) h Q) : mj_Ev d y pc ls (.int y0 :: .int x :: r) h Q := by
  subst hp; subst hv; exact me_of hl rfl rfl (by simp only [mj_sp]; rw [if_neg hz]) k
theorem me_ladd {x y0 v : Int64} (hl : mj_look (mj_prog y) pc = some (.ladd, 1, a0, b0)) (hp : pc + 1 = p') (hv : x + y0 = v) (k : mj_Ev d y p' ls (.long v :: r) h Q) : mj_Ev d y pc ls (.long y0 :: .long x :: r) h Q := by
  subst hp; subst hv; exact me_of hl rfl rfl rfl k
theorem me_lsub {x y0 v : Int64} (hl : mj_look (mj_prog y) pc = some (.lsub, 1, a0, b0)) (hp : pc + 1 = p') (hv : x - y0 = v) (k : mj_Ev d y p' ls (.long v :: r) h Q) : mj_Ev d y pc ls (.long y0 :: .long x :: r) h Q := by
  subst hp; subst hv; exact me_of hl rfl rfl rfl k
theorem me_lcmp {x y0 : Int64} {v : Int32} (hl : mj_look (mj_prog y) pc = some (.lcmp, 1, a0, b0)) (hp : pc + 1 = p') (hv : lg_cmp x y0 = v) (k : mj_Ev d y p' ls (.int v :: r) h Q) : mj_Ev d y pc ls (.long y0 :: .long x :: r) h Q := by
  subst hp; subst hv; exact me_of hl rfl rfl rfl k
theorem me_ineg {x : Int32} {v : Int32} (hl : mj_look (mj_prog y) pc = some (.ineg, 1, a0, b0)) (hp : pc + 1 = p') (hv : -x = v) (k : mj_Ev d y p' ls (.int v :: r) h Q) : mj_Ev d y pc ls (.int x :: r) h Q := by
  subst hp; subst hv; exact me_of hl rfl rfl rfl k
theorem me_lneg {x : Int64} {v : Int64} (hl : mj_look (mj_prog y) pc = some (.lneg, 1, a0, b0)) (hp : pc + 1 = p') (hv : -x = v) (k : mj_Ev d y p' ls (.long v :: r) h Q) : mj_Ev d y pc ls (.long x :: r) h Q := by
  subst hp; subst hv; exact me_of hl rfl rfl rfl k
theorem me_i2l {x : Int32} {v : Int64} (hl : mj_look (mj_prog y) pc = some (.i2l, 1, a0, b0)) (hp : pc + 1 = p') (hv : x.toInt64 = v) (k : mj_Ev d y p' ls (.long v :: r) h Q) : mj_Ev d y pc ls (.int x :: r) h Q := by
  subst hp; subst hv; exact me_of hl rfl rfl rfl k
theorem me_l2i {x : Int64} {v : Int32} (hl : mj_look (mj_prog y) pc = some (.l2i, 1, a0, b0)) (hp : pc + 1 = p') (hv : x.toInt32 = v) (k : mj_Ev d y p' ls (.int v :: r) h Q) : mj_Ev d y pc ls (.long x :: r) h Q := by
  subst hp; subst hv; exact me_of hl rfl rfl rfl k
theorem me_i2s {x : Int32} {v : Int32} (hl : mj_look (mj_prog y) pc = some (.i2s, 1, a0, b0)) (hp : pc + 1 = p') (hv : x.toInt16.toInt32 = v) (k : mj_Ev d y p' ls (.int v :: r) h Q) : mj_Ev d y pc ls (.int x :: r) h Q := by
  subst hp; subst hv; exact me_of hl rfl rfl rfl k
theorem me_i2c {x : Int32} {v : Int32} (hl : mj_look (mj_prog y) pc = some (.i2c, 1, a0, b0)) (hp : pc + 1 = p') (hv : (x.toUInt32 % 65536).toInt32 = v) (k : mj_Ev d y p' ls (.int v :: r) h Q) : mj_Ev d y pc ls (.int x :: r) h Q := by
  subst hp; subst hv; exact me_of hl rfl rfl rfl k
theorem me_goto {off : Int} (hl : mj_look (mj_prog y) pc = some (.goto off, 3, a0, b0)) (k : mj_Ev d y a0 ls r h Q) : mj_Ev d y pc ls r h Q := me_of hl rfl rfl rfl k
theorem me_if_eq {x : Int32} {off : Int} (hl : mj_look (mj_prog y) pc = some (.ifCond .eq off, 3, a0, b0)) (hp : pc + 3 = p') (k1 : x = 0 → mj_Ev d y a0 ls r h Q) (k2 : ¬ x = 0 → mj_Ev d y p' ls r h Q) : mj_Ev d y pc ls (.int x :: r) h Q := by
  subst hp; exact me_of hl rfl rfl rfl (me_ite k1 k2)
theorem me_if_ne {x : Int32} {off : Int} (hl : mj_look (mj_prog y) pc = some (.ifCond .ne off, 3, a0, b0)) (hp : pc + 3 = p') (k1 : x = 0 → mj_Ev d y p' ls r h Q) (k2 : ¬ x = 0 → mj_Ev d y a0 ls r h Q) : mj_Ev d y pc ls (.int x :: r) h Q := by
  subst hp; exact me_of hl rfl rfl rfl (me_ite k1 k2)
theorem me_if_lt {x : Int32} {off : Int} (hl : mj_look (mj_prog y) pc = some (.ifCond .lt off, 3, a0, b0)) (hp : pc + 3 = p') (k1 : x < 0 → mj_Ev d y a0 ls r h Q) (k2 : ¬ x < 0 → mj_Ev d y p' ls r h Q) : mj_Ev d y pc ls (.int x :: r) h Q := by
  subst hp; exact me_of hl rfl rfl rfl (me_ite k1 k2)
theorem me_if_ge {x : Int32} {off : Int} (hl : mj_look (mj_prog y) pc = some (.ifCond .ge off, 3, a0, b0)) (hp : pc + 3 = p') (k1 : 0 ≤ x → mj_Ev d y a0 ls r h Q) (k2 : ¬ 0 ≤ x → mj_Ev d y p' ls r h Q) : mj_Ev d y pc ls (.int x :: r) h Q := by
  subst hp; exact me_of hl rfl rfl rfl (me_ite k1 k2)
theorem me_if_gt {x : Int32} {off : Int} (hl : mj_look (mj_prog y) pc = some (.ifCond .gt off, 3, a0, b0)) (hp : pc + 3 = p') (k1 : 0 < x → mj_Ev d y a0 ls r h Q) (k2 : ¬ 0 < x → mj_Ev d y p' ls r h Q) : mj_Ev d y pc ls (.int x :: r) h Q := by
  subst hp; exact me_of hl rfl rfl rfl (me_ite k1 k2)
theorem me_if_le {x : Int32} {off : Int} (hl : mj_look (mj_prog y) pc = some (.ifCond .le off, 3, a0, b0)) (hp : pc + 3 = p') (k1 : x ≤ 0 → mj_Ev d y a0 ls r h Q) (k2 : ¬ x ≤ 0 → mj_Ev d y p' ls r h Q) : mj_Ev d y pc ls (.int x :: r) h Q := by
  subst hp; exact me_of hl rfl rfl rfl (me_ite k1 k2)
theorem me_ic_eq {x y0 : Int32} {off : Int} (hl : mj_look (mj_prog y) pc = some (.if_icmp .eq off, 3, a0, b0)) (hp : pc + 3 = p') (k1 : x = y0 → mj_Ev d y a0 ls r h Q) (k2 : ¬ x = y0 → mj_Ev d y p' ls r h Q) : mj_Ev d y pc ls (.int y0 :: .int x :: r) h Q := by
  subst hp; exact me_of hl rfl rfl rfl (me_ite k1 k2)
theorem me_ic_ne {x y0 : Int32} {off : Int} (hl : mj_look (mj_prog y) pc = some (.if_icmp .ne off, 3, a0, b0)) (hp : pc + 3 = p') (k1 : x = y0 → mj_Ev d y p' ls r h Q) (k2 : ¬ x = y0 → mj_Ev d y a0 ls r h Q) : mj_Ev d y pc ls (.int y0 :: .int x :: r) h Q := by
  subst hp; exact me_of hl rfl rfl rfl (me_ite k1 k2)
theorem me_ic_lt {x y0 : Int32} {off : Int} (hl : mj_look (mj_prog y) pc = some (.if_icmp .lt off, 3, a0, b0)) (hp : pc + 3 = p') (k1 : x < y0 → mj_Ev d y a0 ls r h Q) (k2 : ¬ x < y0 → mj_Ev d y p' ls r h Q) : mj_Ev d y pc ls (.int y0 :: .int x :: r) h Q := by
  subst hp; exact me_of hl rfl rfl rfl (me_ite k1 k2)
theorem me_ic_ge {x y0 : Int32} {off : Int} (hl : mj_look (mj_prog y) pc = some (.if_icmp .ge off, 3, a0, b0)) (hp : pc + 3 = p') (k1 : y0 ≤ x → mj_Ev d y a0 ls r h Q) (k2 : ¬ y0 ≤ x → mj_Ev d y p' ls r h Q) : mj_Ev d y pc ls (.int y0 :: .int x :: r) h Q := by
  subst hp; exact me_of hl rfl rfl rfl (me_ite k1 k2)
theorem me_ic_gt {x y0 : Int32} {off : Int} (hl : mj_look (mj_prog y) pc = some (.if_icmp .gt off, 3, a0, b0)) (hp : pc + 3 = p') (k1 : y0 < x → mj_Ev d y a0 ls r h Q) (k2 : ¬ y0 < x → mj_Ev d y p' ls r h Q) : mj_Ev d y pc ls (.int y0 :: .int x :: r) h Q := by
  subst hp; exact me_of hl rfl rfl rfl (me_ite k1 k2)
theorem me_ic_le {x y0 : Int32} {off : Int} (hl : mj_look (mj_prog y) pc = some (.if_icmp .le off, 3, a0, b0)) (hp : pc + 3 = p') (k1 : x ≤ y0 → mj_Ev d y a0 ls r h Q) (k2 : ¬ x ≤ y0 → mj_Ev d y p' ls r h Q) : mj_Ev d y pc ls (.int y0 :: .int x :: r) h Q := by
  subst hp; exact me_of hl rfl rfl rfl (me_ite k1 k2)
theorem me_ifnull0 {off : Int} (hl : mj_look (mj_prog y) pc = some (.ifnull off, 3, a0, b0)) (k : mj_Ev d y a0 ls r h Q) : mj_Ev d y pc ls (.null :: r) h Q := me_of hl rfl rfl rfl k
theorem me_ifnull1 {off : Int} {x : Nat} (hl : mj_look (mj_prog y) pc = some (.ifnull off, 3, a0, b0)) (hp : pc + 3 = p') (k : mj_Ev d y p' ls r h Q) : mj_Ev d y pc ls (.ref x :: r) h Q := by
  subst hp; exact me_of hl rfl rfl rfl k
theorem me_tsw {n : Nat} {dd lo hi : Int} {offs : Array Int} {x : Int32} (hl : mj_look (mj_prog y) pc = some (.tableswitch dd lo hi offs, n, a0, b0)) (hp : (if x.toInt < lo ∨ hi < x.toInt then ((pc : Int) + dd).toNat else ((pc : Int) + (offs[(x.toInt - lo).toNat]?).getD dd).toNat) = p') (k : mj_Ev d y p' ls r h Q) : mj_Ev d y pc ls (.int x :: r) h Q := by
  subst hp; exact me_of hl rfl rfl rfl k
theorem me_lsw {n : Nat} {dd : Int} {ps : Array (Int × Int)} {x : Int32} (hl : mj_look (mj_prog y) pc = some (.lookupswitch dd ps, n, a0, b0)) (hp : ((pc : Int) + Op.lookupswitch.offset ps.toList dd x.toInt).toNat = p') (k : mj_Ev d y p' ls r h Q) : mj_Ev d y pc ls (.int x :: r) h Q := by
  subst hp; exact me_of hl rfl rfl rfl k
theorem me_max {i bb : Nat} {x y0 v : Int32} (hl : mj_look (mj_prog y) pc = some (.invokestatic i, 3, 3005, bb)) (hp : pc + 3 = p') (hr : mj_sum r ≤ 8) (hv : (if x < y0 then y0 else x) = v) (k : mj_Ev d y p' ls (.int v :: r) h Q) : mj_Ev d y pc ls (.int y0 :: .int x :: r) h Q := by
  subst hp; subst hv; exact me_ofx hl rfl rfl rfl (by have hr2 : (List.map (fun v => Value.category v) r).sum ≤ 8 := hr; simp [mj_sx, hr2]) k
theorem me_min {i bb : Nat} {x y0 v : Int32} (hl : mj_look (mj_prog y) pc = some (.invokestatic i, 3, 3006, bb)) (hp : pc + 3 = p') (hr : mj_sum r ≤ 8) (hv : (if y0 < x then y0 else x) = v) (k : mj_Ev d y p' ls (.int v :: r) h Q) : mj_Ev d y pc ls (.int y0 :: .int x :: r) h Q := by
  subst hp; subst hv; exact me_ofx hl rfl rfl rfl (by have hr2 : (List.map (fun v => Value.category v) r).sum ≤ 8 := hr; simp [mj_sx, hr2]) k
theorem me_abs {i bb : Nat} {x v : Int32} (hl : mj_look (mj_prog y) pc = some (.invokestatic i, 3, 3007, bb)) (hp : pc + 3 = p') (hr : mj_sum r ≤ 8) (hv : (if 0 ≤ x then x else 0 - x) = v) (k : mj_Ev d y p' ls (.int v :: r) h Q) : mj_Ev d y pc ls (.int x :: r) h Q := by
  subst hp; subst hv; exact me_ofx hl rfl rfl rfl (by have hr2 : (List.map (fun v => Value.category v) r).sum ≤ 8 := hr; simp [mj_sx, hr2]) k
theorem me_sh {a : Nat} (ha : a < 149) : mg_sh L a = mg_tbl.getD a (99, 0) := by
  unfold mg_sh
  rw [if_neg (by show ¬ a = 1000000; omega)]
theorem me_gfi {i c kf a : Nat} (hl : mj_look (mj_prog y) pc = some (.getfield i, 3, c, kf)) (hp : pc + 3 = p') (ha : a < 149) (hs : (mg_tbl.getD a (99, 0)).1 = c) (hr : mg_rc a kf = 0) (k : mj_Ev d y p' ls (.int (I a kf) :: r) (mg_h L xs I) Q) : mj_Ev d y pc ls (.ref a :: r) (mg_h L xs I) Q := by
  subst hp
  exact me_ofh hl rfl rfl rfl rfl (by simp only [mj_sh]; rw [if_pos ⟨ha, by rw [me_sh ha]; exact hs⟩, mg_get ha hr]) k
theorem me_gfr {i c kf a b : Nat} (hl : mj_look (mj_prog y) pc = some (.getfield i, 3, c, kf)) (hp : pc + 3 = p') (ha : a < 149) (hs : (mg_tbl.getD a (99, 0)).1 = c) (hr : mg_rc a kf = b + 2) (k : mj_Ev d y p' ls (.ref b :: r) (mg_h L xs I) Q) : mj_Ev d y pc ls (.ref a :: r) (mg_h L xs I) Q := by
  subst hp
  exact me_ofh hl rfl rfl rfl rfl (by simp only [mj_sh]; rw [if_pos ⟨ha, by rw [me_sh ha]; exact hs⟩, mg_ref ha hr]) k
theorem me_gfk {i c kf a : Nat} {v : Value} (hl : mj_look (mj_prog y) pc = some (.getfield i, 3, c, kf)) (hp : pc + 3 = p') (ha : a < 149) (hs : (mg_tbl.getD a (99, 0)).1 = c) (hr : mg_rc a kf = 1) (hv : (if I a kf = 0 then .null else .ref (I a kf).toNatClampNeg) = v) (k : mj_Ev d y p' ls (v :: r) (mg_h L xs I) Q) : mj_Ev d y pc ls (.ref a :: r) (mg_h L xs I) Q := by
  subst hp; subst hv
  exact me_ofh hl rfl rfl rfl rfl (by simp only [mj_sh]; rw [if_pos ⟨ha, by rw [me_sh ha]; exact hs⟩, mg_knd ha hr]) k
theorem me_pfi {i c kf a : Nat} {v : Int32} (hl : mj_look (mj_prog y) pc = some (.putfield i, 3, c, kf)) (hp : pc + 3 = p') (ha : a < 149) (hs : (mg_tbl.getD a (99, 0)).1 = c) (hr : mg_rc a kf = 0) (hn : narrow (mj_fty c kf) (.int v) = .int v) (hf : fits (mj_fty c kf) (.int v) = true) (k : mj_Ev d y p' ls r (mg_h L xs (mg_u I a kf v)) Q) : mj_Ev d y pc ls (.int v :: .ref a :: r) (mg_h L xs I) Q := by
  subst hp
  refine me_ofh (h' := mg_h L xs (mg_u I a kf v)) hl rfl rfl rfl rfl ?_ k
  simp only [mj_sh]
  rw [if_pos ⟨ha, by rw [me_sh ha]; exact hs, hn, hf⟩]
  unfold mj_st
  dsimp only
  rw [mg_put ha hr]
theorem me_pfk {i c kf a b : Nat} (hl : mj_look (mj_prog y) pc = some (.putfield i, 3, c, kf)) (hp : pc + 3 = p') (ha : a < 149) (hs : (mg_tbl.getD a (99, 0)).1 = c) (hr : mg_rc a kf = 1) (hb : b ≠ 0 ∧ b < 149) (hn : narrow (mj_fty c kf) (.ref b) = .ref b) (hf : fits (mj_fty c kf) (.ref b) = true) (k : mj_Ev d y p' ls r (mg_h L xs (mg_u I a kf (nI b))) Q) : mj_Ev d y pc ls (.ref b :: .ref a :: r) (mg_h L xs I) Q := by
  subst hp
  refine me_ofh (h' := mg_h L xs (mg_u I a kf (nI b))) hl rfl rfl rfl rfl ?_ k
  simp only [mj_sh]
  rw [if_pos ⟨ha, by rw [me_sh ha]; exact hs, hn, hf⟩]
  unfold mj_st
  dsimp only
  rw [mg_puk ha hr hb]
theorem me_inI {j n : Nat} (hj : j < n) (hn : n < 10000) : mj_in (nI j) n = true := by
  unfold mj_in
  rw [Bool.and_eq_true, decide_eq_true_eq, decide_eq_true_eq, nI_clamp (by omega)]
  exact ⟨nI_pos (by omega), hj⟩
theorem me_iald {a j n : Nat} {i : Int32} (hl : mj_look (mj_prog y) pc = some (.iaload, 1, a0, b0)) (hp : pc + 1 = p') (ha : a < 149) (hs : mg_tbl.getD a (99, 0) = (20, n)) (hi : i = nI j) (hj : j < n) (hn : n < 10000) (hr : mg_rc a j = 0) (k : mj_Ev d y p' ls (.int (I a j) :: r) (mg_h L xs I) Q) : mj_Ev d y pc ls (.int i :: .ref a :: r) (mg_h L xs I) Q := by
  subst hp; subst hi
  refine me_ofh hl rfl rfl rfl rfl ?_ k
  simp only [mj_sh]
  rw [if_pos ⟨by unfold mj_rd; simp [ha], by rw [me_sh ha, hs], by rw [me_sh ha, hs]; exact me_inI hj hn⟩, nI_clamp (by omega), mg_get ha hr]
theorem me_xald {j : Nat} {i : Int32} (hl : mj_look (mj_prog y) pc = some (.iaload, 1, a0, b0)) (hp : pc + 1 = p') (hi : i = nI j) (hj : j < L) (hn : L < 10000) (k : mj_Ev d y p' ls (.int (xs j) :: r) (mg_h L xs I) Q) : mj_Ev d y pc ls (.int i :: .ref mj_X :: r) (mg_h L xs I) Q := by
  subst hp; subst hi
  refine me_ofh hl rfl rfl rfl rfl ?_ k
  simp only [mj_sh]
  have h1 : mg_sh L mj_X = (20, L) := by unfold mg_sh; rw [if_pos rfl]
  rw [if_pos ⟨by unfold mj_rd; simp, by rw [h1], by rw [h1]; exact me_inI hj hn⟩, nI_clamp (by omega)]
  unfold mg_V
  rw [if_pos rfl]
theorem me_xlen {v : Int32} (hl : mj_look (mj_prog y) pc = some (.arraylength, 1, a0, b0)) (hp : pc + 1 = p') (hv : Int32.ofNat L = v) (k : mj_Ev d y p' ls (.int v :: r) (mg_h L xs I) Q) : mj_Ev d y pc ls (.ref mj_X :: r) (mg_h L xs I) Q := by
  subst hp; subst hv
  refine me_ofh hl rfl rfl rfl rfl ?_ k
  simp only [mj_sh]
  have h1 : mg_sh L mj_X = (20, L) := by unfold mg_sh; rw [if_pos rfl]
  rw [if_pos ⟨by unfold mj_rd; simp, by rw [h1]; exact Nat.le_refl 20, by rw [h1]; exact (by decide : 20 < 28)⟩, h1]
theorem me_alen {a t n : Nat} {v : Int32} (hl : mj_look (mj_prog y) pc = some (.arraylength, 1, a0, b0)) (hp : pc + 1 = p') (ha : a < 149) (hs : mg_tbl.getD a (99, 0) = (t, n)) (ht : 20 ≤ t ∧ t < 28) (hv : Int32.ofNat n = v) (k : mj_Ev d y p' ls (.int v :: r) (mg_h L xs I) Q) : mj_Ev d y pc ls (.ref a :: r) (mg_h L xs I) Q := by
  subst hp; subst hv
  refine me_ofh hl rfl rfl rfl rfl ?_ k
  simp only [mj_sh]
  rw [if_pos ⟨by unfold mj_rd; simp [ha], by rw [me_sh ha, hs]; exact ht.1, by rw [me_sh ha, hs]; exact ht.2⟩, me_sh ha, hs]
theorem me_iast {a j n : Nat} {i x : Int32} (hl : mj_look (mj_prog y) pc = some (.iastore, 1, a0, b0)) (hp : pc + 1 = p') (ha : a < 149) (hs : mg_tbl.getD a (99, 0) = (20, n)) (hi : i = nI j) (hj : j < n) (hn : n < 10000) (hr : mg_rc a j = 0) (k : mj_Ev d y p' ls r (mg_h L xs (mg_u I a j x)) Q) : mj_Ev d y pc ls (.int x :: .int i :: .ref a :: r) (mg_h L xs I) Q := by
  subst hp; subst hi
  refine me_ofh (h' := mg_h L xs (mg_u I a j x)) hl rfl rfl rfl rfl ?_ k
  simp only [mj_sh]
  rw [if_pos ⟨ha, by rw [me_sh ha, hs], by rw [me_sh ha, hs]; exact me_inI hj hn⟩, nI_clamp (by omega)]
  unfold mj_st
  dsimp only
  rw [mg_put ha hr]
theorem me_zald {a j n : Nat} {i : Int32} (hl : mj_look (mj_prog y) pc = some (.baload, 1, a0, b0)) (hp : pc + 1 = p') (ha : a < 149) (hs : mg_tbl.getD a (99, 0) = (21, n)) (hi : i = nI j) (hj : j < n) (hn : n < 10000) (hr : mg_rc a j = 0) (k : mj_Ev d y p' ls (.int (I a j) :: r) (mg_h L xs I) Q) : mj_Ev d y pc ls (.int i :: .ref a :: r) (mg_h L xs I) Q := by
  subst hp; subst hi
  refine me_ofh hl rfl rfl rfl rfl ?_ k
  simp only [mj_sh]
  rw [if_pos ⟨ha, by rw [me_sh ha, hs], by rw [me_sh ha, hs]; exact me_inI hj hn⟩, nI_clamp (by omega), mg_get ha hr]
theorem me_cald {a j n : Nat} {i : Int32} (hl : mj_look (mj_prog y) pc = some (.caload, 1, a0, b0)) (hp : pc + 1 = p') (ha : a < 149) (hs : mg_tbl.getD a (99, 0) = (22, n)) (hi : i = nI j) (hj : j < n) (hn : n < 10000) (hr : mg_rc a j = 0) (k : mj_Ev d y p' ls (.int (I a j) :: r) (mg_h L xs I) Q) : mj_Ev d y pc ls (.int i :: .ref a :: r) (mg_h L xs I) Q := by
  subst hp; subst hi
  refine me_ofh hl rfl rfl rfl rfl ?_ k
  simp only [mj_sh]
  rw [if_pos ⟨ha, by rw [me_sh ha, hs], by rw [me_sh ha, hs]; exact me_inI hj hn⟩, nI_clamp (by omega), mg_get ha hr]
theorem me_zast {a j n : Nat} {i x v : Int32} (hl : mj_look (mj_prog y) pc = some (.bastore, 1, a0, b0)) (hp : pc + 1 = p') (ha : a < 149) (hs : mg_tbl.getD a (99, 0) = (21, n)) (hi : i = nI j) (hj : j < n) (hn : n < 10000) (hr : mg_rc a j = 0) (hv : x &&& 1 = v) (k : mj_Ev d y p' ls r (mg_h L xs (mg_u I a j v)) Q) : mj_Ev d y pc ls (.int x :: .int i :: .ref a :: r) (mg_h L xs I) Q := by
  subst hp; subst hi; subst hv
  refine me_ofh (h' := mg_h L xs (mg_u I a j (x &&& 1))) hl rfl rfl rfl rfl ?_ k
  simp only [mj_sh]
  rw [if_pos ⟨ha, by rw [me_sh ha, hs], by rw [me_sh ha, hs]; exact me_inI hj hn⟩, nI_clamp (by omega)]
  unfold mj_st narrow
  dsimp only
  rw [mg_put ha hr]
theorem me_aald {a j n t b : Nat} {i : Int32} (hl : mj_look (mj_prog y) pc = some (.aaload, 1, a0, b0)) (hp : pc + 1 = p') (ha : a < 149) (hs : mg_tbl.getD a (99, 0) = (t, n)) (ht : 23 ≤ t ∧ t < 28) (hi : i = nI j) (hj : j < n) (hn : n < 10000) (hr : mg_rc a j = b + 2) (k : mj_Ev d y p' ls (.ref b :: r) (mg_h L xs I) Q) : mj_Ev d y pc ls (.int i :: .ref a :: r) (mg_h L xs I) Q := by
  subst hp; subst hi
  refine me_ofh hl rfl rfl rfl rfl ?_ k
  simp only [mj_sh]
  rw [if_pos ⟨ha, by rw [me_sh ha, hs]; exact ht.1, by rw [me_sh ha, hs]; exact ht.2, by rw [me_sh ha, hs]; exact me_inI hj hn⟩, nI_clamp (by omega), mg_ref ha hr]
/-- System.arraycopy, of numbers -/
def mg_c (I : Nat → Nat → Int32) (a sp b dp n : Nat) : Nat → Nat → Int32 := fun i k => if i = b ∧ dp ≤ k ∧ k < dp + n then I a (sp + (k - dp)) else I i k
theorem me_acp {i bb a b sp dp n la lb : Nat} {x1 x2 x3 : Int32} (hl : mj_look (mj_prog y) pc = some (.invokestatic i, 3, 3001, bb)) (hp : pc + 3 = p') (ha : a < 149) (hb : b < 149) (hsa : mg_tbl.getD a (99, 0) = (20, la)) (hsb : mg_tbl.getD b (99, 0) = (20, lb)) (h1 : x1 = nI n) (h2 : x2 = nI dp) (h3 : x3 = nI sp) (h4 : sp + n ≤ la) (h5 : dp + n ≤ lb) (hn : la < 10000 ∧ lb < 10000) (hra : ∀ k, mg_rc a k = 0) (hrb : ∀ k, mg_rc b k = 0) (hr : mj_sum r ≤ 8) (k : mj_Ev d y p' ls r (mg_h L xs (mg_c I a sp b dp n)) Q) : mj_Ev d y pc ls (.int x1 :: .int x2 :: .ref b :: .int x3 :: .ref a :: r) (mg_h L xs I) Q := by
  subst hp; subst h1; subst h2; subst h3
  refine me_ofh (h' := mg_h L xs (mg_c I a sp b dp n)) hl rfl rfl rfl rfl ?_ k
  simp only [mj_sh]
  rw [nI_clamp (by omega), nI_clamp (by omega), nI_clamp (by omega)]
  rw [if_pos ⟨trivial, ha, hb, by rw [me_sh ha, hsa], by rw [me_sh hb, hsb], nI_pos (by omega), nI_pos (by omega), nI_pos (by omega), by rw [me_sh ha, hsa]; exact h4, by rw [me_sh hb, hsb]; exact h5, fun j hj => by rw [mg_get ha (hra _)]; rfl, hr⟩]
  have e : mj_cpy (mg_V xs I) a sp b dp n = mg_V xs (mg_c I a sp b dp n) := by
    funext q j
    unfold mj_cpy
    by_cases hq : q = b
    · subst hq
      rw [if_pos rfl]
      by_cases hj : dp ≤ j ∧ j < dp + n
      · rw [if_pos hj, mg_get ha (hra _), mg_get hb (hrb _)]
        simp [mg_c, hj]
      · rw [if_neg hj, mg_get hb (hrb _), mg_get hb (hrb _)]
        simp [mg_c, hj]
    · rw [if_neg hq]
      unfold mg_V mg_c
      simp only [hq, false_and, if_false]
  rw [e]
theorem cl_le {c m : Nat} {as : List Value} (h : (mj_m c).2.2.1 = m) (hb : Nat.ble as.length m = true) : as.length ≤ (mj_m c).2.2.1 := by
  rw [h]; exact Nat.le_of_ble_eq_true hb
theorem cl_sum {rest : List Value} (hb : Nat.ble (mj_sum rest) 8 = true) : mj_sum rest ≤ 8 := Nat.le_of_ble_eq_true hb
theorem cl_start {n : Nat} {as : List Value} (h : (mj_m y).2.2.1 = n) (he : mj_ent n as = ls) (k : mj_Ev d y 0 ls [] (mg_h L xs I) Q) : mj_Cl d y as (mg_h L xs I) Q := by
  unfold mj_Cl
  rw [h, he]
  exact k
theorem me_reti {t : FieldType} {v : Int32} (hl : mj_look (mj_prog y) pc = some (.ireturn, 1, a0, b0)) (ht : (mj_m y).2.2.2.1 = some t) (hn : narrow t (.int v) = .int v) (H : Q (some (.int v)) h) : mj_Ev d y pc ls [.int v] h Q :=
  mj_Ev.ret hl (by rw [ht]; simp only [mj_ret]; rw [if_pos hn]) H
theorem me_retl {v : Int64} (hl : mj_look (mj_prog y) pc = some (.lreturn, 1, a0, b0)) (ht : (mj_m y).2.2.2.1 = some .long) (H : Q (some (.long v)) h) : mj_Ev d y pc ls [.long v] h Q :=
  mj_Ev.ret hl (by rw [ht]; rfl) H
theorem me_reta {n : String} {v : Nat} (hl : mj_look (mj_prog y) pc = some (.areturn, 1, a0, b0)) (ht : (mj_m y).2.2.2.1 = some (.object n)) (H : Q (some (.ref v)) h) : mj_Ev d y pc ls [.ref v] h Q :=
  mj_Ev.ret hl (by rw [ht]; rfl) H
theorem me_retv (hl : mj_look (mj_prog y) pc = some (.return_, 1, a0, b0)) (ht : (mj_m y).2.2.2.1 = none) (H : Q none h) : mj_Ev d y pc ls [] h Q :=
  mj_Ev.ret hl (by rw [ht]; rfl) H
theorem me_cs {i c n : Nat} {st as rest : List Value} (hl : mj_look (mj_prog y) pc = some (.invokestatic i, 3, c, n)) (hp : pc + 3 = p') (hn : Nat.ble n st.length = true) (hrest : st.drop n = rest) (has : (st.take n).reverse = as) (hk : as.all mj_cat1 = true) (hlen : as.length ≤ (mj_m c).2.2.1) (hy : c < 219) (hr : mj_sum rest ≤ 8) (H : mj_Cl d c as h (fun v h' => mj_Ev (d + 1) y p' ls (v.toList ++ rest) h' Q)) : mj_Ev (d + 1) y pc ls st h Q := by
  subst hp; subst hrest; subst has
  refine mj_Ev.call hl rfl ?_ H
  simp only [mj_call]
  rw [if_pos ⟨by omega, Nat.le_of_ble_eq_true hn⟩]
  unfold mj_arg
  rw [if_pos ⟨hk, hlen, hy, hr⟩]
theorem me_cv {i c c' n a t : Nat} {st as rest : List Value} (hl : mj_look (mj_prog y) pc = some (.invokevirtual i, 3, c, n)) (hp : pc + 3 = p') (hd : st.drop n = .ref a :: rest) (ha : a < 149) (ht : (mg_tbl.getD a (99, 0)).1 = t) (hc : c < 2000) (ht13 : t < 13) (hdi : mj_disp c t = some c') (has : .ref a :: (st.take n).reverse = as) (hk : as.all mj_cat1 = true) (hlen : as.length ≤ (mj_m c').2.2.1) (hy : c' < 219) (hr : mj_sum rest ≤ 8) (H : mj_Cl d c' as (mg_h L xs I) (fun v h' => mj_Ev (d + 1) y p' ls (v.toList ++ rest) h' Q)) : mj_Ev (d + 1) y pc ls st (mg_h L xs I) Q := by
  subst hp; subst has
  refine mj_Ev.call hl rfl ?_ H
  simp only [mj_call]
  rw [hd]
  dsimp only
  rw [me_sh ha, ht, if_pos ⟨hc, ha, ht13⟩, hdi]
  dsimp only
  unfold mj_arg
  rw [if_pos ⟨hk, hlen, hy, hr⟩]
theorem me_ci {i c n a t : Nat} {st as rest : List Value} (hl : mj_look (mj_prog y) pc = some (.invokespecial i, 3, c, n)) (hp : pc + 3 = p') (hd : st.drop n = .ref a :: rest) (ha : a < 149) (ht : (mg_tbl.getD a (99, 0)).1 = t) (ht13 : t < 13) (has : .ref a :: (st.take n).reverse = as) (hk : as.all mj_cat1 = true) (hlen : as.length ≤ (mj_m c).2.2.1) (hy : c < 219) (hr : mj_sum rest ≤ 8) (H : mj_Cl d c as (mg_h L xs I) (fun v h' => mj_Ev (d + 1) y p' ls (v.toList ++ rest) h' Q)) : mj_Ev (d + 1) y pc ls st (mg_h L xs I) Q := by
  subst hp; subst has
  refine mj_Ev.call hl rfl ?_ H
  simp only [mj_call]
  rw [hd]
  dsimp only
  rw [me_sh ha, ht, if_pos ⟨by omega, ha, ht13⟩]
  unfold mj_arg
  rw [if_pos ⟨hk, hlen, hy, hr⟩]
end EV
theorem mI_add (a b : Nat) : nI a + nI b = nI (a + b) := by simp [nI, Int32.ofNat_add]
theorem mI_mul (a b : Nat) : nI a * nI b = nI (a * b) := by simp [nI, Int32.ofNat_mul]
theorem mI_inc {a k : Nat} {m : Int} (h : Int32.ofInt m = nI k) : nI a + Int32.ofInt m = nI (a + k) := by rw [h, mI_add]
theorem mI_div {a b : Nat} (h1 : a < 2 ^ 31) (h2 : b < 2 ^ 31) : nI a / nI b = nI (a / b) := by
  have h3 : a / b ≤ a := Nat.div_le_self a b
  apply Int32.toInt_inj.mp
  rw [Int32.toInt_div, nI_toInt h1, nI_toInt h2, nI_toInt (by omega), ← Int.ofNat_tdiv]
  generalize a / b = q at h3 ⊢
  exact Int.bmod_eq_of_le_mul_two (by omega) (by omega)
theorem mI_mod {a b : Nat} (h1 : a < 2 ^ 31) (h2 : b < 2 ^ 31) : nI a % nI b = nI (a % b) := by
  have h3 : a % b ≤ a := Nat.mod_le a b
  apply Int32.toInt_inj.mp
  rw [Int32.toInt_mod, nI_toInt h1, nI_toInt h2, nI_toInt (by omega), ← Int.ofNat_tmod]
theorem cI_lt {a b : Nat} (h1 : a < 2 ^ 31) (h2 : b < 2 ^ 31) : nI a < nI b ↔ a < b := by
  rw [Int32.lt_iff_toInt_lt, nI_toInt h1, nI_toInt h2]; omega
theorem cI_le {a b : Nat} (h1 : a < 2 ^ 31) (h2 : b < 2 ^ 31) : nI a ≤ nI b ↔ a ≤ b := by
  rw [Int32.le_iff_toInt_le, nI_toInt h1, nI_toInt h2]; omega
theorem cI_eq {a b : Nat} (h1 : a < 2 ^ 31) (h2 : b < 2 ^ 31) : nI a = nI b ↔ a = b := by
  rw [← Int32.toInt_inj, nI_toInt h1, nI_toInt h2]; omega
theorem cI_eq0 {a : Nat} (h1 : a < 2 ^ 31) : nI a = 0 ↔ a = 0 := by
  rw [← Int32.toInt_inj, nI_toInt h1, Int32.toInt_zero]; omega
theorem cI_lt0 {a : Nat} (h1 : a < 2 ^ 31) : nI a < 0 ↔ False := by
  rw [Int32.lt_iff_toInt_lt, nI_toInt h1, Int32.toInt_zero]; exact ⟨fun h => by omega, fun h => h.elim⟩
theorem cI_ge0 {a : Nat} (h1 : a < 2 ^ 31) : 0 ≤ nI a ↔ True := by
  rw [Int32.le_iff_toInt_le, nI_toInt h1, Int32.toInt_zero]; exact ⟨fun _ => trivial, fun _ => by omega⟩
theorem cI_gt0 {a : Nat} (h1 : a < 2 ^ 31) : 0 < nI a ↔ 0 < a := by
  rw [Int32.lt_iff_toInt_lt, nI_toInt h1, Int32.toInt_zero]; omega
theorem cI_le0 {a : Nat} (h1 : a < 2 ^ 31) : nI a ≤ 0 ↔ a = 0 := by
  rw [Int32.le_iff_toInt_le, nI_toInt h1, Int32.toInt_zero]; omega
/-- an Int32 that is not below 0 -/
theorem mI_of {x : Int32} (h : 0 ≤ x) : ∃ n : Nat, x = nI n ∧ n < 2 ^ 31 := by
  rw [Int32.le_iff_toInt_le, Int32.toInt_zero] at h
  have h2 := Int32.toInt_lt x
  refine ⟨x.toInt.toNat, ?_, by omega⟩
  apply Int32.toInt_inj.mp
  rw [nI_toInt (by omega)]
  omega
end
