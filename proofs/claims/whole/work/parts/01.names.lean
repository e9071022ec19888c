-- ===== PART A: goes FIRST, ahead of the names: the tables' words, and 'selects' of the private methods out of them =====
/-- a private method of a class that the tables say can be made, by its rows of tables_1 -/
def lw_okq (q : MethodName × Nat) : Prop := (q.1.cls ≠ "java/lang/invoke/MethodHandle" ∧ q.1.cls ≠ "java/lang/invoke/VarHandle") ∧ Cond.instantiable q.1.cls q.2 ∈ tables_1 ∧ Cond.privateMethod q.1 ∈ tables_1 ∧ Cond.instanceMethod q.1 ∈ tables_1
theorem lw_p0 : lw_okq (⟨"DeadAir$Voice", "aboveHer", "()I"⟩, 7) := ⟨⟨by decide +kernel, by decide +kernel⟩, List.mem_of_getElem? (i := 123) (by decide +kernel), List.mem_of_getElem? (i := 394) (by decide +kernel), List.mem_of_getElem? (i := 395) (by decide +kernel)⟩
theorem lw_p1 : lw_okq (⟨"DeadAir$Studio", "drawBelow", "(I)I"⟩, 19) := ⟨⟨by decide +kernel, by decide +kernel⟩, List.mem_of_getElem? (i := 116) (by decide +kernel), List.mem_of_getElem? (i := 439) (by decide +kernel), List.mem_of_getElem? (i := 440) (by decide +kernel)⟩
theorem lw_p2 : lw_okq (⟨"DeadAir$Studio", "whoIsReady", "()I"⟩, 19) := ⟨⟨by decide +kernel, by decide +kernel⟩, List.mem_of_getElem? (i := 116) (by decide +kernel), List.mem_of_getElem? (i := 469) (by decide +kernel), List.mem_of_getElem? (i := 470) (by decide +kernel)⟩
theorem lw_p3 : lw_okq (⟨"DeadAir$Studio", "bearSilence", "()V"⟩, 19) := ⟨⟨by decide +kernel, by decide +kernel⟩, List.mem_of_getElem? (i := 116) (by decide +kernel), List.mem_of_getElem? (i := 478) (by decide +kernel), List.mem_of_getElem? (i := 479) (by decide +kernel)⟩
theorem lw_p4 : lw_okq (⟨"DeadAir$Studio", "turningOff", "()I"⟩, 19) := ⟨⟨by decide +kernel, by decide +kernel⟩, List.mem_of_getElem? (i := 116) (by decide +kernel), List.mem_of_getElem? (i := 482) (by decide +kernel), List.mem_of_getElem? (i := 483) (by decide +kernel)⟩
theorem lw_p5 : lw_okq (⟨"DeadAir$Studio", "answerSilence", "(I)V"⟩, 19) := ⟨⟨by decide +kernel, by decide +kernel⟩, List.mem_of_getElem? (i := 116) (by decide +kernel), List.mem_of_getElem? (i := 494) (by decide +kernel), List.mem_of_getElem? (i := 495) (by decide +kernel)⟩
theorem lw_p6 : lw_okq (⟨"DeadAir$Studio", "cross", "(I)V"⟩, 19) := ⟨⟨by decide +kernel, by decide +kernel⟩, List.mem_of_getElem? (i := 116) (by decide +kernel), List.mem_of_getElem? (i := 504) (by decide +kernel), List.mem_of_getElem? (i := 505) (by decide +kernel)⟩
theorem lw_p7 : lw_okq (⟨"DeadAir$Studio", "begin", "(LDeadAir$Voice;)V"⟩, 19) := ⟨⟨by decide +kernel, by decide +kernel⟩, List.mem_of_getElem? (i := 116) (by decide +kernel), List.mem_of_getElem? (i := 509) (by decide +kernel), List.mem_of_getElem? (i := 510) (by decide +kernel)⟩
theorem lw_p8 : lw_okq (⟨"DeadAir$Studio", "beginAlone", "(I)V"⟩, 19) := ⟨⟨by decide +kernel, by decide +kernel⟩, List.mem_of_getElem? (i := 116) (by decide +kernel), List.mem_of_getElem? (i := 514) (by decide +kernel), List.mem_of_getElem? (i := 515) (by decide +kernel)⟩
theorem lw_p9 : lw_okq (⟨"DeadAir", "differences", "(ILDeadAir$Sheet;)I"⟩, 11) := ⟨⟨by decide +kernel, by decide +kernel⟩, List.mem_of_getElem? (i := 20) (by decide +kernel), List.mem_of_getElem? (i := 600) (by decide +kernel), List.mem_of_getElem? (i := 601) (by decide +kernel)⟩
theorem lw_p10 : lw_okq (⟨"DeadAir$Reader", "start", "()V"⟩, 12) := ⟨⟨by decide +kernel, by decide +kernel⟩, List.mem_of_getElem? (i := 69) (by decide +kernel), List.mem_of_getElem? (i := 645) (by decide +kernel), List.mem_of_getElem? (i := 646) (by decide +kernel)⟩
theorem lw_p11 : lw_okq (⟨"DeadAir$Reader", "step", "()V"⟩, 12) := ⟨⟨by decide +kernel, by decide +kernel⟩, List.mem_of_getElem? (i := 69) (by decide +kernel), List.mem_of_getElem? (i := 653) (by decide +kernel), List.mem_of_getElem? (i := 654) (by decide +kernel)⟩
theorem lw_p12 : lw_okq (⟨"DeadAir$Reader", "goesOn", "()Z"⟩, 12) := ⟨⟨by decide +kernel, by decide +kernel⟩, List.mem_of_getElem? (i := 69) (by decide +kernel), List.mem_of_getElem? (i := 664) (by decide +kernel), List.mem_of_getElem? (i := 665) (by decide +kernel)⟩
theorem lw_p13 : lw_okq (⟨"DeadAir$Reader", "keyHere", "()I"⟩, 12) := ⟨⟨by decide +kernel, by decide +kernel⟩, List.mem_of_getElem? (i := 69) (by decide +kernel), List.mem_of_getElem? (i := 668) (by decide +kernel), List.mem_of_getElem? (i := 669) (by decide +kernel)⟩
theorem lw_p14 : lw_okq (⟨"DeadAir$Reader", "isHere", "(Ljava/lang/String;)Z"⟩, 12) := ⟨⟨by decide +kernel, by decide +kernel⟩, List.mem_of_getElem? (i := 69) (by decide +kernel), List.mem_of_getElem? (i := 673) (by decide +kernel), List.mem_of_getElem? (i := 674) (by decide +kernel)⟩
theorem lw_p15 : lw_okq (⟨"DeadAir$Reader", "takesPiece", "()Z"⟩, 12) := ⟨⟨by decide +kernel, by decide +kernel⟩, List.mem_of_getElem? (i := 69) (by decide +kernel), List.mem_of_getElem? (i := 727) (by decide +kernel), List.mem_of_getElem? (i := 728) (by decide +kernel)⟩
def lw_privs_1 : List (MethodName × Nat) := [(⟨"DeadAir$Voice", "aboveHer", "()I"⟩, 7), (⟨"DeadAir$Studio", "drawBelow", "(I)I"⟩, 19), (⟨"DeadAir$Studio", "whoIsReady", "()I"⟩, 19), (⟨"DeadAir$Studio", "bearSilence", "()V"⟩, 19), (⟨"DeadAir$Studio", "turningOff", "()I"⟩, 19), (⟨"DeadAir$Studio", "answerSilence", "(I)V"⟩, 19), (⟨"DeadAir$Studio", "cross", "(I)V"⟩, 19), (⟨"DeadAir$Studio", "begin", "(LDeadAir$Voice;)V"⟩, 19), (⟨"DeadAir$Studio", "beginAlone", "(I)V"⟩, 19), (⟨"DeadAir", "differences", "(ILDeadAir$Sheet;)I"⟩, 11), (⟨"DeadAir$Reader", "start", "()V"⟩, 12), (⟨"DeadAir$Reader", "step", "()V"⟩, 12), (⟨"DeadAir$Reader", "goesOn", "()Z"⟩, 12), (⟨"DeadAir$Reader", "keyHere", "()I"⟩, 12), (⟨"DeadAir$Reader", "isHere", "(Ljava/lang/String;)Z"⟩, 12), (⟨"DeadAir$Reader", "takesPiece", "()Z"⟩, 12)]
theorem lw_r1 : ∀ q ∈ lw_privs_1, lw_okq q := List.forall_mem_cons.mpr ⟨lw_p0, List.forall_mem_cons.mpr ⟨lw_p1, List.forall_mem_cons.mpr ⟨lw_p2, List.forall_mem_cons.mpr ⟨lw_p3, List.forall_mem_cons.mpr ⟨lw_p4, List.forall_mem_cons.mpr ⟨lw_p5, List.forall_mem_cons.mpr ⟨lw_p6, List.forall_mem_cons.mpr ⟨lw_p7, List.forall_mem_cons.mpr ⟨lw_p8, List.forall_mem_cons.mpr ⟨lw_p9, List.forall_mem_cons.mpr ⟨lw_p10, List.forall_mem_cons.mpr ⟨lw_p11, List.forall_mem_cons.mpr ⟨lw_p12, List.forall_mem_cons.mpr ⟨lw_p13, List.forall_mem_cons.mpr ⟨lw_p14, List.forall_mem_cons.mpr ⟨lw_p15, fun _ h => absurd h List.not_mem_nil⟩⟩⟩⟩⟩⟩⟩⟩⟩⟩⟩⟩⟩⟩⟩⟩
theorem lw_p16 : lw_okq (⟨"DeadAir$Reader", "takesNumber", "()Z"⟩, 12) := ⟨⟨by decide +kernel, by decide +kernel⟩, List.mem_of_getElem? (i := 69) (by decide +kernel), List.mem_of_getElem? (i := 731) (by decide +kernel), List.mem_of_getElem? (i := 732) (by decide +kernel)⟩
theorem lw_p17 : lw_okq (⟨"DeadAir$Reader", "takesAtom", "(I)V"⟩, 12) := ⟨⟨by decide +kernel, by decide +kernel⟩, List.mem_of_getElem? (i := 69) (by decide +kernel), List.mem_of_getElem? (i := 735) (by decide +kernel), List.mem_of_getElem? (i := 736) (by decide +kernel)⟩
theorem lw_p18 : lw_okq (⟨"DeadAir$Reader", "takesName", "(C)Z"⟩, 12) := ⟨⟨by decide +kernel, by decide +kernel⟩, List.mem_of_getElem? (i := 69) (by decide +kernel), List.mem_of_getElem? (i := 743) (by decide +kernel), List.mem_of_getElem? (i := 744) (by decide +kernel)⟩
theorem lw_p19 : lw_okq (⟨"DeadAir$Reader", "hold", "(I)V"⟩, 12) := ⟨⟨by decide +kernel, by decide +kernel⟩, List.mem_of_getElem? (i := 69) (by decide +kernel), List.mem_of_getElem? (i := 805) (by decide +kernel), List.mem_of_getElem? (i := 806) (by decide +kernel)⟩
theorem lw_p20 : lw_okq (⟨"DeadAir$Reader", "takesSign", "()Z"⟩, 12) := ⟨⟨by decide +kernel, by decide +kernel⟩, List.mem_of_getElem? (i := 69) (by decide +kernel), List.mem_of_getElem? (i := 809) (by decide +kernel), List.mem_of_getElem? (i := 810) (by decide +kernel)⟩
theorem lw_p21 : lw_okq (⟨"DeadAir$Reader", "closes", "()Z"⟩, 12) := ⟨⟨by decide +kernel, by decide +kernel⟩, List.mem_of_getElem? (i := 69) (by decide +kernel), List.mem_of_getElem? (i := 813) (by decide +kernel), List.mem_of_getElem? (i := 814) (by decide +kernel)⟩
theorem lw_p22 : lw_okq (⟨"DeadAir$Reader", "release", "(I)V"⟩, 12) := ⟨⟨by decide +kernel, by decide +kernel⟩, List.mem_of_getElem? (i := 69) (by decide +kernel), List.mem_of_getElem? (i := 817) (by decide +kernel), List.mem_of_getElem? (i := 818) (by decide +kernel)⟩
theorem lw_p23 : lw_okq (⟨"DeadAir$Reader", "topRank", "()I"⟩, 12) := ⟨⟨by decide +kernel, by decide +kernel⟩, List.mem_of_getElem? (i := 69) (by decide +kernel), List.mem_of_getElem? (i := 821) (by decide +kernel), List.mem_of_getElem? (i := 822) (by decide +kernel)⟩
theorem lw_p24 : lw_okq (⟨"DeadAir", "isWaiting", "(III)Z"⟩, 11) := ⟨⟨by decide +kernel, by decide +kernel⟩, List.mem_of_getElem? (i := 20) (by decide +kernel), List.mem_of_getElem? (i := 923) (by decide +kernel), List.mem_of_getElem? (i := 924) (by decide +kernel)⟩
theorem lw_p25 : lw_okq (⟨"DeadAirModel", "comes", "(III)I"⟩, 35) := ⟨⟨by decide +kernel, by decide +kernel⟩, List.mem_of_getElem? (i := 939) (by decide +kernel), List.mem_of_getElem? (i := 1066) (by decide +kernel), List.mem_of_getElem? (i := 1067) (by decide +kernel)⟩
theorem lw_p26 : lw_okq (⟨"DeadAirModel", "put", "(III)V"⟩, 35) := ⟨⟨by decide +kernel, by decide +kernel⟩, List.mem_of_getElem? (i := 939) (by decide +kernel), List.mem_of_getElem? (i := 1070) (by decide +kernel), List.mem_of_getElem? (i := 1071) (by decide +kernel)⟩
theorem lw_p27 : lw_okq (⟨"DeadAirModel", "isVoice", "(I)Z"⟩, 35) := ⟨⟨by decide +kernel, by decide +kernel⟩, List.mem_of_getElem? (i := 939) (by decide +kernel), List.mem_of_getElem? (i := 1078) (by decide +kernel), List.mem_of_getElem? (i := 1079) (by decide +kernel)⟩
theorem lw_p28 : lw_okq (⟨"DeadAirModel", "of", "(II)I"⟩, 35) := ⟨⟨by decide +kernel, by decide +kernel⟩, List.mem_of_getElem? (i := 939) (by decide +kernel), List.mem_of_getElem? (i := 1082) (by decide +kernel), List.mem_of_getElem? (i := 1083) (by decide +kernel)⟩
theorem lw_p29 : lw_okq (⟨"DeadAirModel", "waitsOf", "(I)I"⟩, 35) := ⟨⟨by decide +kernel, by decide +kernel⟩, List.mem_of_getElem? (i := 939) (by decide +kernel), List.mem_of_getElem? (i := 1086) (by decide +kernel), List.mem_of_getElem? (i := 1087) (by decide +kernel)⟩
theorem lw_p30 : lw_okq (⟨"DeadAirModel", "talksOf", "(I)I"⟩, 35) := ⟨⟨by decide +kernel, by decide +kernel⟩, List.mem_of_getElem? (i := 939) (by decide +kernel), List.mem_of_getElem? (i := 1090) (by decide +kernel), List.mem_of_getElem? (i := 1091) (by decide +kernel)⟩
theorem lw_p31 : lw_okq (⟨"DeadAirModel", "doesYield", "(I)Z"⟩, 35) := ⟨⟨by decide +kernel, by decide +kernel⟩, List.mem_of_getElem? (i := 939) (by decide +kernel), List.mem_of_getElem? (i := 1094) (by decide +kernel), List.mem_of_getElem? (i := 1095) (by decide +kernel)⟩
def lw_privs_2 : List (MethodName × Nat) := [(⟨"DeadAir$Reader", "takesNumber", "()Z"⟩, 12), (⟨"DeadAir$Reader", "takesAtom", "(I)V"⟩, 12), (⟨"DeadAir$Reader", "takesName", "(C)Z"⟩, 12), (⟨"DeadAir$Reader", "hold", "(I)V"⟩, 12), (⟨"DeadAir$Reader", "takesSign", "()Z"⟩, 12), (⟨"DeadAir$Reader", "closes", "()Z"⟩, 12), (⟨"DeadAir$Reader", "release", "(I)V"⟩, 12), (⟨"DeadAir$Reader", "topRank", "()I"⟩, 12), (⟨"DeadAir", "isWaiting", "(III)Z"⟩, 11), (⟨"DeadAirModel", "comes", "(III)I"⟩, 35), (⟨"DeadAirModel", "put", "(III)V"⟩, 35), (⟨"DeadAirModel", "isVoice", "(I)Z"⟩, 35), (⟨"DeadAirModel", "of", "(II)I"⟩, 35), (⟨"DeadAirModel", "waitsOf", "(I)I"⟩, 35), (⟨"DeadAirModel", "talksOf", "(I)I"⟩, 35), (⟨"DeadAirModel", "doesYield", "(I)Z"⟩, 35)]
theorem lw_r2 : ∀ q ∈ lw_privs_2, lw_okq q := List.forall_mem_cons.mpr ⟨lw_p16, List.forall_mem_cons.mpr ⟨lw_p17, List.forall_mem_cons.mpr ⟨lw_p18, List.forall_mem_cons.mpr ⟨lw_p19, List.forall_mem_cons.mpr ⟨lw_p20, List.forall_mem_cons.mpr ⟨lw_p21, List.forall_mem_cons.mpr ⟨lw_p22, List.forall_mem_cons.mpr ⟨lw_p23, List.forall_mem_cons.mpr ⟨lw_p24, List.forall_mem_cons.mpr ⟨lw_p25, List.forall_mem_cons.mpr ⟨lw_p26, List.forall_mem_cons.mpr ⟨lw_p27, List.forall_mem_cons.mpr ⟨lw_p28, List.forall_mem_cons.mpr ⟨lw_p29, List.forall_mem_cons.mpr ⟨lw_p30, List.forall_mem_cons.mpr ⟨lw_p31, fun _ h => absurd h List.not_mem_nil⟩⟩⟩⟩⟩⟩⟩⟩⟩⟩⟩⟩⟩⟩⟩⟩
theorem lw_p32 : lw_okq (⟨"DeadAirModel", "worthOf", "(I)I"⟩, 35) := ⟨⟨by decide +kernel, by decide +kernel⟩, List.mem_of_getElem? (i := 939) (by decide +kernel), List.mem_of_getElem? (i := 1098) (by decide +kernel), List.mem_of_getElem? (i := 1099) (by decide +kernel)⟩
theorem lw_p33 : lw_okq (⟨"DeadAirModel", "swaps", "(II)I"⟩, 35) := ⟨⟨by decide +kernel, by decide +kernel⟩, List.mem_of_getElem? (i := 939) (by decide +kernel), List.mem_of_getElem? (i := 1114) (by decide +kernel), List.mem_of_getElem? (i := 1115) (by decide +kernel)⟩
theorem lw_p34 : lw_okq (⟨"DeadAirModel", "draw", "()I"⟩, 35) := ⟨⟨by decide +kernel, by decide +kernel⟩, List.mem_of_getElem? (i := 939) (by decide +kernel), List.mem_of_getElem? (i := 1138) (by decide +kernel), List.mem_of_getElem? (i := 1139) (by decide +kernel)⟩
theorem lw_p35 : lw_okq (⟨"DeadAirModel", "goesOn", "(I)V"⟩, 35) := ⟨⟨by decide +kernel, by decide +kernel⟩, List.mem_of_getElem? (i := 939) (by decide +kernel), List.mem_of_getElem? (i := 1154) (by decide +kernel), List.mem_of_getElem? (i := 1155) (by decide +kernel)⟩
theorem lw_p36 : lw_okq (⟨"DeadAirModel", "tenth", "()V"⟩, 35) := ⟨⟨by decide +kernel, by decide +kernel⟩, List.mem_of_getElem? (i := 939) (by decide +kernel), List.mem_of_getElem? (i := 1158) (by decide +kernel), List.mem_of_getElem? (i := 1159) (by decide +kernel)⟩
theorem lw_p37 : lw_okq (⟨"DeadAirModel", "speaking", "()I"⟩, 35) := ⟨⟨by decide +kernel, by decide +kernel⟩, List.mem_of_getElem? (i := 939) (by decide +kernel), List.mem_of_getElem? (i := 1162) (by decide +kernel), List.mem_of_getElem? (i := 1163) (by decide +kernel)⟩
theorem lw_p38 : lw_okq (⟨"DeadAirModel", "ready", "()I"⟩, 35) := ⟨⟨by decide +kernel, by decide +kernel⟩, List.mem_of_getElem? (i := 939) (by decide +kernel), List.mem_of_getElem? (i := 1166) (by decide +kernel), List.mem_of_getElem? (i := 1167) (by decide +kernel)⟩
theorem lw_p39 : lw_okq (⟨"DeadAirModel", "crosses", "(I)V"⟩, 35) := ⟨⟨by decide +kernel, by decide +kernel⟩, List.mem_of_getElem? (i := 939) (by decide +kernel), List.mem_of_getElem? (i := 1170) (by decide +kernel), List.mem_of_getElem? (i := 1171) (by decide +kernel)⟩
theorem lw_p40 : lw_okq (⟨"DeadAirModel", "begins", "(I)V"⟩, 35) := ⟨⟨by decide +kernel, by decide +kernel⟩, List.mem_of_getElem? (i := 939) (by decide +kernel), List.mem_of_getElem? (i := 1174) (by decide +kernel), List.mem_of_getElem? (i := 1175) (by decide +kernel)⟩
theorem lw_p41 : lw_okq (⟨"DeadAirModel", "turnsTo", "(I)V"⟩, 35) := ⟨⟨by decide +kernel, by decide +kernel⟩, List.mem_of_getElem? (i := 939) (by decide +kernel), List.mem_of_getElem? (i := 1178) (by decide +kernel), List.mem_of_getElem? (i := 1179) (by decide +kernel)⟩
theorem lw_p42 : lw_okq (⟨"DeadAirModel", "hearsNothing", "()V"⟩, 35) := ⟨⟨by decide +kernel, by decide +kernel⟩, List.mem_of_getElem? (i := 939) (by decide +kernel), List.mem_of_getElem? (i := 1182) (by decide +kernel), List.mem_of_getElem? (i := 1183) (by decide +kernel)⟩
theorem lw_p43 : lw_okq (⟨"DeadAirModel", "offGives", "()I"⟩, 35) := ⟨⟨by decide +kernel, by decide +kernel⟩, List.mem_of_getElem? (i := 939) (by decide +kernel), List.mem_of_getElem? (i := 1186) (by decide +kernel), List.mem_of_getElem? (i := 1187) (by decide +kernel)⟩
theorem lw_p44 : lw_okq (⟨"DeadAirModel", "counts", "(I)I"⟩, 35) := ⟨⟨by decide +kernel, by decide +kernel⟩, List.mem_of_getElem? (i := 939) (by decide +kernel), List.mem_of_getElem? (i := 1190) (by decide +kernel), List.mem_of_getElem? (i := 1191) (by decide +kernel)⟩
theorem lw_p45 : lw_okq (⟨"DeadAirModel", "worksOut", "(I)I"⟩, 35) := ⟨⟨by decide +kernel, by decide +kernel⟩, List.mem_of_getElem? (i := 939) (by decide +kernel), List.mem_of_getElem? (i := 1194) (by decide +kernel), List.mem_of_getElem? (i := 1195) (by decide +kernel)⟩
theorem lw_p46 : lw_okq (⟨"DeadAirModel", "thinks", "()V"⟩, 35) := ⟨⟨by decide +kernel, by decide +kernel⟩, List.mem_of_getElem? (i := 939) (by decide +kernel), List.mem_of_getElem? (i := 1209) (by decide +kernel), List.mem_of_getElem? (i := 1210) (by decide +kernel)⟩
theorem lw_p47 : lw_okq (⟨"DeadAirModel", "putsBack", "()V"⟩, 35) := ⟨⟨by decide +kernel, by decide +kernel⟩, List.mem_of_getElem? (i := 939) (by decide +kernel), List.mem_of_getElem? (i := 1213) (by decide +kernel), List.mem_of_getElem? (i := 1214) (by decide +kernel)⟩
def lw_privs_3 : List (MethodName × Nat) := [(⟨"DeadAirModel", "worthOf", "(I)I"⟩, 35), (⟨"DeadAirModel", "swaps", "(II)I"⟩, 35), (⟨"DeadAirModel", "draw", "()I"⟩, 35), (⟨"DeadAirModel", "goesOn", "(I)V"⟩, 35), (⟨"DeadAirModel", "tenth", "()V"⟩, 35), (⟨"DeadAirModel", "speaking", "()I"⟩, 35), (⟨"DeadAirModel", "ready", "()I"⟩, 35), (⟨"DeadAirModel", "crosses", "(I)V"⟩, 35), (⟨"DeadAirModel", "begins", "(I)V"⟩, 35), (⟨"DeadAirModel", "turnsTo", "(I)V"⟩, 35), (⟨"DeadAirModel", "hearsNothing", "()V"⟩, 35), (⟨"DeadAirModel", "offGives", "()I"⟩, 35), (⟨"DeadAirModel", "counts", "(I)I"⟩, 35), (⟨"DeadAirModel", "worksOut", "(I)I"⟩, 35), (⟨"DeadAirModel", "thinks", "()V"⟩, 35), (⟨"DeadAirModel", "putsBack", "()V"⟩, 35)]
theorem lw_r3 : ∀ q ∈ lw_privs_3, lw_okq q := List.forall_mem_cons.mpr ⟨lw_p32, List.forall_mem_cons.mpr ⟨lw_p33, List.forall_mem_cons.mpr ⟨lw_p34, List.forall_mem_cons.mpr ⟨lw_p35, List.forall_mem_cons.mpr ⟨lw_p36, List.forall_mem_cons.mpr ⟨lw_p37, List.forall_mem_cons.mpr ⟨lw_p38, List.forall_mem_cons.mpr ⟨lw_p39, List.forall_mem_cons.mpr ⟨lw_p40, List.forall_mem_cons.mpr ⟨lw_p41, List.forall_mem_cons.mpr ⟨lw_p42, List.forall_mem_cons.mpr ⟨lw_p43, List.forall_mem_cons.mpr ⟨lw_p44, List.forall_mem_cons.mpr ⟨lw_p45, List.forall_mem_cons.mpr ⟨lw_p46, List.forall_mem_cons.mpr ⟨lw_p47, fun _ h => absurd h List.not_mem_nil⟩⟩⟩⟩⟩⟩⟩⟩⟩⟩⟩⟩⟩⟩⟩⟩
theorem lw_p48 : lw_okq (⟨"DeadAirModel", "hasBegun", "()I"⟩, 35) := ⟨⟨by decide +kernel, by decide +kernel⟩, List.mem_of_getElem? (i := 939) (by decide +kernel), List.mem_of_getElem? (i := 1221) (by decide +kernel), List.mem_of_getElem? (i := 1222) (by decide +kernel)⟩
theorem lw_p49 : lw_okq (⟨"DeadAirModel", "mostBy", "(IIIIII)I"⟩, 35) := ⟨⟨by decide +kernel, by decide +kernel⟩, List.mem_of_getElem? (i := 939) (by decide +kernel), List.mem_of_getElem? (i := 1237) (by decide +kernel), List.mem_of_getElem? (i := 1238) (by decide +kernel)⟩
theorem lw_p50 : lw_okq (⟨"DeadAirModel", "go", "()V"⟩, 35) := ⟨⟨by decide +kernel, by decide +kernel⟩, List.mem_of_getElem? (i := 939) (by decide +kernel), List.mem_of_getElem? (i := 1285) (by decide +kernel), List.mem_of_getElem? (i := 1286) (by decide +kernel)⟩
theorem lw_p51 : lw_okq (⟨"DeadAirModel", "isLetter", "(I)Z"⟩, 35) := ⟨⟨by decide +kernel, by decide +kernel⟩, List.mem_of_getElem? (i := 939) (by decide +kernel), List.mem_of_getElem? (i := 1289) (by decide +kernel), List.mem_of_getElem? (i := 1290) (by decide +kernel)⟩
theorem lw_p52 : lw_okq (⟨"DeadAirModel", "isFigure", "(I)Z"⟩, 35) := ⟨⟨by decide +kernel, by decide +kernel⟩, List.mem_of_getElem? (i := 939) (by decide +kernel), List.mem_of_getElem? (i := 1293) (by decide +kernel), List.mem_of_getElem? (i := 1294) (by decide +kernel)⟩
theorem lw_p53 : lw_okq (⟨"DeadAirModel", "takesKey", "()Z"⟩, 35) := ⟨⟨by decide +kernel, by decide +kernel⟩, List.mem_of_getElem? (i := 939) (by decide +kernel), List.mem_of_getElem? (i := 1297) (by decide +kernel), List.mem_of_getElem? (i := 1298) (by decide +kernel)⟩
theorem lw_p54 : lw_okq (⟨"DeadAirModel", "takesE", "()Z"⟩, 35) := ⟨⟨by decide +kernel, by decide +kernel⟩, List.mem_of_getElem? (i := 939) (by decide +kernel), List.mem_of_getElem? (i := 1301) (by decide +kernel), List.mem_of_getElem? (i := 1302) (by decide +kernel)⟩
theorem lw_p55 : lw_okq (⟨"DeadAirModel", "takesPart", "()Z"⟩, 35) := ⟨⟨by decide +kernel, by decide +kernel⟩, List.mem_of_getElem? (i := 939) (by decide +kernel), List.mem_of_getElem? (i := 1305) (by decide +kernel), List.mem_of_getElem? (i := 1306) (by decide +kernel)⟩
theorem lw_p56 : lw_okq (⟨"DeadAirModel", "nameOf", "(I)I"⟩, 35) := ⟨⟨by decide +kernel, by decide +kernel⟩, List.mem_of_getElem? (i := 939) (by decide +kernel), List.mem_of_getElem? (i := 1309) (by decide +kernel), List.mem_of_getElem? (i := 1310) (by decide +kernel)⟩
theorem lw_p57 : lw_okq (⟨"DeadAirModel", "settle", "(I)V"⟩, 35) := ⟨⟨by decide +kernel, by decide +kernel⟩, List.mem_of_getElem? (i := 939) (by decide +kernel), List.mem_of_getElem? (i := 1313) (by decide +kernel), List.mem_of_getElem? (i := 1314) (by decide +kernel)⟩
theorem lw_p58 : lw_okq (⟨"DeadAirModel", "notsOpen", "()I"⟩, 35) := ⟨⟨by decide +kernel, by decide +kernel⟩, List.mem_of_getElem? (i := 939) (by decide +kernel), List.mem_of_getElem? (i := 1320) (by decide +kernel), List.mem_of_getElem? (i := 1321) (by decide +kernel)⟩
theorem lw_p59 : lw_okq (⟨"DeadAirModel", "signHere", "()I"⟩, 35) := ⟨⟨by decide +kernel, by decide +kernel⟩, List.mem_of_getElem? (i := 939) (by decide +kernel), List.mem_of_getElem? (i := 1324) (by decide +kernel), List.mem_of_getElem? (i := 1325) (by decide +kernel)⟩
def lw_privs_4 : List (MethodName × Nat) := [(⟨"DeadAirModel", "hasBegun", "()I"⟩, 35), (⟨"DeadAirModel", "mostBy", "(IIIIII)I"⟩, 35), (⟨"DeadAirModel", "go", "()V"⟩, 35), (⟨"DeadAirModel", "isLetter", "(I)Z"⟩, 35), (⟨"DeadAirModel", "isFigure", "(I)Z"⟩, 35), (⟨"DeadAirModel", "takesKey", "()Z"⟩, 35), (⟨"DeadAirModel", "takesE", "()Z"⟩, 35), (⟨"DeadAirModel", "takesPart", "()Z"⟩, 35), (⟨"DeadAirModel", "nameOf", "(I)I"⟩, 35), (⟨"DeadAirModel", "settle", "(I)V"⟩, 35), (⟨"DeadAirModel", "notsOpen", "()I"⟩, 35), (⟨"DeadAirModel", "signHere", "()I"⟩, 35)]
theorem lw_r4 : ∀ q ∈ lw_privs_4, lw_okq q := List.forall_mem_cons.mpr ⟨lw_p48, List.forall_mem_cons.mpr ⟨lw_p49, List.forall_mem_cons.mpr ⟨lw_p50, List.forall_mem_cons.mpr ⟨lw_p51, List.forall_mem_cons.mpr ⟨lw_p52, List.forall_mem_cons.mpr ⟨lw_p53, List.forall_mem_cons.mpr ⟨lw_p54, List.forall_mem_cons.mpr ⟨lw_p55, List.forall_mem_cons.mpr ⟨lw_p56, List.forall_mem_cons.mpr ⟨lw_p57, List.forall_mem_cons.mpr ⟨lw_p58, List.forall_mem_cons.mpr ⟨lw_p59, fun _ h => absurd h List.not_mem_nil⟩⟩⟩⟩⟩⟩⟩⟩⟩⟩⟩⟩
def lw_privs : List (MethodName × Nat) := lw_privs_1 ++ (lw_privs_2 ++ (lw_privs_3 ++ (lw_privs_4)))
def lw_tbl : List Cond := k2_sels lw_privs ++ tables_1
theorem lw_privs_ok : ∀ q ∈ lw_privs, lw_okq q := by
  show ∀ q ∈ lw_privs_1 ++ (lw_privs_2 ++ (lw_privs_3 ++ (lw_privs_4))), lw_okq q
  exact List.forall_mem_append.mpr ⟨lw_r1, List.forall_mem_append.mpr ⟨lw_r2, List.forall_mem_append.mpr ⟨lw_r3, lw_r4⟩⟩⟩
def RX0 : String := "DeadAir$Best"
def TX0 : u_T := fun k => match k with
  | 0 => ("DeadAir$Best", "choice", "I", false)
  | _ => ("DeadAir$Best", "most", "I", false)
def tyX0 : Nat → FieldType := fun k => match k with
  | 0 => .int
  | _ => .int
abbrev wsX00 : List Cond := u_ws RX0 TX0 2
theorem nmX0 : ∀ a, a < 2 → ∀ b, b < 2 → a ≠ b → (TX0 a).2.1 ≠ (TX0 b).2.1 := by decide +kernel
theorem tyX0_ok : ∀ k, k < 2 → parseFieldDescriptor (TX0 k).2.2.1 = some (tyX0 k) := by decide +kernel
abbrev cX0_init : ByteArray := prog_2_method_1_code
def yX0_init : MethodName := ⟨RX0, "<init>", "()V"⟩
abbrev cX0_clear : ByteArray := prog_2_method_2_code
def yX0_clear : MethodName := ⟨RX0, "clear", "()V"⟩
abbrev cX0_weigh : ByteArray := prog_2_method_3_code
def yX0_weigh : MethodName := ⟨RX0, "weigh", "(II)V"⟩
abbrev cX0_answer : ByteArray := prog_2_method_4_code
def yX0_answer : MethodName := ⟨RX0, "answer", "(I)I"⟩
def RX1 : String := "DeadAir$Reader"
def TX1 : u_T := fun k => match k with
  | 0 => ("DeadAir$Reader", "bytes", "[I", true)
  | 1 => ("DeadAir$Reader", "length", "I", false)
  | 2 => ("DeadAir$Reader", "draft", "LDeadAir$Text;", true)
  | 3 => ("DeadAir$Reader", "signs", "[I", true)
  | 4 => ("DeadAir$Reader", "signsMany", "I", false)
  | 5 => ("DeadAir$Reader", "brackets", "I", false)
  | 6 => ("DeadAir$Reader", "nots", "I", false)
  | 7 => ("DeadAir$Reader", "pieceIsDue", "Z", false)
  | 8 => ("DeadAir$Reader", "from", "I", false)
  | 9 => ("DeadAir$Reader", "to", "I", false)
  | 10 => ("DeadAir$Reader", "isWord", "Z", false)
  | _ => ("DeadAir$Reader", "isGlued", "Z", false)
def tyX1 : Nat → FieldType := fun k => match k with
  | 0 => .array .int
  | 1 => .int
  | 2 => .object "DeadAir$Text"
  | 3 => .array .int
  | 4 => .int
  | 5 => .int
  | 6 => .int
  | 7 => .boolean
  | 8 => .int
  | 9 => .int
  | 10 => .boolean
  | _ => .boolean
abbrev wsX10 : List Cond := u_ws RX1 TX1 12
theorem nmX1 : ∀ a, a < 12 → ∀ b, b < 12 → a ≠ b → (TX1 a).2.1 ≠ (TX1 b).2.1 := by decide +kernel
theorem tyX1_ok : ∀ k, k < 12 → parseFieldDescriptor (TX1 k).2.2.1 = some (tyX1 k) := by decide +kernel
abbrev cX1_init : ByteArray := prog_3_method_1_code
def yX1_init : MethodName := ⟨RX1, "<init>", "()V"⟩
abbrev cX1_append : ByteArray := prog_3_method_2_code
def yX1_append : MethodName := ⟨RX1, "append", "(I)V"⟩
abbrev cX1_fault : ByteArray := prog_3_method_3_code
def yX1_fault : MethodName := ⟨RX1, "fault", "()I"⟩
abbrev cX1_start : ByteArray := prog_3_method_4_code
def yX1_start : MethodName := ⟨RX1, "start", "()V"⟩
abbrev cX1_step : ByteArray := prog_3_method_5_code
def yX1_step : MethodName := ⟨RX1, "step", "()V"⟩
abbrev cX1_goesOn : ByteArray := prog_3_method_6_code
def yX1_goesOn : MethodName := ⟨RX1, "goesOn", "()Z"⟩
abbrev cX1_keyHere : ByteArray := prog_3_method_7_code
def yX1_keyHere : MethodName := ⟨RX1, "keyHere", "()I"⟩
abbrev cX1_isHere : ByteArray := prog_3_method_8_code
def yX1_isHere : MethodName := ⟨RX1, "isHere", "(Ljava/lang/String;)Z"⟩
abbrev cX1_takesPiece : ByteArray := prog_3_method_9_code
def yX1_takesPiece : MethodName := ⟨RX1, "takesPiece", "()Z"⟩
abbrev cX1_takesNumber : ByteArray := prog_3_method_10_code
def yX1_takesNumber : MethodName := ⟨RX1, "takesNumber", "()Z"⟩
abbrev cX1_takesName : ByteArray := prog_3_method_11_code
def yX1_takesName : MethodName := ⟨RX1, "takesName", "(C)Z"⟩
abbrev cX1_takesAtom : ByteArray := prog_3_method_12_code
def yX1_takesAtom : MethodName := ⟨RX1, "takesAtom", "(I)V"⟩
abbrev cX1_takesSign : ByteArray := prog_3_method_13_code
def yX1_takesSign : MethodName := ⟨RX1, "takesSign", "()Z"⟩
abbrev cX1_closes : ByteArray := prog_3_method_14_code
def yX1_closes : MethodName := ⟨RX1, "closes", "()Z"⟩
abbrev cX1_hold : ByteArray := prog_3_method_15_code
def yX1_hold : MethodName := ⟨RX1, "hold", "(I)V"⟩
abbrev cX1_release : ByteArray := prog_3_method_16_code
def yX1_release : MethodName := ⟨RX1, "release", "(I)V"⟩
abbrev cX1_topRank : ByteArray := prog_3_method_17_code
def yX1_topRank : MethodName := ⟨RX1, "topRank", "()I"⟩
abbrev cX1_rank : ByteArray := prog_3_method_18_code
def yX1_rank : MethodName := ⟨RX1, "rank", "(I)I"⟩
abbrev cX1_isLetter : ByteArray := prog_3_method_19_code
def yX1_isLetter : MethodName := ⟨RX1, "isLetter", "(I)Z"⟩
abbrev cX1_isDigit : ByteArray := prog_3_method_20_code
def yX1_isDigit : MethodName := ⟨RX1, "isDigit", "(I)Z"⟩
def RX2 : String := "DeadAir$Sheet"
def TX2 : u_T := fun k => match k with
  | 0 => ("DeadAir$Sheet", "sort", "I", false)
  | 1 => ("DeadAir$Sheet", "size", "I", false)
  | _ => ("DeadAir$Sheet", "places", "[I", true)
def tyX2 : Nat → FieldType := fun k => match k with
  | 0 => .int
  | 1 => .int
  | _ => .array .int
abbrev wsX20 : List Cond := u_ws RX2 TX2 3
theorem nmX2 : ∀ a, a < 3 → ∀ b, b < 3 → a ≠ b → (TX2 a).2.1 ≠ (TX2 b).2.1 := by decide +kernel
theorem tyX2_ok : ∀ k, k < 3 → parseFieldDescriptor (TX2 k).2.2.1 = some (tyX2 k) := by decide +kernel
abbrev cX2_init : ByteArray := prog_4_method_1_code
def yX2_init : MethodName := ⟨RX2, "<init>", "()V"⟩
abbrev cX2_clear : ByteArray := prog_4_method_2_code
def yX2_clear : MethodName := ⟨RX2, "clear", "(II)V"⟩
abbrev cX2_become : ByteArray := prog_4_method_3_code
def yX2_become : MethodName := ⟨RX2, "become", "(LDeadAir$Sheet;)V"⟩
abbrev cX2_isMissing : ByteArray := prog_4_method_4_code
def yX2_isMissing : MethodName := ⟨RX2, "isMissing", "()Z"⟩
abbrev cX2_hasPlace : ByteArray := prog_4_method_5_code
def yX2_hasPlace : MethodName := ⟨RX2, "hasPlace", "(I)Z"⟩
abbrev cX2_hasPlaces : ByteArray := prog_4_method_6_code
def yX2_hasPlaces : MethodName := ⟨RX2, "hasPlaces", "(II)Z"⟩
abbrev cX2_isNumber : ByteArray := prog_4_method_7_code
def yX2_isNumber : MethodName := ⟨RX2, "isNumber", "(I)Z"⟩
def RX3 : String := "DeadAir$Slot"
def TX3 : u_T := fun k => match k with
  | 0 => ("DeadAir$Slot", "thing", "I", false)
  | 1 => ("DeadAir$Slot", "voice", "LDeadAir$Voice;", true)
  | 2 => ("DeadAir$Slot", "row", "LDeadAir$Sheet;", true)
  | _ => ("DeadAir$Slot", "number", "I", false)
def tyX3 : Nat → FieldType := fun k => match k with
  | 0 => .int
  | 1 => .object "DeadAir$Voice"
  | 2 => .object "DeadAir$Sheet"
  | _ => .int
abbrev wsX30 : List Cond := u_ws RX3 TX3 4
theorem nmX3 : ∀ a, a < 4 → ∀ b, b < 4 → a ≠ b → (TX3 a).2.1 ≠ (TX3 b).2.1 := by decide +kernel
theorem tyX3_ok : ∀ k, k < 4 → parseFieldDescriptor (TX3 k).2.2.1 = some (tyX3 k) := by decide +kernel
abbrev cX3_init : ByteArray := prog_5_method_1_code
def yX3_init : MethodName := ⟨RX3, "<init>", "()V"⟩
abbrev cX3_finding : ByteArray := prog_5_method_2_code
def yX3_finding : MethodName := ⟨RX3, "finding", "(I)I"⟩
def RX4 : String := "DeadAir$Studio"
def TX4 : u_T := fun k => match k with
  | 0 => ("DeadAir$Studio", "voices", "[LDeadAir$Voice;", true)
  | 1 => ("DeadAir$Studio", "many", "I", false)
  | 2 => ("DeadAir$Studio", "listeners", "I", false)
  | 3 => ("DeadAir$Studio", "cut", "I", false)
  | 4 => ("DeadAir$Studio", "fill", "I", false)
  | 5 => ("DeadAir$Studio", "silence", "I", false)
  | 6 => ("DeadAir$Studio", "silent", "I", false)
  | 7 => ("DeadAir$Studio", "longestHole", "I", false)
  | 8 => ("DeadAir$Studio", "breaths", "I", false)
  | 9 => ("DeadAir$Studio", "taken", "I", false)
  | 10 => ("DeadAir$Studio", "crossed", "I", false)
  | 11 => ("DeadAir$Studio", "jingles", "I", false)
  | 12 => ("DeadAir$Studio", "cuts", "I", false)
  | 13 => ("DeadAir$Studio", "last", "I", false)
  | 14 => ("DeadAir$Studio", "tenth", "I", false)
  | 15 => ("DeadAir$Studio", "z", "I", false)
  | 16 => ("DeadAir$Studio", "textsMany", "I", false)
  | 17 => ("DeadAir$Studio", "counting", "[I", true)
  | _ => ("DeadAir$Studio", "texts", "LDeadAir$Texts;", true)
def tyX4 : Nat → FieldType := fun k => match k with
  | 0 => .array (.object "DeadAir$Voice")
  | 1 => .int
  | 2 => .int
  | 3 => .int
  | 4 => .int
  | 5 => .int
  | 6 => .int
  | 7 => .int
  | 8 => .int
  | 9 => .int
  | 10 => .int
  | 11 => .int
  | 12 => .int
  | 13 => .int
  | 14 => .int
  | 15 => .int
  | 16 => .int
  | 17 => .array .int
  | _ => .object "DeadAir$Texts"
abbrev wsX40 : List Cond := u_ws RX4 TX4 19
theorem nmX4 : ∀ a, a < 19 → ∀ b, b < 19 → a ≠ b → (TX4 a).2.1 ≠ (TX4 b).2.1 := by decide +kernel
theorem tyX4_ok : ∀ k, k < 19 → parseFieldDescriptor (TX4 k).2.2.1 = some (tyX4 k) := by decide +kernel
abbrev cX4_init : ByteArray := prog_6_method_1_code
def yX4_init : MethodName := ⟨RX4, "<init>", "(LDeadAir$Texts;)V"⟩
abbrev cX4_become : ByteArray := prog_6_method_2_code
def yX4_become : MethodName := ⟨RX4, "become", "(LDeadAir$Studio;)V"⟩
abbrev cX4_has : ByteArray := prog_6_method_3_code
def yX4_has : MethodName := ⟨RX4, "has", "(I)Z"⟩
abbrev cX4_hasRoom : ByteArray := prog_6_method_4_code
def yX4_hasRoom : MethodName := ⟨RX4, "hasRoom", "()Z"⟩
abbrev cX4_seat : ByteArray := prog_6_method_5_code
def yX4_seat : MethodName := ⟨RX4, "seat", "(III)I"⟩
abbrev cX4_seatDrawn : ByteArray := prog_6_method_6_code
def yX4_seatDrawn : MethodName := ⟨RX4, "seatDrawn", "()V"⟩
abbrev cX4_addText : ByteArray := prog_6_method_7_code
def yX4_addText : MethodName := ⟨RX4, "addText", "(I)V"⟩
abbrev cX4_allows : ByteArray := prog_6_method_8_code
def yX4_allows : MethodName := ⟨RX4, "allows", "(II)Z"⟩
abbrev cX4_put : ByteArray := prog_6_method_9_code
def yX4_put : MethodName := ⟨RX4, "put", "(II)I"⟩
abbrev cX4_speakers : ByteArray := prog_6_method_10_code
def yX4_speakers : MethodName := ⟨RX4, "speakers", "()I"⟩
abbrev cX4_drawBelow : ByteArray := prog_6_method_11_code
def yX4_drawBelow : MethodName := ⟨RX4, "drawBelow", "(I)I"⟩
abbrev cX4_run : ByteArray := prog_6_method_12_code
def yX4_run : MethodName := ⟨RX4, "run", "(I)V"⟩
abbrev cX4_hear : ByteArray := prog_6_method_13_code
def yX4_hear : MethodName := ⟨RX4, "hear", "()V"⟩
abbrev cX4_goOn : ByteArray := prog_6_method_14_code
def yX4_goOn : MethodName := ⟨RX4, "goOn", "()V"⟩
abbrev cX4_whoIsReady : ByteArray := prog_6_method_15_code
def yX4_whoIsReady : MethodName := ⟨RX4, "whoIsReady", "()I"⟩
abbrev cX4_answerSilence : ByteArray := prog_6_method_16_code
def yX4_answerSilence : MethodName := ⟨RX4, "answerSilence", "(I)V"⟩
abbrev cX4_beginAlone : ByteArray := prog_6_method_17_code
def yX4_beginAlone : MethodName := ⟨RX4, "beginAlone", "(I)V"⟩
abbrev cX4_cross : ByteArray := prog_6_method_18_code
def yX4_cross : MethodName := ⟨RX4, "cross", "(I)V"⟩
abbrev cX4_begin : ByteArray := prog_6_method_19_code
def yX4_begin : MethodName := ⟨RX4, "begin", "(LDeadAir$Voice;)V"⟩
abbrev cX4_bearSilence : ByteArray := prog_6_method_20_code
def yX4_bearSilence : MethodName := ⟨RX4, "bearSilence", "()V"⟩
abbrev cX4_turningOff : ByteArray := prog_6_method_21_code
def yX4_turningOff : MethodName := ⟨RX4, "turningOff", "()I"⟩
abbrev cX4_firstWhoSaidMore : ByteArray := prog_6_method_22_code
def yX4_firstWhoSaidMore : MethodName := ⟨RX4, "firstWhoSaidMore", "(LDeadAir$Studio;)I"⟩
def RX5 : String := "DeadAir$Text"
def TX5 : u_T := fun k => match k with
  | 0 => ("DeadAir$Text", "key", "I", false)
  | 1 => ("DeadAir$Text", "atoms", "I", false)
  | 2 => ("DeadAir$Text", "size", "I", false)
  | _ => ("DeadAir$Text", "code", "[I", true)
def tyX5 : Nat → FieldType := fun k => match k with
  | 0 => .int
  | 1 => .int
  | 2 => .int
  | _ => .array .int
abbrev wsX50 : List Cond := u_ws RX5 TX5 4
theorem nmX5 : ∀ a, a < 4 → ∀ b, b < 4 → a ≠ b → (TX5 a).2.1 ≠ (TX5 b).2.1 := by decide +kernel
theorem tyX5_ok : ∀ k, k < 4 → parseFieldDescriptor (TX5 k).2.2.1 = some (tyX5 k) := by decide +kernel
abbrev cX5_init : ByteArray := prog_7_method_1_code
def yX5_init : MethodName := ⟨RX5, "<init>", "()V"⟩
abbrev cX5_clear : ByteArray := prog_7_method_2_code
def yX5_clear : MethodName := ⟨RX5, "clear", "()V"⟩
abbrev cX5_become : ByteArray := prog_7_method_3_code
def yX5_become : MethodName := ⟨RX5, "become", "(LDeadAir$Text;)V"⟩
abbrev cX5_put : ByteArray := prog_7_method_4_code
def yX5_put : MethodName := ⟨RX5, "put", "(I)V"⟩
def RX6 : String := "DeadAir$Texts"
def TX6 : u_T := fun k => match k with
  | 0 => ("DeadAir$Texts", "list", "[LDeadAir$Text;", true)
  | _ => ("DeadAir$Texts", "stack", "[I", true)
def tyX6 : Nat → FieldType := fun k => match k with
  | 0 => .array (.object "DeadAir$Text")
  | _ => .array .int
abbrev wsX60 : List Cond := u_ws RX6 TX6 2
theorem nmX6 : ∀ a, a < 2 → ∀ b, b < 2 → a ≠ b → (TX6 a).2.1 ≠ (TX6 b).2.1 := by decide +kernel
theorem tyX6_ok : ∀ k, k < 2 → parseFieldDescriptor (TX6 k).2.2.1 = some (tyX6 k) := by decide +kernel
abbrev cX6_init : ByteArray := prog_8_method_1_code
def yX6_init : MethodName := ⟨RX6, "<init>", "()V"⟩
abbrev cX6_give : ByteArray := prog_8_method_2_code
def yX6_give : MethodName := ⟨RX6, "give", "(IIII)I"⟩
abbrev cX6_join : ByteArray := prog_8_method_3_code
def yX6_join : MethodName := ⟨RX6, "join", "(III)I"⟩
def RX7 : String := "DeadAir$Voice"
def TX7 : u_T := fun k => match k with
  | 0 => ("DeadAir$Voice", "kind", "I", false)
  | 1 => ("DeadAir$Voice", "wait", "I", false)
  | 2 => ("DeadAir$Voice", "talk", "I", false)
  | 3 => ("DeadAir$Voice", "pause", "I", false)
  | 4 => ("DeadAir$Voice", "left", "I", false)
  | 5 => ("DeadAir$Voice", "back", "I", false)
  | _ => ("DeadAir$Voice", "said", "I", false)
def tyX7 : Nat → FieldType := fun k => match k with
  | 0 => .int
  | 1 => .int
  | 2 => .int
  | 3 => .int
  | 4 => .int
  | 5 => .int
  | _ => .int
abbrev wsX70 : List Cond := u_ws RX7 TX7 7
theorem nmX7 : ∀ a, a < 7 → ∀ b, b < 7 → a ≠ b → (TX7 a).2.1 ≠ (TX7 b).2.1 := by decide +kernel
theorem tyX7_ok : ∀ k, k < 7 → parseFieldDescriptor (TX7 k).2.2.1 = some (tyX7 k) := by decide +kernel
abbrev cX7_init : ByteArray := prog_9_method_1_code
def yX7_init : MethodName := ⟨RX7, "<init>", "()V"⟩
abbrev cX7_allows : ByteArray := prog_9_method_2_code
def yX7_allows : MethodName := ⟨RX7, "allows", "(II)Z"⟩
abbrev cX7_put : ByteArray := prog_9_method_3_code
def yX7_put : MethodName := ⟨RX7, "put", "(II)I"⟩
abbrev cX7_become : ByteArray := prog_9_method_4_code
def yX7_become : MethodName := ⟨RX7, "become", "(LDeadAir$Voice;)V"⟩
abbrev cX7_isOf : ByteArray := prog_9_method_5_code
def yX7_isOf : MethodName := ⟨RX7, "isOf", "(I)Z"⟩
abbrev cX7_aboveHer : ByteArray := prog_9_method_6_code
def yX7_aboveHer : MethodName := ⟨RX7, "aboveHer", "()I"⟩
abbrev cX7_waits : ByteArray := prog_9_method_7_code
def yX7_waits : MethodName := ⟨RX7, "waits", "(Z)I"⟩
abbrev cX7_isReady : ByteArray := prog_9_method_8_code
def yX7_isReady : MethodName := ⟨RX7, "isReady", "(IZ)Z"⟩
abbrev cX7_talks : ByteArray := prog_9_method_9_code
def yX7_talks : MethodName := ⟨RX7, "talks", "()I"⟩
abbrev cX7_yields : ByteArray := prog_9_method_10_code
def yX7_yields : MethodName := ⟨RX7, "yields", "()Z"⟩
abbrev cX7_worth : ByteArray := prog_9_method_11_code
def yX7_worth : MethodName := ⟨RX7, "worth", "()I"⟩
def RX8 : String := "DeadAir"
def TX8 : u_T := fun k => match k with
  | 0 => ("DeadAir", "texts", "LDeadAir$Texts;", true)
  | 1 => ("DeadAir", "reader", "LDeadAir$Reader;", true)
  | 2 => ("DeadAir", "now", "LDeadAir$Studio;", true)
  | 3 => ("DeadAir", "thought", "LDeadAir$Studio;", true)
  | 4 => ("DeadAir", "image", "LDeadAir$Studio;", true)
  | 5 => ("DeadAir", "imageKept", "Z", false)
  | 6 => ("DeadAir", "best", "LDeadAir$Best;", true)
  | 7 => ("DeadAir", "sheets", "[LDeadAir$Sheet;", true)
  | 8 => ("DeadAir", "slots", "[LDeadAir$Slot;", true)
  | 9 => ("DeadAir", "waiting", "[I", true)
  | _ => ("DeadAir", "waitingMany", "I", false)
def tyX8 : Nat → FieldType := fun k => match k with
  | 0 => .object "DeadAir$Texts"
  | 1 => .object "DeadAir$Reader"
  | 2 => .object "DeadAir$Studio"
  | 3 => .object "DeadAir$Studio"
  | 4 => .object "DeadAir$Studio"
  | 5 => .boolean
  | 6 => .object "DeadAir$Best"
  | 7 => .array (.object "DeadAir$Sheet")
  | 8 => .array (.object "DeadAir$Slot")
  | 9 => .array .int
  | _ => .int
abbrev wsX80 : List Cond := u_ws RX8 TX8 11
theorem nmX8 : ∀ a, a < 11 → ∀ b, b < 11 → a ≠ b → (TX8 a).2.1 ≠ (TX8 b).2.1 := by decide +kernel
theorem tyX8_ok : ∀ k, k < 11 → parseFieldDescriptor (TX8 k).2.2.1 = some (tyX8 k) := by decide +kernel
abbrev cX8_init : ByteArray := prog_1_method_1_code
def yX8_init : MethodName := ⟨RX8, "<init>", "()V"⟩
abbrev cX8_voice : ByteArray := prog_1_method_2_code
def yX8_voice : MethodName := ⟨RX8, "voice", "(III)I"⟩
abbrev cX8_told : ByteArray := prog_1_method_3_code
def yX8_told : MethodName := ⟨RX8, "told", "(II)I"⟩
abbrev cX8_as : ByteArray := prog_1_method_4_code
def yX8_as : MethodName := ⟨RX8, "as", "(II)I"⟩
abbrev cX8_turns : ByteArray := prog_1_method_5_code
def yX8_turns : MethodName := ⟨RX8, "turns", "(II)I"⟩
abbrev cX8_set : ByteArray := prog_1_method_6_code
def yX8_set : MethodName := ⟨RX8, "set", "(III)I"⟩
abbrev cX8_speak : ByteArray := prog_1_method_7_code
def yX8_speak : MethodName := ⟨RX8, "speak", "(II)I"⟩
abbrev cX8_hush : ByteArray := prog_1_method_8_code
def yX8_hush : MethodName := ⟨RX8, "hush", "(I)I"⟩
abbrev cX8_air : ByteArray := prog_1_method_9_code
def yX8_air : MethodName := ⟨RX8, "air", "(II)I"⟩
abbrev cX8_deal : ByteArray := prog_1_method_10_code
def yX8_deal : MethodName := ⟨RX8, "deal", "(I)I"⟩
abbrev cX8_seed : ByteArray := prog_1_method_11_code
def yX8_seed : MethodName := ⟨RX8, "seed", "(I)I"⟩
abbrev cX8_tenths : ByteArray := prog_1_method_12_code
def yX8_tenths : MethodName := ⟨RX8, "tenths", "(I)I"⟩
abbrev cX8_studio : ByteArray := prog_1_method_13_code
def yX8_studio : MethodName := ⟨RX8, "studio", "(I)I"⟩
abbrev cX8_behind : ByteArray := prog_1_method_14_code
def yX8_behind : MethodName := ⟨RX8, "behind", "(II)I"⟩
abbrev cX8_next : ByteArray := prog_1_method_15_code
def yX8_next : MethodName := ⟨RX8, "next", "(I)I"⟩
abbrev cX8_hole : ByteArray := prog_1_method_16_code
def yX8_hole : MethodName := ⟨RX8, "hole", "(I)I"⟩
abbrev cX8_patience : ByteArray := prog_1_method_17_code
def yX8_patience : MethodName := ⟨RX8, "patience", "(III)I"⟩
abbrev cX8_device : ByteArray := prog_1_method_18_code
def yX8_device : MethodName := ⟨RX8, "device", "(II)I"⟩
abbrev cX8_filler : ByteArray := prog_1_method_19_code
def yX8_filler : MethodName := ⟨RX8, "filler", "(II)I"⟩
abbrev cX8_becomes : ByteArray := prog_1_method_20_code
def yX8_becomes : MethodName := ⟨RX8, "becomes", "(III)I"⟩
abbrev cX8_apart : ByteArray := prog_1_method_21_code
def yX8_apart : MethodName := ⟨RX8, "apart", "(III)I"⟩
abbrev cX8_whose : ByteArray := prog_1_method_22_code
def yX8_whose : MethodName := ⟨RX8, "whose", "(II)I"⟩
abbrev cX8_fee : ByteArray := prog_1_method_23_code
def yX8_fee : MethodName := ⟨RX8, "fee", "()I"⟩
abbrev cX8_fine : ByteArray := prog_1_method_24_code
def yX8_fine : MethodName := ⟨RX8, "fine", "(I)I"⟩
abbrev cX8_feed : ByteArray := prog_1_method_25_code
def yX8_feed : MethodName := ⟨RX8, "feed", "(III)I"⟩
abbrev cX8_trim : ByteArray := prog_1_method_26_code
def yX8_trim : MethodName := ⟨RX8, "trim", "(I)I"⟩
abbrev cX8_text : ByteArray := prog_1_method_27_code
def yX8_text : MethodName := ⟨RX8, "text", "()I"⟩
abbrev cX8_textTold : ByteArray := prog_1_method_28_code
def yX8_textTold : MethodName := ⟨RX8, "textTold", "(II)I"⟩
abbrev cX8_why : ByteArray := prog_1_method_29_code
def yX8_why : MethodName := ⟨RX8, "why", "(I)I"⟩
abbrev cX8_sheet : ByteArray := prog_1_method_30_code
def yX8_sheet : MethodName := ⟨RX8, "sheet", "(III)I"⟩
abbrev cX8_mark : ByteArray := prog_1_method_31_code
def yX8_mark : MethodName := ⟨RX8, "mark", "(III)I"⟩
abbrev cX8_pour : ByteArray := prog_1_method_32_code
def yX8_pour : MethodName := ⟨RX8, "pour", "(I)I"⟩
abbrev cX8_reads : ByteArray := prog_1_method_33_code
def yX8_reads : MethodName := ⟨RX8, "reads", "(I)I"⟩
abbrev cX8_copy : ByteArray := prog_1_method_34_code
def yX8_copy : MethodName := ⟨RX8, "copy", "(IIIII)I"⟩
abbrev cX8_lay : ByteArray := prog_1_method_35_code
def yX8_lay : MethodName := ⟨RX8, "lay", "(III)I"⟩
abbrev cX8_ask : ByteArray := prog_1_method_36_code
def yX8_ask : MethodName := ⟨RX8, "ask", "(II)I"⟩
abbrev cX8_item : ByteArray := prog_1_method_37_code
def yX8_item : MethodName := ⟨RX8, "item", "(II)I"⟩
abbrev cX8_rest : ByteArray := prog_1_method_38_code
def yX8_rest : MethodName := ⟨RX8, "rest", "(II)I"⟩
abbrev cX8_tell : ByteArray := prog_1_method_39_code
def yX8_tell : MethodName := ⟨RX8, "tell", "(I)I"⟩
abbrev cX8_check : ByteArray := prog_1_method_40_code
def yX8_check : MethodName := ⟨RX8, "check", "(I)I"⟩
abbrev cX8_keep : ByteArray := prog_1_method_41_code
def yX8_keep : MethodName := ⟨RX8, "keep", "()I"⟩
abbrev cX8_back : ByteArray := prog_1_method_42_code
def yX8_back : MethodName := ⟨RX8, "back", "()I"⟩
abbrev cX8_count : ByteArray := prog_1_method_43_code
def yX8_count : MethodName := ⟨RX8, "count", "(I)I"⟩
abbrev cX8_isWaiting : ByteArray := prog_1_method_44_code
def yX8_isWaiting : MethodName := ⟨RX8, "isWaiting", "(III)Z"⟩
abbrev cX8_differences : ByteArray := prog_1_method_45_code
def yX8_differences : MethodName := ⟨RX8, "differences", "(ILDeadAir$Sheet;)I"⟩
abbrev cX8_isBestAsked : ByteArray := prog_1_method_46_code
def yX8_isBestAsked : MethodName := ⟨RX8, "isBestAsked", "(II)Z"⟩
abbrev cX8_isKind : ByteArray := prog_1_method_47_code
def yX8_isKind : MethodName := ⟨RX8, "isKind", "(I)Z"⟩
abbrev cX8_isSheet : ByteArray := prog_1_method_48_code
def yX8_isSheet : MethodName := ⟨RX8, "isSheet", "(I)Z"⟩
abbrev cX8_isSlot : ByteArray := prog_1_method_49_code
def yX8_isSlot : MethodName := ⟨RX8, "isSlot", "(I)Z"⟩
abbrev cX8_within : ByteArray := prog_1_method_50_code
def yX8_within : MethodName := ⟨RX8, "within", "(III)Z"⟩
def RX9 : String := "DeadAirModel"
def TX9 : u_T := fun k => match k with
  | 0 => ("DeadAirModel", "now", "[I", true)
  | 1 => ("DeadAirModel", "image", "[I", true)
  | 2 => ("DeadAirModel", "aside", "[I", true)
  | 3 => ("DeadAirModel", "hasImage", "Z", false)
  | 4 => ("DeadAirModel", "heardSilence", "I", false)
  | 5 => ("DeadAirModel", "before", "[I", true)
  | 6 => ("DeadAirModel", "differ", "[J", true)
  | 7 => ("DeadAirModel", "tape", "[I", true)
  | 8 => ("DeadAirModel", "taped", "I", false)
  | 9 => ("DeadAirModel", "next", "I", false)
  | 10 => ("DeadAirModel", "from", "I", false)
  | 11 => ("DeadAirModel", "token", "I", false)
  | 12 => ("DeadAirModel", "value", "I", false)
  | 13 => ("DeadAirModel", "ended", "I", false)
  | 14 => ("DeadAirModel", "key", "I", false)
  | 15 => ("DeadAirModel", "keys", "[C", true)
  | 16 => ("DeadAirModel", "keyAt", "[I", true)
  | 17 => ("DeadAirModel", "code", "[I", true)
  | 18 => ("DeadAirModel", "codes", "I", false)
  | 19 => ("DeadAirModel", "atoms", "I", false)
  | 20 => ("DeadAirModel", "waits", "[I", true)
  | 21 => ("DeadAirModel", "held", "I", false)
  | 22 => ("DeadAirModel", "tested", "[Z", true)
  | 23 => ("DeadAirModel", "stack", "[I", true)
  | 24 => ("DeadAirModel", "facts", "[I", true)
  | 25 => ("DeadAirModel", "sorts", "[I", true)
  | 26 => ("DeadAirModel", "sizes", "[I", true)
  | 27 => ("DeadAirModel", "cells", "[I", true)
  | 28 => ("DeadAirModel", "holds", "[I", true)
  | 29 => ("DeadAirModel", "holdsA", "[I", true)
  | 30 => ("DeadAirModel", "holdsB", "[I", true)
  | 31 => ("DeadAirModel", "heldCells", "[I", true)
  | 32 => ("DeadAirModel", "moved", "[I", true)
  | 33 => ("DeadAirModel", "tells", "[I", true)
  | _ => ("DeadAirModel", "waiting", "I", false)
def tyX9 : Nat → FieldType := fun k => match k with
  | 0 => .array .int
  | 1 => .array .int
  | 2 => .array .int
  | 3 => .boolean
  | 4 => .int
  | 5 => .array .int
  | 6 => .array .long
  | 7 => .array .int
  | 8 => .int
  | 9 => .int
  | 10 => .int
  | 11 => .int
  | 12 => .int
  | 13 => .int
  | 14 => .int
  | 15 => .array .char
  | 16 => .array .int
  | 17 => .array .int
  | 18 => .int
  | 19 => .int
  | 20 => .array .int
  | 21 => .int
  | 22 => .array .boolean
  | 23 => .array .int
  | 24 => .array .int
  | 25 => .array .int
  | 26 => .array .int
  | 27 => .array .int
  | 28 => .array .int
  | 29 => .array .int
  | 30 => .array .int
  | 31 => .array .int
  | 32 => .array .int
  | 33 => .array .int
  | _ => .int
abbrev wsX90 : List Cond := u_ws RX9 TX9 35
theorem nmX9 : ∀ a, a < 35 → ∀ b, b < 35 → a ≠ b → (TX9 a).2.1 ≠ (TX9 b).2.1 := by decide +kernel
theorem tyX9_ok : ∀ k, k < 35 → parseFieldDescriptor (TX9 k).2.2.1 = some (tyX9 k) := by decide +kernel
abbrev cX9_init : ByteArray := prog_11_method_1_code
def yX9_init : MethodName := ⟨RX9, "<init>", "()V"⟩
abbrev cX9_in : ByteArray := prog_11_method_2_code
def yX9_in : MethodName := ⟨RX9, "in", "(III)Z"⟩
abbrev cX9_within : ByteArray := prog_11_method_3_code
def yX9_within : MethodName := ⟨RX9, "within", "(III)I"⟩
abbrev cX9_copyAll : ByteArray := prog_11_method_4_code
def yX9_copyAll : MethodName := ⟨RX9, "copyAll", "([I[I)V"⟩
abbrev cX9_isVoice : ByteArray := prog_11_method_5_code
def yX9_isVoice : MethodName := ⟨RX9, "isVoice", "(I)Z"⟩
abbrev cX9_of : ByteArray := prog_11_method_6_code
def yX9_of : MethodName := ⟨RX9, "of", "(II)I"⟩
abbrev cX9_put : ByteArray := prog_11_method_7_code
def yX9_put : MethodName := ⟨RX9, "put", "(III)V"⟩
abbrev cX9_swaps : ByteArray := prog_11_method_8_code
def yX9_swaps : MethodName := ⟨RX9, "swaps", "(II)I"⟩
abbrev cX9_comes : ByteArray := prog_11_method_9_code
def yX9_comes : MethodName := ⟨RX9, "comes", "(III)I"⟩
abbrev cX9_isOf : ByteArray := prog_11_method_10_code
def yX9_isOf : MethodName := ⟨RX9, "isOf", "(II)Z"⟩
abbrev cX9_voice : ByteArray := prog_11_method_11_code
def yX9_voice : MethodName := ⟨RX9, "voice", "(III)I"⟩
abbrev cX9_waitsOf : ByteArray := prog_11_method_12_code
def yX9_waitsOf : MethodName := ⟨RX9, "waitsOf", "(I)I"⟩
abbrev cX9_talksOf : ByteArray := prog_11_method_13_code
def yX9_talksOf : MethodName := ⟨RX9, "talksOf", "(I)I"⟩
abbrev cX9_doesYield : ByteArray := prog_11_method_14_code
def yX9_doesYield : MethodName := ⟨RX9, "doesYield", "(I)Z"⟩
abbrev cX9_worthOf : ByteArray := prog_11_method_15_code
def yX9_worthOf : MethodName := ⟨RX9, "worthOf", "(I)I"⟩
abbrev cX9_told : ByteArray := prog_11_method_16_code
def yX9_told : MethodName := ⟨RX9, "told", "(II)I"⟩
abbrev cX9_isUnder : ByteArray := prog_11_method_17_code
def yX9_isUnder : MethodName := ⟨RX9, "isUnder", "(II)Z"⟩
abbrev cX9_as : ByteArray := prog_11_method_18_code
def yX9_as : MethodName := ⟨RX9, "as", "(II)I"⟩
abbrev cX9_turns : ByteArray := prog_11_method_19_code
def yX9_turns : MethodName := ⟨RX9, "turns", "(II)I"⟩
abbrev cX9_set : ByteArray := prog_11_method_20_code
def yX9_set : MethodName := ⟨RX9, "set", "(III)I"⟩
abbrev cX9_speak : ByteArray := prog_11_method_21_code
def yX9_speak : MethodName := ⟨RX9, "speak", "(II)I"⟩
abbrev cX9_hush : ByteArray := prog_11_method_22_code
def yX9_hush : MethodName := ⟨RX9, "hush", "(I)I"⟩
abbrev cX9_air : ByteArray := prog_11_method_23_code
def yX9_air : MethodName := ⟨RX9, "air", "(II)I"⟩
abbrev cX9_draw : ByteArray := prog_11_method_24_code
def yX9_draw : MethodName := ⟨RX9, "draw", "()I"⟩
abbrev cX9_deal : ByteArray := prog_11_method_25_code
def yX9_deal : MethodName := ⟨RX9, "deal", "(I)I"⟩
abbrev cX9_seed : ByteArray := prog_11_method_26_code
def yX9_seed : MethodName := ⟨RX9, "seed", "(I)I"⟩
abbrev cX9_speaking : ByteArray := prog_11_method_27_code
def yX9_speaking : MethodName := ⟨RX9, "speaking", "()I"⟩
abbrev cX9_ready : ByteArray := prog_11_method_28_code
def yX9_ready : MethodName := ⟨RX9, "ready", "()I"⟩
abbrev cX9_begins : ByteArray := prog_11_method_29_code
def yX9_begins : MethodName := ⟨RX9, "begins", "(I)V"⟩
abbrev cX9_crosses : ByteArray := prog_11_method_30_code
def yX9_crosses : MethodName := ⟨RX9, "crosses", "(I)V"⟩
abbrev cX9_turnsTo : ByteArray := prog_11_method_31_code
def yX9_turnsTo : MethodName := ⟨RX9, "turnsTo", "(I)V"⟩
abbrev cX9_offGives : ByteArray := prog_11_method_32_code
def yX9_offGives : MethodName := ⟨RX9, "offGives", "()I"⟩
abbrev cX9_hearsNothing : ByteArray := prog_11_method_33_code
def yX9_hearsNothing : MethodName := ⟨RX9, "hearsNothing", "()V"⟩
abbrev cX9_tenth : ByteArray := prog_11_method_34_code
def yX9_tenth : MethodName := ⟨RX9, "tenth", "()V"⟩
abbrev cX9_goesOn : ByteArray := prog_11_method_35_code
def yX9_goesOn : MethodName := ⟨RX9, "goesOn", "(I)V"⟩
abbrev cX9_tenths : ByteArray := prog_11_method_36_code
def yX9_tenths : MethodName := ⟨RX9, "tenths", "(I)I"⟩
abbrev cX9_studio : ByteArray := prog_11_method_37_code
def yX9_studio : MethodName := ⟨RX9, "studio", "(I)I"⟩
abbrev cX9_thinks : ByteArray := prog_11_method_38_code
def yX9_thinks : MethodName := ⟨RX9, "thinks", "()V"⟩
abbrev cX9_putsBack : ByteArray := prog_11_method_39_code
def yX9_putsBack : MethodName := ⟨RX9, "putsBack", "()V"⟩
abbrev cX9_behind : ByteArray := prog_11_method_40_code
def yX9_behind : MethodName := ⟨RX9, "behind", "(II)I"⟩
abbrev cX9_hasBegun : ByteArray := prog_11_method_41_code
def yX9_hasBegun : MethodName := ⟨RX9, "hasBegun", "()I"⟩
abbrev cX9_next : ByteArray := prog_11_method_42_code
def yX9_next : MethodName := ⟨RX9, "next", "(I)I"⟩
abbrev cX9_hole : ByteArray := prog_11_method_43_code
def yX9_hole : MethodName := ⟨RX9, "hole", "(I)I"⟩
abbrev cX9_mostBy : ByteArray := prog_11_method_44_code
def yX9_mostBy : MethodName := ⟨RX9, "mostBy", "(IIIIII)I"⟩
abbrev cX9_areAsked : ByteArray := prog_11_method_45_code
def yX9_areAsked : MethodName := ⟨RX9, "areAsked", "(II)Z"⟩
abbrev cX9_patience : ByteArray := prog_11_method_46_code
def yX9_patience : MethodName := ⟨RX9, "patience", "(III)I"⟩
abbrev cX9_device : ByteArray := prog_11_method_47_code
def yX9_device : MethodName := ⟨RX9, "device", "(II)I"⟩
abbrev cX9_filler : ByteArray := prog_11_method_48_code
def yX9_filler : MethodName := ⟨RX9, "filler", "(II)I"⟩
abbrev cX9_becomes : ByteArray := prog_11_method_49_code
def yX9_becomes : MethodName := ⟨RX9, "becomes", "(III)I"⟩
abbrev cX9_apart : ByteArray := prog_11_method_50_code
def yX9_apart : MethodName := ⟨RX9, "apart", "(III)I"⟩
abbrev cX9_whose : ByteArray := prog_11_method_51_code
def yX9_whose : MethodName := ⟨RX9, "whose", "(II)I"⟩
abbrev cX9_fee : ByteArray := prog_11_method_52_code
def yX9_fee : MethodName := ⟨RX9, "fee", "()I"⟩
abbrev cX9_fine : ByteArray := prog_11_method_53_code
def yX9_fine : MethodName := ⟨RX9, "fine", "(I)I"⟩
abbrev cX9_feed : ByteArray := prog_11_method_54_code
def yX9_feed : MethodName := ⟨RX9, "feed", "(III)I"⟩
abbrev cX9_trim : ByteArray := prog_11_method_55_code
def yX9_trim : MethodName := ⟨RX9, "trim", "(I)I"⟩
abbrev cX9_isLetter : ByteArray := prog_11_method_56_code
def yX9_isLetter : MethodName := ⟨RX9, "isLetter", "(I)Z"⟩
abbrev cX9_isFigure : ByteArray := prog_11_method_57_code
def yX9_isFigure : MethodName := ⟨RX9, "isFigure", "(I)Z"⟩
abbrev cX9_go : ByteArray := prog_11_method_58_code
def yX9_go : MethodName := ⟨RX9, "go", "()V"⟩
abbrev cX9_takesKey : ByteArray := prog_11_method_59_code
def yX9_takesKey : MethodName := ⟨RX9, "takesKey", "()Z"⟩
abbrev cX9_nameOf : ByteArray := prog_11_method_60_code
def yX9_nameOf : MethodName := ⟨RX9, "nameOf", "(I)I"⟩
abbrev cX9_rank : ByteArray := prog_11_method_61_code
def yX9_rank : MethodName := ⟨RX9, "rank", "(I)I"⟩
abbrev cX9_settle : ByteArray := prog_11_method_62_code
def yX9_settle : MethodName := ⟨RX9, "settle", "(I)V"⟩
abbrev cX9_signHere : ByteArray := prog_11_method_63_code
def yX9_signHere : MethodName := ⟨RX9, "signHere", "()I"⟩
abbrev cX9_takesPart : ByteArray := prog_11_method_64_code
def yX9_takesPart : MethodName := ⟨RX9, "takesPart", "()Z"⟩
abbrev cX9_takesE : ByteArray := prog_11_method_65_code
def yX9_takesE : MethodName := ⟨RX9, "takesE", "()Z"⟩
abbrev cX9_notsOpen : ByteArray := prog_11_method_66_code
def yX9_notsOpen : MethodName := ⟨RX9, "notsOpen", "()I"⟩
abbrev cX9_text : ByteArray := prog_11_method_67_code
def yX9_text : MethodName := ⟨RX9, "text", "()I"⟩
abbrev cX9_textTold : ByteArray := prog_11_method_68_code
def yX9_textTold : MethodName := ⟨RX9, "textTold", "(II)I"⟩
abbrev cX9_counts : ByteArray := prog_11_method_69_code
def yX9_counts : MethodName := ⟨RX9, "counts", "(I)I"⟩
abbrev cX9_why : ByteArray := prog_11_method_70_code
def yX9_why : MethodName := ⟨RX9, "why", "(I)I"⟩
abbrev cX9_two : ByteArray := prog_11_method_71_code
def yX9_two : MethodName := ⟨RX9, "two", "(III)I"⟩
abbrev cX9_worksOut : ByteArray := prog_11_method_72_code
def yX9_worksOut : MethodName := ⟨RX9, "worksOut", "(I)I"⟩
abbrev cX9_isSheet : ByteArray := prog_11_method_73_code
def yX9_isSheet : MethodName := ⟨RX9, "isSheet", "(I)Z"⟩
abbrev cX9_isSlot : ByteArray := prog_11_method_74_code
def yX9_isSlot : MethodName := ⟨RX9, "isSlot", "(I)Z"⟩
abbrev cX9_sheet : ByteArray := prog_11_method_75_code
def yX9_sheet : MethodName := ⟨RX9, "sheet", "(III)I"⟩
abbrev cX9_mark : ByteArray := prog_11_method_76_code
def yX9_mark : MethodName := ⟨RX9, "mark", "(III)I"⟩
abbrev cX9_pour : ByteArray := prog_11_method_77_code
def yX9_pour : MethodName := ⟨RX9, "pour", "(I)I"⟩
abbrev cX9_reads : ByteArray := prog_11_method_78_code
def yX9_reads : MethodName := ⟨RX9, "reads", "(I)I"⟩
abbrev cX9_copy : ByteArray := prog_11_method_79_code
def yX9_copy : MethodName := ⟨RX9, "copy", "(IIIII)I"⟩
abbrev cX9_lay : ByteArray := prog_11_method_80_code
def yX9_lay : MethodName := ⟨RX9, "lay", "(III)I"⟩
abbrev cX9_ask : ByteArray := prog_11_method_81_code
def yX9_ask : MethodName := ⟨RX9, "ask", "(II)I"⟩
abbrev cX9_item : ByteArray := prog_11_method_82_code
def yX9_item : MethodName := ⟨RX9, "item", "(II)I"⟩
abbrev cX9_rest : ByteArray := prog_11_method_83_code
def yX9_rest : MethodName := ⟨RX9, "rest", "(II)I"⟩
abbrev cX9_tell : ByteArray := prog_11_method_84_code
def yX9_tell : MethodName := ⟨RX9, "tell", "(I)I"⟩
abbrev cX9_check : ByteArray := prog_11_method_85_code
def yX9_check : MethodName := ⟨RX9, "check", "(I)I"⟩
abbrev cX9_keep : ByteArray := prog_11_method_86_code
def yX9_keep : MethodName := ⟨RX9, "keep", "()I"⟩
abbrev cX9_back : ByteArray := prog_11_method_87_code
def yX9_back : MethodName := ⟨RX9, "back", "()I"⟩
abbrev cX9_count : ByteArray := prog_11_method_88_code
def yX9_count : MethodName := ⟨RX9, "count", "(I)I"⟩
def RJ6 : String := "java/lang/Integer"
abbrev cJ6_bitCount_0f7a4 : ByteArray := prog_13_method_49_code
def yJ6_bitCount_0f7a4 : MethodName := ⟨RJ6, "bitCount", "(I)I"⟩
def RJ0 : String := "java/lang/String"
abbrev cJ0_length_8abf5 : ByteArray := prog_15_method_54_code
def yJ0_length_8abf5 : MethodName := ⟨RJ0, "length", "()I"⟩
abbrev cJ0_charAt_5068e : ByteArray := prog_15_method_56_code
def yJ0_charAt_5068e : MethodName := ⟨RJ0, "charAt", "(I)C"⟩
abbrev cJ0_indexOf_0f7a4 : ByteArray := prog_15_method_79_code
def yJ0_indexOf_0f7a4 : MethodName := ⟨RJ0, "indexOf", "(I)I"⟩
abbrev cJ0_indexOf_7cf53 : ByteArray := prog_15_method_80_code
def yJ0_indexOf_7cf53 : MethodName := ⟨RJ0, "indexOf", "(II)I"⟩
abbrev cJ0_coder_7d493 : ByteArray := prog_15_method_152_code
def yJ0_coder_7d493 : MethodName := ⟨RJ0, "coder", "()B"⟩
abbrev cJ0_isLatin1_aae02 : ByteArray := prog_15_method_154_code
def yJ0_isLatin1_aae02 : MethodName := ⟨RJ0, "isLatin1", "()Z"⟩
abbrev cJ0_checkIndex_df160 : ByteArray := prog_15_method_155_code
def yJ0_checkIndex_df160 : MethodName := ⟨RJ0, "checkIndex", "(II)V"⟩
def RJ1 : String := "java/lang/StringLatin1"
abbrev cJ1_charAt_3b067 : ByteArray := prog_16_method_2_code
def yJ1_charAt_3b067 : MethodName := ⟨RJ1, "charAt", "([BI)C"⟩
abbrev cJ1_canEncode_9a6ad : ByteArray := prog_16_method_4_code
def yJ1_canEncode_9a6ad : MethodName := ⟨RJ1, "canEncode", "(I)Z"⟩
abbrev cJ1_indexOf_4cfef : ByteArray := prog_16_method_22_code
def yJ1_indexOf_4cfef : MethodName := ⟨RJ1, "indexOf", "([BIII)I"⟩
abbrev cJ1_indexOfChar_4cfef : ByteArray := prog_16_method_23_code
def yJ1_indexOfChar_4cfef : MethodName := ⟨RJ1, "indexOfChar", "([BIII)I"⟩
def RJ3 : String := "jdk/internal/util/Preconditions"
abbrev cJ3_checkIndex_8e157 : ByteArray := prog_19_method_11_code
def yJ3_checkIndex_8e157 : MethodName := ⟨RJ3, "checkIndex", "(IILjava/util/function/BiFunction;)I"⟩
def RL : String := "DeadAirLaw"
