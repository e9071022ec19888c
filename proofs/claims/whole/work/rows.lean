section
-- ===== PART A: goes FIRST, ahead of the names: the tables' words, and 'selects' of the private methods out of them =====
/-- a private method of a class that the tables say can be made, by its rows of tables_1 -/
def lw_okq (q : MethodName × Nat) : Prop := (q.1.cls ≠ "java/lang/invoke/MethodHandle" ∧ q.1.cls ≠ "java/lang/invoke/VarHandle") ∧ Cond.instantiable q.1.cls q.2 ∈ tables_1 ∧ Cond.privateMethod q.1 ∈ tables_1 ∧ Cond.instanceMethod q.1 ∈ tables_1
theorem lw_p0 : lw_okq (⟨"DeadAir$Voice", "aboveHer", "()I"⟩, 7) := ⟨⟨by decide +kernel, by decide +kernel⟩, List.mem_of_getElem? (i := 123) (by decide +kernel), List.mem_of_getElem? (i := 394) (by decide +kernel), List.mem_of_getElem? (i := 395) (by decide +kernel)⟩
theorem lw_p1 : lw_okq (⟨"DeadAir$Studio", "drawBelow", "(I)I"⟩, 19) := ⟨⟨by decide +kernel, by decide +kernel⟩, List.mem_of_getElem? (i := 116) (by decide +kernel), List.mem_of_getElem? (i := 439) (by decide +kernel), List.mem_of_getElem? (i := 440) (by decide +kernel)⟩
theorem lw_p2 : lw_okq (⟨"DeadAir$Studio", "whoIsReady", "()I"⟩, 19) := ⟨⟨by decide +kernel, by decide +kernel⟩, List.mem_of_getElem? (i := 116) (by decide +kernel), List.mem_of_getElem? (i := 469) (by decide +kernel), List.mem_of_getElem? (i := 470) (by decide +kernel)⟩
theorem lw_p3 : lw_okq (⟨"DeadAir$Studio", "bearSilence", "()V"⟩, 19) := ⟨⟨by decide +kernel, by decide +kernel⟩, List.mem_of_getElem? (i := 116) (by decide +kernel), List.mem_of_getElem? (i := 478) (by decide +kernel), List.mem_of_getElem? (i := 479) (by decide +kernel)⟩
theorem lw_p4 : lw_okq (⟨"DeadAir$Studio", "turningOff", "()I"⟩, 19) := ⟨⟨by decide +kernel, by decide +kernel⟩, List.mem_of_getElem? (i := 116) (by decide +kernel), List.mem_of_getElem? (i := 482) (by decide +kernel), List.mem_of_getElem? (i := 483) (by decide +kernel)⟩
theorem lw_p5 : lw_okq (⟨"DeadAir$Studio", "answerSilence", "(I)V"⟩, 19) := ⟨⟨by decide +kernel, by decide +kernel⟩, List.mem_of_getElem? (i := 116) (by decide +kernel), List.mem_of_getElem? (i := 494) (by decide +kernel), List.mem_of_getElem? (i := 495) (by decide +kernel)⟩
theorem lw_p6 : lw_okq (⟨"DeadAir$Studio", "cross", "(I)V"⟩, 19) := ⟨⟨by decide +kernel, by decide +kernel⟩, List.mem_of_getElem? (i := 116) (by decide +kernel), List.mem_of_getElem? (i := 504) (by decide +kernel), List.mem_of_getElem? (i := 505) (by decide +kernel)⟩
theorem lw_p7 : lw_okq (⟨"DeadAir$Studio", "begin", "(LDeadAir$Voice;)V"⟩, 19) := ⟨⟨by decide +kernel, by decide +kernel⟩, List.mem_of_getElem? (i := 116) (by decide +kernel), List.mem_of_getElem? (i := 509) (by decide +kernel), List.mem_of_getElem? (i := 510) (by decide +kernel)⟩
theorem lw_p8 : lw_okq (⟨"DeadAir$Studio", "beginAlone", "(I)V"⟩, 19) := ⟨⟨by decide +kernel, by decide +kernel⟩, List.mem_of_getElem? (i := 116) (by decide +kernel), List.mem_of_getElem? (i := 514) (by decide +kernel), List.mem_of_getElem? (i := 515) (by decide +kernel)⟩
theorem lw_p9 : lw_okq (⟨"DeadAir", "differences", "(ILDeadAir$Sheet;)I"⟩, 11) := ⟨⟨by decide +kernel, by decide +kernel⟩, List.mem_of_getElem? (i := 20) (by decide +kernel), List.mem_of_getElem? (i := 600) (by decide +kernel), List.mem_of_getElem? (i := 601) (by decide +kernel)⟩
theorem lw_p10 : lw_okq (⟨"DeadAir$Reader", "start", "()V"⟩, 12) := ⟨⟨by decide +kernel, by decide +kernel⟩, List.mem_of_getElem? (i := 69) (by decide +kernel), List.mem_of_getElem? (i := 645) (by decide +kernel), List.mem_of_getElem? (i := 646) (by decide +kernel)⟩
theorem lw_p11 : lw_okq (⟨"DeadAir$Reader", "step", "()V"⟩, 12) := ⟨⟨by decide +kernel, by decide +kernel⟩, List.mem_of_getElem? (i := 69) (by decide +kernel), List.mem_of_getElem? (i := 653) (by decide +kernel), List.mem_of_getElem? (i := 654) (by decide +kernel)⟩
theorem lw_p12 : lw_okq (⟨"DeadAir$Reader", "goesOn", "()Z"⟩, 12) := ⟨⟨by decide +kernel, by decide +kernel⟩, List.mem_of_getElem? (i := 69) (by decide +kernel), List.mem_of_getElem? (i := 664) (by decide +kernel), List.mem_of_getElem? (i := 665) (by decide +kernel)⟩
theorem lw_p13 : lw_okq (⟨"DeadAir$Reader", "keyHere", "()I"⟩, 12) := ⟨⟨by decide +kernel, by decide +kernel⟩, List.mem_of_getElem? (i := 69) (by decide +kernel), List.mem_of_getElem? (i := 668) (by decide +kernel), List.mem_of_getElem? (i := 669) (by decide +kernel)⟩
theorem lw_p14 : lw_okq (⟨"DeadAir$Reader", "isHere", "(Ljava/lang/String;)Z"⟩, 12) := ⟨⟨by decide +kernel, by decide +kernel⟩, List.mem_of_getElem? (i := 69) (by decide +kernel), List.mem_of_getElem? (i := 673) (by decide +kernel), List.mem_of_getElem? (i := 674) (by decide +kernel)⟩
theorem lw_p15 : lw_okq (⟨"DeadAir$Reader", "takesPiece", "()Z"⟩, 12) := ⟨⟨by decide +kernel, by decide +kernel⟩, List.mem_of_getElem? (i := 69) (by decide +kernel), List.mem_of_getElem? (i := 727) (by decide +kernel), List.mem_of_getElem? (i := 728) (by decide +kernel)⟩
def lw_privs_1 : List (MethodName × Nat) := [(⟨"DeadAir$Voice", "aboveHer", "()I"⟩, 7), (⟨"DeadAir$Studio", "drawBelow", "(I)I"⟩, 19), (⟨"DeadAir$Studio", "whoIsReady", "()I"⟩, 19), (⟨"DeadAir$Studio", "bearSilence", "()V"⟩, 19), (⟨"DeadAir$Studio", "turningOff", "()I"⟩, 19), (⟨"DeadAir$Studio", "answerSilence", "(I)V"⟩, 19), (⟨"DeadAir$Studio", "cross", "(I)V"⟩, 19), (⟨"DeadAir$Studio", "begin", "(LDeadAir$Voice;)V"⟩, 19), (⟨"DeadAir$Studio", "beginAlone", "(I)V"⟩, 19), (⟨"DeadAir", "differences", "(ILDeadAir$Sheet;)I"⟩, 11), (⟨"DeadAir$Reader", "start", "()V"⟩, 12), (⟨"DeadAir$Reader", "step", "()V"⟩, 12), (⟨"DeadAir$Reader", "goesOn", "()Z"⟩, 12), (⟨"DeadAir$Reader", "keyHere", "()I"⟩, 12), (⟨"DeadAir$Reader", "isHere", "(Ljava/lang/String;)Z"⟩, 12), (⟨"DeadAir$Reader", "takesPiece", "()Z"⟩, 12)]
theorem lw_r1 : ∀ q ∈ lw_privs_1, lw_okq q := List.forall_mem_cons.mpr ⟨lw_p0, List.forall_mem_cons.mpr ⟨lw_p1, List.forall_mem_cons.mpr ⟨lw_p2, List.forall_mem_cons.mpr ⟨lw_p3, List.forall_mem_cons.mpr ⟨lw_p4, List.forall_mem_cons.mpr ⟨lw_p5, List.forall_mem_cons.mpr ⟨lw_p6, List.forall_mem_cons.mpr ⟨lw_p7, List.forall_mem_cons.mpr ⟨lw_p8, List.forall_mem_cons.mpr ⟨lw_p9, List.forall_mem_cons.mpr ⟨lw_p10, List.forall_mem_cons.mpr ⟨lw_p11, List.forall_mem_cons.mpr ⟨lw_p12, List.forall_mem_cons.mpr ⟨lw_p13, List.forall_mem_cons.mpr ⟨lw_p14, List.forall_mem_cons.mpr ⟨lw_p15, fun _ h => absurd h List.not_mem_nil⟩⟩⟩⟩⟩⟩⟩⟩⟩⟩⟩⟩⟩⟩⟩⟩
theorem lw_p16 : lw_okq (⟨"DeadAir$Reader", "takesNumber", "()Z"⟩, 12) := ⟨⟨by decide +kernel, by decide +kernel⟩, List.mem_of_getElem? (i := 69) (by decide +kernel), List.mem_of_getElem? (i := 731) (by decide +kernel), List.mem_of_getElem? (i := 732) (by decide +kernel)⟩
theorem lw_p17 : lw_okq (⟨"DeadAir$Reader", "takesAtom", "(I)V"⟩, 12) := ⟨⟨by decide +kernel, by decide +kernel⟩, List.mem_of_getElem? (i := 69) (by decide +kernel), List.mem_of_getElem? (i := 735) (by decide +kernel), List.mem_of_getElem? (i := 736) (by decide +kernel)⟩
theorem lw_p18 : lw_okq (⟨"DeadAir$Reader", "takesName", "(C)Z"⟩, 12) := ⟨⟨by decide +kernel, by decide +kernel⟩, List.mem_of_getElem? (i := 69) (by decide +kernel), List.mem_of_getElem? (i := 743) (by decide +kernel), List.mem_of_getElem? (i := 744) (by decide +kernel)⟩
theorem lw_p19 : lw_okq (⟨"DeadAir$Reader", "hold", "(I)V"⟩, 12) := ⟨⟨by decide +kernel, by decide +kernel⟩, List.mem_of_getElem? (i := 69) (by decide +kernel), List.mem_of_getElem? (i := 805) (by decide +kernel), List.mem_of_getElem? (i := 806) (by decide +kernel)⟩
theorem lw_p20 : lw_okq (⟨"DeadAir$Reader", "takesSign", "()Z"⟩, 12) := ⟨⟨by decide +kernel, by decide +kernel⟩, List.mem_of_getElem? (i := 69) (by decide +kernel), List.mem_of_getElem? (i := 809) (by decide +kernel), List.mem_of_getElem? (i := 810) (by decide +kernel)⟩
theorem lw_p21 : lw_okq (⟨"DeadAir$Reader", "closes", "()Z"⟩, 12) := ⟨⟨by decide +kernel, by decide +kernel⟩, List.mem_of_getElem? (i := 69) (by decide +kernel), List.mem_of_getElem? (i := 813) (by decide +kernel), List.mem_of_getElem? (i := 814) (by decide +kernel)⟩
theorem lw_p22 : lw_okq (⟨"DeadAir$Reader", "release", "(I)V"⟩, 12) := ⟨⟨by decide +kernel, by decide +kernel⟩, List.mem_of_getElem? (i := 69) (by decide +kernel), List.mem_of_getElem? (i := 817) (by decide +kernel), List.mem_of_getElem? (i := 818) (by decide +kernel)⟩
theorem lw_p23 : lw_okq (⟨"DeadAir$Reader", "topRank", "()I"⟩, 12) := ⟨⟨by decide +kernel, by decide +kernel⟩, List.mem_of_getElem? (i := 69) (by decide +kernel), List.mem_of_getElem? (i := 821) (by decide +kernel), List.mem_of_getElem? (i := 822) (by decide +kernel)⟩
theorem lw_p24 : lw_okq (⟨"DeadAir", "isWaiting", "(III)Z"⟩, 11) := ⟨⟨by decide +kernel, by decide +kernel⟩, List.mem_of_getElem? (i := 20) (by decide +kernel), List.mem_of_getElem? (i := 923) (by decide +kernel), List.mem_of_getElem? (i := 924) (by decide +kernel)⟩
theorem lw_p25 : lw_okq (⟨"DeadAirModel", "comes", "(III)I"⟩, 35) := ⟨⟨by decide +kernel, by decide +kernel⟩, List.mem_of_getElem? (i := 939) (by decide +kernel), List.mem_of_getElem? (i := 1066) (by decide +kernel), List.mem_of_getElem? (i := 1067) (by decide +kernel)⟩
theorem lw_p26 : lw_okq (⟨"DeadAirModel", "put", "(III)V"⟩, 35) := ⟨⟨by decide +kernel, by decide +kernel⟩, List.mem_of_getElem? (i := 939) (by decide +kernel), List.mem_of_getElem? (i := 1070) (by decide +kernel), List.mem_of_getElem? (i := 1071) (by decide +kernel)⟩
theorem lw_p27 : lw_okq (⟨"DeadAirModel", "isVoice", "(I)Z"⟩, 35) := ⟨⟨by decide +kernel, by decide +kernel⟩, List.mem_of_getElem? (i := 939) (by decide +kernel), List.mem_of_getElem? (i := 1078) (by decide +kernel), List.mem_of_getElem? (i := 1079) (by decide +kernel)⟩
theorem lw_p28 : lw_okq (⟨"DeadAirModel", "of", "(II)I"⟩, 35) := ⟨⟨by decide +kernel, by decide +kernel⟩, List.mem_of_getElem? (i := 939) (by decide +kernel), List.mem_of_getElem? (i := 1082) (by decide +kernel), List.mem_of_getElem? (i := 1083) (by decide +kernel)⟩
theorem lw_p29 : lw_okq (⟨"DeadAirModel", "waitsOf", "(I)I"⟩, 35) := ⟨⟨by decide +kernel, by decide +kernel⟩, List.mem_of_getElem? (i := 939) (by decide +kernel), List.mem_of_getElem? (i := 1086) (by decide +kernel), List.mem_of_getElem? (i := 1087) (by decide +kernel)⟩
theorem lw_p30 : lw_okq (⟨"DeadAirModel", "talksOf", "(I)I"⟩, 35) := ⟨⟨by decide +kernel, by decide +kernel⟩, List.mem_of_getElem? (i := 939) (by decide +kernel), List.mem_of_getElem? (i := 1090) (by decide +kernel), List.mem_of_getElem? (i := 1091) (by decide +kernel)⟩
theorem lw_p31 : lw_okq (⟨"DeadAirModel", "doesYield", "(I)Z"⟩, 35) := ⟨⟨by decide +kernel, by decide +kernel⟩, List.mem_of_getElem? (i := 939) (by decide +kernel), List.mem_of_getElem? (i := 1094) (by decide +kernel), List.mem_of_getElem? (i := 1095) (by decide +kernel)⟩
def lw_privs_2 : List (MethodName × Nat) := [(⟨"DeadAir$Reader", "takesNumber", "()Z"⟩, 12), (⟨"DeadAir$Reader", "takesAtom", "(I)V"⟩, 12), (⟨"DeadAir$Reader", "takesName", "(C)Z"⟩, 12), (⟨"DeadAir$Reader", "hold", "(I)V"⟩, 12), (⟨"DeadAir$Reader", "takesSign", "()Z"⟩, 12), (⟨"DeadAir$Reader", "closes", "()Z"⟩, 12), (⟨"DeadAir$Reader", "release", "(I)V"⟩, 12), (⟨"DeadAir$Reader", "topRank", "()I"⟩, 12), (⟨"DeadAir", "isWaiting", "(III)Z"⟩, 11), (⟨"DeadAirModel", "comes", "(III)I"⟩, 35), (⟨"DeadAirModel", "put", "(III)V"⟩, 35), (⟨"DeadAirModel", "isVoice", "(I)Z"⟩, 35), (⟨"DeadAirModel", "of", "(II)I"⟩, 35), (⟨"DeadAirModel", "waitsOf", "(I)I"⟩, 35), (⟨"DeadAirModel", "talksOf", "(I)I"⟩, 35), (⟨"DeadAirModel", "doesYield", "(I)Z"⟩, 35)]
theorem lw_r2 : ∀ q ∈ lw_privs_2, lw_okq q := List.forall_mem_cons.mpr ⟨lw_p16, List.forall_mem_cons.mpr ⟨lw_p17, List.forall_mem_cons.mpr ⟨lw_p18, List.forall_mem_cons.mpr ⟨lw_p19, List.forall_mem_cons.mpr ⟨lw_p20, List.forall_mem_cons.mpr ⟨lw_p21, List.forall_mem_cons.mpr ⟨lw_p22, List.forall_mem_cons.mpr ⟨lw_p23, List.forall_mem_cons.mpr ⟨lw_p24, List.forall_mem_cons.mpr ⟨lw_p25, List.forall_mem_cons.mpr ⟨lw_p26, List.forall_mem_cons.mpr ⟨lw_p27, List.forall_mem_cons.mpr ⟨lw_p28, List.forall_mem_cons.mpr ⟨lw_p29, List.forall_mem_cons.mpr ⟨lw_p30, List.forall_mem_cons.mpr ⟨lw_p31, fun _ h => absurd h List.not_mem_nil⟩⟩⟩⟩⟩⟩⟩⟩⟩⟩⟩⟩⟩⟩⟩⟩
theorem lw_p32 : lw_okq (⟨"DeadAirModel", "worthOf", "(I)I"⟩, 35) := ⟨⟨by decide +kernel, by decide +kernel⟩, List.mem_of_getElem? (i := 939) (by decide +kernel), List.mem_of_getElem? (i := 1098) (by decide +kernel), List.mem_of_getElem? (i := 1099) (by decide +kernel)⟩
theorem lw_p33 : lw_okq (⟨"DeadAirModel", "swaps", "(II)I"⟩, 35) := ⟨⟨by decide +kernel, by decide +kernel⟩, List.mem_of_getElem? (i := 939) (by decide +kernel), List.mem_of_getElem? (i := 1114) (by decide +kernel), List.mem_of_getElem? (i := 1115) (by decide +kernel)⟩
theorem lw_p34 : lw_okq (⟨"DeadAirModel", "draw", "()I"⟩, 35) := ⟨⟨by decide +kernel, by decide +kernel⟩, List.mem_of_getElem? (i := 939) (by decide +kernel), List.mem_of_getElem? (i := 1138) (by decide +kernel), List.mem_of_getElem? (i := 1139) (by decide +kernel)⟩
theorem lw_p35 : lw_okq (⟨"DeadAirModel", "goesOn", "(I)V"⟩, 35) := ⟨⟨by decide +kernel, by decide +kernel⟩, List.mem_of_getElem? (i := 939) (by decide +kernel), List.mem_of_getElem? (i := 1154) (by decide +kernel), List.mem_of_getElem? (i := 1155) (by decide +kernel)⟩
theorem lw_p36 : lw_okq (⟨"DeadAirModel", "tenth", "()V"⟩, 35) := ⟨⟨by decide +kernel, by decide +kernel⟩, List.mem_of_getElem? (i := 939) (by decide +kernel), List.mem_of_getElem? (i := 1158) (by decide +kernel), List.mem_of_getElem? (i := 1159) (by decide +kernel)⟩
theorem lw_p37 : lw_okq (⟨"DeadAirModel", "speaking", "()I"⟩, 35) := ⟨⟨by decide +kernel, by decide +kernel⟩, List.mem_of_getElem? (i := 939) (by decide +kernel), List.mem_of_getElem? (i := 1162) (by decide +kernel), List.mem_of_getElem? (i := 1163) (by decide +kernel)⟩
theorem lw_p38 : lw_okq (⟨"DeadAirModel", "ready", "()I"⟩, 35) := ⟨⟨by decide +kernel, by decide +kernel⟩, List.mem_of_getElem? (i := 939) (by decide +kernel), List.mem_of_getElem? (i := 1166) (by decide +kernel), List.mem_of_getElem? (i := 1167) (by decide +kernel)⟩
theorem lw_p39 : lw_okq (⟨"DeadAirModel", "crosses", "(I)V"⟩, 35) := ⟨⟨by decide +kernel, by decide +kernel⟩, List.mem_of_getElem? (i := 939) (by decide +kernel), List.mem_of_getElem? (i := 1170) (by decide +kernel), List.mem_of_getElem? (i := 1171) (by decide +kernel)⟩
theorem lw_p40 : lw_okq (⟨"DeadAirModel", "begins", "(I)V"⟩, 35) := ⟨⟨by decide +kernel, by decide +kernel⟩, List.mem_of_getElem? (i := 939) (by decide +kernel), List.mem_of_getElem? (i := 1174) (by decide +kernel), List.mem_of_getElem? (i := 1175) (by decide +kernel)⟩
theorem lw_p41 : lw_okq (⟨"DeadAirModel", "turnsTo", "(I)V"⟩, 35) := ⟨⟨by decide +kernel, by decide +kernel⟩, List.mem_of_getElem? (i := 939) (by decide +kernel), List.mem_of_getElem? (i := 1178) (by decide +kernel), List.mem_of_getElem? (i := 1179) (by decide +kernel)⟩
theorem lw_p42 : lw_okq (⟨"DeadAirModel", "hearsNothing", "()V"⟩, 35) := ⟨⟨by decide +kernel, by decide +kernel⟩, List.mem_of_getElem? (i := 939) (by decide +kernel), List.mem_of_getElem? (i := 1182) (by decide +kernel), List.mem_of_getElem? (i := 1183) (by decide +kernel)⟩
theorem lw_p43 : lw_okq (⟨"DeadAirModel", "offGives", "()I"⟩, 35) := ⟨⟨by decide +kernel, by decide +kernel⟩, List.mem_of_getElem? (i := 939) (by decide +kernel), List.mem_of_getElem? (i := 1186) (by decide +kernel), List.mem_of_getElem? (i := 1187) (by decide +kernel)⟩
theorem lw_p44 : lw_okq (⟨"DeadAirModel", "counts", "(I)I"⟩, 35) := ⟨⟨by decide +kernel, by decide +kernel⟩, List.mem_of_getElem? (i := 939) (by decide +kernel), List.mem_of_getElem? (i := 1190) (by decide +kernel), List.mem_of_getElem? (i := 1191) (by decide +kernel)⟩
theorem lw_p45 : lw_okq (⟨"DeadAirModel", "worksOut", "(I)I"⟩, 35) := ⟨⟨by decide +kernel, by decide +kernel⟩, List.mem_of_getElem? (i := 939) (by decide +kernel), List.mem_of_getElem? (i := 1194) (by decide +kernel), List.mem_of_getElem? (i := 1195) (by decide +kernel)⟩
theorem lw_p46 : lw_okq (⟨"DeadAirModel", "thinks", "()V"⟩, 35) := ⟨⟨by decide +kernel, by decide +kernel⟩, List.mem_of_getElem? (i := 939) (by decide +kernel), List.mem_of_getElem? (i := 1209) (by decide +kernel), List.mem_of_getElem? (i := 1210) (by decide +kernel)⟩
theorem lw_p47 : lw_okq (⟨"DeadAirModel", "putsBack", "()V"⟩, 35) := ⟨⟨by decide +kernel, by decide +kernel⟩, List.mem_of_getElem? (i := 939) (by decide +kernel), List.mem_of_getElem? (i := 1213) (by decide +kernel), List.mem_of_getElem? (i := 1214) (by decide +kernel)⟩
def lw_privs_3 : List (MethodName × Nat) := [(⟨"DeadAirModel", "worthOf", "(I)I"⟩, 35), (⟨"DeadAirModel", "swaps", "(II)I"⟩, 35), (⟨"DeadAirModel", "draw", "()I"⟩, 35), (⟨"DeadAirModel", "goesOn", "(I)V"⟩, 35), (⟨"DeadAirModel", "tenth", "()V"⟩, 35), (⟨"DeadAirModel", "speaking", "()I"⟩, 35), (⟨"DeadAirModel", "ready", "()I"⟩, 35), (⟨"DeadAirModel", "crosses", "(I)V"⟩, 35), (⟨"DeadAirModel", "begins", "(I)V"⟩, 35), (⟨"DeadAirModel", "turnsTo", "(I)V"⟩, 35), (⟨"DeadAirModel", "hearsNothing", "()V"⟩, 35), (⟨"DeadAirModel", "offGives", "()I"⟩, 35), (⟨"DeadAirModel", "counts", "(I)I"⟩, 35), (⟨"DeadAirModel", "worksOut", "(I)I"⟩, 35), (⟨"DeadAirModel", "thinks", "()V"⟩, 35), (⟨"DeadAirModel", "putsBack", "()V"⟩, 35)]
theorem lw_r3 : ∀ q ∈ lw_privs_3, lw_okq q := List.forall_mem_cons.mpr ⟨lw_p32, List.forall_mem_cons.mpr ⟨lw_p33, List.forall_mem_cons.mpr ⟨lw_p34, List.forall_mem_cons.mpr ⟨lw_p35, List.forall_mem_cons.mpr ⟨lw_p36, List.forall_mem_cons.mpr ⟨lw_p37, List.forall_mem_cons.mpr ⟨lw_p38, List.forall_mem_cons.mpr ⟨lw_p39, List.forall_mem_cons.mpr ⟨lw_p40, List.forall_mem_cons.mpr ⟨lw_p41, List.forall_mem_cons.mpr ⟨lw_p42, List.forall_mem_cons.mpr ⟨lw_p43, List.forall_mem_cons.mpr ⟨lw_p44, List.forall_mem_cons.mpr ⟨lw_p45, List.forall_mem_cons.mpr ⟨lw_p46, List.forall_mem_cons.mpr ⟨lw_p47, fun _ h => absurd h List.not_mem_nil⟩⟩⟩⟩⟩⟩⟩⟩⟩⟩⟩⟩⟩⟩⟩⟩
theorem lw_p48 : lw_okq (⟨"DeadAirModel", "hasBegun", "()I"⟩, 35) := ⟨⟨by decide +kernel, by decide +kernel⟩, List.mem_of_getElem? (i := 939) (by decide +kernel), List.mem_of_getElem? (i := 1221) (by decide +kernel), List.mem_of_getElem? (i := 1222) (by decide +kernel)⟩
theorem lw_p49 : lw_okq (⟨"DeadAirModel", "mostBy", "(IIIIII)I"⟩, 35) := ⟨⟨by decide +kernel, by decide +kernel⟩, List.mem_of_getElem? (i := 939) (by decide +kernel), List.mem_of_getElem? (i := 1237) (by decide +kernel), List.mem_of_getElem? (i := 1238) (by decide +kernel)⟩
theorem lw_p50 : lw_okq (⟨"DeadAirModel", "go", "()V"⟩, 35) := ⟨⟨by decide +kernel, by decide +kernel⟩, List.mem_of_getElem? (i := 939) (by decide +kernel), List.mem_of_getElem? (i := 1285) (by decide +kernel), List.mem_of_getElem? (i := 1286) (by decide +kernel)⟩
theorem lw_p51 : lw_okq (⟨"DeadAirModel", "isLetter", "(I)Z"⟩, 35) := ⟨⟨by decide +kernel, by decide +kernel⟩, List.mem_of_getElem? (i := 939) (by decide +kernel), List.mem_of_getElem? (i := 1289) (by decide +kernel), List.mem_of_getElem? (i := 1290) (by decide +kernel)⟩
theorem lw_p52 : lw_okq (⟨"DeadAirModel", "isFigure", "(I)Z"⟩, 35) := ⟨⟨by decide +kernel, by decide +kernel⟩, List.mem_of_getElem? (i := 939) (by decide +kernel), List.mem_of_getElem? (i := 1293) (by decide +kernel), List.mem_of_getElem? (i := 1294) (by decide +kernel)⟩
theorem lw_p53 : lw_okq (⟨"DeadAirModel", "takesKey", "()Z"⟩, 35) := ⟨⟨by decide +kernel, by decide +kernel⟩, List.mem_of_getElem? (i := 939) (by decide +kernel), List.mem_of_getElem? (i := 1297) (by decide +kernel), List.mem_of_getElem? (i := 1298) (by decide +kernel)⟩
theorem lw_p54 : lw_okq (⟨"DeadAirModel", "takesE", "()Z"⟩, 35) := ⟨⟨by decide +kernel, by decide +kernel⟩, List.mem_of_getElem? (i := 939) (by decide +kernel), List.mem_of_getElem? (i := 1301) (by decide +kernel), List.mem_of_getElem? (i := 1302) (by decide +kernel)⟩
theorem lw_p55 : lw_okq (⟨"DeadAirModel", "takesPart", "()Z"⟩, 35) := ⟨⟨by decide +kernel, by decide +kernel⟩, List.mem_of_getElem? (i := 939) (by decide +kernel), List.mem_of_getElem? (i := 1305) (by decide +kernel), List.mem_of_getElem? (i := 1306) (by decide +kernel)⟩
theorem lw_p56 : lw_okq (⟨"DeadAirModel", "nameOf", "(I)I"⟩, 35) := ⟨⟨by decide +kernel, by decide +kernel⟩, List.mem_of_getElem? (i := 939) (by decide +kernel), List.mem_of_getElem? (i := 1309) (by decide +kernel), List.mem_of_getElem? (i := 1310) (by decide +kernel)⟩
theorem lw_p57 : lw_okq (⟨"DeadAirModel", "settle", "(I)V"⟩, 35) := ⟨⟨by decide +kernel, by decide +kernel⟩, List.mem_of_getElem? (i := 939) (by decide +kernel), List.mem_of_getElem? (i := 1313) (by decide +kernel), List.mem_of_getElem? (i := 1314) (by decide +kernel)⟩
theorem lw_p58 : lw_okq (⟨"DeadAirModel", "notsOpen", "()I"⟩, 35) := ⟨⟨by decide +kernel, by decide +kernel⟩, List.mem_of_getElem? (i := 939) (by decide +kernel), List.mem_of_getElem? (i := 1320) (by decide +kernel), List.mem_of_getElem? (i := 1321) (by decide +kernel)⟩
theorem lw_p59 : lw_okq (⟨"DeadAirModel", "signHere", "()I"⟩, 35) := ⟨⟨by decide +kernel, by decide +kernel⟩, List.mem_of_getElem? (i := 939) (by decide +kernel), List.mem_of_getElem? (i := 1324) (by decide +kernel), List.mem_of_getElem? (i := 1325) (by decide +kernel)⟩
def lw_privs_4 : List (MethodName × Nat) := [(⟨"DeadAirModel", "hasBegun", "()I"⟩, 35), (⟨"DeadAirModel", "mostBy", "(IIIIII)I"⟩, 35), (⟨"DeadAirModel", "go", "()V"⟩, 35), (⟨"DeadAirModel", "isLetter", "(I)Z"⟩, 35), (⟨"DeadAirModel", "isFigure", "(I)Z"⟩, 35), (⟨"DeadAirModel", "takesKey", "()Z"⟩, 35), (⟨"DeadAirModel", "takesE", "()Z"⟩, 35), (⟨"DeadAirModel", "takesPart", "()Z"⟩, 35), (⟨"DeadAirModel", "nameOf", "(I)I"⟩, 35), (⟨"DeadAirModel", "settle", "(I)V"⟩, 35), (⟨"DeadAirModel", "notsOpen", "()I"⟩, 35), (⟨"DeadAirModel", "signHere", "()I"⟩, 35)]
theorem lw_r4 : ∀ q ∈ lw_privs_4, lw_okq q := List.forall_mem_cons.mpr ⟨lw_p48, List.forall_mem_cons.mpr ⟨lw_p49, List.forall_mem_cons.mpr ⟨lw_p50, List.forall_mem_cons.mpr ⟨lw_p51, List.forall_mem_cons.mpr ⟨lw_p52, List.forall_mem_cons.mpr ⟨lw_p53, List.forall_mem_cons.mpr ⟨lw_p54, List.forall_mem_cons.mpr ⟨lw_p55, List.forall_mem_cons.mpr ⟨lw_p56, List.forall_mem_cons.mpr ⟨lw_p57, List.forall_mem_cons.mpr ⟨lw_p58, List.forall_mem_cons.mpr ⟨lw_p59, fun _ h => absurd h List.not_mem_nil⟩⟩⟩⟩⟩⟩⟩⟩⟩⟩⟩⟩
def lw_privs : List (MethodName × Nat) := lw_privs_1 ++ (lw_privs_2 ++ (lw_privs_3 ++ (lw_privs_4)))
def lw_tbl : List Cond := k2_sels lw_privs ++ tables_1
theorem lw_privs_ok : ∀ q ∈ lw_privs, lw_okq q := by
  show ∀ q ∈ lw_privs_1 ++ (lw_privs_2 ++ (lw_privs_3 ++ (lw_privs_4))), lw_okq q
  exact List.forall_mem_append.mpr ⟨lw_r1, List.forall_mem_append.mpr ⟨lw_r2, List.forall_mem_append.mpr ⟨lw_r3, lw_r4⟩⟩⟩
def RX0 : String := "DeadAir$Best"
def TX0 : u_T := fun k => match k with
  | 0 => ("DeadAir$Best", "choice", "I", false)
  | _ => ("DeadAir$Best", "most", "I", false)
def tyX0 : Nat → FieldType := fun k => match k with
  | 0 => .int
  | _ => .int
abbrev wsX00 : List Cond := u_ws RX0 TX0 2
theorem nmX0 : ∀ a, a < 2 → ∀ b, b < 2 → a ≠ b → (TX0 a).2.1 ≠ (TX0 b).2.1 := by decide +kernel
theorem tyX0_ok : ∀ k, k < 2 → parseFieldDescriptor (TX0 k).2.2.1 = some (tyX0 k) := by decide +kernel
abbrev cX0_init : ByteArray := prog_2_method_1_code
def yX0_init : MethodName := ⟨RX0, "<init>", "()V"⟩
abbrev cX0_clear : ByteArray := prog_2_method_2_code
def yX0_clear : MethodName := ⟨RX0, "clear", "()V"⟩
abbrev cX0_weigh : ByteArray := prog_2_method_3_code
def yX0_weigh : MethodName := ⟨RX0, "weigh", "(II)V"⟩
abbrev cX0_answer : ByteArray := prog_2_method_4_code
def yX0_answer : MethodName := ⟨RX0, "answer", "(I)I"⟩
def RX1 : String := "DeadAir$Reader"
def TX1 : u_T := fun k => match k with
  | 0 => ("DeadAir$Reader", "bytes", "[I", true)
  | 1 => ("DeadAir$Reader", "length", "I", false)
  | 2 => ("DeadAir$Reader", "draft", "LDeadAir$Text;", true)
  | 3 => ("DeadAir$Reader", "signs", "[I", true)
  | 4 => ("DeadAir$Reader", "signsMany", "I", false)
  | 5 => ("DeadAir$Reader", "brackets", "I", false)
  | 6 => ("DeadAir$Reader", "nots", "I", false)
  | 7 => ("DeadAir$Reader", "pieceIsDue", "Z", false)
  | 8 => ("DeadAir$Reader", "from", "I", false)
  | 9 => ("DeadAir$Reader", "to", "I", false)
  | 10 => ("DeadAir$Reader", "isWord", "Z", false)
  | _ => ("DeadAir$Reader", "isGlued", "Z", false)
def tyX1 : Nat → FieldType := fun k => match k with
  | 0 => .array .int
  | 1 => .int
  | 2 => .object "DeadAir$Text"
  | 3 => .array .int
  | 4 => .int
  | 5 => .int
  | 6 => .int
  | 7 => .boolean
  | 8 => .int
  | 9 => .int
  | 10 => .boolean
  | _ => .boolean
abbrev wsX10 : List Cond := u_ws RX1 TX1 12
theorem nmX1 : ∀ a, a < 12 → ∀ b, b < 12 → a ≠ b → (TX1 a).2.1 ≠ (TX1 b).2.1 := by decide +kernel
theorem tyX1_ok : ∀ k, k < 12 → parseFieldDescriptor (TX1 k).2.2.1 = some (tyX1 k) := by decide +kernel
abbrev cX1_init : ByteArray := prog_3_method_1_code
def yX1_init : MethodName := ⟨RX1, "<init>", "()V"⟩
abbrev cX1_append : ByteArray := prog_3_method_2_code
def yX1_append : MethodName := ⟨RX1, "append", "(I)V"⟩
abbrev cX1_fault : ByteArray := prog_3_method_3_code
def yX1_fault : MethodName := ⟨RX1, "fault", "()I"⟩
abbrev cX1_start : ByteArray := prog_3_method_4_code
def yX1_start : MethodName := ⟨RX1, "start", "()V"⟩
abbrev cX1_step : ByteArray := prog_3_method_5_code
def yX1_step : MethodName := ⟨RX1, "step", "()V"⟩
abbrev cX1_goesOn : ByteArray := prog_3_method_6_code
def yX1_goesOn : MethodName := ⟨RX1, "goesOn", "()Z"⟩
abbrev cX1_keyHere : ByteArray := prog_3_method_7_code
def yX1_keyHere : MethodName := ⟨RX1, "keyHere", "()I"⟩
abbrev cX1_isHere : ByteArray := prog_3_method_8_code
def yX1_isHere : MethodName := ⟨RX1, "isHere", "(Ljava/lang/String;)Z"⟩
abbrev cX1_takesPiece : ByteArray := prog_3_method_9_code
def yX1_takesPiece : MethodName := ⟨RX1, "takesPiece", "()Z"⟩
abbrev cX1_takesNumber : ByteArray := prog_3_method_10_code
def yX1_takesNumber : MethodName := ⟨RX1, "takesNumber", "()Z"⟩
abbrev cX1_takesName : ByteArray := prog_3_method_11_code
def yX1_takesName : MethodName := ⟨RX1, "takesName", "(C)Z"⟩
abbrev cX1_takesAtom : ByteArray := prog_3_method_12_code
def yX1_takesAtom : MethodName := ⟨RX1, "takesAtom", "(I)V"⟩
abbrev cX1_takesSign : ByteArray := prog_3_method_13_code
def yX1_takesSign : MethodName := ⟨RX1, "takesSign", "()Z"⟩
abbrev cX1_closes : ByteArray := prog_3_method_14_code
def yX1_closes : MethodName := ⟨RX1, "closes", "()Z"⟩
abbrev cX1_hold : ByteArray := prog_3_method_15_code
def yX1_hold : MethodName := ⟨RX1, "hold", "(I)V"⟩
abbrev cX1_release : ByteArray := prog_3_method_16_code
def yX1_release : MethodName := ⟨RX1, "release", "(I)V"⟩
abbrev cX1_topRank : ByteArray := prog_3_method_17_code
def yX1_topRank : MethodName := ⟨RX1, "topRank", "()I"⟩
abbrev cX1_rank : ByteArray := prog_3_method_18_code
def yX1_rank : MethodName := ⟨RX1, "rank", "(I)I"⟩
abbrev cX1_isLetter : ByteArray := prog_3_method_19_code
def yX1_isLetter : MethodName := ⟨RX1, "isLetter", "(I)Z"⟩
abbrev cX1_isDigit : ByteArray := prog_3_method_20_code
def yX1_isDigit : MethodName := ⟨RX1, "isDigit", "(I)Z"⟩
def RX2 : String := "DeadAir$Sheet"
def TX2 : u_T := fun k => match k with
  | 0 => ("DeadAir$Sheet", "sort", "I", false)
  | 1 => ("DeadAir$Sheet", "size", "I", false)
  | _ => ("DeadAir$Sheet", "places", "[I", true)
def tyX2 : Nat → FieldType := fun k => match k with
  | 0 => .int
  | 1 => .int
  | _ => .array .int
abbrev wsX20 : List Cond := u_ws RX2 TX2 3
theorem nmX2 : ∀ a, a < 3 → ∀ b, b < 3 → a ≠ b → (TX2 a).2.1 ≠ (TX2 b).2.1 := by decide +kernel
theorem tyX2_ok : ∀ k, k < 3 → parseFieldDescriptor (TX2 k).2.2.1 = some (tyX2 k) := by decide +kernel
abbrev cX2_init : ByteArray := prog_4_method_1_code
def yX2_init : MethodName := ⟨RX2, "<init>", "()V"⟩
abbrev cX2_clear : ByteArray := prog_4_method_2_code
def yX2_clear : MethodName := ⟨RX2, "clear", "(II)V"⟩
abbrev cX2_become : ByteArray := prog_4_method_3_code
def yX2_become : MethodName := ⟨RX2, "become", "(LDeadAir$Sheet;)V"⟩
abbrev cX2_isMissing : ByteArray := prog_4_method_4_code
def yX2_isMissing : MethodName := ⟨RX2, "isMissing", "()Z"⟩
abbrev cX2_hasPlace : ByteArray := prog_4_method_5_code
def yX2_hasPlace : MethodName := ⟨RX2, "hasPlace", "(I)Z"⟩
abbrev cX2_hasPlaces : ByteArray := prog_4_method_6_code
def yX2_hasPlaces : MethodName := ⟨RX2, "hasPlaces", "(II)Z"⟩
abbrev cX2_isNumber : ByteArray := prog_4_method_7_code
def yX2_isNumber : MethodName := ⟨RX2, "isNumber", "(I)Z"⟩
def RX3 : String := "DeadAir$Slot"
def TX3 : u_T := fun k => match k with
  | 0 => ("DeadAir$Slot", "thing", "I", false)
  | 1 => ("DeadAir$Slot", "voice", "LDeadAir$Voice;", true)
  | 2 => ("DeadAir$Slot", "row", "LDeadAir$Sheet;", true)
  | _ => ("DeadAir$Slot", "number", "I", false)
def tyX3 : Nat → FieldType := fun k => match k with
  | 0 => .int
  | 1 => .object "DeadAir$Voice"
  | 2 => .object "DeadAir$Sheet"
  | _ => .int
abbrev wsX30 : List Cond := u_ws RX3 TX3 4
theorem nmX3 : ∀ a, a < 4 → ∀ b, b < 4 → a ≠ b → (TX3 a).2.1 ≠ (TX3 b).2.1 := by decide +kernel
theorem tyX3_ok : ∀ k, k < 4 → parseFieldDescriptor (TX3 k).2.2.1 = some (tyX3 k) := by decide +kernel
abbrev cX3_init : ByteArray := prog_5_method_1_code
def yX3_init : MethodName := ⟨RX3, "<init>", "()V"⟩
abbrev cX3_finding : ByteArray := prog_5_method_2_code
def yX3_finding : MethodName := ⟨RX3, "finding", "(I)I"⟩
def RX4 : String := "DeadAir$Studio"
def TX4 : u_T := fun k => match k with
  | 0 => ("DeadAir$Studio", "voices", "[LDeadAir$Voice;", true)
  | 1 => ("DeadAir$Studio", "many", "I", false)
  | 2 => ("DeadAir$Studio", "listeners", "I", false)
  | 3 => ("DeadAir$Studio", "cut", "I", false)
  | 4 => ("DeadAir$Studio", "fill", "I", false)
  | 5 => ("DeadAir$Studio", "silence", "I", false)
  | 6 => ("DeadAir$Studio", "silent", "I", false)
  | 7 => ("DeadAir$Studio", "longestHole", "I", false)
  | 8 => ("DeadAir$Studio", "breaths", "I", false)
  | 9 => ("DeadAir$Studio", "taken", "I", false)
  | 10 => ("DeadAir$Studio", "crossed", "I", false)
  | 11 => ("DeadAir$Studio", "jingles", "I", false)
  | 12 => ("DeadAir$Studio", "cuts", "I", false)
  | 13 => ("DeadAir$Studio", "last", "I", false)
  | 14 => ("DeadAir$Studio", "tenth", "I", false)
  | 15 => ("DeadAir$Studio", "z", "I", false)
  | 16 => ("DeadAir$Studio", "textsMany", "I", false)
  | 17 => ("DeadAir$Studio", "counting", "[I", true)
  | _ => ("DeadAir$Studio", "texts", "LDeadAir$Texts;", true)
def tyX4 : Nat → FieldType := fun k => match k with
  | 0 => .array (.object "DeadAir$Voice")
  | 1 => .int
  | 2 => .int
  | 3 => .int
  | 4 => .int
  | 5 => .int
  | 6 => .int
  | 7 => .int
  | 8 => .int
  | 9 => .int
  | 10 => .int
  | 11 => .int
  | 12 => .int
  | 13 => .int
  | 14 => .int
  | 15 => .int
  | 16 => .int
  | 17 => .array .int
  | _ => .object "DeadAir$Texts"
abbrev wsX40 : List Cond := u_ws RX4 TX4 19
theorem nmX4 : ∀ a, a < 19 → ∀ b, b < 19 → a ≠ b → (TX4 a).2.1 ≠ (TX4 b).2.1 := by decide +kernel
theorem tyX4_ok : ∀ k, k < 19 → parseFieldDescriptor (TX4 k).2.2.1 = some (tyX4 k) := by decide +kernel
abbrev cX4_init : ByteArray := prog_6_method_1_code
def yX4_init : MethodName := ⟨RX4, "<init>", "(LDeadAir$Texts;)V"⟩
abbrev cX4_become : ByteArray := prog_6_method_2_code
def yX4_become : MethodName := ⟨RX4, "become", "(LDeadAir$Studio;)V"⟩
abbrev cX4_has : ByteArray := prog_6_method_3_code
def yX4_has : MethodName := ⟨RX4, "has", "(I)Z"⟩
abbrev cX4_hasRoom : ByteArray := prog_6_method_4_code
def yX4_hasRoom : MethodName := ⟨RX4, "hasRoom", "()Z"⟩
abbrev cX4_seat : ByteArray := prog_6_method_5_code
def yX4_seat : MethodName := ⟨RX4, "seat", "(III)I"⟩
abbrev cX4_seatDrawn : ByteArray := prog_6_method_6_code
def yX4_seatDrawn : MethodName := ⟨RX4, "seatDrawn", "()V"⟩
abbrev cX4_addText : ByteArray := prog_6_method_7_code
def yX4_addText : MethodName := ⟨RX4, "addText", "(I)V"⟩
abbrev cX4_allows : ByteArray := prog_6_method_8_code
def yX4_allows : MethodName := ⟨RX4, "allows", "(II)Z"⟩
abbrev cX4_put : ByteArray := prog_6_method_9_code
def yX4_put : MethodName := ⟨RX4, "put", "(II)I"⟩
abbrev cX4_speakers : ByteArray := prog_6_method_10_code
def yX4_speakers : MethodName := ⟨RX4, "speakers", "()I"⟩
abbrev cX4_drawBelow : ByteArray := prog_6_method_11_code
def yX4_drawBelow : MethodName := ⟨RX4, "drawBelow", "(I)I"⟩
abbrev cX4_run : ByteArray := prog_6_method_12_code
def yX4_run : MethodName := ⟨RX4, "run", "(I)V"⟩
abbrev cX4_hear : ByteArray := prog_6_method_13_code
def yX4_hear : MethodName := ⟨RX4, "hear", "()V"⟩
abbrev cX4_goOn : ByteArray := prog_6_method_14_code
def yX4_goOn : MethodName := ⟨RX4, "goOn", "()V"⟩
abbrev cX4_whoIsReady : ByteArray := prog_6_method_15_code
def yX4_whoIsReady : MethodName := ⟨RX4, "whoIsReady", "()I"⟩
abbrev cX4_answerSilence : ByteArray := prog_6_method_16_code
def yX4_answerSilence : MethodName := ⟨RX4, "answerSilence", "(I)V"⟩
abbrev cX4_beginAlone : ByteArray := prog_6_method_17_code
def yX4_beginAlone : MethodName := ⟨RX4, "beginAlone", "(I)V"⟩
abbrev cX4_cross : ByteArray := prog_6_method_18_code
def yX4_cross : MethodName := ⟨RX4, "cross", "(I)V"⟩
abbrev cX4_begin : ByteArray := prog_6_method_19_code
def yX4_begin : MethodName := ⟨RX4, "begin", "(LDeadAir$Voice;)V"⟩
abbrev cX4_bearSilence : ByteArray := prog_6_method_20_code
def yX4_bearSilence : MethodName := ⟨RX4, "bearSilence", "()V"⟩
abbrev cX4_turningOff : ByteArray := prog_6_method_21_code
def yX4_turningOff : MethodName := ⟨RX4, "turningOff", "()I"⟩
abbrev cX4_firstWhoSaidMore : ByteArray := prog_6_method_22_code
def yX4_firstWhoSaidMore : MethodName := ⟨RX4, "firstWhoSaidMore", "(LDeadAir$Studio;)I"⟩
def RX5 : String := "DeadAir$Text"
def TX5 : u_T := fun k => match k with
  | 0 => ("DeadAir$Text", "key", "I", false)
  | 1 => ("DeadAir$Text", "atoms", "I", false)
  | 2 => ("DeadAir$Text", "size", "I", false)
  | _ => ("DeadAir$Text", "code", "[I", true)
def tyX5 : Nat → FieldType := fun k => match k with
  | 0 => .int
  | 1 => .int
  | 2 => .int
  | _ => .array .int
abbrev wsX50 : List Cond := u_ws RX5 TX5 4
theorem nmX5 : ∀ a, a < 4 → ∀ b, b < 4 → a ≠ b → (TX5 a).2.1 ≠ (TX5 b).2.1 := by decide +kernel
theorem tyX5_ok : ∀ k, k < 4 → parseFieldDescriptor (TX5 k).2.2.1 = some (tyX5 k) := by decide +kernel
abbrev cX5_init : ByteArray := prog_7_method_1_code
def yX5_init : MethodName := ⟨RX5, "<init>", "()V"⟩
abbrev cX5_clear : ByteArray := prog_7_method_2_code
def yX5_clear : MethodName := ⟨RX5, "clear", "()V"⟩
abbrev cX5_become : ByteArray := prog_7_method_3_code
def yX5_become : MethodName := ⟨RX5, "become", "(LDeadAir$Text;)V"⟩
abbrev cX5_put : ByteArray := prog_7_method_4_code
def yX5_put : MethodName := ⟨RX5, "put", "(I)V"⟩
def RX6 : String := "DeadAir$Texts"
def TX6 : u_T := fun k => match k with
  | 0 => ("DeadAir$Texts", "list", "[LDeadAir$Text;", true)
  | _ => ("DeadAir$Texts", "stack", "[I", true)
def tyX6 : Nat → FieldType := fun k => match k with
  | 0 => .array (.object "DeadAir$Text")
  | _ => .array .int
abbrev wsX60 : List Cond := u_ws RX6 TX6 2
theorem nmX6 : ∀ a, a < 2 → ∀ b, b < 2 → a ≠ b → (TX6 a).2.1 ≠ (TX6 b).2.1 := by decide +kernel
theorem tyX6_ok : ∀ k, k < 2 → parseFieldDescriptor (TX6 k).2.2.1 = some (tyX6 k) := by decide +kernel
abbrev cX6_init : ByteArray := prog_8_method_1_code
def yX6_init : MethodName := ⟨RX6, "<init>", "()V"⟩
abbrev cX6_give : ByteArray := prog_8_method_2_code
def yX6_give : MethodName := ⟨RX6, "give", "(IIII)I"⟩
abbrev cX6_join : ByteArray := prog_8_method_3_code
def yX6_join : MethodName := ⟨RX6, "join", "(III)I"⟩
def RX7 : String := "DeadAir$Voice"
def TX7 : u_T := fun k => match k with
  | 0 => ("DeadAir$Voice", "kind", "I", false)
  | 1 => ("DeadAir$Voice", "wait", "I", false)
  | 2 => ("DeadAir$Voice", "talk", "I", false)
  | 3 => ("DeadAir$Voice", "pause", "I", false)
  | 4 => ("DeadAir$Voice", "left", "I", false)
  | 5 => ("DeadAir$Voice", "back", "I", false)
  | _ => ("DeadAir$Voice", "said", "I", false)
def tyX7 : Nat → FieldType := fun k => match k with
  | 0 => .int
  | 1 => .int
  | 2 => .int
  | 3 => .int
  | 4 => .int
  | 5 => .int
  | _ => .int
abbrev wsX70 : List Cond := u_ws RX7 TX7 7
theorem nmX7 : ∀ a, a < 7 → ∀ b, b < 7 → a ≠ b → (TX7 a).2.1 ≠ (TX7 b).2.1 := by decide +kernel
theorem tyX7_ok : ∀ k, k < 7 → parseFieldDescriptor (TX7 k).2.2.1 = some (tyX7 k) := by decide +kernel
abbrev cX7_init : ByteArray := prog_9_method_1_code
def yX7_init : MethodName := ⟨RX7, "<init>", "()V"⟩
abbrev cX7_allows : ByteArray := prog_9_method_2_code
def yX7_allows : MethodName := ⟨RX7, "allows", "(II)Z"⟩
abbrev cX7_put : ByteArray := prog_9_method_3_code
def yX7_put : MethodName := ⟨RX7, "put", "(II)I"⟩
abbrev cX7_become : ByteArray := prog_9_method_4_code
def yX7_become : MethodName := ⟨RX7, "become", "(LDeadAir$Voice;)V"⟩
abbrev cX7_isOf : ByteArray := prog_9_method_5_code
def yX7_isOf : MethodName := ⟨RX7, "isOf", "(I)Z"⟩
abbrev cX7_aboveHer : ByteArray := prog_9_method_6_code
def yX7_aboveHer : MethodName := ⟨RX7, "aboveHer", "()I"⟩
abbrev cX7_waits : ByteArray := prog_9_method_7_code
def yX7_waits : MethodName := ⟨RX7, "waits", "(Z)I"⟩
abbrev cX7_isReady : ByteArray := prog_9_method_8_code
def yX7_isReady : MethodName := ⟨RX7, "isReady", "(IZ)Z"⟩
abbrev cX7_talks : ByteArray := prog_9_method_9_code
def yX7_talks : MethodName := ⟨RX7, "talks", "()I"⟩
abbrev cX7_yields : ByteArray := prog_9_method_10_code
def yX7_yields : MethodName := ⟨RX7, "yields", "()Z"⟩
abbrev cX7_worth : ByteArray := prog_9_method_11_code
def yX7_worth : MethodName := ⟨RX7, "worth", "()I"⟩
def RX8 : String := "DeadAir"
def TX8 : u_T := fun k => match k with
  | 0 => ("DeadAir", "texts", "LDeadAir$Texts;", true)
  | 1 => ("DeadAir", "reader", "LDeadAir$Reader;", true)
  | 2 => ("DeadAir", "now", "LDeadAir$Studio;", true)
  | 3 => ("DeadAir", "thought", "LDeadAir$Studio;", true)
  | 4 => ("DeadAir", "image", "LDeadAir$Studio;", true)
  | 5 => ("DeadAir", "imageKept", "Z", false)
  | 6 => ("DeadAir", "best", "LDeadAir$Best;", true)
  | 7 => ("DeadAir", "sheets", "[LDeadAir$Sheet;", true)
  | 8 => ("DeadAir", "slots", "[LDeadAir$Slot;", true)
  | 9 => ("DeadAir", "waiting", "[I", true)
  | _ => ("DeadAir", "waitingMany", "I", false)
def tyX8 : Nat → FieldType := fun k => match k with
  | 0 => .object "DeadAir$Texts"
  | 1 => .object "DeadAir$Reader"
  | 2 => .object "DeadAir$Studio"
  | 3 => .object "DeadAir$Studio"
  | 4 => .object "DeadAir$Studio"
  | 5 => .boolean
  | 6 => .object "DeadAir$Best"
  | 7 => .array (.object "DeadAir$Sheet")
  | 8 => .array (.object "DeadAir$Slot")
  | 9 => .array .int
  | _ => .int
abbrev wsX80 : List Cond := u_ws RX8 TX8 11
theorem nmX8 : ∀ a, a < 11 → ∀ b, b < 11 → a ≠ b → (TX8 a).2.1 ≠ (TX8 b).2.1 := by decide +kernel
theorem tyX8_ok : ∀ k, k < 11 → parseFieldDescriptor (TX8 k).2.2.1 = some (tyX8 k) := by decide +kernel
abbrev cX8_init : ByteArray := prog_1_method_1_code
def yX8_init : MethodName := ⟨RX8, "<init>", "()V"⟩
abbrev cX8_voice : ByteArray := prog_1_method_2_code
def yX8_voice : MethodName := ⟨RX8, "voice", "(III)I"⟩
abbrev cX8_told : ByteArray := prog_1_method_3_code
def yX8_told : MethodName := ⟨RX8, "told", "(II)I"⟩
abbrev cX8_as : ByteArray := prog_1_method_4_code
def yX8_as : MethodName := ⟨RX8, "as", "(II)I"⟩
abbrev cX8_turns : ByteArray := prog_1_method_5_code
def yX8_turns : MethodName := ⟨RX8, "turns", "(II)I"⟩
abbrev cX8_set : ByteArray := prog_1_method_6_code
def yX8_set : MethodName := ⟨RX8, "set", "(III)I"⟩
abbrev cX8_speak : ByteArray := prog_1_method_7_code
def yX8_speak : MethodName := ⟨RX8, "speak", "(II)I"⟩
abbrev cX8_hush : ByteArray := prog_1_method_8_code
def yX8_hush : MethodName := ⟨RX8, "hush", "(I)I"⟩
abbrev cX8_air : ByteArray := prog_1_method_9_code
def yX8_air : MethodName := ⟨RX8, "air", "(II)I"⟩
abbrev cX8_deal : ByteArray := prog_1_method_10_code
def yX8_deal : MethodName := ⟨RX8, "deal", "(I)I"⟩
abbrev cX8_seed : ByteArray := prog_1_method_11_code
def yX8_seed : MethodName := ⟨RX8, "seed", "(I)I"⟩
abbrev cX8_tenths : ByteArray := prog_1_method_12_code
def yX8_tenths : MethodName := ⟨RX8, "tenths", "(I)I"⟩
abbrev cX8_studio : ByteArray := prog_1_method_13_code
def yX8_studio : MethodName := ⟨RX8, "studio", "(I)I"⟩
abbrev cX8_behind : ByteArray := prog_1_method_14_code
def yX8_behind : MethodName := ⟨RX8, "behind", "(II)I"⟩
abbrev cX8_next : ByteArray := prog_1_method_15_code
def yX8_next : MethodName := ⟨RX8, "next", "(I)I"⟩
abbrev cX8_hole : ByteArray := prog_1_method_16_code
def yX8_hole : MethodName := ⟨RX8, "hole", "(I)I"⟩
abbrev cX8_patience : ByteArray := prog_1_method_17_code
def yX8_patience : MethodName := ⟨RX8, "patience", "(III)I"⟩
abbrev cX8_device : ByteArray := prog_1_method_18_code
def yX8_device : MethodName := ⟨RX8, "device", "(II)I"⟩
abbrev cX8_filler : ByteArray := prog_1_method_19_code
def yX8_filler : MethodName := ⟨RX8, "filler", "(II)I"⟩
abbrev cX8_becomes : ByteArray := prog_1_method_20_code
def yX8_becomes : MethodName := ⟨RX8, "becomes", "(III)I"⟩
abbrev cX8_apart : ByteArray := prog_1_method_21_code
def yX8_apart : MethodName := ⟨RX8, "apart", "(III)I"⟩
abbrev cX8_whose : ByteArray := prog_1_method_22_code
def yX8_whose : MethodName := ⟨RX8, "whose", "(II)I"⟩
abbrev cX8_fee : ByteArray := prog_1_method_23_code
def yX8_fee : MethodName := ⟨RX8, "fee", "()I"⟩
abbrev cX8_fine : ByteArray := prog_1_method_24_code
def yX8_fine : MethodName := ⟨RX8, "fine", "(I)I"⟩
abbrev cX8_feed : ByteArray := prog_1_method_25_code
def yX8_feed : MethodName := ⟨RX8, "feed", "(III)I"⟩
abbrev cX8_trim : ByteArray := prog_1_method_26_code
def yX8_trim : MethodName := ⟨RX8, "trim", "(I)I"⟩
abbrev cX8_text : ByteArray := prog_1_method_27_code
def yX8_text : MethodName := ⟨RX8, "text", "()I"⟩
abbrev cX8_textTold : ByteArray := prog_1_method_28_code
def yX8_textTold : MethodName := ⟨RX8, "textTold", "(II)I"⟩
abbrev cX8_why : ByteArray := prog_1_method_29_code
def yX8_why : MethodName := ⟨RX8, "why", "(I)I"⟩
abbrev cX8_sheet : ByteArray := prog_1_method_30_code
def yX8_sheet : MethodName := ⟨RX8, "sheet", "(III)I"⟩
abbrev cX8_mark : ByteArray := prog_1_method_31_code
def yX8_mark : MethodName := ⟨RX8, "mark", "(III)I"⟩
abbrev cX8_pour : ByteArray := prog_1_method_32_code
def yX8_pour : MethodName := ⟨RX8, "pour", "(I)I"⟩
abbrev cX8_reads : ByteArray := prog_1_method_33_code
def yX8_reads : MethodName := ⟨RX8, "reads", "(I)I"⟩
abbrev cX8_copy : ByteArray := prog_1_method_34_code
def yX8_copy : MethodName := ⟨RX8, "copy", "(IIIII)I"⟩
abbrev cX8_lay : ByteArray := prog_1_method_35_code
def yX8_lay : MethodName := ⟨RX8, "lay", "(III)I"⟩
abbrev cX8_ask : ByteArray := prog_1_method_36_code
def yX8_ask : MethodName := ⟨RX8, "ask", "(II)I"⟩
abbrev cX8_item : ByteArray := prog_1_method_37_code
def yX8_item : MethodName := ⟨RX8, "item", "(II)I"⟩
abbrev cX8_rest : ByteArray := prog_1_method_38_code
def yX8_rest : MethodName := ⟨RX8, "rest", "(II)I"⟩
abbrev cX8_tell : ByteArray := prog_1_method_39_code
def yX8_tell : MethodName := ⟨RX8, "tell", "(I)I"⟩
abbrev cX8_check : ByteArray := prog_1_method_40_code
def yX8_check : MethodName := ⟨RX8, "check", "(I)I"⟩
abbrev cX8_keep : ByteArray := prog_1_method_41_code
def yX8_keep : MethodName := ⟨RX8, "keep", "()I"⟩
abbrev cX8_back : ByteArray := prog_1_method_42_code
def yX8_back : MethodName := ⟨RX8, "back", "()I"⟩
abbrev cX8_count : ByteArray := prog_1_method_43_code
def yX8_count : MethodName := ⟨RX8, "count", "(I)I"⟩
abbrev cX8_isWaiting : ByteArray := prog_1_method_44_code
def yX8_isWaiting : MethodName := ⟨RX8, "isWaiting", "(III)Z"⟩
abbrev cX8_differences : ByteArray := prog_1_method_45_code
def yX8_differences : MethodName := ⟨RX8, "differences", "(ILDeadAir$Sheet;)I"⟩
abbrev cX8_isBestAsked : ByteArray := prog_1_method_46_code
def yX8_isBestAsked : MethodName := ⟨RX8, "isBestAsked", "(II)Z"⟩
abbrev cX8_isKind : ByteArray := prog_1_method_47_code
def yX8_isKind : MethodName := ⟨RX8, "isKind", "(I)Z"⟩
abbrev cX8_isSheet : ByteArray := prog_1_method_48_code
def yX8_isSheet : MethodName := ⟨RX8, "isSheet", "(I)Z"⟩
abbrev cX8_isSlot : ByteArray := prog_1_method_49_code
def yX8_isSlot : MethodName := ⟨RX8, "isSlot", "(I)Z"⟩
abbrev cX8_within : ByteArray := prog_1_method_50_code
def yX8_within : MethodName := ⟨RX8, "within", "(III)Z"⟩
def RX9 : String := "DeadAirModel"
def TX9 : u_T := fun k => match k with
  | 0 => ("DeadAirModel", "now", "[I", true)
  | 1 => ("DeadAirModel", "image", "[I", true)
  | 2 => ("DeadAirModel", "aside", "[I", true)
  | 3 => ("DeadAirModel", "hasImage", "Z", false)
  | 4 => ("DeadAirModel", "heardSilence", "I", false)
  | 5 => ("DeadAirModel", "before", "[I", true)
  | 6 => ("DeadAirModel", "differ", "[J", true)
  | 7 => ("DeadAirModel", "tape", "[I", true)
  | 8 => ("DeadAirModel", "taped", "I", false)
  | 9 => ("DeadAirModel", "next", "I", false)
  | 10 => ("DeadAirModel", "from", "I", false)
  | 11 => ("DeadAirModel", "token", "I", false)
  | 12 => ("DeadAirModel", "value", "I", false)
  | 13 => ("DeadAirModel", "ended", "I", false)
  | 14 => ("DeadAirModel", "key", "I", false)
  | 15 => ("DeadAirModel", "keys", "[C", true)
  | 16 => ("DeadAirModel", "keyAt", "[I", true)
  | 17 => ("DeadAirModel", "code", "[I", true)
  | 18 => ("DeadAirModel", "codes", "I", false)
  | 19 => ("DeadAirModel", "atoms", "I", false)
  | 20 => ("DeadAirModel", "waits", "[I", true)
  | 21 => ("DeadAirModel", "held", "I", false)
  | 22 => ("DeadAirModel", "tested", "[Z", true)
  | 23 => ("DeadAirModel", "stack", "[I", true)
  | 24 => ("DeadAirModel", "facts", "[I", true)
  | 25 => ("DeadAirModel", "sorts", "[I", true)
  | 26 => ("DeadAirModel", "sizes", "[I", true)
  | 27 => ("DeadAirModel", "cells", "[I", true)
  | 28 => ("DeadAirModel", "holds", "[I", true)
  | 29 => ("DeadAirModel", "holdsA", "[I", true)
  | 30 => ("DeadAirModel", "holdsB", "[I", true)
  | 31 => ("DeadAirModel", "heldCells", "[I", true)
  | 32 => ("DeadAirModel", "moved", "[I", true)
  | 33 => ("DeadAirModel", "tells", "[I", true)
  | _ => ("DeadAirModel", "waiting", "I", false)
def tyX9 : Nat → FieldType := fun k => match k with
  | 0 => .array .int
  | 1 => .array .int
  | 2 => .array .int
  | 3 => .boolean
  | 4 => .int
  | 5 => .array .int
  | 6 => .array .long
  | 7 => .array .int
  | 8 => .int
  | 9 => .int
  | 10 => .int
  | 11 => .int
  | 12 => .int
  | 13 => .int
  | 14 => .int
  | 15 => .array .char
  | 16 => .array .int
  | 17 => .array .int
  | 18 => .int
  | 19 => .int
  | 20 => .array .int
  | 21 => .int
  | 22 => .array .boolean
  | 23 => .array .int
  | 24 => .array .int
  | 25 => .array .int
  | 26 => .array .int
  | 27 => .array .int
  | 28 => .array .int
  | 29 => .array .int
  | 30 => .array .int
  | 31 => .array .int
  | 32 => .array .int
  | 33 => .array .int
  | _ => .int
abbrev wsX90 : List Cond := u_ws RX9 TX9 35
theorem nmX9 : ∀ a, a < 35 → ∀ b, b < 35 → a ≠ b → (TX9 a).2.1 ≠ (TX9 b).2.1 := by decide +kernel
theorem tyX9_ok : ∀ k, k < 35 → parseFieldDescriptor (TX9 k).2.2.1 = some (tyX9 k) := by decide +kernel
abbrev cX9_init : ByteArray := prog_11_method_1_code
def yX9_init : MethodName := ⟨RX9, "<init>", "()V"⟩
abbrev cX9_in : ByteArray := prog_11_method_2_code
def yX9_in : MethodName := ⟨RX9, "in", "(III)Z"⟩
abbrev cX9_within : ByteArray := prog_11_method_3_code
def yX9_within : MethodName := ⟨RX9, "within", "(III)I"⟩
abbrev cX9_copyAll : ByteArray := prog_11_method_4_code
def yX9_copyAll : MethodName := ⟨RX9, "copyAll", "([I[I)V"⟩
abbrev cX9_isVoice : ByteArray := prog_11_method_5_code
def yX9_isVoice : MethodName := ⟨RX9, "isVoice", "(I)Z"⟩
abbrev cX9_of : ByteArray := prog_11_method_6_code
def yX9_of : MethodName := ⟨RX9, "of", "(II)I"⟩
abbrev cX9_put : ByteArray := prog_11_method_7_code
def yX9_put : MethodName := ⟨RX9, "put", "(III)V"⟩
abbrev cX9_swaps : ByteArray := prog_11_method_8_code
def yX9_swaps : MethodName := ⟨RX9, "swaps", "(II)I"⟩
abbrev cX9_comes : ByteArray := prog_11_method_9_code
def yX9_comes : MethodName := ⟨RX9, "comes", "(III)I"⟩
abbrev cX9_isOf : ByteArray := prog_11_method_10_code
def yX9_isOf : MethodName := ⟨RX9, "isOf", "(II)Z"⟩
abbrev cX9_voice : ByteArray := prog_11_method_11_code
def yX9_voice : MethodName := ⟨RX9, "voice", "(III)I"⟩
abbrev cX9_waitsOf : ByteArray := prog_11_method_12_code
def yX9_waitsOf : MethodName := ⟨RX9, "waitsOf", "(I)I"⟩
abbrev cX9_talksOf : ByteArray := prog_11_method_13_code
def yX9_talksOf : MethodName := ⟨RX9, "talksOf", "(I)I"⟩
abbrev cX9_doesYield : ByteArray := prog_11_method_14_code
def yX9_doesYield : MethodName := ⟨RX9, "doesYield", "(I)Z"⟩
abbrev cX9_worthOf : ByteArray := prog_11_method_15_code
def yX9_worthOf : MethodName := ⟨RX9, "worthOf", "(I)I"⟩
abbrev cX9_told : ByteArray := prog_11_method_16_code
def yX9_told : MethodName := ⟨RX9, "told", "(II)I"⟩
abbrev cX9_isUnder : ByteArray := prog_11_method_17_code
def yX9_isUnder : MethodName := ⟨RX9, "isUnder", "(II)Z"⟩
abbrev cX9_as : ByteArray := prog_11_method_18_code
def yX9_as : MethodName := ⟨RX9, "as", "(II)I"⟩
abbrev cX9_turns : ByteArray := prog_11_method_19_code
def yX9_turns : MethodName := ⟨RX9, "turns", "(II)I"⟩
abbrev cX9_set : ByteArray := prog_11_method_20_code
def yX9_set : MethodName := ⟨RX9, "set", "(III)I"⟩
abbrev cX9_speak : ByteArray := prog_11_method_21_code
def yX9_speak : MethodName := ⟨RX9, "speak", "(II)I"⟩
abbrev cX9_hush : ByteArray := prog_11_method_22_code
def yX9_hush : MethodName := ⟨RX9, "hush", "(I)I"⟩
abbrev cX9_air : ByteArray := prog_11_method_23_code
def yX9_air : MethodName := ⟨RX9, "air", "(II)I"⟩
abbrev cX9_draw : ByteArray := prog_11_method_24_code
def yX9_draw : MethodName := ⟨RX9, "draw", "()I"⟩
abbrev cX9_deal : ByteArray := prog_11_method_25_code
def yX9_deal : MethodName := ⟨RX9, "deal", "(I)I"⟩
abbrev cX9_seed : ByteArray := prog_11_method_26_code
def yX9_seed : MethodName := ⟨RX9, "seed", "(I)I"⟩
abbrev cX9_speaking : ByteArray := prog_11_method_27_code
def yX9_speaking : MethodName := ⟨RX9, "speaking", "()I"⟩
abbrev cX9_ready : ByteArray := prog_11_method_28_code
def yX9_ready : MethodName := ⟨RX9, "ready", "()I"⟩
abbrev cX9_begins : ByteArray := prog_11_method_29_code
def yX9_begins : MethodName := ⟨RX9, "begins", "(I)V"⟩
abbrev cX9_crosses : ByteArray := prog_11_method_30_code
def yX9_crosses : MethodName := ⟨RX9, "crosses", "(I)V"⟩
abbrev cX9_turnsTo : ByteArray := prog_11_method_31_code
def yX9_turnsTo : MethodName := ⟨RX9, "turnsTo", "(I)V"⟩
abbrev cX9_offGives : ByteArray := prog_11_method_32_code
def yX9_offGives : MethodName := ⟨RX9, "offGives", "()I"⟩
abbrev cX9_hearsNothing : ByteArray := prog_11_method_33_code
def yX9_hearsNothing : MethodName := ⟨RX9, "hearsNothing", "()V"⟩
abbrev cX9_tenth : ByteArray := prog_11_method_34_code
def yX9_tenth : MethodName := ⟨RX9, "tenth", "()V"⟩
abbrev cX9_goesOn : ByteArray := prog_11_method_35_code
def yX9_goesOn : MethodName := ⟨RX9, "goesOn", "(I)V"⟩
abbrev cX9_tenths : ByteArray := prog_11_method_36_code
def yX9_tenths : MethodName := ⟨RX9, "tenths", "(I)I"⟩
abbrev cX9_studio : ByteArray := prog_11_method_37_code
def yX9_studio : MethodName := ⟨RX9, "studio", "(I)I"⟩
abbrev cX9_thinks : ByteArray := prog_11_method_38_code
def yX9_thinks : MethodName := ⟨RX9, "thinks", "()V"⟩
abbrev cX9_putsBack : ByteArray := prog_11_method_39_code
def yX9_putsBack : MethodName := ⟨RX9, "putsBack", "()V"⟩
abbrev cX9_behind : ByteArray := prog_11_method_40_code
def yX9_behind : MethodName := ⟨RX9, "behind", "(II)I"⟩
abbrev cX9_hasBegun : ByteArray := prog_11_method_41_code
def yX9_hasBegun : MethodName := ⟨RX9, "hasBegun", "()I"⟩
abbrev cX9_next : ByteArray := prog_11_method_42_code
def yX9_next : MethodName := ⟨RX9, "next", "(I)I"⟩
abbrev cX9_hole : ByteArray := prog_11_method_43_code
def yX9_hole : MethodName := ⟨RX9, "hole", "(I)I"⟩
abbrev cX9_mostBy : ByteArray := prog_11_method_44_code
def yX9_mostBy : MethodName := ⟨RX9, "mostBy", "(IIIIII)I"⟩
abbrev cX9_areAsked : ByteArray := prog_11_method_45_code
def yX9_areAsked : MethodName := ⟨RX9, "areAsked", "(II)Z"⟩
abbrev cX9_patience : ByteArray := prog_11_method_46_code
def yX9_patience : MethodName := ⟨RX9, "patience", "(III)I"⟩
abbrev cX9_device : ByteArray := prog_11_method_47_code
def yX9_device : MethodName := ⟨RX9, "device", "(II)I"⟩
abbrev cX9_filler : ByteArray := prog_11_method_48_code
def yX9_filler : MethodName := ⟨RX9, "filler", "(II)I"⟩
abbrev cX9_becomes : ByteArray := prog_11_method_49_code
def yX9_becomes : MethodName := ⟨RX9, "becomes", "(III)I"⟩
abbrev cX9_apart : ByteArray := prog_11_method_50_code
def yX9_apart : MethodName := ⟨RX9, "apart", "(III)I"⟩
abbrev cX9_whose : ByteArray := prog_11_method_51_code
def yX9_whose : MethodName := ⟨RX9, "whose", "(II)I"⟩
abbrev cX9_fee : ByteArray := prog_11_method_52_code
def yX9_fee : MethodName := ⟨RX9, "fee", "()I"⟩
abbrev cX9_fine : ByteArray := prog_11_method_53_code
def yX9_fine : MethodName := ⟨RX9, "fine", "(I)I"⟩
abbrev cX9_feed : ByteArray := prog_11_method_54_code
def yX9_feed : MethodName := ⟨RX9, "feed", "(III)I"⟩
abbrev cX9_trim : ByteArray := prog_11_method_55_code
def yX9_trim : MethodName := ⟨RX9, "trim", "(I)I"⟩
abbrev cX9_isLetter : ByteArray := prog_11_method_56_code
def yX9_isLetter : MethodName := ⟨RX9, "isLetter", "(I)Z"⟩
abbrev cX9_isFigure : ByteArray := prog_11_method_57_code
def yX9_isFigure : MethodName := ⟨RX9, "isFigure", "(I)Z"⟩
abbrev cX9_go : ByteArray := prog_11_method_58_code
def yX9_go : MethodName := ⟨RX9, "go", "()V"⟩
abbrev cX9_takesKey : ByteArray := prog_11_method_59_code
def yX9_takesKey : MethodName := ⟨RX9, "takesKey", "()Z"⟩
abbrev cX9_nameOf : ByteArray := prog_11_method_60_code
def yX9_nameOf : MethodName := ⟨RX9, "nameOf", "(I)I"⟩
abbrev cX9_rank : ByteArray := prog_11_method_61_code
def yX9_rank : MethodName := ⟨RX9, "rank", "(I)I"⟩
abbrev cX9_settle : ByteArray := prog_11_method_62_code
def yX9_settle : MethodName := ⟨RX9, "settle", "(I)V"⟩
abbrev cX9_signHere : ByteArray := prog_11_method_63_code
def yX9_signHere : MethodName := ⟨RX9, "signHere", "()I"⟩
abbrev cX9_takesPart : ByteArray := prog_11_method_64_code
def yX9_takesPart : MethodName := ⟨RX9, "takesPart", "()Z"⟩
abbrev cX9_takesE : ByteArray := prog_11_method_65_code
def yX9_takesE : MethodName := ⟨RX9, "takesE", "()Z"⟩
abbrev cX9_notsOpen : ByteArray := prog_11_method_66_code
def yX9_notsOpen : MethodName := ⟨RX9, "notsOpen", "()I"⟩
abbrev cX9_text : ByteArray := prog_11_method_67_code
def yX9_text : MethodName := ⟨RX9, "text", "()I"⟩
abbrev cX9_textTold : ByteArray := prog_11_method_68_code
def yX9_textTold : MethodName := ⟨RX9, "textTold", "(II)I"⟩
abbrev cX9_counts : ByteArray := prog_11_method_69_code
def yX9_counts : MethodName := ⟨RX9, "counts", "(I)I"⟩
abbrev cX9_why : ByteArray := prog_11_method_70_code
def yX9_why : MethodName := ⟨RX9, "why", "(I)I"⟩
abbrev cX9_two : ByteArray := prog_11_method_71_code
def yX9_two : MethodName := ⟨RX9, "two", "(III)I"⟩
abbrev cX9_worksOut : ByteArray := prog_11_method_72_code
def yX9_worksOut : MethodName := ⟨RX9, "worksOut", "(I)I"⟩
abbrev cX9_isSheet : ByteArray := prog_11_method_73_code
def yX9_isSheet : MethodName := ⟨RX9, "isSheet", "(I)Z"⟩
abbrev cX9_isSlot : ByteArray := prog_11_method_74_code
def yX9_isSlot : MethodName := ⟨RX9, "isSlot", "(I)Z"⟩
abbrev cX9_sheet : ByteArray := prog_11_method_75_code
def yX9_sheet : MethodName := ⟨RX9, "sheet", "(III)I"⟩
abbrev cX9_mark : ByteArray := prog_11_method_76_code
def yX9_mark : MethodName := ⟨RX9, "mark", "(III)I"⟩
abbrev cX9_pour : ByteArray := prog_11_method_77_code
def yX9_pour : MethodName := ⟨RX9, "pour", "(I)I"⟩
abbrev cX9_reads : ByteArray := prog_11_method_78_code
def yX9_reads : MethodName := ⟨RX9, "reads", "(I)I"⟩
abbrev cX9_copy : ByteArray := prog_11_method_79_code
def yX9_copy : MethodName := ⟨RX9, "copy", "(IIIII)I"⟩
abbrev cX9_lay : ByteArray := prog_11_method_80_code
def yX9_lay : MethodName := ⟨RX9, "lay", "(III)I"⟩
abbrev cX9_ask : ByteArray := prog_11_method_81_code
def yX9_ask : MethodName := ⟨RX9, "ask", "(II)I"⟩
abbrev cX9_item : ByteArray := prog_11_method_82_code
def yX9_item : MethodName := ⟨RX9, "item", "(II)I"⟩
abbrev cX9_rest : ByteArray := prog_11_method_83_code
def yX9_rest : MethodName := ⟨RX9, "rest", "(II)I"⟩
abbrev cX9_tell : ByteArray := prog_11_method_84_code
def yX9_tell : MethodName := ⟨RX9, "tell", "(I)I"⟩
abbrev cX9_check : ByteArray := prog_11_method_85_code
def yX9_check : MethodName := ⟨RX9, "check", "(I)I"⟩
abbrev cX9_keep : ByteArray := prog_11_method_86_code
def yX9_keep : MethodName := ⟨RX9, "keep", "()I"⟩
abbrev cX9_back : ByteArray := prog_11_method_87_code
def yX9_back : MethodName := ⟨RX9, "back", "()I"⟩
abbrev cX9_count : ByteArray := prog_11_method_88_code
def yX9_count : MethodName := ⟨RX9, "count", "(I)I"⟩
def RJ6 : String := "java/lang/Integer"
abbrev cJ6_bitCount_0f7a4 : ByteArray := prog_13_method_49_code
def yJ6_bitCount_0f7a4 : MethodName := ⟨RJ6, "bitCount", "(I)I"⟩
def RJ0 : String := "java/lang/String"
abbrev cJ0_length_8abf5 : ByteArray := prog_15_method_54_code
def yJ0_length_8abf5 : MethodName := ⟨RJ0, "length", "()I"⟩
abbrev cJ0_charAt_5068e : ByteArray := prog_15_method_56_code
def yJ0_charAt_5068e : MethodName := ⟨RJ0, "charAt", "(I)C"⟩
abbrev cJ0_indexOf_0f7a4 : ByteArray := prog_15_method_79_code
def yJ0_indexOf_0f7a4 : MethodName := ⟨RJ0, "indexOf", "(I)I"⟩
abbrev cJ0_indexOf_7cf53 : ByteArray := prog_15_method_80_code
def yJ0_indexOf_7cf53 : MethodName := ⟨RJ0, "indexOf", "(II)I"⟩
abbrev cJ0_coder_7d493 : ByteArray := prog_15_method_152_code
def yJ0_coder_7d493 : MethodName := ⟨RJ0, "coder", "()B"⟩
abbrev cJ0_isLatin1_aae02 : ByteArray := prog_15_method_154_code
def yJ0_isLatin1_aae02 : MethodName := ⟨RJ0, "isLatin1", "()Z"⟩
abbrev cJ0_checkIndex_df160 : ByteArray := prog_15_method_155_code
def yJ0_checkIndex_df160 : MethodName := ⟨RJ0, "checkIndex", "(II)V"⟩
def RJ1 : String := "java/lang/StringLatin1"
abbrev cJ1_charAt_3b067 : ByteArray := prog_16_method_2_code
def yJ1_charAt_3b067 : MethodName := ⟨RJ1, "charAt", "([BI)C"⟩
abbrev cJ1_canEncode_9a6ad : ByteArray := prog_16_method_4_code
def yJ1_canEncode_9a6ad : MethodName := ⟨RJ1, "canEncode", "(I)Z"⟩
abbrev cJ1_indexOf_4cfef : ByteArray := prog_16_method_22_code
def yJ1_indexOf_4cfef : MethodName := ⟨RJ1, "indexOf", "([BIII)I"⟩
abbrev cJ1_indexOfChar_4cfef : ByteArray := prog_16_method_23_code
def yJ1_indexOfChar_4cfef : MethodName := ⟨RJ1, "indexOfChar", "([BIII)I"⟩
def RJ3 : String := "jdk/internal/util/Preconditions"
abbrev cJ3_checkIndex_8e157 : ByteArray := prog_19_method_11_code
def yJ3_checkIndex_8e157 : MethodName := ⟨RJ3, "checkIndex", "(IILjava/util/function/BiFunction;)I"⟩
def RL : String := "DeadAirLaw"
end
section
def bigW : List Cond := lw_tbl.filter goodWord
theorem in0 (i : Nat) {w : Cond} (h : (k2_sels lw_privs)[i]? = some w) (g : goodWord w = true) : w ∈ bigW := List.mem_filter.mpr ⟨List.mem_append_left _ (List.mem_of_getElem? h), g⟩
theorem in1 (i : Nat) {w : Cond} (h : tables_1_1[i]? = some w) (g : goodWord w = true) : w ∈ bigW := List.mem_filter.mpr ⟨List.mem_append_right _ (List.mem_append_left _ (List.mem_of_getElem? h)), g⟩
theorem in2 (i : Nat) {w : Cond} (h : tables_1_2[i]? = some w) (g : goodWord w = true) : w ∈ bigW := List.mem_filter.mpr ⟨List.mem_append_right _ (List.mem_append_right _ (List.mem_append_left _ (List.mem_of_getElem? h))), g⟩
theorem in3 (i : Nat) {w : Cond} (h : tables_1_3[i]? = some w) (g : goodWord w = true) : w ∈ bigW := List.mem_filter.mpr ⟨List.mem_append_right _ (List.mem_append_right _ (List.mem_append_right _ (List.mem_append_left _ (List.mem_of_getElem? h)))), g⟩
theorem in4 (i : Nat) {w : Cond} (h : tables_1_4[i]? = some w) (g : goodWord w = true) : w ∈ bigW := List.mem_filter.mpr ⟨List.mem_append_right _ (List.mem_append_right _ (List.mem_append_right _ (List.mem_append_right _ (List.mem_append_left _ (List.mem_of_getElem? h))))), g⟩
theorem in5 (i : Nat) {w : Cond} (h : tables_1_5[i]? = some w) (g : goodWord w = true) : w ∈ bigW := List.mem_filter.mpr ⟨List.mem_append_right _ (List.mem_append_right _ (List.mem_append_right _ (List.mem_append_right _ (List.mem_append_right _ (List.mem_append_left _ (List.mem_of_getElem? h)))))), g⟩
theorem in6 (i : Nat) {w : Cond} (h : tables_1_6[i]? = some w) (g : goodWord w = true) : w ∈ bigW := List.mem_filter.mpr ⟨List.mem_append_right _ (List.mem_append_right _ (List.mem_append_right _ (List.mem_append_right _ (List.mem_append_right _ (List.mem_append_right _ (List.mem_of_getElem? h)))))), g⟩
set_option maxRecDepth 20000 in
theorem w_0 : (.selects RX7 yX7_aboveHer yX7_aboveHer : Cond) ∈ bigW := in0 0 rfl rfl
set_option maxRecDepth 20000 in
theorem w_1 : (.selects RX4 yX4_drawBelow yX4_drawBelow : Cond) ∈ bigW := in0 1 rfl rfl
set_option maxRecDepth 20000 in
theorem w_2 : (.selects RX4 yX4_whoIsReady yX4_whoIsReady : Cond) ∈ bigW := in0 2 rfl rfl
set_option maxRecDepth 20000 in
theorem w_3 : (.selects RX4 yX4_bearSilence yX4_bearSilence : Cond) ∈ bigW := in0 3 rfl rfl
set_option maxRecDepth 20000 in
theorem w_4 : (.selects RX4 yX4_turningOff yX4_turningOff : Cond) ∈ bigW := in0 4 rfl rfl
set_option maxRecDepth 20000 in
theorem w_5 : (.selects RX4 yX4_answerSilence yX4_answerSilence : Cond) ∈ bigW := in0 5 rfl rfl
set_option maxRecDepth 20000 in
theorem w_6 : (.selects RX4 yX4_cross yX4_cross : Cond) ∈ bigW := in0 6 rfl rfl
set_option maxRecDepth 20000 in
theorem w_7 : (.selects RX4 yX4_begin yX4_begin : Cond) ∈ bigW := in0 7 rfl rfl
set_option maxRecDepth 20000 in
theorem w_8 : (.selects RX4 yX4_beginAlone yX4_beginAlone : Cond) ∈ bigW := in0 8 rfl rfl
set_option maxRecDepth 20000 in
theorem w_9 : (.selects RX8 yX8_differences yX8_differences : Cond) ∈ bigW := in0 9 rfl rfl
set_option maxRecDepth 20000 in
theorem w_10 : (.selects RX1 yX1_start yX1_start : Cond) ∈ bigW := in0 10 rfl rfl
set_option maxRecDepth 20000 in
theorem w_11 : (.selects RX1 yX1_step yX1_step : Cond) ∈ bigW := in0 11 rfl rfl
set_option maxRecDepth 20000 in
theorem w_12 : (.selects RX1 yX1_goesOn yX1_goesOn : Cond) ∈ bigW := in0 12 rfl rfl
set_option maxRecDepth 20000 in
theorem w_13 : (.selects RX1 yX1_keyHere yX1_keyHere : Cond) ∈ bigW := in0 13 rfl rfl
set_option maxRecDepth 20000 in
theorem w_14 : (.selects RX1 yX1_isHere yX1_isHere : Cond) ∈ bigW := in0 14 rfl rfl
set_option maxRecDepth 20000 in
theorem w_15 : (.selects RX1 yX1_takesPiece yX1_takesPiece : Cond) ∈ bigW := in0 15 rfl rfl
set_option maxRecDepth 20000 in
theorem w_16 : (.selects RX1 yX1_takesNumber yX1_takesNumber : Cond) ∈ bigW := in0 16 rfl rfl
set_option maxRecDepth 20000 in
theorem w_17 : (.selects RX1 yX1_takesAtom yX1_takesAtom : Cond) ∈ bigW := in0 17 rfl rfl
set_option maxRecDepth 20000 in
theorem w_18 : (.selects RX1 yX1_takesName yX1_takesName : Cond) ∈ bigW := in0 18 rfl rfl
set_option maxRecDepth 20000 in
theorem w_19 : (.selects RX1 yX1_hold yX1_hold : Cond) ∈ bigW := in0 19 rfl rfl
set_option maxRecDepth 20000 in
theorem w_20 : (.selects RX1 yX1_takesSign yX1_takesSign : Cond) ∈ bigW := in0 20 rfl rfl
set_option maxRecDepth 20000 in
theorem w_21 : (.selects RX1 yX1_closes yX1_closes : Cond) ∈ bigW := in0 21 rfl rfl
set_option maxRecDepth 20000 in
theorem w_22 : (.selects RX1 yX1_release yX1_release : Cond) ∈ bigW := in0 22 rfl rfl
set_option maxRecDepth 20000 in
theorem w_23 : (.selects RX1 yX1_topRank yX1_topRank : Cond) ∈ bigW := in0 23 rfl rfl
set_option maxRecDepth 20000 in
theorem w_24 : (.selects RX8 yX8_isWaiting yX8_isWaiting : Cond) ∈ bigW := in0 24 rfl rfl
set_option maxRecDepth 20000 in
theorem w_25 : (.selects RX9 yX9_comes yX9_comes : Cond) ∈ bigW := in0 25 rfl rfl
set_option maxRecDepth 20000 in
theorem w_26 : (.selects RX9 yX9_put yX9_put : Cond) ∈ bigW := in0 26 rfl rfl
set_option maxRecDepth 20000 in
theorem w_27 : (.selects RX9 yX9_isVoice yX9_isVoice : Cond) ∈ bigW := in0 27 rfl rfl
set_option maxRecDepth 20000 in
theorem w_28 : (.selects RX9 yX9_of yX9_of : Cond) ∈ bigW := in0 28 rfl rfl
set_option maxRecDepth 20000 in
theorem w_29 : (.selects RX9 yX9_waitsOf yX9_waitsOf : Cond) ∈ bigW := in0 29 rfl rfl
set_option maxRecDepth 20000 in
theorem w_30 : (.selects RX9 yX9_talksOf yX9_talksOf : Cond) ∈ bigW := in0 30 rfl rfl
set_option maxRecDepth 20000 in
theorem w_31 : (.selects RX9 yX9_doesYield yX9_doesYield : Cond) ∈ bigW := in0 31 rfl rfl
set_option maxRecDepth 20000 in
theorem w_32 : (.selects RX9 yX9_worthOf yX9_worthOf : Cond) ∈ bigW := in0 32 rfl rfl
set_option maxRecDepth 20000 in
theorem w_33 : (.selects RX9 yX9_swaps yX9_swaps : Cond) ∈ bigW := in0 33 rfl rfl
set_option maxRecDepth 20000 in
theorem w_34 : (.selects RX9 yX9_draw yX9_draw : Cond) ∈ bigW := in0 34 rfl rfl
set_option maxRecDepth 20000 in
theorem w_35 : (.selects RX9 yX9_goesOn yX9_goesOn : Cond) ∈ bigW := in0 35 rfl rfl
set_option maxRecDepth 20000 in
theorem w_36 : (.selects RX9 yX9_tenth yX9_tenth : Cond) ∈ bigW := in0 36 rfl rfl
set_option maxRecDepth 20000 in
theorem w_37 : (.selects RX9 yX9_speaking yX9_speaking : Cond) ∈ bigW := in0 37 rfl rfl
set_option maxRecDepth 20000 in
theorem w_38 : (.selects RX9 yX9_ready yX9_ready : Cond) ∈ bigW := in0 38 rfl rfl
set_option maxRecDepth 20000 in
theorem w_39 : (.selects RX9 yX9_crosses yX9_crosses : Cond) ∈ bigW := in0 39 rfl rfl
set_option maxRecDepth 20000 in
theorem w_40 : (.selects RX9 yX9_begins yX9_begins : Cond) ∈ bigW := in0 40 rfl rfl
set_option maxRecDepth 20000 in
theorem w_41 : (.selects RX9 yX9_turnsTo yX9_turnsTo : Cond) ∈ bigW := in0 41 rfl rfl
set_option maxRecDepth 20000 in
theorem w_42 : (.selects RX9 yX9_hearsNothing yX9_hearsNothing : Cond) ∈ bigW := in0 42 rfl rfl
set_option maxRecDepth 20000 in
theorem w_43 : (.selects RX9 yX9_offGives yX9_offGives : Cond) ∈ bigW := in0 43 rfl rfl
set_option maxRecDepth 20000 in
theorem w_44 : (.selects RX9 yX9_counts yX9_counts : Cond) ∈ bigW := in0 44 rfl rfl
set_option maxRecDepth 20000 in
theorem w_45 : (.selects RX9 yX9_worksOut yX9_worksOut : Cond) ∈ bigW := in0 45 rfl rfl
set_option maxRecDepth 20000 in
theorem w_46 : (.selects RX9 yX9_thinks yX9_thinks : Cond) ∈ bigW := in0 46 rfl rfl
set_option maxRecDepth 20000 in
theorem w_47 : (.selects RX9 yX9_putsBack yX9_putsBack : Cond) ∈ bigW := in0 47 rfl rfl
set_option maxRecDepth 20000 in
theorem w_48 : (.selects RX9 yX9_hasBegun yX9_hasBegun : Cond) ∈ bigW := in0 48 rfl rfl
set_option maxRecDepth 20000 in
theorem w_49 : (.selects RX9 yX9_mostBy yX9_mostBy : Cond) ∈ bigW := in0 49 rfl rfl
set_option maxRecDepth 20000 in
theorem w_50 : (.selects RX9 yX9_go yX9_go : Cond) ∈ bigW := in0 50 rfl rfl
set_option maxRecDepth 20000 in
theorem w_51 : (.selects RX9 yX9_isLetter yX9_isLetter : Cond) ∈ bigW := in0 51 rfl rfl
set_option maxRecDepth 20000 in
theorem w_52 : (.selects RX9 yX9_isFigure yX9_isFigure : Cond) ∈ bigW := in0 52 rfl rfl
set_option maxRecDepth 20000 in
theorem w_53 : (.selects RX9 yX9_takesKey yX9_takesKey : Cond) ∈ bigW := in0 53 rfl rfl
set_option maxRecDepth 20000 in
theorem w_54 : (.selects RX9 yX9_takesE yX9_takesE : Cond) ∈ bigW := in0 54 rfl rfl
set_option maxRecDepth 20000 in
theorem w_55 : (.selects RX9 yX9_takesPart yX9_takesPart : Cond) ∈ bigW := in0 55 rfl rfl
set_option maxRecDepth 20000 in
theorem w_56 : (.selects RX9 yX9_nameOf yX9_nameOf : Cond) ∈ bigW := in0 56 rfl rfl
set_option maxRecDepth 20000 in
theorem w_57 : (.selects RX9 yX9_settle yX9_settle : Cond) ∈ bigW := in0 57 rfl rfl
set_option maxRecDepth 20000 in
theorem w_58 : (.selects RX9 yX9_notsOpen yX9_notsOpen : Cond) ∈ bigW := in0 58 rfl rfl
set_option maxRecDepth 20000 in
theorem w_59 : (.selects RX9 yX9_signHere yX9_signHere : Cond) ∈ bigW := in0 59 rfl rfl
set_option maxRecDepth 20000 in
theorem w_60 : (.initialized RL : Cond) ∈ bigW := in1 0 rfl rfl
set_option maxRecDepth 20000 in
theorem w_61 : (.initialized RX8 : Cond) ∈ bigW := in1 1 rfl rfl
set_option maxRecDepth 20000 in
theorem w_62 : (.initialized RX6 : Cond) ∈ bigW := in1 2 rfl rfl
set_option maxRecDepth 20000 in
theorem w_63 : (.initialized RX5 : Cond) ∈ bigW := in1 3 rfl rfl
set_option maxRecDepth 20000 in
theorem w_64 : (.initialized RX1 : Cond) ∈ bigW := in1 4 rfl rfl
set_option maxRecDepth 20000 in
theorem w_65 : (.initialized RX4 : Cond) ∈ bigW := in1 5 rfl rfl
set_option maxRecDepth 20000 in
theorem w_66 : (.initialized RX7 : Cond) ∈ bigW := in1 6 rfl rfl
set_option maxRecDepth 20000 in
theorem w_67 : (.initialized RX0 : Cond) ∈ bigW := in1 7 rfl rfl
set_option maxRecDepth 20000 in
theorem w_68 : (.initialized RX2 : Cond) ∈ bigW := in1 8 rfl rfl
set_option maxRecDepth 20000 in
theorem w_69 : (.initialized RX3 : Cond) ∈ bigW := in1 9 rfl rfl
set_option maxRecDepth 20000 in
theorem w_70 : (.initialized RX9 : Cond) ∈ bigW := in1 10 rfl rfl
set_option maxRecDepth 20000 in
theorem w_71 : (.initialized "java/lang/Math" : Cond) ∈ bigW := in1 11 rfl rfl
set_option maxRecDepth 20000 in
theorem w_72 : (.initialized RJ6 : Cond) ∈ bigW := in1 12 rfl rfl
set_option maxRecDepth 20000 in
theorem w_73 : (.initialized RJ0 : Cond) ∈ bigW := in1 13 rfl rfl
set_option maxRecDepth 20000 in
theorem w_74 : (.initialized RJ1 : Cond) ∈ bigW := in1 14 rfl rfl
set_option maxRecDepth 20000 in
theorem w_75 : (.initialized RJ3 : Cond) ∈ bigW := in1 15 rfl rfl
set_option maxRecDepth 20000 in
theorem w_76 : (.initialized "java/lang/StringUTF16" : Cond) ∈ bigW := in1 16 rfl rfl
set_option maxRecDepth 20000 in
theorem w_77 : (.initialized "java/lang/Character" : Cond) ∈ bigW := in1 17 rfl rfl
set_option maxRecDepth 20000 in
theorem w_78 : (.initialized "java/lang/System" : Cond) ∈ bigW := in1 18 rfl rfl
set_option maxRecDepth 20000 in
theorem w_79 : (.classLink RL 7 "DeadAir" : Cond) ∈ bigW := in1 19 rfl rfl
set_option maxRecDepth 20000 in
theorem w_80 : (.instantiable RX8 11 : Cond) ∈ bigW := in1 20 rfl rfl
set_option maxRecDepth 20000 in
theorem w_81 : (.methodLink RL 9 yX8_init : Cond) ∈ bigW := in1 21 rfl rfl
set_option maxRecDepth 20000 in
theorem w_82 : (.instanceMethod yX8_init : Cond) ∈ bigW := in1 22 rfl rfl
set_option maxRecDepth 20000 in
theorem w_83 : (.code yX8_init cX8_init 3 none : Cond) ∈ bigW := in1 23 rfl rfl
set_option maxRecDepth 20000 in
theorem w_84 : (.methodLink RX8 1 objectInit : Cond) ∈ bigW := in1 24 rfl rfl
set_option maxRecDepth 20000 in
theorem w_85 : (.instanceMethod objectInit : Cond) ∈ bigW := in1 25 rfl rfl
set_option maxRecDepth 20000 in
theorem w_86 : (.code objectInit ⟨#[0xb1]⟩ 1 none : Cond) ∈ bigW := in1 26 rfl rfl
set_option maxRecDepth 20000 in
theorem w_87 : (.classLink RX8 7 "DeadAir$Texts" : Cond) ∈ bigW := in1 27 rfl rfl
set_option maxRecDepth 20000 in
theorem w_88 : (.instantiable RX6 2 : Cond) ∈ bigW := in1 28 rfl rfl
set_option maxRecDepth 20000 in
theorem w_89 : (.methodLink RX8 9 yX6_init : Cond) ∈ bigW := in1 29 rfl rfl
set_option maxRecDepth 20000 in
theorem w_90 : (.instanceMethod yX6_init : Cond) ∈ bigW := in1 30 rfl rfl
set_option maxRecDepth 20000 in
theorem w_91 : (.code yX6_init cX6_init 2 none : Cond) ∈ bigW := in1 31 rfl rfl
set_option maxRecDepth 20000 in
theorem w_92 : (.methodLink RX6 3 objectInit : Cond) ∈ bigW := in1 32 rfl rfl
set_option maxRecDepth 20000 in
theorem w_93 : (.classLink RX6 9 "DeadAir$Text" : Cond) ∈ bigW := in1 33 rfl rfl
set_option maxRecDepth 20000 in
theorem w_95 : (.instantiable RX5 4 : Cond) ∈ bigW := in1 35 rfl rfl
set_option maxRecDepth 20000 in
theorem w_97 : (.instanceMethod yX5_init : Cond) ∈ bigW := in1 37 rfl rfl
set_option maxRecDepth 20000 in
theorem w_98 : (.code yX5_init cX5_init 1 none : Cond) ∈ bigW := in1 38 rfl rfl
set_option maxRecDepth 20000 in
theorem w_99 : (.methodLink RX5 3 objectInit : Cond) ∈ bigW := in1 39 rfl rfl
set_option maxRecDepth 20000 in
theorem w_100 : (.fieldLink RX5 15 "DeadAir$Text" "key" "I" : Cond) ∈ bigW := in1 40 rfl rfl
set_option maxRecDepth 20000 in
theorem w_101 : (.fieldLink RX1 46 "DeadAir$Text" "key" "I" : Cond) ∈ bigW := in1 41 rfl rfl
set_option maxRecDepth 20000 in
theorem w_102 : (.fieldLink RX8 272 "DeadAir$Text" "key" "I" : Cond) ∈ bigW := in1 42 rfl rfl
set_option maxRecDepth 20000 in
theorem w_103 : (.fieldLink RX5 19 "DeadAir$Text" "atoms" "I" : Cond) ∈ bigW := in1 43 rfl rfl
set_option maxRecDepth 20000 in
theorem w_104 : (.fieldLink RX1 135 "DeadAir$Text" "atoms" "I" : Cond) ∈ bigW := in1 44 rfl rfl
set_option maxRecDepth 20000 in
theorem w_105 : (.fieldLink RX8 278 "DeadAir$Text" "atoms" "I" : Cond) ∈ bigW := in1 45 rfl rfl
set_option maxRecDepth 20000 in
theorem w_106 : (.fieldLink RX5 22 "DeadAir$Text" "size" "I" : Cond) ∈ bigW := in1 46 rfl rfl
set_option maxRecDepth 20000 in
theorem w_107 : (.fieldLink RX6 25 "DeadAir$Text" "size" "I" : Cond) ∈ bigW := in1 47 rfl rfl
set_option maxRecDepth 20000 in
theorem w_108 : (.fieldLink RX5 9 "DeadAir$Text" "code" "[I" : Cond) ∈ bigW := in1 48 rfl rfl
set_option maxRecDepth 20000 in
theorem w_109 : (.fieldLink RX6 22 "DeadAir$Text" "code" "[I" : Cond) ∈ bigW := in1 49 rfl rfl
set_option maxRecDepth 20000 in
theorem w_110 : (.lays RX5 "DeadAir$Text" "key" "I" : Cond) ∈ bigW := in1 50 rfl rfl
set_option maxRecDepth 20000 in
theorem w_112 : (.lays RX5 "DeadAir$Text" "atoms" "I" : Cond) ∈ bigW := in1 52 rfl rfl
set_option maxRecDepth 20000 in
theorem w_114 : (.lays RX5 "DeadAir$Text" "size" "I" : Cond) ∈ bigW := in1 54 rfl rfl
set_option maxRecDepth 20000 in
theorem w_116 : (.laysFinal RX5 "DeadAir$Text" "code" "[I" : Cond) ∈ bigW := in1 56 rfl rfl
set_option maxRecDepth 20000 in
theorem w_119 : (.arrayClass .int : Cond) ∈ bigW := in1 59 rfl rfl
set_option maxRecDepth 20000 in
theorem w_120 : (.fieldLink RX6 11 "DeadAir$Texts" "list" "[LDeadAir$Text;" : Cond) ∈ bigW := in1 60 rfl rfl
set_option maxRecDepth 20000 in
theorem w_121 : (.fieldLink RX8 259 "DeadAir$Texts" "list" "[LDeadAir$Text;" : Cond) ∈ bigW := in1 61 rfl rfl
set_option maxRecDepth 20000 in
theorem w_122 : (.fieldLink RX6 18 "DeadAir$Texts" "stack" "[I" : Cond) ∈ bigW := in1 62 rfl rfl
set_option maxRecDepth 20000 in
theorem w_123 : (.laysFinal RX6 "DeadAir$Texts" "list" "[LDeadAir$Text;" : Cond) ∈ bigW := in1 63 rfl rfl
set_option maxRecDepth 20000 in
theorem w_125 : (.laysFinal RX6 "DeadAir$Texts" "stack" "[I" : Cond) ∈ bigW := in1 65 rfl rfl
set_option maxRecDepth 20000 in
theorem w_128 : (.classLink RX8 16 "DeadAir$Reader" : Cond) ∈ bigW := in1 68 rfl rfl
set_option maxRecDepth 20000 in
theorem w_129 : (.instantiable RX1 12 : Cond) ∈ bigW := in1 69 rfl rfl
set_option maxRecDepth 20000 in
theorem w_130 : (.methodLink RX8 18 yX1_init : Cond) ∈ bigW := in1 70 rfl rfl
set_option maxRecDepth 20000 in
theorem w_131 : (.instanceMethod yX1_init : Cond) ∈ bigW := in1 71 rfl rfl
set_option maxRecDepth 20000 in
theorem w_132 : (.code yX1_init cX1_init 1 none : Cond) ∈ bigW := in1 72 rfl rfl
set_option maxRecDepth 20000 in
theorem w_133 : (.methodLink RX1 3 objectInit : Cond) ∈ bigW := in1 73 rfl rfl
set_option maxRecDepth 20000 in
theorem w_134 : (.classLink RX1 15 "DeadAir$Text" : Cond) ∈ bigW := in1 74 rfl rfl
set_option maxRecDepth 20000 in
theorem w_136 : (.fieldLink RX1 9 "DeadAir$Reader" "bytes" "[I" : Cond) ∈ bigW := in1 76 rfl rfl
set_option maxRecDepth 20000 in
theorem w_137 : (.fieldLink RX1 25 "DeadAir$Reader" "length" "I" : Cond) ∈ bigW := in1 77 rfl rfl
set_option maxRecDepth 20000 in
theorem w_138 : (.fieldLink RX8 247 "DeadAir$Reader" "length" "I" : Cond) ∈ bigW := in1 78 rfl rfl
set_option maxRecDepth 20000 in
theorem w_139 : (.fieldLink RX1 18 "DeadAir$Reader" "draft" "LDeadAir$Text;" : Cond) ∈ bigW := in1 79 rfl rfl
set_option maxRecDepth 20000 in
theorem w_140 : (.fieldLink RX8 263 "DeadAir$Reader" "draft" "LDeadAir$Text;" : Cond) ∈ bigW := in1 80 rfl rfl
set_option maxRecDepth 20000 in
theorem w_141 : (.fieldLink RX1 22 "DeadAir$Reader" "signs" "[I" : Cond) ∈ bigW := in1 81 rfl rfl
set_option maxRecDepth 20000 in
theorem w_142 : (.fieldLink RX1 62 "DeadAir$Reader" "signsMany" "I" : Cond) ∈ bigW := in1 82 rfl rfl
set_option maxRecDepth 20000 in
theorem w_143 : (.fieldLink RX1 52 "DeadAir$Reader" "brackets" "I" : Cond) ∈ bigW := in1 83 rfl rfl
set_option maxRecDepth 20000 in
theorem w_144 : (.fieldLink RX1 65 "DeadAir$Reader" "nots" "I" : Cond) ∈ bigW := in1 84 rfl rfl
set_option maxRecDepth 20000 in
theorem w_145 : (.fieldLink RX1 49 "DeadAir$Reader" "pieceIsDue" "Z" : Cond) ∈ bigW := in1 85 rfl rfl
set_option maxRecDepth 20000 in
theorem w_146 : (.fieldLink RX1 35 "DeadAir$Reader" "from" "I" : Cond) ∈ bigW := in1 86 rfl rfl
set_option maxRecDepth 20000 in
theorem w_147 : (.fieldLink RX1 68 "DeadAir$Reader" "to" "I" : Cond) ∈ bigW := in1 87 rfl rfl
set_option maxRecDepth 20000 in
theorem w_148 : (.fieldLink RX1 71 "DeadAir$Reader" "isWord" "Z" : Cond) ∈ bigW := in1 88 rfl rfl
set_option maxRecDepth 20000 in
theorem w_149 : (.fieldLink RX1 38 "DeadAir$Reader" "isGlued" "Z" : Cond) ∈ bigW := in1 89 rfl rfl
set_option maxRecDepth 20000 in
theorem w_150 : (.laysFinal RX1 "DeadAir$Reader" "bytes" "[I" : Cond) ∈ bigW := in1 90 rfl rfl
set_option maxRecDepth 20000 in
theorem w_152 : (.lays RX1 "DeadAir$Reader" "length" "I" : Cond) ∈ bigW := in1 92 rfl rfl
set_option maxRecDepth 20000 in
theorem w_154 : (.laysFinal RX1 "DeadAir$Reader" "draft" "LDeadAir$Text;" : Cond) ∈ bigW := in1 94 rfl rfl
set_option maxRecDepth 20000 in
theorem w_156 : (.laysFinal RX1 "DeadAir$Reader" "signs" "[I" : Cond) ∈ bigW := in1 96 rfl rfl
set_option maxRecDepth 20000 in
theorem w_158 : (.lays RX1 "DeadAir$Reader" "signsMany" "I" : Cond) ∈ bigW := in1 98 rfl rfl
set_option maxRecDepth 20000 in
theorem w_160 : (.lays RX1 "DeadAir$Reader" "brackets" "I" : Cond) ∈ bigW := in1 100 rfl rfl
set_option maxRecDepth 20000 in
theorem w_162 : (.lays RX1 "DeadAir$Reader" "nots" "I" : Cond) ∈ bigW := in1 102 rfl rfl
set_option maxRecDepth 20000 in
theorem w_164 : (.lays RX1 "DeadAir$Reader" "pieceIsDue" "Z" : Cond) ∈ bigW := in1 104 rfl rfl
set_option maxRecDepth 20000 in
theorem w_166 : (.lays RX1 "DeadAir$Reader" "from" "I" : Cond) ∈ bigW := in1 106 rfl rfl
set_option maxRecDepth 20000 in
theorem w_168 : (.lays RX1 "DeadAir$Reader" "to" "I" : Cond) ∈ bigW := in1 108 rfl rfl
set_option maxRecDepth 20000 in
theorem w_170 : (.lays RX1 "DeadAir$Reader" "isWord" "Z" : Cond) ∈ bigW := in1 110 rfl rfl
set_option maxRecDepth 20000 in
theorem w_172 : (.lays RX1 "DeadAir$Reader" "isGlued" "Z" : Cond) ∈ bigW := in1 112 rfl rfl
set_option maxRecDepth 20000 in
theorem w_175 : (.classLink RX8 23 "DeadAir$Studio" : Cond) ∈ bigW := in1 115 rfl rfl
set_option maxRecDepth 20000 in
theorem w_176 : (.instantiable RX4 19 : Cond) ∈ bigW := in1 116 rfl rfl
set_option maxRecDepth 20000 in
theorem w_177 : (.methodLink RX8 25 yX4_init : Cond) ∈ bigW := in1 117 rfl rfl
set_option maxRecDepth 20000 in
theorem w_178 : (.instanceMethod yX4_init : Cond) ∈ bigW := in1 118 rfl rfl
set_option maxRecDepth 20000 in
theorem w_179 : (.code yX4_init cX4_init 3 none : Cond) ∈ bigW := in1 119 rfl rfl
set_option maxRecDepth 20000 in
theorem w_180 : (.methodLink RX4 3 objectInit : Cond) ∈ bigW := in1 120 rfl rfl
set_option maxRecDepth 20000 in
theorem w_181 : (.classLink RX4 9 "DeadAir$Voice" : Cond) ∈ bigW := in1 121 rfl rfl
set_option maxRecDepth 20000 in
theorem w_183 : (.instantiable RX7 7 : Cond) ∈ bigW := in1 123 rfl rfl
set_option maxRecDepth 20000 in
theorem w_185 : (.instanceMethod yX7_init : Cond) ∈ bigW := in1 125 rfl rfl
set_option maxRecDepth 20000 in
theorem w_186 : (.code yX7_init cX7_init 1 none : Cond) ∈ bigW := in1 126 rfl rfl
set_option maxRecDepth 20000 in
theorem w_187 : (.methodLink RX7 3 objectInit : Cond) ∈ bigW := in1 127 rfl rfl
set_option maxRecDepth 20000 in
theorem w_188 : (.fieldLink RX8 90 "DeadAir$Voice" "kind" "I" : Cond) ∈ bigW := in1 128 rfl rfl
set_option maxRecDepth 20000 in
theorem w_189 : (.fieldLink RX7 25 "DeadAir$Voice" "kind" "I" : Cond) ∈ bigW := in1 129 rfl rfl
set_option maxRecDepth 20000 in
theorem w_190 : (.fieldLink RX4 79 "DeadAir$Voice" "kind" "I" : Cond) ∈ bigW := in1 130 rfl rfl
set_option maxRecDepth 20000 in
theorem w_191 : (.fieldLink RX7 13 "DeadAir$Voice" "wait" "I" : Cond) ∈ bigW := in1 131 rfl rfl
set_option maxRecDepth 20000 in
theorem w_192 : (.fieldLink RX8 94 "DeadAir$Voice" "wait" "I" : Cond) ∈ bigW := in1 132 rfl rfl
set_option maxRecDepth 20000 in
theorem w_193 : (.fieldLink RX4 82 "DeadAir$Voice" "wait" "I" : Cond) ∈ bigW := in1 133 rfl rfl
set_option maxRecDepth 20000 in
theorem w_194 : (.fieldLink RX7 19 "DeadAir$Voice" "talk" "I" : Cond) ∈ bigW := in1 134 rfl rfl
set_option maxRecDepth 20000 in
theorem w_195 : (.fieldLink RX8 97 "DeadAir$Voice" "talk" "I" : Cond) ∈ bigW := in1 135 rfl rfl
set_option maxRecDepth 20000 in
theorem w_196 : (.fieldLink RX4 85 "DeadAir$Voice" "talk" "I" : Cond) ∈ bigW := in1 136 rfl rfl
set_option maxRecDepth 20000 in
theorem w_197 : (.fieldLink RX7 22 "DeadAir$Voice" "pause" "I" : Cond) ∈ bigW := in1 137 rfl rfl
set_option maxRecDepth 20000 in
theorem w_198 : (.fieldLink RX8 100 "DeadAir$Voice" "pause" "I" : Cond) ∈ bigW := in1 138 rfl rfl
set_option maxRecDepth 20000 in
theorem w_199 : (.fieldLink RX4 88 "DeadAir$Voice" "pause" "I" : Cond) ∈ bigW := in1 139 rfl rfl
set_option maxRecDepth 20000 in
theorem w_200 : (.fieldLink RX8 103 "DeadAir$Voice" "left" "I" : Cond) ∈ bigW := in1 140 rfl rfl
set_option maxRecDepth 20000 in
theorem w_201 : (.fieldLink RX7 28 "DeadAir$Voice" "left" "I" : Cond) ∈ bigW := in1 141 rfl rfl
set_option maxRecDepth 20000 in
theorem w_202 : (.fieldLink RX4 91 "DeadAir$Voice" "left" "I" : Cond) ∈ bigW := in1 142 rfl rfl
set_option maxRecDepth 20000 in
theorem w_203 : (.fieldLink RX8 106 "DeadAir$Voice" "back" "I" : Cond) ∈ bigW := in1 143 rfl rfl
set_option maxRecDepth 20000 in
theorem w_204 : (.fieldLink RX7 31 "DeadAir$Voice" "back" "I" : Cond) ∈ bigW := in1 144 rfl rfl
set_option maxRecDepth 20000 in
theorem w_205 : (.fieldLink RX4 94 "DeadAir$Voice" "back" "I" : Cond) ∈ bigW := in1 145 rfl rfl
set_option maxRecDepth 20000 in
theorem w_206 : (.fieldLink RX8 109 "DeadAir$Voice" "said" "I" : Cond) ∈ bigW := in1 146 rfl rfl
set_option maxRecDepth 20000 in
theorem w_207 : (.fieldLink RX7 34 "DeadAir$Voice" "said" "I" : Cond) ∈ bigW := in1 147 rfl rfl
set_option maxRecDepth 20000 in
theorem w_208 : (.fieldLink RX4 97 "DeadAir$Voice" "said" "I" : Cond) ∈ bigW := in1 148 rfl rfl
set_option maxRecDepth 20000 in
theorem w_209 : (.lays RX7 "DeadAir$Voice" "kind" "I" : Cond) ∈ bigW := in1 149 rfl rfl
set_option maxRecDepth 20000 in
theorem w_211 : (.lays RX7 "DeadAir$Voice" "wait" "I" : Cond) ∈ bigW := in1 151 rfl rfl
set_option maxRecDepth 20000 in
theorem w_213 : (.lays RX7 "DeadAir$Voice" "talk" "I" : Cond) ∈ bigW := in1 153 rfl rfl
set_option maxRecDepth 20000 in
theorem w_215 : (.lays RX7 "DeadAir$Voice" "pause" "I" : Cond) ∈ bigW := in1 155 rfl rfl
set_option maxRecDepth 20000 in
theorem w_217 : (.lays RX7 "DeadAir$Voice" "left" "I" : Cond) ∈ bigW := in1 157 rfl rfl
set_option maxRecDepth 20000 in
theorem w_219 : (.lays RX7 "DeadAir$Voice" "back" "I" : Cond) ∈ bigW := in1 159 rfl rfl
set_option maxRecDepth 20000 in
theorem w_221 : (.lays RX7 "DeadAir$Voice" "said" "I" : Cond) ∈ bigW := in1 161 rfl rfl
set_option maxRecDepth 20000 in
theorem w_224 : (.fieldLink RX4 11 "DeadAir$Studio" "voices" "[LDeadAir$Voice;" : Cond) ∈ bigW := in1 164 rfl rfl
set_option maxRecDepth 20000 in
theorem w_225 : (.fieldLink RX8 86 "DeadAir$Studio" "voices" "[LDeadAir$Voice;" : Cond) ∈ bigW := in1 165 rfl rfl
set_option maxRecDepth 20000 in
theorem w_226 : (.fieldLink RX4 39 "DeadAir$Studio" "many" "I" : Cond) ∈ bigW := in1 166 rfl rfl
set_option maxRecDepth 20000 in
theorem w_227 : (.fieldLink RX8 191 "DeadAir$Studio" "many" "I" : Cond) ∈ bigW := in1 167 rfl rfl
set_option maxRecDepth 20000 in
theorem w_228 : (.fieldLink RX4 18 "DeadAir$Studio" "listeners" "I" : Cond) ∈ bigW := in1 168 rfl rfl
set_option maxRecDepth 20000 in
theorem w_229 : (.fieldLink RX8 164 "DeadAir$Studio" "listeners" "I" : Cond) ∈ bigW := in1 169 rfl rfl
set_option maxRecDepth 20000 in
theorem w_230 : (.fieldLink RX4 22 "DeadAir$Studio" "cut" "I" : Cond) ∈ bigW := in1 170 rfl rfl
set_option maxRecDepth 20000 in
theorem w_231 : (.fieldLink RX8 223 "DeadAir$Studio" "cut" "I" : Cond) ∈ bigW := in1 171 rfl rfl
set_option maxRecDepth 20000 in
theorem w_232 : (.fieldLink RX4 46 "DeadAir$Studio" "fill" "I" : Cond) ∈ bigW := in1 172 rfl rfl
set_option maxRecDepth 20000 in
theorem w_233 : (.fieldLink RX8 226 "DeadAir$Studio" "fill" "I" : Cond) ∈ bigW := in1 173 rfl rfl
set_option maxRecDepth 20000 in
theorem w_234 : (.fieldLink RX4 49 "DeadAir$Studio" "silence" "I" : Cond) ∈ bigW := in1 174 rfl rfl
set_option maxRecDepth 20000 in
theorem w_235 : (.fieldLink RX8 167 "DeadAir$Studio" "silence" "I" : Cond) ∈ bigW := in1 175 rfl rfl
set_option maxRecDepth 20000 in
theorem w_236 : (.fieldLink RX4 52 "DeadAir$Studio" "silent" "I" : Cond) ∈ bigW := in1 176 rfl rfl
set_option maxRecDepth 20000 in
theorem w_237 : (.fieldLink RX8 149 "DeadAir$Studio" "silent" "I" : Cond) ∈ bigW := in1 177 rfl rfl
set_option maxRecDepth 20000 in
theorem w_238 : (.fieldLink RX4 55 "DeadAir$Studio" "longestHole" "I" : Cond) ∈ bigW := in1 178 rfl rfl
set_option maxRecDepth 20000 in
theorem w_239 : (.fieldLink RX8 170 "DeadAir$Studio" "longestHole" "I" : Cond) ∈ bigW := in1 179 rfl rfl
set_option maxRecDepth 20000 in
theorem w_240 : (.fieldLink RX4 58 "DeadAir$Studio" "breaths" "I" : Cond) ∈ bigW := in1 180 rfl rfl
set_option maxRecDepth 20000 in
theorem w_241 : (.fieldLink RX8 173 "DeadAir$Studio" "breaths" "I" : Cond) ∈ bigW := in1 181 rfl rfl
set_option maxRecDepth 20000 in
theorem w_242 : (.fieldLink RX4 61 "DeadAir$Studio" "taken" "I" : Cond) ∈ bigW := in1 182 rfl rfl
set_option maxRecDepth 20000 in
theorem w_243 : (.fieldLink RX8 176 "DeadAir$Studio" "taken" "I" : Cond) ∈ bigW := in1 183 rfl rfl
set_option maxRecDepth 20000 in
theorem w_244 : (.fieldLink RX4 64 "DeadAir$Studio" "crossed" "I" : Cond) ∈ bigW := in1 184 rfl rfl
set_option maxRecDepth 20000 in
theorem w_245 : (.fieldLink RX8 179 "DeadAir$Studio" "crossed" "I" : Cond) ∈ bigW := in1 185 rfl rfl
set_option maxRecDepth 20000 in
theorem w_246 : (.fieldLink RX4 67 "DeadAir$Studio" "jingles" "I" : Cond) ∈ bigW := in1 186 rfl rfl
set_option maxRecDepth 20000 in
theorem w_247 : (.fieldLink RX8 182 "DeadAir$Studio" "jingles" "I" : Cond) ∈ bigW := in1 187 rfl rfl
set_option maxRecDepth 20000 in
theorem w_248 : (.fieldLink RX4 70 "DeadAir$Studio" "cuts" "I" : Cond) ∈ bigW := in1 188 rfl rfl
set_option maxRecDepth 20000 in
theorem w_249 : (.fieldLink RX8 185 "DeadAir$Studio" "cuts" "I" : Cond) ∈ bigW := in1 189 rfl rfl
set_option maxRecDepth 20000 in
theorem w_250 : (.fieldLink RX4 25 "DeadAir$Studio" "last" "I" : Cond) ∈ bigW := in1 190 rfl rfl
set_option maxRecDepth 20000 in
theorem w_251 : (.fieldLink RX8 112 "DeadAir$Studio" "last" "I" : Cond) ∈ bigW := in1 191 rfl rfl
set_option maxRecDepth 20000 in
theorem w_252 : (.fieldLink RX4 73 "DeadAir$Studio" "tenth" "I" : Cond) ∈ bigW := in1 192 rfl rfl
set_option maxRecDepth 20000 in
theorem w_253 : (.fieldLink RX8 152 "DeadAir$Studio" "tenth" "I" : Cond) ∈ bigW := in1 193 rfl rfl
set_option maxRecDepth 20000 in
theorem w_254 : (.fieldLink RX4 28 "DeadAir$Studio" "z" "I" : Cond) ∈ bigW := in1 194 rfl rfl
set_option maxRecDepth 20000 in
theorem w_255 : (.fieldLink RX8 146 "DeadAir$Studio" "z" "I" : Cond) ∈ bigW := in1 195 rfl rfl
set_option maxRecDepth 20000 in
theorem w_256 : (.fieldLink RX4 76 "DeadAir$Studio" "textsMany" "I" : Cond) ∈ bigW := in1 196 rfl rfl
set_option maxRecDepth 20000 in
theorem w_257 : (.fieldLink RX8 256 "DeadAir$Studio" "textsMany" "I" : Cond) ∈ bigW := in1 197 rfl rfl
set_option maxRecDepth 20000 in
theorem w_258 : (.fieldLink RX4 31 "DeadAir$Studio" "counting" "[I" : Cond) ∈ bigW := in1 198 rfl rfl
set_option maxRecDepth 20000 in
theorem w_259 : (.fieldLink RX8 240 "DeadAir$Studio" "counting" "[I" : Cond) ∈ bigW := in1 199 rfl rfl
set_option maxRecDepth 20000 in
theorem w_260 : (.fieldLink RX4 35 "DeadAir$Studio" "texts" "LDeadAir$Texts;" : Cond) ∈ bigW := in1 200 rfl rfl
set_option maxRecDepth 20000 in
theorem w_261 : (.laysFinal RX4 "DeadAir$Studio" "voices" "[LDeadAir$Voice;" : Cond) ∈ bigW := in1 201 rfl rfl
set_option maxRecDepth 20000 in
theorem w_263 : (.lays RX4 "DeadAir$Studio" "many" "I" : Cond) ∈ bigW := in1 203 rfl rfl
set_option maxRecDepth 20000 in
theorem w_265 : (.lays RX4 "DeadAir$Studio" "listeners" "I" : Cond) ∈ bigW := in1 205 rfl rfl
set_option maxRecDepth 20000 in
theorem w_267 : (.lays RX4 "DeadAir$Studio" "cut" "I" : Cond) ∈ bigW := in1 207 rfl rfl
set_option maxRecDepth 20000 in
theorem w_269 : (.lays RX4 "DeadAir$Studio" "fill" "I" : Cond) ∈ bigW := in1 209 rfl rfl
set_option maxRecDepth 20000 in
theorem w_271 : (.lays RX4 "DeadAir$Studio" "silence" "I" : Cond) ∈ bigW := in1 211 rfl rfl
set_option maxRecDepth 20000 in
theorem w_273 : (.lays RX4 "DeadAir$Studio" "silent" "I" : Cond) ∈ bigW := in1 213 rfl rfl
set_option maxRecDepth 20000 in
theorem w_275 : (.lays RX4 "DeadAir$Studio" "longestHole" "I" : Cond) ∈ bigW := in1 215 rfl rfl
set_option maxRecDepth 20000 in
theorem w_277 : (.lays RX4 "DeadAir$Studio" "breaths" "I" : Cond) ∈ bigW := in1 217 rfl rfl
set_option maxRecDepth 20000 in
theorem w_279 : (.lays RX4 "DeadAir$Studio" "taken" "I" : Cond) ∈ bigW := in1 219 rfl rfl
set_option maxRecDepth 20000 in
theorem w_281 : (.lays RX4 "DeadAir$Studio" "crossed" "I" : Cond) ∈ bigW := in1 221 rfl rfl
set_option maxRecDepth 20000 in
theorem w_283 : (.lays RX4 "DeadAir$Studio" "jingles" "I" : Cond) ∈ bigW := in1 223 rfl rfl
set_option maxRecDepth 20000 in
theorem w_285 : (.lays RX4 "DeadAir$Studio" "cuts" "I" : Cond) ∈ bigW := in1 225 rfl rfl
set_option maxRecDepth 20000 in
theorem w_287 : (.lays RX4 "DeadAir$Studio" "last" "I" : Cond) ∈ bigW := in1 227 rfl rfl
set_option maxRecDepth 20000 in
theorem w_289 : (.lays RX4 "DeadAir$Studio" "tenth" "I" : Cond) ∈ bigW := in1 229 rfl rfl
set_option maxRecDepth 20000 in
theorem w_291 : (.lays RX4 "DeadAir$Studio" "z" "I" : Cond) ∈ bigW := in1 231 rfl rfl
set_option maxRecDepth 20000 in
theorem w_293 : (.lays RX4 "DeadAir$Studio" "textsMany" "I" : Cond) ∈ bigW := in1 233 rfl rfl
set_option maxRecDepth 20000 in
theorem w_295 : (.laysFinal RX4 "DeadAir$Studio" "counting" "[I" : Cond) ∈ bigW := in1 235 rfl rfl
set_option maxRecDepth 20000 in
theorem w_297 : (.laysFinal RX4 "DeadAir$Studio" "texts" "LDeadAir$Texts;" : Cond) ∈ bigW := in1 237 rfl rfl
set_option maxRecDepth 20000 in
theorem w_300 : (.classLink RX8 38 "DeadAir$Best" : Cond) ∈ bigW := in2 0 rfl rfl
set_option maxRecDepth 20000 in
theorem w_301 : (.instantiable RX0 2 : Cond) ∈ bigW := in2 1 rfl rfl
set_option maxRecDepth 20000 in
theorem w_303 : (.instanceMethod yX0_init : Cond) ∈ bigW := in2 3 rfl rfl
set_option maxRecDepth 20000 in
theorem w_304 : (.code yX0_init cX0_init 1 none : Cond) ∈ bigW := in2 4 rfl rfl
set_option maxRecDepth 20000 in
theorem w_305 : (.methodLink RX0 1 objectInit : Cond) ∈ bigW := in2 5 rfl rfl
set_option maxRecDepth 20000 in
theorem w_306 : (.fieldLink RX0 7 "DeadAir$Best" "choice" "I" : Cond) ∈ bigW := in2 6 rfl rfl
set_option maxRecDepth 20000 in
theorem w_307 : (.fieldLink RX0 13 "DeadAir$Best" "most" "I" : Cond) ∈ bigW := in2 7 rfl rfl
set_option maxRecDepth 20000 in
theorem w_308 : (.lays RX0 "DeadAir$Best" "choice" "I" : Cond) ∈ bigW := in2 8 rfl rfl
set_option maxRecDepth 20000 in
theorem w_310 : (.lays RX0 "DeadAir$Best" "most" "I" : Cond) ∈ bigW := in2 10 rfl rfl
set_option maxRecDepth 20000 in
theorem w_313 : (.classLink RX8 45 "DeadAir$Sheet" : Cond) ∈ bigW := in2 13 rfl rfl
set_option maxRecDepth 20000 in
theorem w_315 : (.instantiable RX2 3 : Cond) ∈ bigW := in2 15 rfl rfl
set_option maxRecDepth 20000 in
theorem w_317 : (.instanceMethod yX2_init : Cond) ∈ bigW := in2 17 rfl rfl
set_option maxRecDepth 20000 in
theorem w_318 : (.code yX2_init cX2_init 1 none : Cond) ∈ bigW := in2 18 rfl rfl
set_option maxRecDepth 20000 in
theorem w_319 : (.methodLink RX2 3 objectInit : Cond) ∈ bigW := in2 19 rfl rfl
set_option maxRecDepth 20000 in
theorem w_320 : (.fieldLink RX2 9 "DeadAir$Sheet" "sort" "I" : Cond) ∈ bigW := in2 20 rfl rfl
set_option maxRecDepth 20000 in
theorem w_321 : (.fieldLink RX8 288 "DeadAir$Sheet" "sort" "I" : Cond) ∈ bigW := in2 21 rfl rfl
set_option maxRecDepth 20000 in
theorem w_322 : (.fieldLink RX2 19 "DeadAir$Sheet" "size" "I" : Cond) ∈ bigW := in2 22 rfl rfl
set_option maxRecDepth 20000 in
theorem w_323 : (.fieldLink RX8 302 "DeadAir$Sheet" "size" "I" : Cond) ∈ bigW := in2 23 rfl rfl
set_option maxRecDepth 20000 in
theorem w_324 : (.fieldLink RX2 15 "DeadAir$Sheet" "places" "[I" : Cond) ∈ bigW := in2 24 rfl rfl
set_option maxRecDepth 20000 in
theorem w_325 : (.fieldLink RX8 291 "DeadAir$Sheet" "places" "[I" : Cond) ∈ bigW := in2 25 rfl rfl
set_option maxRecDepth 20000 in
theorem w_326 : (.lays RX2 "DeadAir$Sheet" "sort" "I" : Cond) ∈ bigW := in2 26 rfl rfl
set_option maxRecDepth 20000 in
theorem w_328 : (.lays RX2 "DeadAir$Sheet" "size" "I" : Cond) ∈ bigW := in2 28 rfl rfl
set_option maxRecDepth 20000 in
theorem w_330 : (.laysFinal RX2 "DeadAir$Sheet" "places" "[I" : Cond) ∈ bigW := in2 30 rfl rfl
set_option maxRecDepth 20000 in
theorem w_333 : (.classLink RX8 52 "DeadAir$Slot" : Cond) ∈ bigW := in2 33 rfl rfl
set_option maxRecDepth 20000 in
theorem w_335 : (.instantiable RX3 4 : Cond) ∈ bigW := in2 35 rfl rfl
set_option maxRecDepth 20000 in
theorem w_337 : (.instanceMethod yX3_init : Cond) ∈ bigW := in2 37 rfl rfl
set_option maxRecDepth 20000 in
theorem w_338 : (.code yX3_init cX3_init 1 none : Cond) ∈ bigW := in2 38 rfl rfl
set_option maxRecDepth 20000 in
theorem w_339 : (.methodLink RX3 3 objectInit : Cond) ∈ bigW := in2 39 rfl rfl
set_option maxRecDepth 20000 in
theorem w_340 : (.classLink RX3 9 "DeadAir$Voice" : Cond) ∈ bigW := in2 40 rfl rfl
set_option maxRecDepth 20000 in
theorem w_342 : (.classLink RX3 18 "DeadAir$Sheet" : Cond) ∈ bigW := in2 42 rfl rfl
set_option maxRecDepth 20000 in
theorem w_344 : (.fieldLink RX3 25 "DeadAir$Slot" "thing" "I" : Cond) ∈ bigW := in2 44 rfl rfl
set_option maxRecDepth 20000 in
theorem w_345 : (.fieldLink RX8 317 "DeadAir$Slot" "thing" "I" : Cond) ∈ bigW := in2 45 rfl rfl
set_option maxRecDepth 20000 in
theorem w_346 : (.fieldLink RX3 12 "DeadAir$Slot" "voice" "LDeadAir$Voice;" : Cond) ∈ bigW := in2 46 rfl rfl
set_option maxRecDepth 20000 in
theorem w_347 : (.fieldLink RX8 320 "DeadAir$Slot" "voice" "LDeadAir$Voice;" : Cond) ∈ bigW := in2 47 rfl rfl
set_option maxRecDepth 20000 in
theorem w_348 : (.fieldLink RX3 21 "DeadAir$Slot" "row" "LDeadAir$Sheet;" : Cond) ∈ bigW := in2 48 rfl rfl
set_option maxRecDepth 20000 in
theorem w_349 : (.fieldLink RX8 327 "DeadAir$Slot" "row" "LDeadAir$Sheet;" : Cond) ∈ bigW := in2 49 rfl rfl
set_option maxRecDepth 20000 in
theorem w_350 : (.fieldLink RX8 334 "DeadAir$Slot" "number" "I" : Cond) ∈ bigW := in2 50 rfl rfl
set_option maxRecDepth 20000 in
theorem w_351 : (.lays RX3 "DeadAir$Slot" "thing" "I" : Cond) ∈ bigW := in2 51 rfl rfl
set_option maxRecDepth 20000 in
theorem w_353 : (.laysFinal RX3 "DeadAir$Slot" "voice" "LDeadAir$Voice;" : Cond) ∈ bigW := in2 53 rfl rfl
set_option maxRecDepth 20000 in
theorem w_355 : (.laysFinal RX3 "DeadAir$Slot" "row" "LDeadAir$Sheet;" : Cond) ∈ bigW := in2 55 rfl rfl
set_option maxRecDepth 20000 in
theorem w_357 : (.lays RX3 "DeadAir$Slot" "number" "I" : Cond) ∈ bigW := in2 57 rfl rfl
set_option maxRecDepth 20000 in
theorem w_360 : (.fieldLink RX8 10 "DeadAir" "texts" "LDeadAir$Texts;" : Cond) ∈ bigW := in2 60 rfl rfl
set_option maxRecDepth 20000 in
theorem w_361 : (.fieldLink RX8 19 "DeadAir" "reader" "LDeadAir$Reader;" : Cond) ∈ bigW := in2 61 rfl rfl
set_option maxRecDepth 20000 in
theorem w_362 : (.fieldLink RX8 28 "DeadAir" "now" "LDeadAir$Studio;" : Cond) ∈ bigW := in2 62 rfl rfl
set_option maxRecDepth 20000 in
theorem w_363 : (.fieldLink RX8 32 "DeadAir" "thought" "LDeadAir$Studio;" : Cond) ∈ bigW := in2 63 rfl rfl
set_option maxRecDepth 20000 in
theorem w_364 : (.fieldLink RX8 35 "DeadAir" "image" "LDeadAir$Studio;" : Cond) ∈ bigW := in2 64 rfl rfl
set_option maxRecDepth 20000 in
theorem w_365 : (.fieldLink RX8 344 "DeadAir" "imageKept" "Z" : Cond) ∈ bigW := in2 65 rfl rfl
set_option maxRecDepth 20000 in
theorem w_366 : (.fieldLink RX8 41 "DeadAir" "best" "LDeadAir$Best;" : Cond) ∈ bigW := in2 66 rfl rfl
set_option maxRecDepth 20000 in
theorem w_367 : (.fieldLink RX8 47 "DeadAir" "sheets" "[LDeadAir$Sheet;" : Cond) ∈ bigW := in2 67 rfl rfl
set_option maxRecDepth 20000 in
theorem w_368 : (.fieldLink RX8 54 "DeadAir" "slots" "[LDeadAir$Slot;" : Cond) ∈ bigW := in2 68 rfl rfl
set_option maxRecDepth 20000 in
theorem w_369 : (.fieldLink RX8 59 "DeadAir" "waiting" "[I" : Cond) ∈ bigW := in2 69 rfl rfl
set_option maxRecDepth 20000 in
theorem w_370 : (.fieldLink RX8 341 "DeadAir" "waitingMany" "I" : Cond) ∈ bigW := in2 70 rfl rfl
set_option maxRecDepth 20000 in
theorem w_371 : (.laysFinal RX8 "DeadAir" "texts" "LDeadAir$Texts;" : Cond) ∈ bigW := in2 71 rfl rfl
set_option maxRecDepth 20000 in
theorem w_373 : (.laysFinal RX8 "DeadAir" "reader" "LDeadAir$Reader;" : Cond) ∈ bigW := in2 73 rfl rfl
set_option maxRecDepth 20000 in
theorem w_375 : (.laysFinal RX8 "DeadAir" "now" "LDeadAir$Studio;" : Cond) ∈ bigW := in2 75 rfl rfl
set_option maxRecDepth 20000 in
theorem w_377 : (.laysFinal RX8 "DeadAir" "thought" "LDeadAir$Studio;" : Cond) ∈ bigW := in2 77 rfl rfl
set_option maxRecDepth 20000 in
theorem w_379 : (.laysFinal RX8 "DeadAir" "image" "LDeadAir$Studio;" : Cond) ∈ bigW := in2 79 rfl rfl
set_option maxRecDepth 20000 in
theorem w_381 : (.lays RX8 "DeadAir" "imageKept" "Z" : Cond) ∈ bigW := in2 81 rfl rfl
set_option maxRecDepth 20000 in
theorem w_383 : (.laysFinal RX8 "DeadAir" "best" "LDeadAir$Best;" : Cond) ∈ bigW := in2 83 rfl rfl
set_option maxRecDepth 20000 in
theorem w_385 : (.laysFinal RX8 "DeadAir" "sheets" "[LDeadAir$Sheet;" : Cond) ∈ bigW := in2 85 rfl rfl
set_option maxRecDepth 20000 in
theorem w_387 : (.laysFinal RX8 "DeadAir" "slots" "[LDeadAir$Slot;" : Cond) ∈ bigW := in2 87 rfl rfl
set_option maxRecDepth 20000 in
theorem w_389 : (.laysFinal RX8 "DeadAir" "waiting" "[I" : Cond) ∈ bigW := in2 89 rfl rfl
set_option maxRecDepth 20000 in
theorem w_391 : (.lays RX8 "DeadAir" "waitingMany" "I" : Cond) ∈ bigW := in2 91 rfl rfl
set_option maxRecDepth 20000 in
theorem w_394 : (.methodLink RL 13 yX8_voice : Cond) ∈ bigW := in2 94 rfl rfl
set_option maxRecDepth 20000 in
theorem w_395 : (.instanceMethod yX8_voice : Cond) ∈ bigW := in2 95 rfl rfl
set_option maxRecDepth 20000 in
theorem w_396 : (.selects RX8 yX8_voice yX8_voice : Cond) ∈ bigW := in2 96 rfl rfl
set_option maxRecDepth 20000 in
theorem w_397 : (.code yX8_voice cX8_voice 4 (some .int) : Cond) ∈ bigW := in2 97 rfl rfl
set_option maxRecDepth 20000 in
theorem w_398 : (.methodLink RX8 63 yX8_isKind : Cond) ∈ bigW := in2 98 rfl rfl
set_option maxRecDepth 20000 in
theorem w_399 : (.static yX8_isKind : Cond) ∈ bigW := in2 99 rfl rfl
set_option maxRecDepth 20000 in
theorem w_400 : (.code yX8_isKind cX8_isKind 1 (some .boolean) : Cond) ∈ bigW := in2 100 rfl rfl
set_option maxRecDepth 20000 in
theorem w_401 : (.methodLink RX8 137 yX8_within : Cond) ∈ bigW := in2 101 rfl rfl
set_option maxRecDepth 20000 in
theorem w_402 : (.static yX8_within : Cond) ∈ bigW := in2 102 rfl rfl
set_option maxRecDepth 20000 in
theorem w_403 : (.code yX8_within cX8_within 3 (some .boolean) : Cond) ∈ bigW := in2 103 rfl rfl
set_option maxRecDepth 20000 in
theorem w_404 : (.methodLink RX8 67 yX7_allows : Cond) ∈ bigW := in2 104 rfl rfl
set_option maxRecDepth 20000 in
theorem w_405 : (.static yX7_allows : Cond) ∈ bigW := in2 105 rfl rfl
set_option maxRecDepth 20000 in
theorem w_406 : (.code yX7_allows cX7_allows 2 (some .boolean) : Cond) ∈ bigW := in2 106 rfl rfl
set_option maxRecDepth 20000 in
theorem w_408 : (.constant RX8 73 (-1000000001) : Cond) ∈ bigW := in2 108 rfl rfl
set_option maxRecDepth 20000 in
theorem w_409 : (.methodLink RX8 74 yX4_hasRoom : Cond) ∈ bigW := in2 109 rfl rfl
set_option maxRecDepth 20000 in
theorem w_410 : (.instanceMethod yX4_hasRoom : Cond) ∈ bigW := in2 110 rfl rfl
set_option maxRecDepth 20000 in
theorem w_411 : (.selects RX4 yX4_hasRoom yX4_hasRoom : Cond) ∈ bigW := in2 111 rfl rfl
set_option maxRecDepth 20000 in
theorem w_412 : (.code yX4_hasRoom cX4_hasRoom 1 (some .boolean) : Cond) ∈ bigW := in2 112 rfl rfl
set_option maxRecDepth 20000 in
theorem w_413 : (.constant RX8 78 (-1000000003) : Cond) ∈ bigW := in2 113 rfl rfl
set_option maxRecDepth 20000 in
theorem w_414 : (.methodLink RX8 79 yX4_seat : Cond) ∈ bigW := in2 114 rfl rfl
set_option maxRecDepth 20000 in
theorem w_415 : (.instanceMethod yX4_seat : Cond) ∈ bigW := in2 115 rfl rfl
set_option maxRecDepth 20000 in
theorem w_416 : (.selects RX4 yX4_seat yX4_seat : Cond) ∈ bigW := in2 116 rfl rfl
set_option maxRecDepth 20000 in
theorem w_417 : (.code yX4_seat cX4_seat 6 (some .int) : Cond) ∈ bigW := in2 117 rfl rfl
set_option maxRecDepth 20000 in
theorem w_418 : (.methodLink RL 18 yX8_told : Cond) ∈ bigW := in2 118 rfl rfl
set_option maxRecDepth 20000 in
theorem w_419 : (.instanceMethod yX8_told : Cond) ∈ bigW := in2 119 rfl rfl
set_option maxRecDepth 20000 in
theorem w_420 : (.selects RX8 yX8_told yX8_told : Cond) ∈ bigW := in2 120 rfl rfl
set_option maxRecDepth 20000 in
theorem w_421 : (.code yX8_told cX8_told 4 (some .int) : Cond) ∈ bigW := in2 121 rfl rfl
set_option maxRecDepth 20000 in
theorem w_422 : (.methodLink RX8 83 yX4_has : Cond) ∈ bigW := in2 122 rfl rfl
set_option maxRecDepth 20000 in
theorem w_423 : (.instanceMethod yX4_has : Cond) ∈ bigW := in2 123 rfl rfl
set_option maxRecDepth 20000 in
theorem w_424 : (.selects RX4 yX4_has yX4_has : Cond) ∈ bigW := in2 124 rfl rfl
set_option maxRecDepth 20000 in
theorem w_425 : (.code yX4_has cX4_has 2 (some .boolean) : Cond) ∈ bigW := in2 125 rfl rfl
set_option maxRecDepth 20000 in
theorem w_426 : (.methodLink RX8 115 yX7_waits : Cond) ∈ bigW := in2 126 rfl rfl
set_option maxRecDepth 20000 in
theorem w_427 : (.instanceMethod yX7_waits : Cond) ∈ bigW := in2 127 rfl rfl
set_option maxRecDepth 20000 in
theorem w_428 : (.selects RX7 yX7_waits yX7_waits : Cond) ∈ bigW := in2 128 rfl rfl
set_option maxRecDepth 20000 in
theorem w_429 : (.code yX7_waits cX7_waits 3 (some .int) : Cond) ∈ bigW := in2 129 rfl rfl
set_option maxRecDepth 20000 in
theorem w_430 : (.methodLink RX7 41 Lib.Math.max.name : Cond) ∈ bigW := in2 130 rfl rfl
set_option maxRecDepth 20000 in
theorem w_431 : (.static Lib.Math.max.name : Cond) ∈ bigW := in2 131 rfl rfl
set_option maxRecDepth 20000 in
theorem w_432 : (.code Lib.Math.max.name Lib.Math.max.code 2 (some .int) : Cond) ∈ bigW := in2 132 rfl rfl
set_option maxRecDepth 20000 in
theorem w_433 : (.methodLink RX8 119 yX7_talks : Cond) ∈ bigW := in2 133 rfl rfl
set_option maxRecDepth 20000 in
theorem w_434 : (.instanceMethod yX7_talks : Cond) ∈ bigW := in2 134 rfl rfl
set_option maxRecDepth 20000 in
theorem w_435 : (.selects RX7 yX7_talks yX7_talks : Cond) ∈ bigW := in2 135 rfl rfl
set_option maxRecDepth 20000 in
theorem w_436 : (.code yX7_talks cX7_talks 1 (some .int) : Cond) ∈ bigW := in2 136 rfl rfl
set_option maxRecDepth 20000 in
theorem w_437 : (.methodLink RX8 123 yX7_yields : Cond) ∈ bigW := in2 137 rfl rfl
set_option maxRecDepth 20000 in
theorem w_438 : (.instanceMethod yX7_yields : Cond) ∈ bigW := in2 138 rfl rfl
set_option maxRecDepth 20000 in
theorem w_439 : (.selects RX7 yX7_yields yX7_yields : Cond) ∈ bigW := in2 139 rfl rfl
set_option maxRecDepth 20000 in
theorem w_440 : (.code yX7_yields cX7_yields 1 (some .boolean) : Cond) ∈ bigW := in2 140 rfl rfl
set_option maxRecDepth 20000 in
theorem w_441 : (.methodLink RX8 126 yX7_worth : Cond) ∈ bigW := in2 141 rfl rfl
set_option maxRecDepth 20000 in
theorem w_442 : (.instanceMethod yX7_worth : Cond) ∈ bigW := in2 142 rfl rfl
set_option maxRecDepth 20000 in
theorem w_443 : (.selects RX7 yX7_worth yX7_worth : Cond) ∈ bigW := in2 143 rfl rfl
set_option maxRecDepth 20000 in
theorem w_444 : (.code yX7_worth cX7_worth 1 (some .int) : Cond) ∈ bigW := in2 144 rfl rfl
set_option maxRecDepth 20000 in
theorem w_445 : (.methodLink RL 23 yX8_as : Cond) ∈ bigW := in2 145 rfl rfl
set_option maxRecDepth 20000 in
theorem w_446 : (.instanceMethod yX8_as : Cond) ∈ bigW := in2 146 rfl rfl
set_option maxRecDepth 20000 in
theorem w_447 : (.selects RX8 yX8_as yX8_as : Cond) ∈ bigW := in2 147 rfl rfl
set_option maxRecDepth 20000 in
theorem w_448 : (.code yX8_as cX8_as 4 (some .int) : Cond) ∈ bigW := in2 148 rfl rfl
set_option maxRecDepth 20000 in
theorem w_449 : (.methodLink RX8 129 yX7_isOf : Cond) ∈ bigW := in2 149 rfl rfl
set_option maxRecDepth 20000 in
theorem w_450 : (.instanceMethod yX7_isOf : Cond) ∈ bigW := in2 150 rfl rfl
set_option maxRecDepth 20000 in
theorem w_451 : (.selects RX7 yX7_isOf yX7_isOf : Cond) ∈ bigW := in2 151 rfl rfl
set_option maxRecDepth 20000 in
theorem w_452 : (.code yX7_isOf cX7_isOf 2 (some .boolean) : Cond) ∈ bigW := in2 152 rfl rfl
set_option maxRecDepth 20000 in
theorem w_453 : (.methodLink RX7 37 yX7_aboveHer : Cond) ∈ bigW := in2 153 rfl rfl
set_option maxRecDepth 20000 in
theorem w_455 : (.instanceMethod yX7_aboveHer : Cond) ∈ bigW := in2 155 rfl rfl
set_option maxRecDepth 20000 in
theorem w_456 : (.code yX7_aboveHer cX7_aboveHer 1 (some .int) : Cond) ∈ bigW := in2 156 rfl rfl
set_option maxRecDepth 20000 in
theorem w_457 : (.constant RX8 132 (-1000000012) : Cond) ∈ bigW := in2 157 rfl rfl
set_option maxRecDepth 20000 in
theorem w_458 : (.methodLink RL 27 yX8_turns : Cond) ∈ bigW := in2 158 rfl rfl
set_option maxRecDepth 20000 in
theorem w_459 : (.instanceMethod yX8_turns : Cond) ∈ bigW := in2 159 rfl rfl
set_option maxRecDepth 20000 in
theorem w_460 : (.selects RX8 yX8_turns yX8_turns : Cond) ∈ bigW := in2 160 rfl rfl
set_option maxRecDepth 20000 in
theorem w_461 : (.code yX8_turns cX8_turns 5 (some .int) : Cond) ∈ bigW := in2 161 rfl rfl
set_option maxRecDepth 20000 in
theorem w_462 : (.methodLink RL 31 yX8_set : Cond) ∈ bigW := in2 162 rfl rfl
set_option maxRecDepth 20000 in
theorem w_463 : (.instanceMethod yX8_set : Cond) ∈ bigW := in2 163 rfl rfl
set_option maxRecDepth 20000 in
theorem w_464 : (.selects RX8 yX8_set yX8_set : Cond) ∈ bigW := in2 164 rfl rfl
set_option maxRecDepth 20000 in
theorem w_465 : (.code yX8_set cX8_set 4 (some .int) : Cond) ∈ bigW := in2 165 rfl rfl
set_option maxRecDepth 20000 in
theorem w_466 : (.methodLink RX8 133 yX7_put : Cond) ∈ bigW := in2 166 rfl rfl
set_option maxRecDepth 20000 in
theorem w_467 : (.instanceMethod yX7_put : Cond) ∈ bigW := in2 167 rfl rfl
set_option maxRecDepth 20000 in
theorem w_468 : (.selects RX7 yX7_put yX7_put : Cond) ∈ bigW := in2 168 rfl rfl
set_option maxRecDepth 20000 in
theorem w_469 : (.code yX7_put cX7_put 4 (some .int) : Cond) ∈ bigW := in2 169 rfl rfl
set_option maxRecDepth 20000 in
theorem w_470 : (.methodLink RL 35 yX8_speak : Cond) ∈ bigW := in2 170 rfl rfl
set_option maxRecDepth 20000 in
theorem w_471 : (.instanceMethod yX8_speak : Cond) ∈ bigW := in2 171 rfl rfl
set_option maxRecDepth 20000 in
theorem w_472 : (.selects RX8 yX8_speak yX8_speak : Cond) ∈ bigW := in2 172 rfl rfl
set_option maxRecDepth 20000 in
theorem w_473 : (.code yX8_speak cX8_speak 5 (some .int) : Cond) ∈ bigW := in2 173 rfl rfl
set_option maxRecDepth 20000 in
theorem w_474 : (.methodLink RL 39 yX8_hush : Cond) ∈ bigW := in2 174 rfl rfl
set_option maxRecDepth 20000 in
theorem w_475 : (.instanceMethod yX8_hush : Cond) ∈ bigW := in2 175 rfl rfl
set_option maxRecDepth 20000 in
theorem w_476 : (.selects RX8 yX8_hush yX8_hush : Cond) ∈ bigW := in2 176 rfl rfl
set_option maxRecDepth 20000 in
theorem w_477 : (.code yX8_hush cX8_hush 4 (some .int) : Cond) ∈ bigW := in2 177 rfl rfl
set_option maxRecDepth 20000 in
theorem w_478 : (.methodLink RL 44 yX8_air : Cond) ∈ bigW := in2 178 rfl rfl
set_option maxRecDepth 20000 in
theorem w_479 : (.instanceMethod yX8_air : Cond) ∈ bigW := in2 179 rfl rfl
set_option maxRecDepth 20000 in
theorem w_480 : (.selects RX8 yX8_air yX8_air : Cond) ∈ bigW := in2 180 rfl rfl
set_option maxRecDepth 20000 in
theorem w_481 : (.code yX8_air cX8_air 3 (some .int) : Cond) ∈ bigW := in2 181 rfl rfl
set_option maxRecDepth 20000 in
theorem w_482 : (.methodLink RX8 141 yX4_allows : Cond) ∈ bigW := in2 182 rfl rfl
set_option maxRecDepth 20000 in
theorem w_483 : (.static yX4_allows : Cond) ∈ bigW := in2 183 rfl rfl
set_option maxRecDepth 20000 in
theorem w_484 : (.code yX4_allows cX4_allows 2 (some .boolean) : Cond) ∈ bigW := in2 184 rfl rfl
set_option maxRecDepth 20000 in
theorem w_486 : (.methodLink RX8 142 yX4_put : Cond) ∈ bigW := in2 186 rfl rfl
set_option maxRecDepth 20000 in
theorem w_487 : (.instanceMethod yX4_put : Cond) ∈ bigW := in2 187 rfl rfl
set_option maxRecDepth 20000 in
theorem w_488 : (.selects RX4 yX4_put yX4_put : Cond) ∈ bigW := in2 188 rfl rfl
set_option maxRecDepth 20000 in
theorem w_489 : (.code yX4_put cX4_put 4 (some .int) : Cond) ∈ bigW := in2 189 rfl rfl
set_option maxRecDepth 20000 in
theorem w_490 : (.methodLink RL 48 yX8_deal : Cond) ∈ bigW := in2 190 rfl rfl
set_option maxRecDepth 20000 in
theorem w_491 : (.instanceMethod yX8_deal : Cond) ∈ bigW := in2 191 rfl rfl
set_option maxRecDepth 20000 in
theorem w_492 : (.selects RX8 yX8_deal yX8_deal : Cond) ∈ bigW := in2 192 rfl rfl
set_option maxRecDepth 20000 in
theorem w_493 : (.code yX8_deal cX8_deal 4 (some .int) : Cond) ∈ bigW := in2 193 rfl rfl
set_option maxRecDepth 20000 in
theorem w_494 : (.methodLink RX8 143 yX4_seatDrawn : Cond) ∈ bigW := in2 194 rfl rfl
set_option maxRecDepth 20000 in
theorem w_495 : (.instanceMethod yX4_seatDrawn : Cond) ∈ bigW := in2 195 rfl rfl
set_option maxRecDepth 20000 in
theorem w_496 : (.selects RX4 yX4_seatDrawn yX4_seatDrawn : Cond) ∈ bigW := in2 196 rfl rfl
set_option maxRecDepth 20000 in
theorem w_497 : (.code yX4_seatDrawn cX4_seatDrawn 4 none : Cond) ∈ bigW := in2 197 rfl rfl
set_option maxRecDepth 20000 in
theorem w_498 : (.methodLink RX4 100 yX4_drawBelow : Cond) ∈ bigW := in2 198 rfl rfl
set_option maxRecDepth 20000 in
theorem w_500 : (.instanceMethod yX4_drawBelow : Cond) ∈ bigW := in2 200 rfl rfl
set_option maxRecDepth 20000 in
theorem w_501 : (.code yX4_drawBelow cX4_drawBelow 2 (some .int) : Cond) ∈ bigW := in2 201 rfl rfl
set_option maxRecDepth 20000 in
theorem w_502 : (.constant RX4 112 1103515245 : Cond) ∈ bigW := in2 202 rfl rfl
set_option maxRecDepth 20000 in
theorem w_503 : (.methodLink RX4 104 yX4_seat : Cond) ∈ bigW := in2 203 rfl rfl
set_option maxRecDepth 20000 in
theorem w_504 : (.methodLink RL 52 yX8_seed : Cond) ∈ bigW := in2 204 rfl rfl
set_option maxRecDepth 20000 in
theorem w_505 : (.instanceMethod yX8_seed : Cond) ∈ bigW := in2 205 rfl rfl
set_option maxRecDepth 20000 in
theorem w_506 : (.selects RX8 yX8_seed yX8_seed : Cond) ∈ bigW := in2 206 rfl rfl
set_option maxRecDepth 20000 in
theorem w_507 : (.code yX8_seed cX8_seed 3 (some .int) : Cond) ∈ bigW := in2 207 rfl rfl
set_option maxRecDepth 20000 in
theorem w_508 : (.methodLink RL 56 yX8_tenths : Cond) ∈ bigW := in2 208 rfl rfl
set_option maxRecDepth 20000 in
theorem w_509 : (.instanceMethod yX8_tenths : Cond) ∈ bigW := in2 209 rfl rfl
set_option maxRecDepth 20000 in
theorem w_510 : (.selects RX8 yX8_tenths yX8_tenths : Cond) ∈ bigW := in2 210 rfl rfl
set_option maxRecDepth 20000 in
theorem w_511 : (.code yX8_tenths cX8_tenths 3 (some .int) : Cond) ∈ bigW := in2 211 rfl rfl
set_option maxRecDepth 20000 in
theorem w_512 : (.methodLink RX8 155 Lib.Math.min.name : Cond) ∈ bigW := in2 212 rfl rfl
set_option maxRecDepth 20000 in
theorem w_513 : (.static Lib.Math.min.name : Cond) ∈ bigW := in2 213 rfl rfl
set_option maxRecDepth 20000 in
theorem w_514 : (.code Lib.Math.min.name Lib.Math.min.code 2 (some .int) : Cond) ∈ bigW := in2 214 rfl rfl
set_option maxRecDepth 20000 in
theorem w_515 : (.methodLink RX8 160 yX4_run : Cond) ∈ bigW := in2 215 rfl rfl
set_option maxRecDepth 20000 in
theorem w_516 : (.instanceMethod yX4_run : Cond) ∈ bigW := in2 216 rfl rfl
set_option maxRecDepth 20000 in
theorem w_517 : (.selects RX4 yX4_run yX4_run : Cond) ∈ bigW := in2 217 rfl rfl
set_option maxRecDepth 20000 in
theorem w_518 : (.code yX4_run cX4_run 3 none : Cond) ∈ bigW := in2 218 rfl rfl
set_option maxRecDepth 20000 in
theorem w_519 : (.methodLink RX4 113 yX4_hear : Cond) ∈ bigW := in2 219 rfl rfl
set_option maxRecDepth 20000 in
theorem w_520 : (.instanceMethod yX4_hear : Cond) ∈ bigW := in2 220 rfl rfl
set_option maxRecDepth 20000 in
theorem w_521 : (.selects RX4 yX4_hear yX4_hear : Cond) ∈ bigW := in2 221 rfl rfl
set_option maxRecDepth 20000 in
theorem w_522 : (.code yX4_hear cX4_hear 4 none : Cond) ∈ bigW := in2 222 rfl rfl
set_option maxRecDepth 20000 in
theorem w_523 : (.methodLink RX4 119 Lib.Math.max.name : Cond) ∈ bigW := in2 223 rfl rfl
set_option maxRecDepth 20000 in
theorem w_524 : (.methodLink RX4 116 yX4_goOn : Cond) ∈ bigW := in2 224 rfl rfl
set_option maxRecDepth 20000 in
theorem w_525 : (.instanceMethod yX4_goOn : Cond) ∈ bigW := in2 225 rfl rfl
set_option maxRecDepth 20000 in
theorem w_526 : (.selects RX4 yX4_goOn yX4_goOn : Cond) ∈ bigW := in2 226 rfl rfl
set_option maxRecDepth 20000 in
theorem w_527 : (.code yX4_goOn cX4_goOn 2 none : Cond) ∈ bigW := in2 227 rfl rfl
set_option maxRecDepth 20000 in
theorem w_528 : (.methodLink RX4 125 yX4_whoIsReady : Cond) ∈ bigW := in2 228 rfl rfl
set_option maxRecDepth 20000 in
theorem w_530 : (.instanceMethod yX4_whoIsReady : Cond) ∈ bigW := in2 230 rfl rfl
set_option maxRecDepth 20000 in
theorem w_531 : (.code yX4_whoIsReady cX4_whoIsReady 3 (some .int) : Cond) ∈ bigW := in2 231 rfl rfl
set_option maxRecDepth 20000 in
theorem w_532 : (.methodLink RX4 136 yX7_isReady : Cond) ∈ bigW := in2 232 rfl rfl
set_option maxRecDepth 20000 in
theorem w_533 : (.instanceMethod yX7_isReady : Cond) ∈ bigW := in2 233 rfl rfl
set_option maxRecDepth 20000 in
theorem w_534 : (.selects RX7 yX7_isReady yX7_isReady : Cond) ∈ bigW := in2 234 rfl rfl
set_option maxRecDepth 20000 in
theorem w_535 : (.code yX7_isReady cX7_isReady 3 (some .boolean) : Cond) ∈ bigW := in2 235 rfl rfl
set_option maxRecDepth 20000 in
theorem w_536 : (.methodLink RX7 47 yX7_waits : Cond) ∈ bigW := in2 236 rfl rfl
set_option maxRecDepth 20000 in
theorem w_537 : (.methodLink RX4 129 yX4_bearSilence : Cond) ∈ bigW := in2 237 rfl rfl
set_option maxRecDepth 20000 in
theorem w_539 : (.instanceMethod yX4_bearSilence : Cond) ∈ bigW := in2 239 rfl rfl
set_option maxRecDepth 20000 in
theorem w_540 : (.code yX4_bearSilence cX4_bearSilence 1 none : Cond) ∈ bigW := in3 0 rfl rfl
set_option maxRecDepth 20000 in
theorem w_541 : (.methodLink RX4 161 yX4_turningOff : Cond) ∈ bigW := in3 1 rfl rfl
set_option maxRecDepth 20000 in
theorem w_543 : (.instanceMethod yX4_turningOff : Cond) ∈ bigW := in3 3 rfl rfl
set_option maxRecDepth 20000 in
theorem w_544 : (.code yX4_turningOff cX4_turningOff 2 (some .int) : Cond) ∈ bigW := in3 4 rfl rfl
set_option maxRecDepth 20000 in
theorem w_545 : (.methodLink RX4 167 yX6_give : Cond) ∈ bigW := in3 5 rfl rfl
set_option maxRecDepth 20000 in
theorem w_546 : (.instanceMethod yX6_give : Cond) ∈ bigW := in3 6 rfl rfl
set_option maxRecDepth 20000 in
theorem w_547 : (.selects RX6 yX6_give yX6_give : Cond) ∈ bigW := in3 7 rfl rfl
set_option maxRecDepth 20000 in
theorem w_548 : (.code yX6_give cX6_give 11 (some .int) : Cond) ∈ bigW := in3 8 rfl rfl
set_option maxRecDepth 20000 in
theorem w_549 : (.methodLink RX6 29 yX6_join : Cond) ∈ bigW := in3 9 rfl rfl
set_option maxRecDepth 20000 in
theorem w_550 : (.static yX6_join : Cond) ∈ bigW := in3 10 rfl rfl
set_option maxRecDepth 20000 in
theorem w_551 : (.code yX6_join cX6_join 3 (some .int) : Cond) ∈ bigW := in3 11 rfl rfl
set_option maxRecDepth 20000 in
theorem w_552 : (.methodLink RX4 164 Lib.Math.min.name : Cond) ∈ bigW := in3 12 rfl rfl
set_option maxRecDepth 20000 in
theorem w_553 : (.methodLink RX4 132 yX4_answerSilence : Cond) ∈ bigW := in3 13 rfl rfl
set_option maxRecDepth 20000 in
theorem w_555 : (.instanceMethod yX4_answerSilence : Cond) ∈ bigW := in3 15 rfl rfl
set_option maxRecDepth 20000 in
theorem w_556 : (.code yX4_answerSilence cX4_answerSilence 3 none : Cond) ∈ bigW := in3 16 rfl rfl
set_option maxRecDepth 20000 in
theorem w_557 : (.methodLink RX4 140 yJ6_bitCount_0f7a4 : Cond) ∈ bigW := in3 17 rfl rfl
set_option maxRecDepth 20000 in
theorem w_558 : (.static yJ6_bitCount_0f7a4 : Cond) ∈ bigW := in3 18 rfl rfl
set_option maxRecDepth 20000 in
theorem w_559 : (.code yJ6_bitCount_0f7a4 cJ6_bitCount_0f7a4 1 (some .int) : Cond) ∈ bigW := in3 19 rfl rfl
set_option maxRecDepth 20000 in
theorem w_560 : (.constant RJ6 265 1431655765 : Cond) ∈ bigW := in3 20 rfl rfl
set_option maxRecDepth 20000 in
theorem w_561 : (.constant RJ6 266 858993459 : Cond) ∈ bigW := in3 21 rfl rfl
set_option maxRecDepth 20000 in
theorem w_562 : (.constant RJ6 267 252645135 : Cond) ∈ bigW := in3 22 rfl rfl
set_option maxRecDepth 20000 in
theorem w_563 : (.methodLink RX4 145 yX4_cross : Cond) ∈ bigW := in3 23 rfl rfl
set_option maxRecDepth 20000 in
theorem w_565 : (.instanceMethod yX4_cross : Cond) ∈ bigW := in3 25 rfl rfl
set_option maxRecDepth 20000 in
theorem w_566 : (.code yX4_cross cX4_cross 5 none : Cond) ∈ bigW := in3 26 rfl rfl
set_option maxRecDepth 20000 in
theorem w_567 : (.methodLink RX4 154 yX7_yields : Cond) ∈ bigW := in3 27 rfl rfl
set_option maxRecDepth 20000 in
theorem w_568 : (.methodLink RX4 151 yX4_begin : Cond) ∈ bigW := in3 28 rfl rfl
set_option maxRecDepth 20000 in
theorem w_570 : (.instanceMethod yX4_begin : Cond) ∈ bigW := in3 30 rfl rfl
set_option maxRecDepth 20000 in
theorem w_571 : (.code yX4_begin cX4_begin 2 none : Cond) ∈ bigW := in3 31 rfl rfl
set_option maxRecDepth 20000 in
theorem w_572 : (.methodLink RX4 158 yX7_talks : Cond) ∈ bigW := in3 32 rfl rfl
set_option maxRecDepth 20000 in
theorem w_573 : (.methodLink RX4 148 yX4_beginAlone : Cond) ∈ bigW := in3 33 rfl rfl
set_option maxRecDepth 20000 in
theorem w_575 : (.instanceMethod yX4_beginAlone : Cond) ∈ bigW := in3 35 rfl rfl
set_option maxRecDepth 20000 in
theorem w_576 : (.code yX4_beginAlone cX4_beginAlone 2 none : Cond) ∈ bigW := in3 36 rfl rfl
set_option maxRecDepth 20000 in
theorem w_577 : (.methodLink RL 60 yX8_studio : Cond) ∈ bigW := in3 37 rfl rfl
set_option maxRecDepth 20000 in
theorem w_578 : (.instanceMethod yX8_studio : Cond) ∈ bigW := in3 38 rfl rfl
set_option maxRecDepth 20000 in
theorem w_579 : (.selects RX8 yX8_studio yX8_studio : Cond) ∈ bigW := in3 39 rfl rfl
set_option maxRecDepth 20000 in
theorem w_580 : (.code yX8_studio cX8_studio 2 (some .int) : Cond) ∈ bigW := in3 40 rfl rfl
set_option maxRecDepth 20000 in
theorem w_581 : (.methodLink RX8 188 yX4_speakers : Cond) ∈ bigW := in3 41 rfl rfl
set_option maxRecDepth 20000 in
theorem w_582 : (.instanceMethod yX4_speakers : Cond) ∈ bigW := in3 42 rfl rfl
set_option maxRecDepth 20000 in
theorem w_583 : (.selects RX4 yX4_speakers yX4_speakers : Cond) ∈ bigW := in3 43 rfl rfl
set_option maxRecDepth 20000 in
theorem w_584 : (.code yX4_speakers cX4_speakers 3 (some .int) : Cond) ∈ bigW := in3 44 rfl rfl
set_option maxRecDepth 20000 in
theorem w_585 : (.methodLink RL 64 yX8_behind : Cond) ∈ bigW := in3 45 rfl rfl
set_option maxRecDepth 20000 in
theorem w_586 : (.instanceMethod yX8_behind : Cond) ∈ bigW := in3 46 rfl rfl
set_option maxRecDepth 20000 in
theorem w_587 : (.selects RX8 yX8_behind yX8_behind : Cond) ∈ bigW := in3 47 rfl rfl
set_option maxRecDepth 20000 in
theorem w_588 : (.code yX8_behind cX8_behind 3 (some .int) : Cond) ∈ bigW := in3 48 rfl rfl
set_option maxRecDepth 20000 in
theorem w_589 : (.methodLink RX8 194 yX4_become : Cond) ∈ bigW := in3 49 rfl rfl
set_option maxRecDepth 20000 in
theorem w_590 : (.instanceMethod yX4_become : Cond) ∈ bigW := in3 50 rfl rfl
set_option maxRecDepth 20000 in
theorem w_591 : (.selects RX4 yX4_become yX4_become : Cond) ∈ bigW := in3 51 rfl rfl
set_option maxRecDepth 20000 in
theorem w_592 : (.code yX4_become cX4_become 3 none : Cond) ∈ bigW := in3 52 rfl rfl
set_option maxRecDepth 20000 in
theorem w_593 : (.methodLink RX4 42 yX7_become : Cond) ∈ bigW := in3 53 rfl rfl
set_option maxRecDepth 20000 in
theorem w_594 : (.instanceMethod yX7_become : Cond) ∈ bigW := in3 54 rfl rfl
set_option maxRecDepth 20000 in
theorem w_595 : (.selects RX7 yX7_become yX7_become : Cond) ∈ bigW := in3 55 rfl rfl
set_option maxRecDepth 20000 in
theorem w_596 : (.code yX7_become cX7_become 2 none : Cond) ∈ bigW := in3 56 rfl rfl
set_option maxRecDepth 20000 in
theorem w_597 : (.methodLink RL 68 yX8_next : Cond) ∈ bigW := in3 57 rfl rfl
set_option maxRecDepth 20000 in
theorem w_598 : (.instanceMethod yX8_next : Cond) ∈ bigW := in3 58 rfl rfl
set_option maxRecDepth 20000 in
theorem w_599 : (.selects RX8 yX8_next yX8_next : Cond) ∈ bigW := in3 59 rfl rfl
set_option maxRecDepth 20000 in
theorem w_600 : (.code yX8_next cX8_next 4 (some .int) : Cond) ∈ bigW := in3 60 rfl rfl
set_option maxRecDepth 20000 in
theorem w_601 : (.methodLink RX8 198 yX4_firstWhoSaidMore : Cond) ∈ bigW := in3 61 rfl rfl
set_option maxRecDepth 20000 in
theorem w_602 : (.instanceMethod yX4_firstWhoSaidMore : Cond) ∈ bigW := in3 62 rfl rfl
set_option maxRecDepth 20000 in
theorem w_603 : (.selects RX4 yX4_firstWhoSaidMore yX4_firstWhoSaidMore : Cond) ∈ bigW := in3 63 rfl rfl
set_option maxRecDepth 20000 in
theorem w_604 : (.code yX4_firstWhoSaidMore cX4_firstWhoSaidMore 3 (some .int) : Cond) ∈ bigW := in3 64 rfl rfl
set_option maxRecDepth 20000 in
theorem w_605 : (.constant RX8 202 (-1000000005) : Cond) ∈ bigW := in3 65 rfl rfl
set_option maxRecDepth 20000 in
theorem w_606 : (.methodLink RL 72 yX8_hole : Cond) ∈ bigW := in3 66 rfl rfl
set_option maxRecDepth 20000 in
theorem w_607 : (.instanceMethod yX8_hole : Cond) ∈ bigW := in3 67 rfl rfl
set_option maxRecDepth 20000 in
theorem w_608 : (.selects RX8 yX8_hole yX8_hole : Cond) ∈ bigW := in3 68 rfl rfl
set_option maxRecDepth 20000 in
theorem w_609 : (.code yX8_hole cX8_hole 3 (some .int) : Cond) ∈ bigW := in3 69 rfl rfl
set_option maxRecDepth 20000 in
theorem w_610 : (.methodLink RX8 203 yX4_hear : Cond) ∈ bigW := in3 70 rfl rfl
set_option maxRecDepth 20000 in
theorem w_611 : (.methodLink RX8 206 yX4_goOn : Cond) ∈ bigW := in3 71 rfl rfl
set_option maxRecDepth 20000 in
theorem w_612 : (.methodLink RL 76 yX8_patience : Cond) ∈ bigW := in3 72 rfl rfl
set_option maxRecDepth 20000 in
theorem w_613 : (.instanceMethod yX8_patience : Cond) ∈ bigW := in3 73 rfl rfl
set_option maxRecDepth 20000 in
theorem w_614 : (.selects RX8 yX8_patience yX8_patience : Cond) ∈ bigW := in3 74 rfl rfl
set_option maxRecDepth 20000 in
theorem w_615 : (.code yX8_patience cX8_patience 5 (some .int) : Cond) ∈ bigW := in3 75 rfl rfl
set_option maxRecDepth 20000 in
theorem w_616 : (.methodLink RX8 209 yX8_isBestAsked : Cond) ∈ bigW := in3 76 rfl rfl
set_option maxRecDepth 20000 in
theorem w_617 : (.static yX8_isBestAsked : Cond) ∈ bigW := in3 77 rfl rfl
set_option maxRecDepth 20000 in
theorem w_618 : (.code yX8_isBestAsked cX8_isBestAsked 2 (some .boolean) : Cond) ∈ bigW := in3 78 rfl rfl
set_option maxRecDepth 20000 in
theorem w_619 : (.methodLink RX8 212 yX0_clear : Cond) ∈ bigW := in3 79 rfl rfl
set_option maxRecDepth 20000 in
theorem w_620 : (.instanceMethod yX0_clear : Cond) ∈ bigW := in3 80 rfl rfl
set_option maxRecDepth 20000 in
theorem w_621 : (.selects RX0 yX0_clear yX0_clear : Cond) ∈ bigW := in3 81 rfl rfl
set_option maxRecDepth 20000 in
theorem w_622 : (.code yX0_clear cX0_clear 1 none : Cond) ∈ bigW := in3 82 rfl rfl
set_option maxRecDepth 20000 in
theorem w_623 : (.methodLink RX8 215 yX0_weigh : Cond) ∈ bigW := in3 83 rfl rfl
set_option maxRecDepth 20000 in
theorem w_624 : (.instanceMethod yX0_weigh : Cond) ∈ bigW := in3 84 rfl rfl
set_option maxRecDepth 20000 in
theorem w_625 : (.selects RX0 yX0_weigh yX0_weigh : Cond) ∈ bigW := in3 85 rfl rfl
set_option maxRecDepth 20000 in
theorem w_626 : (.code yX0_weigh cX0_weigh 3 none : Cond) ∈ bigW := in3 86 rfl rfl
set_option maxRecDepth 20000 in
theorem w_627 : (.methodLink RX8 219 yX0_answer : Cond) ∈ bigW := in3 87 rfl rfl
set_option maxRecDepth 20000 in
theorem w_628 : (.instanceMethod yX0_answer : Cond) ∈ bigW := in3 88 rfl rfl
set_option maxRecDepth 20000 in
theorem w_629 : (.selects RX0 yX0_answer yX0_answer : Cond) ∈ bigW := in3 89 rfl rfl
set_option maxRecDepth 20000 in
theorem w_630 : (.code yX0_answer cX0_answer 2 (some .int) : Cond) ∈ bigW := in3 90 rfl rfl
set_option maxRecDepth 20000 in
theorem w_631 : (.methodLink RL 80 yX8_device : Cond) ∈ bigW := in3 91 rfl rfl
set_option maxRecDepth 20000 in
theorem w_632 : (.instanceMethod yX8_device : Cond) ∈ bigW := in3 92 rfl rfl
set_option maxRecDepth 20000 in
theorem w_633 : (.selects RX8 yX8_device yX8_device : Cond) ∈ bigW := in3 93 rfl rfl
set_option maxRecDepth 20000 in
theorem w_634 : (.code yX8_device cX8_device 4 (some .int) : Cond) ∈ bigW := in3 94 rfl rfl
set_option maxRecDepth 20000 in
theorem w_635 : (.methodLink RL 84 yX8_filler : Cond) ∈ bigW := in3 95 rfl rfl
set_option maxRecDepth 20000 in
theorem w_636 : (.instanceMethod yX8_filler : Cond) ∈ bigW := in3 96 rfl rfl
set_option maxRecDepth 20000 in
theorem w_637 : (.selects RX8 yX8_filler yX8_filler : Cond) ∈ bigW := in3 97 rfl rfl
set_option maxRecDepth 20000 in
theorem w_638 : (.code yX8_filler cX8_filler 4 (some .int) : Cond) ∈ bigW := in3 98 rfl rfl
set_option maxRecDepth 20000 in
theorem w_639 : (.methodLink RL 88 yX8_becomes : Cond) ∈ bigW := in3 99 rfl rfl
set_option maxRecDepth 20000 in
theorem w_640 : (.instanceMethod yX8_becomes : Cond) ∈ bigW := in3 100 rfl rfl
set_option maxRecDepth 20000 in
theorem w_641 : (.selects RX8 yX8_becomes yX8_becomes : Cond) ∈ bigW := in3 101 rfl rfl
set_option maxRecDepth 20000 in
theorem w_642 : (.code yX8_becomes cX8_becomes 5 (some .int) : Cond) ∈ bigW := in3 102 rfl rfl
set_option maxRecDepth 20000 in
theorem w_643 : (.methodLink RL 92 yX8_apart : Cond) ∈ bigW := in3 103 rfl rfl
set_option maxRecDepth 20000 in
theorem w_644 : (.instanceMethod yX8_apart : Cond) ∈ bigW := in3 104 rfl rfl
set_option maxRecDepth 20000 in
theorem w_645 : (.selects RX8 yX8_apart yX8_apart : Cond) ∈ bigW := in3 105 rfl rfl
set_option maxRecDepth 20000 in
theorem w_646 : (.code yX8_apart cX8_apart 5 (some .int) : Cond) ∈ bigW := in3 106 rfl rfl
set_option maxRecDepth 20000 in
theorem w_647 : (.methodLink RL 96 yX8_whose : Cond) ∈ bigW := in3 107 rfl rfl
set_option maxRecDepth 20000 in
theorem w_648 : (.instanceMethod yX8_whose : Cond) ∈ bigW := in3 108 rfl rfl
set_option maxRecDepth 20000 in
theorem w_649 : (.selects RX8 yX8_whose yX8_whose : Cond) ∈ bigW := in3 109 rfl rfl
set_option maxRecDepth 20000 in
theorem w_650 : (.code yX8_whose cX8_whose 8 (some .int) : Cond) ∈ bigW := in3 110 rfl rfl
set_option maxRecDepth 20000 in
theorem w_651 : (.methodLink RX8 229 yX8_isSheet : Cond) ∈ bigW := in3 111 rfl rfl
set_option maxRecDepth 20000 in
theorem w_652 : (.static yX8_isSheet : Cond) ∈ bigW := in3 112 rfl rfl
set_option maxRecDepth 20000 in
theorem w_653 : (.code yX8_isSheet cX8_isSheet 1 (some .boolean) : Cond) ∈ bigW := in3 113 rfl rfl
set_option maxRecDepth 20000 in
theorem w_654 : (.methodLink RX8 232 yX2_isMissing : Cond) ∈ bigW := in3 114 rfl rfl
set_option maxRecDepth 20000 in
theorem w_655 : (.instanceMethod yX2_isMissing : Cond) ∈ bigW := in3 115 rfl rfl
set_option maxRecDepth 20000 in
theorem w_656 : (.selects RX2 yX2_isMissing yX2_isMissing : Cond) ∈ bigW := in3 116 rfl rfl
set_option maxRecDepth 20000 in
theorem w_657 : (.code yX2_isMissing cX2_isMissing 1 (some .boolean) : Cond) ∈ bigW := in3 117 rfl rfl
set_option maxRecDepth 20000 in
theorem w_658 : (.constant RX8 235 (-1000000011) : Cond) ∈ bigW := in3 118 rfl rfl
set_option maxRecDepth 20000 in
theorem w_659 : (.methodLink RX8 236 yX8_differences : Cond) ∈ bigW := in3 119 rfl rfl
set_option maxRecDepth 20000 in
theorem w_661 : (.instanceMethod yX8_differences : Cond) ∈ bigW := in3 121 rfl rfl
set_option maxRecDepth 20000 in
theorem w_662 : (.code yX8_differences cX8_differences 5 (some .int) : Cond) ∈ bigW := in3 122 rfl rfl
set_option maxRecDepth 20000 in
theorem w_663 : (.methodLink RX8 296 yX2_isNumber : Cond) ∈ bigW := in3 123 rfl rfl
set_option maxRecDepth 20000 in
theorem w_664 : (.instanceMethod yX2_isNumber : Cond) ∈ bigW := in3 124 rfl rfl
set_option maxRecDepth 20000 in
theorem w_665 : (.selects RX2 yX2_isNumber yX2_isNumber : Cond) ∈ bigW := in3 125 rfl rfl
set_option maxRecDepth 20000 in
theorem w_666 : (.code yX2_isNumber cX2_isNumber 2 (some .boolean) : Cond) ∈ bigW := in3 126 rfl rfl
set_option maxRecDepth 20000 in
theorem w_667 : (.methodLink RX2 28 yX2_hasPlace : Cond) ∈ bigW := in3 127 rfl rfl
set_option maxRecDepth 20000 in
theorem w_668 : (.instanceMethod yX2_hasPlace : Cond) ∈ bigW := in3 128 rfl rfl
set_option maxRecDepth 20000 in
theorem w_669 : (.selects RX2 yX2_hasPlace yX2_hasPlace : Cond) ∈ bigW := in3 129 rfl rfl
set_option maxRecDepth 20000 in
theorem w_670 : (.code yX2_hasPlace cX2_hasPlace 2 (some .boolean) : Cond) ∈ bigW := in3 130 rfl rfl
set_option maxRecDepth 20000 in
theorem w_671 : (.constant RX2 32 (-1000000005) : Cond) ∈ bigW := in3 131 rfl rfl
set_option maxRecDepth 20000 in
theorem w_672 : (.methodLink RX8 351 Lib.Math.abs.name : Cond) ∈ bigW := in3 132 rfl rfl
set_option maxRecDepth 20000 in
theorem w_673 : (.static Lib.Math.abs.name : Cond) ∈ bigW := in3 133 rfl rfl
set_option maxRecDepth 20000 in
theorem w_674 : (.code Lib.Math.abs.name Lib.Math.abs.code 1 (some .int) : Cond) ∈ bigW := in3 134 rfl rfl
set_option maxRecDepth 20000 in
theorem w_675 : (.methodLink RL 100 yX8_fee : Cond) ∈ bigW := in3 135 rfl rfl
set_option maxRecDepth 20000 in
theorem w_676 : (.instanceMethod yX8_fee : Cond) ∈ bigW := in3 136 rfl rfl
set_option maxRecDepth 20000 in
theorem w_677 : (.selects RX8 yX8_fee yX8_fee : Cond) ∈ bigW := in3 137 rfl rfl
set_option maxRecDepth 20000 in
theorem w_678 : (.code yX8_fee cX8_fee 2 (some .int) : Cond) ∈ bigW := in3 138 rfl rfl
set_option maxRecDepth 20000 in
theorem w_679 : (.methodLink RX8 243 yX6_give : Cond) ∈ bigW := in3 139 rfl rfl
set_option maxRecDepth 20000 in
theorem w_680 : (.methodLink RL 105 yX8_fine : Cond) ∈ bigW := in3 140 rfl rfl
set_option maxRecDepth 20000 in
theorem w_681 : (.instanceMethod yX8_fine : Cond) ∈ bigW := in3 141 rfl rfl
set_option maxRecDepth 20000 in
theorem w_682 : (.selects RX8 yX8_fine yX8_fine : Cond) ∈ bigW := in3 142 rfl rfl
set_option maxRecDepth 20000 in
theorem w_683 : (.code yX8_fine cX8_fine 4 (some .int) : Cond) ∈ bigW := in3 143 rfl rfl
set_option maxRecDepth 20000 in
theorem w_684 : (.methodLink RL 109 yX8_feed : Cond) ∈ bigW := in3 144 rfl rfl
set_option maxRecDepth 20000 in
theorem w_685 : (.instanceMethod yX8_feed : Cond) ∈ bigW := in3 145 rfl rfl
set_option maxRecDepth 20000 in
theorem w_686 : (.selects RX8 yX8_feed yX8_feed : Cond) ∈ bigW := in3 146 rfl rfl
set_option maxRecDepth 20000 in
theorem w_687 : (.code yX8_feed cX8_feed 4 (some .int) : Cond) ∈ bigW := in3 147 rfl rfl
set_option maxRecDepth 20000 in
theorem w_688 : (.methodLink RX8 250 yX1_append : Cond) ∈ bigW := in3 148 rfl rfl
set_option maxRecDepth 20000 in
theorem w_689 : (.instanceMethod yX1_append : Cond) ∈ bigW := in3 149 rfl rfl
set_option maxRecDepth 20000 in
theorem w_690 : (.selects RX1 yX1_append yX1_append : Cond) ∈ bigW := in3 150 rfl rfl
set_option maxRecDepth 20000 in
theorem w_691 : (.code yX1_append cX1_append 3 none : Cond) ∈ bigW := in3 151 rfl rfl
set_option maxRecDepth 20000 in
theorem w_692 : (.methodLink RL 113 yX8_trim : Cond) ∈ bigW := in3 152 rfl rfl
set_option maxRecDepth 20000 in
theorem w_693 : (.instanceMethod yX8_trim : Cond) ∈ bigW := in3 153 rfl rfl
set_option maxRecDepth 20000 in
theorem w_694 : (.selects RX8 yX8_trim yX8_trim : Cond) ∈ bigW := in3 154 rfl rfl
set_option maxRecDepth 20000 in
theorem w_695 : (.code yX8_trim cX8_trim 2 (some .int) : Cond) ∈ bigW := in3 155 rfl rfl
set_option maxRecDepth 20000 in
theorem w_696 : (.methodLink RL 117 yX8_text : Cond) ∈ bigW := in3 156 rfl rfl
set_option maxRecDepth 20000 in
theorem w_697 : (.instanceMethod yX8_text : Cond) ∈ bigW := in3 157 rfl rfl
set_option maxRecDepth 20000 in
theorem w_698 : (.selects RX8 yX8_text yX8_text : Cond) ∈ bigW := in3 158 rfl rfl
set_option maxRecDepth 20000 in
theorem w_699 : (.code yX8_text cX8_text 3 (some .int) : Cond) ∈ bigW := in3 159 rfl rfl
set_option maxRecDepth 20000 in
theorem w_700 : (.methodLink RX8 253 yX1_fault : Cond) ∈ bigW := in3 160 rfl rfl
set_option maxRecDepth 20000 in
theorem w_701 : (.instanceMethod yX1_fault : Cond) ∈ bigW := in3 161 rfl rfl
set_option maxRecDepth 20000 in
theorem w_702 : (.selects RX1 yX1_fault yX1_fault : Cond) ∈ bigW := in3 162 rfl rfl
set_option maxRecDepth 20000 in
theorem w_703 : (.code yX1_fault cX1_fault 2 (some .int) : Cond) ∈ bigW := in3 163 rfl rfl
set_option maxRecDepth 20000 in
theorem w_704 : (.methodLink RX1 29 yX1_start : Cond) ∈ bigW := in3 164 rfl rfl
set_option maxRecDepth 20000 in
theorem w_706 : (.instanceMethod yX1_start : Cond) ∈ bigW := in3 166 rfl rfl
set_option maxRecDepth 20000 in
theorem w_707 : (.code yX1_start cX1_start 1 none : Cond) ∈ bigW := in3 167 rfl rfl
set_option maxRecDepth 20000 in
theorem w_708 : (.methodLink RX1 59 yX5_clear : Cond) ∈ bigW := in3 168 rfl rfl
set_option maxRecDepth 20000 in
theorem w_709 : (.instanceMethod yX5_clear : Cond) ∈ bigW := in3 169 rfl rfl
set_option maxRecDepth 20000 in
theorem w_710 : (.selects RX5 yX5_clear yX5_clear : Cond) ∈ bigW := in3 170 rfl rfl
set_option maxRecDepth 20000 in
theorem w_711 : (.code yX5_clear cX5_clear 1 none : Cond) ∈ bigW := in3 171 rfl rfl
set_option maxRecDepth 20000 in
theorem w_712 : (.methodLink RX1 32 yX1_step : Cond) ∈ bigW := in3 172 rfl rfl
set_option maxRecDepth 20000 in
theorem w_714 : (.instanceMethod yX1_step : Cond) ∈ bigW := in3 174 rfl rfl
set_option maxRecDepth 20000 in
theorem w_715 : (.code yX1_step cX1_step 3 none : Cond) ∈ bigW := in3 175 rfl rfl
set_option maxRecDepth 20000 in
theorem w_716 : (.methodLink RX1 74 yX1_isLetter : Cond) ∈ bigW := in3 176 rfl rfl
set_option maxRecDepth 20000 in
theorem w_717 : (.static yX1_isLetter : Cond) ∈ bigW := in3 177 rfl rfl
set_option maxRecDepth 20000 in
theorem w_718 : (.code yX1_isLetter cX1_isLetter 1 (some .boolean) : Cond) ∈ bigW := in3 178 rfl rfl
set_option maxRecDepth 20000 in
theorem w_720 : (.methodLink RX1 78 yX1_isDigit : Cond) ∈ bigW := in3 180 rfl rfl
set_option maxRecDepth 20000 in
theorem w_721 : (.static yX1_isDigit : Cond) ∈ bigW := in3 181 rfl rfl
set_option maxRecDepth 20000 in
theorem w_722 : (.code yX1_isDigit cX1_isDigit 1 (some .boolean) : Cond) ∈ bigW := in3 182 rfl rfl
set_option maxRecDepth 20000 in
theorem w_723 : (.methodLink RX1 42 yX1_goesOn : Cond) ∈ bigW := in3 183 rfl rfl
set_option maxRecDepth 20000 in
theorem w_725 : (.instanceMethod yX1_goesOn : Cond) ∈ bigW := in3 185 rfl rfl
set_option maxRecDepth 20000 in
theorem w_726 : (.code yX1_goesOn cX1_goesOn 1 (some .boolean) : Cond) ∈ bigW := in3 186 rfl rfl
set_option maxRecDepth 20000 in
theorem w_727 : (.methodLink RX1 81 yX1_keyHere : Cond) ∈ bigW := in3 187 rfl rfl
set_option maxRecDepth 20000 in
theorem w_729 : (.instanceMethod yX1_keyHere : Cond) ∈ bigW := in3 189 rfl rfl
set_option maxRecDepth 20000 in
theorem w_730 : (.code yX1_keyHere cX1_keyHere 1 (some .int) : Cond) ∈ bigW := in3 190 rfl rfl
set_option maxRecDepth 20000 in
theorem w_732 : (.methodLink RX1 93 yX1_isHere : Cond) ∈ bigW := in3 192 rfl rfl
set_option maxRecDepth 20000 in
theorem w_734 : (.instanceMethod yX1_isHere : Cond) ∈ bigW := in3 194 rfl rfl
set_option maxRecDepth 20000 in
theorem w_735 : (.code yX1_isHere cX1_isHere 3 (some .boolean) : Cond) ∈ bigW := in3 195 rfl rfl
set_option maxRecDepth 20000 in
theorem w_736 : (.methodLink RX1 101 yJ0_length_8abf5 : Cond) ∈ bigW := in3 196 rfl rfl
set_option maxRecDepth 20000 in
theorem w_737 : (.instanceMethod yJ0_length_8abf5 : Cond) ∈ bigW := in3 197 rfl rfl
set_option maxRecDepth 20000 in
theorem w_738 : (.selects RJ0 yJ0_length_8abf5 yJ0_length_8abf5 : Cond) ∈ bigW := in3 198 rfl rfl
set_option maxRecDepth 20000 in
theorem w_739 : (.code yJ0_length_8abf5 cJ0_length_8abf5 1 (some .int) : Cond) ∈ bigW := in3 199 rfl rfl
set_option maxRecDepth 20000 in
theorem w_740 : (.methodLink RJ0 335 yJ0_coder_7d493 : Cond) ∈ bigW := in3 200 rfl rfl
set_option maxRecDepth 20000 in
theorem w_741 : (.instanceMethod yJ0_coder_7d493 : Cond) ∈ bigW := in3 201 rfl rfl
set_option maxRecDepth 20000 in
theorem w_742 : (.selects RJ0 yJ0_coder_7d493 yJ0_coder_7d493 : Cond) ∈ bigW := in3 202 rfl rfl
set_option maxRecDepth 20000 in
theorem w_743 : (.code yJ0_coder_7d493 cJ0_coder_7d493 1 (some .byte) : Cond) ∈ bigW := in3 203 rfl rfl
set_option maxRecDepth 20000 in
theorem w_744 : (.fieldLink RJ0 38 "java/lang/String" "COMPACT_STRINGS" "Z" : Cond) ∈ bigW := in3 204 rfl rfl
set_option maxRecDepth 20000 in
theorem w_746 : (.methodLink RX1 105 yJ0_charAt_5068e : Cond) ∈ bigW := in3 206 rfl rfl
set_option maxRecDepth 20000 in
theorem w_747 : (.instanceMethod yJ0_charAt_5068e : Cond) ∈ bigW := in3 207 rfl rfl
set_option maxRecDepth 20000 in
theorem w_748 : (.selects RJ0 yJ0_charAt_5068e yJ0_charAt_5068e : Cond) ∈ bigW := in3 208 rfl rfl
set_option maxRecDepth 20000 in
theorem w_749 : (.code yJ0_charAt_5068e cJ0_charAt_5068e 2 (some .char) : Cond) ∈ bigW := in3 209 rfl rfl
set_option maxRecDepth 20000 in
theorem w_750 : (.methodLink RJ0 492 yJ0_isLatin1_aae02 : Cond) ∈ bigW := in3 210 rfl rfl
set_option maxRecDepth 20000 in
theorem w_751 : (.instanceMethod yJ0_isLatin1_aae02 : Cond) ∈ bigW := in3 211 rfl rfl
set_option maxRecDepth 20000 in
theorem w_752 : (.selects RJ0 yJ0_isLatin1_aae02 yJ0_isLatin1_aae02 : Cond) ∈ bigW := in3 212 rfl rfl
set_option maxRecDepth 20000 in
theorem w_753 : (.code yJ0_isLatin1_aae02 cJ0_isLatin1_aae02 1 (some .boolean) : Cond) ∈ bigW := in3 213 rfl rfl
set_option maxRecDepth 20000 in
theorem w_754 : (.methodLink RJ0 495 yJ1_charAt_3b067 : Cond) ∈ bigW := in3 214 rfl rfl
set_option maxRecDepth 20000 in
theorem w_755 : (.static yJ1_charAt_3b067 : Cond) ∈ bigW := in3 215 rfl rfl
set_option maxRecDepth 20000 in
theorem w_756 : (.code yJ1_charAt_3b067 cJ1_charAt_3b067 2 (some .char) : Cond) ∈ bigW := in3 216 rfl rfl
set_option maxRecDepth 20000 in
theorem w_757 : (.methodLink RJ1 9 yJ0_checkIndex_df160 : Cond) ∈ bigW := in3 217 rfl rfl
set_option maxRecDepth 20000 in
theorem w_758 : (.static yJ0_checkIndex_df160 : Cond) ∈ bigW := in3 218 rfl rfl
set_option maxRecDepth 20000 in
theorem w_759 : (.code yJ0_checkIndex_df160 cJ0_checkIndex_df160 2 none : Cond) ∈ bigW := in3 219 rfl rfl
set_option maxRecDepth 20000 in
theorem w_760 : (.fieldLink RJ0 1053 "jdk/internal/util/Preconditions" "SIOOBE_FORMATTER" "Ljava/util/function/BiFunction;" : Cond) ∈ bigW := in3 220 rfl rfl
set_option maxRecDepth 20000 in
theorem w_762 : (.methodLink RJ0 1059 yJ3_checkIndex_8e157 : Cond) ∈ bigW := in3 222 rfl rfl
set_option maxRecDepth 20000 in
theorem w_763 : (.static yJ3_checkIndex_8e157 : Cond) ∈ bigW := in3 223 rfl rfl
set_option maxRecDepth 20000 in
theorem w_764 : (.code yJ3_checkIndex_8e157 cJ3_checkIndex_8e157 3 (some .int) : Cond) ∈ bigW := in3 224 rfl rfl
set_option maxRecDepth 20000 in
theorem w_774 : (.methodLink "java/lang/StringUTF16" 414 yJ0_checkIndex_df160 : Cond) ∈ bigW := in3 234 rfl rfl
set_option maxRecDepth 20000 in
theorem w_778 : (.fieldLink "java/lang/StringUTF16" 44 "java/lang/StringUTF16" "$assertionsDisabled" "Z" : Cond) ∈ bigW := in3 238 rfl rfl
set_option maxRecDepth 20000 in
theorem w_780 : (.fieldLink "java/lang/StringUTF16" 59 "java/lang/StringUTF16" "HI_BYTE_SHIFT" "I" : Cond) ∈ bigW := in4 0 rfl rfl
set_option maxRecDepth 20000 in
theorem w_782 : (.fieldLink "java/lang/StringUTF16" 63 "java/lang/StringUTF16" "LO_BYTE_SHIFT" "I" : Cond) ∈ bigW := in4 2 rfl rfl
set_option maxRecDepth 20000 in
theorem w_786 : (.methodLink RX1 85 yX1_takesPiece : Cond) ∈ bigW := in4 6 rfl rfl
set_option maxRecDepth 20000 in
theorem w_788 : (.instanceMethod yX1_takesPiece : Cond) ∈ bigW := in4 8 rfl rfl
set_option maxRecDepth 20000 in
theorem w_789 : (.code yX1_takesPiece cX1_takesPiece 2 (some .boolean) : Cond) ∈ bigW := in4 9 rfl rfl
set_option maxRecDepth 20000 in
theorem w_790 : (.methodLink RX1 109 yX1_takesNumber : Cond) ∈ bigW := in4 10 rfl rfl
set_option maxRecDepth 20000 in
theorem w_792 : (.instanceMethod yX1_takesNumber : Cond) ∈ bigW := in4 12 rfl rfl
set_option maxRecDepth 20000 in
theorem w_793 : (.code yX1_takesNumber cX1_takesNumber 3 (some .boolean) : Cond) ∈ bigW := in4 13 rfl rfl
set_option maxRecDepth 20000 in
theorem w_794 : (.methodLink RX1 119 yX1_takesAtom : Cond) ∈ bigW := in4 14 rfl rfl
set_option maxRecDepth 20000 in
theorem w_796 : (.instanceMethod yX1_takesAtom : Cond) ∈ bigW := in4 16 rfl rfl
set_option maxRecDepth 20000 in
theorem w_797 : (.code yX1_takesAtom cX1_takesAtom 2 none : Cond) ∈ bigW := in4 17 rfl rfl
set_option maxRecDepth 20000 in
theorem w_798 : (.methodLink RX1 132 yX5_put : Cond) ∈ bigW := in4 18 rfl rfl
set_option maxRecDepth 20000 in
theorem w_799 : (.instanceMethod yX5_put : Cond) ∈ bigW := in4 19 rfl rfl
set_option maxRecDepth 20000 in
theorem w_800 : (.selects RX5 yX5_put yX5_put : Cond) ∈ bigW := in4 20 rfl rfl
set_option maxRecDepth 20000 in
theorem w_801 : (.code yX5_put cX5_put 2 none : Cond) ∈ bigW := in4 21 rfl rfl
set_option maxRecDepth 20000 in
theorem w_802 : (.methodLink RX1 112 yX1_takesName : Cond) ∈ bigW := in4 22 rfl rfl
set_option maxRecDepth 20000 in
theorem w_804 : (.instanceMethod yX1_takesName : Cond) ∈ bigW := in4 24 rfl rfl
set_option maxRecDepth 20000 in
theorem w_805 : (.code yX1_takesName cX1_takesName 4 (some .boolean) : Cond) ∈ bigW := in4 25 rfl rfl
set_option maxRecDepth 20000 in
theorem w_809 : (.methodLink RX1 128 yJ0_indexOf_0f7a4 : Cond) ∈ bigW := in4 29 rfl rfl
set_option maxRecDepth 20000 in
theorem w_810 : (.instanceMethod yJ0_indexOf_0f7a4 : Cond) ∈ bigW := in4 30 rfl rfl
set_option maxRecDepth 20000 in
theorem w_811 : (.selects RJ0 yJ0_indexOf_0f7a4 yJ0_indexOf_0f7a4 : Cond) ∈ bigW := in4 31 rfl rfl
set_option maxRecDepth 20000 in
theorem w_812 : (.code yJ0_indexOf_0f7a4 cJ0_indexOf_0f7a4 2 (some .int) : Cond) ∈ bigW := in4 32 rfl rfl
set_option maxRecDepth 20000 in
theorem w_813 : (.methodLink RJ0 633 yJ0_indexOf_7cf53 : Cond) ∈ bigW := in4 33 rfl rfl
set_option maxRecDepth 20000 in
theorem w_814 : (.instanceMethod yJ0_indexOf_7cf53 : Cond) ∈ bigW := in4 34 rfl rfl
set_option maxRecDepth 20000 in
theorem w_815 : (.selects RJ0 yJ0_indexOf_7cf53 yJ0_indexOf_7cf53 : Cond) ∈ bigW := in4 35 rfl rfl
set_option maxRecDepth 20000 in
theorem w_816 : (.code yJ0_indexOf_7cf53 cJ0_indexOf_7cf53 3 (some .int) : Cond) ∈ bigW := in4 36 rfl rfl
set_option maxRecDepth 20000 in
theorem w_817 : (.methodLink RJ0 505 yJ0_length_8abf5 : Cond) ∈ bigW := in4 37 rfl rfl
set_option maxRecDepth 20000 in
theorem w_818 : (.methodLink RJ0 637 yJ1_indexOf_4cfef : Cond) ∈ bigW := in4 38 rfl rfl
set_option maxRecDepth 20000 in
theorem w_819 : (.static yJ1_indexOf_4cfef : Cond) ∈ bigW := in4 39 rfl rfl
set_option maxRecDepth 20000 in
theorem w_820 : (.code yJ1_indexOf_4cfef cJ1_indexOf_4cfef 4 (some .int) : Cond) ∈ bigW := in4 40 rfl rfl
set_option maxRecDepth 20000 in
theorem w_821 : (.methodLink RJ1 88 yJ1_canEncode_9a6ad : Cond) ∈ bigW := in4 41 rfl rfl
set_option maxRecDepth 20000 in
theorem w_822 : (.static yJ1_canEncode_9a6ad : Cond) ∈ bigW := in4 42 rfl rfl
set_option maxRecDepth 20000 in
theorem w_823 : (.code yJ1_canEncode_9a6ad cJ1_canEncode_9a6ad 1 (some .boolean) : Cond) ∈ bigW := in4 43 rfl rfl
set_option maxRecDepth 20000 in
theorem w_824 : (.methodLink RJ1 92 Lib.Math.max.name : Cond) ∈ bigW := in4 44 rfl rfl
set_option maxRecDepth 20000 in
theorem w_825 : (.methodLink RJ1 38 Lib.Math.min.name : Cond) ∈ bigW := in4 45 rfl rfl
set_option maxRecDepth 20000 in
theorem w_826 : (.methodLink RJ1 95 yJ1_indexOfChar_4cfef : Cond) ∈ bigW := in4 46 rfl rfl
set_option maxRecDepth 20000 in
theorem w_827 : (.static yJ1_indexOfChar_4cfef : Cond) ∈ bigW := in4 47 rfl rfl
set_option maxRecDepth 20000 in
theorem w_828 : (.code yJ1_indexOfChar_4cfef cJ1_indexOfChar_4cfef 6 (some .int) : Cond) ∈ bigW := in4 48 rfl rfl
set_option maxRecDepth 20000 in
theorem w_832 : (.methodLink "java/lang/StringUTF16" 224 Lib.Math.max.name : Cond) ∈ bigW := in4 52 rfl rfl
set_option maxRecDepth 20000 in
theorem w_833 : (.methodLink "java/lang/StringUTF16" 183 Lib.Math.min.name : Cond) ∈ bigW := in4 53 rfl rfl
set_option maxRecDepth 20000 in
theorem w_834 : (.constant "java/lang/StringUTF16" 227 65536 : Cond) ∈ bigW := in4 54 rfl rfl
set_option maxRecDepth 20000 in
theorem w_859 : (.constant "java/lang/Character" 110 55232 : Cond) ∈ bigW := in4 79 rfl rfl
set_option maxRecDepth 20000 in
theorem w_863 : (.constant "java/lang/Character" 76 56320 : Cond) ∈ bigW := in4 83 rfl rfl
set_option maxRecDepth 20000 in
theorem w_864 : (.methodLink RX1 116 yX1_hold : Cond) ∈ bigW := in4 84 rfl rfl
set_option maxRecDepth 20000 in
theorem w_866 : (.instanceMethod yX1_hold : Cond) ∈ bigW := in4 86 rfl rfl
set_option maxRecDepth 20000 in
theorem w_867 : (.code yX1_hold cX1_hold 2 none : Cond) ∈ bigW := in4 87 rfl rfl
set_option maxRecDepth 20000 in
theorem w_868 : (.methodLink RX1 88 yX1_takesSign : Cond) ∈ bigW := in4 88 rfl rfl
set_option maxRecDepth 20000 in
theorem w_870 : (.instanceMethod yX1_takesSign : Cond) ∈ bigW := in4 90 rfl rfl
set_option maxRecDepth 20000 in
theorem w_871 : (.code yX1_takesSign cX1_takesSign 3 (some .boolean) : Cond) ∈ bigW := in4 91 rfl rfl
set_option maxRecDepth 20000 in
theorem w_872 : (.methodLink RX1 138 yX1_closes : Cond) ∈ bigW := in4 92 rfl rfl
set_option maxRecDepth 20000 in
theorem w_874 : (.instanceMethod yX1_closes : Cond) ∈ bigW := in4 94 rfl rfl
set_option maxRecDepth 20000 in
theorem w_875 : (.code yX1_closes cX1_closes 1 (some .boolean) : Cond) ∈ bigW := in4 95 rfl rfl
set_option maxRecDepth 20000 in
theorem w_876 : (.methodLink RX1 55 yX1_release : Cond) ∈ bigW := in4 96 rfl rfl
set_option maxRecDepth 20000 in
theorem w_878 : (.instanceMethod yX1_release : Cond) ∈ bigW := in4 98 rfl rfl
set_option maxRecDepth 20000 in
theorem w_879 : (.code yX1_release cX1_release 3 none : Cond) ∈ bigW := in4 99 rfl rfl
set_option maxRecDepth 20000 in
theorem w_880 : (.methodLink RX1 144 yX1_topRank : Cond) ∈ bigW := in4 100 rfl rfl
set_option maxRecDepth 20000 in
theorem w_882 : (.instanceMethod yX1_topRank : Cond) ∈ bigW := in4 102 rfl rfl
set_option maxRecDepth 20000 in
theorem w_883 : (.code yX1_topRank cX1_topRank 1 (some .int) : Cond) ∈ bigW := in4 103 rfl rfl
set_option maxRecDepth 20000 in
theorem w_884 : (.methodLink RX1 141 yX1_rank : Cond) ∈ bigW := in4 104 rfl rfl
set_option maxRecDepth 20000 in
theorem w_885 : (.static yX1_rank : Cond) ∈ bigW := in4 105 rfl rfl
set_option maxRecDepth 20000 in
theorem w_886 : (.code yX1_rank cX1_rank 1 (some .int) : Cond) ∈ bigW := in4 106 rfl rfl
set_option maxRecDepth 20000 in
theorem w_887 : (.methodLink RX8 267 yX5_become : Cond) ∈ bigW := in4 107 rfl rfl
set_option maxRecDepth 20000 in
theorem w_888 : (.instanceMethod yX5_become : Cond) ∈ bigW := in4 108 rfl rfl
set_option maxRecDepth 20000 in
theorem w_889 : (.selects RX5 yX5_become yX5_become : Cond) ∈ bigW := in4 109 rfl rfl
set_option maxRecDepth 20000 in
theorem w_890 : (.code yX5_become cX5_become 2 none : Cond) ∈ bigW := in4 110 rfl rfl
set_option maxRecDepth 20000 in
theorem w_891 : (.methodLink RX5 25 arraycopyName : Cond) ∈ bigW := in4 111 rfl rfl
set_option maxRecDepth 20000 in
theorem w_892 : (.static arraycopyName : Cond) ∈ bigW := in4 112 rfl rfl
set_option maxRecDepth 20000 in
theorem w_894 : (.methodLink RX8 275 yX4_addText : Cond) ∈ bigW := in4 114 rfl rfl
set_option maxRecDepth 20000 in
theorem w_895 : (.instanceMethod yX4_addText : Cond) ∈ bigW := in4 115 rfl rfl
set_option maxRecDepth 20000 in
theorem w_896 : (.selects RX4 yX4_addText yX4_addText : Cond) ∈ bigW := in4 116 rfl rfl
set_option maxRecDepth 20000 in
theorem w_897 : (.code yX4_addText cX4_addText 2 none : Cond) ∈ bigW := in4 117 rfl rfl
set_option maxRecDepth 20000 in
theorem w_898 : (.arrayClass .byte : Cond) ∈ bigW := in4 118 rfl rfl
set_option maxRecDepth 20000 in
theorem w_899 : (.methodLink RL 121 yX8_textTold : Cond) ∈ bigW := in4 119 rfl rfl
set_option maxRecDepth 20000 in
theorem w_900 : (.instanceMethod yX8_textTold : Cond) ∈ bigW := in4 120 rfl rfl
set_option maxRecDepth 20000 in
theorem w_901 : (.selects RX8 yX8_textTold yX8_textTold : Cond) ∈ bigW := in4 121 rfl rfl
set_option maxRecDepth 20000 in
theorem w_902 : (.code yX8_textTold cX8_textTold 3 (some .int) : Cond) ∈ bigW := in4 122 rfl rfl
set_option maxRecDepth 20000 in
theorem w_903 : (.methodLink RL 125 yX8_why : Cond) ∈ bigW := in4 123 rfl rfl
set_option maxRecDepth 20000 in
theorem w_904 : (.instanceMethod yX8_why : Cond) ∈ bigW := in4 124 rfl rfl
set_option maxRecDepth 20000 in
theorem w_905 : (.selects RX8 yX8_why yX8_why : Cond) ∈ bigW := in4 125 rfl rfl
set_option maxRecDepth 20000 in
theorem w_906 : (.code yX8_why cX8_why 2 (some .int) : Cond) ∈ bigW := in4 126 rfl rfl
set_option maxRecDepth 20000 in
theorem w_907 : (.methodLink RL 129 yX8_sheet : Cond) ∈ bigW := in4 127 rfl rfl
set_option maxRecDepth 20000 in
theorem w_908 : (.instanceMethod yX8_sheet : Cond) ∈ bigW := in4 128 rfl rfl
set_option maxRecDepth 20000 in
theorem w_909 : (.selects RX8 yX8_sheet yX8_sheet : Cond) ∈ bigW := in4 129 rfl rfl
set_option maxRecDepth 20000 in
theorem w_910 : (.code yX8_sheet cX8_sheet 4 (some .int) : Cond) ∈ bigW := in4 130 rfl rfl
set_option maxRecDepth 20000 in
theorem w_911 : (.methodLink RX8 281 yX2_clear : Cond) ∈ bigW := in4 131 rfl rfl
set_option maxRecDepth 20000 in
theorem w_912 : (.instanceMethod yX2_clear : Cond) ∈ bigW := in4 132 rfl rfl
set_option maxRecDepth 20000 in
theorem w_913 : (.selects RX2 yX2_clear yX2_clear : Cond) ∈ bigW := in4 133 rfl rfl
set_option maxRecDepth 20000 in
theorem w_914 : (.code yX2_clear cX2_clear 4 none : Cond) ∈ bigW := in4 134 rfl rfl
set_option maxRecDepth 20000 in
theorem w_915 : (.constant RX8 283 (-1000000014) : Cond) ∈ bigW := in4 135 rfl rfl
set_option maxRecDepth 20000 in
theorem w_916 : (.methodLink RL 133 yX8_mark : Cond) ∈ bigW := in4 136 rfl rfl
set_option maxRecDepth 20000 in
theorem w_917 : (.instanceMethod yX8_mark : Cond) ∈ bigW := in4 137 rfl rfl
set_option maxRecDepth 20000 in
theorem w_918 : (.selects RX8 yX8_mark yX8_mark : Cond) ∈ bigW := in4 138 rfl rfl
set_option maxRecDepth 20000 in
theorem w_919 : (.code yX8_mark cX8_mark 5 (some .int) : Cond) ∈ bigW := in4 139 rfl rfl
set_option maxRecDepth 20000 in
theorem w_920 : (.methodLink RX8 284 yX2_hasPlace : Cond) ∈ bigW := in4 140 rfl rfl
set_option maxRecDepth 20000 in
theorem w_921 : (.constant RX8 287 (-1000000013) : Cond) ∈ bigW := in4 141 rfl rfl
set_option maxRecDepth 20000 in
theorem w_922 : (.constant RX8 294 (-99999) : Cond) ∈ bigW := in4 142 rfl rfl
set_option maxRecDepth 20000 in
theorem w_923 : (.constant RX8 295 99999 : Cond) ∈ bigW := in4 143 rfl rfl
set_option maxRecDepth 20000 in
theorem w_924 : (.methodLink RL 137 yX8_pour : Cond) ∈ bigW := in4 144 rfl rfl
set_option maxRecDepth 20000 in
theorem w_925 : (.instanceMethod yX8_pour : Cond) ∈ bigW := in4 145 rfl rfl
set_option maxRecDepth 20000 in
theorem w_926 : (.selects RX8 yX8_pour yX8_pour : Cond) ∈ bigW := in4 146 rfl rfl
set_option maxRecDepth 20000 in
theorem w_927 : (.code yX8_pour cX8_pour 6 (some .int) : Cond) ∈ bigW := in4 147 rfl rfl
set_option maxRecDepth 20000 in
theorem w_928 : (.methodLink RX8 299 Lib.Math.max.name : Cond) ∈ bigW := in4 148 rfl rfl
set_option maxRecDepth 20000 in
theorem w_929 : (.methodLink RL 141 yX8_reads : Cond) ∈ bigW := in4 149 rfl rfl
set_option maxRecDepth 20000 in
theorem w_930 : (.instanceMethod yX8_reads : Cond) ∈ bigW := in4 150 rfl rfl
set_option maxRecDepth 20000 in
theorem w_931 : (.selects RX8 yX8_reads yX8_reads : Cond) ∈ bigW := in4 151 rfl rfl
set_option maxRecDepth 20000 in
theorem w_932 : (.code yX8_reads cX8_reads 4 (some .int) : Cond) ∈ bigW := in4 152 rfl rfl
set_option maxRecDepth 20000 in
theorem w_933 : (.methodLink RL 145 yX8_copy : Cond) ∈ bigW := in4 153 rfl rfl
set_option maxRecDepth 20000 in
theorem w_934 : (.instanceMethod yX8_copy : Cond) ∈ bigW := in4 154 rfl rfl
set_option maxRecDepth 20000 in
theorem w_935 : (.selects RX8 yX8_copy yX8_copy : Cond) ∈ bigW := in4 155 rfl rfl
set_option maxRecDepth 20000 in
theorem w_936 : (.code yX8_copy cX8_copy 8 (some .int) : Cond) ∈ bigW := in4 156 rfl rfl
set_option maxRecDepth 20000 in
theorem w_937 : (.methodLink RX8 305 yX2_hasPlaces : Cond) ∈ bigW := in4 157 rfl rfl
set_option maxRecDepth 20000 in
theorem w_938 : (.instanceMethod yX2_hasPlaces : Cond) ∈ bigW := in4 158 rfl rfl
set_option maxRecDepth 20000 in
theorem w_939 : (.selects RX2 yX2_hasPlaces yX2_hasPlaces : Cond) ∈ bigW := in4 159 rfl rfl
set_option maxRecDepth 20000 in
theorem w_940 : (.code yX2_hasPlaces cX2_hasPlaces 3 (some .boolean) : Cond) ∈ bigW := in4 160 rfl rfl
set_option maxRecDepth 20000 in
theorem w_941 : (.methodLink RX8 308 arraycopyName : Cond) ∈ bigW := in4 161 rfl rfl
set_option maxRecDepth 20000 in
theorem w_942 : (.methodLink RL 150 yX8_lay : Cond) ∈ bigW := in4 162 rfl rfl
set_option maxRecDepth 20000 in
theorem w_943 : (.instanceMethod yX8_lay : Cond) ∈ bigW := in4 163 rfl rfl
set_option maxRecDepth 20000 in
theorem w_944 : (.selects RX8 yX8_lay yX8_lay : Cond) ∈ bigW := in4 164 rfl rfl
set_option maxRecDepth 20000 in
theorem w_945 : (.code yX8_lay cX8_lay 6 (some .int) : Cond) ∈ bigW := in4 165 rfl rfl
set_option maxRecDepth 20000 in
theorem w_946 : (.methodLink RX8 314 yX8_isSlot : Cond) ∈ bigW := in4 166 rfl rfl
set_option maxRecDepth 20000 in
theorem w_947 : (.static yX8_isSlot : Cond) ∈ bigW := in4 167 rfl rfl
set_option maxRecDepth 20000 in
theorem w_948 : (.code yX8_isSlot cX8_isSlot 1 (some .boolean) : Cond) ∈ bigW := in4 168 rfl rfl
set_option maxRecDepth 20000 in
theorem w_949 : (.methodLink RX8 324 yX7_become : Cond) ∈ bigW := in4 169 rfl rfl
set_option maxRecDepth 20000 in
theorem w_950 : (.methodLink RX8 331 yX2_become : Cond) ∈ bigW := in4 170 rfl rfl
set_option maxRecDepth 20000 in
theorem w_951 : (.instanceMethod yX2_become : Cond) ∈ bigW := in4 171 rfl rfl
set_option maxRecDepth 20000 in
theorem w_952 : (.selects RX2 yX2_become yX2_become : Cond) ∈ bigW := in4 172 rfl rfl
set_option maxRecDepth 20000 in
theorem w_953 : (.code yX2_become cX2_become 2 none : Cond) ∈ bigW := in4 173 rfl rfl
set_option maxRecDepth 20000 in
theorem w_954 : (.methodLink RX2 22 arraycopyName : Cond) ∈ bigW := in4 174 rfl rfl
set_option maxRecDepth 20000 in
theorem w_955 : (.methodLink RL 154 yX8_ask : Cond) ∈ bigW := in4 175 rfl rfl
set_option maxRecDepth 20000 in
theorem w_956 : (.instanceMethod yX8_ask : Cond) ∈ bigW := in4 176 rfl rfl
set_option maxRecDepth 20000 in
theorem w_957 : (.selects RX8 yX8_ask yX8_ask : Cond) ∈ bigW := in4 177 rfl rfl
set_option maxRecDepth 20000 in
theorem w_958 : (.code yX8_ask cX8_ask 5 (some .int) : Cond) ∈ bigW := in4 178 rfl rfl
set_option maxRecDepth 20000 in
theorem w_959 : (.methodLink RX8 337 yX3_finding : Cond) ∈ bigW := in4 179 rfl rfl
set_option maxRecDepth 20000 in
theorem w_960 : (.instanceMethod yX3_finding : Cond) ∈ bigW := in4 180 rfl rfl
set_option maxRecDepth 20000 in
theorem w_961 : (.selects RX3 yX3_finding yX3_finding : Cond) ∈ bigW := in4 181 rfl rfl
set_option maxRecDepth 20000 in
theorem w_962 : (.code yX3_finding cX3_finding 2 (some .int) : Cond) ∈ bigW := in4 182 rfl rfl
set_option maxRecDepth 20000 in
theorem w_963 : (.constant RX3 29 (-1000000011) : Cond) ∈ bigW := in4 183 rfl rfl
set_option maxRecDepth 20000 in
theorem w_964 : (.constant RX3 30 (-1000000012) : Cond) ∈ bigW := in4 184 rfl rfl
set_option maxRecDepth 20000 in
theorem w_965 : (.methodLink RL 158 yX8_item : Cond) ∈ bigW := in4 185 rfl rfl
set_option maxRecDepth 20000 in
theorem w_966 : (.instanceMethod yX8_item : Cond) ∈ bigW := in4 186 rfl rfl
set_option maxRecDepth 20000 in
theorem w_967 : (.selects RX8 yX8_item yX8_item : Cond) ∈ bigW := in4 187 rfl rfl
set_option maxRecDepth 20000 in
theorem w_968 : (.code yX8_item cX8_item 5 (some .int) : Cond) ∈ bigW := in4 188 rfl rfl
set_option maxRecDepth 20000 in
theorem w_969 : (.methodLink RL 162 yX8_rest : Cond) ∈ bigW := in4 189 rfl rfl
set_option maxRecDepth 20000 in
theorem w_970 : (.instanceMethod yX8_rest : Cond) ∈ bigW := in4 190 rfl rfl
set_option maxRecDepth 20000 in
theorem w_971 : (.selects RX8 yX8_rest yX8_rest : Cond) ∈ bigW := in4 191 rfl rfl
set_option maxRecDepth 20000 in
theorem w_972 : (.code yX8_rest cX8_rest 4 (some .int) : Cond) ∈ bigW := in4 192 rfl rfl
set_option maxRecDepth 20000 in
theorem w_973 : (.constant RX8 340 (-1000000002) : Cond) ∈ bigW := in4 193 rfl rfl
set_option maxRecDepth 20000 in
theorem w_974 : (.methodLink RL 166 yX8_tell : Cond) ∈ bigW := in4 194 rfl rfl
set_option maxRecDepth 20000 in
theorem w_975 : (.instanceMethod yX8_tell : Cond) ∈ bigW := in4 195 rfl rfl
set_option maxRecDepth 20000 in
theorem w_976 : (.selects RX8 yX8_tell yX8_tell : Cond) ∈ bigW := in4 196 rfl rfl
set_option maxRecDepth 20000 in
theorem w_977 : (.code yX8_tell cX8_tell 2 (some .int) : Cond) ∈ bigW := in4 197 rfl rfl
set_option maxRecDepth 20000 in
theorem w_978 : (.methodLink RL 170 yX8_check : Cond) ∈ bigW := in4 198 rfl rfl
set_option maxRecDepth 20000 in
theorem w_979 : (.instanceMethod yX8_check : Cond) ∈ bigW := in4 199 rfl rfl
set_option maxRecDepth 20000 in
theorem w_980 : (.selects RX8 yX8_check yX8_check : Cond) ∈ bigW := in4 200 rfl rfl
set_option maxRecDepth 20000 in
theorem w_981 : (.code yX8_check cX8_check 5 (some .int) : Cond) ∈ bigW := in4 201 rfl rfl
set_option maxRecDepth 20000 in
theorem w_982 : (.methodLink RX8 348 yX8_isWaiting : Cond) ∈ bigW := in4 202 rfl rfl
set_option maxRecDepth 20000 in
theorem w_984 : (.instanceMethod yX8_isWaiting : Cond) ∈ bigW := in4 204 rfl rfl
set_option maxRecDepth 20000 in
theorem w_985 : (.code yX8_isWaiting cX8_isWaiting 4 (some .boolean) : Cond) ∈ bigW := in4 205 rfl rfl
set_option maxRecDepth 20000 in
theorem w_986 : (.methodLink RL 174 yX8_keep : Cond) ∈ bigW := in4 206 rfl rfl
set_option maxRecDepth 20000 in
theorem w_987 : (.instanceMethod yX8_keep : Cond) ∈ bigW := in4 207 rfl rfl
set_option maxRecDepth 20000 in
theorem w_988 : (.selects RX8 yX8_keep yX8_keep : Cond) ∈ bigW := in4 208 rfl rfl
set_option maxRecDepth 20000 in
theorem w_989 : (.code yX8_keep cX8_keep 1 (some .int) : Cond) ∈ bigW := in4 209 rfl rfl
set_option maxRecDepth 20000 in
theorem w_990 : (.methodLink RL 178 yX8_back : Cond) ∈ bigW := in4 210 rfl rfl
set_option maxRecDepth 20000 in
theorem w_991 : (.instanceMethod yX8_back : Cond) ∈ bigW := in4 211 rfl rfl
set_option maxRecDepth 20000 in
theorem w_992 : (.selects RX8 yX8_back yX8_back : Cond) ∈ bigW := in4 212 rfl rfl
set_option maxRecDepth 20000 in
theorem w_993 : (.code yX8_back cX8_back 1 (some .int) : Cond) ∈ bigW := in4 213 rfl rfl
set_option maxRecDepth 20000 in
theorem w_994 : (.methodLink RL 182 yX8_count : Cond) ∈ bigW := in4 214 rfl rfl
set_option maxRecDepth 20000 in
theorem w_995 : (.instanceMethod yX8_count : Cond) ∈ bigW := in4 215 rfl rfl
set_option maxRecDepth 20000 in
theorem w_996 : (.selects RX8 yX8_count yX8_count : Cond) ∈ bigW := in4 216 rfl rfl
set_option maxRecDepth 20000 in
theorem w_997 : (.code yX8_count cX8_count 2 (some .int) : Cond) ∈ bigW := in4 217 rfl rfl
set_option maxRecDepth 20000 in
theorem w_998 : (.classLink RL 10 "DeadAirModel" : Cond) ∈ bigW := in4 218 rfl rfl
set_option maxRecDepth 20000 in
theorem w_999 : (.instantiable RX9 35 : Cond) ∈ bigW := in4 219 rfl rfl
set_option maxRecDepth 20000 in
theorem w_1000 : (.methodLink RL 12 yX9_init : Cond) ∈ bigW := in4 220 rfl rfl
set_option maxRecDepth 20000 in
theorem w_1001 : (.instanceMethod yX9_init : Cond) ∈ bigW := in4 221 rfl rfl
set_option maxRecDepth 20000 in
theorem w_1002 : (.code yX9_init cX9_init 1 none : Cond) ∈ bigW := in4 222 rfl rfl
set_option maxRecDepth 20000 in
theorem w_1003 : (.methodLink RX9 1 objectInit : Cond) ∈ bigW := in4 223 rfl rfl
set_option maxRecDepth 20000 in
theorem w_1004 : (.fieldLink RX9 9 "DeadAirModel" "now" "[I" : Cond) ∈ bigW := in4 224 rfl rfl
set_option maxRecDepth 20000 in
theorem w_1005 : (.fieldLink RX9 13 "DeadAirModel" "image" "[I" : Cond) ∈ bigW := in4 225 rfl rfl
set_option maxRecDepth 20000 in
theorem w_1006 : (.fieldLink RX9 16 "DeadAirModel" "aside" "[I" : Cond) ∈ bigW := in4 226 rfl rfl
set_option maxRecDepth 20000 in
theorem w_1007 : (.fieldLink RX9 270 "DeadAirModel" "hasImage" "Z" : Cond) ∈ bigW := in4 227 rfl rfl
set_option maxRecDepth 20000 in
theorem w_1008 : (.fieldLink RX9 149 "DeadAirModel" "heardSilence" "I" : Cond) ∈ bigW := in4 228 rfl rfl
set_option maxRecDepth 20000 in
theorem w_1009 : (.fieldLink RX9 19 "DeadAirModel" "before" "[I" : Cond) ∈ bigW := in4 229 rfl rfl
set_option maxRecDepth 20000 in
theorem w_1010 : (.fieldLink RX9 22 "DeadAirModel" "differ" "[J" : Cond) ∈ bigW := in4 230 rfl rfl
set_option maxRecDepth 20000 in
theorem w_1011 : (.fieldLink RX9 26 "DeadAirModel" "tape" "[I" : Cond) ∈ bigW := in4 231 rfl rfl
set_option maxRecDepth 20000 in
theorem w_1012 : (.fieldLink RX9 192 "DeadAirModel" "taped" "I" : Cond) ∈ bigW := in4 232 rfl rfl
set_option maxRecDepth 20000 in
theorem w_1013 : (.fieldLink RX9 195 "DeadAirModel" "next" "I" : Cond) ∈ bigW := in4 233 rfl rfl
set_option maxRecDepth 20000 in
theorem w_1014 : (.fieldLink RX9 198 "DeadAirModel" "from" "I" : Cond) ∈ bigW := in4 234 rfl rfl
set_option maxRecDepth 20000 in
theorem w_1015 : (.fieldLink RX9 204 "DeadAirModel" "token" "I" : Cond) ∈ bigW := in4 235 rfl rfl
set_option maxRecDepth 20000 in
theorem w_1016 : (.fieldLink RX9 210 "DeadAirModel" "value" "I" : Cond) ∈ bigW := in4 236 rfl rfl
set_option maxRecDepth 20000 in
theorem w_1017 : (.fieldLink RX9 201 "DeadAirModel" "ended" "I" : Cond) ∈ bigW := in4 237 rfl rfl
set_option maxRecDepth 20000 in
theorem w_1018 : (.fieldLink RX9 216 "DeadAirModel" "key" "I" : Cond) ∈ bigW := in4 238 rfl rfl
set_option maxRecDepth 20000 in
theorem w_1019 : (.fieldLink RX9 29 "DeadAirModel" "keys" "[C" : Cond) ∈ bigW := in4 239 rfl rfl
set_option maxRecDepth 20000 in
theorem w_1020 : (.fieldLink RX9 33 "DeadAirModel" "keyAt" "[I" : Cond) ∈ bigW := in5 0 rfl rfl
set_option maxRecDepth 20000 in
theorem w_1021 : (.fieldLink RX9 36 "DeadAirModel" "code" "[I" : Cond) ∈ bigW := in5 1 rfl rfl
set_option maxRecDepth 20000 in
theorem w_1022 : (.fieldLink RX9 228 "DeadAirModel" "codes" "I" : Cond) ∈ bigW := in5 2 rfl rfl
set_option maxRecDepth 20000 in
theorem w_1023 : (.fieldLink RX9 234 "DeadAirModel" "atoms" "I" : Cond) ∈ bigW := in5 3 rfl rfl
set_option maxRecDepth 20000 in
theorem w_1024 : (.fieldLink RX9 39 "DeadAirModel" "waits" "[I" : Cond) ∈ bigW := in5 4 rfl rfl
set_option maxRecDepth 20000 in
theorem w_1025 : (.fieldLink RX9 222 "DeadAirModel" "held" "I" : Cond) ∈ bigW := in5 5 rfl rfl
set_option maxRecDepth 20000 in
theorem w_1026 : (.fieldLink RX9 42 "DeadAirModel" "tested" "[Z" : Cond) ∈ bigW := in5 6 rfl rfl
set_option maxRecDepth 20000 in
theorem w_1027 : (.fieldLink RX9 46 "DeadAirModel" "stack" "[I" : Cond) ∈ bigW := in5 7 rfl rfl
set_option maxRecDepth 20000 in
theorem w_1028 : (.fieldLink RX9 49 "DeadAirModel" "facts" "[I" : Cond) ∈ bigW := in5 8 rfl rfl
set_option maxRecDepth 20000 in
theorem w_1029 : (.fieldLink RX9 52 "DeadAirModel" "sorts" "[I" : Cond) ∈ bigW := in5 9 rfl rfl
set_option maxRecDepth 20000 in
theorem w_1030 : (.fieldLink RX9 55 "DeadAirModel" "sizes" "[I" : Cond) ∈ bigW := in5 10 rfl rfl
set_option maxRecDepth 20000 in
theorem w_1031 : (.fieldLink RX9 58 "DeadAirModel" "cells" "[I" : Cond) ∈ bigW := in5 11 rfl rfl
set_option maxRecDepth 20000 in
theorem w_1032 : (.fieldLink RX9 61 "DeadAirModel" "holds" "[I" : Cond) ∈ bigW := in5 12 rfl rfl
set_option maxRecDepth 20000 in
theorem w_1033 : (.fieldLink RX9 64 "DeadAirModel" "holdsA" "[I" : Cond) ∈ bigW := in5 13 rfl rfl
set_option maxRecDepth 20000 in
theorem w_1034 : (.fieldLink RX9 67 "DeadAirModel" "holdsB" "[I" : Cond) ∈ bigW := in5 14 rfl rfl
set_option maxRecDepth 20000 in
theorem w_1035 : (.fieldLink RX9 70 "DeadAirModel" "heldCells" "[I" : Cond) ∈ bigW := in5 15 rfl rfl
set_option maxRecDepth 20000 in
theorem w_1036 : (.fieldLink RX9 73 "DeadAirModel" "moved" "[I" : Cond) ∈ bigW := in5 16 rfl rfl
set_option maxRecDepth 20000 in
theorem w_1037 : (.fieldLink RX9 76 "DeadAirModel" "tells" "[I" : Cond) ∈ bigW := in5 17 rfl rfl
set_option maxRecDepth 20000 in
theorem w_1038 : (.fieldLink RX9 267 "DeadAirModel" "waiting" "I" : Cond) ∈ bigW := in5 18 rfl rfl
set_option maxRecDepth 20000 in
theorem w_1039 : (.laysFinal RX9 "DeadAirModel" "now" "[I" : Cond) ∈ bigW := in5 19 rfl rfl
set_option maxRecDepth 20000 in
theorem w_1041 : (.laysFinal RX9 "DeadAirModel" "image" "[I" : Cond) ∈ bigW := in5 21 rfl rfl
set_option maxRecDepth 20000 in
theorem w_1043 : (.laysFinal RX9 "DeadAirModel" "aside" "[I" : Cond) ∈ bigW := in5 23 rfl rfl
set_option maxRecDepth 20000 in
theorem w_1045 : (.lays RX9 "DeadAirModel" "hasImage" "Z" : Cond) ∈ bigW := in5 25 rfl rfl
set_option maxRecDepth 20000 in
theorem w_1047 : (.lays RX9 "DeadAirModel" "heardSilence" "I" : Cond) ∈ bigW := in5 27 rfl rfl
set_option maxRecDepth 20000 in
theorem w_1049 : (.laysFinal RX9 "DeadAirModel" "before" "[I" : Cond) ∈ bigW := in5 29 rfl rfl
set_option maxRecDepth 20000 in
theorem w_1051 : (.laysFinal RX9 "DeadAirModel" "differ" "[J" : Cond) ∈ bigW := in5 31 rfl rfl
set_option maxRecDepth 20000 in
theorem w_1053 : (.laysFinal RX9 "DeadAirModel" "tape" "[I" : Cond) ∈ bigW := in5 33 rfl rfl
set_option maxRecDepth 20000 in
theorem w_1055 : (.lays RX9 "DeadAirModel" "taped" "I" : Cond) ∈ bigW := in5 35 rfl rfl
set_option maxRecDepth 20000 in
theorem w_1057 : (.lays RX9 "DeadAirModel" "next" "I" : Cond) ∈ bigW := in5 37 rfl rfl
set_option maxRecDepth 20000 in
theorem w_1059 : (.lays RX9 "DeadAirModel" "from" "I" : Cond) ∈ bigW := in5 39 rfl rfl
set_option maxRecDepth 20000 in
theorem w_1061 : (.lays RX9 "DeadAirModel" "token" "I" : Cond) ∈ bigW := in5 41 rfl rfl
set_option maxRecDepth 20000 in
theorem w_1063 : (.lays RX9 "DeadAirModel" "value" "I" : Cond) ∈ bigW := in5 43 rfl rfl
set_option maxRecDepth 20000 in
theorem w_1065 : (.lays RX9 "DeadAirModel" "ended" "I" : Cond) ∈ bigW := in5 45 rfl rfl
set_option maxRecDepth 20000 in
theorem w_1067 : (.lays RX9 "DeadAirModel" "key" "I" : Cond) ∈ bigW := in5 47 rfl rfl
set_option maxRecDepth 20000 in
theorem w_1069 : (.laysFinal RX9 "DeadAirModel" "keys" "[C" : Cond) ∈ bigW := in5 49 rfl rfl
set_option maxRecDepth 20000 in
theorem w_1071 : (.laysFinal RX9 "DeadAirModel" "keyAt" "[I" : Cond) ∈ bigW := in5 51 rfl rfl
set_option maxRecDepth 20000 in
theorem w_1073 : (.laysFinal RX9 "DeadAirModel" "code" "[I" : Cond) ∈ bigW := in5 53 rfl rfl
set_option maxRecDepth 20000 in
theorem w_1075 : (.lays RX9 "DeadAirModel" "codes" "I" : Cond) ∈ bigW := in5 55 rfl rfl
set_option maxRecDepth 20000 in
theorem w_1077 : (.lays RX9 "DeadAirModel" "atoms" "I" : Cond) ∈ bigW := in5 57 rfl rfl
set_option maxRecDepth 20000 in
theorem w_1079 : (.laysFinal RX9 "DeadAirModel" "waits" "[I" : Cond) ∈ bigW := in5 59 rfl rfl
set_option maxRecDepth 20000 in
theorem w_1081 : (.lays RX9 "DeadAirModel" "held" "I" : Cond) ∈ bigW := in5 61 rfl rfl
set_option maxRecDepth 20000 in
theorem w_1083 : (.laysFinal RX9 "DeadAirModel" "tested" "[Z" : Cond) ∈ bigW := in5 63 rfl rfl
set_option maxRecDepth 20000 in
theorem w_1085 : (.laysFinal RX9 "DeadAirModel" "stack" "[I" : Cond) ∈ bigW := in5 65 rfl rfl
set_option maxRecDepth 20000 in
theorem w_1087 : (.laysFinal RX9 "DeadAirModel" "facts" "[I" : Cond) ∈ bigW := in5 67 rfl rfl
set_option maxRecDepth 20000 in
theorem w_1089 : (.laysFinal RX9 "DeadAirModel" "sorts" "[I" : Cond) ∈ bigW := in5 69 rfl rfl
set_option maxRecDepth 20000 in
theorem w_1091 : (.laysFinal RX9 "DeadAirModel" "sizes" "[I" : Cond) ∈ bigW := in5 71 rfl rfl
set_option maxRecDepth 20000 in
theorem w_1093 : (.laysFinal RX9 "DeadAirModel" "cells" "[I" : Cond) ∈ bigW := in5 73 rfl rfl
set_option maxRecDepth 20000 in
theorem w_1095 : (.laysFinal RX9 "DeadAirModel" "holds" "[I" : Cond) ∈ bigW := in5 75 rfl rfl
set_option maxRecDepth 20000 in
theorem w_1097 : (.laysFinal RX9 "DeadAirModel" "holdsA" "[I" : Cond) ∈ bigW := in5 77 rfl rfl
set_option maxRecDepth 20000 in
theorem w_1099 : (.laysFinal RX9 "DeadAirModel" "holdsB" "[I" : Cond) ∈ bigW := in5 79 rfl rfl
set_option maxRecDepth 20000 in
theorem w_1101 : (.laysFinal RX9 "DeadAirModel" "heldCells" "[I" : Cond) ∈ bigW := in5 81 rfl rfl
set_option maxRecDepth 20000 in
theorem w_1103 : (.laysFinal RX9 "DeadAirModel" "moved" "[I" : Cond) ∈ bigW := in5 83 rfl rfl
set_option maxRecDepth 20000 in
theorem w_1105 : (.laysFinal RX9 "DeadAirModel" "tells" "[I" : Cond) ∈ bigW := in5 85 rfl rfl
set_option maxRecDepth 20000 in
theorem w_1107 : (.lays RX9 "DeadAirModel" "waiting" "I" : Cond) ∈ bigW := in5 87 rfl rfl
set_option maxRecDepth 20000 in
theorem w_1110 : (.arrayClass .long : Cond) ∈ bigW := in5 90 rfl rfl
set_option maxRecDepth 20000 in
theorem w_1111 : (.arrayClass .char : Cond) ∈ bigW := in5 91 rfl rfl
set_option maxRecDepth 20000 in
theorem w_1112 : (.arrayClass .boolean : Cond) ∈ bigW := in5 92 rfl rfl
set_option maxRecDepth 20000 in
theorem w_1113 : (.methodLink RL 17 yX9_voice : Cond) ∈ bigW := in5 93 rfl rfl
set_option maxRecDepth 20000 in
theorem w_1114 : (.instanceMethod yX9_voice : Cond) ∈ bigW := in5 94 rfl rfl
set_option maxRecDepth 20000 in
theorem w_1115 : (.selects RX9 yX9_voice yX9_voice : Cond) ∈ bigW := in5 95 rfl rfl
set_option maxRecDepth 20000 in
theorem w_1116 : (.code yX9_voice cX9_voice 4 (some .int) : Cond) ∈ bigW := in5 96 rfl rfl
set_option maxRecDepth 20000 in
theorem w_1117 : (.methodLink RX9 79 yX9_in : Cond) ∈ bigW := in5 97 rfl rfl
set_option maxRecDepth 20000 in
theorem w_1118 : (.static yX9_in : Cond) ∈ bigW := in5 98 rfl rfl
set_option maxRecDepth 20000 in
theorem w_1119 : (.code yX9_in cX9_in 3 (some .boolean) : Cond) ∈ bigW := in5 99 rfl rfl
set_option maxRecDepth 20000 in
theorem w_1120 : (.methodLink RX9 87 yX9_isOf : Cond) ∈ bigW := in5 100 rfl rfl
set_option maxRecDepth 20000 in
theorem w_1121 : (.static yX9_isOf : Cond) ∈ bigW := in5 101 rfl rfl
set_option maxRecDepth 20000 in
theorem w_1122 : (.code yX9_isOf cX9_isOf 2 (some .boolean) : Cond) ∈ bigW := in5 102 rfl rfl
set_option maxRecDepth 20000 in
theorem w_1123 : (.constant RX9 91 (-1000000001) : Cond) ∈ bigW := in5 103 rfl rfl
set_option maxRecDepth 20000 in
theorem w_1124 : (.constant RX9 92 (-1000000003) : Cond) ∈ bigW := in5 104 rfl rfl
set_option maxRecDepth 20000 in
theorem w_1125 : (.methodLink RX9 93 yX9_comes : Cond) ∈ bigW := in5 105 rfl rfl
set_option maxRecDepth 20000 in
theorem w_1127 : (.instanceMethod yX9_comes : Cond) ∈ bigW := in5 107 rfl rfl
set_option maxRecDepth 20000 in
theorem w_1128 : (.code yX9_comes cX9_comes 6 (some .int) : Cond) ∈ bigW := in5 108 rfl rfl
set_option maxRecDepth 20000 in
theorem w_1129 : (.methodLink RX9 83 yX9_put : Cond) ∈ bigW := in5 109 rfl rfl
set_option maxRecDepth 20000 in
theorem w_1131 : (.instanceMethod yX9_put : Cond) ∈ bigW := in5 111 rfl rfl
set_option maxRecDepth 20000 in
theorem w_1132 : (.code yX9_put cX9_put 4 none : Cond) ∈ bigW := in5 112 rfl rfl
set_option maxRecDepth 20000 in
theorem w_1133 : (.methodLink RL 22 yX9_told : Cond) ∈ bigW := in5 113 rfl rfl
set_option maxRecDepth 20000 in
theorem w_1134 : (.instanceMethod yX9_told : Cond) ∈ bigW := in5 114 rfl rfl
set_option maxRecDepth 20000 in
theorem w_1135 : (.selects RX9 yX9_told yX9_told : Cond) ∈ bigW := in5 115 rfl rfl
set_option maxRecDepth 20000 in
theorem w_1136 : (.code yX9_told cX9_told 3 (some .int) : Cond) ∈ bigW := in5 116 rfl rfl
set_option maxRecDepth 20000 in
theorem w_1137 : (.methodLink RX9 101 yX9_isVoice : Cond) ∈ bigW := in5 117 rfl rfl
set_option maxRecDepth 20000 in
theorem w_1139 : (.instanceMethod yX9_isVoice : Cond) ∈ bigW := in5 119 rfl rfl
set_option maxRecDepth 20000 in
theorem w_1140 : (.code yX9_isVoice cX9_isVoice 2 (some .boolean) : Cond) ∈ bigW := in5 120 rfl rfl
set_option maxRecDepth 20000 in
theorem w_1141 : (.methodLink RX9 97 yX9_of : Cond) ∈ bigW := in5 121 rfl rfl
set_option maxRecDepth 20000 in
theorem w_1143 : (.instanceMethod yX9_of : Cond) ∈ bigW := in5 123 rfl rfl
set_option maxRecDepth 20000 in
theorem w_1144 : (.code yX9_of cX9_of 3 (some .int) : Cond) ∈ bigW := in5 124 rfl rfl
set_option maxRecDepth 20000 in
theorem w_1145 : (.methodLink RX9 105 yX9_waitsOf : Cond) ∈ bigW := in5 125 rfl rfl
set_option maxRecDepth 20000 in
theorem w_1147 : (.instanceMethod yX9_waitsOf : Cond) ∈ bigW := in5 127 rfl rfl
set_option maxRecDepth 20000 in
theorem w_1148 : (.code yX9_waitsOf cX9_waitsOf 4 (some .int) : Cond) ∈ bigW := in5 128 rfl rfl
set_option maxRecDepth 20000 in
theorem w_1149 : (.methodLink RX9 109 yX9_talksOf : Cond) ∈ bigW := in5 129 rfl rfl
set_option maxRecDepth 20000 in
theorem w_1151 : (.instanceMethod yX9_talksOf : Cond) ∈ bigW := in5 131 rfl rfl
set_option maxRecDepth 20000 in
theorem w_1152 : (.code yX9_talksOf cX9_talksOf 3 (some .int) : Cond) ∈ bigW := in5 132 rfl rfl
set_option maxRecDepth 20000 in
theorem w_1153 : (.methodLink RX9 112 yX9_doesYield : Cond) ∈ bigW := in5 133 rfl rfl
set_option maxRecDepth 20000 in
theorem w_1155 : (.instanceMethod yX9_doesYield : Cond) ∈ bigW := in5 135 rfl rfl
set_option maxRecDepth 20000 in
theorem w_1156 : (.code yX9_doesYield cX9_doesYield 2 (some .boolean) : Cond) ∈ bigW := in5 136 rfl rfl
set_option maxRecDepth 20000 in
theorem w_1157 : (.methodLink RX9 115 yX9_worthOf : Cond) ∈ bigW := in5 137 rfl rfl
set_option maxRecDepth 20000 in
theorem w_1159 : (.instanceMethod yX9_worthOf : Cond) ∈ bigW := in5 139 rfl rfl
set_option maxRecDepth 20000 in
theorem w_1160 : (.code yX9_worthOf cX9_worthOf 3 (some .int) : Cond) ∈ bigW := in5 140 rfl rfl
set_option maxRecDepth 20000 in
theorem w_1161 : (.methodLink RL 26 yX9_as : Cond) ∈ bigW := in5 141 rfl rfl
set_option maxRecDepth 20000 in
theorem w_1162 : (.instanceMethod yX9_as : Cond) ∈ bigW := in5 142 rfl rfl
set_option maxRecDepth 20000 in
theorem w_1163 : (.selects RX9 yX9_as yX9_as : Cond) ∈ bigW := in5 143 rfl rfl
set_option maxRecDepth 20000 in
theorem w_1164 : (.code yX9_as cX9_as 3 (some .int) : Cond) ∈ bigW := in5 144 rfl rfl
set_option maxRecDepth 20000 in
theorem w_1165 : (.methodLink RX9 118 yX9_isUnder : Cond) ∈ bigW := in5 145 rfl rfl
set_option maxRecDepth 20000 in
theorem w_1166 : (.static yX9_isUnder : Cond) ∈ bigW := in5 146 rfl rfl
set_option maxRecDepth 20000 in
theorem w_1167 : (.code yX9_isUnder cX9_isUnder 2 (some .boolean) : Cond) ∈ bigW := in5 147 rfl rfl
set_option maxRecDepth 20000 in
theorem w_1168 : (.constant RX9 121 (-1000000012) : Cond) ∈ bigW := in5 148 rfl rfl
set_option maxRecDepth 20000 in
theorem w_1169 : (.methodLink RL 30 yX9_turns : Cond) ∈ bigW := in5 149 rfl rfl
set_option maxRecDepth 20000 in
theorem w_1170 : (.instanceMethod yX9_turns : Cond) ∈ bigW := in5 150 rfl rfl
set_option maxRecDepth 20000 in
theorem w_1171 : (.selects RX9 yX9_turns yX9_turns : Cond) ∈ bigW := in5 151 rfl rfl
set_option maxRecDepth 20000 in
theorem w_1172 : (.code yX9_turns cX9_turns 3 (some .int) : Cond) ∈ bigW := in5 152 rfl rfl
set_option maxRecDepth 20000 in
theorem w_1173 : (.methodLink RX9 122 yX9_swaps : Cond) ∈ bigW := in5 153 rfl rfl
set_option maxRecDepth 20000 in
theorem w_1175 : (.instanceMethod yX9_swaps : Cond) ∈ bigW := in5 155 rfl rfl
set_option maxRecDepth 20000 in
theorem w_1176 : (.code yX9_swaps cX9_swaps 4 (some .int) : Cond) ∈ bigW := in5 156 rfl rfl
set_option maxRecDepth 20000 in
theorem w_1177 : (.methodLink RL 34 yX9_set : Cond) ∈ bigW := in5 157 rfl rfl
set_option maxRecDepth 20000 in
theorem w_1178 : (.instanceMethod yX9_set : Cond) ∈ bigW := in5 158 rfl rfl
set_option maxRecDepth 20000 in
theorem w_1179 : (.selects RX9 yX9_set yX9_set : Cond) ∈ bigW := in5 159 rfl rfl
set_option maxRecDepth 20000 in
theorem w_1180 : (.code yX9_set cX9_set 4 (some .int) : Cond) ∈ bigW := in5 160 rfl rfl
set_option maxRecDepth 20000 in
theorem w_1181 : (.methodLink RL 38 yX9_speak : Cond) ∈ bigW := in5 161 rfl rfl
set_option maxRecDepth 20000 in
theorem w_1182 : (.instanceMethod yX9_speak : Cond) ∈ bigW := in5 162 rfl rfl
set_option maxRecDepth 20000 in
theorem w_1183 : (.selects RX9 yX9_speak yX9_speak : Cond) ∈ bigW := in5 163 rfl rfl
set_option maxRecDepth 20000 in
theorem w_1184 : (.code yX9_speak cX9_speak 3 (some .int) : Cond) ∈ bigW := in5 164 rfl rfl
set_option maxRecDepth 20000 in
theorem w_1185 : (.methodLink RL 43 yX9_hush : Cond) ∈ bigW := in5 165 rfl rfl
set_option maxRecDepth 20000 in
theorem w_1186 : (.instanceMethod yX9_hush : Cond) ∈ bigW := in5 166 rfl rfl
set_option maxRecDepth 20000 in
theorem w_1187 : (.selects RX9 yX9_hush yX9_hush : Cond) ∈ bigW := in5 167 rfl rfl
set_option maxRecDepth 20000 in
theorem w_1188 : (.code yX9_hush cX9_hush 3 (some .int) : Cond) ∈ bigW := in5 168 rfl rfl
set_option maxRecDepth 20000 in
theorem w_1189 : (.methodLink RL 47 yX9_air : Cond) ∈ bigW := in5 169 rfl rfl
set_option maxRecDepth 20000 in
theorem w_1190 : (.instanceMethod yX9_air : Cond) ∈ bigW := in5 170 rfl rfl
set_option maxRecDepth 20000 in
theorem w_1191 : (.selects RX9 yX9_air yX9_air : Cond) ∈ bigW := in5 171 rfl rfl
set_option maxRecDepth 20000 in
theorem w_1192 : (.code yX9_air cX9_air 3 (some .int) : Cond) ∈ bigW := in5 172 rfl rfl
set_option maxRecDepth 20000 in
theorem w_1193 : (.methodLink RL 51 yX9_deal : Cond) ∈ bigW := in5 173 rfl rfl
set_option maxRecDepth 20000 in
theorem w_1194 : (.instanceMethod yX9_deal : Cond) ∈ bigW := in5 174 rfl rfl
set_option maxRecDepth 20000 in
theorem w_1195 : (.selects RX9 yX9_deal yX9_deal : Cond) ∈ bigW := in5 175 rfl rfl
set_option maxRecDepth 20000 in
theorem w_1196 : (.code yX9_deal cX9_deal 6 (some .int) : Cond) ∈ bigW := in5 176 rfl rfl
set_option maxRecDepth 20000 in
theorem w_1197 : (.methodLink RX9 126 yX9_draw : Cond) ∈ bigW := in5 177 rfl rfl
set_option maxRecDepth 20000 in
theorem w_1199 : (.instanceMethod yX9_draw : Cond) ∈ bigW := in5 179 rfl rfl
set_option maxRecDepth 20000 in
theorem w_1200 : (.code yX9_draw cX9_draw 1 (some .int) : Cond) ∈ bigW := in5 180 rfl rfl
set_option maxRecDepth 20000 in
theorem w_1201 : (.constant RX9 125 1103515245 : Cond) ∈ bigW := in5 181 rfl rfl
set_option maxRecDepth 20000 in
theorem w_1202 : (.methodLink RL 55 yX9_seed : Cond) ∈ bigW := in5 182 rfl rfl
set_option maxRecDepth 20000 in
theorem w_1203 : (.instanceMethod yX9_seed : Cond) ∈ bigW := in5 183 rfl rfl
set_option maxRecDepth 20000 in
theorem w_1204 : (.selects RX9 yX9_seed yX9_seed : Cond) ∈ bigW := in5 184 rfl rfl
set_option maxRecDepth 20000 in
theorem w_1205 : (.code yX9_seed cX9_seed 2 (some .int) : Cond) ∈ bigW := in5 185 rfl rfl
set_option maxRecDepth 20000 in
theorem w_1206 : (.methodLink RL 59 yX9_tenths : Cond) ∈ bigW := in5 186 rfl rfl
set_option maxRecDepth 20000 in
theorem w_1207 : (.instanceMethod yX9_tenths : Cond) ∈ bigW := in5 187 rfl rfl
set_option maxRecDepth 20000 in
theorem w_1208 : (.selects RX9 yX9_tenths yX9_tenths : Cond) ∈ bigW := in5 188 rfl rfl
set_option maxRecDepth 20000 in
theorem w_1209 : (.code yX9_tenths cX9_tenths 3 (some .int) : Cond) ∈ bigW := in5 189 rfl rfl
set_option maxRecDepth 20000 in
theorem w_1210 : (.methodLink RX9 143 yX9_within : Cond) ∈ bigW := in5 190 rfl rfl
set_option maxRecDepth 20000 in
theorem w_1211 : (.static yX9_within : Cond) ∈ bigW := in5 191 rfl rfl
set_option maxRecDepth 20000 in
theorem w_1212 : (.code yX9_within cX9_within 3 (some .int) : Cond) ∈ bigW := in5 192 rfl rfl
set_option maxRecDepth 20000 in
theorem w_1213 : (.methodLink RX9 168 yX9_goesOn : Cond) ∈ bigW := in5 193 rfl rfl
set_option maxRecDepth 20000 in
theorem w_1215 : (.instanceMethod yX9_goesOn : Cond) ∈ bigW := in5 195 rfl rfl
set_option maxRecDepth 20000 in
theorem w_1216 : (.code yX9_goesOn cX9_goesOn 3 none : Cond) ∈ bigW := in5 196 rfl rfl
set_option maxRecDepth 20000 in
theorem w_1217 : (.methodLink RX9 165 yX9_tenth : Cond) ∈ bigW := in5 197 rfl rfl
set_option maxRecDepth 20000 in
theorem w_1219 : (.instanceMethod yX9_tenth : Cond) ∈ bigW := in5 199 rfl rfl
set_option maxRecDepth 20000 in
theorem w_1220 : (.code yX9_tenth cX9_tenth 3 none : Cond) ∈ bigW := in5 200 rfl rfl
set_option maxRecDepth 20000 in
theorem w_1221 : (.methodLink RX9 134 yX9_speaking : Cond) ∈ bigW := in5 201 rfl rfl
set_option maxRecDepth 20000 in
theorem w_1223 : (.instanceMethod yX9_speaking : Cond) ∈ bigW := in5 203 rfl rfl
set_option maxRecDepth 20000 in
theorem w_1224 : (.code yX9_speaking cX9_speaking 3 (some .int) : Cond) ∈ bigW := in5 204 rfl rfl
set_option maxRecDepth 20000 in
theorem w_1225 : (.methodLink RX9 153 yX9_ready : Cond) ∈ bigW := in5 205 rfl rfl
set_option maxRecDepth 20000 in
theorem w_1227 : (.instanceMethod yX9_ready : Cond) ∈ bigW := in5 207 rfl rfl
set_option maxRecDepth 20000 in
theorem w_1228 : (.code yX9_ready cX9_ready 3 (some .int) : Cond) ∈ bigW := in5 208 rfl rfl
set_option maxRecDepth 20000 in
theorem w_1229 : (.methodLink RX9 156 yX9_crosses : Cond) ∈ bigW := in5 209 rfl rfl
set_option maxRecDepth 20000 in
theorem w_1231 : (.instanceMethod yX9_crosses : Cond) ∈ bigW := in5 211 rfl rfl
set_option maxRecDepth 20000 in
theorem w_1232 : (.code yX9_crosses cX9_crosses 3 none : Cond) ∈ bigW := in5 212 rfl rfl
set_option maxRecDepth 20000 in
theorem w_1233 : (.methodLink RX9 130 yX9_begins : Cond) ∈ bigW := in5 213 rfl rfl
set_option maxRecDepth 20000 in
theorem w_1235 : (.instanceMethod yX9_begins : Cond) ∈ bigW := in5 215 rfl rfl
set_option maxRecDepth 20000 in
theorem w_1236 : (.code yX9_begins cX9_begins 2 none : Cond) ∈ bigW := in5 216 rfl rfl
set_option maxRecDepth 20000 in
theorem w_1237 : (.methodLink RX9 159 yX9_turnsTo : Cond) ∈ bigW := in5 217 rfl rfl
set_option maxRecDepth 20000 in
theorem w_1239 : (.instanceMethod yX9_turnsTo : Cond) ∈ bigW := in5 219 rfl rfl
set_option maxRecDepth 20000 in
theorem w_1240 : (.code yX9_turnsTo cX9_turnsTo 3 none : Cond) ∈ bigW := in5 220 rfl rfl
set_option maxRecDepth 20000 in
theorem w_1241 : (.methodLink RX9 162 yX9_hearsNothing : Cond) ∈ bigW := in5 221 rfl rfl
set_option maxRecDepth 20000 in
theorem w_1243 : (.instanceMethod yX9_hearsNothing : Cond) ∈ bigW := in5 223 rfl rfl
set_option maxRecDepth 20000 in
theorem w_1244 : (.code yX9_hearsNothing cX9_hearsNothing 1 none : Cond) ∈ bigW := in5 224 rfl rfl
set_option maxRecDepth 20000 in
theorem w_1245 : (.methodLink RX9 146 yX9_offGives : Cond) ∈ bigW := in5 225 rfl rfl
set_option maxRecDepth 20000 in
theorem w_1247 : (.instanceMethod yX9_offGives : Cond) ∈ bigW := in5 227 rfl rfl
set_option maxRecDepth 20000 in
theorem w_1248 : (.code yX9_offGives cX9_offGives 2 (some .int) : Cond) ∈ bigW := in5 228 rfl rfl
set_option maxRecDepth 20000 in
theorem w_1249 : (.methodLink RX9 137 yX9_counts : Cond) ∈ bigW := in5 229 rfl rfl
set_option maxRecDepth 20000 in
theorem w_1251 : (.instanceMethod yX9_counts : Cond) ∈ bigW := in5 231 rfl rfl
set_option maxRecDepth 20000 in
theorem w_1252 : (.code yX9_counts cX9_counts 3 (some .int) : Cond) ∈ bigW := in5 232 rfl rfl
set_option maxRecDepth 20000 in
theorem w_1253 : (.methodLink RX9 140 yX9_worksOut : Cond) ∈ bigW := in5 233 rfl rfl
set_option maxRecDepth 20000 in
theorem w_1255 : (.instanceMethod yX9_worksOut : Cond) ∈ bigW := in5 235 rfl rfl
set_option maxRecDepth 20000 in
theorem w_1256 : (.code yX9_worksOut cX9_worksOut 6 (some .int) : Cond) ∈ bigW := in5 236 rfl rfl
set_option maxRecDepth 20000 in
theorem w_1257 : (.methodLink RX9 256 yX9_two : Cond) ∈ bigW := in5 237 rfl rfl
set_option maxRecDepth 20000 in
theorem w_1258 : (.static yX9_two : Cond) ∈ bigW := in5 238 rfl rfl
set_option maxRecDepth 20000 in
theorem w_1259 : (.code yX9_two cX9_two 3 (some .int) : Cond) ∈ bigW := in5 239 rfl rfl
set_option maxRecDepth 20000 in
theorem w_1260 : (.methodLink RL 63 yX9_studio : Cond) ∈ bigW := in6 0 rfl rfl
set_option maxRecDepth 20000 in
theorem w_1261 : (.instanceMethod yX9_studio : Cond) ∈ bigW := in6 1 rfl rfl
set_option maxRecDepth 20000 in
theorem w_1262 : (.selects RX9 yX9_studio yX9_studio : Cond) ∈ bigW := in6 2 rfl rfl
set_option maxRecDepth 20000 in
theorem w_1263 : (.code yX9_studio cX9_studio 2 (some .int) : Cond) ∈ bigW := in6 3 rfl rfl
set_option maxRecDepth 20000 in
theorem w_1264 : (.methodLink RL 67 yX9_behind : Cond) ∈ bigW := in6 4 rfl rfl
set_option maxRecDepth 20000 in
theorem w_1265 : (.instanceMethod yX9_behind : Cond) ∈ bigW := in6 5 rfl rfl
set_option maxRecDepth 20000 in
theorem w_1266 : (.selects RX9 yX9_behind yX9_behind : Cond) ∈ bigW := in6 6 rfl rfl
set_option maxRecDepth 20000 in
theorem w_1267 : (.code yX9_behind cX9_behind 4 (some .int) : Cond) ∈ bigW := in6 7 rfl rfl
set_option maxRecDepth 20000 in
theorem w_1268 : (.methodLink RX9 171 yX9_thinks : Cond) ∈ bigW := in6 8 rfl rfl
set_option maxRecDepth 20000 in
theorem w_1270 : (.instanceMethod yX9_thinks : Cond) ∈ bigW := in6 10 rfl rfl
set_option maxRecDepth 20000 in
theorem w_1271 : (.code yX9_thinks cX9_thinks 2 none : Cond) ∈ bigW := in6 11 rfl rfl
set_option maxRecDepth 20000 in
theorem w_1272 : (.methodLink RX9 174 yX9_putsBack : Cond) ∈ bigW := in6 12 rfl rfl
set_option maxRecDepth 20000 in
theorem w_1274 : (.instanceMethod yX9_putsBack : Cond) ∈ bigW := in6 14 rfl rfl
set_option maxRecDepth 20000 in
theorem w_1275 : (.code yX9_putsBack cX9_putsBack 2 none : Cond) ∈ bigW := in6 15 rfl rfl
set_option maxRecDepth 20000 in
theorem w_1276 : (.methodLink RL 71 yX9_next : Cond) ∈ bigW := in6 16 rfl rfl
set_option maxRecDepth 20000 in
theorem w_1277 : (.instanceMethod yX9_next : Cond) ∈ bigW := in6 17 rfl rfl
set_option maxRecDepth 20000 in
theorem w_1278 : (.selects RX9 yX9_next yX9_next : Cond) ∈ bigW := in6 18 rfl rfl
set_option maxRecDepth 20000 in
theorem w_1279 : (.code yX9_next cX9_next 4 (some .int) : Cond) ∈ bigW := in6 19 rfl rfl
set_option maxRecDepth 20000 in
theorem w_1280 : (.methodLink RX9 177 yX9_hasBegun : Cond) ∈ bigW := in6 20 rfl rfl
set_option maxRecDepth 20000 in
theorem w_1282 : (.instanceMethod yX9_hasBegun : Cond) ∈ bigW := in6 22 rfl rfl
set_option maxRecDepth 20000 in
theorem w_1283 : (.code yX9_hasBegun cX9_hasBegun 3 (some .int) : Cond) ∈ bigW := in6 23 rfl rfl
set_option maxRecDepth 20000 in
theorem w_1284 : (.constant RX9 180 (-1000000005) : Cond) ∈ bigW := in6 24 rfl rfl
set_option maxRecDepth 20000 in
theorem w_1285 : (.methodLink RL 75 yX9_hole : Cond) ∈ bigW := in6 25 rfl rfl
set_option maxRecDepth 20000 in
theorem w_1286 : (.instanceMethod yX9_hole : Cond) ∈ bigW := in6 26 rfl rfl
set_option maxRecDepth 20000 in
theorem w_1287 : (.selects RX9 yX9_hole yX9_hole : Cond) ∈ bigW := in6 27 rfl rfl
set_option maxRecDepth 20000 in
theorem w_1288 : (.code yX9_hole cX9_hole 3 (some .int) : Cond) ∈ bigW := in6 28 rfl rfl
set_option maxRecDepth 20000 in
theorem w_1289 : (.methodLink RL 79 yX9_patience : Cond) ∈ bigW := in6 29 rfl rfl
set_option maxRecDepth 20000 in
theorem w_1290 : (.instanceMethod yX9_patience : Cond) ∈ bigW := in6 30 rfl rfl
set_option maxRecDepth 20000 in
theorem w_1291 : (.selects RX9 yX9_patience yX9_patience : Cond) ∈ bigW := in6 31 rfl rfl
set_option maxRecDepth 20000 in
theorem w_1292 : (.code yX9_patience cX9_patience 4 (some .int) : Cond) ∈ bigW := in6 32 rfl rfl
set_option maxRecDepth 20000 in
theorem w_1293 : (.methodLink RX9 181 yX9_areAsked : Cond) ∈ bigW := in6 33 rfl rfl
set_option maxRecDepth 20000 in
theorem w_1294 : (.static yX9_areAsked : Cond) ∈ bigW := in6 34 rfl rfl
set_option maxRecDepth 20000 in
theorem w_1295 : (.code yX9_areAsked cX9_areAsked 2 (some .boolean) : Cond) ∈ bigW := in6 35 rfl rfl
set_option maxRecDepth 20000 in
theorem w_1296 : (.methodLink RX9 184 yX9_mostBy : Cond) ∈ bigW := in6 36 rfl rfl
set_option maxRecDepth 20000 in
theorem w_1298 : (.instanceMethod yX9_mostBy : Cond) ∈ bigW := in6 38 rfl rfl
set_option maxRecDepth 20000 in
theorem w_1299 : (.code yX9_mostBy cX9_mostBy 11 (some .int) : Cond) ∈ bigW := in6 39 rfl rfl
set_option maxRecDepth 20000 in
theorem w_1300 : (.methodLink RL 83 yX9_device : Cond) ∈ bigW := in6 40 rfl rfl
set_option maxRecDepth 20000 in
theorem w_1301 : (.instanceMethod yX9_device : Cond) ∈ bigW := in6 41 rfl rfl
set_option maxRecDepth 20000 in
theorem w_1302 : (.selects RX9 yX9_device yX9_device : Cond) ∈ bigW := in6 42 rfl rfl
set_option maxRecDepth 20000 in
theorem w_1303 : (.code yX9_device cX9_device 3 (some .int) : Cond) ∈ bigW := in6 43 rfl rfl
set_option maxRecDepth 20000 in
theorem w_1304 : (.methodLink RL 87 yX9_filler : Cond) ∈ bigW := in6 44 rfl rfl
set_option maxRecDepth 20000 in
theorem w_1305 : (.instanceMethod yX9_filler : Cond) ∈ bigW := in6 45 rfl rfl
set_option maxRecDepth 20000 in
theorem w_1306 : (.selects RX9 yX9_filler yX9_filler : Cond) ∈ bigW := in6 46 rfl rfl
set_option maxRecDepth 20000 in
theorem w_1307 : (.code yX9_filler cX9_filler 3 (some .int) : Cond) ∈ bigW := in6 47 rfl rfl
set_option maxRecDepth 20000 in
theorem w_1308 : (.methodLink RL 91 yX9_becomes : Cond) ∈ bigW := in6 48 rfl rfl
set_option maxRecDepth 20000 in
theorem w_1309 : (.instanceMethod yX9_becomes : Cond) ∈ bigW := in6 49 rfl rfl
set_option maxRecDepth 20000 in
theorem w_1310 : (.selects RX9 yX9_becomes yX9_becomes : Cond) ∈ bigW := in6 50 rfl rfl
set_option maxRecDepth 20000 in
theorem w_1311 : (.code yX9_becomes cX9_becomes 4 (some .int) : Cond) ∈ bigW := in6 51 rfl rfl
set_option maxRecDepth 20000 in
theorem w_1312 : (.methodLink RL 95 yX9_apart : Cond) ∈ bigW := in6 52 rfl rfl
set_option maxRecDepth 20000 in
theorem w_1313 : (.instanceMethod yX9_apart : Cond) ∈ bigW := in6 53 rfl rfl
set_option maxRecDepth 20000 in
theorem w_1314 : (.selects RX9 yX9_apart yX9_apart : Cond) ∈ bigW := in6 54 rfl rfl
set_option maxRecDepth 20000 in
theorem w_1315 : (.code yX9_apart cX9_apart 6 (some .int) : Cond) ∈ bigW := in6 55 rfl rfl
set_option maxRecDepth 20000 in
theorem w_1316 : (.methodLink RL 99 yX9_whose : Cond) ∈ bigW := in6 56 rfl rfl
set_option maxRecDepth 20000 in
theorem w_1317 : (.instanceMethod yX9_whose : Cond) ∈ bigW := in6 57 rfl rfl
set_option maxRecDepth 20000 in
theorem w_1318 : (.selects RX9 yX9_whose yX9_whose : Cond) ∈ bigW := in6 58 rfl rfl
set_option maxRecDepth 20000 in
theorem w_1319 : (.code yX9_whose cX9_whose 9 (some .int) : Cond) ∈ bigW := in6 59 rfl rfl
set_option maxRecDepth 20000 in
theorem w_1320 : (.methodLink RX9 188 yX9_isSheet : Cond) ∈ bigW := in6 60 rfl rfl
set_option maxRecDepth 20000 in
theorem w_1321 : (.static yX9_isSheet : Cond) ∈ bigW := in6 61 rfl rfl
set_option maxRecDepth 20000 in
theorem w_1322 : (.code yX9_isSheet cX9_isSheet 1 (some .boolean) : Cond) ∈ bigW := in6 62 rfl rfl
set_option maxRecDepth 20000 in
theorem w_1323 : (.constant RX9 191 (-1000000011) : Cond) ∈ bigW := in6 63 rfl rfl
set_option maxRecDepth 20000 in
theorem w_1324 : (.methodLink RL 104 yX9_fee : Cond) ∈ bigW := in6 64 rfl rfl
set_option maxRecDepth 20000 in
theorem w_1325 : (.instanceMethod yX9_fee : Cond) ∈ bigW := in6 65 rfl rfl
set_option maxRecDepth 20000 in
theorem w_1326 : (.selects RX9 yX9_fee yX9_fee : Cond) ∈ bigW := in6 66 rfl rfl
set_option maxRecDepth 20000 in
theorem w_1327 : (.code yX9_fee cX9_fee 2 (some .int) : Cond) ∈ bigW := in6 67 rfl rfl
set_option maxRecDepth 20000 in
theorem w_1328 : (.methodLink RL 108 yX9_fine : Cond) ∈ bigW := in6 68 rfl rfl
set_option maxRecDepth 20000 in
theorem w_1329 : (.instanceMethod yX9_fine : Cond) ∈ bigW := in6 69 rfl rfl
set_option maxRecDepth 20000 in
theorem w_1330 : (.selects RX9 yX9_fine yX9_fine : Cond) ∈ bigW := in6 70 rfl rfl
set_option maxRecDepth 20000 in
theorem w_1331 : (.code yX9_fine cX9_fine 3 (some .int) : Cond) ∈ bigW := in6 71 rfl rfl
set_option maxRecDepth 20000 in
theorem w_1332 : (.methodLink RL 112 yX9_feed : Cond) ∈ bigW := in6 72 rfl rfl
set_option maxRecDepth 20000 in
theorem w_1333 : (.instanceMethod yX9_feed : Cond) ∈ bigW := in6 73 rfl rfl
set_option maxRecDepth 20000 in
theorem w_1334 : (.selects RX9 yX9_feed yX9_feed : Cond) ∈ bigW := in6 74 rfl rfl
set_option maxRecDepth 20000 in
theorem w_1335 : (.code yX9_feed cX9_feed 6 (some .int) : Cond) ∈ bigW := in6 75 rfl rfl
set_option maxRecDepth 20000 in
theorem w_1336 : (.methodLink RL 116 yX9_trim : Cond) ∈ bigW := in6 76 rfl rfl
set_option maxRecDepth 20000 in
theorem w_1337 : (.instanceMethod yX9_trim : Cond) ∈ bigW := in6 77 rfl rfl
set_option maxRecDepth 20000 in
theorem w_1338 : (.selects RX9 yX9_trim yX9_trim : Cond) ∈ bigW := in6 78 rfl rfl
set_option maxRecDepth 20000 in
theorem w_1339 : (.code yX9_trim cX9_trim 2 (some .int) : Cond) ∈ bigW := in6 79 rfl rfl
set_option maxRecDepth 20000 in
theorem w_1340 : (.methodLink RL 120 yX9_text : Cond) ∈ bigW := in6 80 rfl rfl
set_option maxRecDepth 20000 in
theorem w_1341 : (.instanceMethod yX9_text : Cond) ∈ bigW := in6 81 rfl rfl
set_option maxRecDepth 20000 in
theorem w_1342 : (.selects RX9 yX9_text yX9_text : Cond) ∈ bigW := in6 82 rfl rfl
set_option maxRecDepth 20000 in
theorem w_1343 : (.code yX9_text cX9_text 4 (some .int) : Cond) ∈ bigW := in6 83 rfl rfl
set_option maxRecDepth 20000 in
theorem w_1344 : (.methodLink RX9 219 yX9_go : Cond) ∈ bigW := in6 84 rfl rfl
set_option maxRecDepth 20000 in
theorem w_1346 : (.instanceMethod yX9_go : Cond) ∈ bigW := in6 86 rfl rfl
set_option maxRecDepth 20000 in
theorem w_1347 : (.code yX9_go cX9_go 2 none : Cond) ∈ bigW := in6 87 rfl rfl
set_option maxRecDepth 20000 in
theorem w_1348 : (.methodLink RX9 207 yX9_isLetter : Cond) ∈ bigW := in6 88 rfl rfl
set_option maxRecDepth 20000 in
theorem w_1350 : (.instanceMethod yX9_isLetter : Cond) ∈ bigW := in6 90 rfl rfl
set_option maxRecDepth 20000 in
theorem w_1351 : (.code yX9_isLetter cX9_isLetter 2 (some .boolean) : Cond) ∈ bigW := in6 91 rfl rfl
set_option maxRecDepth 20000 in
theorem w_1352 : (.methodLink RX9 213 yX9_isFigure : Cond) ∈ bigW := in6 92 rfl rfl
set_option maxRecDepth 20000 in
theorem w_1354 : (.instanceMethod yX9_isFigure : Cond) ∈ bigW := in6 94 rfl rfl
set_option maxRecDepth 20000 in
theorem w_1355 : (.code yX9_isFigure cX9_isFigure 2 (some .boolean) : Cond) ∈ bigW := in6 95 rfl rfl
set_option maxRecDepth 20000 in
theorem w_1356 : (.methodLink RX9 250 yX9_takesKey : Cond) ∈ bigW := in6 96 rfl rfl
set_option maxRecDepth 20000 in
theorem w_1358 : (.instanceMethod yX9_takesKey : Cond) ∈ bigW := in6 98 rfl rfl
set_option maxRecDepth 20000 in
theorem w_1359 : (.code yX9_takesKey cX9_takesKey 5 (some .boolean) : Cond) ∈ bigW := in6 99 rfl rfl
set_option maxRecDepth 20000 in
theorem w_1360 : (.methodLink RX9 253 yX9_takesE : Cond) ∈ bigW := in6 100 rfl rfl
set_option maxRecDepth 20000 in
theorem w_1362 : (.instanceMethod yX9_takesE : Cond) ∈ bigW := in6 102 rfl rfl
set_option maxRecDepth 20000 in
theorem w_1363 : (.code yX9_takesE cX9_takesE 5 (some .boolean) : Cond) ∈ bigW := in6 103 rfl rfl
set_option maxRecDepth 20000 in
theorem w_1364 : (.methodLink RX9 240 yX9_takesPart : Cond) ∈ bigW := in6 104 rfl rfl
set_option maxRecDepth 20000 in
theorem w_1366 : (.instanceMethod yX9_takesPart : Cond) ∈ bigW := in6 106 rfl rfl
set_option maxRecDepth 20000 in
theorem w_1367 : (.code yX9_takesPart cX9_takesPart 2 (some .boolean) : Cond) ∈ bigW := in6 107 rfl rfl
set_option maxRecDepth 20000 in
theorem w_1368 : (.methodLink RX9 231 yX9_nameOf : Cond) ∈ bigW := in6 108 rfl rfl
set_option maxRecDepth 20000 in
theorem w_1370 : (.instanceMethod yX9_nameOf : Cond) ∈ bigW := in6 110 rfl rfl
set_option maxRecDepth 20000 in
theorem w_1371 : (.code yX9_nameOf cX9_nameOf 2 (some .int) : Cond) ∈ bigW := in6 111 rfl rfl
set_option maxRecDepth 20000 in
theorem w_1372 : (.methodLink RX9 237 yX9_settle : Cond) ∈ bigW := in6 112 rfl rfl
set_option maxRecDepth 20000 in
theorem w_1374 : (.instanceMethod yX9_settle : Cond) ∈ bigW := in6 114 rfl rfl
set_option maxRecDepth 20000 in
theorem w_1375 : (.code yX9_settle cX9_settle 2 none : Cond) ∈ bigW := in6 115 rfl rfl
set_option maxRecDepth 20000 in
theorem w_1376 : (.methodLink RX9 225 yX9_rank : Cond) ∈ bigW := in6 116 rfl rfl
set_option maxRecDepth 20000 in
theorem w_1377 : (.static yX9_rank : Cond) ∈ bigW := in6 117 rfl rfl
set_option maxRecDepth 20000 in
theorem w_1378 : (.code yX9_rank cX9_rank 1 (some .int) : Cond) ∈ bigW := in6 118 rfl rfl
set_option maxRecDepth 20000 in
theorem w_1379 : (.methodLink RX9 244 yX9_notsOpen : Cond) ∈ bigW := in6 119 rfl rfl
set_option maxRecDepth 20000 in
theorem w_1381 : (.instanceMethod yX9_notsOpen : Cond) ∈ bigW := in6 121 rfl rfl
set_option maxRecDepth 20000 in
theorem w_1382 : (.code yX9_notsOpen cX9_notsOpen 3 (some .int) : Cond) ∈ bigW := in6 122 rfl rfl
set_option maxRecDepth 20000 in
theorem w_1383 : (.methodLink RX9 247 yX9_signHere : Cond) ∈ bigW := in6 123 rfl rfl
set_option maxRecDepth 20000 in
theorem w_1385 : (.instanceMethod yX9_signHere : Cond) ∈ bigW := in6 125 rfl rfl
set_option maxRecDepth 20000 in
theorem w_1386 : (.code yX9_signHere cX9_signHere 1 (some .int) : Cond) ∈ bigW := in6 126 rfl rfl
set_option maxRecDepth 20000 in
theorem w_1387 : (.methodLink RL 124 yX9_textTold : Cond) ∈ bigW := in6 127 rfl rfl
set_option maxRecDepth 20000 in
theorem w_1388 : (.instanceMethod yX9_textTold : Cond) ∈ bigW := in6 128 rfl rfl
set_option maxRecDepth 20000 in
theorem w_1389 : (.selects RX9 yX9_textTold yX9_textTold : Cond) ∈ bigW := in6 129 rfl rfl
set_option maxRecDepth 20000 in
theorem w_1390 : (.code yX9_textTold cX9_textTold 3 (some .int) : Cond) ∈ bigW := in6 130 rfl rfl
set_option maxRecDepth 20000 in
theorem w_1391 : (.methodLink RL 128 yX9_why : Cond) ∈ bigW := in6 131 rfl rfl
set_option maxRecDepth 20000 in
theorem w_1392 : (.instanceMethod yX9_why : Cond) ∈ bigW := in6 132 rfl rfl
set_option maxRecDepth 20000 in
theorem w_1393 : (.selects RX9 yX9_why yX9_why : Cond) ∈ bigW := in6 133 rfl rfl
set_option maxRecDepth 20000 in
theorem w_1394 : (.code yX9_why cX9_why 3 (some .int) : Cond) ∈ bigW := in6 134 rfl rfl
set_option maxRecDepth 20000 in
theorem w_1395 : (.methodLink RL 132 yX9_sheet : Cond) ∈ bigW := in6 135 rfl rfl
set_option maxRecDepth 20000 in
theorem w_1396 : (.instanceMethod yX9_sheet : Cond) ∈ bigW := in6 136 rfl rfl
set_option maxRecDepth 20000 in
theorem w_1397 : (.selects RX9 yX9_sheet yX9_sheet : Cond) ∈ bigW := in6 137 rfl rfl
set_option maxRecDepth 20000 in
theorem w_1398 : (.code yX9_sheet cX9_sheet 5 (some .int) : Cond) ∈ bigW := in6 138 rfl rfl
set_option maxRecDepth 20000 in
theorem w_1399 : (.constant RX9 259 (-1000000014) : Cond) ∈ bigW := in6 139 rfl rfl
set_option maxRecDepth 20000 in
theorem w_1400 : (.methodLink RL 136 yX9_mark : Cond) ∈ bigW := in6 140 rfl rfl
set_option maxRecDepth 20000 in
theorem w_1401 : (.instanceMethod yX9_mark : Cond) ∈ bigW := in6 141 rfl rfl
set_option maxRecDepth 20000 in
theorem w_1402 : (.selects RX9 yX9_mark yX9_mark : Cond) ∈ bigW := in6 142 rfl rfl
set_option maxRecDepth 20000 in
theorem w_1403 : (.code yX9_mark cX9_mark 4 (some .int) : Cond) ∈ bigW := in6 143 rfl rfl
set_option maxRecDepth 20000 in
theorem w_1404 : (.constant RX9 260 (-1000000013) : Cond) ∈ bigW := in6 144 rfl rfl
set_option maxRecDepth 20000 in
theorem w_1405 : (.constant RX9 261 (-99999) : Cond) ∈ bigW := in6 145 rfl rfl
set_option maxRecDepth 20000 in
theorem w_1406 : (.constant RX9 262 99999 : Cond) ∈ bigW := in6 146 rfl rfl
set_option maxRecDepth 20000 in
theorem w_1407 : (.methodLink RL 140 yX9_pour : Cond) ∈ bigW := in6 147 rfl rfl
set_option maxRecDepth 20000 in
theorem w_1408 : (.instanceMethod yX9_pour : Cond) ∈ bigW := in6 148 rfl rfl
set_option maxRecDepth 20000 in
theorem w_1409 : (.selects RX9 yX9_pour yX9_pour : Cond) ∈ bigW := in6 149 rfl rfl
set_option maxRecDepth 20000 in
theorem w_1410 : (.code yX9_pour cX9_pour 6 (some .int) : Cond) ∈ bigW := in6 150 rfl rfl
set_option maxRecDepth 20000 in
theorem w_1411 : (.methodLink RL 144 yX9_reads : Cond) ∈ bigW := in6 151 rfl rfl
set_option maxRecDepth 20000 in
theorem w_1412 : (.instanceMethod yX9_reads : Cond) ∈ bigW := in6 152 rfl rfl
set_option maxRecDepth 20000 in
theorem w_1413 : (.selects RX9 yX9_reads yX9_reads : Cond) ∈ bigW := in6 153 rfl rfl
set_option maxRecDepth 20000 in
theorem w_1414 : (.code yX9_reads cX9_reads 4 (some .int) : Cond) ∈ bigW := in6 154 rfl rfl
set_option maxRecDepth 20000 in
theorem w_1415 : (.methodLink RL 149 yX9_copy : Cond) ∈ bigW := in6 155 rfl rfl
set_option maxRecDepth 20000 in
theorem w_1416 : (.instanceMethod yX9_copy : Cond) ∈ bigW := in6 156 rfl rfl
set_option maxRecDepth 20000 in
theorem w_1417 : (.selects RX9 yX9_copy yX9_copy : Cond) ∈ bigW := in6 157 rfl rfl
set_option maxRecDepth 20000 in
theorem w_1418 : (.code yX9_copy cX9_copy 7 (some .int) : Cond) ∈ bigW := in6 158 rfl rfl
set_option maxRecDepth 20000 in
theorem w_1419 : (.methodLink RL 153 yX9_lay : Cond) ∈ bigW := in6 159 rfl rfl
set_option maxRecDepth 20000 in
theorem w_1420 : (.instanceMethod yX9_lay : Cond) ∈ bigW := in6 160 rfl rfl
set_option maxRecDepth 20000 in
theorem w_1421 : (.selects RX9 yX9_lay yX9_lay : Cond) ∈ bigW := in6 161 rfl rfl
set_option maxRecDepth 20000 in
theorem w_1422 : (.code yX9_lay cX9_lay 6 (some .int) : Cond) ∈ bigW := in6 162 rfl rfl
set_option maxRecDepth 20000 in
theorem w_1423 : (.methodLink RX9 263 yX9_isSlot : Cond) ∈ bigW := in6 163 rfl rfl
set_option maxRecDepth 20000 in
theorem w_1424 : (.static yX9_isSlot : Cond) ∈ bigW := in6 164 rfl rfl
set_option maxRecDepth 20000 in
theorem w_1425 : (.code yX9_isSlot cX9_isSlot 1 (some .boolean) : Cond) ∈ bigW := in6 165 rfl rfl
set_option maxRecDepth 20000 in
theorem w_1426 : (.methodLink RL 157 yX9_ask : Cond) ∈ bigW := in6 166 rfl rfl
set_option maxRecDepth 20000 in
theorem w_1427 : (.instanceMethod yX9_ask : Cond) ∈ bigW := in6 167 rfl rfl
set_option maxRecDepth 20000 in
theorem w_1428 : (.selects RX9 yX9_ask yX9_ask : Cond) ∈ bigW := in6 168 rfl rfl
set_option maxRecDepth 20000 in
theorem w_1429 : (.code yX9_ask cX9_ask 3 (some .int) : Cond) ∈ bigW := in6 169 rfl rfl
set_option maxRecDepth 20000 in
theorem w_1430 : (.methodLink RL 161 yX9_item : Cond) ∈ bigW := in6 170 rfl rfl
set_option maxRecDepth 20000 in
theorem w_1431 : (.instanceMethod yX9_item : Cond) ∈ bigW := in6 171 rfl rfl
set_option maxRecDepth 20000 in
theorem w_1432 : (.selects RX9 yX9_item yX9_item : Cond) ∈ bigW := in6 172 rfl rfl
set_option maxRecDepth 20000 in
theorem w_1433 : (.code yX9_item cX9_item 4 (some .int) : Cond) ∈ bigW := in6 173 rfl rfl
set_option maxRecDepth 20000 in
theorem w_1434 : (.methodLink RL 165 yX9_rest : Cond) ∈ bigW := in6 174 rfl rfl
set_option maxRecDepth 20000 in
theorem w_1435 : (.instanceMethod yX9_rest : Cond) ∈ bigW := in6 175 rfl rfl
set_option maxRecDepth 20000 in
theorem w_1436 : (.selects RX9 yX9_rest yX9_rest : Cond) ∈ bigW := in6 176 rfl rfl
set_option maxRecDepth 20000 in
theorem w_1437 : (.code yX9_rest cX9_rest 3 (some .int) : Cond) ∈ bigW := in6 177 rfl rfl
set_option maxRecDepth 20000 in
theorem w_1438 : (.constant RX9 266 (-1000000002) : Cond) ∈ bigW := in6 178 rfl rfl
set_option maxRecDepth 20000 in
theorem w_1439 : (.methodLink RL 169 yX9_tell : Cond) ∈ bigW := in6 179 rfl rfl
set_option maxRecDepth 20000 in
theorem w_1440 : (.instanceMethod yX9_tell : Cond) ∈ bigW := in6 180 rfl rfl
set_option maxRecDepth 20000 in
theorem w_1441 : (.selects RX9 yX9_tell yX9_tell : Cond) ∈ bigW := in6 181 rfl rfl
set_option maxRecDepth 20000 in
theorem w_1442 : (.code yX9_tell cX9_tell 2 (some .int) : Cond) ∈ bigW := in6 182 rfl rfl
set_option maxRecDepth 20000 in
theorem w_1443 : (.methodLink RL 173 yX9_check : Cond) ∈ bigW := in6 183 rfl rfl
set_option maxRecDepth 20000 in
theorem w_1444 : (.instanceMethod yX9_check : Cond) ∈ bigW := in6 184 rfl rfl
set_option maxRecDepth 20000 in
theorem w_1445 : (.selects RX9 yX9_check yX9_check : Cond) ∈ bigW := in6 185 rfl rfl
set_option maxRecDepth 20000 in
theorem w_1446 : (.code yX9_check cX9_check 6 (some .int) : Cond) ∈ bigW := in6 186 rfl rfl
set_option maxRecDepth 20000 in
theorem w_1447 : (.methodLink RX9 274 yX9_copyAll : Cond) ∈ bigW := in6 187 rfl rfl
set_option maxRecDepth 20000 in
theorem w_1448 : (.static yX9_copyAll : Cond) ∈ bigW := in6 188 rfl rfl
set_option maxRecDepth 20000 in
theorem w_1449 : (.code yX9_copyAll cX9_copyAll 3 none : Cond) ∈ bigW := in6 189 rfl rfl
set_option maxRecDepth 20000 in
theorem w_1450 : (.methodLink RL 177 yX9_keep : Cond) ∈ bigW := in6 190 rfl rfl
set_option maxRecDepth 20000 in
theorem w_1451 : (.instanceMethod yX9_keep : Cond) ∈ bigW := in6 191 rfl rfl
set_option maxRecDepth 20000 in
theorem w_1452 : (.selects RX9 yX9_keep yX9_keep : Cond) ∈ bigW := in6 192 rfl rfl
set_option maxRecDepth 20000 in
theorem w_1453 : (.code yX9_keep cX9_keep 1 (some .int) : Cond) ∈ bigW := in6 193 rfl rfl
set_option maxRecDepth 20000 in
theorem w_1454 : (.methodLink RL 181 yX9_back : Cond) ∈ bigW := in6 194 rfl rfl
set_option maxRecDepth 20000 in
theorem w_1455 : (.instanceMethod yX9_back : Cond) ∈ bigW := in6 195 rfl rfl
set_option maxRecDepth 20000 in
theorem w_1456 : (.selects RX9 yX9_back yX9_back : Cond) ∈ bigW := in6 196 rfl rfl
set_option maxRecDepth 20000 in
theorem w_1457 : (.code yX9_back cX9_back 1 (some .int) : Cond) ∈ bigW := in6 197 rfl rfl
set_option maxRecDepth 20000 in
theorem w_1458 : (.methodLink RL 185 yX9_count : Cond) ∈ bigW := in6 198 rfl rfl
set_option maxRecDepth 20000 in
theorem w_1459 : (.instanceMethod yX9_count : Cond) ∈ bigW := in6 199 rfl rfl
set_option maxRecDepth 20000 in
theorem w_1460 : (.selects RX9 yX9_count yX9_count : Cond) ∈ bigW := in6 200 rfl rfl
set_option maxRecDepth 20000 in
theorem w_1461 : (.code yX9_count cX9_count 2 (some .int) : Cond) ∈ bigW := in6 201 rfl rfl
set_option maxRecDepth 20000 in
theorem w_1462 : (.fieldLink RJ0 9 "java/lang/String" "value" "[B" : Cond) ∈ bigW := in6 202 rfl rfl
set_option maxRecDepth 20000 in
theorem w_1463 : (.fieldLink RJ0 15 "java/lang/String" "coder" "B" : Cond) ∈ bigW := in6 203 rfl rfl
end
section
abbrev Mem : Type := Nat → Int32
/-- the places of the world: classes and slots, addresses by region and index, array classes, the literals' addresses -/
abbrev TX : Type := va_G × (Nat → Nat → Nat) × (Nat → ClassId) × (Nat → Nat) × (Nat → Nat)
def aD (X : TX) : va_G := X.1
def ad (X : TX) : Nat → Nat → Nat := X.2.1
def cA (X : TX) : Nat → ClassId := X.2.2.1
def adK (X : TX) : Nat → Nat := X.2.2.2.1
def adV (X : TX) : Nat → Nat := X.2.2.2.2
abbrev classes : List vw_C := [(RX0, TX0, 2), (RX1, TX1, 12), (RX2, TX2, 3), (RX3, TX3, 4), (RX4, TX4, 19), (RX5, TX5, 4), (RX6, TX6, 2), (RX7, TX7, 7), (RX8, TX8, 11), (RX9, TX9, 35)]
def sf (t k : Nat) : Nat := 70 * t + k
def vf (v j : Nat) : Nat := 16 + 7 * v + j
def hf (s k : Nat) : Nat := 300 + 2 * s + k
def lf (j k : Nat) : Nat := 320 + 2 * j + k
def tf (i k : Nat) : Nat := 330 + 3 * i + k
def comb (a b : Int32) : Int64 := Int64.ofInt (a.toInt * 4294967296 + b.toInt % 4294967296)
def aI (X : TX) (m : Mem) (c b n : Nat) : va_E := .inl (cA X c, n, .inl (fun j => if j < n then m (b + j) else 0))
def aL (X : TX) (m : Mem) (b n : Nat) : va_E := .inl (cA X 1, n, .inr (.inl (fun j => if j < n then comb (m (b + 2 * j)) (m (b + 2 * j + 1)) else 0)))
def aR (X : TX) (c n r : Nat) (g : Nat → Nat) : va_E := .inl (cA X c, n, .inr (.inr (.inr (.inr (fun j => some (ad X r (g j)))))))
def zce_0 (X : TX) (m : Mem) (i : Nat) : va_E := .inr (8, [.ref (ad X 1 0), .ref (ad X 6 0), .ref (ad X 9 0), .ref (ad X 9 1), .ref (ad X 9 2), .int (m 270), .ref (ad X 13 0), .ref (ad X 14 0), .ref (ad X 17 0), .ref (ad X 19 0), .int (m 271)])
def zce_1 (X : TX) (m : Mem) (i : Nat) : va_E := .inr (6, [.ref (ad X 2 0), .ref (ad X 5 0)])
def zce_2 (X : TX) (m : Mem) (i : Nat) : va_E := aR X 5 14 3 (fun j => j)
def zce_3 (X : TX) (m : Mem) (i : Nat) : va_E := .inr (5, [.int (m (tf i 0)), .int (m (tf i 1)), .int (m (tf i 2)), .ref (ad X 4 i)])
def zce_4 (X : TX) (m : Mem) (i : Nat) : va_E := aI X m 0 (1100 + 96 * i) 96
def zce_5 (X : TX) (m : Mem) (i : Nat) : va_E := aI X m 0 (800) 96
def zce_6 (X : TX) (m : Mem) (i : Nat) : va_E := .inr (1, [.ref (ad X 7 0), .int (m 280), .ref (ad X 3 14), .ref (ad X 8 0), .int (m 281), .int (m 282), .int (m 283), .int (m 284), .int (m 285), .int (m 286), .int (m 287), .int (m 288)])
def zce_7 (X : TX) (m : Mem) (i : Nat) : va_E := aI X m 0 (900) 96
def zce_8 (X : TX) (m : Mem) (i : Nat) : va_E := aI X m 0 (1000) 96
def zce_9 (X : TX) (m : Mem) (i : Nat) : va_E := .inr (4, [.ref (ad X 10 i), .int (m (sf i 1)), .int (m (sf i 5)), .int (m (sf i 3)), .int (m (sf i 4)), .int (m (sf i 6)), .int (m (sf i 7)), .int (m (sf i 8)), .int (m (sf i 9)), .int (m (sf i 10)), .int (m (sf i 11)), .int (m (sf i 12)), .int (m (sf i 13)), .int (m (sf i 14)), .int (m (sf i 2)), .int (m (sf i 0)), .int (m (sf i 15)), .ref (ad X 12 i), .ref (ad X 1 0)])
def zce_10 (X : TX) (m : Mem) (i : Nat) : va_E := aR X 4 5 11 (fun j => (10 * i + j))
def zce_11 (X : TX) (m : Mem) (i : Nat) : va_E := .inr (7, [.int (m (vf i 0)), .int (m (vf i 1)), .int (m (vf i 2)), .int (m (vf i 3)), .int (m (vf i 4)), .int (m (vf i 5)), .int (m (vf i 6))])
def zce_12 (X : TX) (m : Mem) (i : Nat) : va_E := aI X m 0 (51 + 70 * i) 3
def zce_13 (X : TX) (m : Mem) (i : Nat) : va_E := .inr (0, [.int (m 272), .int (m 273)])
def zce_14 (X : TX) (m : Mem) (i : Nat) : va_E := aR X 6 4 15 (fun j => j)
def zce_15 (X : TX) (m : Mem) (i : Nat) : va_E := .inr (2, [.int (m (hf i 0)), .int (m (hf i 1)), .ref (ad X 16 i)])
def zce_16 (X : TX) (m : Mem) (i : Nat) : va_E := aI X m 0 (500 + 24 * i) 24
def zce_17 (X : TX) (m : Mem) (i : Nat) : va_E := aR X 7 5 18 (fun j => j)
def zce_18 (X : TX) (m : Mem) (i : Nat) : va_E := .inr (3, [.int (m (lf i 0)), .ref (ad X 11 (30 + i)), .ref (ad X 15 (4 + i)), .int (m (lf i 1))])
def zce_19 (X : TX) (m : Mem) (i : Nat) : va_E := aI X m 0 (400) 60
def zce_20 (X : TX) (m : Mem) (i : Nat) : va_E := .inr (9, [.ref (ad X 21 0), .ref (ad X 21 1), .ref (ad X 21 2), .int (m 3000), .int (m 3001), .ref (ad X 22 0), .ref (ad X 23 0), .ref (ad X 24 0), .int (m 3002), .int (m 3003), .int (m 3004), .int (m 3005), .int (m 3006), .int (m 3007), .int (m 3008), .ref (ad X 25 0), .ref (ad X 26 0), .ref (ad X 27 0), .int (m 3009), .int (m 3010), .ref (ad X 28 0), .int (m 3011), .ref (ad X 29 0), .ref (ad X 30 0), .ref (ad X 31 0), .ref (ad X 32 0), .ref (ad X 33 0), .ref (ad X 34 0), .ref (ad X 35 0), .ref (ad X 36 0), .ref (ad X 37 0), .ref (ad X 38 0), .ref (ad X 39 0), .ref (ad X 40 0), .int (m 3012)])
def zce_21 (X : TX) (m : Mem) (i : Nat) : va_E := aI X m 0 (4000 + 1500 * i) 1423
def zce_22 (X : TX) (m : Mem) (i : Nat) : va_E := aI X m 0 (3100) 51
def zce_23 (X : TX) (m : Mem) (i : Nat) : va_E := aL X m (3160) 5
def zce_24 (X : TX) (m : Mem) (i : Nat) : va_E := aI X m 0 (3200) 96
def zce_25 (X : TX) (m : Mem) (i : Nat) : va_E := aI X m 3 (3300) 10
def zce_26 (X : TX) (m : Mem) (i : Nat) : va_E := aI X m 0 (3320) 4
def zce_27 (X : TX) (m : Mem) (i : Nat) : va_E := aI X m 0 (3400) 96
def zce_28 (X : TX) (m : Mem) (i : Nat) : va_E := aI X m 0 (3500) 96
def zce_29 (X : TX) (m : Mem) (i : Nat) : va_E := aI X m 2 (3600) 10
def zce_30 (X : TX) (m : Mem) (i : Nat) : va_E := aI X m 0 (3700) 96
def zce_31 (X : TX) (m : Mem) (i : Nat) : va_E := aI X m 0 (3800) 4
def zce_32 (X : TX) (m : Mem) (i : Nat) : va_E := aI X m 0 (3810) 4
def zce_33 (X : TX) (m : Mem) (i : Nat) : va_E := aI X m 0 (3820) 4
def zce_34 (X : TX) (m : Mem) (i : Nat) : va_E := aI X m 0 (3830) 96
def zce_35 (X : TX) (m : Mem) (i : Nat) : va_E := aI X m 0 (3930) 5
def zce_36 (X : TX) (m : Mem) (i : Nat) : va_E := aI X m 0 (3940) 5
def zce_37 (X : TX) (m : Mem) (i : Nat) : va_E := aI X m 0 (3950) 5
def zce_38 (X : TX) (m : Mem) (i : Nat) : va_E := aI X m 0 (8500) 120
def zce_39 (X : TX) (m : Mem) (i : Nat) : va_E := aI X m 0 (3960) 24
def zce_40 (X : TX) (m : Mem) (i : Nat) : va_E := aI X m 0 (8650) 60
def cellOf (X : TX) (m : Mem) (r i : Nat) : va_E := if r = 0 then zce_0 X m i else if r = 1 then zce_1 X m i else if r = 2 then zce_2 X m i else if r = 3 then zce_3 X m i else if r = 4 then zce_4 X m i else if r = 5 then zce_5 X m i else if r = 6 then zce_6 X m i else if r = 7 then zce_7 X m i else if r = 8 then zce_8 X m i else if r = 9 then zce_9 X m i else if r = 10 then zce_10 X m i else if r = 11 then zce_11 X m i else if r = 12 then zce_12 X m i else if r = 13 then zce_13 X m i else if r = 14 then zce_14 X m i else if r = 15 then zce_15 X m i else if r = 16 then zce_16 X m i else if r = 17 then zce_17 X m i else if r = 18 then zce_18 X m i else if r = 19 then zce_19 X m i else if r = 20 then zce_20 X m i else if r = 21 then zce_21 X m i else if r = 22 then zce_22 X m i else if r = 23 then zce_23 X m i else if r = 24 then zce_24 X m i else if r = 25 then zce_25 X m i else if r = 26 then zce_26 X m i else if r = 27 then zce_27 X m i else if r = 28 then zce_28 X m i else if r = 29 then zce_29 X m i else if r = 30 then zce_30 X m i else if r = 31 then zce_31 X m i else if r = 32 then zce_32 X m i else if r = 33 then zce_33 X m i else if r = 34 then zce_34 X m i else if r = 35 then zce_35 X m i else if r = 36 then zce_36 X m i else if r = 37 then zce_37 X m i else if r = 38 then zce_38 X m i else if r = 39 then zce_39 X m i else if r = 40 then zce_40 X m i else .inr (0, [])
theorem zco_0 {X : TX} {m : Mem} {i : Nat} : cellOf X m 0 i = zce_0 X m i := rfl
theorem zco_1 {X : TX} {m : Mem} {i : Nat} : cellOf X m 1 i = zce_1 X m i := rfl
theorem zco_2 {X : TX} {m : Mem} {i : Nat} : cellOf X m 2 i = zce_2 X m i := rfl
theorem zco_3 {X : TX} {m : Mem} {i : Nat} : cellOf X m 3 i = zce_3 X m i := rfl
theorem zco_4 {X : TX} {m : Mem} {i : Nat} : cellOf X m 4 i = zce_4 X m i := rfl
theorem zco_5 {X : TX} {m : Mem} {i : Nat} : cellOf X m 5 i = zce_5 X m i := rfl
theorem zco_6 {X : TX} {m : Mem} {i : Nat} : cellOf X m 6 i = zce_6 X m i := rfl
theorem zco_7 {X : TX} {m : Mem} {i : Nat} : cellOf X m 7 i = zce_7 X m i := rfl
theorem zco_8 {X : TX} {m : Mem} {i : Nat} : cellOf X m 8 i = zce_8 X m i := rfl
theorem zco_9 {X : TX} {m : Mem} {i : Nat} : cellOf X m 9 i = zce_9 X m i := rfl
theorem zco_10 {X : TX} {m : Mem} {i : Nat} : cellOf X m 10 i = zce_10 X m i := rfl
theorem zco_11 {X : TX} {m : Mem} {i : Nat} : cellOf X m 11 i = zce_11 X m i := rfl
theorem zco_12 {X : TX} {m : Mem} {i : Nat} : cellOf X m 12 i = zce_12 X m i := rfl
theorem zco_13 {X : TX} {m : Mem} {i : Nat} : cellOf X m 13 i = zce_13 X m i := rfl
theorem zco_14 {X : TX} {m : Mem} {i : Nat} : cellOf X m 14 i = zce_14 X m i := rfl
theorem zco_15 {X : TX} {m : Mem} {i : Nat} : cellOf X m 15 i = zce_15 X m i := rfl
theorem zco_16 {X : TX} {m : Mem} {i : Nat} : cellOf X m 16 i = zce_16 X m i := rfl
theorem zco_17 {X : TX} {m : Mem} {i : Nat} : cellOf X m 17 i = zce_17 X m i := rfl
theorem zco_18 {X : TX} {m : Mem} {i : Nat} : cellOf X m 18 i = zce_18 X m i := rfl
theorem zco_19 {X : TX} {m : Mem} {i : Nat} : cellOf X m 19 i = zce_19 X m i := rfl
theorem zco_20 {X : TX} {m : Mem} {i : Nat} : cellOf X m 20 i = zce_20 X m i := rfl
theorem zco_21 {X : TX} {m : Mem} {i : Nat} : cellOf X m 21 i = zce_21 X m i := rfl
theorem zco_22 {X : TX} {m : Mem} {i : Nat} : cellOf X m 22 i = zce_22 X m i := rfl
theorem zco_23 {X : TX} {m : Mem} {i : Nat} : cellOf X m 23 i = zce_23 X m i := rfl
theorem zco_24 {X : TX} {m : Mem} {i : Nat} : cellOf X m 24 i = zce_24 X m i := rfl
theorem zco_25 {X : TX} {m : Mem} {i : Nat} : cellOf X m 25 i = zce_25 X m i := rfl
theorem zco_26 {X : TX} {m : Mem} {i : Nat} : cellOf X m 26 i = zce_26 X m i := rfl
theorem zco_27 {X : TX} {m : Mem} {i : Nat} : cellOf X m 27 i = zce_27 X m i := rfl
theorem zco_28 {X : TX} {m : Mem} {i : Nat} : cellOf X m 28 i = zce_28 X m i := rfl
theorem zco_29 {X : TX} {m : Mem} {i : Nat} : cellOf X m 29 i = zce_29 X m i := rfl
theorem zco_30 {X : TX} {m : Mem} {i : Nat} : cellOf X m 30 i = zce_30 X m i := rfl
theorem zco_31 {X : TX} {m : Mem} {i : Nat} : cellOf X m 31 i = zce_31 X m i := rfl
theorem zco_32 {X : TX} {m : Mem} {i : Nat} : cellOf X m 32 i = zce_32 X m i := rfl
theorem zco_33 {X : TX} {m : Mem} {i : Nat} : cellOf X m 33 i = zce_33 X m i := rfl
theorem zco_34 {X : TX} {m : Mem} {i : Nat} : cellOf X m 34 i = zce_34 X m i := rfl
theorem zco_35 {X : TX} {m : Mem} {i : Nat} : cellOf X m 35 i = zce_35 X m i := rfl
theorem zco_36 {X : TX} {m : Mem} {i : Nat} : cellOf X m 36 i = zce_36 X m i := rfl
theorem zco_37 {X : TX} {m : Mem} {i : Nat} : cellOf X m 37 i = zce_37 X m i := rfl
theorem zco_38 {X : TX} {m : Mem} {i : Nat} : cellOf X m 38 i = zce_38 X m i := rfl
theorem zco_39 {X : TX} {m : Mem} {i : Nat} : cellOf X m 39 i = zce_39 X m i := rfl
theorem zco_40 {X : TX} {m : Mem} {i : Nat} : cellOf X m 40 i = zce_40 X m i := rfl
def ids : List (Nat × Nat) := [(0, 0), (1, 0), (2, 0), (3, 0), (3, 1), (3, 2), (3, 3), (3, 4), (3, 5), (3, 6), (3, 7), (3, 8), (3, 9), (3, 10), (3, 11), (3, 12), (3, 13), (3, 14), (4, 0), (4, 1), (4, 2), (4, 3), (4, 4), (4, 5), (4, 6), (4, 7), (4, 8), (4, 9), (4, 10), (4, 11), (4, 12), (4, 13), (4, 14), (5, 0), (6, 0), (7, 0), (8, 0), (9, 0), (9, 1), (9, 2), (10, 0), (10, 1), (10, 2), (11, 0), (11, 1), (11, 2), (11, 3), (11, 4), (11, 10), (11, 11), (11, 12), (11, 13), (11, 14), (11, 20), (11, 21), (11, 22), (11, 23), (11, 24), (11, 30), (11, 31), (11, 32), (11, 33), (11, 34), (12, 0), (12, 1), (12, 2), (13, 0), (14, 0), (15, 0), (15, 1), (15, 2), (15, 3), (15, 4), (15, 5), (15, 6), (15, 7), (15, 8), (16, 0), (16, 1), (16, 2), (16, 3), (16, 4), (16, 5), (16, 6), (16, 7), (16, 8), (17, 0), (18, 0), (18, 1), (18, 2), (18, 3), (18, 4), (19, 0), (20, 0), (21, 0), (21, 1), (21, 2), (22, 0), (23, 0), (24, 0), (25, 0), (26, 0), (27, 0), (28, 0), (29, 0), (30, 0), (31, 0), (32, 0), (33, 0), (34, 0), (35, 0), (36, 0), (37, 0), (38, 0), (39, 0), (40, 0)]
def wcells (X : TX) (m : Mem) : va_W := ids.map fun q => (ad X q.1 q.2, cellOf X m q.1 q.2)
def ar (X : TX) : Nat → Prop := fun q => ∃ i ∈ ids, q = ad X i.1 i.2
def IJ (X : TX) : Prop := ∀ a ∈ ids, ∀ b ∈ ids, ad X a.1 a.2 = ad X b.1 b.2 → a = b
def lo (r i : Nat) : Nat := if r = 0 then 270 else if r = 3 then 330 + 3 * i else if r = 4 then 1100 + 96 * i else if r = 5 then 800 else if r = 6 then 280 else if r = 7 then 900 else if r = 8 then 1000 else if r = 9 then 70 * i else if r = 11 then 16 + 7 * i else if r = 12 then 51 + 70 * i else if r = 13 then 272 else if r = 15 then 300 + 2 * i else if r = 16 then 500 + 24 * i else if r = 18 then 320 + 2 * i else if r = 19 then 400 else if r = 20 then 3000 else if r = 21 then 4000 + 1500 * i else if r = 22 then 3100 else if r = 23 then 3160 else if r = 24 then 3200 else if r = 25 then 3300 else if r = 26 then 3320 else if r = 27 then 3400 else if r = 28 then 3500 else if r = 29 then 3600 else if r = 30 then 3700 else if r = 31 then 3800 else if r = 32 then 3810 else if r = 33 then 3820 else if r = 34 then 3830 else if r = 35 then 3930 else if r = 36 then 3940 else if r = 37 then 3950 else if r = 38 then 8500 else if r = 39 then 3960 else if r = 40 then 8650 else 0
def hi (r i : Nat) : Nat := if r = 0 then 272 else if r = 3 then 333 + 3 * i else if r = 4 then 1100 + 96 * i + 96 else if r = 5 then 800 + 96 else if r = 6 then 289 else if r = 7 then 900 + 96 else if r = 8 then 1000 + 96 else if r = 9 then 16 + 70 * i else if r = 11 then 23 + 7 * i else if r = 12 then 51 + 70 * i + 3 else if r = 13 then 274 else if r = 15 then 302 + 2 * i else if r = 16 then 500 + 24 * i + 24 else if r = 18 then 322 + 2 * i else if r = 19 then 400 + 60 else if r = 20 then 3013 else if r = 21 then 4000 + 1500 * i + 1423 else if r = 22 then 3100 + 51 else if r = 23 then 3160 + 10 else if r = 24 then 3200 + 96 else if r = 25 then 3300 + 10 else if r = 26 then 3320 + 4 else if r = 27 then 3400 + 96 else if r = 28 then 3500 + 96 else if r = 29 then 3600 + 10 else if r = 30 then 3700 + 96 else if r = 31 then 3800 + 4 else if r = 32 then 3810 + 4 else if r = 33 then 3820 + 4 else if r = 34 then 3830 + 96 else if r = 35 then 3930 + 5 else if r = 36 then 3940 + 5 else if r = 37 then 3950 + 5 else if r = 38 then 8500 + 120 else if r = 39 then 3960 + 24 else if r = 40 then 8650 + 60 else 0
theorem lo_0 {i : Nat} : lo 0 i = 270 := rfl
theorem hi_0 {i : Nat} : hi 0 i = 272 := rfl
theorem lo_3 {i : Nat} : lo 3 i = 330 + 3 * i := rfl
theorem hi_3 {i : Nat} : hi 3 i = 333 + 3 * i := rfl
theorem lo_4 {i : Nat} : lo 4 i = 1100 + 96 * i := rfl
theorem hi_4 {i : Nat} : hi 4 i = 1100 + 96 * i + 96 := rfl
theorem lo_5 {i : Nat} : lo 5 i = 800 := rfl
theorem hi_5 {i : Nat} : hi 5 i = 800 + 96 := rfl
theorem lo_6 {i : Nat} : lo 6 i = 280 := rfl
theorem hi_6 {i : Nat} : hi 6 i = 289 := rfl
theorem lo_7 {i : Nat} : lo 7 i = 900 := rfl
theorem hi_7 {i : Nat} : hi 7 i = 900 + 96 := rfl
theorem lo_8 {i : Nat} : lo 8 i = 1000 := rfl
theorem hi_8 {i : Nat} : hi 8 i = 1000 + 96 := rfl
theorem lo_9 {i : Nat} : lo 9 i = 70 * i := rfl
theorem hi_9 {i : Nat} : hi 9 i = 16 + 70 * i := rfl
theorem lo_11 {i : Nat} : lo 11 i = 16 + 7 * i := rfl
theorem hi_11 {i : Nat} : hi 11 i = 23 + 7 * i := rfl
theorem lo_12 {i : Nat} : lo 12 i = 51 + 70 * i := rfl
theorem hi_12 {i : Nat} : hi 12 i = 51 + 70 * i + 3 := rfl
theorem lo_13 {i : Nat} : lo 13 i = 272 := rfl
theorem hi_13 {i : Nat} : hi 13 i = 274 := rfl
theorem lo_15 {i : Nat} : lo 15 i = 300 + 2 * i := rfl
theorem hi_15 {i : Nat} : hi 15 i = 302 + 2 * i := rfl
theorem lo_16 {i : Nat} : lo 16 i = 500 + 24 * i := rfl
theorem hi_16 {i : Nat} : hi 16 i = 500 + 24 * i + 24 := rfl
theorem lo_18 {i : Nat} : lo 18 i = 320 + 2 * i := rfl
theorem hi_18 {i : Nat} : hi 18 i = 322 + 2 * i := rfl
theorem lo_19 {i : Nat} : lo 19 i = 400 := rfl
theorem hi_19 {i : Nat} : hi 19 i = 400 + 60 := rfl
theorem lo_20 {i : Nat} : lo 20 i = 3000 := rfl
theorem hi_20 {i : Nat} : hi 20 i = 3013 := rfl
theorem lo_21 {i : Nat} : lo 21 i = 4000 + 1500 * i := rfl
theorem hi_21 {i : Nat} : hi 21 i = 4000 + 1500 * i + 1423 := rfl
theorem lo_22 {i : Nat} : lo 22 i = 3100 := rfl
theorem hi_22 {i : Nat} : hi 22 i = 3100 + 51 := rfl
theorem lo_23 {i : Nat} : lo 23 i = 3160 := rfl
theorem hi_23 {i : Nat} : hi 23 i = 3160 + 10 := rfl
theorem lo_24 {i : Nat} : lo 24 i = 3200 := rfl
theorem hi_24 {i : Nat} : hi 24 i = 3200 + 96 := rfl
theorem lo_25 {i : Nat} : lo 25 i = 3300 := rfl
theorem hi_25 {i : Nat} : hi 25 i = 3300 + 10 := rfl
theorem lo_26 {i : Nat} : lo 26 i = 3320 := rfl
theorem hi_26 {i : Nat} : hi 26 i = 3320 + 4 := rfl
theorem lo_27 {i : Nat} : lo 27 i = 3400 := rfl
theorem hi_27 {i : Nat} : hi 27 i = 3400 + 96 := rfl
theorem lo_28 {i : Nat} : lo 28 i = 3500 := rfl
theorem hi_28 {i : Nat} : hi 28 i = 3500 + 96 := rfl
theorem lo_29 {i : Nat} : lo 29 i = 3600 := rfl
theorem hi_29 {i : Nat} : hi 29 i = 3600 + 10 := rfl
theorem lo_30 {i : Nat} : lo 30 i = 3700 := rfl
theorem hi_30 {i : Nat} : hi 30 i = 3700 + 96 := rfl
theorem lo_31 {i : Nat} : lo 31 i = 3800 := rfl
theorem hi_31 {i : Nat} : hi 31 i = 3800 + 4 := rfl
theorem lo_32 {i : Nat} : lo 32 i = 3810 := rfl
theorem hi_32 {i : Nat} : hi 32 i = 3810 + 4 := rfl
theorem lo_33 {i : Nat} : lo 33 i = 3820 := rfl
theorem hi_33 {i : Nat} : hi 33 i = 3820 + 4 := rfl
theorem lo_34 {i : Nat} : lo 34 i = 3830 := rfl
theorem hi_34 {i : Nat} : hi 34 i = 3830 + 96 := rfl
theorem lo_35 {i : Nat} : lo 35 i = 3930 := rfl
theorem hi_35 {i : Nat} : hi 35 i = 3930 + 5 := rfl
theorem lo_36 {i : Nat} : lo 36 i = 3940 := rfl
theorem hi_36 {i : Nat} : hi 36 i = 3940 + 5 := rfl
theorem lo_37 {i : Nat} : lo 37 i = 3950 := rfl
theorem hi_37 {i : Nat} : hi 37 i = 3950 + 5 := rfl
theorem lo_38 {i : Nat} : lo 38 i = 8500 := rfl
theorem hi_38 {i : Nat} : hi 38 i = 8500 + 120 := rfl
theorem lo_39 {i : Nat} : lo 39 i = 3960 := rfl
theorem hi_39 {i : Nat} : hi 39 i = 3960 + 24 := rfl
theorem lo_40 {i : Nat} : lo 40 i = 8650 := rfl
theorem hi_40 {i : Nat} : hi 40 i = 8650 + 60 := rfl
def apartB (a b : Nat × Nat) : Bool := Nat.beq a.1 b.1 && Nat.beq a.2 b.2 || Nat.ble (hi a.1 a.2) (lo b.1 b.2) || Nat.ble (hi b.1 b.2) (lo a.1 a.2)
theorem apart_all : ids.all (fun a => ids.all (fun b => apartB a b)) = true := by decide +kernel
theorem apart_ids {a b : Nat × Nat} (ha : a ∈ ids) (hb : b ∈ ids) (hn : a ≠ b) : hi a.1 a.2 ≤ lo b.1 b.2 ∨ hi b.1 b.2 ≤ lo a.1 a.2 := by
  have h := List.all_eq_true.mp (List.all_eq_true.mp apart_all a ha) b hb
  simp only [apartB, Bool.or_eq_true, Bool.and_eq_true, Nat.ble_eq] at h
  rcases h with (h | h) | h
  · exact absurd (Prod.ext (Nat.eq_of_beq_eq_true h.1) (Nat.eq_of_beq_eq_true h.2)) hn
  · exact Or.inl h
  · exact Or.inr h
theorem aI_congr {X : TX} {m m' : Mem} {c b n : Nat} (h : ∀ k, b ≤ k → k < b + n → m' k = m k) : aI X m' c b n = aI X m c b n := by
  have e : (fun j => if j < n then m' (b + j) else 0) = (fun j => if j < n then m (b + j) else 0) := by
    funext j
    by_cases hj : j < n
    · rw [if_pos hj, if_pos hj]; exact h _ (by omega) (by omega)
    · rw [if_neg hj, if_neg hj]
  unfold aI
  rw [e]
theorem aL_congr {X : TX} {m m' : Mem} {b n : Nat} (h : ∀ k, b ≤ k → k < b + 2 * n → m' k = m k) : aL X m' b n = aL X m b n := by
  have e : (fun j => if j < n then comb (m' (b + 2 * j)) (m' (b + 2 * j + 1)) else 0) = (fun j => if j < n then comb (m (b + 2 * j)) (m (b + 2 * j + 1)) else 0) := by
    funext j
    by_cases hj : j < n
    · rw [if_pos hj, if_pos hj, h _ (by omega) (by omega), h _ (by omega) (by omega)]
    · rw [if_neg hj, if_neg hj]
  unfold aL
  rw [e]
theorem zcg_0 {X : TX} {m m' : Mem} {i : Nat} (h : ∀ k, lo 0 i ≤ k → k < hi 0 i → m' k = m k) : cellOf X m' 0 i = cellOf X m 0 i := by
  rw [lo_0, hi_0] at h
  rw [zco_0, zco_0]
  simp only [zce_0, h 270 (by (try simp only [sf, vf, hf, lf, tf]); omega) (by (try simp only [sf, vf, hf, lf, tf]); omega), h 271 (by (try simp only [sf, vf, hf, lf, tf]); omega) (by (try simp only [sf, vf, hf, lf, tf]); omega)]
theorem zcg_1 {X : TX} {m m' : Mem} {i : Nat} (h : ∀ k, lo 1 i ≤ k → k < hi 1 i → m' k = m k) : cellOf X m' 1 i = cellOf X m 1 i := by rw [zco_1, zco_1]; rfl
theorem zcg_2 {X : TX} {m m' : Mem} {i : Nat} (h : ∀ k, lo 2 i ≤ k → k < hi 2 i → m' k = m k) : cellOf X m' 2 i = cellOf X m 2 i := by rw [zco_2, zco_2]; rfl
theorem zcg_3 {X : TX} {m m' : Mem} {i : Nat} (h : ∀ k, lo 3 i ≤ k → k < hi 3 i → m' k = m k) : cellOf X m' 3 i = cellOf X m 3 i := by
  rw [lo_3, hi_3] at h
  rw [zco_3, zco_3]
  simp only [zce_3, h (tf i 0) (by (try simp only [sf, vf, hf, lf, tf]); omega) (by (try simp only [sf, vf, hf, lf, tf]); omega), h (tf i 1) (by (try simp only [sf, vf, hf, lf, tf]); omega) (by (try simp only [sf, vf, hf, lf, tf]); omega), h (tf i 2) (by (try simp only [sf, vf, hf, lf, tf]); omega) (by (try simp only [sf, vf, hf, lf, tf]); omega)]
theorem zcg_4 {X : TX} {m m' : Mem} {i : Nat} (h : ∀ k, lo 4 i ≤ k → k < hi 4 i → m' k = m k) : cellOf X m' 4 i = cellOf X m 4 i := by
  rw [lo_4, hi_4] at h
  exact aI_congr (fun k h1 h2 => h k h1 h2)
theorem zcg_5 {X : TX} {m m' : Mem} {i : Nat} (h : ∀ k, lo 5 i ≤ k → k < hi 5 i → m' k = m k) : cellOf X m' 5 i = cellOf X m 5 i := by
  rw [lo_5, hi_5] at h
  exact aI_congr (fun k h1 h2 => h k h1 h2)
theorem zcg_6 {X : TX} {m m' : Mem} {i : Nat} (h : ∀ k, lo 6 i ≤ k → k < hi 6 i → m' k = m k) : cellOf X m' 6 i = cellOf X m 6 i := by
  rw [lo_6, hi_6] at h
  rw [zco_6, zco_6]
  simp only [zce_6, h 280 (by (try simp only [sf, vf, hf, lf, tf]); omega) (by (try simp only [sf, vf, hf, lf, tf]); omega), h 281 (by (try simp only [sf, vf, hf, lf, tf]); omega) (by (try simp only [sf, vf, hf, lf, tf]); omega), h 282 (by (try simp only [sf, vf, hf, lf, tf]); omega) (by (try simp only [sf, vf, hf, lf, tf]); omega), h 283 (by (try simp only [sf, vf, hf, lf, tf]); omega) (by (try simp only [sf, vf, hf, lf, tf]); omega), h 284 (by (try simp only [sf, vf, hf, lf, tf]); omega) (by (try simp only [sf, vf, hf, lf, tf]); omega), h 285 (by (try simp only [sf, vf, hf, lf, tf]); omega) (by (try simp only [sf, vf, hf, lf, tf]); omega), h 286 (by (try simp only [sf, vf, hf, lf, tf]); omega) (by (try simp only [sf, vf, hf, lf, tf]); omega), h 287 (by (try simp only [sf, vf, hf, lf, tf]); omega) (by (try simp only [sf, vf, hf, lf, tf]); omega), h 288 (by (try simp only [sf, vf, hf, lf, tf]); omega) (by (try simp only [sf, vf, hf, lf, tf]); omega)]
theorem zcg_7 {X : TX} {m m' : Mem} {i : Nat} (h : ∀ k, lo 7 i ≤ k → k < hi 7 i → m' k = m k) : cellOf X m' 7 i = cellOf X m 7 i := by
  rw [lo_7, hi_7] at h
  exact aI_congr (fun k h1 h2 => h k h1 h2)
theorem zcg_8 {X : TX} {m m' : Mem} {i : Nat} (h : ∀ k, lo 8 i ≤ k → k < hi 8 i → m' k = m k) : cellOf X m' 8 i = cellOf X m 8 i := by
  rw [lo_8, hi_8] at h
  exact aI_congr (fun k h1 h2 => h k h1 h2)
theorem zcg_9 {X : TX} {m m' : Mem} {i : Nat} (h : ∀ k, lo 9 i ≤ k → k < hi 9 i → m' k = m k) : cellOf X m' 9 i = cellOf X m 9 i := by
  rw [lo_9, hi_9] at h
  rw [zco_9, zco_9]
  simp only [zce_9, h (sf i 1) (by (try simp only [sf, vf, hf, lf, tf]); omega) (by (try simp only [sf, vf, hf, lf, tf]); omega), h (sf i 5) (by (try simp only [sf, vf, hf, lf, tf]); omega) (by (try simp only [sf, vf, hf, lf, tf]); omega), h (sf i 3) (by (try simp only [sf, vf, hf, lf, tf]); omega) (by (try simp only [sf, vf, hf, lf, tf]); omega), h (sf i 4) (by (try simp only [sf, vf, hf, lf, tf]); omega) (by (try simp only [sf, vf, hf, lf, tf]); omega), h (sf i 6) (by (try simp only [sf, vf, hf, lf, tf]); omega) (by (try simp only [sf, vf, hf, lf, tf]); omega), h (sf i 7) (by (try simp only [sf, vf, hf, lf, tf]); omega) (by (try simp only [sf, vf, hf, lf, tf]); omega), h (sf i 8) (by (try simp only [sf, vf, hf, lf, tf]); omega) (by (try simp only [sf, vf, hf, lf, tf]); omega), h (sf i 9) (by (try simp only [sf, vf, hf, lf, tf]); omega) (by (try simp only [sf, vf, hf, lf, tf]); omega), h (sf i 10) (by (try simp only [sf, vf, hf, lf, tf]); omega) (by (try simp only [sf, vf, hf, lf, tf]); omega), h (sf i 11) (by (try simp only [sf, vf, hf, lf, tf]); omega) (by (try simp only [sf, vf, hf, lf, tf]); omega), h (sf i 12) (by (try simp only [sf, vf, hf, lf, tf]); omega) (by (try simp only [sf, vf, hf, lf, tf]); omega), h (sf i 13) (by (try simp only [sf, vf, hf, lf, tf]); omega) (by (try simp only [sf, vf, hf, lf, tf]); omega), h (sf i 14) (by (try simp only [sf, vf, hf, lf, tf]); omega) (by (try simp only [sf, vf, hf, lf, tf]); omega), h (sf i 2) (by (try simp only [sf, vf, hf, lf, tf]); omega) (by (try simp only [sf, vf, hf, lf, tf]); omega), h (sf i 0) (by (try simp only [sf, vf, hf, lf, tf]); omega) (by (try simp only [sf, vf, hf, lf, tf]); omega), h (sf i 15) (by (try simp only [sf, vf, hf, lf, tf]); omega) (by (try simp only [sf, vf, hf, lf, tf]); omega)]
theorem zcg_10 {X : TX} {m m' : Mem} {i : Nat} (h : ∀ k, lo 10 i ≤ k → k < hi 10 i → m' k = m k) : cellOf X m' 10 i = cellOf X m 10 i := by rw [zco_10, zco_10]; rfl
theorem zcg_11 {X : TX} {m m' : Mem} {i : Nat} (h : ∀ k, lo 11 i ≤ k → k < hi 11 i → m' k = m k) : cellOf X m' 11 i = cellOf X m 11 i := by
  rw [lo_11, hi_11] at h
  rw [zco_11, zco_11]
  simp only [zce_11, h (vf i 0) (by (try simp only [sf, vf, hf, lf, tf]); omega) (by (try simp only [sf, vf, hf, lf, tf]); omega), h (vf i 1) (by (try simp only [sf, vf, hf, lf, tf]); omega) (by (try simp only [sf, vf, hf, lf, tf]); omega), h (vf i 2) (by (try simp only [sf, vf, hf, lf, tf]); omega) (by (try simp only [sf, vf, hf, lf, tf]); omega), h (vf i 3) (by (try simp only [sf, vf, hf, lf, tf]); omega) (by (try simp only [sf, vf, hf, lf, tf]); omega), h (vf i 4) (by (try simp only [sf, vf, hf, lf, tf]); omega) (by (try simp only [sf, vf, hf, lf, tf]); omega), h (vf i 5) (by (try simp only [sf, vf, hf, lf, tf]); omega) (by (try simp only [sf, vf, hf, lf, tf]); omega), h (vf i 6) (by (try simp only [sf, vf, hf, lf, tf]); omega) (by (try simp only [sf, vf, hf, lf, tf]); omega)]
theorem zcg_12 {X : TX} {m m' : Mem} {i : Nat} (h : ∀ k, lo 12 i ≤ k → k < hi 12 i → m' k = m k) : cellOf X m' 12 i = cellOf X m 12 i := by
  rw [lo_12, hi_12] at h
  exact aI_congr (fun k h1 h2 => h k h1 h2)
theorem zcg_13 {X : TX} {m m' : Mem} {i : Nat} (h : ∀ k, lo 13 i ≤ k → k < hi 13 i → m' k = m k) : cellOf X m' 13 i = cellOf X m 13 i := by
  rw [lo_13, hi_13] at h
  rw [zco_13, zco_13]
  simp only [zce_13, h 272 (by (try simp only [sf, vf, hf, lf, tf]); omega) (by (try simp only [sf, vf, hf, lf, tf]); omega), h 273 (by (try simp only [sf, vf, hf, lf, tf]); omega) (by (try simp only [sf, vf, hf, lf, tf]); omega)]
theorem zcg_14 {X : TX} {m m' : Mem} {i : Nat} (h : ∀ k, lo 14 i ≤ k → k < hi 14 i → m' k = m k) : cellOf X m' 14 i = cellOf X m 14 i := by rw [zco_14, zco_14]; rfl
theorem zcg_15 {X : TX} {m m' : Mem} {i : Nat} (h : ∀ k, lo 15 i ≤ k → k < hi 15 i → m' k = m k) : cellOf X m' 15 i = cellOf X m 15 i := by
  rw [lo_15, hi_15] at h
  rw [zco_15, zco_15]
  simp only [zce_15, h (hf i 0) (by (try simp only [sf, vf, hf, lf, tf]); omega) (by (try simp only [sf, vf, hf, lf, tf]); omega), h (hf i 1) (by (try simp only [sf, vf, hf, lf, tf]); omega) (by (try simp only [sf, vf, hf, lf, tf]); omega)]
theorem zcg_16 {X : TX} {m m' : Mem} {i : Nat} (h : ∀ k, lo 16 i ≤ k → k < hi 16 i → m' k = m k) : cellOf X m' 16 i = cellOf X m 16 i := by
  rw [lo_16, hi_16] at h
  exact aI_congr (fun k h1 h2 => h k h1 h2)
theorem zcg_17 {X : TX} {m m' : Mem} {i : Nat} (h : ∀ k, lo 17 i ≤ k → k < hi 17 i → m' k = m k) : cellOf X m' 17 i = cellOf X m 17 i := by rw [zco_17, zco_17]; rfl
theorem zcg_18 {X : TX} {m m' : Mem} {i : Nat} (h : ∀ k, lo 18 i ≤ k → k < hi 18 i → m' k = m k) : cellOf X m' 18 i = cellOf X m 18 i := by
  rw [lo_18, hi_18] at h
  rw [zco_18, zco_18]
  simp only [zce_18, h (lf i 0) (by (try simp only [sf, vf, hf, lf, tf]); omega) (by (try simp only [sf, vf, hf, lf, tf]); omega), h (lf i 1) (by (try simp only [sf, vf, hf, lf, tf]); omega) (by (try simp only [sf, vf, hf, lf, tf]); omega)]
theorem zcg_19 {X : TX} {m m' : Mem} {i : Nat} (h : ∀ k, lo 19 i ≤ k → k < hi 19 i → m' k = m k) : cellOf X m' 19 i = cellOf X m 19 i := by
  rw [lo_19, hi_19] at h
  exact aI_congr (fun k h1 h2 => h k h1 h2)
theorem zcg_20 {X : TX} {m m' : Mem} {i : Nat} (h : ∀ k, lo 20 i ≤ k → k < hi 20 i → m' k = m k) : cellOf X m' 20 i = cellOf X m 20 i := by
  rw [lo_20, hi_20] at h
  rw [zco_20, zco_20]
  simp only [zce_20, h 3000 (by (try simp only [sf, vf, hf, lf, tf]); omega) (by (try simp only [sf, vf, hf, lf, tf]); omega), h 3001 (by (try simp only [sf, vf, hf, lf, tf]); omega) (by (try simp only [sf, vf, hf, lf, tf]); omega), h 3002 (by (try simp only [sf, vf, hf, lf, tf]); omega) (by (try simp only [sf, vf, hf, lf, tf]); omega), h 3003 (by (try simp only [sf, vf, hf, lf, tf]); omega) (by (try simp only [sf, vf, hf, lf, tf]); omega), h 3004 (by (try simp only [sf, vf, hf, lf, tf]); omega) (by (try simp only [sf, vf, hf, lf, tf]); omega), h 3005 (by (try simp only [sf, vf, hf, lf, tf]); omega) (by (try simp only [sf, vf, hf, lf, tf]); omega), h 3006 (by (try simp only [sf, vf, hf, lf, tf]); omega) (by (try simp only [sf, vf, hf, lf, tf]); omega), h 3007 (by (try simp only [sf, vf, hf, lf, tf]); omega) (by (try simp only [sf, vf, hf, lf, tf]); omega), h 3008 (by (try simp only [sf, vf, hf, lf, tf]); omega) (by (try simp only [sf, vf, hf, lf, tf]); omega), h 3009 (by (try simp only [sf, vf, hf, lf, tf]); omega) (by (try simp only [sf, vf, hf, lf, tf]); omega), h 3010 (by (try simp only [sf, vf, hf, lf, tf]); omega) (by (try simp only [sf, vf, hf, lf, tf]); omega), h 3011 (by (try simp only [sf, vf, hf, lf, tf]); omega) (by (try simp only [sf, vf, hf, lf, tf]); omega), h 3012 (by (try simp only [sf, vf, hf, lf, tf]); omega) (by (try simp only [sf, vf, hf, lf, tf]); omega)]
theorem zcg_21 {X : TX} {m m' : Mem} {i : Nat} (h : ∀ k, lo 21 i ≤ k → k < hi 21 i → m' k = m k) : cellOf X m' 21 i = cellOf X m 21 i := by
  rw [lo_21, hi_21] at h
  exact aI_congr (fun k h1 h2 => h k h1 h2)
theorem zcg_22 {X : TX} {m m' : Mem} {i : Nat} (h : ∀ k, lo 22 i ≤ k → k < hi 22 i → m' k = m k) : cellOf X m' 22 i = cellOf X m 22 i := by
  rw [lo_22, hi_22] at h
  exact aI_congr (fun k h1 h2 => h k h1 h2)
theorem zcg_23 {X : TX} {m m' : Mem} {i : Nat} (h : ∀ k, lo 23 i ≤ k → k < hi 23 i → m' k = m k) : cellOf X m' 23 i = cellOf X m 23 i := by
  rw [lo_23, hi_23] at h
  exact aL_congr (fun k h1 h2 => h k h1 h2)
theorem zcg_24 {X : TX} {m m' : Mem} {i : Nat} (h : ∀ k, lo 24 i ≤ k → k < hi 24 i → m' k = m k) : cellOf X m' 24 i = cellOf X m 24 i := by
  rw [lo_24, hi_24] at h
  exact aI_congr (fun k h1 h2 => h k h1 h2)
theorem zcg_25 {X : TX} {m m' : Mem} {i : Nat} (h : ∀ k, lo 25 i ≤ k → k < hi 25 i → m' k = m k) : cellOf X m' 25 i = cellOf X m 25 i := by
  rw [lo_25, hi_25] at h
  exact aI_congr (fun k h1 h2 => h k h1 h2)
theorem zcg_26 {X : TX} {m m' : Mem} {i : Nat} (h : ∀ k, lo 26 i ≤ k → k < hi 26 i → m' k = m k) : cellOf X m' 26 i = cellOf X m 26 i := by
  rw [lo_26, hi_26] at h
  exact aI_congr (fun k h1 h2 => h k h1 h2)
theorem zcg_27 {X : TX} {m m' : Mem} {i : Nat} (h : ∀ k, lo 27 i ≤ k → k < hi 27 i → m' k = m k) : cellOf X m' 27 i = cellOf X m 27 i := by
  rw [lo_27, hi_27] at h
  exact aI_congr (fun k h1 h2 => h k h1 h2)
theorem zcg_28 {X : TX} {m m' : Mem} {i : Nat} (h : ∀ k, lo 28 i ≤ k → k < hi 28 i → m' k = m k) : cellOf X m' 28 i = cellOf X m 28 i := by
  rw [lo_28, hi_28] at h
  exact aI_congr (fun k h1 h2 => h k h1 h2)
theorem zcg_29 {X : TX} {m m' : Mem} {i : Nat} (h : ∀ k, lo 29 i ≤ k → k < hi 29 i → m' k = m k) : cellOf X m' 29 i = cellOf X m 29 i := by
  rw [lo_29, hi_29] at h
  exact aI_congr (fun k h1 h2 => h k h1 h2)
theorem zcg_30 {X : TX} {m m' : Mem} {i : Nat} (h : ∀ k, lo 30 i ≤ k → k < hi 30 i → m' k = m k) : cellOf X m' 30 i = cellOf X m 30 i := by
  rw [lo_30, hi_30] at h
  exact aI_congr (fun k h1 h2 => h k h1 h2)
theorem zcg_31 {X : TX} {m m' : Mem} {i : Nat} (h : ∀ k, lo 31 i ≤ k → k < hi 31 i → m' k = m k) : cellOf X m' 31 i = cellOf X m 31 i := by
  rw [lo_31, hi_31] at h
  exact aI_congr (fun k h1 h2 => h k h1 h2)
theorem zcg_32 {X : TX} {m m' : Mem} {i : Nat} (h : ∀ k, lo 32 i ≤ k → k < hi 32 i → m' k = m k) : cellOf X m' 32 i = cellOf X m 32 i := by
  rw [lo_32, hi_32] at h
  exact aI_congr (fun k h1 h2 => h k h1 h2)
theorem zcg_33 {X : TX} {m m' : Mem} {i : Nat} (h : ∀ k, lo 33 i ≤ k → k < hi 33 i → m' k = m k) : cellOf X m' 33 i = cellOf X m 33 i := by
  rw [lo_33, hi_33] at h
  exact aI_congr (fun k h1 h2 => h k h1 h2)
theorem zcg_34 {X : TX} {m m' : Mem} {i : Nat} (h : ∀ k, lo 34 i ≤ k → k < hi 34 i → m' k = m k) : cellOf X m' 34 i = cellOf X m 34 i := by
  rw [lo_34, hi_34] at h
  exact aI_congr (fun k h1 h2 => h k h1 h2)
theorem zcg_35 {X : TX} {m m' : Mem} {i : Nat} (h : ∀ k, lo 35 i ≤ k → k < hi 35 i → m' k = m k) : cellOf X m' 35 i = cellOf X m 35 i := by
  rw [lo_35, hi_35] at h
  exact aI_congr (fun k h1 h2 => h k h1 h2)
theorem zcg_36 {X : TX} {m m' : Mem} {i : Nat} (h : ∀ k, lo 36 i ≤ k → k < hi 36 i → m' k = m k) : cellOf X m' 36 i = cellOf X m 36 i := by
  rw [lo_36, hi_36] at h
  exact aI_congr (fun k h1 h2 => h k h1 h2)
theorem zcg_37 {X : TX} {m m' : Mem} {i : Nat} (h : ∀ k, lo 37 i ≤ k → k < hi 37 i → m' k = m k) : cellOf X m' 37 i = cellOf X m 37 i := by
  rw [lo_37, hi_37] at h
  exact aI_congr (fun k h1 h2 => h k h1 h2)
theorem zcg_38 {X : TX} {m m' : Mem} {i : Nat} (h : ∀ k, lo 38 i ≤ k → k < hi 38 i → m' k = m k) : cellOf X m' 38 i = cellOf X m 38 i := by
  rw [lo_38, hi_38] at h
  exact aI_congr (fun k h1 h2 => h k h1 h2)
theorem zcg_39 {X : TX} {m m' : Mem} {i : Nat} (h : ∀ k, lo 39 i ≤ k → k < hi 39 i → m' k = m k) : cellOf X m' 39 i = cellOf X m 39 i := by
  rw [lo_39, hi_39] at h
  exact aI_congr (fun k h1 h2 => h k h1 h2)
theorem zcg_40 {X : TX} {m m' : Mem} {i : Nat} (h : ∀ k, lo 40 i ≤ k → k < hi 40 i → m' k = m k) : cellOf X m' 40 i = cellOf X m 40 i := by
  rw [lo_40, hi_40] at h
  exact aI_congr (fun k h1 h2 => h k h1 h2)
theorem cell_congr {X : TX} {m m' : Mem} (r i : Nat) (h : ∀ k, lo r i ≤ k → k < hi r i → m' k = m k) : cellOf X m' r i = cellOf X m r i := by
  by_cases h0 : r = 0
  · subst h0; exact zcg_0 h
  by_cases h1 : r = 1
  · subst h1; exact zcg_1 h
  by_cases h2 : r = 2
  · subst h2; exact zcg_2 h
  by_cases h3 : r = 3
  · subst h3; exact zcg_3 h
  by_cases h4 : r = 4
  · subst h4; exact zcg_4 h
  by_cases h5 : r = 5
  · subst h5; exact zcg_5 h
  by_cases h6 : r = 6
  · subst h6; exact zcg_6 h
  by_cases h7 : r = 7
  · subst h7; exact zcg_7 h
  by_cases h8 : r = 8
  · subst h8; exact zcg_8 h
  by_cases h9 : r = 9
  · subst h9; exact zcg_9 h
  by_cases h10 : r = 10
  · subst h10; exact zcg_10 h
  by_cases h11 : r = 11
  · subst h11; exact zcg_11 h
  by_cases h12 : r = 12
  · subst h12; exact zcg_12 h
  by_cases h13 : r = 13
  · subst h13; exact zcg_13 h
  by_cases h14 : r = 14
  · subst h14; exact zcg_14 h
  by_cases h15 : r = 15
  · subst h15; exact zcg_15 h
  by_cases h16 : r = 16
  · subst h16; exact zcg_16 h
  by_cases h17 : r = 17
  · subst h17; exact zcg_17 h
  by_cases h18 : r = 18
  · subst h18; exact zcg_18 h
  by_cases h19 : r = 19
  · subst h19; exact zcg_19 h
  by_cases h20 : r = 20
  · subst h20; exact zcg_20 h
  by_cases h21 : r = 21
  · subst h21; exact zcg_21 h
  by_cases h22 : r = 22
  · subst h22; exact zcg_22 h
  by_cases h23 : r = 23
  · subst h23; exact zcg_23 h
  by_cases h24 : r = 24
  · subst h24; exact zcg_24 h
  by_cases h25 : r = 25
  · subst h25; exact zcg_25 h
  by_cases h26 : r = 26
  · subst h26; exact zcg_26 h
  by_cases h27 : r = 27
  · subst h27; exact zcg_27 h
  by_cases h28 : r = 28
  · subst h28; exact zcg_28 h
  by_cases h29 : r = 29
  · subst h29; exact zcg_29 h
  by_cases h30 : r = 30
  · subst h30; exact zcg_30 h
  by_cases h31 : r = 31
  · subst h31; exact zcg_31 h
  by_cases h32 : r = 32
  · subst h32; exact zcg_32 h
  by_cases h33 : r = 33
  · subst h33; exact zcg_33 h
  by_cases h34 : r = 34
  · subst h34; exact zcg_34 h
  by_cases h35 : r = 35
  · subst h35; exact zcg_35 h
  by_cases h36 : r = 36
  · subst h36; exact zcg_36 h
  by_cases h37 : r = 37
  · subst h37; exact zcg_37 h
  by_cases h38 : r = 38
  · subst h38; exact zcg_38 h
  by_cases h39 : r = 39
  · subst h39; exact zcg_39 h
  by_cases h40 : r = 40
  · subst h40; exact zcg_40 h
  simp only [cellOf, if_neg h0, if_neg h1, if_neg h2, if_neg h3, if_neg h4, if_neg h5, if_neg h6, if_neg h7, if_neg h8, if_neg h9, if_neg h10, if_neg h11, if_neg h12, if_neg h13, if_neg h14, if_neg h15, if_neg h16, if_neg h17, if_neg h18, if_neg h19, if_neg h20, if_neg h21, if_neg h22, if_neg h23, if_neg h24, if_neg h25, if_neg h26, if_neg h27, if_neg h28, if_neg h29, if_neg h30, if_neg h31, if_neg h32, if_neg h33, if_neg h34, if_neg h35, if_neg h36, if_neg h37, if_neg h38, if_neg h39, if_neg h40]
theorem cell_out {X : TX} {m : Mem} {a b : Nat × Nat} (ha : a ∈ ids) (hb : b ∈ ids) (hn : b ≠ a) {k : Nat} {x : Int32} (h1 : lo a.1 a.2 ≤ k) (h2 : k < hi a.1 a.2) : cellOf X (upd m k x) b.1 b.2 = cellOf X m b.1 b.2 :=
  cell_congr b.1 b.2 (fun q q1 q2 => pk_un (by rcases apart_ids ha hb (Ne.symm hn) with h | h <;> omega))
theorem ids_nodup : va_nd (ids.map fun q => 100 * q.1 + q.2) = true := by decide +kernel
theorem at_ids {X : TX} {m : Mem} {a : Nat × Nat} (ha : a ∈ ids) : ∃ p : Nat, ids[p]? = some a ∧ (wcells X m)[p]? = some (ad X a.1 a.2, cellOf X m a.1 a.2) := by
  obtain ⟨p, hp⟩ := List.getElem?_of_mem ha
  exact ⟨p, hp, by rw [wcells, List.getElem?_map, hp]; rfl⟩
theorem ids_inj {p q : Nat} {a : Nat × Nat} (hp : ids[p]? = some a) (hq : ids[q]? = some a) : p = q :=
  va_nd_inj _ ids_nodup p q (100 * a.1 + a.2) (by rw [List.getElem?_map, hp]; rfl) (by rw [List.getElem?_map, hq]; rfl)
theorem wcells_D {X : TX} {m : Mem} (hI : IJ X) : va_D (ar X) (wcells X m) := by
  have key : ∀ (k : Nat) (q : Nat × va_E), (wcells X m)[k]? = some q → ∃ a, ids[k]? = some a ∧ a ∈ ids ∧ q.1 = ad X a.1 a.2 := by
    intro k q hk
    rw [wcells, List.getElem?_map] at hk
    cases ha : ids[k]? with
    | none => rw [ha] at hk; cases hk
    | some a => rw [ha] at hk; cases hk; exact ⟨a, rfl, List.mem_of_getElem? ha, rfl⟩
  refine ⟨fun i j x y hi hj hxy => ?_, fun k q hk => ?_⟩
  · obtain ⟨a, h1, h2, h3⟩ := key i x hi
    obtain ⟨b, h4, h5, h6⟩ := key j y hj
    have := hI a h2 b h5 (by rw [← h3, ← h6, hxy])
    subst this
    exact ids_inj h1 h4
  · obtain ⟨a, h1, h2, h3⟩ := key k q hk
    exact ⟨a, h2, h3⟩
theorem map_set {L : List (Nat × Nat)} (hinj : ∀ (p q : Nat) (a : Nat × Nat), L[p]? = some a → L[q]? = some a → p = q) {f g : Nat × Nat → Nat × va_E} {a : Nat × Nat} {p : Nat} {z : Nat × va_E} (hp : L[p]? = some a) (he : g a = z) (ho : ∀ b ∈ L, b ≠ a → g b = f b) : (L.map f).set p z = L.map g := by
  apply List.ext_getElem?
  intro k
  by_cases hk : k = p
  · subst hk
    have hl : k < (L.map f).length := by
      rw [List.length_map]; exact (List.getElem?_eq_some_iff.mp hp).1
    rw [List.getElem?_set_self hl, List.getElem?_map, hp, ← he]; rfl
  · rw [List.getElem?_set_ne (Ne.symm hk), List.getElem?_map, List.getElem?_map]
    cases hb : L[k]? with
    | none => rfl
    | some b =>
      show some (f b) = some (g b)
      rw [ho b (List.mem_of_getElem? hb) (fun z => hk (hinj k p a (by rw [hb, z]) hp))]
/-- a store in one cell -/
theorem wcells_set {X : TX} {m m1 : Mem} {a : Nat × Nat} {p : Nat} {e : va_E} (hp : ids[p]? = some a) (he : cellOf X m1 a.1 a.2 = e) (ho : ∀ b ∈ ids, b ≠ a → cellOf X m1 b.1 b.2 = cellOf X m b.1 b.2) : (wcells X m).set p (ad X a.1 a.2, e) = wcells X m1 :=
  map_set (fun _ _ _ h1 h2 => ids_inj h1 h2) hp (by rw [he]) (fun b hb hn => by rw [ho b hb hn])
end
section
/-! CONTEXT AND ROWS over the flat memory: one world, one list of words, rooms by depth -/
def tysA (X : TX) : List (ClassId × FieldType) := [(cA X 0, .int), (cA X 1, .long), (cA X 2, .boolean), (cA X 3, .char), (cA X 4, .object RX7), (cA X 5, .object RX5), (cA X 6, .object RX2), (cA X 7, .object RX3)]
def slen : List Nat := [3, 3, 4, 3, 2, 2]
def sbyt : List (List Int32) := [[111, 102, 102], [102, 101, 101], [102, 105, 110, 101], [115, 108, 104], [115, 99], [115, 108]]
def KK (X : TX) (U : State) : Prop := va_K (aD X) classes (tysA X) U ∧ va_Nw (.methodLinkNest RX7 9 yX8_within RX8) U ∧ va_Nw (.methodLinkNest RX4 108 yX8_within RX8) U ∧ va_Nw (.methodLinkNest RX1 147 yX8_within RX8) U ∧ vk_R RX1 91 "off" (adK X 0) U ∧ vk_R RX1 97 "fee" (adK X 1) U ∧ vk_R RX1 99 "fine" (adK X 2) U ∧ vk_R RX1 122 "slh" (adK X 3) U ∧ vk_R RX1 124 "sc" (adK X 4) U ∧ vk_R RX1 126 "sl" (adK X 5) U ∧ va_Nw (.native arraycopyName) U
def SS (X : TX) (U : State) (H : Heap) : Prop := vk_S 6 slen sbyt (adK X) (adV X) (ar X) U H ∧ va_Z "java/lang/String" "COMPACT_STRINGS" "Z" (.int 1) (ar X) U H ∧ va_Zq "jdk/internal/util/Preconditions" "SIOOBE_FORMATTER" "Ljava/util/function/BiFunction;" (ar X) U H
theorem native_warm {y : MethodName} {s U : State} (hW : s.WarmedH U.vm) (hZ : va_Nw (.native y) s) : va_Nw (.native y) U := word_at hW (Or.inl rfl) hZ
theorem KK.warm {X : TX} {s U : State} (hW : s.WarmedH U.vm) (h : KK X s) : KK X U := by
  obtain ⟨h1, h2, h3, h4, k0, k1, k2, k3, k4, k5, h5⟩ := h
  exact ⟨va_K.moved hW.alike h1, va_Nw.warmM hW h2, va_Nw.warmM hW h3, va_Nw.warmM hW h4, k0.warm hW, k1.warm hW, k2.warm hW, k3.warm hW, k4.warm hW, k5.warm hW, native_warm hW h5⟩
theorem KK.same {X : TX} {s U : State} (hv : U.vm = s.vm) (h : KK X s) : KK X U := by
  obtain ⟨h1, h2, h3, h4, k0, k1, k2, k3, k4, k5, h5⟩ := h
  exact ⟨va_K.moved (by rw [hv]; exact Vm.Alike.refl s.vm) h1, va_Nw.same rfl hv.symm h2, va_Nw.same rfl hv.symm h3, va_Nw.same rfl hv.symm h4, k0.same hv, k1.same hv, k2.same hv, k3.same hv, k4.same hv, k5.same hv, va_Nw.same rfl hv.symm h5⟩
theorem SS.moved {X : TX} {u U : State} {H : Heap} (hvm : u.vm.Alike U.vm) (h : SS X u H) : SS X U H := ⟨vk_S.moved hvm h.1, va_Z.moved hvm h.2.1, va_Zq.moved hvm h.2.2⟩
theorem SS.kept {X : TX} {U : State} {H H1 : Heap} (h : SS X U H) (hq : ∀ a : Nat, a < H.size → ¬ ar X a → H1[a]? = H[a]?) : SS X U H1 := ⟨vk_S.kept h.1 hq, va_Z.kept h.2.1 hq, va_Zq.kept h.2.2 hq⟩
def rmD (d : Nat) : Room := { frames := d, cells := 0, slots := 0, locals := 38 * d }
def wsM (y : MethodName) (b : ByteArray) (n : Nat) (r : Option FieldType) : List Cond := .code y b n r :: bigW
def PreW (X : TX) (m : Mem) (U : State) : Prop := va_P (aD X) classes (wcells X m) U.heap ∧ KK X U ∧ SS X U U.heap ∧ IJ X
def QI (X : TX) (r : Int32) (m1 : Mem) : Array Value → State → Outcome → State → Prop := va_Qi (S := Unit) (fun r' _ => r' = r) (fun _ t => va_P (aD X) classes (wcells X m1) t.heap) (ar X)
def QV (X : TX) (m1 : Mem) : Array Value → State → Outcome → State → Prop := va_Qv (S := Unit) (fun _ => True) (fun _ t => va_P (aD X) classes (wcells X m1) t.heap) (ar X)
def MetI (X : TX) (l : Launch) (y : MethodName) (b : ByteArray) (n : Nat) (ty : FieldType) (d : Nat) (av : List Value) (m : Mem) (r : Int32) (m1 : Mem) : Prop := Met l y (wsM y b n (some ty)) (rmD d) (va_Pc av (PreW X m)) (QI X r m1) 0 0 (ar X)
def MetV (X : TX) (l : Launch) (y : MethodName) (b : ByteArray) (n : Nat) (d : Nat) (av : List Value) (m : Mem) (m1 : Mem) : Prop := Met l y (wsM y b n none) (rmD d) (va_Pc av (PreW X m)) (QV X m1) 0 0 (ar X)
/-- what holds inside a method, whatever it has done so far -/
def Cx (X : TX) (p : Program) (s : State) (mi : MethodId) (args : Array Value) (c : Code) (own : String) (cc : ByteArray) (nL : Nat) : Prop :=
  p.tables.exec = Jvm.exec ∧ c.code = cc ∧ c.maxLocals = nL ∧ s.vm.findClass own = some mi.cls ∧ (∀ w ∈ bigW, w.before args s = true) ∧ KK X s ∧ SS X s s.heap ∧ IJ X
def Wd (X : TX) (s : State) (m : Mem) (H : Heap) (locs : List Loc) : Prop := va_P (aD X) classes (wcells X m) H ∧ va_S (ar X) s.heap H locs
def CalV (y : MethodName) (b : ByteArray) (n : Nat) (ret : Option FieldType) (C : String) (k : Nat) : Prop := (.instanceMethod y : Cond) ∈ bigW ∧ (.selects C y y : Cond) ∈ bigW ∧ (.initialized C : Cond) ∈ bigW ∧ (.code y b n ret : Cond) ∈ bigW ∧ (y.cls = C ∧ y.cls ≠ "java/lang/invoke/MethodHandle" ∧ y.cls ≠ "java/lang/invoke/VarHandle" ∧ (parseMethodDescriptor y.desc).map (fun d => d.parameters.length) = some k)
def CalS (y : MethodName) (b : ByteArray) (n : Nat) (ret : Option FieldType) (k : Nat) : Prop := (.static y : Cond) ∈ bigW ∧ (.initialized y.cls : Cond) ∈ bigW ∧ (.code y b n ret : Cond) ∈ bigW ∧ (y.cls ≠ "java/lang/invoke/MethodHandle" ∧ y.cls ≠ "java/lang/invoke/VarHandle" ∧ (parseMethodDescriptor y.desc).map (fun d => d.parameters.length) = some k)
theorem bigW_good {w : Cond} (h : w ∈ bigW) : w ∈ bigW ∧ ((w.onTables && w.keeps) = true ∨ ∃ ty, w = .arrayClass ty) := ⟨h, good_of_word (List.mem_filter.mp h).2⟩
theorem good_cons {w : Cond} {ws : List Cond} (h : w ∈ bigW) (g : GoodIn bigW ws) : GoodIn bigW (w :: ws) := by
  intro q hq
  rcases List.mem_cons.mp hq with rfl | hq
  · exact bigW_good h
  · exact g q hq
theorem good_bigW : GoodIn bigW bigW := fun _ h => bigW_good h
section ROWS
variable {X : TX} {p : Program} {l : Launch} {e : Env} {R : Room} {s : State} {mi : MethodId} {args : Array Value} {below : List Frame} {meth : Method} {c : Code} {own : String} {cc : ByteArray} {nL : Nat} {m m1 : Mem} {H : Heap} {locs : List Loc} {cells slots : Nat} {Q : State → Prop} {pc : Nat} {ls : Array Slot} {rest : List Value}
theorem Cx.ss (C : Cx X p s mi args c own cc nL) (hW : Wd X s m H locs) : SS X s H := SS.kept C.2.2.2.2.2.2.1 hW.2.2.1
theorem Cx.pre (C : Cx X p s mi args c own cc nL) (hW : Wd X s m H locs) {U : State} (hU : U.heap = H) (hw : s.WarmedH U.vm) : PreW X m U :=
  ⟨by rw [hU]; exact hW.1, KK.warm hw C.2.2.2.2.2.1, by rw [hU]; exact SS.moved hw.alike (Cx.ss C hW), C.2.2.2.2.2.2.2⟩
theorem pre_blind {av : List Value} : FrameBlind (va_Pc av (PreW X m)) := fun _ U _ _ q => ⟨q.1, q.2.1, KK.same (s := U) rfl q.2.2.1, SS.moved (Vm.Alike.refl U.vm) q.2.2.2.1, q.2.2.2.2⟩
/-- getfield -/
theorem zr_get (C : Cx X p s mi args c own cc nL) (hW : Wd X s m H locs) {r i : Nat} (hid : (r, i) ∈ ids) {ci : Nat} {fs : List Value} (he : cellOf X m r i = .inr (ci, fs)) {Cn : String} {T : u_T} {N : Nat} (hc : classes[ci]? = some (Cn, T, N)) (hin : ∀ w ∈ u_ws Cn T N, w ∈ bigW) {k : Nat} (hk : k < N) {idx : Nat} (hl : (.fieldLink own idx (T k).1 (T k).2.1 (T k).2.2.1 : Cond) ∈ bigW) {v : Value} (hv : fs[k]? = some v) (hd : decode cc pc = .ok (.getfield idx, 3))
    (kk : W p l e R s mi args below meth c H locs cells slots Q (F0 mi (pc + 3) ls (v :: rest))) : W p l e R s mi args below meth c H locs cells slots Q (F0 mi pc ls (.ref (ad X r i) :: rest)) := by
  obtain ⟨q, -, hq⟩ := at_ids (X := X) (m := m) hid
  rw [he] at hq
  exact va_get C.1 C.2.1 C.2.2.2.2.1 hin C.2.2.2.1 C.2.2.2.2.2.1.1 hW.1 q hq hc k hk (C.2.2.2.2.1 _ hl) (fun _ h => h) hv hd kk
/-- putfield of an int -/
theorem zr_put (C : Cx X p s mi args c own cc nL) (hW : Wd X s m H locs) {r i : Nat} (hid : (r, i) ∈ ids) {ci : Nat} {fs : List Value} (he : cellOf X m r i = .inr (ci, fs)) {Cn : String} {T : u_T} {N : Nat} (hc : classes[ci]? = some (Cn, T, N)) (hin : ∀ w ∈ u_ws Cn T N, w ∈ bigW) (ty0 : Nat → FieldType) (hty : ∀ k, k < N → parseFieldDescriptor (T k).2.2.1 = some (ty0 k)) (hnm : ∀ a, a < N → ∀ b, b < N → a ≠ b → (T a).2.1 ≠ (T b).2.1) {k : Nat} (hk : k < N) {idx : Nat} (hl : (.fieldLink own idx (T k).1 (T k).2.1 (T k).2.2.1 : Cond) ∈ bigW) (hfin : (T k).2.2.2 = false) {x : Int32} (hn : narrow (ty0 k) (.int x) = .int x) (hfit : fits (ty0 k) (.int x) = true) (hkl : k < fs.length) {a : Nat} (hm : m1 = upd m a x) (h1 : lo r i ≤ a) (h2 : a < hi r i) (he1 : cellOf X m1 r i = .inr (ci, fs.set k (.int x))) (hd : decode cc pc = .ok (.putfield idx, 3))
    (kk : ∀ (H1 : Heap) (locs1 : List Loc), Wd X s m1 H1 locs1 → W p l e R s mi args below meth c H1 locs1 cells slots Q (F0 mi (pc + 3) ls rest)) : W p l e R s mi args below meth c H locs cells slots Q (F0 mi pc ls (.int x :: .ref (ad X r i) :: rest)) := by
  obtain ⟨q, hq0, hq⟩ := at_ids (X := X) (m := m) hid
  rw [he] at hq
  refine va_put (ty := ty0 k) C.1 C.2.1 C.2.2.2.2.1 hin ty0 hty hnm C.2.2.2.1 C.2.2.2.2.2.1.1 hW.1 (wcells_D C.2.2.2.2.2.2.2) hW.2 q hq hc k hk (C.2.2.2.2.1 _ hl) (fun _ h => h) hfin (hty k hk) hn hfit hkl hd (fun H1 locs1 hP _ hS => kk H1 locs1 ⟨?_, hS⟩)
  rw [wcells_set (m1 := m1) hq0 he1 (fun b hb hne => by rw [hm]; exact cell_out hid hb hne h1 h2)] at hP
  exact hP
theorem inb_lt {x : Int32} {n : Nat} (h : vp_in x n) : x.toNatClampNeg < n := by
  rcases Nat.lt_or_ge x.toNatClampNeg n with q | q
  · exact q
  · exact absurd (Or.inr q) h
/-- iaload, baload, caload -/
theorem zr_iald (C : Cx X p s mi args c own cc nL) (hW : Wd X s m H locs) {r i b n : Nat} (hid : (r, i) ∈ ids) (he : cellOf X m r i = aI X m 0 b n) {x : Int32} (hx : vp_in x n) (hd : decode cc pc = .ok (.iaload, 1))
    (kk : W p l e R s mi args below meth c H locs cells slots Q (F0 mi (pc + 1) ls (.int (m (b + x.toNatClampNeg)) :: rest))) : W p l e R s mi args below meth c H locs cells slots Q (F0 mi pc ls (.int x :: .ref (ad X r i) :: rest)) := by
  obtain ⟨q, -, hq⟩ := at_ids (X := X) (m := m) hid
  rw [he] at hq
  refine va_iald C.1 C.2.1 C.2.2.2.2.2.1.1 hW.1 q 0 hq rfl hx hd ?_
  rw [if_pos (inb_lt hx)]
  exact kk
theorem zr_zald (C : Cx X p s mi args c own cc nL) (hW : Wd X s m H locs) {r i b n : Nat} (hid : (r, i) ∈ ids) (he : cellOf X m r i = aI X m 2 b n) {x : Int32} (hx : vp_in x n) (hd : decode cc pc = .ok (.baload, 1))
    (kk : W p l e R s mi args below meth c H locs cells slots Q (F0 mi (pc + 1) ls (.int (m (b + x.toNatClampNeg)) :: rest))) : W p l e R s mi args below meth c H locs cells slots Q (F0 mi pc ls (.int x :: .ref (ad X r i) :: rest)) := by
  obtain ⟨q, -, hq⟩ := at_ids (X := X) (m := m) hid
  rw [he] at hq
  refine va_zald C.1 C.2.1 C.2.2.2.2.2.1.1 hW.1 q 2 hq rfl hx hd ?_
  rw [if_pos (inb_lt hx)]
  exact kk
theorem zr_cald (C : Cx X p s mi args c own cc nL) (hW : Wd X s m H locs) {r i b n : Nat} (hid : (r, i) ∈ ids) (he : cellOf X m r i = aI X m 3 b n) {x : Int32} (hx : vp_in x n) (hd : decode cc pc = .ok (.caload, 1))
    (kk : W p l e R s mi args below meth c H locs cells slots Q (F0 mi (pc + 1) ls (.int (m (b + x.toNatClampNeg)) :: rest))) : W p l e R s mi args below meth c H locs cells slots Q (F0 mi pc ls (.int x :: .ref (ad X r i) :: rest)) := by
  obtain ⟨q, -, hq⟩ := at_ids (X := X) (m := m) hid
  rw [he] at hq
  refine va_cald C.1 C.2.1 C.2.2.2.2.2.1.1 hW.1 q 3 hq rfl hx hd ?_
  rw [if_pos (inb_lt hx)]
  exact kk
theorem zr_lald (C : Cx X p s mi args c own cc nL) (hW : Wd X s m H locs) {r i b n : Nat} (hid : (r, i) ∈ ids) (he : cellOf X m r i = aL X m b n) {x : Int32} (hx : vp_in x n) (hd : decode cc pc = .ok (.laload, 1))
    (kk : W p l e R s mi args below meth c H locs cells slots Q (F0 mi (pc + 1) ls (.long (comb (m (b + 2 * x.toNatClampNeg)) (m (b + 2 * x.toNatClampNeg + 1))) :: rest))) : W p l e R s mi args below meth c H locs cells slots Q (F0 mi pc ls (.int x :: .ref (ad X r i) :: rest)) := by
  obtain ⟨q, -, hq⟩ := at_ids (X := X) (m := m) hid
  rw [he] at hq
  refine va_lald C.1 C.2.1 C.2.2.2.2.2.1.1 hW.1 q 1 hq rfl hx hd ?_
  rw [if_pos (inb_lt hx)]
  exact kk
/-- aaload -/
theorem zr_aald (C : Cx X p s mi args c own cc nL) (hW : Wd X s m H locs) {r i k n er : Nat} {g : Nat → Nat} (hid : (r, i) ∈ ids) (he : cellOf X m r i = aR X k n er g) {Cn : String} (ht : (tysA X)[k]? = some (cA X k, .object Cn)) {x : Int32} (hx : vp_in x n) (hd : decode cc pc = .ok (.aaload, 1))
    (kk : W p l e R s mi args below meth c H locs cells slots Q (F0 mi (pc + 1) ls (.ref (ad X er (g x.toNatClampNeg)) :: rest))) : W p l e R s mi args below meth c H locs cells slots Q (F0 mi pc ls (.int x :: .ref (ad X r i) :: rest)) := by
  obtain ⟨q, -, hq⟩ := at_ids (X := X) (m := m) hid
  rw [he] at hq
  exact va_aldq C.1 C.2.1 C.2.2.2.2.2.1.1 hW.1 q k hq ht hx hd kk
theorem aI_upd {c b n k : Nat} {x : Int32} (hk : k < n) : aI X (upd m (b + k) x) c b n = .inl (cA X c, n, .inl (upd (fun j => if j < n then m (b + j) else 0) k x)) := by
  have e : (fun j => if j < n then upd m (b + k) x (b + j) else 0) = upd (fun j => if j < n then m (b + j) else 0) k x := by
    funext j
    unfold upd
    by_cases hj : j = k
    · subst hj; simp [hk]
    · simp [hj]
  unfold aI
  rw [e]
theorem aI_lohi {r i c b n k : Nat} (hk : k < n) (hl : lo r i = b) (hh : hi r i = b + n) : lo r i ≤ b + k ∧ b + k < hi r i := by omega
/-- iastore -/
theorem zr_iast (C : Cx X p s mi args c own cc nL) (hW : Wd X s m H locs) {r i b n : Nat} (hid : (r, i) ∈ ids) (he : ∀ m : Mem, cellOf X m r i = aI X m 0 b n) (hl : lo r i = b) (hh : hi r i = b + n) {x y : Int32} (hx : vp_in x n) (hm : m1 = upd m (b + x.toNatClampNeg) y) (hd : decode cc pc = .ok (.iastore, 1))
    (kk : ∀ (H1 : Heap) (locs1 : List Loc), Wd X s m1 H1 locs1 → W p l e R s mi args below meth c H1 locs1 cells slots Q (F0 mi (pc + 1) ls rest)) : W p l e R s mi args below meth c H locs cells slots Q (F0 mi pc ls (.int y :: .int x :: .ref (ad X r i) :: rest)) := by
  obtain ⟨q, hq0, hq⟩ := at_ids (X := X) (m := m) hid
  rw [he] at hq
  have hlt := inb_lt hx
  refine va_iast C.1 C.2.1 C.2.2.2.2.2.1.1 hW.1 (wcells_D C.2.2.2.2.2.2.2) hW.2 q 0 hq rfl hx hd (fun H1 locs1 hP _ hS => kk H1 locs1 ⟨?_, hS⟩)
  have hb := aI_lohi (c := 0) hlt hl hh
  rw [wcells_set (m1 := m1) hq0 (by rw [he, hm, aI_upd hlt]) (fun z hz hne => by rw [hm]; exact cell_out hid hz hne hb.1 hb.2)] at hP
  exact hP
theorem zr_zast (C : Cx X p s mi args c own cc nL) (hW : Wd X s m H locs) {r i b n : Nat} (hid : (r, i) ∈ ids) (he : ∀ m : Mem, cellOf X m r i = aI X m 2 b n) (hl : lo r i = b) (hh : hi r i = b + n) {x y : Int32} (hx : vp_in x n) (hm : m1 = upd m (b + x.toNatClampNeg) (vp_nar .boolean y)) (hd : decode cc pc = .ok (.bastore, 1))
    (kk : ∀ (H1 : Heap) (locs1 : List Loc), Wd X s m1 H1 locs1 → W p l e R s mi args below meth c H1 locs1 cells slots Q (F0 mi (pc + 1) ls rest)) : W p l e R s mi args below meth c H locs cells slots Q (F0 mi pc ls (.int y :: .int x :: .ref (ad X r i) :: rest)) := by
  obtain ⟨q, hq0, hq⟩ := at_ids (X := X) (m := m) hid
  rw [he] at hq
  have hlt := inb_lt hx
  refine va_zast C.1 C.2.1 C.2.2.2.2.2.1.1 hW.1 (wcells_D C.2.2.2.2.2.2.2) hW.2 q 2 hq rfl hx hd (fun H1 locs1 hP _ hS => kk H1 locs1 ⟨?_, hS⟩)
  have hb := aI_lohi (c := 2) hlt hl hh
  rw [wcells_set (m1 := m1) hq0 (by rw [he, hm, aI_upd hlt]) (fun z hz hne => by rw [hm]; exact cell_out hid hz hne hb.1 hb.2)] at hP
  exact hP
/-- calls -/
theorem zr_recv (C : Cx X p s mi args c own cc nL) (hW : Wd X s m H locs) {r i : Nat} (hid : (r, i) ∈ ids) {ci : Nat} {fs : List Value} (he : cellOf X m r i = .inr (ci, fs)) {q : vw_C} (hc : classes[ci]? = some q) : ∃ cell : Cell, H[ad X r i]? = some cell ∧ cell.vm.isStatics = false ∧ s.vm.findClass q.1 = some cell.cls := by
  obtain ⟨k, -, hk⟩ := at_ids (X := X) (m := m) hid
  rw [he] at hk
  exact va_recv C.2.2.2.2.2.1.1 hW.1 hc hk
theorem zr_cVI (C : Cx X p s mi args c own cc nL) (hW : Wd X s m H locs) {y : MethodName} {bts : ByteArray} {mL k dz idx o : Nat} {ty : FieldType} {Cn : String} {As : List Value} {r1 : Int32} (hM : MetI X l y bts mL ty dz (.ref o :: As) m r1 m1) (hk : CalV y bts mL (some ty) Cn k) (hrecv : ∃ cell : Cell, H[o]? = some cell ∧ cell.vm.isStatics = false ∧ s.vm.findClass Cn = some cell.cls) (hl : (.methodLink own idx y : Cond) ∈ bigW) (hR : dz + 1 ≤ R.frames ∧ 8 + (mL + 11) + 38 * dz ≤ R.locals) (hcs : cells ≤ R.cells ∧ slots ≤ R.slots) (hn : As.length = k) (hls : ls.size = nL) {st : List Value} (hst : st = As.reverse ++ .ref o :: rest) (hr : (rest.map fun v => v.category).sum ≤ 8) (hd : decode cc pc = .ok (.invokevirtual idx, 3))
    (kk : ∀ (H1 : Heap) (locs1 : List Loc), Wd X s m1 H1 locs1 → W p l e R s mi args below meth c H1 locs1 cells slots Q (F0 mi (pc + 3) ls (.int r1 :: rest))) : W p l e R s mi args below meth c H locs cells slots Q (F0 mi pc ls st) := by
  have hG : GoodIn bigW (wsV own idx Cn y (wsM y bts mL (some ty))) := good_cons hl (good_cons hk.1 (good_cons hk.2.1 (good_cons hk.2.2.1 (good_cons hk.2.2.2.1 good_bigW))))
  have cw := cwV (R := R) k C.2.2.2.2.1 hG rfl (rm := rmD dz) (mc := 0) (ms := 0) rfl rfl hk.2.2.2.2 hR
  refine va_calli (va_runV (As := As) (rest := rest) ⟨C.1, C.2.1, C.2.2.1, C.2.2.2.1, C.2.2.2.2.1⟩ hM cw ⟨pre_blind, hrecv, fun U hU hw => ⟨rfl, Cx.pre C hW hU hw⟩⟩ rfl hn hls hst (lv_room hr) hd hcs) hW.2 (fun q _ h => h) (fun q h => h) (fun r u t H1 locs1 ht hvm hp hb hz hk1 hS => ?_)
  subst hp
  exact kk H1 locs1 ⟨by rw [ht] at hb; exact hb, hS⟩
theorem zr_cVV (C : Cx X p s mi args c own cc nL) (hW : Wd X s m H locs) {y : MethodName} {bts : ByteArray} {mL k dz idx o : Nat} {Cn : String} {As : List Value} (hM : MetV X l y bts mL dz (.ref o :: As) m m1) (hk : CalV y bts mL none Cn k) (hrecv : ∃ cell : Cell, H[o]? = some cell ∧ cell.vm.isStatics = false ∧ s.vm.findClass Cn = some cell.cls) (hl : (.methodLink own idx y : Cond) ∈ bigW) (hR : dz + 1 ≤ R.frames ∧ 8 + (mL + 11) + 38 * dz ≤ R.locals) (hcs : cells ≤ R.cells ∧ slots ≤ R.slots) (hn : As.length = k) (hls : ls.size = nL) {st : List Value} (hst : st = As.reverse ++ .ref o :: rest) (hr : (rest.map fun v => v.category).sum ≤ 8) (hd : decode cc pc = .ok (.invokevirtual idx, 3))
    (kk : ∀ (H1 : Heap) (locs1 : List Loc), Wd X s m1 H1 locs1 → W p l e R s mi args below meth c H1 locs1 cells slots Q (F0 mi (pc + 3) ls rest)) : W p l e R s mi args below meth c H locs cells slots Q (F0 mi pc ls st) := by
  have hG : GoodIn bigW (wsV own idx Cn y (wsM y bts mL none)) := good_cons hl (good_cons hk.1 (good_cons hk.2.1 (good_cons hk.2.2.1 (good_cons hk.2.2.2.1 good_bigW))))
  have cw := cwV (R := R) k C.2.2.2.2.1 hG rfl (rm := rmD dz) (mc := 0) (ms := 0) rfl rfl hk.2.2.2.2 hR
  refine va_callv (va_runV (As := As) (rest := rest) ⟨C.1, C.2.1, C.2.2.1, C.2.2.2.1, C.2.2.2.2.1⟩ hM cw ⟨pre_blind, hrecv, fun U hU hw => ⟨rfl, Cx.pre C hW hU hw⟩⟩ rfl hn hls hst (lv_room hr) hd hcs) hW.2 (fun q _ h => h) (fun q h => h) (fun u t H1 locs1 ht hvm hp hb hz hk1 hS => ?_)
  exact kk H1 locs1 ⟨by rw [ht] at hb; exact hb, hS⟩
theorem zr_cSI (C : Cx X p s mi args c own cc nL) (hW : Wd X s m H locs) {y : MethodName} {bts : ByteArray} {mL k dz idx : Nat} {ty : FieldType} {As : List Value} {r1 : Int32} (hM : MetI X l y bts mL ty dz As m r1 m1) (hk : CalS y bts mL (some ty) k) (hl : (.methodLink own idx y : Cond) ∈ bigW) (hR : dz + 1 ≤ R.frames ∧ 8 + (mL + 11) + 38 * dz ≤ R.locals) (hcs : cells ≤ R.cells ∧ slots ≤ R.slots) (hn : As.length = k) (hls : ls.size = nL) {st : List Value} (hst : st = As.reverse ++ rest) (hr : (rest.map fun v => v.category).sum ≤ 8) (hd : decode cc pc = .ok (.invokestatic idx, 3))
    (kk : ∀ (H1 : Heap) (locs1 : List Loc), Wd X s m1 H1 locs1 → W p l e R s mi args below meth c H1 locs1 cells slots Q (F0 mi (pc + 3) ls (.int r1 :: rest))) : W p l e R s mi args below meth c H locs cells slots Q (F0 mi pc ls st) := by
  have hG : GoodIn bigW (va_wsS own idx y (wsM y bts mL (some ty))) := good_cons hl (good_cons hk.1 (good_cons hk.2.1 (good_cons hk.2.2.1 good_bigW)))
  have cw := va_cwS (R := R) k C.2.2.2.2.1 hG rfl (rm := rmD dz) (mc := 0) (ms := 0) rfl rfl hk.2.2.2 hR
  refine va_calli (va_runS (As := As) (rest := rest) ⟨C.1, C.2.1, C.2.2.1, C.2.2.2.1, C.2.2.2.2.1⟩ hM cw ⟨pre_blind, fun U hU hw => ⟨rfl, Cx.pre C hW hU hw⟩⟩ rfl hn hls hst (lv_room hr) hd hcs) hW.2 (fun q _ h => h) (fun q h => h) (fun r u t H1 locs1 ht hvm hp hb hz hk1 hS => ?_)
  subst hp
  exact kk H1 locs1 ⟨by rw [ht] at hb; exact hb, hS⟩
theorem zr_cSV (C : Cx X p s mi args c own cc nL) (hW : Wd X s m H locs) {y : MethodName} {bts : ByteArray} {mL k dz idx : Nat} {As : List Value} (hM : MetV X l y bts mL dz As m m1) (hk : CalS y bts mL none k) (hl : (.methodLink own idx y : Cond) ∈ bigW) (hR : dz + 1 ≤ R.frames ∧ 8 + (mL + 11) + 38 * dz ≤ R.locals) (hcs : cells ≤ R.cells ∧ slots ≤ R.slots) (hn : As.length = k) (hls : ls.size = nL) {st : List Value} (hst : st = As.reverse ++ rest) (hr : (rest.map fun v => v.category).sum ≤ 8) (hd : decode cc pc = .ok (.invokestatic idx, 3))
    (kk : ∀ (H1 : Heap) (locs1 : List Loc), Wd X s m1 H1 locs1 → W p l e R s mi args below meth c H1 locs1 cells slots Q (F0 mi (pc + 3) ls rest)) : W p l e R s mi args below meth c H locs cells slots Q (F0 mi pc ls st) := by
  have hG : GoodIn bigW (va_wsS own idx y (wsM y bts mL none)) := good_cons hl (good_cons hk.1 (good_cons hk.2.1 (good_cons hk.2.2.1 good_bigW)))
  have cw := va_cwS (R := R) k C.2.2.2.2.1 hG rfl (rm := rmD dz) (mc := 0) (ms := 0) rfl rfl hk.2.2.2 hR
  refine va_callv (va_runS (As := As) (rest := rest) ⟨C.1, C.2.1, C.2.2.1, C.2.2.2.1, C.2.2.2.2.1⟩ hM cw ⟨pre_blind, fun U hU hw => ⟨rfl, Cx.pre C hW hU hw⟩⟩ rfl hn hls hst (lv_room hr) hd hcs) hW.2 (fun q _ h => h) (fun q h => h) (fun u t H1 locs1 ht hvm hp hb hz hk1 hS => ?_)
  exact kk H1 locs1 ⟨by rw [ht] at hb; exact hb, hS⟩
/-- a private static method of a nest mate -/
theorem zr_cNI (C : Cx X p s mi args c own cc nL) (hW : Wd X s m H locs) {y : MethodName} {bts : ByteArray} {mL k dz idx : Nat} {ty : FieldType} {As : List Value} {r1 : Int32} {host : String} (hM : MetI X l y bts mL ty dz As m r1 m1) (hk : CalS y bts mL (some ty) k) (hl : va_Nw (.methodLinkNest own idx y host) s) (hR : dz + 1 ≤ R.frames ∧ 8 + (mL + 11) + 38 * dz ≤ R.locals) (hcs : cells ≤ R.cells ∧ slots ≤ R.slots) (hn : As.length = k) (hls : ls.size = nL) {st : List Value} (hst : st = As.reverse ++ rest) (hr : (rest.map fun v => v.category).sum ≤ 8) (hd : decode cc pc = .ok (.invokestatic idx, 3))
    (kk : ∀ (H1 : Heap) (locs1 : List Loc), Wd X s m1 H1 locs1 → W p l e R s mi args below meth c H1 locs1 cells slots Q (F0 mi (pc + 3) ls (.int r1 :: rest))) : W p l e R s mi args below meth c H locs cells slots Q (F0 mi pc ls st) := by
  have hG : GoodIn bigW (wsM y bts mL (some ty)) := good_cons hk.2.2.1 good_bigW
  have cw := va_cnB (R := R) k C.2.2.2.2.1 hG rfl (rm := rmD dz) (mc := 0) (ms := 0) rfl rfl hl (C.2.2.2.2.1 _ hk.2.1) hk.2.2.2 hR
  refine va_calli (va_runSN (As := As) (rest := rest) ⟨C.1, C.2.1, C.2.2.1, C.2.2.2.1, C.2.2.2.2.1⟩ hM ⟨cw, C.2.2.2.2.1 _ hk.1, trivial⟩ ⟨pre_blind, fun U hU hw => ⟨rfl, Cx.pre C hW hU hw⟩⟩ rfl hn hls hst (lv_room hr) hd hcs) hW.2 (fun q _ h => h) (fun q h => h) (fun r u t H1 locs1 ht hvm hp hb hz hk1 hS => ?_)
  subst hp
  exact kk H1 locs1 ⟨by rw [ht] at hb; exact hb, hS⟩
end ROWS
end
section
/-! COMBINATORS of the pure functions -/
def seqM {α β : Type} (v : α) (b : α → β) : β := b v
def chk {β : Type} (b : Bool) (k : Option β) : Option β := match b with
  | true => k
  | false => none
def doI {β : Type} (o : Option (Int32 × Mem)) (b : Int32 → Mem → Option β) : Option β := match o with
  | none => none
  | some q => b q.1 q.2
def doV {β : Type} (o : Option Mem) (b : Mem → Option β) : Option β := match o with
  | none => none
  | some q => b q
def inb (x : Int32) (n : Nat) : Bool := decide (¬ (x < 0 ∨ n ≤ x.toNatClampNeg))
def isB (x : Int32) : Bool := decide (x = 0 ∨ x = 1)
def nz (x : Int32) : Bool := decide (¬ x = 0)
theorem seqM_E {α β : Type} {v : α} {b : α → β} {q : β} (h : seqM v b = q) : ∃ x, x = v ∧ b x = q := ⟨v, rfl, h⟩
theorem chk_E {β : Type} {b : Bool} {k : Option β} {q : β} (h : chk b k = some q) : b = true ∧ k = some q := by
  cases b with
  | true => exact ⟨rfl, h⟩
  | false => cases h
theorem doI_E {β : Type} {o : Option (Int32 × Mem)} {b : Int32 → Mem → Option β} {q : β} (h : doI o b = some q) : ∃ r1 m1, o = some (r1, m1) ∧ b r1 m1 = some q := by
  cases o with
  | none => cases h
  | some z => exact ⟨z.1, z.2, rfl, h⟩
theorem doV_E {β : Type} {o : Option Mem} {b : Mem → Option β} {q : β} (h : doV o b = some q) : ∃ m1, o = some m1 ∧ b m1 = some q := by
  cases o with
  | none => cases h
  | some z => exact ⟨z, rfl, h⟩
theorem inb_E {x : Int32} {n : Nat} (h : inb x n = true) : vp_in x n := of_decide_eq_true (p := ¬ (x < 0 ∨ n ≤ x.toNatClampNeg)) h
theorem isB_E {x : Int32} (h : isB x = true) : x = 0 ∨ x = 1 := of_decide_eq_true h
theorem nz_E {x : Int32} (h : nz x = true) : ¬ x = 0 := of_decide_eq_true h
theorem ite_t {α : Type} {P : Prop} {d : Decidable P} {a b q : α} (hc : P) (h : (if P then a else b) = q) : a = q := by rw [if_pos hc] at h; exact h
theorem ite_f {α : Type} {P : Prop} {d : Decidable P} {a b q : α} (hc : ¬ P) (h : (if P then a else b) = q) : b = q := by rw [if_neg hc] at h; exact h
theorem nar_B {x : Int32} (h : x = 0 ∨ x = 1) : narrow .boolean (.int x) = .int x := by rcases h with rfl | rfl <;> rfl
theorem fit_B {x : Int32} (h : x = 0 ∨ x = 1) : fits .boolean (.int x) = true := by rcases h with rfl | rfl <;> rfl
theorem ne_k {x c : Int32} (k : Int) (hk : c.toInt = k) (h : ¬ x = c) : x.toInt ≠ k := fun z => h (Int32.toInt_inj.mp (z.trans hk.symm))
def RetI (X : TX) (p : Program) (l : Launch) (e : Env) (R : Room) (s : State) (mi : MethodId) (args : Array Value) (below : List Frame) (meth : Method) (c : Code) (cc : ByteArray) (ty : FieldType) (Q : State → Prop) (r : Int32) (mE : Mem) : Prop :=
  ∀ (pc : Nat) (ls : Array Slot) (H : Heap) (locs : List Loc), narrow ty (.int r) = .int r → Wd X s mE H locs → decode cc pc = .ok (.ireturn, 1) → W p l e R s mi args below meth c H locs 0 0 Q (F0 mi pc ls [.int r])
def RetV (X : TX) (p : Program) (l : Launch) (e : Env) (R : Room) (s : State) (mi : MethodId) (args : Array Value) (below : List Frame) (meth : Method) (c : Code) (cc : ByteArray) (Q : State → Prop) (mE : Mem) : Prop :=
  ∀ (pc : Nat) (ls : Array Slot) (H : Heap) (locs : List Loc), Wd X s mE H locs → decode cc pc = .ok (.return_, 1) → W p l e R s mi args below meth c H locs 0 0 Q (F0 mi pc ls [])
section FRAMES
variable {X : TX} {p : Program} {l : Launch} {e : Env} {R : Room} {s : State} {mi : MethodId} {args : Array Value} {below : List Frame} {meth : Method} {c : Code} {own : String} {cc : ByteArray} {nL : Nat} {m m1 : Mem} {H : Heap} {locs : List Loc} {cells slots : Nat} {Q : State → Prop} {pc : Nat} {ls : Array Slot} {rest : List Value}
theorem ret_i {ty : FieldType} {r x : Int32} {mE : Mem} (h : some (x, m) = some (r, mE)) (hq : RetI X p l e R s mi args below meth c cc ty Q r mE) (hn : narrow ty (.int x) = .int x) (hW : Wd X s m H locs) (hd : decode cc pc = .ok (.ireturn, 1)) : W p l e R s mi args below meth c H locs 0 0 Q (F0 mi pc ls [.int x]) := by
  cases h
  exact hq pc ls H locs hn hW hd
theorem ret_v {mE : Mem} (h : some m = some mE) (hq : RetV X p l e R s mi args below meth c cc Q mE) (hW : Wd X s m H locs) (hd : decode cc pc = .ok (.return_, 1)) : W p l e R s mi args below meth c H locs 0 0 Q (F0 mi pc ls []) := by
  cases h
  exact hq pc ls H locs hW hd
theorem lv_name {x y : Int32} (e0 : y = x) (k : W p l e R s mi args below meth c H locs cells slots Q (F0 mi pc ls (.int y :: rest))) : W p l e R s mi args below meth c H locs cells slots Q (F0 mi pc ls (.int x :: rest)) := e0 ▸ k
theorem lv_nameJ {x y : Int64} (e0 : y = x) (k : W p l e R s mi args below meth c H locs cells slots Q (F0 mi pc ls (.long y :: rest))) : W p l e R s mi args below meth c H locs cells slots Q (F0 mi pc ls (.long x :: rest)) := e0 ▸ k
end FRAMES
theorem met_I {X : TX} {l : Launch} {y : MethodName} {cc : ByteArray} {nL d : Nat} {ty : FieldType} {av : List Value} {m mE : Mem} {r : Int32} (hy : plainName y.cls = true) (hn : (lg_sl av).length ≤ nL)
    (body : ∀ (p : Program) (e : Env) (s : State) (mi : MethodId) (args : Array Value) (below : List Frame) (meth : Method) (c : Code) (ls : Array Slot) (Q : State → Prop), Cx X p s mi args c y.cls cc nL → RetI X p l e (rmD d) s mi args below meth c cc ty Q r mE → Wd X s m s.heap [] → lv_has ls nL (lv_args 0 av) → W p l e (rmD d) s mi args below meth c s.heap [] 0 0 Q (F0 mi 0 ls [])) : MetI X l y cc nL ty d av m r mE := by
  refine Met.ofW (cc := cc) (maxL := nL) (ret := some ty) hy rfl ?_
  intro p e s mi args below meth c s₁ B hml hv
  obtain ⟨rfl, hP, hK, hS, hI⟩ := hv
  have hts := atoms_spec (ws := wsM y cc nL (some ty)) B.pre
  have hlocks := B.notSynchronized
  have hr := B.returns
  have C : Cx X p s mi av.toArray c y.cls cc nL := ⟨B.exec, B.bytes, hml, findClass_of_methodNamed B.named, fun w hw => hts w (List.mem_cons_of_mem _ hw), hK, hS, hI⟩
  have hl := lv_entry av hn
  rw [lg_entry_eq]
  refine body p e s mi av.toArray below meth c _ _ C ?_ ⟨hP, va_S.rf⟩ hl
  intro pc ls H locs hnar hW hd
  exact W.zret C.1 C.2.1 hr hnar (fun t ht hw => ⟨⟨r, (), rfl, rfl, (show va_P (aD X) classes (wcells X mE) t.heap by rw [ht]; exact hW.1)⟩, hW.2.F ht⟩) hW.2.2.2 hd
theorem met_V {X : TX} {l : Launch} {y : MethodName} {cc : ByteArray} {nL d : Nat} {av : List Value} {m mE : Mem} (hy : plainName y.cls = true) (hn : (lg_sl av).length ≤ nL)
    (body : ∀ (p : Program) (e : Env) (s : State) (mi : MethodId) (args : Array Value) (below : List Frame) (meth : Method) (c : Code) (ls : Array Slot) (Q : State → Prop), Cx X p s mi args c y.cls cc nL → RetV X p l e (rmD d) s mi args below meth c cc Q mE → Wd X s m s.heap [] → lv_has ls nL (lv_args 0 av) → W p l e (rmD d) s mi args below meth c s.heap [] 0 0 Q (F0 mi 0 ls [])) : MetV X l y cc nL d av m mE := by
  refine Met.ofW (cc := cc) (maxL := nL) (ret := none) hy rfl ?_
  intro p e s mi args below meth c s₁ B hml hv
  obtain ⟨rfl, hP, hK, hS, hI⟩ := hv
  have hts := atoms_spec (ws := wsM y cc nL none) B.pre
  have hlocks := B.notSynchronized
  have hr := B.returns
  have C : Cx X p s mi av.toArray c y.cls cc nL := ⟨B.exec, B.bytes, hml, findClass_of_methodNamed B.named, fun w hw => hts w (List.mem_cons_of_mem _ hw), hK, hS, hI⟩
  have hl := lv_entry av hn
  rw [lg_entry_eq]
  refine body p e s mi av.toArray below meth c _ _ C ?_ ⟨hP, va_S.rf⟩ hl
  intro pc ls H locs hW hd
  exact W.vret C.1 C.2.1 hr (fun t ht hw => ⟨⟨(), rfl, trivial, (show va_P (aD X) classes (wcells X mE) t.heap by rw [ht]; exact hW.1)⟩, hW.2.F ht⟩) hW.2.2.2 hd
theorem iX0 : ∀ w ∈ u_ws RX0 TX0 2, w ∈ bigW := List.forall_mem_cons.mpr ⟨w_308, List.forall_mem_cons.mpr ⟨w_310, fun _ h => absurd h List.not_mem_nil⟩⟩
theorem iX1 : ∀ w ∈ u_ws RX1 TX1 12, w ∈ bigW := List.forall_mem_cons.mpr ⟨w_150, List.forall_mem_cons.mpr ⟨w_152, List.forall_mem_cons.mpr ⟨w_154, List.forall_mem_cons.mpr ⟨w_156, List.forall_mem_cons.mpr ⟨w_158, List.forall_mem_cons.mpr ⟨w_160, List.forall_mem_cons.mpr ⟨w_162, List.forall_mem_cons.mpr ⟨w_164, List.forall_mem_cons.mpr ⟨w_166, List.forall_mem_cons.mpr ⟨w_168, List.forall_mem_cons.mpr ⟨w_170, List.forall_mem_cons.mpr ⟨w_172, fun _ h => absurd h List.not_mem_nil⟩⟩⟩⟩⟩⟩⟩⟩⟩⟩⟩⟩
theorem iX2 : ∀ w ∈ u_ws RX2 TX2 3, w ∈ bigW := List.forall_mem_cons.mpr ⟨w_326, List.forall_mem_cons.mpr ⟨w_328, List.forall_mem_cons.mpr ⟨w_330, fun _ h => absurd h List.not_mem_nil⟩⟩⟩
theorem iX3 : ∀ w ∈ u_ws RX3 TX3 4, w ∈ bigW := List.forall_mem_cons.mpr ⟨w_351, List.forall_mem_cons.mpr ⟨w_353, List.forall_mem_cons.mpr ⟨w_355, List.forall_mem_cons.mpr ⟨w_357, fun _ h => absurd h List.not_mem_nil⟩⟩⟩⟩
theorem iX4 : ∀ w ∈ u_ws RX4 TX4 19, w ∈ bigW := List.forall_mem_cons.mpr ⟨w_261, List.forall_mem_cons.mpr ⟨w_263, List.forall_mem_cons.mpr ⟨w_265, List.forall_mem_cons.mpr ⟨w_267, List.forall_mem_cons.mpr ⟨w_269, List.forall_mem_cons.mpr ⟨w_271, List.forall_mem_cons.mpr ⟨w_273, List.forall_mem_cons.mpr ⟨w_275, List.forall_mem_cons.mpr ⟨w_277, List.forall_mem_cons.mpr ⟨w_279, List.forall_mem_cons.mpr ⟨w_281, List.forall_mem_cons.mpr ⟨w_283, List.forall_mem_cons.mpr ⟨w_285, List.forall_mem_cons.mpr ⟨w_287, List.forall_mem_cons.mpr ⟨w_289, List.forall_mem_cons.mpr ⟨w_291, List.forall_mem_cons.mpr ⟨w_293, List.forall_mem_cons.mpr ⟨w_295, List.forall_mem_cons.mpr ⟨w_297, fun _ h => absurd h List.not_mem_nil⟩⟩⟩⟩⟩⟩⟩⟩⟩⟩⟩⟩⟩⟩⟩⟩⟩⟩⟩
theorem iX5 : ∀ w ∈ u_ws RX5 TX5 4, w ∈ bigW := List.forall_mem_cons.mpr ⟨w_110, List.forall_mem_cons.mpr ⟨w_112, List.forall_mem_cons.mpr ⟨w_114, List.forall_mem_cons.mpr ⟨w_116, fun _ h => absurd h List.not_mem_nil⟩⟩⟩⟩
theorem iX6 : ∀ w ∈ u_ws RX6 TX6 2, w ∈ bigW := List.forall_mem_cons.mpr ⟨w_123, List.forall_mem_cons.mpr ⟨w_125, fun _ h => absurd h List.not_mem_nil⟩⟩
theorem iX7 : ∀ w ∈ u_ws RX7 TX7 7, w ∈ bigW := List.forall_mem_cons.mpr ⟨w_209, List.forall_mem_cons.mpr ⟨w_211, List.forall_mem_cons.mpr ⟨w_213, List.forall_mem_cons.mpr ⟨w_215, List.forall_mem_cons.mpr ⟨w_217, List.forall_mem_cons.mpr ⟨w_219, List.forall_mem_cons.mpr ⟨w_221, fun _ h => absurd h List.not_mem_nil⟩⟩⟩⟩⟩⟩⟩
theorem iX8 : ∀ w ∈ u_ws RX8 TX8 11, w ∈ bigW := List.forall_mem_cons.mpr ⟨w_371, List.forall_mem_cons.mpr ⟨w_373, List.forall_mem_cons.mpr ⟨w_375, List.forall_mem_cons.mpr ⟨w_377, List.forall_mem_cons.mpr ⟨w_379, List.forall_mem_cons.mpr ⟨w_381, List.forall_mem_cons.mpr ⟨w_383, List.forall_mem_cons.mpr ⟨w_385, List.forall_mem_cons.mpr ⟨w_387, List.forall_mem_cons.mpr ⟨w_389, List.forall_mem_cons.mpr ⟨w_391, fun _ h => absurd h List.not_mem_nil⟩⟩⟩⟩⟩⟩⟩⟩⟩⟩⟩
theorem iX9 : ∀ w ∈ u_ws RX9 TX9 35, w ∈ bigW := List.forall_mem_cons.mpr ⟨w_1039, List.forall_mem_cons.mpr ⟨w_1041, List.forall_mem_cons.mpr ⟨w_1043, List.forall_mem_cons.mpr ⟨w_1045, List.forall_mem_cons.mpr ⟨w_1047, List.forall_mem_cons.mpr ⟨w_1049, List.forall_mem_cons.mpr ⟨w_1051, List.forall_mem_cons.mpr ⟨w_1053, List.forall_mem_cons.mpr ⟨w_1055, List.forall_mem_cons.mpr ⟨w_1057, List.forall_mem_cons.mpr ⟨w_1059, List.forall_mem_cons.mpr ⟨w_1061, List.forall_mem_cons.mpr ⟨w_1063, List.forall_mem_cons.mpr ⟨w_1065, List.forall_mem_cons.mpr ⟨w_1067, List.forall_mem_cons.mpr ⟨w_1069, List.forall_mem_cons.mpr ⟨w_1071, List.forall_mem_cons.mpr ⟨w_1073, List.forall_mem_cons.mpr ⟨w_1075, List.forall_mem_cons.mpr ⟨w_1077, List.forall_mem_cons.mpr ⟨w_1079, List.forall_mem_cons.mpr ⟨w_1081, List.forall_mem_cons.mpr ⟨w_1083, List.forall_mem_cons.mpr ⟨w_1085, List.forall_mem_cons.mpr ⟨w_1087, List.forall_mem_cons.mpr ⟨w_1089, List.forall_mem_cons.mpr ⟨w_1091, List.forall_mem_cons.mpr ⟨w_1093, List.forall_mem_cons.mpr ⟨w_1095, List.forall_mem_cons.mpr ⟨w_1097, List.forall_mem_cons.mpr ⟨w_1099, List.forall_mem_cons.mpr ⟨w_1101, List.forall_mem_cons.mpr ⟨w_1103, List.forall_mem_cons.mpr ⟨w_1105, List.forall_mem_cons.mpr ⟨w_1107, fun _ h => absurd h List.not_mem_nil⟩⟩⟩⟩⟩⟩⟩⟩⟩⟩⟩⟩⟩⟩⟩⟩⟩⟩⟩⟩⟩⟩⟩⟩⟩⟩⟩⟩⟩⟩⟩⟩⟩⟩⟩
theorem id_0 : (0, 0) ∈ ids := by decide +kernel
theorem id_1 : (1, 0) ∈ ids := by decide +kernel
theorem id_2 : (2, 0) ∈ ids := by decide +kernel
theorem id_5 : (5, 0) ∈ ids := by decide +kernel
theorem id_6 : (6, 0) ∈ ids := by decide +kernel
theorem id_7 : (7, 0) ∈ ids := by decide +kernel
theorem id_8 : (8, 0) ∈ ids := by decide +kernel
theorem id_13 : (13, 0) ∈ ids := by decide +kernel
theorem id_14 : (14, 0) ∈ ids := by decide +kernel
theorem id_17 : (17, 0) ∈ ids := by decide +kernel
theorem id_19 : (19, 0) ∈ ids := by decide +kernel
theorem id_20 : (20, 0) ∈ ids := by decide +kernel
theorem id_22 : (22, 0) ∈ ids := by decide +kernel
theorem id_23 : (23, 0) ∈ ids := by decide +kernel
theorem id_24 : (24, 0) ∈ ids := by decide +kernel
theorem id_25 : (25, 0) ∈ ids := by decide +kernel
theorem id_26 : (26, 0) ∈ ids := by decide +kernel
theorem id_27 : (27, 0) ∈ ids := by decide +kernel
theorem id_28 : (28, 0) ∈ ids := by decide +kernel
theorem id_29 : (29, 0) ∈ ids := by decide +kernel
theorem id_30 : (30, 0) ∈ ids := by decide +kernel
theorem id_31 : (31, 0) ∈ ids := by decide +kernel
theorem id_32 : (32, 0) ∈ ids := by decide +kernel
theorem id_33 : (33, 0) ∈ ids := by decide +kernel
theorem id_34 : (34, 0) ∈ ids := by decide +kernel
theorem id_35 : (35, 0) ∈ ids := by decide +kernel
theorem id_36 : (36, 0) ∈ ids := by decide +kernel
theorem id_37 : (37, 0) ∈ ids := by decide +kernel
theorem id_38 : (38, 0) ∈ ids := by decide +kernel
theorem id_39 : (39, 0) ∈ ids := by decide +kernel
theorem id_40 : (40, 0) ∈ ids := by decide +kernel
theorem id_9_0 : (9, 0) ∈ ids := by decide +kernel
theorem id_9_1 : (9, 1) ∈ ids := by decide +kernel
theorem id_9_2 : (9, 2) ∈ ids := by decide +kernel
theorem id_3_14 : (3, 14) ∈ ids := by decide +kernel
theorem id_21_0 : (21, 0) ∈ ids := by decide +kernel
theorem id_21_1 : (21, 1) ∈ ids := by decide +kernel
theorem id_21_2 : (21, 2) ∈ ids := by decide +kernel
theorem im_3_4 {i : Nat} (h : (3, i) ∈ ids) : (4, i) ∈ ids := (by decide +kernel : ∀ q ∈ ids, q.1 = 3 → (4, q.2) ∈ ids) (3, i) h rfl
theorem im_9_10 {i : Nat} (h : (9, i) ∈ ids) : (10, i) ∈ ids := (by decide +kernel : ∀ q ∈ ids, q.1 = 9 → (10, q.2) ∈ ids) (9, i) h rfl
theorem im_9_12 {i : Nat} (h : (9, i) ∈ ids) : (12, i) ∈ ids := (by decide +kernel : ∀ q ∈ ids, q.1 = 9 → (12, q.2) ∈ ids) (9, i) h rfl
theorem im_15_16 {i : Nat} (h : (15, i) ∈ ids) : (16, i) ∈ ids := (by decide +kernel : ∀ q ∈ ids, q.1 = 15 → (16, q.2) ∈ ids) (15, i) h rfl
theorem im_18_11 {i : Nat} (h : (18, i) ∈ ids) : (11, (30 + i)) ∈ ids := (by decide +kernel : ∀ q ∈ ids, q.1 = 18 → (11, (30 + q.2)) ∈ ids) (18, i) h rfl
theorem im_18_15 {i : Nat} (h : (18, i) ∈ ids) : (15, (4 + i)) ∈ ids := (by decide +kernel : ∀ q ∈ ids, q.1 = 18 → (15, (4 + q.2)) ∈ ids) (18, i) h rfl
theorem ia_10 {i : Nat} {x : Int32} (h : (10, i) ∈ ids) (hx : vp_in x 5) : (11, (10 * i + x.toNatClampNeg)) ∈ ids := (by decide +kernel : ∀ q ∈ ids, q.1 = 10 → ∀ k, k < 5 → (11, (10 * q.2 + k)) ∈ ids) (10, i) h rfl _ (inb_lt hx)
theorem ia_2 {x : Int32} (hx : vp_in x 14) : (3, x.toNatClampNeg) ∈ ids := (by decide +kernel : ∀ k, k < 14 → (3, k) ∈ ids) _ (inb_lt hx)
theorem ia_14 {x : Int32} (hx : vp_in x 4) : (15, x.toNatClampNeg) ∈ ids := (by decide +kernel : ∀ k, k < 4 → (15, k) ∈ ids) _ (inb_lt hx)
theorem ia_17 {x : Int32} (hx : vp_in x 5) : (18, x.toNatClampNeg) ∈ ids := (by decide +kernel : ∀ k, k < 5 → (18, k) ∈ ids) _ (inb_lt hx)
section FIELDS
variable {X : TX} {p : Program} {l : Launch} {e : Env} {R : Room} {s : State} {mi : MethodId} {args : Array Value} {below : List Frame} {meth : Method} {c : Code} {own : String} {cc : ByteArray} {nL : Nat} {m m1 : Mem} {H : Heap} {locs : List Loc} {cells slots : Nat} {Q : State → Prop} {pc : Nat} {ls : Array Slot} {rest : List Value}
theorem zg_X8_texts (C : Cx X p s mi args c own cc nL) (hW : Wd X s m H locs) (hid : (0, 0) ∈ ids) {idx : Nat} (hl : (.fieldLink own idx "DeadAir" "texts" "LDeadAir$Texts;" : Cond) ∈ bigW) (hd : decode cc pc = .ok (.getfield idx, 3)) (kk : W p l e R s mi args below meth c H locs cells slots Q (F0 mi (pc + 3) ls (.ref (ad X 1 0) :: rest))) : W p l e R s mi args below meth c H locs cells slots Q (F0 mi pc ls (.ref (ad X 0 0) :: rest)) := zr_get C hW hid zco_0 rfl iX8 (k := 0) (by decide) hl rfl hd kk
theorem zg_X8_reader (C : Cx X p s mi args c own cc nL) (hW : Wd X s m H locs) (hid : (0, 0) ∈ ids) {idx : Nat} (hl : (.fieldLink own idx "DeadAir" "reader" "LDeadAir$Reader;" : Cond) ∈ bigW) (hd : decode cc pc = .ok (.getfield idx, 3)) (kk : W p l e R s mi args below meth c H locs cells slots Q (F0 mi (pc + 3) ls (.ref (ad X 6 0) :: rest))) : W p l e R s mi args below meth c H locs cells slots Q (F0 mi pc ls (.ref (ad X 0 0) :: rest)) := zr_get C hW hid zco_0 rfl iX8 (k := 1) (by decide) hl rfl hd kk
theorem zg_X8_now (C : Cx X p s mi args c own cc nL) (hW : Wd X s m H locs) (hid : (0, 0) ∈ ids) {idx : Nat} (hl : (.fieldLink own idx "DeadAir" "now" "LDeadAir$Studio;" : Cond) ∈ bigW) (hd : decode cc pc = .ok (.getfield idx, 3)) (kk : W p l e R s mi args below meth c H locs cells slots Q (F0 mi (pc + 3) ls (.ref (ad X 9 0) :: rest))) : W p l e R s mi args below meth c H locs cells slots Q (F0 mi pc ls (.ref (ad X 0 0) :: rest)) := zr_get C hW hid zco_0 rfl iX8 (k := 2) (by decide) hl rfl hd kk
theorem zg_X8_thought (C : Cx X p s mi args c own cc nL) (hW : Wd X s m H locs) (hid : (0, 0) ∈ ids) {idx : Nat} (hl : (.fieldLink own idx "DeadAir" "thought" "LDeadAir$Studio;" : Cond) ∈ bigW) (hd : decode cc pc = .ok (.getfield idx, 3)) (kk : W p l e R s mi args below meth c H locs cells slots Q (F0 mi (pc + 3) ls (.ref (ad X 9 1) :: rest))) : W p l e R s mi args below meth c H locs cells slots Q (F0 mi pc ls (.ref (ad X 0 0) :: rest)) := zr_get C hW hid zco_0 rfl iX8 (k := 3) (by decide) hl rfl hd kk
theorem zg_X8_image (C : Cx X p s mi args c own cc nL) (hW : Wd X s m H locs) (hid : (0, 0) ∈ ids) {idx : Nat} (hl : (.fieldLink own idx "DeadAir" "image" "LDeadAir$Studio;" : Cond) ∈ bigW) (hd : decode cc pc = .ok (.getfield idx, 3)) (kk : W p l e R s mi args below meth c H locs cells slots Q (F0 mi (pc + 3) ls (.ref (ad X 9 2) :: rest))) : W p l e R s mi args below meth c H locs cells slots Q (F0 mi pc ls (.ref (ad X 0 0) :: rest)) := zr_get C hW hid zco_0 rfl iX8 (k := 4) (by decide) hl rfl hd kk
theorem zg_X8_imageKept (C : Cx X p s mi args c own cc nL) (hW : Wd X s m H locs) (hid : (0, 0) ∈ ids) {idx : Nat} (hl : (.fieldLink own idx "DeadAir" "imageKept" "Z" : Cond) ∈ bigW) (hd : decode cc pc = .ok (.getfield idx, 3)) (kk : W p l e R s mi args below meth c H locs cells slots Q (F0 mi (pc + 3) ls (.int (m 270) :: rest))) : W p l e R s mi args below meth c H locs cells slots Q (F0 mi pc ls (.ref (ad X 0 0) :: rest)) := zr_get C hW hid zco_0 rfl iX8 (k := 5) (by decide) hl rfl hd kk
theorem zp_X8_imageKept (C : Cx X p s mi args c own cc nL) (hW : Wd X s m H locs) (hid : (0, 0) ∈ ids) {idx : Nat} (hl : (.fieldLink own idx "DeadAir" "imageKept" "Z" : Cond) ∈ bigW) {x : Int32} (hB : x = 0 ∨ x = 1) (hm : m1 = upd m 270 x) (hd : decode cc pc = .ok (.putfield idx, 3)) (kk : ∀ (H1 : Heap) (locs1 : List Loc), Wd X s m1 H1 locs1 → W p l e R s mi args below meth c H1 locs1 cells slots Q (F0 mi (pc + 3) ls rest)) : W p l e R s mi args below meth c H locs cells slots Q (F0 mi pc ls (.int x :: .ref (ad X 0 0) :: rest)) := zr_put C hW hid zco_0 rfl iX8 tyX8 tyX8_ok nmX8 (k := 5) (by decide) hl rfl (nar_B hB) (fit_B hB) (Nat.le_of_ble_eq_true rfl) hm (by rw [lo_0]; (try simp only [sf, vf, hf, lf, tf]); omega) (by rw [hi_0]; (try simp only [sf, vf, hf, lf, tf]); omega) (by rw [hm, zco_0]; simp [zce_0, upd, sf, vf, hf, lf, tf]) hd kk
theorem zg_X8_best (C : Cx X p s mi args c own cc nL) (hW : Wd X s m H locs) (hid : (0, 0) ∈ ids) {idx : Nat} (hl : (.fieldLink own idx "DeadAir" "best" "LDeadAir$Best;" : Cond) ∈ bigW) (hd : decode cc pc = .ok (.getfield idx, 3)) (kk : W p l e R s mi args below meth c H locs cells slots Q (F0 mi (pc + 3) ls (.ref (ad X 13 0) :: rest))) : W p l e R s mi args below meth c H locs cells slots Q (F0 mi pc ls (.ref (ad X 0 0) :: rest)) := zr_get C hW hid zco_0 rfl iX8 (k := 6) (by decide) hl rfl hd kk
theorem zg_X8_sheets (C : Cx X p s mi args c own cc nL) (hW : Wd X s m H locs) (hid : (0, 0) ∈ ids) {idx : Nat} (hl : (.fieldLink own idx "DeadAir" "sheets" "[LDeadAir$Sheet;" : Cond) ∈ bigW) (hd : decode cc pc = .ok (.getfield idx, 3)) (kk : W p l e R s mi args below meth c H locs cells slots Q (F0 mi (pc + 3) ls (.ref (ad X 14 0) :: rest))) : W p l e R s mi args below meth c H locs cells slots Q (F0 mi pc ls (.ref (ad X 0 0) :: rest)) := zr_get C hW hid zco_0 rfl iX8 (k := 7) (by decide) hl rfl hd kk
theorem zg_X8_slots (C : Cx X p s mi args c own cc nL) (hW : Wd X s m H locs) (hid : (0, 0) ∈ ids) {idx : Nat} (hl : (.fieldLink own idx "DeadAir" "slots" "[LDeadAir$Slot;" : Cond) ∈ bigW) (hd : decode cc pc = .ok (.getfield idx, 3)) (kk : W p l e R s mi args below meth c H locs cells slots Q (F0 mi (pc + 3) ls (.ref (ad X 17 0) :: rest))) : W p l e R s mi args below meth c H locs cells slots Q (F0 mi pc ls (.ref (ad X 0 0) :: rest)) := zr_get C hW hid zco_0 rfl iX8 (k := 8) (by decide) hl rfl hd kk
theorem zg_X8_waiting (C : Cx X p s mi args c own cc nL) (hW : Wd X s m H locs) (hid : (0, 0) ∈ ids) {idx : Nat} (hl : (.fieldLink own idx "DeadAir" "waiting" "[I" : Cond) ∈ bigW) (hd : decode cc pc = .ok (.getfield idx, 3)) (kk : W p l e R s mi args below meth c H locs cells slots Q (F0 mi (pc + 3) ls (.ref (ad X 19 0) :: rest))) : W p l e R s mi args below meth c H locs cells slots Q (F0 mi pc ls (.ref (ad X 0 0) :: rest)) := zr_get C hW hid zco_0 rfl iX8 (k := 9) (by decide) hl rfl hd kk
theorem zg_X8_waitingMany (C : Cx X p s mi args c own cc nL) (hW : Wd X s m H locs) (hid : (0, 0) ∈ ids) {idx : Nat} (hl : (.fieldLink own idx "DeadAir" "waitingMany" "I" : Cond) ∈ bigW) (hd : decode cc pc = .ok (.getfield idx, 3)) (kk : W p l e R s mi args below meth c H locs cells slots Q (F0 mi (pc + 3) ls (.int (m 271) :: rest))) : W p l e R s mi args below meth c H locs cells slots Q (F0 mi pc ls (.ref (ad X 0 0) :: rest)) := zr_get C hW hid zco_0 rfl iX8 (k := 10) (by decide) hl rfl hd kk
theorem zp_X8_waitingMany (C : Cx X p s mi args c own cc nL) (hW : Wd X s m H locs) (hid : (0, 0) ∈ ids) {idx : Nat} (hl : (.fieldLink own idx "DeadAir" "waitingMany" "I" : Cond) ∈ bigW) {x : Int32} (hm : m1 = upd m 271 x) (hd : decode cc pc = .ok (.putfield idx, 3)) (kk : ∀ (H1 : Heap) (locs1 : List Loc), Wd X s m1 H1 locs1 → W p l e R s mi args below meth c H1 locs1 cells slots Q (F0 mi (pc + 3) ls rest)) : W p l e R s mi args below meth c H locs cells slots Q (F0 mi pc ls (.int x :: .ref (ad X 0 0) :: rest)) := zr_put C hW hid zco_0 rfl iX8 tyX8 tyX8_ok nmX8 (k := 10) (by decide) hl rfl rfl rfl (Nat.le_of_ble_eq_true rfl) hm (by rw [lo_0]; (try simp only [sf, vf, hf, lf, tf]); omega) (by rw [hi_0]; (try simp only [sf, vf, hf, lf, tf]); omega) (by rw [hm, zco_0]; simp [zce_0, upd, sf, vf, hf, lf, tf]) hd kk
theorem zg_X6_list (C : Cx X p s mi args c own cc nL) (hW : Wd X s m H locs) (hid : (1, 0) ∈ ids) {idx : Nat} (hl : (.fieldLink own idx "DeadAir$Texts" "list" "[LDeadAir$Text;" : Cond) ∈ bigW) (hd : decode cc pc = .ok (.getfield idx, 3)) (kk : W p l e R s mi args below meth c H locs cells slots Q (F0 mi (pc + 3) ls (.ref (ad X 2 0) :: rest))) : W p l e R s mi args below meth c H locs cells slots Q (F0 mi pc ls (.ref (ad X 1 0) :: rest)) := zr_get C hW hid zco_1 rfl iX6 (k := 0) (by decide) hl rfl hd kk
theorem zg_X6_stack (C : Cx X p s mi args c own cc nL) (hW : Wd X s m H locs) (hid : (1, 0) ∈ ids) {idx : Nat} (hl : (.fieldLink own idx "DeadAir$Texts" "stack" "[I" : Cond) ∈ bigW) (hd : decode cc pc = .ok (.getfield idx, 3)) (kk : W p l e R s mi args below meth c H locs cells slots Q (F0 mi (pc + 3) ls (.ref (ad X 5 0) :: rest))) : W p l e R s mi args below meth c H locs cells slots Q (F0 mi pc ls (.ref (ad X 1 0) :: rest)) := zr_get C hW hid zco_1 rfl iX6 (k := 1) (by decide) hl rfl hd kk
theorem zg_X5_key (C : Cx X p s mi args c own cc nL) (hW : Wd X s m H locs) {i : Nat} (hid : (3, i) ∈ ids) {idx : Nat} (hl : (.fieldLink own idx "DeadAir$Text" "key" "I" : Cond) ∈ bigW) (hd : decode cc pc = .ok (.getfield idx, 3)) (kk : W p l e R s mi args below meth c H locs cells slots Q (F0 mi (pc + 3) ls (.int (m (tf i 0)) :: rest))) : W p l e R s mi args below meth c H locs cells slots Q (F0 mi pc ls (.ref (ad X 3 i) :: rest)) := zr_get C hW hid zco_3 rfl iX5 (k := 0) (by decide) hl rfl hd kk
theorem zp_X5_key (C : Cx X p s mi args c own cc nL) (hW : Wd X s m H locs) {i : Nat} (hid : (3, i) ∈ ids) {idx : Nat} (hl : (.fieldLink own idx "DeadAir$Text" "key" "I" : Cond) ∈ bigW) {x : Int32} (hm : m1 = upd m (tf i 0) x) (hd : decode cc pc = .ok (.putfield idx, 3)) (kk : ∀ (H1 : Heap) (locs1 : List Loc), Wd X s m1 H1 locs1 → W p l e R s mi args below meth c H1 locs1 cells slots Q (F0 mi (pc + 3) ls rest)) : W p l e R s mi args below meth c H locs cells slots Q (F0 mi pc ls (.int x :: .ref (ad X 3 i) :: rest)) := zr_put C hW hid zco_3 rfl iX5 tyX5 tyX5_ok nmX5 (k := 0) (by decide) hl rfl rfl rfl (Nat.le_of_ble_eq_true rfl) hm (by rw [lo_3]; (try simp only [sf, vf, hf, lf, tf]); omega) (by rw [hi_3]; (try simp only [sf, vf, hf, lf, tf]); omega) (by rw [hm, zco_3]; simp [zce_3, upd, sf, vf, hf, lf, tf]) hd kk
theorem zg_X5_atoms (C : Cx X p s mi args c own cc nL) (hW : Wd X s m H locs) {i : Nat} (hid : (3, i) ∈ ids) {idx : Nat} (hl : (.fieldLink own idx "DeadAir$Text" "atoms" "I" : Cond) ∈ bigW) (hd : decode cc pc = .ok (.getfield idx, 3)) (kk : W p l e R s mi args below meth c H locs cells slots Q (F0 mi (pc + 3) ls (.int (m (tf i 1)) :: rest))) : W p l e R s mi args below meth c H locs cells slots Q (F0 mi pc ls (.ref (ad X 3 i) :: rest)) := zr_get C hW hid zco_3 rfl iX5 (k := 1) (by decide) hl rfl hd kk
theorem zp_X5_atoms (C : Cx X p s mi args c own cc nL) (hW : Wd X s m H locs) {i : Nat} (hid : (3, i) ∈ ids) {idx : Nat} (hl : (.fieldLink own idx "DeadAir$Text" "atoms" "I" : Cond) ∈ bigW) {x : Int32} (hm : m1 = upd m (tf i 1) x) (hd : decode cc pc = .ok (.putfield idx, 3)) (kk : ∀ (H1 : Heap) (locs1 : List Loc), Wd X s m1 H1 locs1 → W p l e R s mi args below meth c H1 locs1 cells slots Q (F0 mi (pc + 3) ls rest)) : W p l e R s mi args below meth c H locs cells slots Q (F0 mi pc ls (.int x :: .ref (ad X 3 i) :: rest)) := zr_put C hW hid zco_3 rfl iX5 tyX5 tyX5_ok nmX5 (k := 1) (by decide) hl rfl rfl rfl (Nat.le_of_ble_eq_true rfl) hm (by rw [lo_3]; (try simp only [sf, vf, hf, lf, tf]); omega) (by rw [hi_3]; (try simp only [sf, vf, hf, lf, tf]); omega) (by rw [hm, zco_3]; simp [zce_3, upd, sf, vf, hf, lf, tf]) hd kk
theorem zg_X5_size (C : Cx X p s mi args c own cc nL) (hW : Wd X s m H locs) {i : Nat} (hid : (3, i) ∈ ids) {idx : Nat} (hl : (.fieldLink own idx "DeadAir$Text" "size" "I" : Cond) ∈ bigW) (hd : decode cc pc = .ok (.getfield idx, 3)) (kk : W p l e R s mi args below meth c H locs cells slots Q (F0 mi (pc + 3) ls (.int (m (tf i 2)) :: rest))) : W p l e R s mi args below meth c H locs cells slots Q (F0 mi pc ls (.ref (ad X 3 i) :: rest)) := zr_get C hW hid zco_3 rfl iX5 (k := 2) (by decide) hl rfl hd kk
theorem zp_X5_size (C : Cx X p s mi args c own cc nL) (hW : Wd X s m H locs) {i : Nat} (hid : (3, i) ∈ ids) {idx : Nat} (hl : (.fieldLink own idx "DeadAir$Text" "size" "I" : Cond) ∈ bigW) {x : Int32} (hm : m1 = upd m (tf i 2) x) (hd : decode cc pc = .ok (.putfield idx, 3)) (kk : ∀ (H1 : Heap) (locs1 : List Loc), Wd X s m1 H1 locs1 → W p l e R s mi args below meth c H1 locs1 cells slots Q (F0 mi (pc + 3) ls rest)) : W p l e R s mi args below meth c H locs cells slots Q (F0 mi pc ls (.int x :: .ref (ad X 3 i) :: rest)) := zr_put C hW hid zco_3 rfl iX5 tyX5 tyX5_ok nmX5 (k := 2) (by decide) hl rfl rfl rfl (Nat.le_of_ble_eq_true rfl) hm (by rw [lo_3]; (try simp only [sf, vf, hf, lf, tf]); omega) (by rw [hi_3]; (try simp only [sf, vf, hf, lf, tf]); omega) (by rw [hm, zco_3]; simp [zce_3, upd, sf, vf, hf, lf, tf]) hd kk
theorem zg_X5_code (C : Cx X p s mi args c own cc nL) (hW : Wd X s m H locs) {i : Nat} (hid : (3, i) ∈ ids) {idx : Nat} (hl : (.fieldLink own idx "DeadAir$Text" "code" "[I" : Cond) ∈ bigW) (hd : decode cc pc = .ok (.getfield idx, 3)) (kk : W p l e R s mi args below meth c H locs cells slots Q (F0 mi (pc + 3) ls (.ref (ad X 4 i) :: rest))) : W p l e R s mi args below meth c H locs cells slots Q (F0 mi pc ls (.ref (ad X 3 i) :: rest)) := zr_get C hW hid zco_3 rfl iX5 (k := 3) (by decide) hl rfl hd kk
theorem zg_X1_bytes (C : Cx X p s mi args c own cc nL) (hW : Wd X s m H locs) (hid : (6, 0) ∈ ids) {idx : Nat} (hl : (.fieldLink own idx "DeadAir$Reader" "bytes" "[I" : Cond) ∈ bigW) (hd : decode cc pc = .ok (.getfield idx, 3)) (kk : W p l e R s mi args below meth c H locs cells slots Q (F0 mi (pc + 3) ls (.ref (ad X 7 0) :: rest))) : W p l e R s mi args below meth c H locs cells slots Q (F0 mi pc ls (.ref (ad X 6 0) :: rest)) := zr_get C hW hid zco_6 rfl iX1 (k := 0) (by decide) hl rfl hd kk
theorem zg_X1_length (C : Cx X p s mi args c own cc nL) (hW : Wd X s m H locs) (hid : (6, 0) ∈ ids) {idx : Nat} (hl : (.fieldLink own idx "DeadAir$Reader" "length" "I" : Cond) ∈ bigW) (hd : decode cc pc = .ok (.getfield idx, 3)) (kk : W p l e R s mi args below meth c H locs cells slots Q (F0 mi (pc + 3) ls (.int (m 280) :: rest))) : W p l e R s mi args below meth c H locs cells slots Q (F0 mi pc ls (.ref (ad X 6 0) :: rest)) := zr_get C hW hid zco_6 rfl iX1 (k := 1) (by decide) hl rfl hd kk
theorem zp_X1_length (C : Cx X p s mi args c own cc nL) (hW : Wd X s m H locs) (hid : (6, 0) ∈ ids) {idx : Nat} (hl : (.fieldLink own idx "DeadAir$Reader" "length" "I" : Cond) ∈ bigW) {x : Int32} (hm : m1 = upd m 280 x) (hd : decode cc pc = .ok (.putfield idx, 3)) (kk : ∀ (H1 : Heap) (locs1 : List Loc), Wd X s m1 H1 locs1 → W p l e R s mi args below meth c H1 locs1 cells slots Q (F0 mi (pc + 3) ls rest)) : W p l e R s mi args below meth c H locs cells slots Q (F0 mi pc ls (.int x :: .ref (ad X 6 0) :: rest)) := zr_put C hW hid zco_6 rfl iX1 tyX1 tyX1_ok nmX1 (k := 1) (by decide) hl rfl rfl rfl (Nat.le_of_ble_eq_true rfl) hm (by rw [lo_6]; (try simp only [sf, vf, hf, lf, tf]); omega) (by rw [hi_6]; (try simp only [sf, vf, hf, lf, tf]); omega) (by rw [hm, zco_6]; simp [zce_6, upd, sf, vf, hf, lf, tf]) hd kk
theorem zg_X1_draft (C : Cx X p s mi args c own cc nL) (hW : Wd X s m H locs) (hid : (6, 0) ∈ ids) {idx : Nat} (hl : (.fieldLink own idx "DeadAir$Reader" "draft" "LDeadAir$Text;" : Cond) ∈ bigW) (hd : decode cc pc = .ok (.getfield idx, 3)) (kk : W p l e R s mi args below meth c H locs cells slots Q (F0 mi (pc + 3) ls (.ref (ad X 3 14) :: rest))) : W p l e R s mi args below meth c H locs cells slots Q (F0 mi pc ls (.ref (ad X 6 0) :: rest)) := zr_get C hW hid zco_6 rfl iX1 (k := 2) (by decide) hl rfl hd kk
theorem zg_X1_signs (C : Cx X p s mi args c own cc nL) (hW : Wd X s m H locs) (hid : (6, 0) ∈ ids) {idx : Nat} (hl : (.fieldLink own idx "DeadAir$Reader" "signs" "[I" : Cond) ∈ bigW) (hd : decode cc pc = .ok (.getfield idx, 3)) (kk : W p l e R s mi args below meth c H locs cells slots Q (F0 mi (pc + 3) ls (.ref (ad X 8 0) :: rest))) : W p l e R s mi args below meth c H locs cells slots Q (F0 mi pc ls (.ref (ad X 6 0) :: rest)) := zr_get C hW hid zco_6 rfl iX1 (k := 3) (by decide) hl rfl hd kk
theorem zg_X1_signsMany (C : Cx X p s mi args c own cc nL) (hW : Wd X s m H locs) (hid : (6, 0) ∈ ids) {idx : Nat} (hl : (.fieldLink own idx "DeadAir$Reader" "signsMany" "I" : Cond) ∈ bigW) (hd : decode cc pc = .ok (.getfield idx, 3)) (kk : W p l e R s mi args below meth c H locs cells slots Q (F0 mi (pc + 3) ls (.int (m 281) :: rest))) : W p l e R s mi args below meth c H locs cells slots Q (F0 mi pc ls (.ref (ad X 6 0) :: rest)) := zr_get C hW hid zco_6 rfl iX1 (k := 4) (by decide) hl rfl hd kk
theorem zp_X1_signsMany (C : Cx X p s mi args c own cc nL) (hW : Wd X s m H locs) (hid : (6, 0) ∈ ids) {idx : Nat} (hl : (.fieldLink own idx "DeadAir$Reader" "signsMany" "I" : Cond) ∈ bigW) {x : Int32} (hm : m1 = upd m 281 x) (hd : decode cc pc = .ok (.putfield idx, 3)) (kk : ∀ (H1 : Heap) (locs1 : List Loc), Wd X s m1 H1 locs1 → W p l e R s mi args below meth c H1 locs1 cells slots Q (F0 mi (pc + 3) ls rest)) : W p l e R s mi args below meth c H locs cells slots Q (F0 mi pc ls (.int x :: .ref (ad X 6 0) :: rest)) := zr_put C hW hid zco_6 rfl iX1 tyX1 tyX1_ok nmX1 (k := 4) (by decide) hl rfl rfl rfl (Nat.le_of_ble_eq_true rfl) hm (by rw [lo_6]; (try simp only [sf, vf, hf, lf, tf]); omega) (by rw [hi_6]; (try simp only [sf, vf, hf, lf, tf]); omega) (by rw [hm, zco_6]; simp [zce_6, upd, sf, vf, hf, lf, tf]) hd kk
theorem zg_X1_brackets (C : Cx X p s mi args c own cc nL) (hW : Wd X s m H locs) (hid : (6, 0) ∈ ids) {idx : Nat} (hl : (.fieldLink own idx "DeadAir$Reader" "brackets" "I" : Cond) ∈ bigW) (hd : decode cc pc = .ok (.getfield idx, 3)) (kk : W p l e R s mi args below meth c H locs cells slots Q (F0 mi (pc + 3) ls (.int (m 282) :: rest))) : W p l e R s mi args below meth c H locs cells slots Q (F0 mi pc ls (.ref (ad X 6 0) :: rest)) := zr_get C hW hid zco_6 rfl iX1 (k := 5) (by decide) hl rfl hd kk
theorem zp_X1_brackets (C : Cx X p s mi args c own cc nL) (hW : Wd X s m H locs) (hid : (6, 0) ∈ ids) {idx : Nat} (hl : (.fieldLink own idx "DeadAir$Reader" "brackets" "I" : Cond) ∈ bigW) {x : Int32} (hm : m1 = upd m 282 x) (hd : decode cc pc = .ok (.putfield idx, 3)) (kk : ∀ (H1 : Heap) (locs1 : List Loc), Wd X s m1 H1 locs1 → W p l e R s mi args below meth c H1 locs1 cells slots Q (F0 mi (pc + 3) ls rest)) : W p l e R s mi args below meth c H locs cells slots Q (F0 mi pc ls (.int x :: .ref (ad X 6 0) :: rest)) := zr_put C hW hid zco_6 rfl iX1 tyX1 tyX1_ok nmX1 (k := 5) (by decide) hl rfl rfl rfl (Nat.le_of_ble_eq_true rfl) hm (by rw [lo_6]; (try simp only [sf, vf, hf, lf, tf]); omega) (by rw [hi_6]; (try simp only [sf, vf, hf, lf, tf]); omega) (by rw [hm, zco_6]; simp [zce_6, upd, sf, vf, hf, lf, tf]) hd kk
theorem zg_X1_nots (C : Cx X p s mi args c own cc nL) (hW : Wd X s m H locs) (hid : (6, 0) ∈ ids) {idx : Nat} (hl : (.fieldLink own idx "DeadAir$Reader" "nots" "I" : Cond) ∈ bigW) (hd : decode cc pc = .ok (.getfield idx, 3)) (kk : W p l e R s mi args below meth c H locs cells slots Q (F0 mi (pc + 3) ls (.int (m 283) :: rest))) : W p l e R s mi args below meth c H locs cells slots Q (F0 mi pc ls (.ref (ad X 6 0) :: rest)) := zr_get C hW hid zco_6 rfl iX1 (k := 6) (by decide) hl rfl hd kk
theorem zp_X1_nots (C : Cx X p s mi args c own cc nL) (hW : Wd X s m H locs) (hid : (6, 0) ∈ ids) {idx : Nat} (hl : (.fieldLink own idx "DeadAir$Reader" "nots" "I" : Cond) ∈ bigW) {x : Int32} (hm : m1 = upd m 283 x) (hd : decode cc pc = .ok (.putfield idx, 3)) (kk : ∀ (H1 : Heap) (locs1 : List Loc), Wd X s m1 H1 locs1 → W p l e R s mi args below meth c H1 locs1 cells slots Q (F0 mi (pc + 3) ls rest)) : W p l e R s mi args below meth c H locs cells slots Q (F0 mi pc ls (.int x :: .ref (ad X 6 0) :: rest)) := zr_put C hW hid zco_6 rfl iX1 tyX1 tyX1_ok nmX1 (k := 6) (by decide) hl rfl rfl rfl (Nat.le_of_ble_eq_true rfl) hm (by rw [lo_6]; (try simp only [sf, vf, hf, lf, tf]); omega) (by rw [hi_6]; (try simp only [sf, vf, hf, lf, tf]); omega) (by rw [hm, zco_6]; simp [zce_6, upd, sf, vf, hf, lf, tf]) hd kk
theorem zg_X1_pieceIsDue (C : Cx X p s mi args c own cc nL) (hW : Wd X s m H locs) (hid : (6, 0) ∈ ids) {idx : Nat} (hl : (.fieldLink own idx "DeadAir$Reader" "pieceIsDue" "Z" : Cond) ∈ bigW) (hd : decode cc pc = .ok (.getfield idx, 3)) (kk : W p l e R s mi args below meth c H locs cells slots Q (F0 mi (pc + 3) ls (.int (m 284) :: rest))) : W p l e R s mi args below meth c H locs cells slots Q (F0 mi pc ls (.ref (ad X 6 0) :: rest)) := zr_get C hW hid zco_6 rfl iX1 (k := 7) (by decide) hl rfl hd kk
theorem zp_X1_pieceIsDue (C : Cx X p s mi args c own cc nL) (hW : Wd X s m H locs) (hid : (6, 0) ∈ ids) {idx : Nat} (hl : (.fieldLink own idx "DeadAir$Reader" "pieceIsDue" "Z" : Cond) ∈ bigW) {x : Int32} (hB : x = 0 ∨ x = 1) (hm : m1 = upd m 284 x) (hd : decode cc pc = .ok (.putfield idx, 3)) (kk : ∀ (H1 : Heap) (locs1 : List Loc), Wd X s m1 H1 locs1 → W p l e R s mi args below meth c H1 locs1 cells slots Q (F0 mi (pc + 3) ls rest)) : W p l e R s mi args below meth c H locs cells slots Q (F0 mi pc ls (.int x :: .ref (ad X 6 0) :: rest)) := zr_put C hW hid zco_6 rfl iX1 tyX1 tyX1_ok nmX1 (k := 7) (by decide) hl rfl (nar_B hB) (fit_B hB) (Nat.le_of_ble_eq_true rfl) hm (by rw [lo_6]; (try simp only [sf, vf, hf, lf, tf]); omega) (by rw [hi_6]; (try simp only [sf, vf, hf, lf, tf]); omega) (by rw [hm, zco_6]; simp [zce_6, upd, sf, vf, hf, lf, tf]) hd kk
theorem zg_X1_from (C : Cx X p s mi args c own cc nL) (hW : Wd X s m H locs) (hid : (6, 0) ∈ ids) {idx : Nat} (hl : (.fieldLink own idx "DeadAir$Reader" "from" "I" : Cond) ∈ bigW) (hd : decode cc pc = .ok (.getfield idx, 3)) (kk : W p l e R s mi args below meth c H locs cells slots Q (F0 mi (pc + 3) ls (.int (m 285) :: rest))) : W p l e R s mi args below meth c H locs cells slots Q (F0 mi pc ls (.ref (ad X 6 0) :: rest)) := zr_get C hW hid zco_6 rfl iX1 (k := 8) (by decide) hl rfl hd kk
theorem zp_X1_from (C : Cx X p s mi args c own cc nL) (hW : Wd X s m H locs) (hid : (6, 0) ∈ ids) {idx : Nat} (hl : (.fieldLink own idx "DeadAir$Reader" "from" "I" : Cond) ∈ bigW) {x : Int32} (hm : m1 = upd m 285 x) (hd : decode cc pc = .ok (.putfield idx, 3)) (kk : ∀ (H1 : Heap) (locs1 : List Loc), Wd X s m1 H1 locs1 → W p l e R s mi args below meth c H1 locs1 cells slots Q (F0 mi (pc + 3) ls rest)) : W p l e R s mi args below meth c H locs cells slots Q (F0 mi pc ls (.int x :: .ref (ad X 6 0) :: rest)) := zr_put C hW hid zco_6 rfl iX1 tyX1 tyX1_ok nmX1 (k := 8) (by decide) hl rfl rfl rfl (Nat.le_of_ble_eq_true rfl) hm (by rw [lo_6]; (try simp only [sf, vf, hf, lf, tf]); omega) (by rw [hi_6]; (try simp only [sf, vf, hf, lf, tf]); omega) (by rw [hm, zco_6]; simp [zce_6, upd, sf, vf, hf, lf, tf]) hd kk
theorem zg_X1_to (C : Cx X p s mi args c own cc nL) (hW : Wd X s m H locs) (hid : (6, 0) ∈ ids) {idx : Nat} (hl : (.fieldLink own idx "DeadAir$Reader" "to" "I" : Cond) ∈ bigW) (hd : decode cc pc = .ok (.getfield idx, 3)) (kk : W p l e R s mi args below meth c H locs cells slots Q (F0 mi (pc + 3) ls (.int (m 286) :: rest))) : W p l e R s mi args below meth c H locs cells slots Q (F0 mi pc ls (.ref (ad X 6 0) :: rest)) := zr_get C hW hid zco_6 rfl iX1 (k := 9) (by decide) hl rfl hd kk
theorem zp_X1_to (C : Cx X p s mi args c own cc nL) (hW : Wd X s m H locs) (hid : (6, 0) ∈ ids) {idx : Nat} (hl : (.fieldLink own idx "DeadAir$Reader" "to" "I" : Cond) ∈ bigW) {x : Int32} (hm : m1 = upd m 286 x) (hd : decode cc pc = .ok (.putfield idx, 3)) (kk : ∀ (H1 : Heap) (locs1 : List Loc), Wd X s m1 H1 locs1 → W p l e R s mi args below meth c H1 locs1 cells slots Q (F0 mi (pc + 3) ls rest)) : W p l e R s mi args below meth c H locs cells slots Q (F0 mi pc ls (.int x :: .ref (ad X 6 0) :: rest)) := zr_put C hW hid zco_6 rfl iX1 tyX1 tyX1_ok nmX1 (k := 9) (by decide) hl rfl rfl rfl (Nat.le_of_ble_eq_true rfl) hm (by rw [lo_6]; (try simp only [sf, vf, hf, lf, tf]); omega) (by rw [hi_6]; (try simp only [sf, vf, hf, lf, tf]); omega) (by rw [hm, zco_6]; simp [zce_6, upd, sf, vf, hf, lf, tf]) hd kk
theorem zg_X1_isWord (C : Cx X p s mi args c own cc nL) (hW : Wd X s m H locs) (hid : (6, 0) ∈ ids) {idx : Nat} (hl : (.fieldLink own idx "DeadAir$Reader" "isWord" "Z" : Cond) ∈ bigW) (hd : decode cc pc = .ok (.getfield idx, 3)) (kk : W p l e R s mi args below meth c H locs cells slots Q (F0 mi (pc + 3) ls (.int (m 287) :: rest))) : W p l e R s mi args below meth c H locs cells slots Q (F0 mi pc ls (.ref (ad X 6 0) :: rest)) := zr_get C hW hid zco_6 rfl iX1 (k := 10) (by decide) hl rfl hd kk
theorem zp_X1_isWord (C : Cx X p s mi args c own cc nL) (hW : Wd X s m H locs) (hid : (6, 0) ∈ ids) {idx : Nat} (hl : (.fieldLink own idx "DeadAir$Reader" "isWord" "Z" : Cond) ∈ bigW) {x : Int32} (hB : x = 0 ∨ x = 1) (hm : m1 = upd m 287 x) (hd : decode cc pc = .ok (.putfield idx, 3)) (kk : ∀ (H1 : Heap) (locs1 : List Loc), Wd X s m1 H1 locs1 → W p l e R s mi args below meth c H1 locs1 cells slots Q (F0 mi (pc + 3) ls rest)) : W p l e R s mi args below meth c H locs cells slots Q (F0 mi pc ls (.int x :: .ref (ad X 6 0) :: rest)) := zr_put C hW hid zco_6 rfl iX1 tyX1 tyX1_ok nmX1 (k := 10) (by decide) hl rfl (nar_B hB) (fit_B hB) (Nat.le_of_ble_eq_true rfl) hm (by rw [lo_6]; (try simp only [sf, vf, hf, lf, tf]); omega) (by rw [hi_6]; (try simp only [sf, vf, hf, lf, tf]); omega) (by rw [hm, zco_6]; simp [zce_6, upd, sf, vf, hf, lf, tf]) hd kk
theorem zg_X1_isGlued (C : Cx X p s mi args c own cc nL) (hW : Wd X s m H locs) (hid : (6, 0) ∈ ids) {idx : Nat} (hl : (.fieldLink own idx "DeadAir$Reader" "isGlued" "Z" : Cond) ∈ bigW) (hd : decode cc pc = .ok (.getfield idx, 3)) (kk : W p l e R s mi args below meth c H locs cells slots Q (F0 mi (pc + 3) ls (.int (m 288) :: rest))) : W p l e R s mi args below meth c H locs cells slots Q (F0 mi pc ls (.ref (ad X 6 0) :: rest)) := zr_get C hW hid zco_6 rfl iX1 (k := 11) (by decide) hl rfl hd kk
theorem zp_X1_isGlued (C : Cx X p s mi args c own cc nL) (hW : Wd X s m H locs) (hid : (6, 0) ∈ ids) {idx : Nat} (hl : (.fieldLink own idx "DeadAir$Reader" "isGlued" "Z" : Cond) ∈ bigW) {x : Int32} (hB : x = 0 ∨ x = 1) (hm : m1 = upd m 288 x) (hd : decode cc pc = .ok (.putfield idx, 3)) (kk : ∀ (H1 : Heap) (locs1 : List Loc), Wd X s m1 H1 locs1 → W p l e R s mi args below meth c H1 locs1 cells slots Q (F0 mi (pc + 3) ls rest)) : W p l e R s mi args below meth c H locs cells slots Q (F0 mi pc ls (.int x :: .ref (ad X 6 0) :: rest)) := zr_put C hW hid zco_6 rfl iX1 tyX1 tyX1_ok nmX1 (k := 11) (by decide) hl rfl (nar_B hB) (fit_B hB) (Nat.le_of_ble_eq_true rfl) hm (by rw [lo_6]; (try simp only [sf, vf, hf, lf, tf]); omega) (by rw [hi_6]; (try simp only [sf, vf, hf, lf, tf]); omega) (by rw [hm, zco_6]; simp [zce_6, upd, sf, vf, hf, lf, tf]) hd kk
theorem zg_X4_voices (C : Cx X p s mi args c own cc nL) (hW : Wd X s m H locs) {i : Nat} (hid : (9, i) ∈ ids) {idx : Nat} (hl : (.fieldLink own idx "DeadAir$Studio" "voices" "[LDeadAir$Voice;" : Cond) ∈ bigW) (hd : decode cc pc = .ok (.getfield idx, 3)) (kk : W p l e R s mi args below meth c H locs cells slots Q (F0 mi (pc + 3) ls (.ref (ad X 10 i) :: rest))) : W p l e R s mi args below meth c H locs cells slots Q (F0 mi pc ls (.ref (ad X 9 i) :: rest)) := zr_get C hW hid zco_9 rfl iX4 (k := 0) (by decide) hl rfl hd kk
theorem zg_X4_many (C : Cx X p s mi args c own cc nL) (hW : Wd X s m H locs) {i : Nat} (hid : (9, i) ∈ ids) {idx : Nat} (hl : (.fieldLink own idx "DeadAir$Studio" "many" "I" : Cond) ∈ bigW) (hd : decode cc pc = .ok (.getfield idx, 3)) (kk : W p l e R s mi args below meth c H locs cells slots Q (F0 mi (pc + 3) ls (.int (m (sf i 1)) :: rest))) : W p l e R s mi args below meth c H locs cells slots Q (F0 mi pc ls (.ref (ad X 9 i) :: rest)) := zr_get C hW hid zco_9 rfl iX4 (k := 1) (by decide) hl rfl hd kk
theorem zp_X4_many (C : Cx X p s mi args c own cc nL) (hW : Wd X s m H locs) {i : Nat} (hid : (9, i) ∈ ids) {idx : Nat} (hl : (.fieldLink own idx "DeadAir$Studio" "many" "I" : Cond) ∈ bigW) {x : Int32} (hm : m1 = upd m (sf i 1) x) (hd : decode cc pc = .ok (.putfield idx, 3)) (kk : ∀ (H1 : Heap) (locs1 : List Loc), Wd X s m1 H1 locs1 → W p l e R s mi args below meth c H1 locs1 cells slots Q (F0 mi (pc + 3) ls rest)) : W p l e R s mi args below meth c H locs cells slots Q (F0 mi pc ls (.int x :: .ref (ad X 9 i) :: rest)) := zr_put C hW hid zco_9 rfl iX4 tyX4 tyX4_ok nmX4 (k := 1) (by decide) hl rfl rfl rfl (Nat.le_of_ble_eq_true rfl) hm (by rw [lo_9]; (try simp only [sf, vf, hf, lf, tf]); omega) (by rw [hi_9]; (try simp only [sf, vf, hf, lf, tf]); omega) (by rw [hm, zco_9]; simp [zce_9, upd, sf, vf, hf, lf, tf]) hd kk
theorem zg_X4_listeners (C : Cx X p s mi args c own cc nL) (hW : Wd X s m H locs) {i : Nat} (hid : (9, i) ∈ ids) {idx : Nat} (hl : (.fieldLink own idx "DeadAir$Studio" "listeners" "I" : Cond) ∈ bigW) (hd : decode cc pc = .ok (.getfield idx, 3)) (kk : W p l e R s mi args below meth c H locs cells slots Q (F0 mi (pc + 3) ls (.int (m (sf i 5)) :: rest))) : W p l e R s mi args below meth c H locs cells slots Q (F0 mi pc ls (.ref (ad X 9 i) :: rest)) := zr_get C hW hid zco_9 rfl iX4 (k := 2) (by decide) hl rfl hd kk
theorem zp_X4_listeners (C : Cx X p s mi args c own cc nL) (hW : Wd X s m H locs) {i : Nat} (hid : (9, i) ∈ ids) {idx : Nat} (hl : (.fieldLink own idx "DeadAir$Studio" "listeners" "I" : Cond) ∈ bigW) {x : Int32} (hm : m1 = upd m (sf i 5) x) (hd : decode cc pc = .ok (.putfield idx, 3)) (kk : ∀ (H1 : Heap) (locs1 : List Loc), Wd X s m1 H1 locs1 → W p l e R s mi args below meth c H1 locs1 cells slots Q (F0 mi (pc + 3) ls rest)) : W p l e R s mi args below meth c H locs cells slots Q (F0 mi pc ls (.int x :: .ref (ad X 9 i) :: rest)) := zr_put C hW hid zco_9 rfl iX4 tyX4 tyX4_ok nmX4 (k := 2) (by decide) hl rfl rfl rfl (Nat.le_of_ble_eq_true rfl) hm (by rw [lo_9]; (try simp only [sf, vf, hf, lf, tf]); omega) (by rw [hi_9]; (try simp only [sf, vf, hf, lf, tf]); omega) (by rw [hm, zco_9]; simp [zce_9, upd, sf, vf, hf, lf, tf]) hd kk
theorem zg_X4_cut (C : Cx X p s mi args c own cc nL) (hW : Wd X s m H locs) {i : Nat} (hid : (9, i) ∈ ids) {idx : Nat} (hl : (.fieldLink own idx "DeadAir$Studio" "cut" "I" : Cond) ∈ bigW) (hd : decode cc pc = .ok (.getfield idx, 3)) (kk : W p l e R s mi args below meth c H locs cells slots Q (F0 mi (pc + 3) ls (.int (m (sf i 3)) :: rest))) : W p l e R s mi args below meth c H locs cells slots Q (F0 mi pc ls (.ref (ad X 9 i) :: rest)) := zr_get C hW hid zco_9 rfl iX4 (k := 3) (by decide) hl rfl hd kk
theorem zp_X4_cut (C : Cx X p s mi args c own cc nL) (hW : Wd X s m H locs) {i : Nat} (hid : (9, i) ∈ ids) {idx : Nat} (hl : (.fieldLink own idx "DeadAir$Studio" "cut" "I" : Cond) ∈ bigW) {x : Int32} (hm : m1 = upd m (sf i 3) x) (hd : decode cc pc = .ok (.putfield idx, 3)) (kk : ∀ (H1 : Heap) (locs1 : List Loc), Wd X s m1 H1 locs1 → W p l e R s mi args below meth c H1 locs1 cells slots Q (F0 mi (pc + 3) ls rest)) : W p l e R s mi args below meth c H locs cells slots Q (F0 mi pc ls (.int x :: .ref (ad X 9 i) :: rest)) := zr_put C hW hid zco_9 rfl iX4 tyX4 tyX4_ok nmX4 (k := 3) (by decide) hl rfl rfl rfl (Nat.le_of_ble_eq_true rfl) hm (by rw [lo_9]; (try simp only [sf, vf, hf, lf, tf]); omega) (by rw [hi_9]; (try simp only [sf, vf, hf, lf, tf]); omega) (by rw [hm, zco_9]; simp [zce_9, upd, sf, vf, hf, lf, tf]) hd kk
theorem zg_X4_fill (C : Cx X p s mi args c own cc nL) (hW : Wd X s m H locs) {i : Nat} (hid : (9, i) ∈ ids) {idx : Nat} (hl : (.fieldLink own idx "DeadAir$Studio" "fill" "I" : Cond) ∈ bigW) (hd : decode cc pc = .ok (.getfield idx, 3)) (kk : W p l e R s mi args below meth c H locs cells slots Q (F0 mi (pc + 3) ls (.int (m (sf i 4)) :: rest))) : W p l e R s mi args below meth c H locs cells slots Q (F0 mi pc ls (.ref (ad X 9 i) :: rest)) := zr_get C hW hid zco_9 rfl iX4 (k := 4) (by decide) hl rfl hd kk
theorem zp_X4_fill (C : Cx X p s mi args c own cc nL) (hW : Wd X s m H locs) {i : Nat} (hid : (9, i) ∈ ids) {idx : Nat} (hl : (.fieldLink own idx "DeadAir$Studio" "fill" "I" : Cond) ∈ bigW) {x : Int32} (hm : m1 = upd m (sf i 4) x) (hd : decode cc pc = .ok (.putfield idx, 3)) (kk : ∀ (H1 : Heap) (locs1 : List Loc), Wd X s m1 H1 locs1 → W p l e R s mi args below meth c H1 locs1 cells slots Q (F0 mi (pc + 3) ls rest)) : W p l e R s mi args below meth c H locs cells slots Q (F0 mi pc ls (.int x :: .ref (ad X 9 i) :: rest)) := zr_put C hW hid zco_9 rfl iX4 tyX4 tyX4_ok nmX4 (k := 4) (by decide) hl rfl rfl rfl (Nat.le_of_ble_eq_true rfl) hm (by rw [lo_9]; (try simp only [sf, vf, hf, lf, tf]); omega) (by rw [hi_9]; (try simp only [sf, vf, hf, lf, tf]); omega) (by rw [hm, zco_9]; simp [zce_9, upd, sf, vf, hf, lf, tf]) hd kk
theorem zg_X4_silence (C : Cx X p s mi args c own cc nL) (hW : Wd X s m H locs) {i : Nat} (hid : (9, i) ∈ ids) {idx : Nat} (hl : (.fieldLink own idx "DeadAir$Studio" "silence" "I" : Cond) ∈ bigW) (hd : decode cc pc = .ok (.getfield idx, 3)) (kk : W p l e R s mi args below meth c H locs cells slots Q (F0 mi (pc + 3) ls (.int (m (sf i 6)) :: rest))) : W p l e R s mi args below meth c H locs cells slots Q (F0 mi pc ls (.ref (ad X 9 i) :: rest)) := zr_get C hW hid zco_9 rfl iX4 (k := 5) (by decide) hl rfl hd kk
theorem zp_X4_silence (C : Cx X p s mi args c own cc nL) (hW : Wd X s m H locs) {i : Nat} (hid : (9, i) ∈ ids) {idx : Nat} (hl : (.fieldLink own idx "DeadAir$Studio" "silence" "I" : Cond) ∈ bigW) {x : Int32} (hm : m1 = upd m (sf i 6) x) (hd : decode cc pc = .ok (.putfield idx, 3)) (kk : ∀ (H1 : Heap) (locs1 : List Loc), Wd X s m1 H1 locs1 → W p l e R s mi args below meth c H1 locs1 cells slots Q (F0 mi (pc + 3) ls rest)) : W p l e R s mi args below meth c H locs cells slots Q (F0 mi pc ls (.int x :: .ref (ad X 9 i) :: rest)) := zr_put C hW hid zco_9 rfl iX4 tyX4 tyX4_ok nmX4 (k := 5) (by decide) hl rfl rfl rfl (Nat.le_of_ble_eq_true rfl) hm (by rw [lo_9]; (try simp only [sf, vf, hf, lf, tf]); omega) (by rw [hi_9]; (try simp only [sf, vf, hf, lf, tf]); omega) (by rw [hm, zco_9]; simp [zce_9, upd, sf, vf, hf, lf, tf]) hd kk
theorem zg_X4_silent (C : Cx X p s mi args c own cc nL) (hW : Wd X s m H locs) {i : Nat} (hid : (9, i) ∈ ids) {idx : Nat} (hl : (.fieldLink own idx "DeadAir$Studio" "silent" "I" : Cond) ∈ bigW) (hd : decode cc pc = .ok (.getfield idx, 3)) (kk : W p l e R s mi args below meth c H locs cells slots Q (F0 mi (pc + 3) ls (.int (m (sf i 7)) :: rest))) : W p l e R s mi args below meth c H locs cells slots Q (F0 mi pc ls (.ref (ad X 9 i) :: rest)) := zr_get C hW hid zco_9 rfl iX4 (k := 6) (by decide) hl rfl hd kk
theorem zp_X4_silent (C : Cx X p s mi args c own cc nL) (hW : Wd X s m H locs) {i : Nat} (hid : (9, i) ∈ ids) {idx : Nat} (hl : (.fieldLink own idx "DeadAir$Studio" "silent" "I" : Cond) ∈ bigW) {x : Int32} (hm : m1 = upd m (sf i 7) x) (hd : decode cc pc = .ok (.putfield idx, 3)) (kk : ∀ (H1 : Heap) (locs1 : List Loc), Wd X s m1 H1 locs1 → W p l e R s mi args below meth c H1 locs1 cells slots Q (F0 mi (pc + 3) ls rest)) : W p l e R s mi args below meth c H locs cells slots Q (F0 mi pc ls (.int x :: .ref (ad X 9 i) :: rest)) := zr_put C hW hid zco_9 rfl iX4 tyX4 tyX4_ok nmX4 (k := 6) (by decide) hl rfl rfl rfl (Nat.le_of_ble_eq_true rfl) hm (by rw [lo_9]; (try simp only [sf, vf, hf, lf, tf]); omega) (by rw [hi_9]; (try simp only [sf, vf, hf, lf, tf]); omega) (by rw [hm, zco_9]; simp [zce_9, upd, sf, vf, hf, lf, tf]) hd kk
theorem zg_X4_longestHole (C : Cx X p s mi args c own cc nL) (hW : Wd X s m H locs) {i : Nat} (hid : (9, i) ∈ ids) {idx : Nat} (hl : (.fieldLink own idx "DeadAir$Studio" "longestHole" "I" : Cond) ∈ bigW) (hd : decode cc pc = .ok (.getfield idx, 3)) (kk : W p l e R s mi args below meth c H locs cells slots Q (F0 mi (pc + 3) ls (.int (m (sf i 8)) :: rest))) : W p l e R s mi args below meth c H locs cells slots Q (F0 mi pc ls (.ref (ad X 9 i) :: rest)) := zr_get C hW hid zco_9 rfl iX4 (k := 7) (by decide) hl rfl hd kk
theorem zp_X4_longestHole (C : Cx X p s mi args c own cc nL) (hW : Wd X s m H locs) {i : Nat} (hid : (9, i) ∈ ids) {idx : Nat} (hl : (.fieldLink own idx "DeadAir$Studio" "longestHole" "I" : Cond) ∈ bigW) {x : Int32} (hm : m1 = upd m (sf i 8) x) (hd : decode cc pc = .ok (.putfield idx, 3)) (kk : ∀ (H1 : Heap) (locs1 : List Loc), Wd X s m1 H1 locs1 → W p l e R s mi args below meth c H1 locs1 cells slots Q (F0 mi (pc + 3) ls rest)) : W p l e R s mi args below meth c H locs cells slots Q (F0 mi pc ls (.int x :: .ref (ad X 9 i) :: rest)) := zr_put C hW hid zco_9 rfl iX4 tyX4 tyX4_ok nmX4 (k := 7) (by decide) hl rfl rfl rfl (Nat.le_of_ble_eq_true rfl) hm (by rw [lo_9]; (try simp only [sf, vf, hf, lf, tf]); omega) (by rw [hi_9]; (try simp only [sf, vf, hf, lf, tf]); omega) (by rw [hm, zco_9]; simp [zce_9, upd, sf, vf, hf, lf, tf]) hd kk
theorem zg_X4_breaths (C : Cx X p s mi args c own cc nL) (hW : Wd X s m H locs) {i : Nat} (hid : (9, i) ∈ ids) {idx : Nat} (hl : (.fieldLink own idx "DeadAir$Studio" "breaths" "I" : Cond) ∈ bigW) (hd : decode cc pc = .ok (.getfield idx, 3)) (kk : W p l e R s mi args below meth c H locs cells slots Q (F0 mi (pc + 3) ls (.int (m (sf i 9)) :: rest))) : W p l e R s mi args below meth c H locs cells slots Q (F0 mi pc ls (.ref (ad X 9 i) :: rest)) := zr_get C hW hid zco_9 rfl iX4 (k := 8) (by decide) hl rfl hd kk
theorem zp_X4_breaths (C : Cx X p s mi args c own cc nL) (hW : Wd X s m H locs) {i : Nat} (hid : (9, i) ∈ ids) {idx : Nat} (hl : (.fieldLink own idx "DeadAir$Studio" "breaths" "I" : Cond) ∈ bigW) {x : Int32} (hm : m1 = upd m (sf i 9) x) (hd : decode cc pc = .ok (.putfield idx, 3)) (kk : ∀ (H1 : Heap) (locs1 : List Loc), Wd X s m1 H1 locs1 → W p l e R s mi args below meth c H1 locs1 cells slots Q (F0 mi (pc + 3) ls rest)) : W p l e R s mi args below meth c H locs cells slots Q (F0 mi pc ls (.int x :: .ref (ad X 9 i) :: rest)) := zr_put C hW hid zco_9 rfl iX4 tyX4 tyX4_ok nmX4 (k := 8) (by decide) hl rfl rfl rfl (Nat.le_of_ble_eq_true rfl) hm (by rw [lo_9]; (try simp only [sf, vf, hf, lf, tf]); omega) (by rw [hi_9]; (try simp only [sf, vf, hf, lf, tf]); omega) (by rw [hm, zco_9]; simp [zce_9, upd, sf, vf, hf, lf, tf]) hd kk
theorem zg_X4_taken (C : Cx X p s mi args c own cc nL) (hW : Wd X s m H locs) {i : Nat} (hid : (9, i) ∈ ids) {idx : Nat} (hl : (.fieldLink own idx "DeadAir$Studio" "taken" "I" : Cond) ∈ bigW) (hd : decode cc pc = .ok (.getfield idx, 3)) (kk : W p l e R s mi args below meth c H locs cells slots Q (F0 mi (pc + 3) ls (.int (m (sf i 10)) :: rest))) : W p l e R s mi args below meth c H locs cells slots Q (F0 mi pc ls (.ref (ad X 9 i) :: rest)) := zr_get C hW hid zco_9 rfl iX4 (k := 9) (by decide) hl rfl hd kk
theorem zp_X4_taken (C : Cx X p s mi args c own cc nL) (hW : Wd X s m H locs) {i : Nat} (hid : (9, i) ∈ ids) {idx : Nat} (hl : (.fieldLink own idx "DeadAir$Studio" "taken" "I" : Cond) ∈ bigW) {x : Int32} (hm : m1 = upd m (sf i 10) x) (hd : decode cc pc = .ok (.putfield idx, 3)) (kk : ∀ (H1 : Heap) (locs1 : List Loc), Wd X s m1 H1 locs1 → W p l e R s mi args below meth c H1 locs1 cells slots Q (F0 mi (pc + 3) ls rest)) : W p l e R s mi args below meth c H locs cells slots Q (F0 mi pc ls (.int x :: .ref (ad X 9 i) :: rest)) := zr_put C hW hid zco_9 rfl iX4 tyX4 tyX4_ok nmX4 (k := 9) (by decide) hl rfl rfl rfl (Nat.le_of_ble_eq_true rfl) hm (by rw [lo_9]; (try simp only [sf, vf, hf, lf, tf]); omega) (by rw [hi_9]; (try simp only [sf, vf, hf, lf, tf]); omega) (by rw [hm, zco_9]; simp [zce_9, upd, sf, vf, hf, lf, tf]) hd kk
theorem zg_X4_crossed (C : Cx X p s mi args c own cc nL) (hW : Wd X s m H locs) {i : Nat} (hid : (9, i) ∈ ids) {idx : Nat} (hl : (.fieldLink own idx "DeadAir$Studio" "crossed" "I" : Cond) ∈ bigW) (hd : decode cc pc = .ok (.getfield idx, 3)) (kk : W p l e R s mi args below meth c H locs cells slots Q (F0 mi (pc + 3) ls (.int (m (sf i 11)) :: rest))) : W p l e R s mi args below meth c H locs cells slots Q (F0 mi pc ls (.ref (ad X 9 i) :: rest)) := zr_get C hW hid zco_9 rfl iX4 (k := 10) (by decide) hl rfl hd kk
theorem zp_X4_crossed (C : Cx X p s mi args c own cc nL) (hW : Wd X s m H locs) {i : Nat} (hid : (9, i) ∈ ids) {idx : Nat} (hl : (.fieldLink own idx "DeadAir$Studio" "crossed" "I" : Cond) ∈ bigW) {x : Int32} (hm : m1 = upd m (sf i 11) x) (hd : decode cc pc = .ok (.putfield idx, 3)) (kk : ∀ (H1 : Heap) (locs1 : List Loc), Wd X s m1 H1 locs1 → W p l e R s mi args below meth c H1 locs1 cells slots Q (F0 mi (pc + 3) ls rest)) : W p l e R s mi args below meth c H locs cells slots Q (F0 mi pc ls (.int x :: .ref (ad X 9 i) :: rest)) := zr_put C hW hid zco_9 rfl iX4 tyX4 tyX4_ok nmX4 (k := 10) (by decide) hl rfl rfl rfl (Nat.le_of_ble_eq_true rfl) hm (by rw [lo_9]; (try simp only [sf, vf, hf, lf, tf]); omega) (by rw [hi_9]; (try simp only [sf, vf, hf, lf, tf]); omega) (by rw [hm, zco_9]; simp [zce_9, upd, sf, vf, hf, lf, tf]) hd kk
theorem zg_X4_jingles (C : Cx X p s mi args c own cc nL) (hW : Wd X s m H locs) {i : Nat} (hid : (9, i) ∈ ids) {idx : Nat} (hl : (.fieldLink own idx "DeadAir$Studio" "jingles" "I" : Cond) ∈ bigW) (hd : decode cc pc = .ok (.getfield idx, 3)) (kk : W p l e R s mi args below meth c H locs cells slots Q (F0 mi (pc + 3) ls (.int (m (sf i 12)) :: rest))) : W p l e R s mi args below meth c H locs cells slots Q (F0 mi pc ls (.ref (ad X 9 i) :: rest)) := zr_get C hW hid zco_9 rfl iX4 (k := 11) (by decide) hl rfl hd kk
theorem zp_X4_jingles (C : Cx X p s mi args c own cc nL) (hW : Wd X s m H locs) {i : Nat} (hid : (9, i) ∈ ids) {idx : Nat} (hl : (.fieldLink own idx "DeadAir$Studio" "jingles" "I" : Cond) ∈ bigW) {x : Int32} (hm : m1 = upd m (sf i 12) x) (hd : decode cc pc = .ok (.putfield idx, 3)) (kk : ∀ (H1 : Heap) (locs1 : List Loc), Wd X s m1 H1 locs1 → W p l e R s mi args below meth c H1 locs1 cells slots Q (F0 mi (pc + 3) ls rest)) : W p l e R s mi args below meth c H locs cells slots Q (F0 mi pc ls (.int x :: .ref (ad X 9 i) :: rest)) := zr_put C hW hid zco_9 rfl iX4 tyX4 tyX4_ok nmX4 (k := 11) (by decide) hl rfl rfl rfl (Nat.le_of_ble_eq_true rfl) hm (by rw [lo_9]; (try simp only [sf, vf, hf, lf, tf]); omega) (by rw [hi_9]; (try simp only [sf, vf, hf, lf, tf]); omega) (by rw [hm, zco_9]; simp [zce_9, upd, sf, vf, hf, lf, tf]) hd kk
theorem zg_X4_cuts (C : Cx X p s mi args c own cc nL) (hW : Wd X s m H locs) {i : Nat} (hid : (9, i) ∈ ids) {idx : Nat} (hl : (.fieldLink own idx "DeadAir$Studio" "cuts" "I" : Cond) ∈ bigW) (hd : decode cc pc = .ok (.getfield idx, 3)) (kk : W p l e R s mi args below meth c H locs cells slots Q (F0 mi (pc + 3) ls (.int (m (sf i 13)) :: rest))) : W p l e R s mi args below meth c H locs cells slots Q (F0 mi pc ls (.ref (ad X 9 i) :: rest)) := zr_get C hW hid zco_9 rfl iX4 (k := 12) (by decide) hl rfl hd kk
theorem zp_X4_cuts (C : Cx X p s mi args c own cc nL) (hW : Wd X s m H locs) {i : Nat} (hid : (9, i) ∈ ids) {idx : Nat} (hl : (.fieldLink own idx "DeadAir$Studio" "cuts" "I" : Cond) ∈ bigW) {x : Int32} (hm : m1 = upd m (sf i 13) x) (hd : decode cc pc = .ok (.putfield idx, 3)) (kk : ∀ (H1 : Heap) (locs1 : List Loc), Wd X s m1 H1 locs1 → W p l e R s mi args below meth c H1 locs1 cells slots Q (F0 mi (pc + 3) ls rest)) : W p l e R s mi args below meth c H locs cells slots Q (F0 mi pc ls (.int x :: .ref (ad X 9 i) :: rest)) := zr_put C hW hid zco_9 rfl iX4 tyX4 tyX4_ok nmX4 (k := 12) (by decide) hl rfl rfl rfl (Nat.le_of_ble_eq_true rfl) hm (by rw [lo_9]; (try simp only [sf, vf, hf, lf, tf]); omega) (by rw [hi_9]; (try simp only [sf, vf, hf, lf, tf]); omega) (by rw [hm, zco_9]; simp [zce_9, upd, sf, vf, hf, lf, tf]) hd kk
theorem zg_X4_last (C : Cx X p s mi args c own cc nL) (hW : Wd X s m H locs) {i : Nat} (hid : (9, i) ∈ ids) {idx : Nat} (hl : (.fieldLink own idx "DeadAir$Studio" "last" "I" : Cond) ∈ bigW) (hd : decode cc pc = .ok (.getfield idx, 3)) (kk : W p l e R s mi args below meth c H locs cells slots Q (F0 mi (pc + 3) ls (.int (m (sf i 14)) :: rest))) : W p l e R s mi args below meth c H locs cells slots Q (F0 mi pc ls (.ref (ad X 9 i) :: rest)) := zr_get C hW hid zco_9 rfl iX4 (k := 13) (by decide) hl rfl hd kk
theorem zp_X4_last (C : Cx X p s mi args c own cc nL) (hW : Wd X s m H locs) {i : Nat} (hid : (9, i) ∈ ids) {idx : Nat} (hl : (.fieldLink own idx "DeadAir$Studio" "last" "I" : Cond) ∈ bigW) {x : Int32} (hm : m1 = upd m (sf i 14) x) (hd : decode cc pc = .ok (.putfield idx, 3)) (kk : ∀ (H1 : Heap) (locs1 : List Loc), Wd X s m1 H1 locs1 → W p l e R s mi args below meth c H1 locs1 cells slots Q (F0 mi (pc + 3) ls rest)) : W p l e R s mi args below meth c H locs cells slots Q (F0 mi pc ls (.int x :: .ref (ad X 9 i) :: rest)) := zr_put C hW hid zco_9 rfl iX4 tyX4 tyX4_ok nmX4 (k := 13) (by decide) hl rfl rfl rfl (Nat.le_of_ble_eq_true rfl) hm (by rw [lo_9]; (try simp only [sf, vf, hf, lf, tf]); omega) (by rw [hi_9]; (try simp only [sf, vf, hf, lf, tf]); omega) (by rw [hm, zco_9]; simp [zce_9, upd, sf, vf, hf, lf, tf]) hd kk
theorem zg_X4_tenth (C : Cx X p s mi args c own cc nL) (hW : Wd X s m H locs) {i : Nat} (hid : (9, i) ∈ ids) {idx : Nat} (hl : (.fieldLink own idx "DeadAir$Studio" "tenth" "I" : Cond) ∈ bigW) (hd : decode cc pc = .ok (.getfield idx, 3)) (kk : W p l e R s mi args below meth c H locs cells slots Q (F0 mi (pc + 3) ls (.int (m (sf i 2)) :: rest))) : W p l e R s mi args below meth c H locs cells slots Q (F0 mi pc ls (.ref (ad X 9 i) :: rest)) := zr_get C hW hid zco_9 rfl iX4 (k := 14) (by decide) hl rfl hd kk
theorem zp_X4_tenth (C : Cx X p s mi args c own cc nL) (hW : Wd X s m H locs) {i : Nat} (hid : (9, i) ∈ ids) {idx : Nat} (hl : (.fieldLink own idx "DeadAir$Studio" "tenth" "I" : Cond) ∈ bigW) {x : Int32} (hm : m1 = upd m (sf i 2) x) (hd : decode cc pc = .ok (.putfield idx, 3)) (kk : ∀ (H1 : Heap) (locs1 : List Loc), Wd X s m1 H1 locs1 → W p l e R s mi args below meth c H1 locs1 cells slots Q (F0 mi (pc + 3) ls rest)) : W p l e R s mi args below meth c H locs cells slots Q (F0 mi pc ls (.int x :: .ref (ad X 9 i) :: rest)) := zr_put C hW hid zco_9 rfl iX4 tyX4 tyX4_ok nmX4 (k := 14) (by decide) hl rfl rfl rfl (Nat.le_of_ble_eq_true rfl) hm (by rw [lo_9]; (try simp only [sf, vf, hf, lf, tf]); omega) (by rw [hi_9]; (try simp only [sf, vf, hf, lf, tf]); omega) (by rw [hm, zco_9]; simp [zce_9, upd, sf, vf, hf, lf, tf]) hd kk
theorem zg_X4_z (C : Cx X p s mi args c own cc nL) (hW : Wd X s m H locs) {i : Nat} (hid : (9, i) ∈ ids) {idx : Nat} (hl : (.fieldLink own idx "DeadAir$Studio" "z" "I" : Cond) ∈ bigW) (hd : decode cc pc = .ok (.getfield idx, 3)) (kk : W p l e R s mi args below meth c H locs cells slots Q (F0 mi (pc + 3) ls (.int (m (sf i 0)) :: rest))) : W p l e R s mi args below meth c H locs cells slots Q (F0 mi pc ls (.ref (ad X 9 i) :: rest)) := zr_get C hW hid zco_9 rfl iX4 (k := 15) (by decide) hl rfl hd kk
theorem zp_X4_z (C : Cx X p s mi args c own cc nL) (hW : Wd X s m H locs) {i : Nat} (hid : (9, i) ∈ ids) {idx : Nat} (hl : (.fieldLink own idx "DeadAir$Studio" "z" "I" : Cond) ∈ bigW) {x : Int32} (hm : m1 = upd m (sf i 0) x) (hd : decode cc pc = .ok (.putfield idx, 3)) (kk : ∀ (H1 : Heap) (locs1 : List Loc), Wd X s m1 H1 locs1 → W p l e R s mi args below meth c H1 locs1 cells slots Q (F0 mi (pc + 3) ls rest)) : W p l e R s mi args below meth c H locs cells slots Q (F0 mi pc ls (.int x :: .ref (ad X 9 i) :: rest)) := zr_put C hW hid zco_9 rfl iX4 tyX4 tyX4_ok nmX4 (k := 15) (by decide) hl rfl rfl rfl (Nat.le_of_ble_eq_true rfl) hm (by rw [lo_9]; (try simp only [sf, vf, hf, lf, tf]); omega) (by rw [hi_9]; (try simp only [sf, vf, hf, lf, tf]); omega) (by rw [hm, zco_9]; simp [zce_9, upd, sf, vf, hf, lf, tf]) hd kk
theorem zg_X4_textsMany (C : Cx X p s mi args c own cc nL) (hW : Wd X s m H locs) {i : Nat} (hid : (9, i) ∈ ids) {idx : Nat} (hl : (.fieldLink own idx "DeadAir$Studio" "textsMany" "I" : Cond) ∈ bigW) (hd : decode cc pc = .ok (.getfield idx, 3)) (kk : W p l e R s mi args below meth c H locs cells slots Q (F0 mi (pc + 3) ls (.int (m (sf i 15)) :: rest))) : W p l e R s mi args below meth c H locs cells slots Q (F0 mi pc ls (.ref (ad X 9 i) :: rest)) := zr_get C hW hid zco_9 rfl iX4 (k := 16) (by decide) hl rfl hd kk
theorem zp_X4_textsMany (C : Cx X p s mi args c own cc nL) (hW : Wd X s m H locs) {i : Nat} (hid : (9, i) ∈ ids) {idx : Nat} (hl : (.fieldLink own idx "DeadAir$Studio" "textsMany" "I" : Cond) ∈ bigW) {x : Int32} (hm : m1 = upd m (sf i 15) x) (hd : decode cc pc = .ok (.putfield idx, 3)) (kk : ∀ (H1 : Heap) (locs1 : List Loc), Wd X s m1 H1 locs1 → W p l e R s mi args below meth c H1 locs1 cells slots Q (F0 mi (pc + 3) ls rest)) : W p l e R s mi args below meth c H locs cells slots Q (F0 mi pc ls (.int x :: .ref (ad X 9 i) :: rest)) := zr_put C hW hid zco_9 rfl iX4 tyX4 tyX4_ok nmX4 (k := 16) (by decide) hl rfl rfl rfl (Nat.le_of_ble_eq_true rfl) hm (by rw [lo_9]; (try simp only [sf, vf, hf, lf, tf]); omega) (by rw [hi_9]; (try simp only [sf, vf, hf, lf, tf]); omega) (by rw [hm, zco_9]; simp [zce_9, upd, sf, vf, hf, lf, tf]) hd kk
theorem zg_X4_counting (C : Cx X p s mi args c own cc nL) (hW : Wd X s m H locs) {i : Nat} (hid : (9, i) ∈ ids) {idx : Nat} (hl : (.fieldLink own idx "DeadAir$Studio" "counting" "[I" : Cond) ∈ bigW) (hd : decode cc pc = .ok (.getfield idx, 3)) (kk : W p l e R s mi args below meth c H locs cells slots Q (F0 mi (pc + 3) ls (.ref (ad X 12 i) :: rest))) : W p l e R s mi args below meth c H locs cells slots Q (F0 mi pc ls (.ref (ad X 9 i) :: rest)) := zr_get C hW hid zco_9 rfl iX4 (k := 17) (by decide) hl rfl hd kk
theorem zg_X4_texts (C : Cx X p s mi args c own cc nL) (hW : Wd X s m H locs) {i : Nat} (hid : (9, i) ∈ ids) {idx : Nat} (hl : (.fieldLink own idx "DeadAir$Studio" "texts" "LDeadAir$Texts;" : Cond) ∈ bigW) (hd : decode cc pc = .ok (.getfield idx, 3)) (kk : W p l e R s mi args below meth c H locs cells slots Q (F0 mi (pc + 3) ls (.ref (ad X 1 0) :: rest))) : W p l e R s mi args below meth c H locs cells slots Q (F0 mi pc ls (.ref (ad X 9 i) :: rest)) := zr_get C hW hid zco_9 rfl iX4 (k := 18) (by decide) hl rfl hd kk
theorem zg_X7_kind (C : Cx X p s mi args c own cc nL) (hW : Wd X s m H locs) {i : Nat} (hid : (11, i) ∈ ids) {idx : Nat} (hl : (.fieldLink own idx "DeadAir$Voice" "kind" "I" : Cond) ∈ bigW) (hd : decode cc pc = .ok (.getfield idx, 3)) (kk : W p l e R s mi args below meth c H locs cells slots Q (F0 mi (pc + 3) ls (.int (m (vf i 0)) :: rest))) : W p l e R s mi args below meth c H locs cells slots Q (F0 mi pc ls (.ref (ad X 11 i) :: rest)) := zr_get C hW hid zco_11 rfl iX7 (k := 0) (by decide) hl rfl hd kk
theorem zp_X7_kind (C : Cx X p s mi args c own cc nL) (hW : Wd X s m H locs) {i : Nat} (hid : (11, i) ∈ ids) {idx : Nat} (hl : (.fieldLink own idx "DeadAir$Voice" "kind" "I" : Cond) ∈ bigW) {x : Int32} (hm : m1 = upd m (vf i 0) x) (hd : decode cc pc = .ok (.putfield idx, 3)) (kk : ∀ (H1 : Heap) (locs1 : List Loc), Wd X s m1 H1 locs1 → W p l e R s mi args below meth c H1 locs1 cells slots Q (F0 mi (pc + 3) ls rest)) : W p l e R s mi args below meth c H locs cells slots Q (F0 mi pc ls (.int x :: .ref (ad X 11 i) :: rest)) := zr_put C hW hid zco_11 rfl iX7 tyX7 tyX7_ok nmX7 (k := 0) (by decide) hl rfl rfl rfl (Nat.le_of_ble_eq_true rfl) hm (by rw [lo_11]; (try simp only [sf, vf, hf, lf, tf]); omega) (by rw [hi_11]; (try simp only [sf, vf, hf, lf, tf]); omega) (by rw [hm, zco_11]; simp [zce_11, upd, sf, vf, hf, lf, tf]) hd kk
theorem zg_X7_wait (C : Cx X p s mi args c own cc nL) (hW : Wd X s m H locs) {i : Nat} (hid : (11, i) ∈ ids) {idx : Nat} (hl : (.fieldLink own idx "DeadAir$Voice" "wait" "I" : Cond) ∈ bigW) (hd : decode cc pc = .ok (.getfield idx, 3)) (kk : W p l e R s mi args below meth c H locs cells slots Q (F0 mi (pc + 3) ls (.int (m (vf i 1)) :: rest))) : W p l e R s mi args below meth c H locs cells slots Q (F0 mi pc ls (.ref (ad X 11 i) :: rest)) := zr_get C hW hid zco_11 rfl iX7 (k := 1) (by decide) hl rfl hd kk
theorem zp_X7_wait (C : Cx X p s mi args c own cc nL) (hW : Wd X s m H locs) {i : Nat} (hid : (11, i) ∈ ids) {idx : Nat} (hl : (.fieldLink own idx "DeadAir$Voice" "wait" "I" : Cond) ∈ bigW) {x : Int32} (hm : m1 = upd m (vf i 1) x) (hd : decode cc pc = .ok (.putfield idx, 3)) (kk : ∀ (H1 : Heap) (locs1 : List Loc), Wd X s m1 H1 locs1 → W p l e R s mi args below meth c H1 locs1 cells slots Q (F0 mi (pc + 3) ls rest)) : W p l e R s mi args below meth c H locs cells slots Q (F0 mi pc ls (.int x :: .ref (ad X 11 i) :: rest)) := zr_put C hW hid zco_11 rfl iX7 tyX7 tyX7_ok nmX7 (k := 1) (by decide) hl rfl rfl rfl (Nat.le_of_ble_eq_true rfl) hm (by rw [lo_11]; (try simp only [sf, vf, hf, lf, tf]); omega) (by rw [hi_11]; (try simp only [sf, vf, hf, lf, tf]); omega) (by rw [hm, zco_11]; simp [zce_11, upd, sf, vf, hf, lf, tf]) hd kk
theorem zg_X7_talk (C : Cx X p s mi args c own cc nL) (hW : Wd X s m H locs) {i : Nat} (hid : (11, i) ∈ ids) {idx : Nat} (hl : (.fieldLink own idx "DeadAir$Voice" "talk" "I" : Cond) ∈ bigW) (hd : decode cc pc = .ok (.getfield idx, 3)) (kk : W p l e R s mi args below meth c H locs cells slots Q (F0 mi (pc + 3) ls (.int (m (vf i 2)) :: rest))) : W p l e R s mi args below meth c H locs cells slots Q (F0 mi pc ls (.ref (ad X 11 i) :: rest)) := zr_get C hW hid zco_11 rfl iX7 (k := 2) (by decide) hl rfl hd kk
theorem zp_X7_talk (C : Cx X p s mi args c own cc nL) (hW : Wd X s m H locs) {i : Nat} (hid : (11, i) ∈ ids) {idx : Nat} (hl : (.fieldLink own idx "DeadAir$Voice" "talk" "I" : Cond) ∈ bigW) {x : Int32} (hm : m1 = upd m (vf i 2) x) (hd : decode cc pc = .ok (.putfield idx, 3)) (kk : ∀ (H1 : Heap) (locs1 : List Loc), Wd X s m1 H1 locs1 → W p l e R s mi args below meth c H1 locs1 cells slots Q (F0 mi (pc + 3) ls rest)) : W p l e R s mi args below meth c H locs cells slots Q (F0 mi pc ls (.int x :: .ref (ad X 11 i) :: rest)) := zr_put C hW hid zco_11 rfl iX7 tyX7 tyX7_ok nmX7 (k := 2) (by decide) hl rfl rfl rfl (Nat.le_of_ble_eq_true rfl) hm (by rw [lo_11]; (try simp only [sf, vf, hf, lf, tf]); omega) (by rw [hi_11]; (try simp only [sf, vf, hf, lf, tf]); omega) (by rw [hm, zco_11]; simp [zce_11, upd, sf, vf, hf, lf, tf]) hd kk
theorem zg_X7_pause (C : Cx X p s mi args c own cc nL) (hW : Wd X s m H locs) {i : Nat} (hid : (11, i) ∈ ids) {idx : Nat} (hl : (.fieldLink own idx "DeadAir$Voice" "pause" "I" : Cond) ∈ bigW) (hd : decode cc pc = .ok (.getfield idx, 3)) (kk : W p l e R s mi args below meth c H locs cells slots Q (F0 mi (pc + 3) ls (.int (m (vf i 3)) :: rest))) : W p l e R s mi args below meth c H locs cells slots Q (F0 mi pc ls (.ref (ad X 11 i) :: rest)) := zr_get C hW hid zco_11 rfl iX7 (k := 3) (by decide) hl rfl hd kk
theorem zp_X7_pause (C : Cx X p s mi args c own cc nL) (hW : Wd X s m H locs) {i : Nat} (hid : (11, i) ∈ ids) {idx : Nat} (hl : (.fieldLink own idx "DeadAir$Voice" "pause" "I" : Cond) ∈ bigW) {x : Int32} (hm : m1 = upd m (vf i 3) x) (hd : decode cc pc = .ok (.putfield idx, 3)) (kk : ∀ (H1 : Heap) (locs1 : List Loc), Wd X s m1 H1 locs1 → W p l e R s mi args below meth c H1 locs1 cells slots Q (F0 mi (pc + 3) ls rest)) : W p l e R s mi args below meth c H locs cells slots Q (F0 mi pc ls (.int x :: .ref (ad X 11 i) :: rest)) := zr_put C hW hid zco_11 rfl iX7 tyX7 tyX7_ok nmX7 (k := 3) (by decide) hl rfl rfl rfl (Nat.le_of_ble_eq_true rfl) hm (by rw [lo_11]; (try simp only [sf, vf, hf, lf, tf]); omega) (by rw [hi_11]; (try simp only [sf, vf, hf, lf, tf]); omega) (by rw [hm, zco_11]; simp [zce_11, upd, sf, vf, hf, lf, tf]) hd kk
theorem zg_X7_left (C : Cx X p s mi args c own cc nL) (hW : Wd X s m H locs) {i : Nat} (hid : (11, i) ∈ ids) {idx : Nat} (hl : (.fieldLink own idx "DeadAir$Voice" "left" "I" : Cond) ∈ bigW) (hd : decode cc pc = .ok (.getfield idx, 3)) (kk : W p l e R s mi args below meth c H locs cells slots Q (F0 mi (pc + 3) ls (.int (m (vf i 4)) :: rest))) : W p l e R s mi args below meth c H locs cells slots Q (F0 mi pc ls (.ref (ad X 11 i) :: rest)) := zr_get C hW hid zco_11 rfl iX7 (k := 4) (by decide) hl rfl hd kk
theorem zp_X7_left (C : Cx X p s mi args c own cc nL) (hW : Wd X s m H locs) {i : Nat} (hid : (11, i) ∈ ids) {idx : Nat} (hl : (.fieldLink own idx "DeadAir$Voice" "left" "I" : Cond) ∈ bigW) {x : Int32} (hm : m1 = upd m (vf i 4) x) (hd : decode cc pc = .ok (.putfield idx, 3)) (kk : ∀ (H1 : Heap) (locs1 : List Loc), Wd X s m1 H1 locs1 → W p l e R s mi args below meth c H1 locs1 cells slots Q (F0 mi (pc + 3) ls rest)) : W p l e R s mi args below meth c H locs cells slots Q (F0 mi pc ls (.int x :: .ref (ad X 11 i) :: rest)) := zr_put C hW hid zco_11 rfl iX7 tyX7 tyX7_ok nmX7 (k := 4) (by decide) hl rfl rfl rfl (Nat.le_of_ble_eq_true rfl) hm (by rw [lo_11]; (try simp only [sf, vf, hf, lf, tf]); omega) (by rw [hi_11]; (try simp only [sf, vf, hf, lf, tf]); omega) (by rw [hm, zco_11]; simp [zce_11, upd, sf, vf, hf, lf, tf]) hd kk
theorem zg_X7_back (C : Cx X p s mi args c own cc nL) (hW : Wd X s m H locs) {i : Nat} (hid : (11, i) ∈ ids) {idx : Nat} (hl : (.fieldLink own idx "DeadAir$Voice" "back" "I" : Cond) ∈ bigW) (hd : decode cc pc = .ok (.getfield idx, 3)) (kk : W p l e R s mi args below meth c H locs cells slots Q (F0 mi (pc + 3) ls (.int (m (vf i 5)) :: rest))) : W p l e R s mi args below meth c H locs cells slots Q (F0 mi pc ls (.ref (ad X 11 i) :: rest)) := zr_get C hW hid zco_11 rfl iX7 (k := 5) (by decide) hl rfl hd kk
theorem zp_X7_back (C : Cx X p s mi args c own cc nL) (hW : Wd X s m H locs) {i : Nat} (hid : (11, i) ∈ ids) {idx : Nat} (hl : (.fieldLink own idx "DeadAir$Voice" "back" "I" : Cond) ∈ bigW) {x : Int32} (hm : m1 = upd m (vf i 5) x) (hd : decode cc pc = .ok (.putfield idx, 3)) (kk : ∀ (H1 : Heap) (locs1 : List Loc), Wd X s m1 H1 locs1 → W p l e R s mi args below meth c H1 locs1 cells slots Q (F0 mi (pc + 3) ls rest)) : W p l e R s mi args below meth c H locs cells slots Q (F0 mi pc ls (.int x :: .ref (ad X 11 i) :: rest)) := zr_put C hW hid zco_11 rfl iX7 tyX7 tyX7_ok nmX7 (k := 5) (by decide) hl rfl rfl rfl (Nat.le_of_ble_eq_true rfl) hm (by rw [lo_11]; (try simp only [sf, vf, hf, lf, tf]); omega) (by rw [hi_11]; (try simp only [sf, vf, hf, lf, tf]); omega) (by rw [hm, zco_11]; simp [zce_11, upd, sf, vf, hf, lf, tf]) hd kk
theorem zg_X7_said (C : Cx X p s mi args c own cc nL) (hW : Wd X s m H locs) {i : Nat} (hid : (11, i) ∈ ids) {idx : Nat} (hl : (.fieldLink own idx "DeadAir$Voice" "said" "I" : Cond) ∈ bigW) (hd : decode cc pc = .ok (.getfield idx, 3)) (kk : W p l e R s mi args below meth c H locs cells slots Q (F0 mi (pc + 3) ls (.int (m (vf i 6)) :: rest))) : W p l e R s mi args below meth c H locs cells slots Q (F0 mi pc ls (.ref (ad X 11 i) :: rest)) := zr_get C hW hid zco_11 rfl iX7 (k := 6) (by decide) hl rfl hd kk
theorem zp_X7_said (C : Cx X p s mi args c own cc nL) (hW : Wd X s m H locs) {i : Nat} (hid : (11, i) ∈ ids) {idx : Nat} (hl : (.fieldLink own idx "DeadAir$Voice" "said" "I" : Cond) ∈ bigW) {x : Int32} (hm : m1 = upd m (vf i 6) x) (hd : decode cc pc = .ok (.putfield idx, 3)) (kk : ∀ (H1 : Heap) (locs1 : List Loc), Wd X s m1 H1 locs1 → W p l e R s mi args below meth c H1 locs1 cells slots Q (F0 mi (pc + 3) ls rest)) : W p l e R s mi args below meth c H locs cells slots Q (F0 mi pc ls (.int x :: .ref (ad X 11 i) :: rest)) := zr_put C hW hid zco_11 rfl iX7 tyX7 tyX7_ok nmX7 (k := 6) (by decide) hl rfl rfl rfl (Nat.le_of_ble_eq_true rfl) hm (by rw [lo_11]; (try simp only [sf, vf, hf, lf, tf]); omega) (by rw [hi_11]; (try simp only [sf, vf, hf, lf, tf]); omega) (by rw [hm, zco_11]; simp [zce_11, upd, sf, vf, hf, lf, tf]) hd kk
theorem zg_X0_choice (C : Cx X p s mi args c own cc nL) (hW : Wd X s m H locs) (hid : (13, 0) ∈ ids) {idx : Nat} (hl : (.fieldLink own idx "DeadAir$Best" "choice" "I" : Cond) ∈ bigW) (hd : decode cc pc = .ok (.getfield idx, 3)) (kk : W p l e R s mi args below meth c H locs cells slots Q (F0 mi (pc + 3) ls (.int (m 272) :: rest))) : W p l e R s mi args below meth c H locs cells slots Q (F0 mi pc ls (.ref (ad X 13 0) :: rest)) := zr_get C hW hid zco_13 rfl iX0 (k := 0) (by decide) hl rfl hd kk
theorem zp_X0_choice (C : Cx X p s mi args c own cc nL) (hW : Wd X s m H locs) (hid : (13, 0) ∈ ids) {idx : Nat} (hl : (.fieldLink own idx "DeadAir$Best" "choice" "I" : Cond) ∈ bigW) {x : Int32} (hm : m1 = upd m 272 x) (hd : decode cc pc = .ok (.putfield idx, 3)) (kk : ∀ (H1 : Heap) (locs1 : List Loc), Wd X s m1 H1 locs1 → W p l e R s mi args below meth c H1 locs1 cells slots Q (F0 mi (pc + 3) ls rest)) : W p l e R s mi args below meth c H locs cells slots Q (F0 mi pc ls (.int x :: .ref (ad X 13 0) :: rest)) := zr_put C hW hid zco_13 rfl iX0 tyX0 tyX0_ok nmX0 (k := 0) (by decide) hl rfl rfl rfl (Nat.le_of_ble_eq_true rfl) hm (by rw [lo_13]; (try simp only [sf, vf, hf, lf, tf]); omega) (by rw [hi_13]; (try simp only [sf, vf, hf, lf, tf]); omega) (by rw [hm, zco_13]; simp [zce_13, upd, sf, vf, hf, lf, tf]) hd kk
theorem zg_X0_most (C : Cx X p s mi args c own cc nL) (hW : Wd X s m H locs) (hid : (13, 0) ∈ ids) {idx : Nat} (hl : (.fieldLink own idx "DeadAir$Best" "most" "I" : Cond) ∈ bigW) (hd : decode cc pc = .ok (.getfield idx, 3)) (kk : W p l e R s mi args below meth c H locs cells slots Q (F0 mi (pc + 3) ls (.int (m 273) :: rest))) : W p l e R s mi args below meth c H locs cells slots Q (F0 mi pc ls (.ref (ad X 13 0) :: rest)) := zr_get C hW hid zco_13 rfl iX0 (k := 1) (by decide) hl rfl hd kk
theorem zp_X0_most (C : Cx X p s mi args c own cc nL) (hW : Wd X s m H locs) (hid : (13, 0) ∈ ids) {idx : Nat} (hl : (.fieldLink own idx "DeadAir$Best" "most" "I" : Cond) ∈ bigW) {x : Int32} (hm : m1 = upd m 273 x) (hd : decode cc pc = .ok (.putfield idx, 3)) (kk : ∀ (H1 : Heap) (locs1 : List Loc), Wd X s m1 H1 locs1 → W p l e R s mi args below meth c H1 locs1 cells slots Q (F0 mi (pc + 3) ls rest)) : W p l e R s mi args below meth c H locs cells slots Q (F0 mi pc ls (.int x :: .ref (ad X 13 0) :: rest)) := zr_put C hW hid zco_13 rfl iX0 tyX0 tyX0_ok nmX0 (k := 1) (by decide) hl rfl rfl rfl (Nat.le_of_ble_eq_true rfl) hm (by rw [lo_13]; (try simp only [sf, vf, hf, lf, tf]); omega) (by rw [hi_13]; (try simp only [sf, vf, hf, lf, tf]); omega) (by rw [hm, zco_13]; simp [zce_13, upd, sf, vf, hf, lf, tf]) hd kk
theorem zg_X2_sort (C : Cx X p s mi args c own cc nL) (hW : Wd X s m H locs) {i : Nat} (hid : (15, i) ∈ ids) {idx : Nat} (hl : (.fieldLink own idx "DeadAir$Sheet" "sort" "I" : Cond) ∈ bigW) (hd : decode cc pc = .ok (.getfield idx, 3)) (kk : W p l e R s mi args below meth c H locs cells slots Q (F0 mi (pc + 3) ls (.int (m (hf i 0)) :: rest))) : W p l e R s mi args below meth c H locs cells slots Q (F0 mi pc ls (.ref (ad X 15 i) :: rest)) := zr_get C hW hid zco_15 rfl iX2 (k := 0) (by decide) hl rfl hd kk
theorem zp_X2_sort (C : Cx X p s mi args c own cc nL) (hW : Wd X s m H locs) {i : Nat} (hid : (15, i) ∈ ids) {idx : Nat} (hl : (.fieldLink own idx "DeadAir$Sheet" "sort" "I" : Cond) ∈ bigW) {x : Int32} (hm : m1 = upd m (hf i 0) x) (hd : decode cc pc = .ok (.putfield idx, 3)) (kk : ∀ (H1 : Heap) (locs1 : List Loc), Wd X s m1 H1 locs1 → W p l e R s mi args below meth c H1 locs1 cells slots Q (F0 mi (pc + 3) ls rest)) : W p l e R s mi args below meth c H locs cells slots Q (F0 mi pc ls (.int x :: .ref (ad X 15 i) :: rest)) := zr_put C hW hid zco_15 rfl iX2 tyX2 tyX2_ok nmX2 (k := 0) (by decide) hl rfl rfl rfl (Nat.le_of_ble_eq_true rfl) hm (by rw [lo_15]; (try simp only [sf, vf, hf, lf, tf]); omega) (by rw [hi_15]; (try simp only [sf, vf, hf, lf, tf]); omega) (by rw [hm, zco_15]; simp [zce_15, upd, sf, vf, hf, lf, tf]) hd kk
theorem zg_X2_size (C : Cx X p s mi args c own cc nL) (hW : Wd X s m H locs) {i : Nat} (hid : (15, i) ∈ ids) {idx : Nat} (hl : (.fieldLink own idx "DeadAir$Sheet" "size" "I" : Cond) ∈ bigW) (hd : decode cc pc = .ok (.getfield idx, 3)) (kk : W p l e R s mi args below meth c H locs cells slots Q (F0 mi (pc + 3) ls (.int (m (hf i 1)) :: rest))) : W p l e R s mi args below meth c H locs cells slots Q (F0 mi pc ls (.ref (ad X 15 i) :: rest)) := zr_get C hW hid zco_15 rfl iX2 (k := 1) (by decide) hl rfl hd kk
theorem zp_X2_size (C : Cx X p s mi args c own cc nL) (hW : Wd X s m H locs) {i : Nat} (hid : (15, i) ∈ ids) {idx : Nat} (hl : (.fieldLink own idx "DeadAir$Sheet" "size" "I" : Cond) ∈ bigW) {x : Int32} (hm : m1 = upd m (hf i 1) x) (hd : decode cc pc = .ok (.putfield idx, 3)) (kk : ∀ (H1 : Heap) (locs1 : List Loc), Wd X s m1 H1 locs1 → W p l e R s mi args below meth c H1 locs1 cells slots Q (F0 mi (pc + 3) ls rest)) : W p l e R s mi args below meth c H locs cells slots Q (F0 mi pc ls (.int x :: .ref (ad X 15 i) :: rest)) := zr_put C hW hid zco_15 rfl iX2 tyX2 tyX2_ok nmX2 (k := 1) (by decide) hl rfl rfl rfl (Nat.le_of_ble_eq_true rfl) hm (by rw [lo_15]; (try simp only [sf, vf, hf, lf, tf]); omega) (by rw [hi_15]; (try simp only [sf, vf, hf, lf, tf]); omega) (by rw [hm, zco_15]; simp [zce_15, upd, sf, vf, hf, lf, tf]) hd kk
theorem zg_X2_places (C : Cx X p s mi args c own cc nL) (hW : Wd X s m H locs) {i : Nat} (hid : (15, i) ∈ ids) {idx : Nat} (hl : (.fieldLink own idx "DeadAir$Sheet" "places" "[I" : Cond) ∈ bigW) (hd : decode cc pc = .ok (.getfield idx, 3)) (kk : W p l e R s mi args below meth c H locs cells slots Q (F0 mi (pc + 3) ls (.ref (ad X 16 i) :: rest))) : W p l e R s mi args below meth c H locs cells slots Q (F0 mi pc ls (.ref (ad X 15 i) :: rest)) := zr_get C hW hid zco_15 rfl iX2 (k := 2) (by decide) hl rfl hd kk
theorem zg_X3_thing (C : Cx X p s mi args c own cc nL) (hW : Wd X s m H locs) {i : Nat} (hid : (18, i) ∈ ids) {idx : Nat} (hl : (.fieldLink own idx "DeadAir$Slot" "thing" "I" : Cond) ∈ bigW) (hd : decode cc pc = .ok (.getfield idx, 3)) (kk : W p l e R s mi args below meth c H locs cells slots Q (F0 mi (pc + 3) ls (.int (m (lf i 0)) :: rest))) : W p l e R s mi args below meth c H locs cells slots Q (F0 mi pc ls (.ref (ad X 18 i) :: rest)) := zr_get C hW hid zco_18 rfl iX3 (k := 0) (by decide) hl rfl hd kk
theorem zp_X3_thing (C : Cx X p s mi args c own cc nL) (hW : Wd X s m H locs) {i : Nat} (hid : (18, i) ∈ ids) {idx : Nat} (hl : (.fieldLink own idx "DeadAir$Slot" "thing" "I" : Cond) ∈ bigW) {x : Int32} (hm : m1 = upd m (lf i 0) x) (hd : decode cc pc = .ok (.putfield idx, 3)) (kk : ∀ (H1 : Heap) (locs1 : List Loc), Wd X s m1 H1 locs1 → W p l e R s mi args below meth c H1 locs1 cells slots Q (F0 mi (pc + 3) ls rest)) : W p l e R s mi args below meth c H locs cells slots Q (F0 mi pc ls (.int x :: .ref (ad X 18 i) :: rest)) := zr_put C hW hid zco_18 rfl iX3 tyX3 tyX3_ok nmX3 (k := 0) (by decide) hl rfl rfl rfl (Nat.le_of_ble_eq_true rfl) hm (by rw [lo_18]; (try simp only [sf, vf, hf, lf, tf]); omega) (by rw [hi_18]; (try simp only [sf, vf, hf, lf, tf]); omega) (by rw [hm, zco_18]; simp [zce_18, upd, sf, vf, hf, lf, tf]) hd kk
theorem zg_X3_voice (C : Cx X p s mi args c own cc nL) (hW : Wd X s m H locs) {i : Nat} (hid : (18, i) ∈ ids) {idx : Nat} (hl : (.fieldLink own idx "DeadAir$Slot" "voice" "LDeadAir$Voice;" : Cond) ∈ bigW) (hd : decode cc pc = .ok (.getfield idx, 3)) (kk : W p l e R s mi args below meth c H locs cells slots Q (F0 mi (pc + 3) ls (.ref (ad X 11 (30 + i)) :: rest))) : W p l e R s mi args below meth c H locs cells slots Q (F0 mi pc ls (.ref (ad X 18 i) :: rest)) := zr_get C hW hid zco_18 rfl iX3 (k := 1) (by decide) hl rfl hd kk
theorem zg_X3_row (C : Cx X p s mi args c own cc nL) (hW : Wd X s m H locs) {i : Nat} (hid : (18, i) ∈ ids) {idx : Nat} (hl : (.fieldLink own idx "DeadAir$Slot" "row" "LDeadAir$Sheet;" : Cond) ∈ bigW) (hd : decode cc pc = .ok (.getfield idx, 3)) (kk : W p l e R s mi args below meth c H locs cells slots Q (F0 mi (pc + 3) ls (.ref (ad X 15 (4 + i)) :: rest))) : W p l e R s mi args below meth c H locs cells slots Q (F0 mi pc ls (.ref (ad X 18 i) :: rest)) := zr_get C hW hid zco_18 rfl iX3 (k := 2) (by decide) hl rfl hd kk
theorem zg_X3_number (C : Cx X p s mi args c own cc nL) (hW : Wd X s m H locs) {i : Nat} (hid : (18, i) ∈ ids) {idx : Nat} (hl : (.fieldLink own idx "DeadAir$Slot" "number" "I" : Cond) ∈ bigW) (hd : decode cc pc = .ok (.getfield idx, 3)) (kk : W p l e R s mi args below meth c H locs cells slots Q (F0 mi (pc + 3) ls (.int (m (lf i 1)) :: rest))) : W p l e R s mi args below meth c H locs cells slots Q (F0 mi pc ls (.ref (ad X 18 i) :: rest)) := zr_get C hW hid zco_18 rfl iX3 (k := 3) (by decide) hl rfl hd kk
theorem zp_X3_number (C : Cx X p s mi args c own cc nL) (hW : Wd X s m H locs) {i : Nat} (hid : (18, i) ∈ ids) {idx : Nat} (hl : (.fieldLink own idx "DeadAir$Slot" "number" "I" : Cond) ∈ bigW) {x : Int32} (hm : m1 = upd m (lf i 1) x) (hd : decode cc pc = .ok (.putfield idx, 3)) (kk : ∀ (H1 : Heap) (locs1 : List Loc), Wd X s m1 H1 locs1 → W p l e R s mi args below meth c H1 locs1 cells slots Q (F0 mi (pc + 3) ls rest)) : W p l e R s mi args below meth c H locs cells slots Q (F0 mi pc ls (.int x :: .ref (ad X 18 i) :: rest)) := zr_put C hW hid zco_18 rfl iX3 tyX3 tyX3_ok nmX3 (k := 3) (by decide) hl rfl rfl rfl (Nat.le_of_ble_eq_true rfl) hm (by rw [lo_18]; (try simp only [sf, vf, hf, lf, tf]); omega) (by rw [hi_18]; (try simp only [sf, vf, hf, lf, tf]); omega) (by rw [hm, zco_18]; simp [zce_18, upd, sf, vf, hf, lf, tf]) hd kk
theorem zg_X9_now (C : Cx X p s mi args c own cc nL) (hW : Wd X s m H locs) (hid : (20, 0) ∈ ids) {idx : Nat} (hl : (.fieldLink own idx "DeadAirModel" "now" "[I" : Cond) ∈ bigW) (hd : decode cc pc = .ok (.getfield idx, 3)) (kk : W p l e R s mi args below meth c H locs cells slots Q (F0 mi (pc + 3) ls (.ref (ad X 21 0) :: rest))) : W p l e R s mi args below meth c H locs cells slots Q (F0 mi pc ls (.ref (ad X 20 0) :: rest)) := zr_get C hW hid zco_20 rfl iX9 (k := 0) (by decide) hl rfl hd kk
theorem zg_X9_image (C : Cx X p s mi args c own cc nL) (hW : Wd X s m H locs) (hid : (20, 0) ∈ ids) {idx : Nat} (hl : (.fieldLink own idx "DeadAirModel" "image" "[I" : Cond) ∈ bigW) (hd : decode cc pc = .ok (.getfield idx, 3)) (kk : W p l e R s mi args below meth c H locs cells slots Q (F0 mi (pc + 3) ls (.ref (ad X 21 1) :: rest))) : W p l e R s mi args below meth c H locs cells slots Q (F0 mi pc ls (.ref (ad X 20 0) :: rest)) := zr_get C hW hid zco_20 rfl iX9 (k := 1) (by decide) hl rfl hd kk
theorem zg_X9_aside (C : Cx X p s mi args c own cc nL) (hW : Wd X s m H locs) (hid : (20, 0) ∈ ids) {idx : Nat} (hl : (.fieldLink own idx "DeadAirModel" "aside" "[I" : Cond) ∈ bigW) (hd : decode cc pc = .ok (.getfield idx, 3)) (kk : W p l e R s mi args below meth c H locs cells slots Q (F0 mi (pc + 3) ls (.ref (ad X 21 2) :: rest))) : W p l e R s mi args below meth c H locs cells slots Q (F0 mi pc ls (.ref (ad X 20 0) :: rest)) := zr_get C hW hid zco_20 rfl iX9 (k := 2) (by decide) hl rfl hd kk
theorem zg_X9_hasImage (C : Cx X p s mi args c own cc nL) (hW : Wd X s m H locs) (hid : (20, 0) ∈ ids) {idx : Nat} (hl : (.fieldLink own idx "DeadAirModel" "hasImage" "Z" : Cond) ∈ bigW) (hd : decode cc pc = .ok (.getfield idx, 3)) (kk : W p l e R s mi args below meth c H locs cells slots Q (F0 mi (pc + 3) ls (.int (m 3000) :: rest))) : W p l e R s mi args below meth c H locs cells slots Q (F0 mi pc ls (.ref (ad X 20 0) :: rest)) := zr_get C hW hid zco_20 rfl iX9 (k := 3) (by decide) hl rfl hd kk
theorem zp_X9_hasImage (C : Cx X p s mi args c own cc nL) (hW : Wd X s m H locs) (hid : (20, 0) ∈ ids) {idx : Nat} (hl : (.fieldLink own idx "DeadAirModel" "hasImage" "Z" : Cond) ∈ bigW) {x : Int32} (hB : x = 0 ∨ x = 1) (hm : m1 = upd m 3000 x) (hd : decode cc pc = .ok (.putfield idx, 3)) (kk : ∀ (H1 : Heap) (locs1 : List Loc), Wd X s m1 H1 locs1 → W p l e R s mi args below meth c H1 locs1 cells slots Q (F0 mi (pc + 3) ls rest)) : W p l e R s mi args below meth c H locs cells slots Q (F0 mi pc ls (.int x :: .ref (ad X 20 0) :: rest)) := zr_put C hW hid zco_20 rfl iX9 tyX9 tyX9_ok nmX9 (k := 3) (by decide) hl rfl (nar_B hB) (fit_B hB) (Nat.le_of_ble_eq_true rfl) hm (by rw [lo_20]; (try simp only [sf, vf, hf, lf, tf]); omega) (by rw [hi_20]; (try simp only [sf, vf, hf, lf, tf]); omega) (by rw [hm, zco_20]; simp [zce_20, upd, sf, vf, hf, lf, tf]) hd kk
theorem zg_X9_heardSilence (C : Cx X p s mi args c own cc nL) (hW : Wd X s m H locs) (hid : (20, 0) ∈ ids) {idx : Nat} (hl : (.fieldLink own idx "DeadAirModel" "heardSilence" "I" : Cond) ∈ bigW) (hd : decode cc pc = .ok (.getfield idx, 3)) (kk : W p l e R s mi args below meth c H locs cells slots Q (F0 mi (pc + 3) ls (.int (m 3001) :: rest))) : W p l e R s mi args below meth c H locs cells slots Q (F0 mi pc ls (.ref (ad X 20 0) :: rest)) := zr_get C hW hid zco_20 rfl iX9 (k := 4) (by decide) hl rfl hd kk
theorem zp_X9_heardSilence (C : Cx X p s mi args c own cc nL) (hW : Wd X s m H locs) (hid : (20, 0) ∈ ids) {idx : Nat} (hl : (.fieldLink own idx "DeadAirModel" "heardSilence" "I" : Cond) ∈ bigW) {x : Int32} (hm : m1 = upd m 3001 x) (hd : decode cc pc = .ok (.putfield idx, 3)) (kk : ∀ (H1 : Heap) (locs1 : List Loc), Wd X s m1 H1 locs1 → W p l e R s mi args below meth c H1 locs1 cells slots Q (F0 mi (pc + 3) ls rest)) : W p l e R s mi args below meth c H locs cells slots Q (F0 mi pc ls (.int x :: .ref (ad X 20 0) :: rest)) := zr_put C hW hid zco_20 rfl iX9 tyX9 tyX9_ok nmX9 (k := 4) (by decide) hl rfl rfl rfl (Nat.le_of_ble_eq_true rfl) hm (by rw [lo_20]; (try simp only [sf, vf, hf, lf, tf]); omega) (by rw [hi_20]; (try simp only [sf, vf, hf, lf, tf]); omega) (by rw [hm, zco_20]; simp [zce_20, upd, sf, vf, hf, lf, tf]) hd kk
theorem zg_X9_before (C : Cx X p s mi args c own cc nL) (hW : Wd X s m H locs) (hid : (20, 0) ∈ ids) {idx : Nat} (hl : (.fieldLink own idx "DeadAirModel" "before" "[I" : Cond) ∈ bigW) (hd : decode cc pc = .ok (.getfield idx, 3)) (kk : W p l e R s mi args below meth c H locs cells slots Q (F0 mi (pc + 3) ls (.ref (ad X 22 0) :: rest))) : W p l e R s mi args below meth c H locs cells slots Q (F0 mi pc ls (.ref (ad X 20 0) :: rest)) := zr_get C hW hid zco_20 rfl iX9 (k := 5) (by decide) hl rfl hd kk
theorem zg_X9_differ (C : Cx X p s mi args c own cc nL) (hW : Wd X s m H locs) (hid : (20, 0) ∈ ids) {idx : Nat} (hl : (.fieldLink own idx "DeadAirModel" "differ" "[J" : Cond) ∈ bigW) (hd : decode cc pc = .ok (.getfield idx, 3)) (kk : W p l e R s mi args below meth c H locs cells slots Q (F0 mi (pc + 3) ls (.ref (ad X 23 0) :: rest))) : W p l e R s mi args below meth c H locs cells slots Q (F0 mi pc ls (.ref (ad X 20 0) :: rest)) := zr_get C hW hid zco_20 rfl iX9 (k := 6) (by decide) hl rfl hd kk
theorem zg_X9_tape (C : Cx X p s mi args c own cc nL) (hW : Wd X s m H locs) (hid : (20, 0) ∈ ids) {idx : Nat} (hl : (.fieldLink own idx "DeadAirModel" "tape" "[I" : Cond) ∈ bigW) (hd : decode cc pc = .ok (.getfield idx, 3)) (kk : W p l e R s mi args below meth c H locs cells slots Q (F0 mi (pc + 3) ls (.ref (ad X 24 0) :: rest))) : W p l e R s mi args below meth c H locs cells slots Q (F0 mi pc ls (.ref (ad X 20 0) :: rest)) := zr_get C hW hid zco_20 rfl iX9 (k := 7) (by decide) hl rfl hd kk
theorem zg_X9_taped (C : Cx X p s mi args c own cc nL) (hW : Wd X s m H locs) (hid : (20, 0) ∈ ids) {idx : Nat} (hl : (.fieldLink own idx "DeadAirModel" "taped" "I" : Cond) ∈ bigW) (hd : decode cc pc = .ok (.getfield idx, 3)) (kk : W p l e R s mi args below meth c H locs cells slots Q (F0 mi (pc + 3) ls (.int (m 3002) :: rest))) : W p l e R s mi args below meth c H locs cells slots Q (F0 mi pc ls (.ref (ad X 20 0) :: rest)) := zr_get C hW hid zco_20 rfl iX9 (k := 8) (by decide) hl rfl hd kk
theorem zp_X9_taped (C : Cx X p s mi args c own cc nL) (hW : Wd X s m H locs) (hid : (20, 0) ∈ ids) {idx : Nat} (hl : (.fieldLink own idx "DeadAirModel" "taped" "I" : Cond) ∈ bigW) {x : Int32} (hm : m1 = upd m 3002 x) (hd : decode cc pc = .ok (.putfield idx, 3)) (kk : ∀ (H1 : Heap) (locs1 : List Loc), Wd X s m1 H1 locs1 → W p l e R s mi args below meth c H1 locs1 cells slots Q (F0 mi (pc + 3) ls rest)) : W p l e R s mi args below meth c H locs cells slots Q (F0 mi pc ls (.int x :: .ref (ad X 20 0) :: rest)) := zr_put C hW hid zco_20 rfl iX9 tyX9 tyX9_ok nmX9 (k := 8) (by decide) hl rfl rfl rfl (Nat.le_of_ble_eq_true rfl) hm (by rw [lo_20]; (try simp only [sf, vf, hf, lf, tf]); omega) (by rw [hi_20]; (try simp only [sf, vf, hf, lf, tf]); omega) (by rw [hm, zco_20]; simp [zce_20, upd, sf, vf, hf, lf, tf]) hd kk
theorem zg_X9_next (C : Cx X p s mi args c own cc nL) (hW : Wd X s m H locs) (hid : (20, 0) ∈ ids) {idx : Nat} (hl : (.fieldLink own idx "DeadAirModel" "next" "I" : Cond) ∈ bigW) (hd : decode cc pc = .ok (.getfield idx, 3)) (kk : W p l e R s mi args below meth c H locs cells slots Q (F0 mi (pc + 3) ls (.int (m 3003) :: rest))) : W p l e R s mi args below meth c H locs cells slots Q (F0 mi pc ls (.ref (ad X 20 0) :: rest)) := zr_get C hW hid zco_20 rfl iX9 (k := 9) (by decide) hl rfl hd kk
theorem zp_X9_next (C : Cx X p s mi args c own cc nL) (hW : Wd X s m H locs) (hid : (20, 0) ∈ ids) {idx : Nat} (hl : (.fieldLink own idx "DeadAirModel" "next" "I" : Cond) ∈ bigW) {x : Int32} (hm : m1 = upd m 3003 x) (hd : decode cc pc = .ok (.putfield idx, 3)) (kk : ∀ (H1 : Heap) (locs1 : List Loc), Wd X s m1 H1 locs1 → W p l e R s mi args below meth c H1 locs1 cells slots Q (F0 mi (pc + 3) ls rest)) : W p l e R s mi args below meth c H locs cells slots Q (F0 mi pc ls (.int x :: .ref (ad X 20 0) :: rest)) := zr_put C hW hid zco_20 rfl iX9 tyX9 tyX9_ok nmX9 (k := 9) (by decide) hl rfl rfl rfl (Nat.le_of_ble_eq_true rfl) hm (by rw [lo_20]; (try simp only [sf, vf, hf, lf, tf]); omega) (by rw [hi_20]; (try simp only [sf, vf, hf, lf, tf]); omega) (by rw [hm, zco_20]; simp [zce_20, upd, sf, vf, hf, lf, tf]) hd kk
theorem zg_X9_from (C : Cx X p s mi args c own cc nL) (hW : Wd X s m H locs) (hid : (20, 0) ∈ ids) {idx : Nat} (hl : (.fieldLink own idx "DeadAirModel" "from" "I" : Cond) ∈ bigW) (hd : decode cc pc = .ok (.getfield idx, 3)) (kk : W p l e R s mi args below meth c H locs cells slots Q (F0 mi (pc + 3) ls (.int (m 3004) :: rest))) : W p l e R s mi args below meth c H locs cells slots Q (F0 mi pc ls (.ref (ad X 20 0) :: rest)) := zr_get C hW hid zco_20 rfl iX9 (k := 10) (by decide) hl rfl hd kk
theorem zp_X9_from (C : Cx X p s mi args c own cc nL) (hW : Wd X s m H locs) (hid : (20, 0) ∈ ids) {idx : Nat} (hl : (.fieldLink own idx "DeadAirModel" "from" "I" : Cond) ∈ bigW) {x : Int32} (hm : m1 = upd m 3004 x) (hd : decode cc pc = .ok (.putfield idx, 3)) (kk : ∀ (H1 : Heap) (locs1 : List Loc), Wd X s m1 H1 locs1 → W p l e R s mi args below meth c H1 locs1 cells slots Q (F0 mi (pc + 3) ls rest)) : W p l e R s mi args below meth c H locs cells slots Q (F0 mi pc ls (.int x :: .ref (ad X 20 0) :: rest)) := zr_put C hW hid zco_20 rfl iX9 tyX9 tyX9_ok nmX9 (k := 10) (by decide) hl rfl rfl rfl (Nat.le_of_ble_eq_true rfl) hm (by rw [lo_20]; (try simp only [sf, vf, hf, lf, tf]); omega) (by rw [hi_20]; (try simp only [sf, vf, hf, lf, tf]); omega) (by rw [hm, zco_20]; simp [zce_20, upd, sf, vf, hf, lf, tf]) hd kk
theorem zg_X9_token (C : Cx X p s mi args c own cc nL) (hW : Wd X s m H locs) (hid : (20, 0) ∈ ids) {idx : Nat} (hl : (.fieldLink own idx "DeadAirModel" "token" "I" : Cond) ∈ bigW) (hd : decode cc pc = .ok (.getfield idx, 3)) (kk : W p l e R s mi args below meth c H locs cells slots Q (F0 mi (pc + 3) ls (.int (m 3005) :: rest))) : W p l e R s mi args below meth c H locs cells slots Q (F0 mi pc ls (.ref (ad X 20 0) :: rest)) := zr_get C hW hid zco_20 rfl iX9 (k := 11) (by decide) hl rfl hd kk
theorem zp_X9_token (C : Cx X p s mi args c own cc nL) (hW : Wd X s m H locs) (hid : (20, 0) ∈ ids) {idx : Nat} (hl : (.fieldLink own idx "DeadAirModel" "token" "I" : Cond) ∈ bigW) {x : Int32} (hm : m1 = upd m 3005 x) (hd : decode cc pc = .ok (.putfield idx, 3)) (kk : ∀ (H1 : Heap) (locs1 : List Loc), Wd X s m1 H1 locs1 → W p l e R s mi args below meth c H1 locs1 cells slots Q (F0 mi (pc + 3) ls rest)) : W p l e R s mi args below meth c H locs cells slots Q (F0 mi pc ls (.int x :: .ref (ad X 20 0) :: rest)) := zr_put C hW hid zco_20 rfl iX9 tyX9 tyX9_ok nmX9 (k := 11) (by decide) hl rfl rfl rfl (Nat.le_of_ble_eq_true rfl) hm (by rw [lo_20]; (try simp only [sf, vf, hf, lf, tf]); omega) (by rw [hi_20]; (try simp only [sf, vf, hf, lf, tf]); omega) (by rw [hm, zco_20]; simp [zce_20, upd, sf, vf, hf, lf, tf]) hd kk
theorem zg_X9_value (C : Cx X p s mi args c own cc nL) (hW : Wd X s m H locs) (hid : (20, 0) ∈ ids) {idx : Nat} (hl : (.fieldLink own idx "DeadAirModel" "value" "I" : Cond) ∈ bigW) (hd : decode cc pc = .ok (.getfield idx, 3)) (kk : W p l e R s mi args below meth c H locs cells slots Q (F0 mi (pc + 3) ls (.int (m 3006) :: rest))) : W p l e R s mi args below meth c H locs cells slots Q (F0 mi pc ls (.ref (ad X 20 0) :: rest)) := zr_get C hW hid zco_20 rfl iX9 (k := 12) (by decide) hl rfl hd kk
theorem zp_X9_value (C : Cx X p s mi args c own cc nL) (hW : Wd X s m H locs) (hid : (20, 0) ∈ ids) {idx : Nat} (hl : (.fieldLink own idx "DeadAirModel" "value" "I" : Cond) ∈ bigW) {x : Int32} (hm : m1 = upd m 3006 x) (hd : decode cc pc = .ok (.putfield idx, 3)) (kk : ∀ (H1 : Heap) (locs1 : List Loc), Wd X s m1 H1 locs1 → W p l e R s mi args below meth c H1 locs1 cells slots Q (F0 mi (pc + 3) ls rest)) : W p l e R s mi args below meth c H locs cells slots Q (F0 mi pc ls (.int x :: .ref (ad X 20 0) :: rest)) := zr_put C hW hid zco_20 rfl iX9 tyX9 tyX9_ok nmX9 (k := 12) (by decide) hl rfl rfl rfl (Nat.le_of_ble_eq_true rfl) hm (by rw [lo_20]; (try simp only [sf, vf, hf, lf, tf]); omega) (by rw [hi_20]; (try simp only [sf, vf, hf, lf, tf]); omega) (by rw [hm, zco_20]; simp [zce_20, upd, sf, vf, hf, lf, tf]) hd kk
theorem zg_X9_ended (C : Cx X p s mi args c own cc nL) (hW : Wd X s m H locs) (hid : (20, 0) ∈ ids) {idx : Nat} (hl : (.fieldLink own idx "DeadAirModel" "ended" "I" : Cond) ∈ bigW) (hd : decode cc pc = .ok (.getfield idx, 3)) (kk : W p l e R s mi args below meth c H locs cells slots Q (F0 mi (pc + 3) ls (.int (m 3007) :: rest))) : W p l e R s mi args below meth c H locs cells slots Q (F0 mi pc ls (.ref (ad X 20 0) :: rest)) := zr_get C hW hid zco_20 rfl iX9 (k := 13) (by decide) hl rfl hd kk
theorem zp_X9_ended (C : Cx X p s mi args c own cc nL) (hW : Wd X s m H locs) (hid : (20, 0) ∈ ids) {idx : Nat} (hl : (.fieldLink own idx "DeadAirModel" "ended" "I" : Cond) ∈ bigW) {x : Int32} (hm : m1 = upd m 3007 x) (hd : decode cc pc = .ok (.putfield idx, 3)) (kk : ∀ (H1 : Heap) (locs1 : List Loc), Wd X s m1 H1 locs1 → W p l e R s mi args below meth c H1 locs1 cells slots Q (F0 mi (pc + 3) ls rest)) : W p l e R s mi args below meth c H locs cells slots Q (F0 mi pc ls (.int x :: .ref (ad X 20 0) :: rest)) := zr_put C hW hid zco_20 rfl iX9 tyX9 tyX9_ok nmX9 (k := 13) (by decide) hl rfl rfl rfl (Nat.le_of_ble_eq_true rfl) hm (by rw [lo_20]; (try simp only [sf, vf, hf, lf, tf]); omega) (by rw [hi_20]; (try simp only [sf, vf, hf, lf, tf]); omega) (by rw [hm, zco_20]; simp [zce_20, upd, sf, vf, hf, lf, tf]) hd kk
theorem zg_X9_key (C : Cx X p s mi args c own cc nL) (hW : Wd X s m H locs) (hid : (20, 0) ∈ ids) {idx : Nat} (hl : (.fieldLink own idx "DeadAirModel" "key" "I" : Cond) ∈ bigW) (hd : decode cc pc = .ok (.getfield idx, 3)) (kk : W p l e R s mi args below meth c H locs cells slots Q (F0 mi (pc + 3) ls (.int (m 3008) :: rest))) : W p l e R s mi args below meth c H locs cells slots Q (F0 mi pc ls (.ref (ad X 20 0) :: rest)) := zr_get C hW hid zco_20 rfl iX9 (k := 14) (by decide) hl rfl hd kk
theorem zp_X9_key (C : Cx X p s mi args c own cc nL) (hW : Wd X s m H locs) (hid : (20, 0) ∈ ids) {idx : Nat} (hl : (.fieldLink own idx "DeadAirModel" "key" "I" : Cond) ∈ bigW) {x : Int32} (hm : m1 = upd m 3008 x) (hd : decode cc pc = .ok (.putfield idx, 3)) (kk : ∀ (H1 : Heap) (locs1 : List Loc), Wd X s m1 H1 locs1 → W p l e R s mi args below meth c H1 locs1 cells slots Q (F0 mi (pc + 3) ls rest)) : W p l e R s mi args below meth c H locs cells slots Q (F0 mi pc ls (.int x :: .ref (ad X 20 0) :: rest)) := zr_put C hW hid zco_20 rfl iX9 tyX9 tyX9_ok nmX9 (k := 14) (by decide) hl rfl rfl rfl (Nat.le_of_ble_eq_true rfl) hm (by rw [lo_20]; (try simp only [sf, vf, hf, lf, tf]); omega) (by rw [hi_20]; (try simp only [sf, vf, hf, lf, tf]); omega) (by rw [hm, zco_20]; simp [zce_20, upd, sf, vf, hf, lf, tf]) hd kk
theorem zg_X9_keys (C : Cx X p s mi args c own cc nL) (hW : Wd X s m H locs) (hid : (20, 0) ∈ ids) {idx : Nat} (hl : (.fieldLink own idx "DeadAirModel" "keys" "[C" : Cond) ∈ bigW) (hd : decode cc pc = .ok (.getfield idx, 3)) (kk : W p l e R s mi args below meth c H locs cells slots Q (F0 mi (pc + 3) ls (.ref (ad X 25 0) :: rest))) : W p l e R s mi args below meth c H locs cells slots Q (F0 mi pc ls (.ref (ad X 20 0) :: rest)) := zr_get C hW hid zco_20 rfl iX9 (k := 15) (by decide) hl rfl hd kk
theorem zg_X9_keyAt (C : Cx X p s mi args c own cc nL) (hW : Wd X s m H locs) (hid : (20, 0) ∈ ids) {idx : Nat} (hl : (.fieldLink own idx "DeadAirModel" "keyAt" "[I" : Cond) ∈ bigW) (hd : decode cc pc = .ok (.getfield idx, 3)) (kk : W p l e R s mi args below meth c H locs cells slots Q (F0 mi (pc + 3) ls (.ref (ad X 26 0) :: rest))) : W p l e R s mi args below meth c H locs cells slots Q (F0 mi pc ls (.ref (ad X 20 0) :: rest)) := zr_get C hW hid zco_20 rfl iX9 (k := 16) (by decide) hl rfl hd kk
theorem zg_X9_code (C : Cx X p s mi args c own cc nL) (hW : Wd X s m H locs) (hid : (20, 0) ∈ ids) {idx : Nat} (hl : (.fieldLink own idx "DeadAirModel" "code" "[I" : Cond) ∈ bigW) (hd : decode cc pc = .ok (.getfield idx, 3)) (kk : W p l e R s mi args below meth c H locs cells slots Q (F0 mi (pc + 3) ls (.ref (ad X 27 0) :: rest))) : W p l e R s mi args below meth c H locs cells slots Q (F0 mi pc ls (.ref (ad X 20 0) :: rest)) := zr_get C hW hid zco_20 rfl iX9 (k := 17) (by decide) hl rfl hd kk
theorem zg_X9_codes (C : Cx X p s mi args c own cc nL) (hW : Wd X s m H locs) (hid : (20, 0) ∈ ids) {idx : Nat} (hl : (.fieldLink own idx "DeadAirModel" "codes" "I" : Cond) ∈ bigW) (hd : decode cc pc = .ok (.getfield idx, 3)) (kk : W p l e R s mi args below meth c H locs cells slots Q (F0 mi (pc + 3) ls (.int (m 3009) :: rest))) : W p l e R s mi args below meth c H locs cells slots Q (F0 mi pc ls (.ref (ad X 20 0) :: rest)) := zr_get C hW hid zco_20 rfl iX9 (k := 18) (by decide) hl rfl hd kk
theorem zp_X9_codes (C : Cx X p s mi args c own cc nL) (hW : Wd X s m H locs) (hid : (20, 0) ∈ ids) {idx : Nat} (hl : (.fieldLink own idx "DeadAirModel" "codes" "I" : Cond) ∈ bigW) {x : Int32} (hm : m1 = upd m 3009 x) (hd : decode cc pc = .ok (.putfield idx, 3)) (kk : ∀ (H1 : Heap) (locs1 : List Loc), Wd X s m1 H1 locs1 → W p l e R s mi args below meth c H1 locs1 cells slots Q (F0 mi (pc + 3) ls rest)) : W p l e R s mi args below meth c H locs cells slots Q (F0 mi pc ls (.int x :: .ref (ad X 20 0) :: rest)) := zr_put C hW hid zco_20 rfl iX9 tyX9 tyX9_ok nmX9 (k := 18) (by decide) hl rfl rfl rfl (Nat.le_of_ble_eq_true rfl) hm (by rw [lo_20]; (try simp only [sf, vf, hf, lf, tf]); omega) (by rw [hi_20]; (try simp only [sf, vf, hf, lf, tf]); omega) (by rw [hm, zco_20]; simp [zce_20, upd, sf, vf, hf, lf, tf]) hd kk
theorem zg_X9_atoms (C : Cx X p s mi args c own cc nL) (hW : Wd X s m H locs) (hid : (20, 0) ∈ ids) {idx : Nat} (hl : (.fieldLink own idx "DeadAirModel" "atoms" "I" : Cond) ∈ bigW) (hd : decode cc pc = .ok (.getfield idx, 3)) (kk : W p l e R s mi args below meth c H locs cells slots Q (F0 mi (pc + 3) ls (.int (m 3010) :: rest))) : W p l e R s mi args below meth c H locs cells slots Q (F0 mi pc ls (.ref (ad X 20 0) :: rest)) := zr_get C hW hid zco_20 rfl iX9 (k := 19) (by decide) hl rfl hd kk
theorem zp_X9_atoms (C : Cx X p s mi args c own cc nL) (hW : Wd X s m H locs) (hid : (20, 0) ∈ ids) {idx : Nat} (hl : (.fieldLink own idx "DeadAirModel" "atoms" "I" : Cond) ∈ bigW) {x : Int32} (hm : m1 = upd m 3010 x) (hd : decode cc pc = .ok (.putfield idx, 3)) (kk : ∀ (H1 : Heap) (locs1 : List Loc), Wd X s m1 H1 locs1 → W p l e R s mi args below meth c H1 locs1 cells slots Q (F0 mi (pc + 3) ls rest)) : W p l e R s mi args below meth c H locs cells slots Q (F0 mi pc ls (.int x :: .ref (ad X 20 0) :: rest)) := zr_put C hW hid zco_20 rfl iX9 tyX9 tyX9_ok nmX9 (k := 19) (by decide) hl rfl rfl rfl (Nat.le_of_ble_eq_true rfl) hm (by rw [lo_20]; (try simp only [sf, vf, hf, lf, tf]); omega) (by rw [hi_20]; (try simp only [sf, vf, hf, lf, tf]); omega) (by rw [hm, zco_20]; simp [zce_20, upd, sf, vf, hf, lf, tf]) hd kk
theorem zg_X9_waits (C : Cx X p s mi args c own cc nL) (hW : Wd X s m H locs) (hid : (20, 0) ∈ ids) {idx : Nat} (hl : (.fieldLink own idx "DeadAirModel" "waits" "[I" : Cond) ∈ bigW) (hd : decode cc pc = .ok (.getfield idx, 3)) (kk : W p l e R s mi args below meth c H locs cells slots Q (F0 mi (pc + 3) ls (.ref (ad X 28 0) :: rest))) : W p l e R s mi args below meth c H locs cells slots Q (F0 mi pc ls (.ref (ad X 20 0) :: rest)) := zr_get C hW hid zco_20 rfl iX9 (k := 20) (by decide) hl rfl hd kk
theorem zg_X9_held (C : Cx X p s mi args c own cc nL) (hW : Wd X s m H locs) (hid : (20, 0) ∈ ids) {idx : Nat} (hl : (.fieldLink own idx "DeadAirModel" "held" "I" : Cond) ∈ bigW) (hd : decode cc pc = .ok (.getfield idx, 3)) (kk : W p l e R s mi args below meth c H locs cells slots Q (F0 mi (pc + 3) ls (.int (m 3011) :: rest))) : W p l e R s mi args below meth c H locs cells slots Q (F0 mi pc ls (.ref (ad X 20 0) :: rest)) := zr_get C hW hid zco_20 rfl iX9 (k := 21) (by decide) hl rfl hd kk
theorem zp_X9_held (C : Cx X p s mi args c own cc nL) (hW : Wd X s m H locs) (hid : (20, 0) ∈ ids) {idx : Nat} (hl : (.fieldLink own idx "DeadAirModel" "held" "I" : Cond) ∈ bigW) {x : Int32} (hm : m1 = upd m 3011 x) (hd : decode cc pc = .ok (.putfield idx, 3)) (kk : ∀ (H1 : Heap) (locs1 : List Loc), Wd X s m1 H1 locs1 → W p l e R s mi args below meth c H1 locs1 cells slots Q (F0 mi (pc + 3) ls rest)) : W p l e R s mi args below meth c H locs cells slots Q (F0 mi pc ls (.int x :: .ref (ad X 20 0) :: rest)) := zr_put C hW hid zco_20 rfl iX9 tyX9 tyX9_ok nmX9 (k := 21) (by decide) hl rfl rfl rfl (Nat.le_of_ble_eq_true rfl) hm (by rw [lo_20]; (try simp only [sf, vf, hf, lf, tf]); omega) (by rw [hi_20]; (try simp only [sf, vf, hf, lf, tf]); omega) (by rw [hm, zco_20]; simp [zce_20, upd, sf, vf, hf, lf, tf]) hd kk
theorem zg_X9_tested (C : Cx X p s mi args c own cc nL) (hW : Wd X s m H locs) (hid : (20, 0) ∈ ids) {idx : Nat} (hl : (.fieldLink own idx "DeadAirModel" "tested" "[Z" : Cond) ∈ bigW) (hd : decode cc pc = .ok (.getfield idx, 3)) (kk : W p l e R s mi args below meth c H locs cells slots Q (F0 mi (pc + 3) ls (.ref (ad X 29 0) :: rest))) : W p l e R s mi args below meth c H locs cells slots Q (F0 mi pc ls (.ref (ad X 20 0) :: rest)) := zr_get C hW hid zco_20 rfl iX9 (k := 22) (by decide) hl rfl hd kk
theorem zg_X9_stack (C : Cx X p s mi args c own cc nL) (hW : Wd X s m H locs) (hid : (20, 0) ∈ ids) {idx : Nat} (hl : (.fieldLink own idx "DeadAirModel" "stack" "[I" : Cond) ∈ bigW) (hd : decode cc pc = .ok (.getfield idx, 3)) (kk : W p l e R s mi args below meth c H locs cells slots Q (F0 mi (pc + 3) ls (.ref (ad X 30 0) :: rest))) : W p l e R s mi args below meth c H locs cells slots Q (F0 mi pc ls (.ref (ad X 20 0) :: rest)) := zr_get C hW hid zco_20 rfl iX9 (k := 23) (by decide) hl rfl hd kk
theorem zg_X9_facts (C : Cx X p s mi args c own cc nL) (hW : Wd X s m H locs) (hid : (20, 0) ∈ ids) {idx : Nat} (hl : (.fieldLink own idx "DeadAirModel" "facts" "[I" : Cond) ∈ bigW) (hd : decode cc pc = .ok (.getfield idx, 3)) (kk : W p l e R s mi args below meth c H locs cells slots Q (F0 mi (pc + 3) ls (.ref (ad X 31 0) :: rest))) : W p l e R s mi args below meth c H locs cells slots Q (F0 mi pc ls (.ref (ad X 20 0) :: rest)) := zr_get C hW hid zco_20 rfl iX9 (k := 24) (by decide) hl rfl hd kk
theorem zg_X9_sorts (C : Cx X p s mi args c own cc nL) (hW : Wd X s m H locs) (hid : (20, 0) ∈ ids) {idx : Nat} (hl : (.fieldLink own idx "DeadAirModel" "sorts" "[I" : Cond) ∈ bigW) (hd : decode cc pc = .ok (.getfield idx, 3)) (kk : W p l e R s mi args below meth c H locs cells slots Q (F0 mi (pc + 3) ls (.ref (ad X 32 0) :: rest))) : W p l e R s mi args below meth c H locs cells slots Q (F0 mi pc ls (.ref (ad X 20 0) :: rest)) := zr_get C hW hid zco_20 rfl iX9 (k := 25) (by decide) hl rfl hd kk
theorem zg_X9_sizes (C : Cx X p s mi args c own cc nL) (hW : Wd X s m H locs) (hid : (20, 0) ∈ ids) {idx : Nat} (hl : (.fieldLink own idx "DeadAirModel" "sizes" "[I" : Cond) ∈ bigW) (hd : decode cc pc = .ok (.getfield idx, 3)) (kk : W p l e R s mi args below meth c H locs cells slots Q (F0 mi (pc + 3) ls (.ref (ad X 33 0) :: rest))) : W p l e R s mi args below meth c H locs cells slots Q (F0 mi pc ls (.ref (ad X 20 0) :: rest)) := zr_get C hW hid zco_20 rfl iX9 (k := 26) (by decide) hl rfl hd kk
theorem zg_X9_cells (C : Cx X p s mi args c own cc nL) (hW : Wd X s m H locs) (hid : (20, 0) ∈ ids) {idx : Nat} (hl : (.fieldLink own idx "DeadAirModel" "cells" "[I" : Cond) ∈ bigW) (hd : decode cc pc = .ok (.getfield idx, 3)) (kk : W p l e R s mi args below meth c H locs cells slots Q (F0 mi (pc + 3) ls (.ref (ad X 34 0) :: rest))) : W p l e R s mi args below meth c H locs cells slots Q (F0 mi pc ls (.ref (ad X 20 0) :: rest)) := zr_get C hW hid zco_20 rfl iX9 (k := 27) (by decide) hl rfl hd kk
theorem zg_X9_holds (C : Cx X p s mi args c own cc nL) (hW : Wd X s m H locs) (hid : (20, 0) ∈ ids) {idx : Nat} (hl : (.fieldLink own idx "DeadAirModel" "holds" "[I" : Cond) ∈ bigW) (hd : decode cc pc = .ok (.getfield idx, 3)) (kk : W p l e R s mi args below meth c H locs cells slots Q (F0 mi (pc + 3) ls (.ref (ad X 35 0) :: rest))) : W p l e R s mi args below meth c H locs cells slots Q (F0 mi pc ls (.ref (ad X 20 0) :: rest)) := zr_get C hW hid zco_20 rfl iX9 (k := 28) (by decide) hl rfl hd kk
theorem zg_X9_holdsA (C : Cx X p s mi args c own cc nL) (hW : Wd X s m H locs) (hid : (20, 0) ∈ ids) {idx : Nat} (hl : (.fieldLink own idx "DeadAirModel" "holdsA" "[I" : Cond) ∈ bigW) (hd : decode cc pc = .ok (.getfield idx, 3)) (kk : W p l e R s mi args below meth c H locs cells slots Q (F0 mi (pc + 3) ls (.ref (ad X 36 0) :: rest))) : W p l e R s mi args below meth c H locs cells slots Q (F0 mi pc ls (.ref (ad X 20 0) :: rest)) := zr_get C hW hid zco_20 rfl iX9 (k := 29) (by decide) hl rfl hd kk
theorem zg_X9_holdsB (C : Cx X p s mi args c own cc nL) (hW : Wd X s m H locs) (hid : (20, 0) ∈ ids) {idx : Nat} (hl : (.fieldLink own idx "DeadAirModel" "holdsB" "[I" : Cond) ∈ bigW) (hd : decode cc pc = .ok (.getfield idx, 3)) (kk : W p l e R s mi args below meth c H locs cells slots Q (F0 mi (pc + 3) ls (.ref (ad X 37 0) :: rest))) : W p l e R s mi args below meth c H locs cells slots Q (F0 mi pc ls (.ref (ad X 20 0) :: rest)) := zr_get C hW hid zco_20 rfl iX9 (k := 30) (by decide) hl rfl hd kk
theorem zg_X9_heldCells (C : Cx X p s mi args c own cc nL) (hW : Wd X s m H locs) (hid : (20, 0) ∈ ids) {idx : Nat} (hl : (.fieldLink own idx "DeadAirModel" "heldCells" "[I" : Cond) ∈ bigW) (hd : decode cc pc = .ok (.getfield idx, 3)) (kk : W p l e R s mi args below meth c H locs cells slots Q (F0 mi (pc + 3) ls (.ref (ad X 38 0) :: rest))) : W p l e R s mi args below meth c H locs cells slots Q (F0 mi pc ls (.ref (ad X 20 0) :: rest)) := zr_get C hW hid zco_20 rfl iX9 (k := 31) (by decide) hl rfl hd kk
theorem zg_X9_moved (C : Cx X p s mi args c own cc nL) (hW : Wd X s m H locs) (hid : (20, 0) ∈ ids) {idx : Nat} (hl : (.fieldLink own idx "DeadAirModel" "moved" "[I" : Cond) ∈ bigW) (hd : decode cc pc = .ok (.getfield idx, 3)) (kk : W p l e R s mi args below meth c H locs cells slots Q (F0 mi (pc + 3) ls (.ref (ad X 39 0) :: rest))) : W p l e R s mi args below meth c H locs cells slots Q (F0 mi pc ls (.ref (ad X 20 0) :: rest)) := zr_get C hW hid zco_20 rfl iX9 (k := 32) (by decide) hl rfl hd kk
theorem zg_X9_tells (C : Cx X p s mi args c own cc nL) (hW : Wd X s m H locs) (hid : (20, 0) ∈ ids) {idx : Nat} (hl : (.fieldLink own idx "DeadAirModel" "tells" "[I" : Cond) ∈ bigW) (hd : decode cc pc = .ok (.getfield idx, 3)) (kk : W p l e R s mi args below meth c H locs cells slots Q (F0 mi (pc + 3) ls (.ref (ad X 40 0) :: rest))) : W p l e R s mi args below meth c H locs cells slots Q (F0 mi pc ls (.ref (ad X 20 0) :: rest)) := zr_get C hW hid zco_20 rfl iX9 (k := 33) (by decide) hl rfl hd kk
theorem zg_X9_waiting (C : Cx X p s mi args c own cc nL) (hW : Wd X s m H locs) (hid : (20, 0) ∈ ids) {idx : Nat} (hl : (.fieldLink own idx "DeadAirModel" "waiting" "I" : Cond) ∈ bigW) (hd : decode cc pc = .ok (.getfield idx, 3)) (kk : W p l e R s mi args below meth c H locs cells slots Q (F0 mi (pc + 3) ls (.int (m 3012) :: rest))) : W p l e R s mi args below meth c H locs cells slots Q (F0 mi pc ls (.ref (ad X 20 0) :: rest)) := zr_get C hW hid zco_20 rfl iX9 (k := 34) (by decide) hl rfl hd kk
theorem zp_X9_waiting (C : Cx X p s mi args c own cc nL) (hW : Wd X s m H locs) (hid : (20, 0) ∈ ids) {idx : Nat} (hl : (.fieldLink own idx "DeadAirModel" "waiting" "I" : Cond) ∈ bigW) {x : Int32} (hm : m1 = upd m 3012 x) (hd : decode cc pc = .ok (.putfield idx, 3)) (kk : ∀ (H1 : Heap) (locs1 : List Loc), Wd X s m1 H1 locs1 → W p l e R s mi args below meth c H1 locs1 cells slots Q (F0 mi (pc + 3) ls rest)) : W p l e R s mi args below meth c H locs cells slots Q (F0 mi pc ls (.int x :: .ref (ad X 20 0) :: rest)) := zr_put C hW hid zco_20 rfl iX9 tyX9 tyX9_ok nmX9 (k := 34) (by decide) hl rfl rfl rfl (Nat.le_of_ble_eq_true rfl) hm (by rw [lo_20]; (try simp only [sf, vf, hf, lf, tf]); omega) (by rw [hi_20]; (try simp only [sf, vf, hf, lf, tf]); omega) (by rw [hm, zco_20]; simp [zce_20, upd, sf, vf, hf, lf, tf]) hd kk
theorem zal_4 (C : Cx X p s mi args c own cc nL) (hW : Wd X s m H locs) {i : Nat} (hid : (4, i) ∈ ids) {x : Int32} (hx : vp_in x 96) (hd : decode cc pc = .ok (.iaload, 1)) (kk : W p l e R s mi args below meth c H locs cells slots Q (F0 mi (pc + 1) ls (.int (m ((1100 + 96 * i) + x.toNatClampNeg)) :: rest))) : W p l e R s mi args below meth c H locs cells slots Q (F0 mi pc ls (.int x :: .ref (ad X 4 i) :: rest)) := zr_iald C hW hid zco_4 hx hd kk
theorem zas_4 (C : Cx X p s mi args c own cc nL) (hW : Wd X s m H locs) {i : Nat} (hid : (4, i) ∈ ids) {x y : Int32} (hx : vp_in x 96) (hm : m1 = upd m ((1100 + 96 * i) + x.toNatClampNeg) y) (hd : decode cc pc = .ok (.iastore, 1)) (kk : ∀ (H1 : Heap) (locs1 : List Loc), Wd X s m1 H1 locs1 → W p l e R s mi args below meth c H1 locs1 cells slots Q (F0 mi (pc + 1) ls rest)) : W p l e R s mi args below meth c H locs cells slots Q (F0 mi pc ls (.int y :: .int x :: .ref (ad X 4 i) :: rest)) := zr_iast C hW hid (fun _ => zco_4) lo_4 hi_4 hx hm hd kk
theorem zal_5 (C : Cx X p s mi args c own cc nL) (hW : Wd X s m H locs) (hid : (5, 0) ∈ ids) {x : Int32} (hx : vp_in x 96) (hd : decode cc pc = .ok (.iaload, 1)) (kk : W p l e R s mi args below meth c H locs cells slots Q (F0 mi (pc + 1) ls (.int (m (800 + x.toNatClampNeg)) :: rest))) : W p l e R s mi args below meth c H locs cells slots Q (F0 mi pc ls (.int x :: .ref (ad X 5 0) :: rest)) := zr_iald C hW hid zco_5 hx hd kk
theorem zas_5 (C : Cx X p s mi args c own cc nL) (hW : Wd X s m H locs) (hid : (5, 0) ∈ ids) {x y : Int32} (hx : vp_in x 96) (hm : m1 = upd m (800 + x.toNatClampNeg) y) (hd : decode cc pc = .ok (.iastore, 1)) (kk : ∀ (H1 : Heap) (locs1 : List Loc), Wd X s m1 H1 locs1 → W p l e R s mi args below meth c H1 locs1 cells slots Q (F0 mi (pc + 1) ls rest)) : W p l e R s mi args below meth c H locs cells slots Q (F0 mi pc ls (.int y :: .int x :: .ref (ad X 5 0) :: rest)) := zr_iast C hW hid (fun _ => zco_5) lo_5 hi_5 hx hm hd kk
theorem zal_7 (C : Cx X p s mi args c own cc nL) (hW : Wd X s m H locs) (hid : (7, 0) ∈ ids) {x : Int32} (hx : vp_in x 96) (hd : decode cc pc = .ok (.iaload, 1)) (kk : W p l e R s mi args below meth c H locs cells slots Q (F0 mi (pc + 1) ls (.int (m (900 + x.toNatClampNeg)) :: rest))) : W p l e R s mi args below meth c H locs cells slots Q (F0 mi pc ls (.int x :: .ref (ad X 7 0) :: rest)) := zr_iald C hW hid zco_7 hx hd kk
theorem zas_7 (C : Cx X p s mi args c own cc nL) (hW : Wd X s m H locs) (hid : (7, 0) ∈ ids) {x y : Int32} (hx : vp_in x 96) (hm : m1 = upd m (900 + x.toNatClampNeg) y) (hd : decode cc pc = .ok (.iastore, 1)) (kk : ∀ (H1 : Heap) (locs1 : List Loc), Wd X s m1 H1 locs1 → W p l e R s mi args below meth c H1 locs1 cells slots Q (F0 mi (pc + 1) ls rest)) : W p l e R s mi args below meth c H locs cells slots Q (F0 mi pc ls (.int y :: .int x :: .ref (ad X 7 0) :: rest)) := zr_iast C hW hid (fun _ => zco_7) lo_7 hi_7 hx hm hd kk
theorem zal_8 (C : Cx X p s mi args c own cc nL) (hW : Wd X s m H locs) (hid : (8, 0) ∈ ids) {x : Int32} (hx : vp_in x 96) (hd : decode cc pc = .ok (.iaload, 1)) (kk : W p l e R s mi args below meth c H locs cells slots Q (F0 mi (pc + 1) ls (.int (m (1000 + x.toNatClampNeg)) :: rest))) : W p l e R s mi args below meth c H locs cells slots Q (F0 mi pc ls (.int x :: .ref (ad X 8 0) :: rest)) := zr_iald C hW hid zco_8 hx hd kk
theorem zas_8 (C : Cx X p s mi args c own cc nL) (hW : Wd X s m H locs) (hid : (8, 0) ∈ ids) {x y : Int32} (hx : vp_in x 96) (hm : m1 = upd m (1000 + x.toNatClampNeg) y) (hd : decode cc pc = .ok (.iastore, 1)) (kk : ∀ (H1 : Heap) (locs1 : List Loc), Wd X s m1 H1 locs1 → W p l e R s mi args below meth c H1 locs1 cells slots Q (F0 mi (pc + 1) ls rest)) : W p l e R s mi args below meth c H locs cells slots Q (F0 mi pc ls (.int y :: .int x :: .ref (ad X 8 0) :: rest)) := zr_iast C hW hid (fun _ => zco_8) lo_8 hi_8 hx hm hd kk
theorem zal_12 (C : Cx X p s mi args c own cc nL) (hW : Wd X s m H locs) {i : Nat} (hid : (12, i) ∈ ids) {x : Int32} (hx : vp_in x 3) (hd : decode cc pc = .ok (.iaload, 1)) (kk : W p l e R s mi args below meth c H locs cells slots Q (F0 mi (pc + 1) ls (.int (m ((51 + 70 * i) + x.toNatClampNeg)) :: rest))) : W p l e R s mi args below meth c H locs cells slots Q (F0 mi pc ls (.int x :: .ref (ad X 12 i) :: rest)) := zr_iald C hW hid zco_12 hx hd kk
theorem zas_12 (C : Cx X p s mi args c own cc nL) (hW : Wd X s m H locs) {i : Nat} (hid : (12, i) ∈ ids) {x y : Int32} (hx : vp_in x 3) (hm : m1 = upd m ((51 + 70 * i) + x.toNatClampNeg) y) (hd : decode cc pc = .ok (.iastore, 1)) (kk : ∀ (H1 : Heap) (locs1 : List Loc), Wd X s m1 H1 locs1 → W p l e R s mi args below meth c H1 locs1 cells slots Q (F0 mi (pc + 1) ls rest)) : W p l e R s mi args below meth c H locs cells slots Q (F0 mi pc ls (.int y :: .int x :: .ref (ad X 12 i) :: rest)) := zr_iast C hW hid (fun _ => zco_12) lo_12 hi_12 hx hm hd kk
theorem zal_16 (C : Cx X p s mi args c own cc nL) (hW : Wd X s m H locs) {i : Nat} (hid : (16, i) ∈ ids) {x : Int32} (hx : vp_in x 24) (hd : decode cc pc = .ok (.iaload, 1)) (kk : W p l e R s mi args below meth c H locs cells slots Q (F0 mi (pc + 1) ls (.int (m ((500 + 24 * i) + x.toNatClampNeg)) :: rest))) : W p l e R s mi args below meth c H locs cells slots Q (F0 mi pc ls (.int x :: .ref (ad X 16 i) :: rest)) := zr_iald C hW hid zco_16 hx hd kk
theorem zas_16 (C : Cx X p s mi args c own cc nL) (hW : Wd X s m H locs) {i : Nat} (hid : (16, i) ∈ ids) {x y : Int32} (hx : vp_in x 24) (hm : m1 = upd m ((500 + 24 * i) + x.toNatClampNeg) y) (hd : decode cc pc = .ok (.iastore, 1)) (kk : ∀ (H1 : Heap) (locs1 : List Loc), Wd X s m1 H1 locs1 → W p l e R s mi args below meth c H1 locs1 cells slots Q (F0 mi (pc + 1) ls rest)) : W p l e R s mi args below meth c H locs cells slots Q (F0 mi pc ls (.int y :: .int x :: .ref (ad X 16 i) :: rest)) := zr_iast C hW hid (fun _ => zco_16) lo_16 hi_16 hx hm hd kk
theorem zal_19 (C : Cx X p s mi args c own cc nL) (hW : Wd X s m H locs) (hid : (19, 0) ∈ ids) {x : Int32} (hx : vp_in x 60) (hd : decode cc pc = .ok (.iaload, 1)) (kk : W p l e R s mi args below meth c H locs cells slots Q (F0 mi (pc + 1) ls (.int (m (400 + x.toNatClampNeg)) :: rest))) : W p l e R s mi args below meth c H locs cells slots Q (F0 mi pc ls (.int x :: .ref (ad X 19 0) :: rest)) := zr_iald C hW hid zco_19 hx hd kk
theorem zas_19 (C : Cx X p s mi args c own cc nL) (hW : Wd X s m H locs) (hid : (19, 0) ∈ ids) {x y : Int32} (hx : vp_in x 60) (hm : m1 = upd m (400 + x.toNatClampNeg) y) (hd : decode cc pc = .ok (.iastore, 1)) (kk : ∀ (H1 : Heap) (locs1 : List Loc), Wd X s m1 H1 locs1 → W p l e R s mi args below meth c H1 locs1 cells slots Q (F0 mi (pc + 1) ls rest)) : W p l e R s mi args below meth c H locs cells slots Q (F0 mi pc ls (.int y :: .int x :: .ref (ad X 19 0) :: rest)) := zr_iast C hW hid (fun _ => zco_19) lo_19 hi_19 hx hm hd kk
theorem zal_21 (C : Cx X p s mi args c own cc nL) (hW : Wd X s m H locs) {i : Nat} (hid : (21, i) ∈ ids) {x : Int32} (hx : vp_in x 1423) (hd : decode cc pc = .ok (.iaload, 1)) (kk : W p l e R s mi args below meth c H locs cells slots Q (F0 mi (pc + 1) ls (.int (m ((4000 + 1500 * i) + x.toNatClampNeg)) :: rest))) : W p l e R s mi args below meth c H locs cells slots Q (F0 mi pc ls (.int x :: .ref (ad X 21 i) :: rest)) := zr_iald C hW hid zco_21 hx hd kk
theorem zas_21 (C : Cx X p s mi args c own cc nL) (hW : Wd X s m H locs) {i : Nat} (hid : (21, i) ∈ ids) {x y : Int32} (hx : vp_in x 1423) (hm : m1 = upd m ((4000 + 1500 * i) + x.toNatClampNeg) y) (hd : decode cc pc = .ok (.iastore, 1)) (kk : ∀ (H1 : Heap) (locs1 : List Loc), Wd X s m1 H1 locs1 → W p l e R s mi args below meth c H1 locs1 cells slots Q (F0 mi (pc + 1) ls rest)) : W p l e R s mi args below meth c H locs cells slots Q (F0 mi pc ls (.int y :: .int x :: .ref (ad X 21 i) :: rest)) := zr_iast C hW hid (fun _ => zco_21) lo_21 hi_21 hx hm hd kk
theorem zal_22 (C : Cx X p s mi args c own cc nL) (hW : Wd X s m H locs) (hid : (22, 0) ∈ ids) {x : Int32} (hx : vp_in x 51) (hd : decode cc pc = .ok (.iaload, 1)) (kk : W p l e R s mi args below meth c H locs cells slots Q (F0 mi (pc + 1) ls (.int (m (3100 + x.toNatClampNeg)) :: rest))) : W p l e R s mi args below meth c H locs cells slots Q (F0 mi pc ls (.int x :: .ref (ad X 22 0) :: rest)) := zr_iald C hW hid zco_22 hx hd kk
theorem zas_22 (C : Cx X p s mi args c own cc nL) (hW : Wd X s m H locs) (hid : (22, 0) ∈ ids) {x y : Int32} (hx : vp_in x 51) (hm : m1 = upd m (3100 + x.toNatClampNeg) y) (hd : decode cc pc = .ok (.iastore, 1)) (kk : ∀ (H1 : Heap) (locs1 : List Loc), Wd X s m1 H1 locs1 → W p l e R s mi args below meth c H1 locs1 cells slots Q (F0 mi (pc + 1) ls rest)) : W p l e R s mi args below meth c H locs cells slots Q (F0 mi pc ls (.int y :: .int x :: .ref (ad X 22 0) :: rest)) := zr_iast C hW hid (fun _ => zco_22) lo_22 hi_22 hx hm hd kk
theorem zal_23 (C : Cx X p s mi args c own cc nL) (hW : Wd X s m H locs) (hid : (23, 0) ∈ ids) {x : Int32} (hx : vp_in x 5) (hd : decode cc pc = .ok (.laload, 1)) (kk : W p l e R s mi args below meth c H locs cells slots Q (F0 mi (pc + 1) ls (.long (comb (m (3160 + 2 * x.toNatClampNeg)) (m (3160 + 2 * x.toNatClampNeg + 1))) :: rest))) : W p l e R s mi args below meth c H locs cells slots Q (F0 mi pc ls (.int x :: .ref (ad X 23 0) :: rest)) := zr_lald C hW hid zco_23 hx hd kk
theorem zal_24 (C : Cx X p s mi args c own cc nL) (hW : Wd X s m H locs) (hid : (24, 0) ∈ ids) {x : Int32} (hx : vp_in x 96) (hd : decode cc pc = .ok (.iaload, 1)) (kk : W p l e R s mi args below meth c H locs cells slots Q (F0 mi (pc + 1) ls (.int (m (3200 + x.toNatClampNeg)) :: rest))) : W p l e R s mi args below meth c H locs cells slots Q (F0 mi pc ls (.int x :: .ref (ad X 24 0) :: rest)) := zr_iald C hW hid zco_24 hx hd kk
theorem zas_24 (C : Cx X p s mi args c own cc nL) (hW : Wd X s m H locs) (hid : (24, 0) ∈ ids) {x y : Int32} (hx : vp_in x 96) (hm : m1 = upd m (3200 + x.toNatClampNeg) y) (hd : decode cc pc = .ok (.iastore, 1)) (kk : ∀ (H1 : Heap) (locs1 : List Loc), Wd X s m1 H1 locs1 → W p l e R s mi args below meth c H1 locs1 cells slots Q (F0 mi (pc + 1) ls rest)) : W p l e R s mi args below meth c H locs cells slots Q (F0 mi pc ls (.int y :: .int x :: .ref (ad X 24 0) :: rest)) := zr_iast C hW hid (fun _ => zco_24) lo_24 hi_24 hx hm hd kk
theorem zal_25 (C : Cx X p s mi args c own cc nL) (hW : Wd X s m H locs) (hid : (25, 0) ∈ ids) {x : Int32} (hx : vp_in x 10) (hd : decode cc pc = .ok (.caload, 1)) (kk : W p l e R s mi args below meth c H locs cells slots Q (F0 mi (pc + 1) ls (.int (m (3300 + x.toNatClampNeg)) :: rest))) : W p l e R s mi args below meth c H locs cells slots Q (F0 mi pc ls (.int x :: .ref (ad X 25 0) :: rest)) := zr_cald C hW hid zco_25 hx hd kk
theorem zal_26 (C : Cx X p s mi args c own cc nL) (hW : Wd X s m H locs) (hid : (26, 0) ∈ ids) {x : Int32} (hx : vp_in x 4) (hd : decode cc pc = .ok (.iaload, 1)) (kk : W p l e R s mi args below meth c H locs cells slots Q (F0 mi (pc + 1) ls (.int (m (3320 + x.toNatClampNeg)) :: rest))) : W p l e R s mi args below meth c H locs cells slots Q (F0 mi pc ls (.int x :: .ref (ad X 26 0) :: rest)) := zr_iald C hW hid zco_26 hx hd kk
theorem zas_26 (C : Cx X p s mi args c own cc nL) (hW : Wd X s m H locs) (hid : (26, 0) ∈ ids) {x y : Int32} (hx : vp_in x 4) (hm : m1 = upd m (3320 + x.toNatClampNeg) y) (hd : decode cc pc = .ok (.iastore, 1)) (kk : ∀ (H1 : Heap) (locs1 : List Loc), Wd X s m1 H1 locs1 → W p l e R s mi args below meth c H1 locs1 cells slots Q (F0 mi (pc + 1) ls rest)) : W p l e R s mi args below meth c H locs cells slots Q (F0 mi pc ls (.int y :: .int x :: .ref (ad X 26 0) :: rest)) := zr_iast C hW hid (fun _ => zco_26) lo_26 hi_26 hx hm hd kk
theorem zal_27 (C : Cx X p s mi args c own cc nL) (hW : Wd X s m H locs) (hid : (27, 0) ∈ ids) {x : Int32} (hx : vp_in x 96) (hd : decode cc pc = .ok (.iaload, 1)) (kk : W p l e R s mi args below meth c H locs cells slots Q (F0 mi (pc + 1) ls (.int (m (3400 + x.toNatClampNeg)) :: rest))) : W p l e R s mi args below meth c H locs cells slots Q (F0 mi pc ls (.int x :: .ref (ad X 27 0) :: rest)) := zr_iald C hW hid zco_27 hx hd kk
theorem zas_27 (C : Cx X p s mi args c own cc nL) (hW : Wd X s m H locs) (hid : (27, 0) ∈ ids) {x y : Int32} (hx : vp_in x 96) (hm : m1 = upd m (3400 + x.toNatClampNeg) y) (hd : decode cc pc = .ok (.iastore, 1)) (kk : ∀ (H1 : Heap) (locs1 : List Loc), Wd X s m1 H1 locs1 → W p l e R s mi args below meth c H1 locs1 cells slots Q (F0 mi (pc + 1) ls rest)) : W p l e R s mi args below meth c H locs cells slots Q (F0 mi pc ls (.int y :: .int x :: .ref (ad X 27 0) :: rest)) := zr_iast C hW hid (fun _ => zco_27) lo_27 hi_27 hx hm hd kk
theorem zal_28 (C : Cx X p s mi args c own cc nL) (hW : Wd X s m H locs) (hid : (28, 0) ∈ ids) {x : Int32} (hx : vp_in x 96) (hd : decode cc pc = .ok (.iaload, 1)) (kk : W p l e R s mi args below meth c H locs cells slots Q (F0 mi (pc + 1) ls (.int (m (3500 + x.toNatClampNeg)) :: rest))) : W p l e R s mi args below meth c H locs cells slots Q (F0 mi pc ls (.int x :: .ref (ad X 28 0) :: rest)) := zr_iald C hW hid zco_28 hx hd kk
theorem zas_28 (C : Cx X p s mi args c own cc nL) (hW : Wd X s m H locs) (hid : (28, 0) ∈ ids) {x y : Int32} (hx : vp_in x 96) (hm : m1 = upd m (3500 + x.toNatClampNeg) y) (hd : decode cc pc = .ok (.iastore, 1)) (kk : ∀ (H1 : Heap) (locs1 : List Loc), Wd X s m1 H1 locs1 → W p l e R s mi args below meth c H1 locs1 cells slots Q (F0 mi (pc + 1) ls rest)) : W p l e R s mi args below meth c H locs cells slots Q (F0 mi pc ls (.int y :: .int x :: .ref (ad X 28 0) :: rest)) := zr_iast C hW hid (fun _ => zco_28) lo_28 hi_28 hx hm hd kk
theorem zal_29 (C : Cx X p s mi args c own cc nL) (hW : Wd X s m H locs) (hid : (29, 0) ∈ ids) {x : Int32} (hx : vp_in x 10) (hd : decode cc pc = .ok (.baload, 1)) (kk : W p l e R s mi args below meth c H locs cells slots Q (F0 mi (pc + 1) ls (.int (m (3600 + x.toNatClampNeg)) :: rest))) : W p l e R s mi args below meth c H locs cells slots Q (F0 mi pc ls (.int x :: .ref (ad X 29 0) :: rest)) := zr_zald C hW hid zco_29 hx hd kk
theorem zas_29 (C : Cx X p s mi args c own cc nL) (hW : Wd X s m H locs) (hid : (29, 0) ∈ ids) {x y : Int32} (hx : vp_in x 10) (hm : m1 = upd m (3600 + x.toNatClampNeg) (vp_nar .boolean y)) (hd : decode cc pc = .ok (.bastore, 1)) (kk : ∀ (H1 : Heap) (locs1 : List Loc), Wd X s m1 H1 locs1 → W p l e R s mi args below meth c H1 locs1 cells slots Q (F0 mi (pc + 1) ls rest)) : W p l e R s mi args below meth c H locs cells slots Q (F0 mi pc ls (.int y :: .int x :: .ref (ad X 29 0) :: rest)) := zr_zast C hW hid (fun _ => zco_29) lo_29 hi_29 hx hm hd kk
theorem zal_30 (C : Cx X p s mi args c own cc nL) (hW : Wd X s m H locs) (hid : (30, 0) ∈ ids) {x : Int32} (hx : vp_in x 96) (hd : decode cc pc = .ok (.iaload, 1)) (kk : W p l e R s mi args below meth c H locs cells slots Q (F0 mi (pc + 1) ls (.int (m (3700 + x.toNatClampNeg)) :: rest))) : W p l e R s mi args below meth c H locs cells slots Q (F0 mi pc ls (.int x :: .ref (ad X 30 0) :: rest)) := zr_iald C hW hid zco_30 hx hd kk
theorem zas_30 (C : Cx X p s mi args c own cc nL) (hW : Wd X s m H locs) (hid : (30, 0) ∈ ids) {x y : Int32} (hx : vp_in x 96) (hm : m1 = upd m (3700 + x.toNatClampNeg) y) (hd : decode cc pc = .ok (.iastore, 1)) (kk : ∀ (H1 : Heap) (locs1 : List Loc), Wd X s m1 H1 locs1 → W p l e R s mi args below meth c H1 locs1 cells slots Q (F0 mi (pc + 1) ls rest)) : W p l e R s mi args below meth c H locs cells slots Q (F0 mi pc ls (.int y :: .int x :: .ref (ad X 30 0) :: rest)) := zr_iast C hW hid (fun _ => zco_30) lo_30 hi_30 hx hm hd kk
theorem zal_31 (C : Cx X p s mi args c own cc nL) (hW : Wd X s m H locs) (hid : (31, 0) ∈ ids) {x : Int32} (hx : vp_in x 4) (hd : decode cc pc = .ok (.iaload, 1)) (kk : W p l e R s mi args below meth c H locs cells slots Q (F0 mi (pc + 1) ls (.int (m (3800 + x.toNatClampNeg)) :: rest))) : W p l e R s mi args below meth c H locs cells slots Q (F0 mi pc ls (.int x :: .ref (ad X 31 0) :: rest)) := zr_iald C hW hid zco_31 hx hd kk
theorem zas_31 (C : Cx X p s mi args c own cc nL) (hW : Wd X s m H locs) (hid : (31, 0) ∈ ids) {x y : Int32} (hx : vp_in x 4) (hm : m1 = upd m (3800 + x.toNatClampNeg) y) (hd : decode cc pc = .ok (.iastore, 1)) (kk : ∀ (H1 : Heap) (locs1 : List Loc), Wd X s m1 H1 locs1 → W p l e R s mi args below meth c H1 locs1 cells slots Q (F0 mi (pc + 1) ls rest)) : W p l e R s mi args below meth c H locs cells slots Q (F0 mi pc ls (.int y :: .int x :: .ref (ad X 31 0) :: rest)) := zr_iast C hW hid (fun _ => zco_31) lo_31 hi_31 hx hm hd kk
theorem zal_32 (C : Cx X p s mi args c own cc nL) (hW : Wd X s m H locs) (hid : (32, 0) ∈ ids) {x : Int32} (hx : vp_in x 4) (hd : decode cc pc = .ok (.iaload, 1)) (kk : W p l e R s mi args below meth c H locs cells slots Q (F0 mi (pc + 1) ls (.int (m (3810 + x.toNatClampNeg)) :: rest))) : W p l e R s mi args below meth c H locs cells slots Q (F0 mi pc ls (.int x :: .ref (ad X 32 0) :: rest)) := zr_iald C hW hid zco_32 hx hd kk
theorem zas_32 (C : Cx X p s mi args c own cc nL) (hW : Wd X s m H locs) (hid : (32, 0) ∈ ids) {x y : Int32} (hx : vp_in x 4) (hm : m1 = upd m (3810 + x.toNatClampNeg) y) (hd : decode cc pc = .ok (.iastore, 1)) (kk : ∀ (H1 : Heap) (locs1 : List Loc), Wd X s m1 H1 locs1 → W p l e R s mi args below meth c H1 locs1 cells slots Q (F0 mi (pc + 1) ls rest)) : W p l e R s mi args below meth c H locs cells slots Q (F0 mi pc ls (.int y :: .int x :: .ref (ad X 32 0) :: rest)) := zr_iast C hW hid (fun _ => zco_32) lo_32 hi_32 hx hm hd kk
theorem zal_33 (C : Cx X p s mi args c own cc nL) (hW : Wd X s m H locs) (hid : (33, 0) ∈ ids) {x : Int32} (hx : vp_in x 4) (hd : decode cc pc = .ok (.iaload, 1)) (kk : W p l e R s mi args below meth c H locs cells slots Q (F0 mi (pc + 1) ls (.int (m (3820 + x.toNatClampNeg)) :: rest))) : W p l e R s mi args below meth c H locs cells slots Q (F0 mi pc ls (.int x :: .ref (ad X 33 0) :: rest)) := zr_iald C hW hid zco_33 hx hd kk
theorem zas_33 (C : Cx X p s mi args c own cc nL) (hW : Wd X s m H locs) (hid : (33, 0) ∈ ids) {x y : Int32} (hx : vp_in x 4) (hm : m1 = upd m (3820 + x.toNatClampNeg) y) (hd : decode cc pc = .ok (.iastore, 1)) (kk : ∀ (H1 : Heap) (locs1 : List Loc), Wd X s m1 H1 locs1 → W p l e R s mi args below meth c H1 locs1 cells slots Q (F0 mi (pc + 1) ls rest)) : W p l e R s mi args below meth c H locs cells slots Q (F0 mi pc ls (.int y :: .int x :: .ref (ad X 33 0) :: rest)) := zr_iast C hW hid (fun _ => zco_33) lo_33 hi_33 hx hm hd kk
theorem zal_34 (C : Cx X p s mi args c own cc nL) (hW : Wd X s m H locs) (hid : (34, 0) ∈ ids) {x : Int32} (hx : vp_in x 96) (hd : decode cc pc = .ok (.iaload, 1)) (kk : W p l e R s mi args below meth c H locs cells slots Q (F0 mi (pc + 1) ls (.int (m (3830 + x.toNatClampNeg)) :: rest))) : W p l e R s mi args below meth c H locs cells slots Q (F0 mi pc ls (.int x :: .ref (ad X 34 0) :: rest)) := zr_iald C hW hid zco_34 hx hd kk
theorem zas_34 (C : Cx X p s mi args c own cc nL) (hW : Wd X s m H locs) (hid : (34, 0) ∈ ids) {x y : Int32} (hx : vp_in x 96) (hm : m1 = upd m (3830 + x.toNatClampNeg) y) (hd : decode cc pc = .ok (.iastore, 1)) (kk : ∀ (H1 : Heap) (locs1 : List Loc), Wd X s m1 H1 locs1 → W p l e R s mi args below meth c H1 locs1 cells slots Q (F0 mi (pc + 1) ls rest)) : W p l e R s mi args below meth c H locs cells slots Q (F0 mi pc ls (.int y :: .int x :: .ref (ad X 34 0) :: rest)) := zr_iast C hW hid (fun _ => zco_34) lo_34 hi_34 hx hm hd kk
theorem zal_35 (C : Cx X p s mi args c own cc nL) (hW : Wd X s m H locs) (hid : (35, 0) ∈ ids) {x : Int32} (hx : vp_in x 5) (hd : decode cc pc = .ok (.iaload, 1)) (kk : W p l e R s mi args below meth c H locs cells slots Q (F0 mi (pc + 1) ls (.int (m (3930 + x.toNatClampNeg)) :: rest))) : W p l e R s mi args below meth c H locs cells slots Q (F0 mi pc ls (.int x :: .ref (ad X 35 0) :: rest)) := zr_iald C hW hid zco_35 hx hd kk
theorem zas_35 (C : Cx X p s mi args c own cc nL) (hW : Wd X s m H locs) (hid : (35, 0) ∈ ids) {x y : Int32} (hx : vp_in x 5) (hm : m1 = upd m (3930 + x.toNatClampNeg) y) (hd : decode cc pc = .ok (.iastore, 1)) (kk : ∀ (H1 : Heap) (locs1 : List Loc), Wd X s m1 H1 locs1 → W p l e R s mi args below meth c H1 locs1 cells slots Q (F0 mi (pc + 1) ls rest)) : W p l e R s mi args below meth c H locs cells slots Q (F0 mi pc ls (.int y :: .int x :: .ref (ad X 35 0) :: rest)) := zr_iast C hW hid (fun _ => zco_35) lo_35 hi_35 hx hm hd kk
theorem zal_36 (C : Cx X p s mi args c own cc nL) (hW : Wd X s m H locs) (hid : (36, 0) ∈ ids) {x : Int32} (hx : vp_in x 5) (hd : decode cc pc = .ok (.iaload, 1)) (kk : W p l e R s mi args below meth c H locs cells slots Q (F0 mi (pc + 1) ls (.int (m (3940 + x.toNatClampNeg)) :: rest))) : W p l e R s mi args below meth c H locs cells slots Q (F0 mi pc ls (.int x :: .ref (ad X 36 0) :: rest)) := zr_iald C hW hid zco_36 hx hd kk
theorem zas_36 (C : Cx X p s mi args c own cc nL) (hW : Wd X s m H locs) (hid : (36, 0) ∈ ids) {x y : Int32} (hx : vp_in x 5) (hm : m1 = upd m (3940 + x.toNatClampNeg) y) (hd : decode cc pc = .ok (.iastore, 1)) (kk : ∀ (H1 : Heap) (locs1 : List Loc), Wd X s m1 H1 locs1 → W p l e R s mi args below meth c H1 locs1 cells slots Q (F0 mi (pc + 1) ls rest)) : W p l e R s mi args below meth c H locs cells slots Q (F0 mi pc ls (.int y :: .int x :: .ref (ad X 36 0) :: rest)) := zr_iast C hW hid (fun _ => zco_36) lo_36 hi_36 hx hm hd kk
theorem zal_37 (C : Cx X p s mi args c own cc nL) (hW : Wd X s m H locs) (hid : (37, 0) ∈ ids) {x : Int32} (hx : vp_in x 5) (hd : decode cc pc = .ok (.iaload, 1)) (kk : W p l e R s mi args below meth c H locs cells slots Q (F0 mi (pc + 1) ls (.int (m (3950 + x.toNatClampNeg)) :: rest))) : W p l e R s mi args below meth c H locs cells slots Q (F0 mi pc ls (.int x :: .ref (ad X 37 0) :: rest)) := zr_iald C hW hid zco_37 hx hd kk
theorem zas_37 (C : Cx X p s mi args c own cc nL) (hW : Wd X s m H locs) (hid : (37, 0) ∈ ids) {x y : Int32} (hx : vp_in x 5) (hm : m1 = upd m (3950 + x.toNatClampNeg) y) (hd : decode cc pc = .ok (.iastore, 1)) (kk : ∀ (H1 : Heap) (locs1 : List Loc), Wd X s m1 H1 locs1 → W p l e R s mi args below meth c H1 locs1 cells slots Q (F0 mi (pc + 1) ls rest)) : W p l e R s mi args below meth c H locs cells slots Q (F0 mi pc ls (.int y :: .int x :: .ref (ad X 37 0) :: rest)) := zr_iast C hW hid (fun _ => zco_37) lo_37 hi_37 hx hm hd kk
theorem zal_38 (C : Cx X p s mi args c own cc nL) (hW : Wd X s m H locs) (hid : (38, 0) ∈ ids) {x : Int32} (hx : vp_in x 120) (hd : decode cc pc = .ok (.iaload, 1)) (kk : W p l e R s mi args below meth c H locs cells slots Q (F0 mi (pc + 1) ls (.int (m (8500 + x.toNatClampNeg)) :: rest))) : W p l e R s mi args below meth c H locs cells slots Q (F0 mi pc ls (.int x :: .ref (ad X 38 0) :: rest)) := zr_iald C hW hid zco_38 hx hd kk
theorem zas_38 (C : Cx X p s mi args c own cc nL) (hW : Wd X s m H locs) (hid : (38, 0) ∈ ids) {x y : Int32} (hx : vp_in x 120) (hm : m1 = upd m (8500 + x.toNatClampNeg) y) (hd : decode cc pc = .ok (.iastore, 1)) (kk : ∀ (H1 : Heap) (locs1 : List Loc), Wd X s m1 H1 locs1 → W p l e R s mi args below meth c H1 locs1 cells slots Q (F0 mi (pc + 1) ls rest)) : W p l e R s mi args below meth c H locs cells slots Q (F0 mi pc ls (.int y :: .int x :: .ref (ad X 38 0) :: rest)) := zr_iast C hW hid (fun _ => zco_38) lo_38 hi_38 hx hm hd kk
theorem zal_39 (C : Cx X p s mi args c own cc nL) (hW : Wd X s m H locs) (hid : (39, 0) ∈ ids) {x : Int32} (hx : vp_in x 24) (hd : decode cc pc = .ok (.iaload, 1)) (kk : W p l e R s mi args below meth c H locs cells slots Q (F0 mi (pc + 1) ls (.int (m (3960 + x.toNatClampNeg)) :: rest))) : W p l e R s mi args below meth c H locs cells slots Q (F0 mi pc ls (.int x :: .ref (ad X 39 0) :: rest)) := zr_iald C hW hid zco_39 hx hd kk
theorem zas_39 (C : Cx X p s mi args c own cc nL) (hW : Wd X s m H locs) (hid : (39, 0) ∈ ids) {x y : Int32} (hx : vp_in x 24) (hm : m1 = upd m (3960 + x.toNatClampNeg) y) (hd : decode cc pc = .ok (.iastore, 1)) (kk : ∀ (H1 : Heap) (locs1 : List Loc), Wd X s m1 H1 locs1 → W p l e R s mi args below meth c H1 locs1 cells slots Q (F0 mi (pc + 1) ls rest)) : W p l e R s mi args below meth c H locs cells slots Q (F0 mi pc ls (.int y :: .int x :: .ref (ad X 39 0) :: rest)) := zr_iast C hW hid (fun _ => zco_39) lo_39 hi_39 hx hm hd kk
theorem zal_40 (C : Cx X p s mi args c own cc nL) (hW : Wd X s m H locs) (hid : (40, 0) ∈ ids) {x : Int32} (hx : vp_in x 60) (hd : decode cc pc = .ok (.iaload, 1)) (kk : W p l e R s mi args below meth c H locs cells slots Q (F0 mi (pc + 1) ls (.int (m (8650 + x.toNatClampNeg)) :: rest))) : W p l e R s mi args below meth c H locs cells slots Q (F0 mi pc ls (.int x :: .ref (ad X 40 0) :: rest)) := zr_iald C hW hid zco_40 hx hd kk
theorem zas_40 (C : Cx X p s mi args c own cc nL) (hW : Wd X s m H locs) (hid : (40, 0) ∈ ids) {x y : Int32} (hx : vp_in x 60) (hm : m1 = upd m (8650 + x.toNatClampNeg) y) (hd : decode cc pc = .ok (.iastore, 1)) (kk : ∀ (H1 : Heap) (locs1 : List Loc), Wd X s m1 H1 locs1 → W p l e R s mi args below meth c H1 locs1 cells slots Q (F0 mi (pc + 1) ls rest)) : W p l e R s mi args below meth c H locs cells slots Q (F0 mi pc ls (.int y :: .int x :: .ref (ad X 40 0) :: rest)) := zr_iast C hW hid (fun _ => zco_40) lo_40 hi_40 hx hm hd kk
theorem zaa_2 (C : Cx X p s mi args c own cc nL) (hW : Wd X s m H locs) (hid : (2, 0) ∈ ids) {x : Int32} (hx : vp_in x 14) (hd : decode cc pc = .ok (.aaload, 1)) (kk : W p l e R s mi args below meth c H locs cells slots Q (F0 mi (pc + 1) ls (.ref (ad X 3 x.toNatClampNeg) :: rest))) : W p l e R s mi args below meth c H locs cells slots Q (F0 mi pc ls (.int x :: .ref (ad X 2 0) :: rest)) := zr_aald C hW hid zco_2 rfl hx hd kk
theorem zaa_10 (C : Cx X p s mi args c own cc nL) (hW : Wd X s m H locs) {i : Nat} (hid : (10, i) ∈ ids) {x : Int32} (hx : vp_in x 5) (hd : decode cc pc = .ok (.aaload, 1)) (kk : W p l e R s mi args below meth c H locs cells slots Q (F0 mi (pc + 1) ls (.ref (ad X 11 (10 * i + x.toNatClampNeg)) :: rest))) : W p l e R s mi args below meth c H locs cells slots Q (F0 mi pc ls (.int x :: .ref (ad X 10 i) :: rest)) := zr_aald C hW hid zco_10 rfl hx hd kk
theorem zaa_14 (C : Cx X p s mi args c own cc nL) (hW : Wd X s m H locs) (hid : (14, 0) ∈ ids) {x : Int32} (hx : vp_in x 4) (hd : decode cc pc = .ok (.aaload, 1)) (kk : W p l e R s mi args below meth c H locs cells slots Q (F0 mi (pc + 1) ls (.ref (ad X 15 x.toNatClampNeg) :: rest))) : W p l e R s mi args below meth c H locs cells slots Q (F0 mi pc ls (.int x :: .ref (ad X 14 0) :: rest)) := zr_aald C hW hid zco_14 rfl hx hd kk
theorem zaa_17 (C : Cx X p s mi args c own cc nL) (hW : Wd X s m H locs) (hid : (17, 0) ∈ ids) {x : Int32} (hx : vp_in x 5) (hd : decode cc pc = .ok (.aaload, 1)) (kk : W p l e R s mi args below meth c H locs cells slots Q (F0 mi (pc + 1) ls (.ref (ad X 18 x.toNatClampNeg) :: rest))) : W p l e R s mi args below meth c H locs cells slots Q (F0 mi pc ls (.int x :: .ref (ad X 17 0) :: rest)) := zr_aald C hW hid zco_17 rfl hx hd kk
end FIELDS
end
section
def ushr (x y : Int32) : Int32 := (x.toUInt32 >>> (y.toUInt32 &&& Int32.toUInt32 31)).toInt32
def irem (x y : Int32) : Int32 := x - x / y * y
def hiW (x : Int64) : Int32 := Int32.ofInt (x.toInt / 4294967296)
def loW (x : Int64) : Int32 := Int32.ofInt (x.toInt % 4294967296)
def updL (m : Mem) (k : Nat) (x : Int64) : Mem := upd (upd m k (hiW x)) (k + 1) (loW x)
def okCp (sp dp n : Int32) (n0 n1 : Nat) : Bool := decide (¬ sp < 0 ∧ ¬ dp < 0 ∧ ¬ n < 0 ∧ sp.toNatClampNeg + n.toNatClampNeg ≤ n0 ∧ dp.toNatClampNeg + n.toNatClampNeg ≤ n1)
def cpM (m : Mem) (b0 b1 : Nat) (sp dp n : Int32) : Mem := fun k => if b1 + dp.toNatClampNeg ≤ k ∧ k < b1 + dp.toNatClampNeg + n.toNatClampNeg then m (b0 + sp.toNatClampNeg + (k - (b1 + dp.toNatClampNeg))) else m k
theorem comb_split (x : Int64) : comb (hiW x) (loW x) = x := by
  unfold comb hiW loW
  have h1 := Int64.le_toInt x
  have h2 := Int64.toInt_lt x
  have e : (Int32.ofInt (x.toInt / 4294967296)).toInt * 4294967296 + (Int32.ofInt (x.toInt % 4294967296)).toInt % 4294967296 = x.toInt := by
    rw [Int32.toInt_ofInt, Int32.toInt_ofInt]
    rw [show Int32.size = 4294967296 from rfl]
    simp only [Int.bmod_def]
    split <;> split <;> omega
  rw [e, Int64.ofInt_toInt]
section HLP
variable {X : TX} {p : Program} {l : Launch} {e : Env} {R : Room} {s : State} {mi : MethodId} {args : Array Value} {below : List Frame} {meth : Method} {c : Code} {own : String} {cc : ByteArray} {nL : Nat} {m m1 : Mem} {H : Heap} {locs : List Loc} {cells slots : Nat} {Q : State → Prop} {pc : Nat} {ls : Array Slot} {rest : List Value}
theorem zr_irem (hx : p.tables.exec = Jvm.exec) (hb : c.code = cc) {x y : Int32} (hd : decode cc pc = .ok (.irem, 1)) (hne : ¬ y = 0) (k : W p l e R s mi args below meth c H locs cells slots Q (F0 mi (pc + 1) ls (.int (irem x y) :: rest))) : W p l e R s mi args below meth c H locs cells slots Q (F0 mi pc ls (.int y :: .int x :: rest)) := lv_irem hx hb hd hne k
/-- lastore in differ -/
theorem zas_23 (C : Cx X p s mi args c own cc nL) (hW : Wd X s m H locs) (hid : (23, 0) ∈ ids) {x : Int32} {y : Int64} (hx : vp_in x 5) (hm : m1 = updL m (3160 + 2 * x.toNatClampNeg) y) (hd : decode cc pc = .ok (.lastore, 1))
    (kk : ∀ (H1 : Heap) (locs1 : List Loc), Wd X s m1 H1 locs1 → W p l e R s mi args below meth c H1 locs1 cells slots Q (F0 mi (pc + 1) ls rest)) : W p l e R s mi args below meth c H locs cells slots Q (F0 mi pc ls (.long y :: .int x :: .ref (ad X 23 0) :: rest)) := by
  obtain ⟨q, hq0, hq⟩ := at_ids (X := X) (m := m) hid
  rw [zco_23] at hq
  have hlt := inb_lt hx
  refine va_last C.1 C.2.1 C.2.2.2.2.2.1.1 hW.1 (wcells_D C.2.2.2.2.2.2.2) hW.2 q 1 hq rfl hx hd (fun H1 locs1 hP _ hS => kk H1 locs1 ⟨?_, hS⟩)
  have hc : cellOf X m1 23 0 = .inl (cA X 1, 5, .inr (.inl (vp_updL (fun j => if j < 5 then comb (m (3160 + 2 * j)) (m (3160 + 2 * j + 1)) else 0) x.toNatClampNeg y))) := by
    rw [hm, zco_23]
    have e : (fun j => if j < 5 then comb (updL m (3160 + 2 * x.toNatClampNeg) y (3160 + 2 * j)) (updL m (3160 + 2 * x.toNatClampNeg) y (3160 + 2 * j + 1)) else 0) = vp_updL (fun j => if j < 5 then comb (m (3160 + 2 * j)) (m (3160 + 2 * j + 1)) else 0) x.toNatClampNeg y := by
      funext j
      unfold vp_updL updL upd
      by_cases hj : j = x.toNatClampNeg
      · subst hj
        simp [hlt, comb_split]
      · have h1 : ¬ 3160 + 2 * j = 3160 + 2 * x.toNatClampNeg := by omega
        have h2 : ¬ 3160 + 2 * j = 3160 + 2 * x.toNatClampNeg + 1 := by omega
        have h3 : ¬ 3160 + 2 * j + 1 = 3160 + 2 * x.toNatClampNeg := by omega
        have h4 : ¬ 3160 + 2 * j + 1 = 3160 + 2 * x.toNatClampNeg + 1 := by omega
        rw [if_neg h1, if_neg h2, if_neg h3, if_neg h4, if_neg hj]
    show aL X (updL m (3160 + 2 * x.toNatClampNeg) y) 3160 5 = _
    unfold aL
    rw [e]
  rw [wcells_set (m1 := m1) hq0 hc (fun z hz hne => by
    rw [hm]
    refine cell_congr z.1 z.2 (fun k k1 k2 => ?_)
    unfold updL
    have ha := apart_ids hid hz (Ne.symm hne)
    rw [lo_23, hi_23] at ha
    rw [pk_un (by omega), pk_un (by omega)])] at hP
  exact hP
theorem cp_gen (C : Cx X p s mi args c own cc nL) (hW : Wd X s m H locs) {r i j : Nat} {b : Nat → Nat} {n : Nat} (hi0 : (r, i) ∈ ids) (hi1 : (r, j) ∈ ids) (he : ∀ (m : Mem) (i : Nat), cellOf X m r i = aI X m 0 (b i) n) (hlo : ∀ i, lo r i = b i) (hhi : ∀ i, hi r i = b i + n) {idx : Nat} (hl : (.methodLink own idx arraycopyName : Cond) ∈ bigW) {sp dp k : Int32} (hk : okCp sp dp k n n = true) (hm : m1 = cpM m (b i) (b j) sp dp k) (hls : ls.size = nL) (hf : 1 ≤ R.frames) (hloc : (rest.map fun v => v.category).sum + (nativeFrameWords "java/lang/System" "arraycopy" 5 + 11) ≤ R.locals) (hd : decode cc pc = .ok (.invokestatic idx, 3)) (hst : (.static arraycopyName : Cond) ∈ bigW) (hin : (.initialized "java/lang/System" : Cond) ∈ bigW)
    (kk : ∀ (H1 : Heap) (locs1 : List Loc), Wd X s m1 H1 locs1 → W p l e R s mi args below meth c H1 locs1 cells slots Q (F0 mi (pc + 3) ls rest)) : W p l e R s mi args below meth c H locs cells slots Q (F0 mi pc ls (.int k :: .int dp :: .ref (ad X r j) :: .int sp :: .ref (ad X r i) :: rest)) := by
  obtain ⟨q0, hq00, hq0⟩ := at_ids (X := X) (m := m) hi0
  obtain ⟨q1, hq10, hq1⟩ := at_ids (X := X) (m := m) hi1
  rw [he] at hq0 hq1
  obtain ⟨h1, h2, h3, h4, h5⟩ := of_decide_eq_true hk
  refine va_copyi (ty := .int) C.1 C.2.1 (C.2.2.1.trans hls.symm) C.2.2.2.1 (C.2.2.2.2.1 _ hl) (va_Nw.use rfl C.2.2.2.2.2.1.2.2.2.2.2.2.2.2.2.2) (C.2.2.2.2.1 _ hst) (C.2.2.2.2.1 _ hin) C.2.2.2.2.2.1.1 hW.1 (wcells_D C.2.2.2.2.2.2.2) hW.2 q0 q1 0 0 hq0 hq1 rfl rfl rfl h1 h2 h3 h4 h5 (fun _ _ => rfl) hf hloc hd (fun H1 locs1 hP _ hS => kk H1 locs1 ⟨?_, hS⟩)
  have hc : cellOf X m1 r j = .inl (cA X 0, n, .inl (va_cpy (fun t => if t < n then m (b i + t) else 0) (fun t => if t < n then m (b j + t) else 0) sp.toNatClampNeg dp.toNatClampNeg k.toNatClampNeg)) := by
    rw [he, hm]
    have e : (fun t => if t < n then cpM m (b i) (b j) sp dp k (b j + t) else 0) = va_cpy (fun t => if t < n then m (b i + t) else 0) (fun t => if t < n then m (b j + t) else 0) sp.toNatClampNeg dp.toNatClampNeg k.toNatClampNeg := by
      funext t
      unfold va_cpy cpM
      dsimp only
      by_cases ht : dp.toNatClampNeg ≤ t ∧ t < dp.toNatClampNeg + k.toNatClampNeg
      · rw [if_pos ht, if_pos (show t < n by omega), if_pos (show b j + dp.toNatClampNeg ≤ b j + t ∧ b j + t < b j + dp.toNatClampNeg + k.toNatClampNeg by omega), if_pos (show sp.toNatClampNeg + (t - dp.toNatClampNeg) < n by omega)]
        congr 1
        omega
      · rw [if_neg ht, if_neg (show ¬ (b j + dp.toNatClampNeg ≤ b j + t ∧ b j + t < b j + dp.toNatClampNeg + k.toNatClampNeg) by omega)]
    unfold aI
    rw [e]
  rw [wcells_set (m1 := m1) hq10 hc (fun z hz hne => by
    rw [hm]
    refine cell_congr z.1 z.2 (fun w w1 w2 => ?_)
    have ha := apart_ids hi1 hz (Ne.symm hne)
    rw [hlo, hhi] at ha
    dsimp only at ha
    unfold cpM
    rw [if_neg (by omega)])] at hP
  exact hP
end HLP
theorem zcp_4 {X : TX} {p : Program} {l : Launch} {e : Env} {R : Room} {s : State} {mi : MethodId} {args : Array Value} {below : List Frame} {meth : Method} {c : Code} {own : String} {cc : ByteArray} {nL : Nat} {m m1 : Mem} {H : Heap} {locs : List Loc} {cells slots : Nat} {Q : State → Prop} {pc : Nat} {ls : Array Slot} {rest : List Value} (C : Cx X p s mi args c own cc nL) (hW : Wd X s m H locs) {i j : Nat} (hi0 : (4, i) ∈ ids) (hi1 : (4, j) ∈ ids) {idx : Nat} (hl : (.methodLink own idx arraycopyName : Cond) ∈ bigW) {sp dp k : Int32} (hk : okCp sp dp k 96 96 = true) (hm : m1 = cpM m (1100 + 96 * i) (1100 + 96 * j) sp dp k) (hls : ls.size = nL) (hf : 1 ≤ R.frames) (hloc : (rest.map fun v => v.category).sum + (nativeFrameWords "java/lang/System" "arraycopy" 5 + 11) ≤ R.locals) (hd : decode cc pc = .ok (.invokestatic idx, 3)) (kk : ∀ (H1 : Heap) (locs1 : List Loc), Wd X s m1 H1 locs1 → W p l e R s mi args below meth c H1 locs1 cells slots Q (F0 mi (pc + 3) ls rest)) : W p l e R s mi args below meth c H locs cells slots Q (F0 mi pc ls (.int k :: .int dp :: .ref (ad X 4 j) :: .int sp :: .ref (ad X 4 i) :: rest)) := cp_gen (b := fun i => 1100 + 96 * i) C hW hi0 hi1 (fun _ _ => zco_4) (fun _ => lo_4) (fun _ => hi_4) hl hk hm hls hf hloc hd w_892 w_78 kk
theorem zcp_16 {X : TX} {p : Program} {l : Launch} {e : Env} {R : Room} {s : State} {mi : MethodId} {args : Array Value} {below : List Frame} {meth : Method} {c : Code} {own : String} {cc : ByteArray} {nL : Nat} {m m1 : Mem} {H : Heap} {locs : List Loc} {cells slots : Nat} {Q : State → Prop} {pc : Nat} {ls : Array Slot} {rest : List Value} (C : Cx X p s mi args c own cc nL) (hW : Wd X s m H locs) {i j : Nat} (hi0 : (16, i) ∈ ids) (hi1 : (16, j) ∈ ids) {idx : Nat} (hl : (.methodLink own idx arraycopyName : Cond) ∈ bigW) {sp dp k : Int32} (hk : okCp sp dp k 24 24 = true) (hm : m1 = cpM m (500 + 24 * i) (500 + 24 * j) sp dp k) (hls : ls.size = nL) (hf : 1 ≤ R.frames) (hloc : (rest.map fun v => v.category).sum + (nativeFrameWords "java/lang/System" "arraycopy" 5 + 11) ≤ R.locals) (hd : decode cc pc = .ok (.invokestatic idx, 3)) (kk : ∀ (H1 : Heap) (locs1 : List Loc), Wd X s m1 H1 locs1 → W p l e R s mi args below meth c H1 locs1 cells slots Q (F0 mi (pc + 3) ls rest)) : W p l e R s mi args below meth c H locs cells slots Q (F0 mi pc ls (.int k :: .int dp :: .ref (ad X 16 j) :: .int sp :: .ref (ad X 16 i) :: rest)) := cp_gen (b := fun i => 500 + 24 * i) C hW hi0 hi1 (fun _ _ => zco_16) (fun _ => lo_16) (fun _ => hi_16) hl hk hm hls hf hloc hd w_892 w_78 kk
end
section
theorem dX8_within_0 : decode cX8_within 0 = .ok (.iload_n 0, 1) := by decide +kernel
theorem dX8_within_1 : decode cX8_within 1 = .ok (.iload_n 1, 1) := by decide +kernel
theorem dX8_within_2 : decode cX8_within 2 = .ok (.if_icmp .lt 12, 3) := by decide +kernel
theorem dX8_within_5 : decode cX8_within 5 = .ok (.iload_n 0, 1) := by decide +kernel
theorem dX8_within_6 : decode cX8_within 6 = .ok (.iload_n 2, 1) := by decide +kernel
theorem dX8_within_7 : decode cX8_within 7 = .ok (.if_icmp .gt 7, 3) := by decide +kernel
theorem dX8_within_10 : decode cX8_within 10 = .ok (.iconst 1, 1) := by decide +kernel
theorem dX8_within_11 : decode cX8_within 11 = .ok (.goto 4, 3) := by decide +kernel
theorem dX8_within_14 : decode cX8_within 14 = .ok (.iconst 0, 1) := by decide +kernel
theorem dX8_within_15 : decode cX8_within 15 = .ok (.ireturn, 1) := by decide +kernel
def f_X8_within (fu : Nat)  (x0 : Int32) (x1 : Int32) (x2 : Int32) (m : Mem) : Option (Int32 × Mem) := if x0 < x1 then (some (0, m)) else (if x2 < x0 then (some (0, m)) else (some (1, m)))
set_option maxHeartbeats 4000000 in
set_option maxRecDepth 100000 in
theorem w_X8_within {X : TX} {p : Program} {l : Launch} {e : Env} {s : State} {mi : MethodId} {args : Array Value} {below : List Frame} {meth : Method} {c : Code} {Q : State → Prop} {r : Int32} {mE : Mem} (C : Cx X p s mi args c RX8 cX8_within 3) (hq : RetI X p l e (rmD 0) s mi args below meth c cX8_within .boolean Q r mE) {fu : Nat} {x0 : Int32} {x1 : Int32} {x2 : Int32} {m : Mem} {H : Heap} {locs : List Loc} {ls : Array Slot} (h : f_X8_within fu x0 x1 x2 m = some (r, mE))  (hW : Wd X s m H locs) (hl : lv_has ls 3 [(0, .int x0), (1, .int x1), (2, .int x2)]) : W p l e (rmD 0) s mi args below meth c H locs 0 0 Q (F0 mi 0 ls []) := by
  unfold f_X8_within at h
  refine lv_iload_n C.1 C.2.1 dX8_within_0 rfl (lv_at hl 0 rfl) ?_
  refine lv_iload_n C.1 C.2.1 dX8_within_1 rfl (lv_at hl 1 rfl) ?_
  refine lv_icmp_lt (tgt := 14) C.1 C.2.1 dX8_within_2 (by decide) (fun hc_2 => ?_) (fun hc_2 => ?_)
  · have h := ite_t hc_2 h
    refine lv_iconst (v := 0) C.1 C.2.1 dX8_within_14 rfl ?_
    exact ret_i h hq rfl hW dX8_within_15
  · have h := ite_f hc_2 h
    refine lv_iload_n C.1 C.2.1 dX8_within_5 rfl (lv_at hl 0 rfl) ?_
    refine lv_iload_n C.1 C.2.1 dX8_within_6 rfl (lv_at hl 2 rfl) ?_
    refine lv_icmp_gt (tgt := 14) C.1 C.2.1 dX8_within_7 (by decide) (fun hc_1 => ?_) (fun hc_1 => ?_)
    · have h := ite_t hc_1 h
      refine lv_iconst (v := 0) C.1 C.2.1 dX8_within_14 rfl ?_
      exact ret_i h hq rfl hW dX8_within_15
    · have h := ite_f hc_1 h
      refine lv_iconst (v := 1) C.1 C.2.1 dX8_within_10 rfl ?_
      refine lv_goto (tgt := 15) C.1 C.2.1 dX8_within_11 (by decide) ?_
      exact ret_i h hq rfl hW dX8_within_15
theorem c_X8_within {X : TX} {l : Launch} {fu : Nat} {x0 : Int32} {x1 : Int32} {x2 : Int32} {m mE : Mem} {r : Int32} (h : f_X8_within fu x0 x1 x2 m = some (r, mE))  : MetI X l yX8_within cX8_within 3 .boolean 0 [.int x0, .int x1, .int x2] m r mE :=
  met_I (by decide) (Nat.le_of_ble_eq_true rfl) (fun p e s mi args below meth c ls Q C hq hW hl => w_X8_within C hq h  hW (lv_sub hl [0, 1, 2] rfl))
theorem k_X8_within : CalS yX8_within cX8_within 3 (some .boolean) 3 := ⟨w_402, w_61, w_403, by decide +kernel⟩
theorem dX7_allows_0 : decode cX7_allows 0 = .ok (.iload_n 0, 1) := by decide +kernel
theorem dX7_allows_1 : decode cX7_allows 1 = .ok (.tableswitch 51 1 3 #[27, 35, 43], 27) := by decide +kernel
theorem dX7_allows_28 : decode cX7_allows 28 = .ok (.iload_n 1, 1) := by decide +kernel
theorem dX7_allows_29 : decode cX7_allows 29 = .ok (.iconst 1, 1) := by decide +kernel
theorem dX7_allows_30 : decode cX7_allows 30 = .ok (.bipush 60, 2) := by decide +kernel
theorem dX7_allows_32 : decode cX7_allows 32 = .ok (.invokestatic 9, 3) := by decide +kernel
theorem dX7_allows_35 : decode cX7_allows 35 = .ok (.ireturn, 1) := by decide +kernel
theorem dX7_allows_36 : decode cX7_allows 36 = .ok (.iload_n 1, 1) := by decide +kernel
theorem dX7_allows_37 : decode cX7_allows 37 = .ok (.iconst 1, 1) := by decide +kernel
theorem dX7_allows_38 : decode cX7_allows 38 = .ok (.bipush 60, 2) := by decide +kernel
theorem dX7_allows_40 : decode cX7_allows 40 = .ok (.invokestatic 9, 3) := by decide +kernel
theorem dX7_allows_43 : decode cX7_allows 43 = .ok (.ireturn, 1) := by decide +kernel
theorem dX7_allows_44 : decode cX7_allows 44 = .ok (.iload_n 1, 1) := by decide +kernel
theorem dX7_allows_45 : decode cX7_allows 45 = .ok (.iconst 0, 1) := by decide +kernel
theorem dX7_allows_46 : decode cX7_allows 46 = .ok (.bipush 40, 2) := by decide +kernel
theorem dX7_allows_48 : decode cX7_allows 48 = .ok (.invokestatic 9, 3) := by decide +kernel
theorem dX7_allows_51 : decode cX7_allows 51 = .ok (.ireturn, 1) := by decide +kernel
theorem dX7_allows_52 : decode cX7_allows 52 = .ok (.iconst 0, 1) := by decide +kernel
theorem dX7_allows_53 : decode cX7_allows 53 = .ok (.ireturn, 1) := by decide +kernel
def f_X7_allows (fu : Nat)  (x0 : Int32) (x1 : Int32) (m : Mem) : Option (Int32 × Mem) := if x0 = 1 then (doI (f_X8_within fu x1 1 60 m) (fun r_3 m_2 => chk (isB r_3) (some (r_3, m_2)))) else (if x0 = 2 then (doI (f_X8_within fu x1 1 60 m) (fun r_8 m_7 => chk (isB r_8) (some (r_8, m_7)))) else (if x0 = 3 then (doI (f_X8_within fu x1 0 40 m) (fun r_13 m_12 => chk (isB r_13) (some (r_13, m_12)))) else (some (0, m))))
set_option maxHeartbeats 4000000 in
set_option maxRecDepth 100000 in
theorem w_X7_allows {X : TX} {p : Program} {l : Launch} {e : Env} {s : State} {mi : MethodId} {args : Array Value} {below : List Frame} {meth : Method} {c : Code} {Q : State → Prop} {r : Int32} {mE : Mem} (C : Cx X p s mi args c RX7 cX7_allows 2) (hq : RetI X p l e (rmD 1) s mi args below meth c cX7_allows .boolean Q r mE) {fu : Nat} {x0 : Int32} {x1 : Int32} {m : Mem} {H : Heap} {locs : List Loc} {ls : Array Slot} (h : f_X7_allows fu x0 x1 m = some (r, mE))  (hW : Wd X s m H locs) (hl : lv_has ls 2 [(0, .int x0), (1, .int x1)]) : W p l e (rmD 1) s mi args below meth c H locs 0 0 Q (F0 mi 0 ls []) := by
  unfold f_X7_allows at h
  refine lv_iload_n C.1 C.2.1 dX7_allows_0 rfl (lv_at hl 0 rfl) ?_
  by_cases hc_5 : x0 = 1
  · have h := ite_t hc_5 h
    refine lv_tableIn (tgt := 28) C.1 C.2.1 dX7_allows_1 (by rw [hc_5]; decide) (by rw [hc_5]; decide) (by rw [hc_5]; rfl) (by decide) ?_
    refine lv_iload_n C.1 C.2.1 dX7_allows_28 rfl (lv_at hl 1 rfl) ?_
    refine lv_iconst (v := 1) C.1 C.2.1 dX7_allows_29 rfl ?_
    refine lv_bipush (v := 60) C.1 C.2.1 dX7_allows_30 rfl ?_
    obtain ⟨r_3, m_2, hc_1, h⟩ := doI_E h
    refine zr_cNI C hW (c_X8_within (x0 := x1) (x1 := 1) (x2 := 60) hc_1 ) k_X8_within C.2.2.2.2.2.1.2.1 ⟨Nat.le_of_ble_eq_true rfl, Nat.le_of_ble_eq_true rfl⟩ ⟨Nat.le_refl 0, Nat.le_refl 0⟩ rfl hl.1 rfl (Nat.le_of_ble_eq_true rfl) dX7_allows_32 (fun H locs hW => ?_)
    obtain ⟨hb_4, h⟩ := chk_E h
    exact ret_i h hq (nar_B (isB_E hb_4)) hW dX7_allows_35
  · have h := ite_f hc_5 h
    by_cases hc_10 : x0 = 2
    · have h := ite_t hc_10 h
      refine lv_tableIn (tgt := 36) C.1 C.2.1 dX7_allows_1 (by rw [hc_10]; decide) (by rw [hc_10]; decide) (by rw [hc_10]; rfl) (by decide) ?_
      refine lv_iload_n C.1 C.2.1 dX7_allows_36 rfl (lv_at hl 1 rfl) ?_
      refine lv_iconst (v := 1) C.1 C.2.1 dX7_allows_37 rfl ?_
      refine lv_bipush (v := 60) C.1 C.2.1 dX7_allows_38 rfl ?_
      obtain ⟨r_8, m_7, hc_6, h⟩ := doI_E h
      refine zr_cNI C hW (c_X8_within (x0 := x1) (x1 := 1) (x2 := 60) hc_6 ) k_X8_within C.2.2.2.2.2.1.2.1 ⟨Nat.le_of_ble_eq_true rfl, Nat.le_of_ble_eq_true rfl⟩ ⟨Nat.le_refl 0, Nat.le_refl 0⟩ rfl hl.1 rfl (Nat.le_of_ble_eq_true rfl) dX7_allows_40 (fun H locs hW => ?_)
      obtain ⟨hb_9, h⟩ := chk_E h
      exact ret_i h hq (nar_B (isB_E hb_9)) hW dX7_allows_43
    · have h := ite_f hc_10 h
      by_cases hc_15 : x0 = 3
      · have h := ite_t hc_15 h
        refine lv_tableIn (tgt := 44) C.1 C.2.1 dX7_allows_1 (by rw [hc_15]; decide) (by rw [hc_15]; decide) (by rw [hc_15]; rfl) (by decide) ?_
        refine lv_iload_n C.1 C.2.1 dX7_allows_44 rfl (lv_at hl 1 rfl) ?_
        refine lv_iconst (v := 0) C.1 C.2.1 dX7_allows_45 rfl ?_
        refine lv_bipush (v := 40) C.1 C.2.1 dX7_allows_46 rfl ?_
        obtain ⟨r_13, m_12, hc_11, h⟩ := doI_E h
        refine zr_cNI C hW (c_X8_within (x0 := x1) (x1 := 0) (x2 := 40) hc_11 ) k_X8_within C.2.2.2.2.2.1.2.1 ⟨Nat.le_of_ble_eq_true rfl, Nat.le_of_ble_eq_true rfl⟩ ⟨Nat.le_refl 0, Nat.le_refl 0⟩ rfl hl.1 rfl (Nat.le_of_ble_eq_true rfl) dX7_allows_48 (fun H locs hW => ?_)
        obtain ⟨hb_14, h⟩ := chk_E h
        exact ret_i h hq (nar_B (isB_E hb_14)) hW dX7_allows_51
      · have h := ite_f hc_15 h
        have nhc_5 := ne_k (1) rfl hc_5
        have nhc_10 := ne_k (2) rfl hc_10
        have nhc_15 := ne_k (3) rfl hc_15
        refine lv_tableOut (tgt := 52) C.1 C.2.1 dX7_allows_1 (by omega) (by decide) ?_
        refine lv_iconst (v := 0) C.1 C.2.1 dX7_allows_52 rfl ?_
        exact ret_i h hq rfl hW dX7_allows_53
theorem c_X7_allows {X : TX} {l : Launch} {fu : Nat} {x0 : Int32} {x1 : Int32} {m mE : Mem} {r : Int32} (h : f_X7_allows fu x0 x1 m = some (r, mE))  : MetI X l yX7_allows cX7_allows 2 .boolean 1 [.int x0, .int x1] m r mE :=
  met_I (by decide) (Nat.le_of_ble_eq_true rfl) (fun p e s mi args below meth c ls Q C hq hW hl => w_X7_allows C hq h  hW (lv_sub hl [0, 1] rfl))
theorem k_X7_allows : CalS yX7_allows cX7_allows 2 (some .boolean) 2 := ⟨w_405, w_66, w_406, by decide +kernel⟩
theorem dX7_waits_0 : decode cX7_waits 0 = .ok (.aload_n 0, 1) := by decide +kernel
theorem dX7_waits_1 : decode cX7_waits 1 = .ok (.getfield 13, 3) := by decide +kernel
theorem dX7_waits_4 : decode cX7_waits 4 = .ok (.aload_n 0, 1) := by decide +kernel
theorem dX7_waits_5 : decode cX7_waits 5 = .ok (.getfield 31, 3) := by decide +kernel
theorem dX7_waits_8 : decode cX7_waits 8 = .ok (.iadd, 1) := by decide +kernel
theorem dX7_waits_9 : decode cX7_waits 9 = .ok (.iload_n 1, 1) := by decide +kernel
theorem dX7_waits_10 : decode cX7_waits 10 = .ok (.ifCond .eq 10, 3) := by decide +kernel
theorem dX7_waits_13 : decode cX7_waits 13 = .ok (.aload_n 0, 1) := by decide +kernel
theorem dX7_waits_14 : decode cX7_waits 14 = .ok (.getfield 22, 3) := by decide +kernel
theorem dX7_waits_17 : decode cX7_waits 17 = .ok (.goto 4, 3) := by decide +kernel
theorem dX7_waits_20 : decode cX7_waits 20 = .ok (.iconst 0, 1) := by decide +kernel
theorem dX7_waits_21 : decode cX7_waits 21 = .ok (.iadd, 1) := by decide +kernel
theorem dX7_waits_22 : decode cX7_waits 22 = .ok (.istore_n 2, 1) := by decide +kernel
theorem dX7_waits_23 : decode cX7_waits 23 = .ok (.aload_n 0, 1) := by decide +kernel
theorem dX7_waits_24 : decode cX7_waits 24 = .ok (.getfield 25, 3) := by decide +kernel
theorem dX7_waits_27 : decode cX7_waits 27 = .ok (.tableswitch 61 1 4 #[29, 51, 37, 55], 29) := by decide +kernel
theorem dX7_waits_56 : decode cX7_waits 56 = .ok (.iconst 1, 1) := by decide +kernel
theorem dX7_waits_57 : decode cX7_waits 57 = .ok (.iload_n 2, 1) := by decide +kernel
theorem dX7_waits_58 : decode cX7_waits 58 = .ok (.iconst 2, 1) := by decide +kernel
theorem dX7_waits_59 : decode cX7_waits 59 = .ok (.isub, 1) := by decide +kernel
theorem dX7_waits_60 : decode cX7_waits 60 = .ok (.invokestatic 41, 3) := by decide +kernel
theorem dX7_waits_63 : decode cX7_waits 63 = .ok (.ireturn, 1) := by decide +kernel
theorem dX7_waits_64 : decode cX7_waits 64 = .ok (.iconst 1, 1) := by decide +kernel
theorem dX7_waits_65 : decode cX7_waits 65 = .ok (.iconst 1, 1) := by decide +kernel
theorem dX7_waits_66 : decode cX7_waits 66 = .ok (.iload_n 2, 1) := by decide +kernel
theorem dX7_waits_67 : decode cX7_waits 67 = .ok (.iconst 2, 1) := by decide +kernel
theorem dX7_waits_68 : decode cX7_waits 68 = .ok (.isub, 1) := by decide +kernel
theorem dX7_waits_69 : decode cX7_waits 69 = .ok (.invokestatic 41, 3) := by decide +kernel
theorem dX7_waits_72 : decode cX7_waits 72 = .ok (.iconst 2, 1) := by decide +kernel
theorem dX7_waits_73 : decode cX7_waits 73 = .ok (.idiv, 1) := by decide +kernel
theorem dX7_waits_74 : decode cX7_waits 74 = .ok (.invokestatic 41, 3) := by decide +kernel
theorem dX7_waits_77 : decode cX7_waits 77 = .ok (.ireturn, 1) := by decide +kernel
theorem dX7_waits_78 : decode cX7_waits 78 = .ok (.iload_n 2, 1) := by decide +kernel
theorem dX7_waits_79 : decode cX7_waits 79 = .ok (.iconst 3, 1) := by decide +kernel
theorem dX7_waits_80 : decode cX7_waits 80 = .ok (.iadd, 1) := by decide +kernel
theorem dX7_waits_81 : decode cX7_waits 81 = .ok (.ireturn, 1) := by decide +kernel
theorem dX7_waits_82 : decode cX7_waits 82 = .ok (.iconst 2, 1) := by decide +kernel
theorem dX7_waits_83 : decode cX7_waits 83 = .ok (.iload_n 2, 1) := by decide +kernel
theorem dX7_waits_84 : decode cX7_waits 84 = .ok (.iconst 3, 1) := by decide +kernel
theorem dX7_waits_85 : decode cX7_waits 85 = .ok (.iadd, 1) := by decide +kernel
theorem dX7_waits_86 : decode cX7_waits 86 = .ok (.imul, 1) := by decide +kernel
theorem dX7_waits_87 : decode cX7_waits 87 = .ok (.ireturn, 1) := by decide +kernel
theorem dX7_waits_88 : decode cX7_waits 88 = .ok (.iload_n 2, 1) := by decide +kernel
theorem dX7_waits_89 : decode cX7_waits 89 = .ok (.ireturn, 1) := by decide +kernel
def f_X7_waits_21 (fu : Nat)  (i0 : Nat) (y0 : Int32) (y1 : Int32) (m : Mem) : Option (Int32 × Mem) := seqM (y0 + y1) (fun x_1 : Int32 => seqM (m (vf i0 0)) (fun x_3 : Int32 => if x_3 = 1 then (some ((if 1 < (x_1 - 2) then (x_1 - 2) else 1), m)) else (if x_3 = 2 then (some ((x_1 + 3), m)) else (if x_3 = 3 then (some ((if 1 < ((if 1 < (x_1 - 2) then (x_1 - 2) else 1) / 2) then ((if 1 < (x_1 - 2) then (x_1 - 2) else 1) / 2) else 1), m)) else (if x_3 = 4 then (some ((2 * (x_1 + 3)), m)) else (some (x_1, m)))))))
set_option maxHeartbeats 4000000 in
set_option maxRecDepth 100000 in
theorem w_X7_waits_21 {X : TX} {p : Program} {l : Launch} {e : Env} {s : State} {mi : MethodId} {args : Array Value} {below : List Frame} {meth : Method} {c : Code} {Q : State → Prop} {r : Int32} {mE : Mem} (C : Cx X p s mi args c RX7 cX7_waits 3) (hq : RetI X p l e (rmD 1) s mi args below meth c cX7_waits .int Q r mE) {fu : Nat} {i0 : Nat} {y0 : Int32} {y1 : Int32} {m : Mem} {H : Heap} {locs : List Loc} {ls : Array Slot} (h : f_X7_waits_21 fu i0 y0 y1 m = some (r, mE)) (g_i0 : (11, i0) ∈ ids) (hW : Wd X s m H locs) (hl : lv_has ls 3 [(0, .ref (ad X 11 i0))]) : W p l e (rmD 1) s mi args below meth c H locs 0 0 Q (F0 mi 21 ls [.int y1, .int y0]) := by
  unfold f_X7_waits_21 at h
  refine lv_iadd C.1 C.2.1 dX7_waits_21 ?_
  obtain ⟨x_1, e_2, h⟩ := seqM_E h
  refine lv_name e_2 ?_
  refine lv_istore_n (lv' := [(2, .int x_1), (0, .ref (ad X 11 i0))]) C.1 C.2.1 dX7_waits_22 rfl hl (by decide) rfl (fun ls hl => ?_)
  refine lv_aload_n C.1 C.2.1 dX7_waits_23 rfl (lv_at hl 1 rfl) ?_
  refine zg_X7_kind C hW g_i0 w_189 dX7_waits_24 ?_
  obtain ⟨x_3, e_4, h⟩ := seqM_E h
  refine lv_name e_4 ?_
  by_cases hc_5 : x_3 = 1
  · have h := ite_t hc_5 h
    refine lv_tableIn (tgt := 56) C.1 C.2.1 dX7_waits_27 (by rw [hc_5]; decide) (by rw [hc_5]; decide) (by rw [hc_5]; rfl) (by decide) ?_
    refine lv_iconst (v := 1) C.1 C.2.1 dX7_waits_56 rfl ?_
    refine lv_iload_n C.1 C.2.1 dX7_waits_57 rfl (lv_at hl 0 rfl) ?_
    refine lv_iconst (v := 2) C.1 C.2.1 dX7_waits_58 rfl ?_
    refine lv_isub C.1 C.2.1 dX7_waits_59 ?_
    refine va_mmax C.1 C.2.1 (C.2.2.1.trans hl.1.symm) C.2.2.2.1 (C.2.2.2.2.1 _ w_430) (C.2.2.2.2.1 _ w_431) (C.2.2.2.2.1 _ w_71) (C.2.2.2.2.1 _ w_432) (Nat.le_of_ble_eq_true rfl) (Nat.le_of_ble_eq_true rfl) (Nat.le_refl 0) (Nat.le_refl 0) dX7_waits_60 ?_
    exact ret_i h hq rfl hW dX7_waits_63
  · have h := ite_f hc_5 h
    by_cases hc_6 : x_3 = 2
    · have h := ite_t hc_6 h
      refine lv_tableIn (tgt := 78) C.1 C.2.1 dX7_waits_27 (by rw [hc_6]; decide) (by rw [hc_6]; decide) (by rw [hc_6]; rfl) (by decide) ?_
      refine lv_iload_n C.1 C.2.1 dX7_waits_78 rfl (lv_at hl 0 rfl) ?_
      refine lv_iconst (v := 3) C.1 C.2.1 dX7_waits_79 rfl ?_
      refine lv_iadd C.1 C.2.1 dX7_waits_80 ?_
      exact ret_i h hq rfl hW dX7_waits_81
    · have h := ite_f hc_6 h
      by_cases hc_7 : x_3 = 3
      · have h := ite_t hc_7 h
        refine lv_tableIn (tgt := 64) C.1 C.2.1 dX7_waits_27 (by rw [hc_7]; decide) (by rw [hc_7]; decide) (by rw [hc_7]; rfl) (by decide) ?_
        refine lv_iconst (v := 1) C.1 C.2.1 dX7_waits_64 rfl ?_
        refine lv_iconst (v := 1) C.1 C.2.1 dX7_waits_65 rfl ?_
        refine lv_iload_n C.1 C.2.1 dX7_waits_66 rfl (lv_at hl 0 rfl) ?_
        refine lv_iconst (v := 2) C.1 C.2.1 dX7_waits_67 rfl ?_
        refine lv_isub C.1 C.2.1 dX7_waits_68 ?_
        refine va_mmax C.1 C.2.1 (C.2.2.1.trans hl.1.symm) C.2.2.2.1 (C.2.2.2.2.1 _ w_430) (C.2.2.2.2.1 _ w_431) (C.2.2.2.2.1 _ w_71) (C.2.2.2.2.1 _ w_432) (Nat.le_of_ble_eq_true rfl) (Nat.le_of_ble_eq_true rfl) (Nat.le_refl 0) (Nat.le_refl 0) dX7_waits_69 ?_
        refine lv_iconst (v := 2) C.1 C.2.1 dX7_waits_72 rfl ?_
        refine lv_idiv C.1 C.2.1 dX7_waits_73 (by decide) ?_
        refine va_mmax C.1 C.2.1 (C.2.2.1.trans hl.1.symm) C.2.2.2.1 (C.2.2.2.2.1 _ w_430) (C.2.2.2.2.1 _ w_431) (C.2.2.2.2.1 _ w_71) (C.2.2.2.2.1 _ w_432) (Nat.le_of_ble_eq_true rfl) (Nat.le_of_ble_eq_true rfl) (Nat.le_refl 0) (Nat.le_refl 0) dX7_waits_74 ?_
        exact ret_i h hq rfl hW dX7_waits_77
      · have h := ite_f hc_7 h
        by_cases hc_8 : x_3 = 4
        · have h := ite_t hc_8 h
          refine lv_tableIn (tgt := 82) C.1 C.2.1 dX7_waits_27 (by rw [hc_8]; decide) (by rw [hc_8]; decide) (by rw [hc_8]; rfl) (by decide) ?_
          refine lv_iconst (v := 2) C.1 C.2.1 dX7_waits_82 rfl ?_
          refine lv_iload_n C.1 C.2.1 dX7_waits_83 rfl (lv_at hl 0 rfl) ?_
          refine lv_iconst (v := 3) C.1 C.2.1 dX7_waits_84 rfl ?_
          refine lv_iadd C.1 C.2.1 dX7_waits_85 ?_
          refine lv_imul C.1 C.2.1 dX7_waits_86 ?_
          exact ret_i h hq rfl hW dX7_waits_87
        · have h := ite_f hc_8 h
          have nhc_5 := ne_k (1) rfl hc_5
          have nhc_6 := ne_k (2) rfl hc_6
          have nhc_7 := ne_k (3) rfl hc_7
          have nhc_8 := ne_k (4) rfl hc_8
          refine lv_tableOut (tgt := 88) C.1 C.2.1 dX7_waits_27 (by omega) (by decide) ?_
          refine lv_iload_n C.1 C.2.1 dX7_waits_88 rfl (lv_at hl 0 rfl) ?_
          exact ret_i h hq rfl hW dX7_waits_89
def f_X7_waits (fu : Nat)  (i0 : Nat) (x1 : Int32) (m : Mem) : Option (Int32 × Mem) := if x1 = 0 then (f_X7_waits_21 fu i0 ((m (vf i0 1)) + (m (vf i0 5))) 0 m) else (f_X7_waits_21 fu i0 ((m (vf i0 1)) + (m (vf i0 5))) (m (vf i0 3)) m)
set_option maxHeartbeats 4000000 in
set_option maxRecDepth 100000 in
theorem w_X7_waits {X : TX} {p : Program} {l : Launch} {e : Env} {s : State} {mi : MethodId} {args : Array Value} {below : List Frame} {meth : Method} {c : Code} {Q : State → Prop} {r : Int32} {mE : Mem} (C : Cx X p s mi args c RX7 cX7_waits 3) (hq : RetI X p l e (rmD 1) s mi args below meth c cX7_waits .int Q r mE) {fu : Nat} {i0 : Nat} {x1 : Int32} {m : Mem} {H : Heap} {locs : List Loc} {ls : Array Slot} (h : f_X7_waits fu i0 x1 m = some (r, mE)) (g_i0 : (11, i0) ∈ ids) (hW : Wd X s m H locs) (hl : lv_has ls 3 [(0, .ref (ad X 11 i0)), (1, .int x1)]) : W p l e (rmD 1) s mi args below meth c H locs 0 0 Q (F0 mi 0 ls []) := by
  unfold f_X7_waits at h
  refine lv_aload_n C.1 C.2.1 dX7_waits_0 rfl (lv_at hl 0 rfl) ?_
  refine zg_X7_wait C hW g_i0 w_191 dX7_waits_1 ?_
  refine lv_aload_n C.1 C.2.1 dX7_waits_4 rfl (lv_at hl 0 rfl) ?_
  refine zg_X7_back C hW g_i0 w_204 dX7_waits_5 ?_
  refine lv_iadd C.1 C.2.1 dX7_waits_8 ?_
  refine lv_iload_n C.1 C.2.1 dX7_waits_9 rfl (lv_at hl 1 rfl) ?_
  refine lv_if_eq (tgt := 20) C.1 C.2.1 dX7_waits_10 (by decide) (fun hc_1 => ?_) (fun hc_1 => ?_)
  · have h := ite_t hc_1 h
    refine lv_iconst (v := 0) C.1 C.2.1 dX7_waits_20 rfl ?_
    exact w_X7_waits_21 C hq  h g_i0 hW (lv_sub hl [0] rfl)
  · have h := ite_f hc_1 h
    refine lv_aload_n C.1 C.2.1 dX7_waits_13 rfl (lv_at hl 0 rfl) ?_
    refine zg_X7_pause C hW g_i0 w_197 dX7_waits_14 ?_
    refine lv_goto (tgt := 21) C.1 C.2.1 dX7_waits_17 (by decide) ?_
    exact w_X7_waits_21 C hq  h g_i0 hW (lv_sub hl [0] rfl)
theorem c_X7_waits {X : TX} {l : Launch} {fu : Nat} {i0 : Nat} {x1 : Int32} {m mE : Mem} {r : Int32} (h : f_X7_waits fu i0 x1 m = some (r, mE)) (g_i0 : (11, i0) ∈ ids) : MetI X l yX7_waits cX7_waits 3 .int 1 [.ref (ad X 11 i0), .int x1] m r mE :=
  met_I (by decide) (Nat.le_of_ble_eq_true rfl) (fun p e s mi args below meth c ls Q C hq hW hl => w_X7_waits C hq h g_i0 hW (lv_sub hl [0, 1] rfl))
theorem k_X7_waits : CalV yX7_waits cX7_waits 3 (some .int) RX7 1 := ⟨w_427, w_428, w_66, w_429, by decide +kernel⟩
theorem dX7_become_0 : decode cX7_become 0 = .ok (.aload_n 0, 1) := by decide +kernel
theorem dX7_become_1 : decode cX7_become 1 = .ok (.aload_n 1, 1) := by decide +kernel
theorem dX7_become_2 : decode cX7_become 2 = .ok (.getfield 25, 3) := by decide +kernel
theorem dX7_become_5 : decode cX7_become 5 = .ok (.putfield 25, 3) := by decide +kernel
theorem dX7_become_8 : decode cX7_become 8 = .ok (.aload_n 0, 1) := by decide +kernel
theorem dX7_become_9 : decode cX7_become 9 = .ok (.aload_n 1, 1) := by decide +kernel
theorem dX7_become_10 : decode cX7_become 10 = .ok (.getfield 13, 3) := by decide +kernel
theorem dX7_become_13 : decode cX7_become 13 = .ok (.putfield 13, 3) := by decide +kernel
theorem dX7_become_16 : decode cX7_become 16 = .ok (.aload_n 0, 1) := by decide +kernel
theorem dX7_become_17 : decode cX7_become 17 = .ok (.aload_n 1, 1) := by decide +kernel
theorem dX7_become_18 : decode cX7_become 18 = .ok (.getfield 19, 3) := by decide +kernel
theorem dX7_become_21 : decode cX7_become 21 = .ok (.putfield 19, 3) := by decide +kernel
theorem dX7_become_24 : decode cX7_become 24 = .ok (.aload_n 0, 1) := by decide +kernel
theorem dX7_become_25 : decode cX7_become 25 = .ok (.aload_n 1, 1) := by decide +kernel
theorem dX7_become_26 : decode cX7_become 26 = .ok (.getfield 22, 3) := by decide +kernel
theorem dX7_become_29 : decode cX7_become 29 = .ok (.putfield 22, 3) := by decide +kernel
theorem dX7_become_32 : decode cX7_become 32 = .ok (.aload_n 0, 1) := by decide +kernel
theorem dX7_become_33 : decode cX7_become 33 = .ok (.aload_n 1, 1) := by decide +kernel
theorem dX7_become_34 : decode cX7_become 34 = .ok (.getfield 28, 3) := by decide +kernel
theorem dX7_become_37 : decode cX7_become 37 = .ok (.putfield 28, 3) := by decide +kernel
theorem dX7_become_40 : decode cX7_become 40 = .ok (.aload_n 0, 1) := by decide +kernel
theorem dX7_become_41 : decode cX7_become 41 = .ok (.aload_n 1, 1) := by decide +kernel
theorem dX7_become_42 : decode cX7_become 42 = .ok (.getfield 31, 3) := by decide +kernel
theorem dX7_become_45 : decode cX7_become 45 = .ok (.putfield 31, 3) := by decide +kernel
theorem dX7_become_48 : decode cX7_become 48 = .ok (.aload_n 0, 1) := by decide +kernel
theorem dX7_become_49 : decode cX7_become 49 = .ok (.aload_n 1, 1) := by decide +kernel
theorem dX7_become_50 : decode cX7_become 50 = .ok (.getfield 34, 3) := by decide +kernel
theorem dX7_become_53 : decode cX7_become 53 = .ok (.putfield 34, 3) := by decide +kernel
theorem dX7_become_56 : decode cX7_become 56 = .ok (.return_, 1) := by decide +kernel
def f_X7_become (fu : Nat)  (i0 : Nat) (i1 : Nat) (m : Mem) : Option Mem := seqM (upd m (vf i0 0) (m (vf i1 0))) (fun m_1 : Mem => seqM (upd m_1 (vf i0 1) (m_1 (vf i1 1))) (fun m_3 : Mem => seqM (upd m_3 (vf i0 2) (m_3 (vf i1 2))) (fun m_5 : Mem => seqM (upd m_5 (vf i0 3) (m_5 (vf i1 3))) (fun m_7 : Mem => seqM (upd m_7 (vf i0 4) (m_7 (vf i1 4))) (fun m_9 : Mem => seqM (upd m_9 (vf i0 5) (m_9 (vf i1 5))) (fun m_11 : Mem => seqM (upd m_11 (vf i0 6) (m_11 (vf i1 6))) (fun m_13 : Mem => some m_13)))))))
set_option maxHeartbeats 4000000 in
set_option maxRecDepth 100000 in
theorem w_X7_become {X : TX} {p : Program} {l : Launch} {e : Env} {s : State} {mi : MethodId} {args : Array Value} {below : List Frame} {meth : Method} {c : Code} {Q : State → Prop} {mE : Mem} (C : Cx X p s mi args c RX7 cX7_become 2) (hq : RetV X p l e (rmD 0) s mi args below meth c cX7_become Q mE) {fu : Nat} {i0 : Nat} {i1 : Nat} {m : Mem} {H : Heap} {locs : List Loc} {ls : Array Slot} (h : f_X7_become fu i0 i1 m = some mE) (g_i0 : (11, i0) ∈ ids) (g_i1 : (11, i1) ∈ ids) (hW : Wd X s m H locs) (hl : lv_has ls 2 [(0, .ref (ad X 11 i0)), (1, .ref (ad X 11 i1))]) : W p l e (rmD 0) s mi args below meth c H locs 0 0 Q (F0 mi 0 ls []) := by
  unfold f_X7_become at h
  refine lv_aload_n C.1 C.2.1 dX7_become_0 rfl (lv_at hl 0 rfl) ?_
  refine lv_aload_n C.1 C.2.1 dX7_become_1 rfl (lv_at hl 1 rfl) ?_
  refine zg_X7_kind C hW g_i1 w_189 dX7_become_2 ?_
  obtain ⟨m_1, e_2, h⟩ := seqM_E h
  refine zp_X7_kind C hW g_i0 w_189 e_2 dX7_become_5 (fun H locs hW => ?_)
  refine lv_aload_n C.1 C.2.1 dX7_become_8 rfl (lv_at hl 0 rfl) ?_
  refine lv_aload_n C.1 C.2.1 dX7_become_9 rfl (lv_at hl 1 rfl) ?_
  refine zg_X7_wait C hW g_i1 w_191 dX7_become_10 ?_
  obtain ⟨m_3, e_4, h⟩ := seqM_E h
  refine zp_X7_wait C hW g_i0 w_191 e_4 dX7_become_13 (fun H locs hW => ?_)
  refine lv_aload_n C.1 C.2.1 dX7_become_16 rfl (lv_at hl 0 rfl) ?_
  refine lv_aload_n C.1 C.2.1 dX7_become_17 rfl (lv_at hl 1 rfl) ?_
  refine zg_X7_talk C hW g_i1 w_194 dX7_become_18 ?_
  obtain ⟨m_5, e_6, h⟩ := seqM_E h
  refine zp_X7_talk C hW g_i0 w_194 e_6 dX7_become_21 (fun H locs hW => ?_)
  refine lv_aload_n C.1 C.2.1 dX7_become_24 rfl (lv_at hl 0 rfl) ?_
  refine lv_aload_n C.1 C.2.1 dX7_become_25 rfl (lv_at hl 1 rfl) ?_
  refine zg_X7_pause C hW g_i1 w_197 dX7_become_26 ?_
  obtain ⟨m_7, e_8, h⟩ := seqM_E h
  refine zp_X7_pause C hW g_i0 w_197 e_8 dX7_become_29 (fun H locs hW => ?_)
  refine lv_aload_n C.1 C.2.1 dX7_become_32 rfl (lv_at hl 0 rfl) ?_
  refine lv_aload_n C.1 C.2.1 dX7_become_33 rfl (lv_at hl 1 rfl) ?_
  refine zg_X7_left C hW g_i1 w_201 dX7_become_34 ?_
  obtain ⟨m_9, e_10, h⟩ := seqM_E h
  refine zp_X7_left C hW g_i0 w_201 e_10 dX7_become_37 (fun H locs hW => ?_)
  refine lv_aload_n C.1 C.2.1 dX7_become_40 rfl (lv_at hl 0 rfl) ?_
  refine lv_aload_n C.1 C.2.1 dX7_become_41 rfl (lv_at hl 1 rfl) ?_
  refine zg_X7_back C hW g_i1 w_204 dX7_become_42 ?_
  obtain ⟨m_11, e_12, h⟩ := seqM_E h
  refine zp_X7_back C hW g_i0 w_204 e_12 dX7_become_45 (fun H locs hW => ?_)
  refine lv_aload_n C.1 C.2.1 dX7_become_48 rfl (lv_at hl 0 rfl) ?_
  refine lv_aload_n C.1 C.2.1 dX7_become_49 rfl (lv_at hl 1 rfl) ?_
  refine zg_X7_said C hW g_i1 w_207 dX7_become_50 ?_
  obtain ⟨m_13, e_14, h⟩ := seqM_E h
  refine zp_X7_said C hW g_i0 w_207 e_14 dX7_become_53 (fun H locs hW => ?_)
  exact ret_v h hq hW dX7_become_56
theorem c_X7_become {X : TX} {l : Launch} {fu : Nat} {i0 : Nat} {i1 : Nat} {m mE : Mem} (h : f_X7_become fu i0 i1 m = some mE) (g_i0 : (11, i0) ∈ ids) (g_i1 : (11, i1) ∈ ids) : MetV X l yX7_become cX7_become 2 0 [.ref (ad X 11 i0), .ref (ad X 11 i1)] m mE :=
  met_V (by decide) (Nat.le_of_ble_eq_true rfl) (fun p e s mi args below meth c ls Q C hq hW hl => w_X7_become C hq h g_i0 g_i1 hW (lv_sub hl [0, 1] rfl))
theorem k_X7_become : CalV yX7_become cX7_become 2 none RX7 1 := ⟨w_594, w_595, w_66, w_596, by decide +kernel⟩
theorem dX7_talks_0 : decode cX7_talks 0 = .ok (.aload_n 0, 1) := by decide +kernel
theorem dX7_talks_1 : decode cX7_talks 1 = .ok (.getfield 25, 3) := by decide +kernel
theorem dX7_talks_4 : decode cX7_talks 4 = .ok (.tableswitch 50 2 5 #[39, 32, 39, 48], 32) := by decide +kernel
theorem dX7_talks_36 : decode cX7_talks 36 = .ok (.aload_n 0, 1) := by decide +kernel
theorem dX7_talks_37 : decode cX7_talks 37 = .ok (.getfield 19, 3) := by decide +kernel
theorem dX7_talks_40 : decode cX7_talks 40 = .ok (.iconst 5, 1) := by decide +kernel
theorem dX7_talks_41 : decode cX7_talks 41 = .ok (.iadd, 1) := by decide +kernel
theorem dX7_talks_42 : decode cX7_talks 42 = .ok (.ireturn, 1) := by decide +kernel
theorem dX7_talks_43 : decode cX7_talks 43 = .ok (.aload_n 0, 1) := by decide +kernel
theorem dX7_talks_44 : decode cX7_talks 44 = .ok (.getfield 19, 3) := by decide +kernel
theorem dX7_talks_47 : decode cX7_talks 47 = .ok (.iconst 2, 1) := by decide +kernel
theorem dX7_talks_48 : decode cX7_talks 48 = .ok (.idiv, 1) := by decide +kernel
theorem dX7_talks_49 : decode cX7_talks 49 = .ok (.iconst 1, 1) := by decide +kernel
theorem dX7_talks_50 : decode cX7_talks 50 = .ok (.iadd, 1) := by decide +kernel
theorem dX7_talks_51 : decode cX7_talks 51 = .ok (.ireturn, 1) := by decide +kernel
theorem dX7_talks_52 : decode cX7_talks 52 = .ok (.iconst 1, 1) := by decide +kernel
theorem dX7_talks_53 : decode cX7_talks 53 = .ok (.ireturn, 1) := by decide +kernel
theorem dX7_talks_54 : decode cX7_talks 54 = .ok (.aload_n 0, 1) := by decide +kernel
theorem dX7_talks_55 : decode cX7_talks 55 = .ok (.getfield 19, 3) := by decide +kernel
theorem dX7_talks_58 : decode cX7_talks 58 = .ok (.ireturn, 1) := by decide +kernel
def f_X7_talks_43 (fu : Nat)  (i0 : Nat) (m : Mem) : Option (Int32 × Mem) := some ((((m (vf i0 2)) / 2) + 1), m)
set_option maxHeartbeats 4000000 in
set_option maxRecDepth 100000 in
theorem w_X7_talks_43 {X : TX} {p : Program} {l : Launch} {e : Env} {s : State} {mi : MethodId} {args : Array Value} {below : List Frame} {meth : Method} {c : Code} {Q : State → Prop} {r : Int32} {mE : Mem} (C : Cx X p s mi args c RX7 cX7_talks 1) (hq : RetI X p l e (rmD 0) s mi args below meth c cX7_talks .int Q r mE) {fu : Nat} {i0 : Nat} {m : Mem} {H : Heap} {locs : List Loc} {ls : Array Slot} (h : f_X7_talks_43 fu i0 m = some (r, mE)) (g_i0 : (11, i0) ∈ ids) (hW : Wd X s m H locs) (hl : lv_has ls 1 [(0, .ref (ad X 11 i0))]) : W p l e (rmD 0) s mi args below meth c H locs 0 0 Q (F0 mi 43 ls []) := by
  unfold f_X7_talks_43 at h
  refine lv_aload_n C.1 C.2.1 dX7_talks_43 rfl (lv_at hl 0 rfl) ?_
  refine zg_X7_talk C hW g_i0 w_194 dX7_talks_44 ?_
  refine lv_iconst (v := 2) C.1 C.2.1 dX7_talks_47 rfl ?_
  refine lv_idiv C.1 C.2.1 dX7_talks_48 (by decide) ?_
  refine lv_iconst (v := 1) C.1 C.2.1 dX7_talks_49 rfl ?_
  refine lv_iadd C.1 C.2.1 dX7_talks_50 ?_
  exact ret_i h hq rfl hW dX7_talks_51
def f_X7_talks (fu : Nat)  (i0 : Nat) (m : Mem) : Option (Int32 × Mem) := seqM (m (vf i0 0)) (fun x_1 : Int32 => if x_1 = 2 then (f_X7_talks_43 fu i0 m) else (if x_1 = 3 then (some (((m (vf i0 2)) + 5), m)) else (if x_1 = 4 then (f_X7_talks_43 fu i0 m) else (if x_1 = 5 then (some (1, m)) else (some ((m (vf i0 2)), m))))))
set_option maxHeartbeats 4000000 in
set_option maxRecDepth 100000 in
theorem w_X7_talks {X : TX} {p : Program} {l : Launch} {e : Env} {s : State} {mi : MethodId} {args : Array Value} {below : List Frame} {meth : Method} {c : Code} {Q : State → Prop} {r : Int32} {mE : Mem} (C : Cx X p s mi args c RX7 cX7_talks 1) (hq : RetI X p l e (rmD 0) s mi args below meth c cX7_talks .int Q r mE) {fu : Nat} {i0 : Nat} {m : Mem} {H : Heap} {locs : List Loc} {ls : Array Slot} (h : f_X7_talks fu i0 m = some (r, mE)) (g_i0 : (11, i0) ∈ ids) (hW : Wd X s m H locs) (hl : lv_has ls 1 [(0, .ref (ad X 11 i0))]) : W p l e (rmD 0) s mi args below meth c H locs 0 0 Q (F0 mi 0 ls []) := by
  unfold f_X7_talks at h
  refine lv_aload_n C.1 C.2.1 dX7_talks_0 rfl (lv_at hl 0 rfl) ?_
  refine zg_X7_kind C hW g_i0 w_189 dX7_talks_1 ?_
  obtain ⟨x_1, e_2, h⟩ := seqM_E h
  refine lv_name e_2 ?_
  by_cases hc_3 : x_1 = 2
  · have h := ite_t hc_3 h
    refine lv_tableIn (tgt := 43) C.1 C.2.1 dX7_talks_4 (by rw [hc_3]; decide) (by rw [hc_3]; decide) (by rw [hc_3]; rfl) (by decide) ?_
    exact w_X7_talks_43 C hq  h g_i0 hW (lv_sub hl [0] rfl)
  · have h := ite_f hc_3 h
    by_cases hc_4 : x_1 = 3
    · have h := ite_t hc_4 h
      refine lv_tableIn (tgt := 36) C.1 C.2.1 dX7_talks_4 (by rw [hc_4]; decide) (by rw [hc_4]; decide) (by rw [hc_4]; rfl) (by decide) ?_
      refine lv_aload_n C.1 C.2.1 dX7_talks_36 rfl (lv_at hl 0 rfl) ?_
      refine zg_X7_talk C hW g_i0 w_194 dX7_talks_37 ?_
      refine lv_iconst (v := 5) C.1 C.2.1 dX7_talks_40 rfl ?_
      refine lv_iadd C.1 C.2.1 dX7_talks_41 ?_
      exact ret_i h hq rfl hW dX7_talks_42
    · have h := ite_f hc_4 h
      by_cases hc_5 : x_1 = 4
      · have h := ite_t hc_5 h
        refine lv_tableIn (tgt := 43) C.1 C.2.1 dX7_talks_4 (by rw [hc_5]; decide) (by rw [hc_5]; decide) (by rw [hc_5]; rfl) (by decide) ?_
        exact w_X7_talks_43 C hq  h g_i0 hW (lv_sub hl [0] rfl)
      · have h := ite_f hc_5 h
        by_cases hc_6 : x_1 = 5
        · have h := ite_t hc_6 h
          refine lv_tableIn (tgt := 52) C.1 C.2.1 dX7_talks_4 (by rw [hc_6]; decide) (by rw [hc_6]; decide) (by rw [hc_6]; rfl) (by decide) ?_
          refine lv_iconst (v := 1) C.1 C.2.1 dX7_talks_52 rfl ?_
          exact ret_i h hq rfl hW dX7_talks_53
        · have h := ite_f hc_6 h
          have nhc_3 := ne_k (2) rfl hc_3
          have nhc_4 := ne_k (3) rfl hc_4
          have nhc_5 := ne_k (4) rfl hc_5
          have nhc_6 := ne_k (5) rfl hc_6
          refine lv_tableOut (tgt := 54) C.1 C.2.1 dX7_talks_4 (by omega) (by decide) ?_
          refine lv_aload_n C.1 C.2.1 dX7_talks_54 rfl (lv_at hl 0 rfl) ?_
          refine zg_X7_talk C hW g_i0 w_194 dX7_talks_55 ?_
          exact ret_i h hq rfl hW dX7_talks_58
theorem c_X7_talks {X : TX} {l : Launch} {fu : Nat} {i0 : Nat} {m mE : Mem} {r : Int32} (h : f_X7_talks fu i0 m = some (r, mE)) (g_i0 : (11, i0) ∈ ids) : MetI X l yX7_talks cX7_talks 1 .int 0 [.ref (ad X 11 i0)] m r mE :=
  met_I (by decide) (Nat.le_of_ble_eq_true rfl) (fun p e s mi args below meth c ls Q C hq hW hl => w_X7_talks C hq h g_i0 hW (lv_sub hl [0] rfl))
theorem k_X7_talks : CalV yX7_talks cX7_talks 1 (some .int) RX7 0 := ⟨w_434, w_435, w_66, w_436, by decide +kernel⟩
theorem dX7_isReady_0 : decode cX7_isReady 0 = .ok (.aload_n 0, 1) := by decide +kernel
theorem dX7_isReady_1 : decode cX7_isReady 1 = .ok (.getfield 25, 3) := by decide +kernel
theorem dX7_isReady_4 : decode cX7_isReady 4 = .ok (.iconst 5, 1) := by decide +kernel
theorem dX7_isReady_5 : decode cX7_isReady 5 = .ok (.if_icmp .eq 16, 3) := by decide +kernel
theorem dX7_isReady_8 : decode cX7_isReady 8 = .ok (.iload_n 1, 1) := by decide +kernel
theorem dX7_isReady_9 : decode cX7_isReady 9 = .ok (.aload_n 0, 1) := by decide +kernel
theorem dX7_isReady_10 : decode cX7_isReady 10 = .ok (.iload_n 2, 1) := by decide +kernel
theorem dX7_isReady_11 : decode cX7_isReady 11 = .ok (.invokevirtual 47, 3) := by decide +kernel
theorem dX7_isReady_14 : decode cX7_isReady 14 = .ok (.if_icmp .lt 7, 3) := by decide +kernel
theorem dX7_isReady_17 : decode cX7_isReady 17 = .ok (.iconst 1, 1) := by decide +kernel
theorem dX7_isReady_18 : decode cX7_isReady 18 = .ok (.goto 4, 3) := by decide +kernel
theorem dX7_isReady_21 : decode cX7_isReady 21 = .ok (.iconst 0, 1) := by decide +kernel
theorem dX7_isReady_22 : decode cX7_isReady 22 = .ok (.ireturn, 1) := by decide +kernel
def f_X7_isReady (fu : Nat)  (i0 : Nat) (x1 : Int32) (x2 : Int32) (m : Mem) : Option (Int32 × Mem) := if (m (vf i0 0)) = 5 then (some (0, m)) else (doI (f_X7_waits fu i0 x2 m) (fun r_3 m_2 => if x1 < r_3 then (some (0, m_2)) else (some (1, m_2))))
set_option maxHeartbeats 4000000 in
set_option maxRecDepth 100000 in
theorem w_X7_isReady {X : TX} {p : Program} {l : Launch} {e : Env} {s : State} {mi : MethodId} {args : Array Value} {below : List Frame} {meth : Method} {c : Code} {Q : State → Prop} {r : Int32} {mE : Mem} (C : Cx X p s mi args c RX7 cX7_isReady 3) (hq : RetI X p l e (rmD 2) s mi args below meth c cX7_isReady .boolean Q r mE) {fu : Nat} {i0 : Nat} {x1 : Int32} {x2 : Int32} {m : Mem} {H : Heap} {locs : List Loc} {ls : Array Slot} (h : f_X7_isReady fu i0 x1 x2 m = some (r, mE)) (g_i0 : (11, i0) ∈ ids) (hW : Wd X s m H locs) (hl : lv_has ls 3 [(0, .ref (ad X 11 i0)), (1, .int x1), (2, .int x2)]) : W p l e (rmD 2) s mi args below meth c H locs 0 0 Q (F0 mi 0 ls []) := by
  unfold f_X7_isReady at h
  refine lv_aload_n C.1 C.2.1 dX7_isReady_0 rfl (lv_at hl 0 rfl) ?_
  refine zg_X7_kind C hW g_i0 w_189 dX7_isReady_1 ?_
  refine lv_iconst (v := 5) C.1 C.2.1 dX7_isReady_4 rfl ?_
  refine lv_icmp_eq (tgt := 21) C.1 C.2.1 dX7_isReady_5 (by decide) (fun hc_5 => ?_) (fun hc_5 => ?_)
  · have h := ite_t hc_5 h
    refine lv_iconst (v := 0) C.1 C.2.1 dX7_isReady_21 rfl ?_
    exact ret_i h hq rfl hW dX7_isReady_22
  · have h := ite_f hc_5 h
    refine lv_iload_n C.1 C.2.1 dX7_isReady_8 rfl (lv_at hl 1 rfl) ?_
    refine lv_aload_n C.1 C.2.1 dX7_isReady_9 rfl (lv_at hl 0 rfl) ?_
    refine lv_iload_n C.1 C.2.1 dX7_isReady_10 rfl (lv_at hl 2 rfl) ?_
    obtain ⟨r_3, m_2, hc_1, h⟩ := doI_E h
    refine zr_cVI C hW (c_X7_waits (i0 := i0) (x1 := x2) hc_1 g_i0) k_X7_waits (zr_recv C hW g_i0 zco_11 rfl) w_536 ⟨Nat.le_of_ble_eq_true rfl, Nat.le_of_ble_eq_true rfl⟩ ⟨Nat.le_refl 0, Nat.le_refl 0⟩ rfl hl.1 rfl (Nat.le_of_ble_eq_true rfl) dX7_isReady_11 (fun H locs hW => ?_)
    refine lv_icmp_lt (tgt := 21) C.1 C.2.1 dX7_isReady_14 (by decide) (fun hc_4 => ?_) (fun hc_4 => ?_)
    · have h := ite_t hc_4 h
      refine lv_iconst (v := 0) C.1 C.2.1 dX7_isReady_21 rfl ?_
      exact ret_i h hq rfl hW dX7_isReady_22
    · have h := ite_f hc_4 h
      refine lv_iconst (v := 1) C.1 C.2.1 dX7_isReady_17 rfl ?_
      refine lv_goto (tgt := 22) C.1 C.2.1 dX7_isReady_18 (by decide) ?_
      exact ret_i h hq rfl hW dX7_isReady_22
theorem c_X7_isReady {X : TX} {l : Launch} {fu : Nat} {i0 : Nat} {x1 : Int32} {x2 : Int32} {m mE : Mem} {r : Int32} (h : f_X7_isReady fu i0 x1 x2 m = some (r, mE)) (g_i0 : (11, i0) ∈ ids) : MetI X l yX7_isReady cX7_isReady 3 .boolean 2 [.ref (ad X 11 i0), .int x1, .int x2] m r mE :=
  met_I (by decide) (Nat.le_of_ble_eq_true rfl) (fun p e s mi args below meth c ls Q C hq hW hl => w_X7_isReady C hq h g_i0 hW (lv_sub hl [0, 1, 2] rfl))
theorem k_X7_isReady : CalV yX7_isReady cX7_isReady 3 (some .boolean) RX7 2 := ⟨w_533, w_534, w_66, w_535, by decide +kernel⟩
theorem dX4_hear_0 : decode cX4_hear 0 = .ok (.iconst 1, 1) := by decide +kernel
theorem dX4_hear_1 : decode cX4_hear 1 = .ok (.istore_n 1, 1) := by decide +kernel
theorem dX4_hear_2 : decode cX4_hear 2 = .ok (.iconst 0, 1) := by decide +kernel
theorem dX4_hear_3 : decode cX4_hear 3 = .ok (.istore_n 2, 1) := by decide +kernel
theorem dX4_hear_4 : decode cX4_hear 4 = .ok (.iload_n 2, 1) := by decide +kernel
theorem dX4_hear_5 : decode cX4_hear 5 = .ok (.aload_n 0, 1) := by decide +kernel
theorem dX4_hear_6 : decode cX4_hear 6 = .ok (.getfield 39, 3) := by decide +kernel
theorem dX4_hear_9 : decode cX4_hear 9 = .ok (.if_icmp .ge 57, 3) := by decide +kernel
theorem dX4_hear_12 : decode cX4_hear 12 = .ok (.aload_n 0, 1) := by decide +kernel
theorem dX4_hear_13 : decode cX4_hear 13 = .ok (.getfield 11, 3) := by decide +kernel
theorem dX4_hear_16 : decode cX4_hear 16 = .ok (.iload_n 2, 1) := by decide +kernel
theorem dX4_hear_17 : decode cX4_hear 17 = .ok (.aaload, 1) := by decide +kernel
theorem dX4_hear_18 : decode cX4_hear 18 = .ok (.astore_n 3, 1) := by decide +kernel
theorem dX4_hear_19 : decode cX4_hear 19 = .ok (.aload_n 3, 1) := by decide +kernel
theorem dX4_hear_20 : decode cX4_hear 20 = .ok (.getfield 91, 3) := by decide +kernel
theorem dX4_hear_23 : decode cX4_hear 23 = .ok (.iconst 1, 1) := by decide +kernel
theorem dX4_hear_24 : decode cX4_hear 24 = .ok (.if_icmp .le 18, 3) := by decide +kernel
theorem dX4_hear_27 : decode cX4_hear 27 = .ok (.aload_n 3, 1) := by decide +kernel
theorem dX4_hear_28 : decode cX4_hear 28 = .ok (.dup, 1) := by decide +kernel
theorem dX4_hear_29 : decode cX4_hear 29 = .ok (.getfield 91, 3) := by decide +kernel
theorem dX4_hear_32 : decode cX4_hear 32 = .ok (.iconst 1, 1) := by decide +kernel
theorem dX4_hear_33 : decode cX4_hear 33 = .ok (.isub, 1) := by decide +kernel
theorem dX4_hear_34 : decode cX4_hear 34 = .ok (.putfield 91, 3) := by decide +kernel
theorem dX4_hear_37 : decode cX4_hear 37 = .ok (.iconst 0, 1) := by decide +kernel
theorem dX4_hear_38 : decode cX4_hear 38 = .ok (.istore_n 1, 1) := by decide +kernel
theorem dX4_hear_39 : decode cX4_hear 39 = .ok (.goto 21, 3) := by decide +kernel
theorem dX4_hear_42 : decode cX4_hear 42 = .ok (.aload_n 3, 1) := by decide +kernel
theorem dX4_hear_43 : decode cX4_hear 43 = .ok (.getfield 91, 3) := by decide +kernel
theorem dX4_hear_46 : decode cX4_hear 46 = .ok (.iconst 1, 1) := by decide +kernel
theorem dX4_hear_47 : decode cX4_hear 47 = .ok (.if_icmp .ne 13, 3) := by decide +kernel
theorem dX4_hear_50 : decode cX4_hear 50 = .ok (.aload_n 3, 1) := by decide +kernel
theorem dX4_hear_51 : decode cX4_hear 51 = .ok (.iconst 0, 1) := by decide +kernel
theorem dX4_hear_52 : decode cX4_hear 52 = .ok (.putfield 91, 3) := by decide +kernel
theorem dX4_hear_55 : decode cX4_hear 55 = .ok (.aload_n 0, 1) := by decide +kernel
theorem dX4_hear_56 : decode cX4_hear 56 = .ok (.iload_n 2, 1) := by decide +kernel
theorem dX4_hear_57 : decode cX4_hear 57 = .ok (.putfield 25, 3) := by decide +kernel
theorem dX4_hear_60 : decode cX4_hear 60 = .ok (.iinc 2 1, 3) := by decide +kernel
theorem dX4_hear_63 : decode cX4_hear 63 = .ok (.goto (-59), 3) := by decide +kernel
theorem dX4_hear_66 : decode cX4_hear 66 = .ok (.iload_n 1, 1) := by decide +kernel
theorem dX4_hear_67 : decode cX4_hear 67 = .ok (.ifCond .eq 41, 3) := by decide +kernel
theorem dX4_hear_70 : decode cX4_hear 70 = .ok (.aload_n 0, 1) := by decide +kernel
theorem dX4_hear_71 : decode cX4_hear 71 = .ok (.dup, 1) := by decide +kernel
theorem dX4_hear_72 : decode cX4_hear 72 = .ok (.getfield 49, 3) := by decide +kernel
theorem dX4_hear_75 : decode cX4_hear 75 = .ok (.iconst 1, 1) := by decide +kernel
theorem dX4_hear_76 : decode cX4_hear 76 = .ok (.iadd, 1) := by decide +kernel
theorem dX4_hear_77 : decode cX4_hear 77 = .ok (.putfield 49, 3) := by decide +kernel
theorem dX4_hear_80 : decode cX4_hear 80 = .ok (.aload_n 0, 1) := by decide +kernel
theorem dX4_hear_81 : decode cX4_hear 81 = .ok (.dup, 1) := by decide +kernel
theorem dX4_hear_82 : decode cX4_hear 82 = .ok (.getfield 52, 3) := by decide +kernel
theorem dX4_hear_85 : decode cX4_hear 85 = .ok (.iconst 1, 1) := by decide +kernel
theorem dX4_hear_86 : decode cX4_hear 86 = .ok (.iadd, 1) := by decide +kernel
theorem dX4_hear_87 : decode cX4_hear 87 = .ok (.putfield 52, 3) := by decide +kernel
theorem dX4_hear_90 : decode cX4_hear 90 = .ok (.aload_n 0, 1) := by decide +kernel
theorem dX4_hear_91 : decode cX4_hear 91 = .ok (.aload_n 0, 1) := by decide +kernel
theorem dX4_hear_92 : decode cX4_hear 92 = .ok (.getfield 55, 3) := by decide +kernel
theorem dX4_hear_95 : decode cX4_hear 95 = .ok (.aload_n 0, 1) := by decide +kernel
theorem dX4_hear_96 : decode cX4_hear 96 = .ok (.getfield 49, 3) := by decide +kernel
theorem dX4_hear_99 : decode cX4_hear 99 = .ok (.invokestatic 119, 3) := by decide +kernel
theorem dX4_hear_102 : decode cX4_hear 102 = .ok (.putfield 55, 3) := by decide +kernel
theorem dX4_hear_105 : decode cX4_hear 105 = .ok (.goto 8, 3) := by decide +kernel
theorem dX4_hear_108 : decode cX4_hear 108 = .ok (.aload_n 0, 1) := by decide +kernel
theorem dX4_hear_109 : decode cX4_hear 109 = .ok (.iconst 0, 1) := by decide +kernel
theorem dX4_hear_110 : decode cX4_hear 110 = .ok (.putfield 49, 3) := by decide +kernel
theorem dX4_hear_113 : decode cX4_hear 113 = .ok (.return_, 1) := by decide +kernel
def f_X4_hear_60 (fu : Nat) (k_4 : Nat → Int32 → Int32 → Mem → Option Mem) (i0 : Nat) (x1 : Int32) (x2 : Int32) (m : Mem) : Option Mem := seqM (x2 + 1) (fun x_1 : Int32 => k_4 i0 x1 x_1 m)
set_option maxHeartbeats 4000000 in
set_option maxRecDepth 100000 in
theorem w_X4_hear_60 {X : TX} {p : Program} {l : Launch} {e : Env} {s : State} {mi : MethodId} {args : Array Value} {below : List Frame} {meth : Method} {c : Code} {Q : State → Prop} {mE : Mem} (C : Cx X p s mi args c RX4 cX4_hear 4) (hq : RetV X p l e (rmD 1) s mi args below meth c cX4_hear Q mE) {fu : Nat} {k_4 : Nat → Int32 → Int32 → Mem → Option Mem} (hk_4 : ∀ {i0 : Nat} {x1 : Int32} {x2 : Int32} {m : Mem} {H : Heap} {locs : List Loc} {ls : Array Slot}, k_4 i0 x1 x2 m = some mE → (9, i0) ∈ ids → Wd X s m H locs → lv_has ls 4 [(0, .ref (ad X 9 i0)), (1, .int x1), (2, .int x2)] → W p l e (rmD 1) s mi args below meth c H locs 0 0 Q (F0 mi 4 ls [])) {i0 : Nat} {x1 : Int32} {x2 : Int32} {m : Mem} {H : Heap} {locs : List Loc} {ls : Array Slot} (h : f_X4_hear_60 fu k_4 i0 x1 x2 m = some mE) (g_i0 : (9, i0) ∈ ids) (hW : Wd X s m H locs) (hl : lv_has ls 4 [(0, .ref (ad X 9 i0)), (1, .int x1), (2, .int x2)]) : W p l e (rmD 1) s mi args below meth c H locs 0 0 Q (F0 mi 60 ls []) := by
  unfold f_X4_hear_60 at h
  obtain ⟨x_1, e_2, h⟩ := seqM_E h
  refine lv_iinc (v := x_1) (lv' := [(2, .int x_1), (0, .ref (ad X 9 i0)), (1, .int x1)]) C.1 C.2.1 dX4_hear_60 hl (k := 2) rfl (by rw [e_2]; rfl) (by decide) rfl (fun ls hl => ?_)
  refine lv_goto (tgt := 4) C.1 C.2.1 dX4_hear_63 (by decide) ?_
  exact hk_4 h g_i0 hW (lv_sub hl [1, 2, 0] rfl)
def f_X4_hear_4 (fu : Nat)  : Nat → Nat → Int32 → Int32 → Mem → Option Mem
  | 0, _, _, _, _ => none
  | n + 1, i0, x1, x2, m => if (m (sf i0 1)) ≤ x2 then (if x1 = 0 then (seqM (upd m (sf i0 6) 0) (fun m_1 : Mem => some m_1)) else (seqM (upd m (sf i0 6) ((m (sf i0 6)) + 1)) (fun m_3 : Mem => seqM (upd m_3 (sf i0 7) ((m_3 (sf i0 7)) + 1)) (fun m_5 : Mem => seqM (upd m_5 (sf i0 8) (if (m_5 (sf i0 8)) < (m_5 (sf i0 6)) then (m_5 (sf i0 6)) else (m_5 (sf i0 8)))) (fun m_7 : Mem => some m_7))))) else (chk (inb x2 5) (if (m (vf (10 * i0 + x2.toNatClampNeg) 4)) ≤ 1 then (if (m (vf (10 * i0 + x2.toNatClampNeg) 4)) = 1 then (seqM (upd m (vf (10 * i0 + x2.toNatClampNeg) 4) 0) (fun m_11 : Mem => seqM (upd m_11 (sf i0 14) x2) (fun m_13 : Mem => f_X4_hear_60 fu (f_X4_hear_4 fu n) i0 x1 x2 m_13))) else (f_X4_hear_60 fu (f_X4_hear_4 fu n) i0 x1 x2 m)) else (seqM (upd m (vf (10 * i0 + x2.toNatClampNeg) 4) ((m (vf (10 * i0 + x2.toNatClampNeg) 4)) - 1)) (fun m_16 : Mem => f_X4_hear_60 fu (f_X4_hear_4 fu n) i0 0 x2 m_16))))
set_option maxHeartbeats 4000000 in
set_option maxRecDepth 100000 in
theorem w_X4_hear_4 {X : TX} {p : Program} {l : Launch} {e : Env} {s : State} {mi : MethodId} {args : Array Value} {below : List Frame} {meth : Method} {c : Code} {Q : State → Prop} {mE : Mem} (C : Cx X p s mi args c RX4 cX4_hear 4) (hq : RetV X p l e (rmD 1) s mi args below meth c cX4_hear Q mE) {fu : Nat} : ∀ (n : Nat) {i0 : Nat} {x1 : Int32} {x2 : Int32} {m : Mem} {H : Heap} {locs : List Loc} {ls : Array Slot}, f_X4_hear_4 fu n i0 x1 x2 m = some mE → (9, i0) ∈ ids → Wd X s m H locs → lv_has ls 4 [(0, .ref (ad X 9 i0)), (1, .int x1), (2, .int x2)] → W p l e (rmD 1) s mi args below meth c H locs 0 0 Q (F0 mi 4 ls []) := by
  intro n
  induction n with
  | zero =>
    intro i0 x1 x2 m H locs ls h g_i0 hW hl
    rw [f_X4_hear_4] at h
    cases h
  | succ n ih =>
    intro i0 x1 x2 m H locs ls h g_i0 hW hl
    rw [f_X4_hear_4] at h
    refine lv_iload_n C.1 C.2.1 dX4_hear_4 rfl (lv_at hl 2 rfl) ?_
    refine lv_aload_n C.1 C.2.1 dX4_hear_5 rfl (lv_at hl 0 rfl) ?_
    refine zg_X4_many C hW g_i0 w_226 dX4_hear_6 ?_
    refine lv_icmp_ge (tgt := 66) C.1 C.2.1 dX4_hear_9 (by decide) (fun hc_19 => ?_) (fun hc_19 => ?_)
    · have h := ite_t hc_19 h
      refine lv_iload_n C.1 C.2.1 dX4_hear_66 rfl (lv_at hl 1 rfl) ?_
      refine lv_if_eq (tgt := 108) C.1 C.2.1 dX4_hear_67 (by decide) (fun hc_9 => ?_) (fun hc_9 => ?_)
      · have h := ite_t hc_9 h
        refine lv_aload_n C.1 C.2.1 dX4_hear_108 rfl (lv_at hl 0 rfl) ?_
        refine lv_iconst (v := 0) C.1 C.2.1 dX4_hear_109 rfl ?_
        obtain ⟨m_1, e_2, h⟩ := seqM_E h
        refine zp_X4_silence C hW g_i0 w_234 e_2 dX4_hear_110 (fun H locs hW => ?_)
        exact ret_v h hq hW dX4_hear_113
      · have h := ite_f hc_9 h
        refine lv_aload_n C.1 C.2.1 dX4_hear_70 rfl (lv_at hl 0 rfl) ?_
        refine lv_dup C.1 C.2.1 dX4_hear_71 rfl ?_
        refine zg_X4_silence C hW g_i0 w_234 dX4_hear_72 ?_
        refine lv_iconst (v := 1) C.1 C.2.1 dX4_hear_75 rfl ?_
        refine lv_iadd C.1 C.2.1 dX4_hear_76 ?_
        obtain ⟨m_3, e_4, h⟩ := seqM_E h
        refine zp_X4_silence C hW g_i0 w_234 e_4 dX4_hear_77 (fun H locs hW => ?_)
        refine lv_aload_n C.1 C.2.1 dX4_hear_80 rfl (lv_at hl 0 rfl) ?_
        refine lv_dup C.1 C.2.1 dX4_hear_81 rfl ?_
        refine zg_X4_silent C hW g_i0 w_236 dX4_hear_82 ?_
        refine lv_iconst (v := 1) C.1 C.2.1 dX4_hear_85 rfl ?_
        refine lv_iadd C.1 C.2.1 dX4_hear_86 ?_
        obtain ⟨m_5, e_6, h⟩ := seqM_E h
        refine zp_X4_silent C hW g_i0 w_236 e_6 dX4_hear_87 (fun H locs hW => ?_)
        refine lv_aload_n C.1 C.2.1 dX4_hear_90 rfl (lv_at hl 0 rfl) ?_
        refine lv_aload_n C.1 C.2.1 dX4_hear_91 rfl (lv_at hl 0 rfl) ?_
        refine zg_X4_longestHole C hW g_i0 w_238 dX4_hear_92 ?_
        refine lv_aload_n C.1 C.2.1 dX4_hear_95 rfl (lv_at hl 0 rfl) ?_
        refine zg_X4_silence C hW g_i0 w_234 dX4_hear_96 ?_
        refine va_mmax C.1 C.2.1 (C.2.2.1.trans hl.1.symm) C.2.2.2.1 (C.2.2.2.2.1 _ w_523) (C.2.2.2.2.1 _ w_431) (C.2.2.2.2.1 _ w_71) (C.2.2.2.2.1 _ w_432) (Nat.le_of_ble_eq_true rfl) (Nat.le_of_ble_eq_true rfl) (Nat.le_refl 0) (Nat.le_refl 0) dX4_hear_99 ?_
        obtain ⟨m_7, e_8, h⟩ := seqM_E h
        refine zp_X4_longestHole C hW g_i0 w_238 e_8 dX4_hear_102 (fun H locs hW => ?_)
        refine lv_goto (tgt := 113) C.1 C.2.1 dX4_hear_105 (by decide) ?_
        exact ret_v h hq hW dX4_hear_113
    · have h := ite_f hc_19 h
      refine lv_aload_n C.1 C.2.1 dX4_hear_12 rfl (lv_at hl 0 rfl) ?_
      refine zg_X4_voices C hW g_i0 w_224 dX4_hear_13 ?_
      refine lv_iload_n C.1 C.2.1 dX4_hear_16 rfl (lv_at hl 2 rfl) ?_
      obtain ⟨hb_10, h⟩ := chk_E h
      refine zaa_10 C hW (im_9_10 g_i0) (inb_E hb_10) dX4_hear_17 ?_
      refine lv_astore_n (lv' := [(3, .ref (ad X 11 (10 * i0 + x2.toNatClampNeg))), (0, .ref (ad X 9 i0)), (1, .int x1), (2, .int x2)]) C.1 C.2.1 dX4_hear_18 rfl hl (by decide) rfl (fun ls hl => ?_)
      refine lv_aload_n C.1 C.2.1 dX4_hear_19 rfl (lv_at hl 0 rfl) ?_
      refine zg_X7_left C hW (ia_10 (im_9_10 g_i0) (inb_E hb_10)) w_202 dX4_hear_20 ?_
      refine lv_iconst (v := 1) C.1 C.2.1 dX4_hear_23 rfl ?_
      refine lv_icmp_le (tgt := 42) C.1 C.2.1 dX4_hear_24 (by decide) (fun hc_18 => ?_) (fun hc_18 => ?_)
      · have h := ite_t hc_18 h
        refine lv_aload_n C.1 C.2.1 dX4_hear_42 rfl (lv_at hl 0 rfl) ?_
        refine zg_X7_left C hW (ia_10 (im_9_10 g_i0) (inb_E hb_10)) w_202 dX4_hear_43 ?_
        refine lv_iconst (v := 1) C.1 C.2.1 dX4_hear_46 rfl ?_
        refine lv_icmp_ne (tgt := 60) C.1 C.2.1 dX4_hear_47 (by decide) (fun hc_15 => ?_) (fun hc_15 => ?_)
        · have h := ite_f hc_15 h
          exact w_X4_hear_60 C hq ih h g_i0 hW (lv_sub hl [1, 2, 3] rfl)
        · have h := ite_t hc_15 h
          refine lv_aload_n C.1 C.2.1 dX4_hear_50 rfl (lv_at hl 0 rfl) ?_
          refine lv_iconst (v := 0) C.1 C.2.1 dX4_hear_51 rfl ?_
          obtain ⟨m_11, e_12, h⟩ := seqM_E h
          refine zp_X7_left C hW (ia_10 (im_9_10 g_i0) (inb_E hb_10)) w_202 e_12 dX4_hear_52 (fun H locs hW => ?_)
          refine lv_aload_n C.1 C.2.1 dX4_hear_55 rfl (lv_at hl 1 rfl) ?_
          refine lv_iload_n C.1 C.2.1 dX4_hear_56 rfl (lv_at hl 3 rfl) ?_
          obtain ⟨m_13, e_14, h⟩ := seqM_E h
          refine zp_X4_last C hW g_i0 w_250 e_14 dX4_hear_57 (fun H locs hW => ?_)
          exact w_X4_hear_60 C hq ih h g_i0 hW (lv_sub hl [1, 2, 3] rfl)
      · have h := ite_f hc_18 h
        refine lv_aload_n C.1 C.2.1 dX4_hear_27 rfl (lv_at hl 0 rfl) ?_
        refine lv_dup C.1 C.2.1 dX4_hear_28 rfl ?_
        refine zg_X7_left C hW (ia_10 (im_9_10 g_i0) (inb_E hb_10)) w_202 dX4_hear_29 ?_
        refine lv_iconst (v := 1) C.1 C.2.1 dX4_hear_32 rfl ?_
        refine lv_isub C.1 C.2.1 dX4_hear_33 ?_
        obtain ⟨m_16, e_17, h⟩ := seqM_E h
        refine zp_X7_left C hW (ia_10 (im_9_10 g_i0) (inb_E hb_10)) w_202 e_17 dX4_hear_34 (fun H locs hW => ?_)
        refine lv_iconst (v := 0) C.1 C.2.1 dX4_hear_37 rfl ?_
        refine lv_istore_n (lv' := [(1, .int 0), (3, .ref (ad X 11 (10 * i0 + x2.toNatClampNeg))), (0, .ref (ad X 9 i0)), (2, .int x2)]) C.1 C.2.1 dX4_hear_38 rfl hl (by decide) rfl (fun ls hl => ?_)
        refine lv_goto (tgt := 60) C.1 C.2.1 dX4_hear_39 (by decide) ?_
        exact w_X4_hear_60 C hq ih h g_i0 hW (lv_sub hl [2, 0, 3] rfl)
def f_X4_hear (fu : Nat)  (i0 : Nat) (m : Mem) : Option Mem := f_X4_hear_4 fu fu i0 1 0 m
set_option maxHeartbeats 4000000 in
set_option maxRecDepth 100000 in
theorem w_X4_hear {X : TX} {p : Program} {l : Launch} {e : Env} {s : State} {mi : MethodId} {args : Array Value} {below : List Frame} {meth : Method} {c : Code} {Q : State → Prop} {mE : Mem} (C : Cx X p s mi args c RX4 cX4_hear 4) (hq : RetV X p l e (rmD 1) s mi args below meth c cX4_hear Q mE) {fu : Nat} {i0 : Nat} {m : Mem} {H : Heap} {locs : List Loc} {ls : Array Slot} (h : f_X4_hear fu i0 m = some mE) (g_i0 : (9, i0) ∈ ids) (hW : Wd X s m H locs) (hl : lv_has ls 4 [(0, .ref (ad X 9 i0))]) : W p l e (rmD 1) s mi args below meth c H locs 0 0 Q (F0 mi 0 ls []) := by
  unfold f_X4_hear at h
  refine lv_iconst (v := 1) C.1 C.2.1 dX4_hear_0 rfl ?_
  refine lv_istore_n (lv' := [(1, .int 1), (0, .ref (ad X 9 i0))]) C.1 C.2.1 dX4_hear_1 rfl hl (by decide) rfl (fun ls hl => ?_)
  refine lv_iconst (v := 0) C.1 C.2.1 dX4_hear_2 rfl ?_
  refine lv_istore_n (lv' := [(2, .int 0), (1, .int 1), (0, .ref (ad X 9 i0))]) C.1 C.2.1 dX4_hear_3 rfl hl (by decide) rfl (fun ls hl => ?_)
  exact w_X4_hear_4 C hq  fu h g_i0 hW (lv_sub hl [2, 1, 0] rfl)
theorem c_X4_hear {X : TX} {l : Launch} {fu : Nat} {i0 : Nat} {m mE : Mem} (h : f_X4_hear fu i0 m = some mE) (g_i0 : (9, i0) ∈ ids) : MetV X l yX4_hear cX4_hear 4 1 [.ref (ad X 9 i0)] m mE :=
  met_V (by decide) (Nat.le_of_ble_eq_true rfl) (fun p e s mi args below meth c ls Q C hq hW hl => w_X4_hear C hq h g_i0 hW (lv_sub hl [0] rfl))
theorem k_X4_hear : CalV yX4_hear cX4_hear 4 none RX4 0 := ⟨w_520, w_521, w_65, w_522, by decide +kernel⟩
end
