section
-- ===== PART A: goes FIRST, ahead of the names: the tables' words, and 'selects' of the private methods out of them =====
/-- a private method of a class that the tables say can be made, by its rows of tables_1 -/
def lw_okq (q : MethodName × Nat) : Prop := (q.1.cls ≠ "java/lang/invoke/MethodHandle" ∧ q.1.cls ≠ "java/lang/invoke/VarHandle") ∧ Cond.instantiable q.1.cls q.2 ∈ tables_1 ∧ Cond.privateMethod q.1 ∈ tables_1 ∧ Cond.instanceMethod q.1 ∈ tables_1
theorem lw_p0 : lw_okq (⟨"GownCourt", "rankOn", "(II)I"⟩, 18) := ⟨⟨by decide +kernel, by decide +kernel⟩, List.mem_of_getElem? (i := 23) (by decide +kernel), List.mem_of_getElem? (i := 364) (by decide +kernel), List.mem_of_getElem? (i := 365) (by decide +kernel)⟩
theorem lw_p1 : lw_okq (⟨"GownCourt", "occasionOn", "(II)I"⟩, 18) := ⟨⟨by decide +kernel, by decide +kernel⟩, List.mem_of_getElem? (i := 23) (by decide +kernel), List.mem_of_getElem? (i := 372) (by decide +kernel), List.mem_of_getElem? (i := 373) (by decide +kernel)⟩
theorem lw_p2 : lw_okq (⟨"GownCourt", "findGown", "(I)LGownCourt$Gown;"⟩, 18) := ⟨⟨by decide +kernel, by decide +kernel⟩, List.mem_of_getElem? (i := 23) (by decide +kernel), List.mem_of_getElem? (i := 398) (by decide +kernel), List.mem_of_getElem? (i := 399) (by decide +kernel)⟩
theorem lw_p3 : lw_okq (⟨"GownCourt", "countsAs", "(II)I"⟩, 18) := ⟨⟨by decide +kernel, by decide +kernel⟩, List.mem_of_getElem? (i := 23) (by decide +kernel), List.mem_of_getElem? (i := 418) (by decide +kernel), List.mem_of_getElem? (i := 419) (by decide +kernel)⟩
theorem lw_p4 : lw_okq (⟨"GownCourt$Reader", "scan", "()V"⟩, 15) := ⟨⟨by decide +kernel, by decide +kernel⟩, List.mem_of_getElem? (i := 45) (by decide +kernel), List.mem_of_getElem? (i := 446) (by decide +kernel), List.mem_of_getElem? (i := 447) (by decide +kernel)⟩
theorem lw_p5 : lw_okq (⟨"GownCourt$Reader", "scanWord", "()V"⟩, 15) := ⟨⟨by decide +kernel, by decide +kernel⟩, List.mem_of_getElem? (i := 45) (by decide +kernel), List.mem_of_getElem? (i := 461) (by decide +kernel), List.mem_of_getElem? (i := 462) (by decide +kernel)⟩
theorem lw_p6 : lw_okq (⟨"GownCourt$Reader", "scanNumber", "()V"⟩, 15) := ⟨⟨by decide +kernel, by decide +kernel⟩, List.mem_of_getElem? (i := 45) (by decide +kernel), List.mem_of_getElem? (i := 468) (by decide +kernel), List.mem_of_getElem? (i := 469) (by decide +kernel)⟩
theorem lw_p7 : lw_okq (⟨"GownCourt$Reader", "step", "()V"⟩, 15) := ⟨⟨by decide +kernel, by decide +kernel⟩, List.mem_of_getElem? (i := 45) (by decide +kernel), List.mem_of_getElem? (i := 472) (by decide +kernel), List.mem_of_getElem? (i := 473) (by decide +kernel)⟩
theorem lw_p8 : lw_okq (⟨"GownCourt$Reader", "startLine", "()V"⟩, 15) := ⟨⟨by decide +kernel, by decide +kernel⟩, List.mem_of_getElem? (i := 45) (by decide +kernel), List.mem_of_getElem? (i := 476) (by decide +kernel), List.mem_of_getElem? (i := 477) (by decide +kernel)⟩
theorem lw_p9 : lw_okq (⟨"GownCourt$Reader", "ruleKind", "()I"⟩, 15) := ⟨⟨by decide +kernel, by decide +kernel⟩, List.mem_of_getElem? (i := 45) (by decide +kernel), List.mem_of_getElem? (i := 480) (by decide +kernel), List.mem_of_getElem? (i := 481) (by decide +kernel)⟩
theorem lw_p10 : lw_okq (⟨"GownCourt$Reader", "isWord", "(Ljava/lang/String;)Z"⟩, 15) := ⟨⟨by decide +kernel, by decide +kernel⟩, List.mem_of_getElem? (i := 45) (by decide +kernel), List.mem_of_getElem? (i := 485) (by decide +kernel), List.mem_of_getElem? (i := 486) (by decide +kernel)⟩
theorem lw_p11 : lw_okq (⟨"GownCourt$Reader", "goOn", "(II)V"⟩, 15) := ⟨⟨by decide +kernel, by decide +kernel⟩, List.mem_of_getElem? (i := 45) (by decide +kernel), List.mem_of_getElem? (i := 544) (by decide +kernel), List.mem_of_getElem? (i := 545) (by decide +kernel)⟩
theorem lw_p12 : lw_okq (⟨"GownCourt$Reader", "blame", "(I)V"⟩, 15) := ⟨⟨by decide +kernel, by decide +kernel⟩, List.mem_of_getElem? (i := 45) (by decide +kernel), List.mem_of_getElem? (i := 548) (by decide +kernel), List.mem_of_getElem? (i := 549) (by decide +kernel)⟩
theorem lw_p13 : lw_okq (⟨"GownCourt$Reader", "topLimit", "()I"⟩, 15) := ⟨⟨by decide +kernel, by decide +kernel⟩, List.mem_of_getElem? (i := 45) (by decide +kernel), List.mem_of_getElem? (i := 555) (by decide +kernel), List.mem_of_getElem? (i := 556) (by decide +kernel)⟩
theorem lw_p14 : lw_okq (⟨"GownCourt$Reader", "takeNumber", "(III)I"⟩, 15) := ⟨⟨by decide +kernel, by decide +kernel⟩, List.mem_of_getElem? (i := 45) (by decide +kernel), List.mem_of_getElem? (i := 559) (by decide +kernel), List.mem_of_getElem? (i := 560) (by decide +kernel)⟩
theorem lw_p15 : lw_okq (⟨"GownCourt$Reader", "readWho", "()V"⟩, 15) := ⟨⟨by decide +kernel, by decide +kernel⟩, List.mem_of_getElem? (i := 45) (by decide +kernel), List.mem_of_getElem? (i := 563) (by decide +kernel), List.mem_of_getElem? (i := 564) (by decide +kernel)⟩
def lw_privs_1 : List (MethodName × Nat) := [(⟨"GownCourt", "rankOn", "(II)I"⟩, 18), (⟨"GownCourt", "occasionOn", "(II)I"⟩, 18), (⟨"GownCourt", "findGown", "(I)LGownCourt$Gown;"⟩, 18), (⟨"GownCourt", "countsAs", "(II)I"⟩, 18), (⟨"GownCourt$Reader", "scan", "()V"⟩, 15), (⟨"GownCourt$Reader", "scanWord", "()V"⟩, 15), (⟨"GownCourt$Reader", "scanNumber", "()V"⟩, 15), (⟨"GownCourt$Reader", "step", "()V"⟩, 15), (⟨"GownCourt$Reader", "startLine", "()V"⟩, 15), (⟨"GownCourt$Reader", "ruleKind", "()I"⟩, 15), (⟨"GownCourt$Reader", "isWord", "(Ljava/lang/String;)Z"⟩, 15), (⟨"GownCourt$Reader", "goOn", "(II)V"⟩, 15), (⟨"GownCourt$Reader", "blame", "(I)V"⟩, 15), (⟨"GownCourt$Reader", "topLimit", "()I"⟩, 15), (⟨"GownCourt$Reader", "takeNumber", "(III)I"⟩, 15), (⟨"GownCourt$Reader", "readWho", "()V"⟩, 15)]
theorem lw_r1 : ∀ q ∈ lw_privs_1, lw_okq q := List.forall_mem_cons.mpr ⟨lw_p0, List.forall_mem_cons.mpr ⟨lw_p1, List.forall_mem_cons.mpr ⟨lw_p2, List.forall_mem_cons.mpr ⟨lw_p3, List.forall_mem_cons.mpr ⟨lw_p4, List.forall_mem_cons.mpr ⟨lw_p5, List.forall_mem_cons.mpr ⟨lw_p6, List.forall_mem_cons.mpr ⟨lw_p7, List.forall_mem_cons.mpr ⟨lw_p8, List.forall_mem_cons.mpr ⟨lw_p9, List.forall_mem_cons.mpr ⟨lw_p10, List.forall_mem_cons.mpr ⟨lw_p11, List.forall_mem_cons.mpr ⟨lw_p12, List.forall_mem_cons.mpr ⟨lw_p13, List.forall_mem_cons.mpr ⟨lw_p14, List.forall_mem_cons.mpr ⟨lw_p15, fun _ h => absurd h List.not_mem_nil⟩⟩⟩⟩⟩⟩⟩⟩⟩⟩⟩⟩⟩⟩⟩⟩
theorem lw_p16 : lw_okq (⟨"GownCourt$Reader", "takeWord", "(Ljava/lang/String;I)V"⟩, 15) := ⟨⟨by decide +kernel, by decide +kernel⟩, List.mem_of_getElem? (i := 45) (by decide +kernel), List.mem_of_getElem? (i := 569) (by decide +kernel), List.mem_of_getElem? (i := 570) (by decide +kernel)⟩
theorem lw_p17 : lw_okq (⟨"GownCourt$Reader", "readWhen", "()V"⟩, 15) := ⟨⟨by decide +kernel, by decide +kernel⟩, List.mem_of_getElem? (i := 45) (by decide +kernel), List.mem_of_getElem? (i := 574) (by decide +kernel), List.mem_of_getElem? (i := 575) (by decide +kernel)⟩
theorem lw_p18 : lw_okq (⟨"GownCourt$Reader", "whenWord", "()I"⟩, 15) := ⟨⟨by decide +kernel, by decide +kernel⟩, List.mem_of_getElem? (i := 45) (by decide +kernel), List.mem_of_getElem? (i := 578) (by decide +kernel), List.mem_of_getElem? (i := 579) (by decide +kernel)⟩
theorem lw_p19 : lw_okq (⟨"GownCourt$Reader", "finishRule", "(I)V"⟩, 15) := ⟨⟨by decide +kernel, by decide +kernel⟩, List.mem_of_getElem? (i := 45) (by decide +kernel), List.mem_of_getElem? (i := 587) (by decide +kernel), List.mem_of_getElem? (i := 588) (by decide +kernel)⟩
theorem lw_p20 : lw_okq (⟨"GownCourt$Reader", "readRepeal", "()V"⟩, 15) := ⟨⟨by decide +kernel, by decide +kernel⟩, List.mem_of_getElem? (i := 45) (by decide +kernel), List.mem_of_getElem? (i := 629) (by decide +kernel), List.mem_of_getElem? (i := 630) (by decide +kernel)⟩
theorem lw_p21 : lw_okq (⟨"GownCourt$Reader", "endLine", "()V"⟩, 15) := ⟨⟨by decide +kernel, by decide +kernel⟩, List.mem_of_getElem? (i := 45) (by decide +kernel), List.mem_of_getElem? (i := 633) (by decide +kernel), List.mem_of_getElem? (i := 634) (by decide +kernel)⟩
theorem lw_p22 : lw_okq (⟨"GownCourt", "putOn", "(III)Z"⟩, 18) := ⟨⟨by decide +kernel, by decide +kernel⟩, List.mem_of_getElem? (i := 23) (by decide +kernel), List.mem_of_getElem? (i := 689) (by decide +kernel), List.mem_of_getElem? (i := 690) (by decide +kernel)⟩
theorem lw_p23 : lw_okq (⟨"GownCourt", "fineOfWearing", "(I)I"⟩, 18) := ⟨⟨by decide +kernel, by decide +kernel⟩, List.mem_of_getElem? (i := 23) (by decide +kernel), List.mem_of_getElem? (i := 697) (by decide +kernel), List.mem_of_getElem? (i := 698) (by decide +kernel)⟩
theorem lw_p24 : lw_okq (⟨"GownCourt$Codex", "reaching", "(LGownCourt$Wearing;)I"⟩, 2) := ⟨⟨by decide +kernel, by decide +kernel⟩, List.mem_of_getElem? (i := 135) (by decide +kernel), List.mem_of_getElem? (i := 708) (by decide +kernel), List.mem_of_getElem? (i := 709) (by decide +kernel)⟩
theorem lw_p25 : lw_okq (⟨"GownCourt$Codex", "among", "(II)LGownCourt$Act;"⟩, 2) := ⟨⟨by decide +kernel, by decide +kernel⟩, List.mem_of_getElem? (i := 135) (by decide +kernel), List.mem_of_getElem? (i := 718) (by decide +kernel), List.mem_of_getElem? (i := 719) (by decide +kernel)⟩
theorem lw_p26 : lw_okq (⟨"GownCourt", "findLetter", "(I)LGownCourt$Letter;"⟩, 18) := ⟨⟨by decide +kernel, by decide +kernel⟩, List.mem_of_getElem? (i := 23) (by decide +kernel), List.mem_of_getElem? (i := 790) (by decide +kernel), List.mem_of_getElem? (i := 791) (by decide +kernel)⟩
theorem lw_p27 : lw_okq (⟨"GownCourt", "wasConvicted", "(LGownCourt$Letter;)Z"⟩, 18) := ⟨⟨by decide +kernel, by decide +kernel⟩, List.mem_of_getElem? (i := 23) (by decide +kernel), List.mem_of_getElem? (i := 794) (by decide +kernel), List.mem_of_getElem? (i := 795) (by decide +kernel)⟩
theorem lw_p28 : lw_okq (⟨"GownCourt", "convict", "(LGownCourt$Letter;I)V"⟩, 18) := ⟨⟨by decide +kernel, by decide +kernel⟩, List.mem_of_getElem? (i := 23) (by decide +kernel), List.mem_of_getElem? (i := 802) (by decide +kernel), List.mem_of_getElem? (i := 803) (by decide +kernel)⟩
theorem lw_p29 : lw_okq (⟨"GownCourt", "punishFalse", "(LGownCourt$Letter;)V"⟩, 18) := ⟨⟨by decide +kernel, by decide +kernel⟩, List.mem_of_getElem? (i := 23) (by decide +kernel), List.mem_of_getElem? (i := 811) (by decide +kernel), List.mem_of_getElem? (i := 812) (by decide +kernel)⟩
theorem lw_p30 : lw_okq (⟨"GownCourt", "cheapestChange", "()I"⟩, 18) := ⟨⟨by decide +kernel, by decide +kernel⟩, List.mem_of_getElem? (i := 23) (by decide +kernel), List.mem_of_getElem? (i := 831) (by decide +kernel), List.mem_of_getElem? (i := 832) (by decide +kernel)⟩
theorem lw_p31 : lw_okq (⟨"GownCourt$Bounds", "lower", "(II)V"⟩, 3) := ⟨⟨by decide +kernel, by decide +kernel⟩, List.mem_of_getElem? (i := 230) (by decide +kernel), List.mem_of_getElem? (i := 852) (by decide +kernel), List.mem_of_getElem? (i := 853) (by decide +kernel)⟩
def lw_privs_2 : List (MethodName × Nat) := [(⟨"GownCourt$Reader", "takeWord", "(Ljava/lang/String;I)V"⟩, 15), (⟨"GownCourt$Reader", "readWhen", "()V"⟩, 15), (⟨"GownCourt$Reader", "whenWord", "()I"⟩, 15), (⟨"GownCourt$Reader", "finishRule", "(I)V"⟩, 15), (⟨"GownCourt$Reader", "readRepeal", "()V"⟩, 15), (⟨"GownCourt$Reader", "endLine", "()V"⟩, 15), (⟨"GownCourt", "putOn", "(III)Z"⟩, 18), (⟨"GownCourt", "fineOfWearing", "(I)I"⟩, 18), (⟨"GownCourt$Codex", "reaching", "(LGownCourt$Wearing;)I"⟩, 2), (⟨"GownCourt$Codex", "among", "(II)LGownCourt$Act;"⟩, 2), (⟨"GownCourt", "findLetter", "(I)LGownCourt$Letter;"⟩, 18), (⟨"GownCourt", "wasConvicted", "(LGownCourt$Letter;)Z"⟩, 18), (⟨"GownCourt", "convict", "(LGownCourt$Letter;I)V"⟩, 18), (⟨"GownCourt", "punishFalse", "(LGownCourt$Letter;)V"⟩, 18), (⟨"GownCourt", "cheapestChange", "()I"⟩, 18), (⟨"GownCourt$Bounds", "lower", "(II)V"⟩, 3)]
theorem lw_r2 : ∀ q ∈ lw_privs_2, lw_okq q := List.forall_mem_cons.mpr ⟨lw_p16, List.forall_mem_cons.mpr ⟨lw_p17, List.forall_mem_cons.mpr ⟨lw_p18, List.forall_mem_cons.mpr ⟨lw_p19, List.forall_mem_cons.mpr ⟨lw_p20, List.forall_mem_cons.mpr ⟨lw_p21, List.forall_mem_cons.mpr ⟨lw_p22, List.forall_mem_cons.mpr ⟨lw_p23, List.forall_mem_cons.mpr ⟨lw_p24, List.forall_mem_cons.mpr ⟨lw_p25, List.forall_mem_cons.mpr ⟨lw_p26, List.forall_mem_cons.mpr ⟨lw_p27, List.forall_mem_cons.mpr ⟨lw_p28, List.forall_mem_cons.mpr ⟨lw_p29, List.forall_mem_cons.mpr ⟨lw_p30, List.forall_mem_cons.mpr ⟨lw_p31, fun _ h => absurd h List.not_mem_nil⟩⟩⟩⟩⟩⟩⟩⟩⟩⟩⟩⟩⟩⟩⟩⟩
theorem lw_p32 : lw_okq (⟨"GownCourt", "stuffChange", "()I"⟩, 18) := ⟨⟨by decide +kernel, by decide +kernel⟩, List.mem_of_getElem? (i := 23) (by decide +kernel), List.mem_of_getElem? (i := 857) (by decide +kernel), List.mem_of_getElem? (i := 858) (by decide +kernel)⟩
theorem lw_p33 : lw_okq (⟨"GownCourt", "colourChange", "()I"⟩, 18) := ⟨⟨by decide +kernel, by decide +kernel⟩, List.mem_of_getElem? (i := 23) (by decide +kernel), List.mem_of_getElem? (i := 865) (by decide +kernel), List.mem_of_getElem? (i := 866) (by decide +kernel)⟩
theorem lw_p34 : lw_okq (⟨"java/lang/Throwable", "fillInStackTrace", "(I)Ljava/lang/Throwable;"⟩, 6) := ⟨⟨by decide +kernel, by decide +kernel⟩, List.mem_of_getElem? (i := 934) (by decide +kernel), List.mem_of_getElem? (i := 932) (by decide +kernel), List.mem_of_getElem? (i := 933) (by decide +kernel)⟩
theorem lw_p35 : lw_okq (⟨"GownCourtModel", "lay", "(I)V"⟩, 57) := ⟨⟨by decide +kernel, by decide +kernel⟩, List.mem_of_getElem? (i := 894) (by decide +kernel), List.mem_of_getElem? (i := 1135) (by decide +kernel), List.mem_of_getElem? (i := 1136) (by decide +kernel)⟩
theorem lw_p36 : lw_okq (⟨"GownCourtModel", "scan", "()V"⟩, 57) := ⟨⟨by decide +kernel, by decide +kernel⟩, List.mem_of_getElem? (i := 894) (by decide +kernel), List.mem_of_getElem? (i := 1154) (by decide +kernel), List.mem_of_getElem? (i := 1155) (by decide +kernel)⟩
theorem lw_p37 : lw_okq (⟨"GownCourtModel", "byteAt", "(I)I"⟩, 57) := ⟨⟨by decide +kernel, by decide +kernel⟩, List.mem_of_getElem? (i := 894) (by decide +kernel), List.mem_of_getElem? (i := 1158) (by decide +kernel), List.mem_of_getElem? (i := 1159) (by decide +kernel)⟩
theorem lw_p38 : lw_okq (⟨"GownCourtModel", "readAct", "(I)V"⟩, 57) := ⟨⟨by decide +kernel, by decide +kernel⟩, List.mem_of_getElem? (i := 894) (by decide +kernel), List.mem_of_getElem? (i := 1168) (by decide +kernel), List.mem_of_getElem? (i := 1169) (by decide +kernel)⟩
theorem lw_p39 : lw_okq (⟨"GownCourtModel", "kindAtHand", "()I"⟩, 57) := ⟨⟨by decide +kernel, by decide +kernel⟩, List.mem_of_getElem? (i := 894) (by decide +kernel), List.mem_of_getElem? (i := 1172) (by decide +kernel), List.mem_of_getElem? (i := 1173) (by decide +kernel)⟩
theorem lw_p40 : lw_okq (⟨"GownCourtModel", "is", "(Ljava/lang/String;)Z"⟩, 57) := ⟨⟨by decide +kernel, by decide +kernel⟩, List.mem_of_getElem? (i := 894) (by decide +kernel), List.mem_of_getElem? (i := 1177) (by decide +kernel), List.mem_of_getElem? (i := 1178) (by decide +kernel)⟩
theorem lw_p41 : lw_okq (⟨"GownCourtModel", "readRule", "(II)V"⟩, 57) := ⟨⟨by decide +kernel, by decide +kernel⟩, List.mem_of_getElem? (i := 894) (by decide +kernel), List.mem_of_getElem? (i := 1190) (by decide +kernel), List.mem_of_getElem? (i := 1191) (by decide +kernel)⟩
theorem lw_p42 : lw_okq (⟨"GownCourtModel", "wrong", "(I)LGownCourtModel$Stop;"⟩, 57) := ⟨⟨by decide +kernel, by decide +kernel⟩, List.mem_of_getElem? (i := 894) (by decide +kernel), List.mem_of_getElem? (i := 1194) (by decide +kernel), List.mem_of_getElem? (i := 1195) (by decide +kernel)⟩
theorem lw_p43 : lw_okq (⟨"GownCourtModel", "number", "(II)I"⟩, 57) := ⟨⟨by decide +kernel, by decide +kernel⟩, List.mem_of_getElem? (i := 894) (by decide +kernel), List.mem_of_getElem? (i := 1198) (by decide +kernel), List.mem_of_getElem? (i := 1199) (by decide +kernel)⟩
theorem lw_p44 : lw_okq (⟨"GownCourtModel", "need", "(Ljava/lang/String;)V"⟩, 57) := ⟨⟨by decide +kernel, by decide +kernel⟩, List.mem_of_getElem? (i := 894) (by decide +kernel), List.mem_of_getElem? (i := 1204) (by decide +kernel), List.mem_of_getElem? (i := 1205) (by decide +kernel)⟩
theorem lw_p45 : lw_okq (⟨"GownCourtModel", "readOther", "(I)V"⟩, 57) := ⟨⟨by decide +kernel, by decide +kernel⟩, List.mem_of_getElem? (i := 894) (by decide +kernel), List.mem_of_getElem? (i := 1214) (by decide +kernel), List.mem_of_getElem? (i := 1215) (by decide +kernel)⟩
theorem lw_p46 : lw_okq (⟨"GownCourtModel", "isAct", "(I)Z"⟩, 57) := ⟨⟨by decide +kernel, by decide +kernel⟩, List.mem_of_getElem? (i := 894) (by decide +kernel), List.mem_of_getElem? (i := 1229) (by decide +kernel), List.mem_of_getElem? (i := 1230) (by decide +kernel)⟩
theorem lw_p47 : lw_okq (⟨"GownCourtModel", "isInForce", "(II)Z"⟩, 57) := ⟨⟨by decide +kernel, by decide +kernel⟩, List.mem_of_getElem? (i := 894) (by decide +kernel), List.mem_of_getElem? (i := 1241) (by decide +kernel), List.mem_of_getElem? (i := 1242) (by decide +kernel)⟩
def lw_privs_3 : List (MethodName × Nat) := [(⟨"GownCourt", "stuffChange", "()I"⟩, 18), (⟨"GownCourt", "colourChange", "()I"⟩, 18), (⟨"java/lang/Throwable", "fillInStackTrace", "(I)Ljava/lang/Throwable;"⟩, 6), (⟨"GownCourtModel", "lay", "(I)V"⟩, 57), (⟨"GownCourtModel", "scan", "()V"⟩, 57), (⟨"GownCourtModel", "byteAt", "(I)I"⟩, 57), (⟨"GownCourtModel", "readAct", "(I)V"⟩, 57), (⟨"GownCourtModel", "kindAtHand", "()I"⟩, 57), (⟨"GownCourtModel", "is", "(Ljava/lang/String;)Z"⟩, 57), (⟨"GownCourtModel", "readRule", "(II)V"⟩, 57), (⟨"GownCourtModel", "wrong", "(I)LGownCourtModel$Stop;"⟩, 57), (⟨"GownCourtModel", "number", "(II)I"⟩, 57), (⟨"GownCourtModel", "need", "(Ljava/lang/String;)V"⟩, 57), (⟨"GownCourtModel", "readOther", "(I)V"⟩, 57), (⟨"GownCourtModel", "isAct", "(I)Z"⟩, 57), (⟨"GownCourtModel", "isInForce", "(II)Z"⟩, 57)]
theorem lw_r3 : ∀ q ∈ lw_privs_3, lw_okq q := List.forall_mem_cons.mpr ⟨lw_p32, List.forall_mem_cons.mpr ⟨lw_p33, List.forall_mem_cons.mpr ⟨lw_p34, List.forall_mem_cons.mpr ⟨lw_p35, List.forall_mem_cons.mpr ⟨lw_p36, List.forall_mem_cons.mpr ⟨lw_p37, List.forall_mem_cons.mpr ⟨lw_p38, List.forall_mem_cons.mpr ⟨lw_p39, List.forall_mem_cons.mpr ⟨lw_p40, List.forall_mem_cons.mpr ⟨lw_p41, List.forall_mem_cons.mpr ⟨lw_p42, List.forall_mem_cons.mpr ⟨lw_p43, List.forall_mem_cons.mpr ⟨lw_p44, List.forall_mem_cons.mpr ⟨lw_p45, List.forall_mem_cons.mpr ⟨lw_p46, List.forall_mem_cons.mpr ⟨lw_p47, fun _ h => absurd h List.not_mem_nil⟩⟩⟩⟩⟩⟩⟩⟩⟩⟩⟩⟩⟩⟩⟩⟩
theorem lw_p48 : lw_okq (⟨"GownCourtModel", "rankOf", "(II)I"⟩, 57) := ⟨⟨by decide +kernel, by decide +kernel⟩, List.mem_of_getElem? (i := 894) (by decide +kernel), List.mem_of_getElem? (i := 1269) (by decide +kernel), List.mem_of_getElem? (i := 1270) (by decide +kernel)⟩
theorem lw_p49 : lw_okq (⟨"GownCourtModel", "occasionOf", "(II)I"⟩, 57) := ⟨⟨by decide +kernel, by decide +kernel⟩, List.mem_of_getElem? (i := 894) (by decide +kernel), List.mem_of_getElem? (i := 1273) (by decide +kernel), List.mem_of_getElem? (i := 1274) (by decide +kernel)⟩
theorem lw_p50 : lw_okq (⟨"GownCourtModel", "isGown", "(I)Z"⟩, 57) := ⟨⟨by decide +kernel, by decide +kernel⟩, List.mem_of_getElem? (i := 894) (by decide +kernel), List.mem_of_getElem? (i := 1287) (by decide +kernel), List.mem_of_getElem? (i := 1288) (by decide +kernel)⟩
theorem lw_p51 : lw_okq (⟨"GownCourtModel", "countsAs", "(II)I"⟩, 57) := ⟨⟨by decide +kernel, by decide +kernel⟩, List.mem_of_getElem? (i := 894) (by decide +kernel), List.mem_of_getElem? (i := 1307) (by decide +kernel), List.mem_of_getElem? (i := 1308) (by decide +kernel)⟩
theorem lw_p52 : lw_okq (⟨"GownCourtModel", "isCase", "(III)Z"⟩, 57) := ⟨⟨by decide +kernel, by decide +kernel⟩, List.mem_of_getElem? (i := 894) (by decide +kernel), List.mem_of_getElem? (i := 1315) (by decide +kernel), List.mem_of_getElem? (i := 1316) (by decide +kernel)⟩
theorem lw_p53 : lw_okq (⟨"GownCourtModel", "fineOf", "(III)I"⟩, 57) := ⟨⟨by decide +kernel, by decide +kernel⟩, List.mem_of_getElem? (i := 894) (by decide +kernel), List.mem_of_getElem? (i := 1319) (by decide +kernel), List.mem_of_getElem? (i := 1320) (by decide +kernel)⟩
theorem lw_p54 : lw_okq (⟨"GownCourtModel", "brokenOf", "(IIIII)I"⟩, 57) := ⟨⟨by decide +kernel, by decide +kernel⟩, List.mem_of_getElem? (i := 894) (by decide +kernel), List.mem_of_getElem? (i := 1323) (by decide +kernel), List.mem_of_getElem? (i := 1324) (by decide +kernel)⟩
theorem lw_p55 : lw_okq (⟨"GownCourtModel", "binds", "(IIIIII)Z"⟩, 57) := ⟨⟨by decide +kernel, by decide +kernel⟩, List.mem_of_getElem? (i := 894) (by decide +kernel), List.mem_of_getElem? (i := 1327) (by decide +kernel), List.mem_of_getElem? (i := 1328) (by decide +kernel)⟩
theorem lw_p56 : lw_okq (⟨"GownCourtModel", "isBroken", "(IIII)Z"⟩, 57) := ⟨⟨by decide +kernel, by decide +kernel⟩, List.mem_of_getElem? (i := 894) (by decide +kernel), List.mem_of_getElem? (i := 1331) (by decide +kernel), List.mem_of_getElem? (i := 1332) (by decide +kernel)⟩
theorem lw_p57 : lw_okq (⟨"GownCourtModel", "isLetterOf", "(I)Z"⟩, 57) := ⟨⟨by decide +kernel, by decide +kernel⟩, List.mem_of_getElem? (i := 894) (by decide +kernel), List.mem_of_getElem? (i := 1348) (by decide +kernel), List.mem_of_getElem? (i := 1349) (by decide +kernel)⟩
theorem lw_p58 : lw_okq (⟨"GownCourtModel", "partOn", "(I)I"⟩, 57) := ⟨⟨by decide +kernel, by decide +kernel⟩, List.mem_of_getElem? (i := 894) (by decide +kernel), List.mem_of_getElem? (i := 1352) (by decide +kernel), List.mem_of_getElem? (i := 1353) (by decide +kernel)⟩
theorem lw_p59 : lw_okq (⟨"GownCourtModel", "alterOf", "(III)I"⟩, 57) := ⟨⟨by decide +kernel, by decide +kernel⟩, List.mem_of_getElem? (i := 894) (by decide +kernel), List.mem_of_getElem? (i := 1376) (by decide +kernel), List.mem_of_getElem? (i := 1377) (by decide +kernel)⟩
theorem lw_p60 : lw_okq (⟨"GownCourtModel", "gather", "(III)V"⟩, 57) := ⟨⟨by decide +kernel, by decide +kernel⟩, List.mem_of_getElem? (i := 894) (by decide +kernel), List.mem_of_getElem? (i := 1380) (by decide +kernel), List.mem_of_getElem? (i := 1381) (by decide +kernel)⟩
def lw_privs_4 : List (MethodName × Nat) := [(⟨"GownCourtModel", "rankOf", "(II)I"⟩, 57), (⟨"GownCourtModel", "occasionOf", "(II)I"⟩, 57), (⟨"GownCourtModel", "isGown", "(I)Z"⟩, 57), (⟨"GownCourtModel", "countsAs", "(II)I"⟩, 57), (⟨"GownCourtModel", "isCase", "(III)Z"⟩, 57), (⟨"GownCourtModel", "fineOf", "(III)I"⟩, 57), (⟨"GownCourtModel", "brokenOf", "(IIIII)I"⟩, 57), (⟨"GownCourtModel", "binds", "(IIIIII)Z"⟩, 57), (⟨"GownCourtModel", "isBroken", "(IIII)Z"⟩, 57), (⟨"GownCourtModel", "isLetterOf", "(I)Z"⟩, 57), (⟨"GownCourtModel", "partOn", "(I)I"⟩, 57), (⟨"GownCourtModel", "alterOf", "(III)I"⟩, 57), (⟨"GownCourtModel", "gather", "(III)V"⟩, 57)]
theorem lw_r4 : ∀ q ∈ lw_privs_4, lw_okq q := List.forall_mem_cons.mpr ⟨lw_p48, List.forall_mem_cons.mpr ⟨lw_p49, List.forall_mem_cons.mpr ⟨lw_p50, List.forall_mem_cons.mpr ⟨lw_p51, List.forall_mem_cons.mpr ⟨lw_p52, List.forall_mem_cons.mpr ⟨lw_p53, List.forall_mem_cons.mpr ⟨lw_p54, List.forall_mem_cons.mpr ⟨lw_p55, List.forall_mem_cons.mpr ⟨lw_p56, List.forall_mem_cons.mpr ⟨lw_p57, List.forall_mem_cons.mpr ⟨lw_p58, List.forall_mem_cons.mpr ⟨lw_p59, List.forall_mem_cons.mpr ⟨lw_p60, fun _ h => absurd h List.not_mem_nil⟩⟩⟩⟩⟩⟩⟩⟩⟩⟩⟩⟩⟩
def lw_privs : List (MethodName × Nat) := lw_privs_1 ++ (lw_privs_2 ++ (lw_privs_3 ++ (lw_privs_4)))
def lw_tbl : List Cond := k2_sels lw_privs ++ tables_1
theorem lw_privs_ok : ∀ q ∈ lw_privs, lw_okq q := by
  show ∀ q ∈ lw_privs_1 ++ (lw_privs_2 ++ (lw_privs_3 ++ (lw_privs_4))), lw_okq q
  exact List.forall_mem_append.mpr ⟨lw_r1, List.forall_mem_append.mpr ⟨lw_r2, List.forall_mem_append.mpr ⟨lw_r3, lw_r4⟩⟩⟩
end
section
def RX0 : String := "GownCourt$Act"
def TX0 : u_T := fun k => match k with
  | 0 => ("GownCourt$Act", "firstDay", "I", false)
  | 1 => ("GownCourt$Act", "rules", "[LGownCourt$Rule;", true)
  | 2 => ("GownCourt$Act", "ruleCount", "I", false)
  | 3 => ("GownCourt$Act", "seal", "I", false)
  | 4 => ("GownCourt$Act", "part", "I", false)
  | _ => ("GownCourt$Act", "repeals", "I", false)
def tyX0 : Nat → FieldType := fun k => match k with
  | 0 => .int
  | 1 => .array (.object "GownCourt$Rule")
  | 2 => .int
  | 3 => .int
  | 4 => .int
  | _ => .int
abbrev wsX00 : List Cond := u_ws RX0 TX0 6
theorem nmX0 : ∀ a, a < 6 → ∀ b, b < 6 → a ≠ b → (TX0 a).2.1 ≠ (TX0 b).2.1 := by decide +kernel
theorem tyX0_ok : ∀ k, k < 6 → parseFieldDescriptor (TX0 k).2.2.1 = some (tyX0 k) := by decide +kernel
abbrev cX0_init : ByteArray := prog_2_method_1_code
def yX0_init : MethodName := ⟨RX0, "<init>", "()V"⟩
abbrev cX0_wipe : ByteArray := prog_2_method_2_code
def yX0_wipe : MethodName := ⟨RX0, "wipe", "()V"⟩
abbrev cX0_add : ByteArray := prog_2_method_3_code
def yX0_add : MethodName := ⟨RX0, "add", "(LGownCourt$Rule;)V"⟩
abbrev cX0_findRule : ByteArray := prog_2_method_4_code
def yX0_findRule : MethodName := ⟨RX0, "findRule", "(I)LGownCourt$Rule;"⟩
abbrev cX0_sealDays : ByteArray := prog_2_method_5_code
def yX0_sealDays : MethodName := ⟨RX0, "sealDays", "()I"⟩
abbrev cX0_lets : ByteArray := prog_2_method_6_code
def yX0_lets : MethodName := ⟨RX0, "lets", "(LGownCourt$Wearing;)Z"⟩
abbrev cX0_brokenBits : ByteArray := prog_2_method_7_code
def yX0_brokenBits : MethodName := ⟨RX0, "brokenBits", "(LGownCourt$Wearing;)I"⟩
abbrev cX0_penceOf : ByteArray := prog_2_method_8_code
def yX0_penceOf : MethodName := ⟨RX0, "penceOf", "(I)I"⟩
abbrev cX0_narrow : ByteArray := prog_2_method_9_code
def yX0_narrow : MethodName := ⟨RX0, "narrow", "(LGownCourt$Bounds;LGownCourt$Wearing;)V"⟩
def RX1 : String := "GownCourt$Bounds"
def TX1 : u_T := fun k => match k with
  | 0 => ("GownCourt$Bounds", "limits", "[I", true)
  | 1 => ("GownCourt$Bounds", "barredStuffs", "I", false)
  | _ => ("GownCourt$Bounds", "barredColours", "I", false)
def tyX1 : Nat → FieldType := fun k => match k with
  | 0 => .array .int
  | 1 => .int
  | _ => .int
abbrev wsX10 : List Cond := u_ws RX1 TX1 3
theorem nmX1 : ∀ a, a < 3 → ∀ b, b < 3 → a ≠ b → (TX1 a).2.1 ≠ (TX1 b).2.1 := by decide +kernel
theorem tyX1_ok : ∀ k, k < 3 → parseFieldDescriptor (TX1 k).2.2.1 = some (tyX1 k) := by decide +kernel
abbrev cX1_init : ByteArray := prog_3_method_1_code
def yX1_init : MethodName := ⟨RX1, "<init>", "()V"⟩
abbrev cX1_open : ByteArray := prog_3_method_2_code
def yX1_open : MethodName := ⟨RX1, "open", "()V"⟩
abbrev cX1_narrow : ByteArray := prog_3_method_3_code
def yX1_narrow : MethodName := ⟨RX1, "narrow", "(LGownCourt$Rule;)V"⟩
abbrev cX1_lower : ByteArray := prog_3_method_4_code
def yX1_lower : MethodName := ⟨RX1, "lower", "(II)V"⟩
abbrev cX1_limitOf : ByteArray := prog_3_method_5_code
def yX1_limitOf : MethodName := ⟨RX1, "limitOf", "(I)I"⟩
abbrev cX1_leavesStuff : ByteArray := prog_3_method_6_code
def yX1_leavesStuff : MethodName := ⟨RX1, "leavesStuff", "(I)Z"⟩
abbrev cX1_leavesColour : ByteArray := prog_3_method_7_code
def yX1_leavesColour : MethodName := ⟨RX1, "leavesColour", "(I)Z"⟩
def RX2 : String := "GownCourt$Codex"
def TX2 : u_T := fun k => match k with
  | 0 => ("GownCourt$Codex", "acts", "[LGownCourt$Act;", true)
  | _ => ("GownCourt$Codex", "size", "I", false)
def tyX2 : Nat → FieldType := fun k => match k with
  | 0 => .array (.object "GownCourt$Act")
  | _ => .int
abbrev wsX20 : List Cond := u_ws RX2 TX2 2
theorem nmX2 : ∀ a, a < 2 → ∀ b, b < 2 → a ≠ b → (TX2 a).2.1 ≠ (TX2 b).2.1 := by decide +kernel
theorem tyX2_ok : ∀ k, k < 2 → parseFieldDescriptor (TX2 k).2.2.1 = some (tyX2 k) := by decide +kernel
abbrev cX2_init : ByteArray := prog_4_method_1_code
def yX2_init : MethodName := ⟨RX2, "<init>", "()V"⟩
abbrev cX2_size : ByteArray := prog_4_method_2_code
def yX2_size : MethodName := ⟨RX2, "size", "()I"⟩
abbrev cX2_find : ByteArray := prog_4_method_3_code
def yX2_find : MethodName := ⟨RX2, "find", "(I)LGownCourt$Act;"⟩
abbrev cX2_latestFirstDay : ByteArray := prog_4_method_4_code
def yX2_latestFirstDay : MethodName := ⟨RX2, "latestFirstDay", "()I"⟩
abbrev cX2_add : ByteArray := prog_4_method_5_code
def yX2_add : MethodName := ⟨RX2, "add", "(LGownCourt$Act;I)V"⟩
abbrev cX2_inForce : ByteArray := prog_4_method_6_code
def yX2_inForce : MethodName := ⟨RX2, "inForce", "(I)I"⟩
abbrev cX2_among : ByteArray := prog_4_method_7_code
def yX2_among : MethodName := ⟨RX2, "among", "(II)LGownCourt$Act;"⟩
abbrev cX2_partOn : ByteArray := prog_4_method_8_code
def yX2_partOn : MethodName := ⟨RX2, "partOn", "(I)I"⟩
abbrev cX2_reaching : ByteArray := prog_4_method_9_code
def yX2_reaching : MethodName := ⟨RX2, "reaching", "(LGownCourt$Wearing;)I"⟩
abbrev cX2_brokenRules : ByteArray := prog_4_method_10_code
def yX2_brokenRules : MethodName := ⟨RX2, "brokenRules", "(ILGownCourt$Wearing;)I"⟩
abbrev cX2_penceOfBroken : ByteArray := prog_4_method_11_code
def yX2_penceOfBroken : MethodName := ⟨RX2, "penceOfBroken", "(LGownCourt$Wearing;)I"⟩
abbrev cX2_breaksAny : ByteArray := prog_4_method_12_code
def yX2_breaksAny : MethodName := ⟨RX2, "breaksAny", "(LGownCourt$Wearing;)Z"⟩
abbrev cX2_bound : ByteArray := prog_4_method_13_code
def yX2_bound : MethodName := ⟨RX2, "bound", "(LGownCourt$Bounds;LGownCourt$Wearing;)V"⟩
def RX3 : String := "GownCourt$Gown"
def TX3 : u_T := fun k => match k with
  | 0 => ("GownCourt$Gown", "measures", "[I", true)
  | 1 => ("GownCourt$Gown", "stuff", "I", true)
  | 2 => ("GownCourt$Gown", "colour", "I", true)
  | _ => ("GownCourt$Gown", "sealedOn", "I", false)
def tyX3 : Nat → FieldType := fun k => match k with
  | 0 => .array .int
  | 1 => .int
  | 2 => .int
  | _ => .int
abbrev wsX30 : List Cond := u_ws RX3 TX3 4
theorem nmX3 : ∀ a, a < 4 → ∀ b, b < 4 → a ≠ b → (TX3 a).2.1 ≠ (TX3 b).2.1 := by decide +kernel
theorem tyX3_ok : ∀ k, k < 4 → parseFieldDescriptor (TX3 k).2.2.1 = some (tyX3 k) := by decide +kernel
abbrev cX3_init : ByteArray := prog_5_method_1_code
def yX3_init : MethodName := ⟨RX3, "<init>", "(IIIIIII)V"⟩
abbrev cX3_measure : ByteArray := prog_5_method_2_code
def yX3_measure : MethodName := ⟨RX3, "measure", "(I)I"⟩
def RX4 : String := "GownCourt$Letter"
def TX4 : u_T := fun k => match k with
  | 0 => ("GownCourt$Letter", "by", "I", true)
  | 1 => ("GownCourt$Letter", "accused", "I", true)
  | 2 => ("GownCourt$Letter", "gown", "I", true)
  | 3 => ("GownCourt$Letter", "day", "I", true)
  | 4 => ("GownCourt$Letter", "verdict", "I", false)
  | 5 => ("GownCourt$Letter", "pence", "I", false)
  | _ => ("GownCourt$Letter", "share", "I", false)
def tyX4 : Nat → FieldType := fun k => match k with
  | 0 => .int
  | 1 => .int
  | 2 => .int
  | 3 => .int
  | 4 => .int
  | 5 => .int
  | _ => .int
abbrev wsX40 : List Cond := u_ws RX4 TX4 7
theorem nmX4 : ∀ a, a < 7 → ∀ b, b < 7 → a ≠ b → (TX4 a).2.1 ≠ (TX4 b).2.1 := by decide +kernel
theorem tyX4_ok : ∀ k, k < 7 → parseFieldDescriptor (TX4 k).2.2.1 = some (tyX4 k) := by decide +kernel
abbrev cX4_init : ByteArray := prog_6_method_1_code
def yX4_init : MethodName := ⟨RX4, "<init>", "(IIII)V"⟩
abbrev cX4_isOfSameCase : ByteArray := prog_6_method_2_code
def yX4_isOfSameCase : MethodName := ⟨RX4, "isOfSameCase", "(LGownCourt$Letter;)Z"⟩
def RX5 : String := "GownCourt$Reader"
def TX5 : u_T := fun k => match k with
  | 0 => ("GownCourt$Reader", "tape", "LGownCourt$Tape;", true)
  | 1 => ("GownCourt$Reader", "draft", "LGownCourt$Act;", false)
  | 2 => ("GownCourt$Reader", "actsThere", "I", false)
  | 3 => ("GownCourt$Reader", "faultKind", "I", false)
  | 4 => ("GownCourt$Reader", "faultPlace", "I", false)
  | 5 => ("GownCourt$Reader", "state", "I", false)
  | 6 => ("GownCourt$Reader", "token", "I", false)
  | 7 => ("GownCourt$Reader", "start", "I", false)
  | 8 => ("GownCourt$Reader", "end", "I", false)
  | 9 => ("GownCourt$Reader", "number", "I", false)
  | 10 => ("GownCourt$Reader", "kind", "I", false)
  | 11 => ("GownCourt$Reader", "limit", "I", false)
  | 12 => ("GownCourt$Reader", "lowRank", "I", false)
  | 13 => ("GownCourt$Reader", "highRank", "I", false)
  | _ => ("GownCourt$Reader", "when", "I", false)
def tyX5 : Nat → FieldType := fun k => match k with
  | 0 => .object "GownCourt$Tape"
  | 1 => .object "GownCourt$Act"
  | 2 => .int
  | 3 => .int
  | 4 => .int
  | 5 => .int
  | 6 => .int
  | 7 => .int
  | 8 => .int
  | 9 => .int
  | 10 => .int
  | 11 => .int
  | 12 => .int
  | 13 => .int
  | _ => .int
abbrev wsX50 : List Cond := u_ws RX5 TX5 15
theorem nmX5 : ∀ a, a < 15 → ∀ b, b < 15 → a ≠ b → (TX5 a).2.1 ≠ (TX5 b).2.1 := by decide +kernel
theorem tyX5_ok : ∀ k, k < 15 → parseFieldDescriptor (TX5 k).2.2.1 = some (tyX5 k) := by decide +kernel
abbrev cX5_init : ByteArray := prog_7_method_1_code
def yX5_init : MethodName := ⟨RX5, "<init>", "(LGownCourt$Tape;)V"⟩
abbrev cX5_faultKind : ByteArray := prog_7_method_2_code
def yX5_faultKind : MethodName := ⟨RX5, "faultKind", "()I"⟩
abbrev cX5_faultPlace : ByteArray := prog_7_method_3_code
def yX5_faultPlace : MethodName := ⟨RX5, "faultPlace", "()I"⟩
abbrev cX5_takeDraft : ByteArray := prog_7_method_4_code
def yX5_takeDraft : MethodName := ⟨RX5, "takeDraft", "()LGownCourt$Act;"⟩
abbrev cX5_read : ByteArray := prog_7_method_5_code
def yX5_read : MethodName := ⟨RX5, "read", "(I)V"⟩
abbrev cX5_scan : ByteArray := prog_7_method_6_code
def yX5_scan : MethodName := ⟨RX5, "scan", "()V"⟩
abbrev cX5_scanWord : ByteArray := prog_7_method_7_code
def yX5_scanWord : MethodName := ⟨RX5, "scanWord", "()V"⟩
abbrev cX5_scanNumber : ByteArray := prog_7_method_8_code
def yX5_scanNumber : MethodName := ⟨RX5, "scanNumber", "()V"⟩
abbrev cX5_isBlank : ByteArray := prog_7_method_9_code
def yX5_isBlank : MethodName := ⟨RX5, "isBlank", "(I)Z"⟩
abbrev cX5_isLetter : ByteArray := prog_7_method_10_code
def yX5_isLetter : MethodName := ⟨RX5, "isLetter", "(I)Z"⟩
abbrev cX5_isDigit : ByteArray := prog_7_method_11_code
def yX5_isDigit : MethodName := ⟨RX5, "isDigit", "(I)Z"⟩
abbrev cX5_step : ByteArray := prog_7_method_12_code
def yX5_step : MethodName := ⟨RX5, "step", "()V"⟩
abbrev cX5_startLine : ByteArray := prog_7_method_13_code
def yX5_startLine : MethodName := ⟨RX5, "startLine", "()V"⟩
abbrev cX5_ruleKind : ByteArray := prog_7_method_14_code
def yX5_ruleKind : MethodName := ⟨RX5, "ruleKind", "()I"⟩
abbrev cX5_topLimit : ByteArray := prog_7_method_15_code
def yX5_topLimit : MethodName := ⟨RX5, "topLimit", "()I"⟩
abbrev cX5_readWho : ByteArray := prog_7_method_16_code
def yX5_readWho : MethodName := ⟨RX5, "readWho", "()V"⟩
abbrev cX5_readWhen : ByteArray := prog_7_method_17_code
def yX5_readWhen : MethodName := ⟨RX5, "readWhen", "()V"⟩
abbrev cX5_whenWord : ByteArray := prog_7_method_18_code
def yX5_whenWord : MethodName := ⟨RX5, "whenWord", "()I"⟩
abbrev cX5_finishRule : ByteArray := prog_7_method_19_code
def yX5_finishRule : MethodName := ⟨RX5, "finishRule", "(I)V"⟩
abbrev cX5_readRepeal : ByteArray := prog_7_method_20_code
def yX5_readRepeal : MethodName := ⟨RX5, "readRepeal", "()V"⟩
abbrev cX5_endLine : ByteArray := prog_7_method_21_code
def yX5_endLine : MethodName := ⟨RX5, "endLine", "()V"⟩
abbrev cX5_takeNumber : ByteArray := prog_7_method_22_code
def yX5_takeNumber : MethodName := ⟨RX5, "takeNumber", "(III)I"⟩
abbrev cX5_takeWord : ByteArray := prog_7_method_23_code
def yX5_takeWord : MethodName := ⟨RX5, "takeWord", "(Ljava/lang/String;I)V"⟩
abbrev cX5_isWord : ByteArray := prog_7_method_24_code
def yX5_isWord : MethodName := ⟨RX5, "isWord", "(Ljava/lang/String;)Z"⟩
abbrev cX5_goOn : ByteArray := prog_7_method_25_code
def yX5_goOn : MethodName := ⟨RX5, "goOn", "(II)V"⟩
abbrev cX5_blame : ByteArray := prog_7_method_26_code
def yX5_blame : MethodName := ⟨RX5, "blame", "(I)V"⟩
def RX6 : String := "GownCourt$Rows"
def TX6 : u_T := fun k => match k with
  | 0 => ("GownCourt$Rows", "keys", "[I", true)
  | 1 => ("GownCourt$Rows", "days", "[I", true)
  | 2 => ("GownCourt$Rows", "numbers", "[I", true)
  | _ => ("GownCourt$Rows", "size", "I", false)
def tyX6 : Nat → FieldType := fun k => match k with
  | 0 => .array .int
  | 1 => .array .int
  | 2 => .array .int
  | _ => .int
abbrev wsX60 : List Cond := u_ws RX6 TX6 4
theorem nmX6 : ∀ a, a < 4 → ∀ b, b < 4 → a ≠ b → (TX6 a).2.1 ≠ (TX6 b).2.1 := by decide +kernel
theorem tyX6_ok : ∀ k, k < 4 → parseFieldDescriptor (TX6 k).2.2.1 = some (tyX6 k) := by decide +kernel
abbrev cX6_init : ByteArray := prog_8_method_1_code
def yX6_init : MethodName := ⟨RX6, "<init>", "(I)V"⟩
abbrev cX6_size : ByteArray := prog_8_method_2_code
def yX6_size : MethodName := ⟨RX6, "size", "()I"⟩
abbrev cX6_countOf : ByteArray := prog_8_method_3_code
def yX6_countOf : MethodName := ⟨RX6, "countOf", "(I)I"⟩
abbrev cX6_add : ByteArray := prog_8_method_4_code
def yX6_add : MethodName := ⟨RX6, "add", "(III)V"⟩
abbrev cX6_heldOn : ByteArray := prog_8_method_5_code
def yX6_heldOn : MethodName := ⟨RX6, "heldOn", "(III)I"⟩
abbrev cX6_spanOver : ByteArray := prog_8_method_6_code
def yX6_spanOver : MethodName := ⟨RX6, "spanOver", "(II)Z"⟩
def RX7 : String := "GownCourt$Rule"
def TX7 : u_T := fun k => match k with
  | 0 => ("GownCourt$Rule", "kind", "I", true)
  | 1 => ("GownCourt$Rule", "limit", "I", true)
  | 2 => ("GownCourt$Rule", "lowRank", "I", true)
  | 3 => ("GownCourt$Rule", "highRank", "I", true)
  | 4 => ("GownCourt$Rule", "when", "I", true)
  | _ => ("GownCourt$Rule", "pence", "I", true)
def tyX7 : Nat → FieldType := fun k => match k with
  | 0 => .int
  | 1 => .int
  | 2 => .int
  | 3 => .int
  | 4 => .int
  | _ => .int
abbrev wsX70 : List Cond := u_ws RX7 TX7 6
theorem nmX7 : ∀ a, a < 6 → ∀ b, b < 6 → a ≠ b → (TX7 a).2.1 ≠ (TX7 b).2.1 := by decide +kernel
theorem tyX7_ok : ∀ k, k < 6 → parseFieldDescriptor (TX7 k).2.2.1 = some (tyX7 k) := by decide +kernel
abbrev cX7_init : ByteArray := prog_9_method_1_code
def yX7_init : MethodName := ⟨RX7, "<init>", "(IIIIII)V"⟩
abbrev cX7_concerns : ByteArray := prog_9_method_2_code
def yX7_concerns : MethodName := ⟨RX7, "concerns", "(LGownCourt$Wearing;)Z"⟩
abbrev cX7_isOffended : ByteArray := prog_9_method_3_code
def yX7_isOffended : MethodName := ⟨RX7, "isOffended", "(LGownCourt$Wearing;)Z"⟩
def RX8 : String := "GownCourt$Tape"
def TX8 : u_T := fun k => match k with
  | 0 => ("GownCourt$Tape", "bytes", "[B", true)
  | _ => ("GownCourt$Tape", "size", "I", false)
def tyX8 : Nat → FieldType := fun k => match k with
  | 0 => .array .byte
  | _ => .int
abbrev wsX80 : List Cond := u_ws RX8 TX8 2
theorem nmX8 : ∀ a, a < 2 → ∀ b, b < 2 → a ≠ b → (TX8 a).2.1 ≠ (TX8 b).2.1 := by decide +kernel
theorem tyX8_ok : ∀ k, k < 2 → parseFieldDescriptor (TX8 k).2.2.1 = some (tyX8 k) := by decide +kernel
abbrev cX8_init : ByteArray := prog_10_method_1_code
def yX8_init : MethodName := ⟨RX8, "<init>", "()V"⟩
abbrev cX8_size : ByteArray := prog_10_method_2_code
def yX8_size : MethodName := ⟨RX8, "size", "()I"⟩
abbrev cX8_put : ByteArray := prog_10_method_3_code
def yX8_put : MethodName := ⟨RX8, "put", "(I)V"⟩
abbrev cX8_cutTo : ByteArray := prog_10_method_4_code
def yX8_cutTo : MethodName := ⟨RX8, "cutTo", "(I)V"⟩
abbrev cX8_byteAt : ByteArray := prog_10_method_5_code
def yX8_byteAt : MethodName := ⟨RX8, "byteAt", "(I)I"⟩
def RX9 : String := "GownCourt$Wearing"
def TX9 : u_T := fun k => match k with
  | 0 => ("GownCourt$Wearing", "rank", "I", false)
  | 1 => ("GownCourt$Wearing", "occasion", "I", false)
  | 2 => ("GownCourt$Wearing", "gown", "LGownCourt$Gown;", false)
  | 3 => ("GownCourt$Wearing", "day", "I", false)
  | _ => ("GownCourt$Wearing", "countedStuff", "I", false)
def tyX9 : Nat → FieldType := fun k => match k with
  | 0 => .int
  | 1 => .int
  | 2 => .object "GownCourt$Gown"
  | 3 => .int
  | _ => .int
abbrev wsX90 : List Cond := u_ws RX9 TX9 5
theorem nmX9 : ∀ a, a < 5 → ∀ b, b < 5 → a ≠ b → (TX9 a).2.1 ≠ (TX9 b).2.1 := by decide +kernel
theorem tyX9_ok : ∀ k, k < 5 → parseFieldDescriptor (TX9 k).2.2.1 = some (tyX9 k) := by decide +kernel
abbrev cX9_init : ByteArray := prog_11_method_1_code
def yX9_init : MethodName := ⟨RX9, "<init>", "()V"⟩
abbrev cX9_take : ByteArray := prog_11_method_2_code
def yX9_take : MethodName := ⟨RX9, "take", "(IILGownCourt$Gown;II)V"⟩
def RX10 : String := "GownCourt"
def TX10 : u_T := fun k => match k with
  | 0 => ("GownCourt", "tape", "LGownCourt$Tape;", true)
  | 1 => ("GownCourt", "reader", "LGownCourt$Reader;", true)
  | 2 => ("GownCourt", "codex", "LGownCourt$Codex;", true)
  | 3 => ("GownCourt", "ranks", "LGownCourt$Rows;", true)
  | 4 => ("GownCourt", "weddings", "LGownCourt$Rows;", true)
  | 5 => ("GownCourt", "feasts", "LGownCourt$Rows;", true)
  | 6 => ("GownCourt", "likes", "LGownCourt$Rows;", true)
  | 7 => ("GownCourt", "gowns", "[LGownCourt$Gown;", true)
  | 8 => ("GownCourt", "gownCount", "I", false)
  | 9 => ("GownCourt", "letters", "[LGownCourt$Letter;", true)
  | 10 => ("GownCourt", "letterCount", "I", false)
  | 11 => ("GownCourt", "convictions", "[I", true)
  | 12 => ("GownCourt", "paid", "[I", true)
  | 13 => ("GownCourt", "had", "[I", true)
  | 14 => ("GownCourt", "chest", "I", false)
  | 15 => ("GownCourt", "prices", "[I", true)
  | 16 => ("GownCourt", "wearing", "LGownCourt$Wearing;", true)
  | _ => ("GownCourt", "bounds", "LGownCourt$Bounds;", true)
def tyX10 : Nat → FieldType := fun k => match k with
  | 0 => .object "GownCourt$Tape"
  | 1 => .object "GownCourt$Reader"
  | 2 => .object "GownCourt$Codex"
  | 3 => .object "GownCourt$Rows"
  | 4 => .object "GownCourt$Rows"
  | 5 => .object "GownCourt$Rows"
  | 6 => .object "GownCourt$Rows"
  | 7 => .array (.object "GownCourt$Gown")
  | 8 => .int
  | 9 => .array (.object "GownCourt$Letter")
  | 10 => .int
  | 11 => .array .int
  | 12 => .array .int
  | 13 => .array .int
  | 14 => .int
  | 15 => .array .int
  | 16 => .object "GownCourt$Wearing"
  | _ => .object "GownCourt$Bounds"
abbrev wsX100 : List Cond := u_ws RX10 TX10 18
theorem nmX10 : ∀ a, a < 18 → ∀ b, b < 18 → a ≠ b → (TX10 a).2.1 ≠ (TX10 b).2.1 := by decide +kernel
theorem tyX10_ok : ∀ k, k < 18 → parseFieldDescriptor (TX10 k).2.2.1 = some (tyX10 k) := by decide +kernel
abbrev cX10_init : ByteArray := prog_1_method_1_code
def yX10_init : MethodName := ⟨RX10, "<init>", "()V"⟩
abbrev cX10_feed : ByteArray := prog_1_method_2_code
def yX10_feed : MethodName := ⟨RX10, "feed", "(IIIII)I"⟩
abbrev cX10_end : ByteArray := prog_1_method_3_code
def yX10_end : MethodName := ⟨RX10, "end", "(I)I"⟩
abbrev cX10_rank : ByteArray := prog_1_method_4_code
def yX10_rank : MethodName := ⟨RX10, "rank", "(III)I"⟩
abbrev cX10_feast : ByteArray := prog_1_method_5_code
def yX10_feast : MethodName := ⟨RX10, "feast", "(II)I"⟩
abbrev cX10_wedding : ByteArray := prog_1_method_6_code
def yX10_wedding : MethodName := ⟨RX10, "wedding", "(III)I"⟩
abbrev cX10_on : ByteArray := prog_1_method_7_code
def yX10_on : MethodName := ⟨RX10, "on", "(III)I"⟩
abbrev cX10_gown : ByteArray := prog_1_method_8_code
def yX10_gown : MethodName := ⟨RX10, "gown", "(IIIIIII)I"⟩
abbrev cX10_seal : ByteArray := prog_1_method_9_code
def yX10_seal : MethodName := ⟨RX10, "seal", "(II)I"⟩
abbrev cX10_about : ByteArray := prog_1_method_10_code
def yX10_about : MethodName := ⟨RX10, "about", "(II)I"⟩
abbrev cX10_like : ByteArray := prog_1_method_11_code
def yX10_like : MethodName := ⟨RX10, "like", "(III)I"⟩
abbrev cX10_counts : ByteArray := prog_1_method_12_code
def yX10_counts : MethodName := ⟨RX10, "counts", "(II)I"⟩
abbrev cX10_act : ByteArray := prog_1_method_13_code
def yX10_act : MethodName := ⟨RX10, "act", "(I)I"⟩
abbrev cX10_fault : ByteArray := prog_1_method_14_code
def yX10_fault : MethodName := ⟨RX10, "fault", "(I)I"⟩
abbrev cX10_told : ByteArray := prog_1_method_15_code
def yX10_told : MethodName := ⟨RX10, "told", "(II)I"⟩
abbrev cX10_rule : ByteArray := prog_1_method_16_code
def yX10_rule : MethodName := ⟨RX10, "rule", "(III)I"⟩
abbrev cX10_force : ByteArray := prog_1_method_17_code
def yX10_force : MethodName := ⟨RX10, "force", "(I)I"⟩
abbrev cX10_fine : ByteArray := prog_1_method_18_code
def yX10_fine : MethodName := ⟨RX10, "fine", "(III)I"⟩
abbrev cX10_broken : ByteArray := prog_1_method_19_code
def yX10_broken : MethodName := ⟨RX10, "broken", "(IIII)I"⟩
abbrev cX10_letter : ByteArray := prog_1_method_20_code
def yX10_letter : MethodName := ⟨RX10, "letter", "(IIII)I"⟩
abbrev cX10_judge : ByteArray := prog_1_method_21_code
def yX10_judge : MethodName := ⟨RX10, "judge", "(I)I"⟩
abbrev cX10_lettered : ByteArray := prog_1_method_22_code
def yX10_lettered : MethodName := ⟨RX10, "lettered", "(II)I"⟩
abbrev cX10_person : ByteArray := prog_1_method_23_code
def yX10_person : MethodName := ⟨RX10, "person", "(II)I"⟩
abbrev cX10_price : ByteArray := prog_1_method_24_code
def yX10_price : MethodName := ⟨RX10, "price", "(II)I"⟩
abbrev cX10_alter : ByteArray := prog_1_method_25_code
def yX10_alter : MethodName := ⟨RX10, "alter", "(III)I"⟩
abbrev cX10_best : ByteArray := prog_1_method_26_code
def yX10_best : MethodName := ⟨RX10, "best", "(III)I"⟩
abbrev cX10_worn : ByteArray := prog_1_method_27_code
def yX10_worn : MethodName := ⟨RX10, "worn", "(IIIII)I"⟩
abbrev cX10_count : ByteArray := prog_1_method_28_code
def yX10_count : MethodName := ⟨RX10, "count", "(I)I"⟩
abbrev cX10_isPerson : ByteArray := prog_1_method_29_code
def yX10_isPerson : MethodName := ⟨RX10, "isPerson", "(I)Z"⟩
abbrev cX10_isDay : ByteArray := prog_1_method_30_code
def yX10_isDay : MethodName := ⟨RX10, "isDay", "(I)Z"⟩
abbrev cX10_isSpan : ByteArray := prog_1_method_31_code
def yX10_isSpan : MethodName := ⟨RX10, "isSpan", "(II)Z"⟩
abbrev cX10_isRank : ByteArray := prog_1_method_32_code
def yX10_isRank : MethodName := ⟨RX10, "isRank", "(I)Z"⟩
abbrev cX10_isMeasure : ByteArray := prog_1_method_33_code
def yX10_isMeasure : MethodName := ⟨RX10, "isMeasure", "(I)Z"⟩
abbrev cX10_isStuff : ByteArray := prog_1_method_34_code
def yX10_isStuff : MethodName := ⟨RX10, "isStuff", "(I)Z"⟩
abbrev cX10_isColour : ByteArray := prog_1_method_35_code
def yX10_isColour : MethodName := ⟨RX10, "isColour", "(I)Z"⟩
abbrev cX10_findGown : ByteArray := prog_1_method_36_code
def yX10_findGown : MethodName := ⟨RX10, "findGown", "(I)LGownCourt$Gown;"⟩
abbrev cX10_findLetter : ByteArray := prog_1_method_37_code
def yX10_findLetter : MethodName := ⟨RX10, "findLetter", "(I)LGownCourt$Letter;"⟩
abbrev cX10_rankOn : ByteArray := prog_1_method_38_code
def yX10_rankOn : MethodName := ⟨RX10, "rankOn", "(II)I"⟩
abbrev cX10_occasionOn : ByteArray := prog_1_method_39_code
def yX10_occasionOn : MethodName := ⟨RX10, "occasionOn", "(II)I"⟩
abbrev cX10_countsAs : ByteArray := prog_1_method_40_code
def yX10_countsAs : MethodName := ⟨RX10, "countsAs", "(II)I"⟩
abbrev cX10_putOn : ByteArray := prog_1_method_41_code
def yX10_putOn : MethodName := ⟨RX10, "putOn", "(III)Z"⟩
abbrev cX10_fineOfWearing : ByteArray := prog_1_method_42_code
def yX10_fineOfWearing : MethodName := ⟨RX10, "fineOfWearing", "(I)I"⟩
abbrev cX10_wasConvicted : ByteArray := prog_1_method_43_code
def yX10_wasConvicted : MethodName := ⟨RX10, "wasConvicted", "(LGownCourt$Letter;)Z"⟩
abbrev cX10_convict : ByteArray := prog_1_method_44_code
def yX10_convict : MethodName := ⟨RX10, "convict", "(LGownCourt$Letter;I)V"⟩
abbrev cX10_punishFalse : ByteArray := prog_1_method_45_code
def yX10_punishFalse : MethodName := ⟨RX10, "punishFalse", "(LGownCourt$Letter;)V"⟩
abbrev cX10_cheapestChange : ByteArray := prog_1_method_46_code
def yX10_cheapestChange : MethodName := ⟨RX10, "cheapestChange", "()I"⟩
abbrev cX10_stuffChange : ByteArray := prog_1_method_47_code
def yX10_stuffChange : MethodName := ⟨RX10, "stuffChange", "()I"⟩
abbrev cX10_colourChange : ByteArray := prog_1_method_48_code
def yX10_colourChange : MethodName := ⟨RX10, "colourChange", "()I"⟩
def RX11 : String := "GownCourtModel$Stop"
def TX11 : u_T := fun k => match k with
  | 0 => ("java/lang/Throwable", "cause", "Ljava/lang/Throwable;", false)
  | 1 => ("java/lang/Throwable", "stackTrace", "[Ljava/lang/StackTraceElement;", false)
  | 2 => ("java/lang/Throwable", "suppressedExceptions", "Ljava/util/List;", false)
  | 3 => ("java/lang/Throwable", "detailMessage", "Ljava/lang/String;", false)
  | 4 => ("java/lang/Throwable", "backtrace", "Ljava/lang/Object;", false)
  | _ => ("java/lang/Throwable", "depth", "I", false)
def tyX11 : Nat → FieldType := fun k => match k with
  | 0 => .object "java/lang/Throwable"
  | 1 => .array (.object "java/lang/StackTraceElement")
  | 2 => .object "java/util/List"
  | 3 => .object "java/lang/String"
  | 4 => .object "java/lang/Object"
  | _ => .int
abbrev wsX110 : List Cond := u_ws RX11 TX11 6
theorem nmX11 : ∀ a, a < 6 → ∀ b, b < 6 → a ≠ b → (TX11 a).2.1 ≠ (TX11 b).2.1 := by decide +kernel
theorem tyX11_ok : ∀ k, k < 6 → parseFieldDescriptor (TX11 k).2.2.1 = some (tyX11 k) := by decide +kernel
abbrev cX11_init : ByteArray := prog_14_method_1_code
def yX11_init : MethodName := ⟨RX11, "<init>", "()V"⟩
def RX12 : String := "GownCourtModel"
def TX12 : u_T := fun k => match k with
  | 0 => ("GownCourtModel", "acts", "I", false)
  | 1 => ("GownCourtModel", "firstDay", "[I", true)
  | 2 => ("GownCourtModel", "ruleMany", "[I", true)
  | 3 => ("GownCourtModel", "seal", "[I", true)
  | 4 => ("GownCourtModel", "part", "[I", true)
  | 5 => ("GownCourtModel", "repeals", "[I", true)
  | 6 => ("GownCourtModel", "what", "[I", true)
  | 7 => ("GownCourtModel", "number", "[I", true)
  | 8 => ("GownCourtModel", "fromRank", "[I", true)
  | 9 => ("GownCourtModel", "toRank", "[I", true)
  | 10 => ("GownCourtModel", "when", "[I", true)
  | 11 => ("GownCourtModel", "fine", "[I", true)
  | 12 => ("GownCourtModel", "stop", "LGownCourtModel$Stop;", true)
  | 13 => ("GownCourtModel", "tape", "[B", true)
  | 14 => ("GownCourtModel", "taped", "I", false)
  | 15 => ("GownCourtModel", "size", "I", false)
  | 16 => ("GownCourtModel", "from", "I", false)
  | 17 => ("GownCourtModel", "behind", "I", false)
  | 18 => ("GownCourtModel", "hand", "I", false)
  | 19 => ("GownCourtModel", "value", "I", false)
  | 20 => ("GownCourtModel", "fault", "I", false)
  | 21 => ("GownCourtModel", "faultAt", "I", false)
  | 22 => ("GownCourtModel", "hasSeal", "Z", false)
  | 23 => ("GownCourtModel", "changes", "[I", true)
  | 24 => ("GownCourtModel", "changeDay", "[I", true)
  | 25 => ("GownCourtModel", "changeRank", "[I", true)
  | 26 => ("GownCourtModel", "weddings", "[I", true)
  | 27 => ("GownCourtModel", "weddingFrom", "[I", true)
  | 28 => ("GownCourtModel", "weddingTo", "[I", true)
  | 29 => ("GownCourtModel", "feastFrom", "[I", true)
  | 30 => ("GownCourtModel", "feastTo", "[I", true)
  | 31 => ("GownCourtModel", "feasts", "I", false)
  | 32 => ("GownCourtModel", "gowns", "I", false)
  | 33 => ("GownCourtModel", "likes", "I", false)
  | 34 => ("GownCourtModel", "measure", "[I", true)
  | 35 => ("GownCourtModel", "stuff", "[I", true)
  | 36 => ("GownCourtModel", "colour", "[I", true)
  | 37 => ("GownCourtModel", "sealed", "[I", true)
  | 38 => ("GownCourtModel", "likeOf", "[I", true)
  | 39 => ("GownCourtModel", "likeAs", "[I", true)
  | 40 => ("GownCourtModel", "likeDay", "[I", true)
  | 41 => ("GownCourtModel", "convicted", "[I", true)
  | 42 => ("GownCourtModel", "paid", "[I", true)
  | 43 => ("GownCourtModel", "had", "[I", true)
  | 44 => ("GownCourtModel", "price", "[I", true)
  | 45 => ("GownCourtModel", "letters", "I", false)
  | 46 => ("GownCourtModel", "chest", "I", false)
  | 47 => ("GownCourtModel", "by", "[I", true)
  | 48 => ("GownCourtModel", "accused", "[I", true)
  | 49 => ("GownCourtModel", "inGown", "[I", true)
  | 50 => ("GownCourtModel", "onDay", "[I", true)
  | 51 => ("GownCourtModel", "state", "[I", true)
  | 52 => ("GownCourtModel", "fined", "[I", true)
  | 53 => ("GownCourtModel", "shared", "[I", true)
  | 54 => ("GownCourtModel", "most", "[I", true)
  | 55 => ("GownCourtModel", "noStuffs", "I", false)
  | _ => ("GownCourtModel", "noColours", "I", false)
def tyX12 : Nat → FieldType := fun k => match k with
  | 0 => .int
  | 1 => .array .int
  | 2 => .array .int
  | 3 => .array .int
  | 4 => .array .int
  | 5 => .array .int
  | 6 => .array .int
  | 7 => .array .int
  | 8 => .array .int
  | 9 => .array .int
  | 10 => .array .int
  | 11 => .array .int
  | 12 => .object "GownCourtModel$Stop"
  | 13 => .array .byte
  | 14 => .int
  | 15 => .int
  | 16 => .int
  | 17 => .int
  | 18 => .int
  | 19 => .int
  | 20 => .int
  | 21 => .int
  | 22 => .boolean
  | 23 => .array .int
  | 24 => .array .int
  | 25 => .array .int
  | 26 => .array .int
  | 27 => .array .int
  | 28 => .array .int
  | 29 => .array .int
  | 30 => .array .int
  | 31 => .int
  | 32 => .int
  | 33 => .int
  | 34 => .array .int
  | 35 => .array .int
  | 36 => .array .int
  | 37 => .array .int
  | 38 => .array .int
  | 39 => .array .int
  | 40 => .array .int
  | 41 => .array .int
  | 42 => .array .int
  | 43 => .array .int
  | 44 => .array .int
  | 45 => .int
  | 46 => .int
  | 47 => .array .int
  | 48 => .array .int
  | 49 => .array .int
  | 50 => .array .int
  | 51 => .array .int
  | 52 => .array .int
  | 53 => .array .int
  | 54 => .array .int
  | 55 => .int
  | _ => .int
abbrev wsX120 : List Cond := u_ws RX12 TX12 57
theorem nmX12 : ∀ a, a < 57 → ∀ b, b < 57 → a ≠ b → (TX12 a).2.1 ≠ (TX12 b).2.1 := by decide +kernel
theorem tyX12_ok : ∀ k, k < 57 → parseFieldDescriptor (TX12 k).2.2.1 = some (tyX12 k) := by decide +kernel
abbrev cX12_in : ByteArray := prog_13_method_1_code
def yX12_in : MethodName := ⟨RX12, "in", "(JJJ)Z"⟩
abbrev cX12_isDay : ByteArray := prog_13_method_2_code
def yX12_isDay : MethodName := ⟨RX12, "isDay", "(I)Z"⟩
abbrev cX12_wrong : ByteArray := prog_13_method_3_code
def yX12_wrong : MethodName := ⟨RX12, "wrong", "(I)LGownCourtModel$Stop;"⟩
abbrev cX12_byteAt : ByteArray := prog_13_method_4_code
def yX12_byteAt : MethodName := ⟨RX12, "byteAt", "(I)I"⟩
abbrev cX12_isLetter : ByteArray := prog_13_method_5_code
def yX12_isLetter : MethodName := ⟨RX12, "isLetter", "(I)Z"⟩
abbrev cX12_isDigit : ByteArray := prog_13_method_6_code
def yX12_isDigit : MethodName := ⟨RX12, "isDigit", "(I)Z"⟩
abbrev cX12_scan : ByteArray := prog_13_method_7_code
def yX12_scan : MethodName := ⟨RX12, "scan", "()V"⟩
abbrev cX12_is : ByteArray := prog_13_method_8_code
def yX12_is : MethodName := ⟨RX12, "is", "(Ljava/lang/String;)Z"⟩
abbrev cX12_need : ByteArray := prog_13_method_9_code
def yX12_need : MethodName := ⟨RX12, "need", "(Ljava/lang/String;)V"⟩
abbrev cX12_number : ByteArray := prog_13_method_10_code
def yX12_number : MethodName := ⟨RX12, "number", "(II)I"⟩
abbrev cX12_kindAtHand : ByteArray := prog_13_method_11_code
def yX12_kindAtHand : MethodName := ⟨RX12, "kindAtHand", "()I"⟩
abbrev cX12_readAct : ByteArray := prog_13_method_12_code
def yX12_readAct : MethodName := ⟨RX12, "readAct", "(I)V"⟩
abbrev cX12_readOther : ByteArray := prog_13_method_13_code
def yX12_readOther : MethodName := ⟨RX12, "readOther", "(I)V"⟩
abbrev cX12_readRule : ByteArray := prog_13_method_14_code
def yX12_readRule : MethodName := ⟨RX12, "readRule", "(II)V"⟩
abbrev cX12_init : ByteArray := prog_13_method_15_code
def yX12_init : MethodName := ⟨RX12, "<init>", "()V"⟩
abbrev cX12_feed : ByteArray := prog_13_method_16_code
def yX12_feed : MethodName := ⟨RX12, "feed", "(IIIII)I"⟩
abbrev cX12_lay : ByteArray := prog_13_method_17_code
def yX12_lay : MethodName := ⟨RX12, "lay", "(I)V"⟩
abbrev cX12_end : ByteArray := prog_13_method_18_code
def yX12_end : MethodName := ⟨RX12, "end", "(I)I"⟩
abbrev cX12_act : ByteArray := prog_13_method_19_code
def yX12_act : MethodName := ⟨RX12, "act", "(I)I"⟩
abbrev cX12_fault : ByteArray := prog_13_method_20_code
def yX12_fault : MethodName := ⟨RX12, "fault", "(I)I"⟩
abbrev cX12_isAct : ByteArray := prog_13_method_21_code
def yX12_isAct : MethodName := ⟨RX12, "isAct", "(I)Z"⟩
abbrev cX12_told : ByteArray := prog_13_method_22_code
def yX12_told : MethodName := ⟨RX12, "told", "(II)I"⟩
abbrev cX12_rule : ByteArray := prog_13_method_23_code
def yX12_rule : MethodName := ⟨RX12, "rule", "(III)I"⟩
abbrev cX12_isInForce : ByteArray := prog_13_method_24_code
def yX12_isInForce : MethodName := ⟨RX12, "isInForce", "(II)Z"⟩
abbrev cX12_force : ByteArray := prog_13_method_25_code
def yX12_force : MethodName := ⟨RX12, "force", "(I)I"⟩
abbrev cX12_isPerson : ByteArray := prog_13_method_26_code
def yX12_isPerson : MethodName := ⟨RX12, "isPerson", "(I)Z"⟩
abbrev cX12_areDays : ByteArray := prog_13_method_27_code
def yX12_areDays : MethodName := ⟨RX12, "areDays", "(II)Z"⟩
abbrev cX12_rank : ByteArray := prog_13_method_28_code
def yX12_rank : MethodName := ⟨RX12, "rank", "(III)I"⟩
abbrev cX12_feast : ByteArray := prog_13_method_29_code
def yX12_feast : MethodName := ⟨RX12, "feast", "(II)I"⟩
abbrev cX12_wedding : ByteArray := prog_13_method_30_code
def yX12_wedding : MethodName := ⟨RX12, "wedding", "(III)I"⟩
abbrev cX12_rankOf : ByteArray := prog_13_method_31_code
def yX12_rankOf : MethodName := ⟨RX12, "rankOf", "(II)I"⟩
abbrev cX12_occasionOf : ByteArray := prog_13_method_32_code
def yX12_occasionOf : MethodName := ⟨RX12, "occasionOf", "(II)I"⟩
abbrev cX12_on : ByteArray := prog_13_method_33_code
def yX12_on : MethodName := ⟨RX12, "on", "(III)I"⟩
abbrev cX12_gown : ByteArray := prog_13_method_34_code
def yX12_gown : MethodName := ⟨RX12, "gown", "(IIIIIII)I"⟩
abbrev cX12_isGown : ByteArray := prog_13_method_35_code
def yX12_isGown : MethodName := ⟨RX12, "isGown", "(I)Z"⟩
abbrev cX12_seal : ByteArray := prog_13_method_36_code
def yX12_seal : MethodName := ⟨RX12, "seal", "(II)I"⟩
abbrev cX12_about : ByteArray := prog_13_method_37_code
def yX12_about : MethodName := ⟨RX12, "about", "(II)I"⟩
abbrev cX12_isStuff : ByteArray := prog_13_method_38_code
def yX12_isStuff : MethodName := ⟨RX12, "isStuff", "(I)Z"⟩
abbrev cX12_like : ByteArray := prog_13_method_39_code
def yX12_like : MethodName := ⟨RX12, "like", "(III)I"⟩
abbrev cX12_countsAs : ByteArray := prog_13_method_40_code
def yX12_countsAs : MethodName := ⟨RX12, "countsAs", "(II)I"⟩
abbrev cX12_counts : ByteArray := prog_13_method_41_code
def yX12_counts : MethodName := ⟨RX12, "counts", "(II)I"⟩
abbrev cX12_binds : ByteArray := prog_13_method_42_code
def yX12_binds : MethodName := ⟨RX12, "binds", "(IIIIII)Z"⟩
abbrev cX12_isBroken : ByteArray := prog_13_method_43_code
def yX12_isBroken : MethodName := ⟨RX12, "isBroken", "(IIII)Z"⟩
abbrev cX12_brokenOf : ByteArray := prog_13_method_44_code
def yX12_brokenOf : MethodName := ⟨RX12, "brokenOf", "(IIIII)I"⟩
abbrev cX12_isCase : ByteArray := prog_13_method_45_code
def yX12_isCase : MethodName := ⟨RX12, "isCase", "(III)Z"⟩
abbrev cX12_fineOf : ByteArray := prog_13_method_46_code
def yX12_fineOf : MethodName := ⟨RX12, "fineOf", "(III)I"⟩
abbrev cX12_fine : ByteArray := prog_13_method_47_code
def yX12_fine : MethodName := ⟨RX12, "fine", "(III)I"⟩
abbrev cX12_broken : ByteArray := prog_13_method_48_code
def yX12_broken : MethodName := ⟨RX12, "broken", "(IIII)I"⟩
abbrev cX12_letter : ByteArray := prog_13_method_49_code
def yX12_letter : MethodName := ⟨RX12, "letter", "(IIII)I"⟩
abbrev cX12_isLetterOf : ByteArray := prog_13_method_50_code
def yX12_isLetterOf : MethodName := ⟨RX12, "isLetterOf", "(I)Z"⟩
abbrev cX12_partOn : ByteArray := prog_13_method_51_code
def yX12_partOn : MethodName := ⟨RX12, "partOn", "(I)I"⟩
abbrev cX12_judge : ByteArray := prog_13_method_52_code
def yX12_judge : MethodName := ⟨RX12, "judge", "(I)I"⟩
abbrev cX12_lettered : ByteArray := prog_13_method_53_code
def yX12_lettered : MethodName := ⟨RX12, "lettered", "(II)I"⟩
abbrev cX12_person : ByteArray := prog_13_method_54_code
def yX12_person : MethodName := ⟨RX12, "person", "(II)I"⟩
abbrev cX12_price : ByteArray := prog_13_method_55_code
def yX12_price : MethodName := ⟨RX12, "price", "(II)I"⟩
abbrev cX12_gather : ByteArray := prog_13_method_56_code
def yX12_gather : MethodName := ⟨RX12, "gather", "(III)V"⟩
abbrev cX12_alterOf : ByteArray := prog_13_method_57_code
def yX12_alterOf : MethodName := ⟨RX12, "alterOf", "(III)I"⟩
abbrev cX12_alter : ByteArray := prog_13_method_58_code
def yX12_alter : MethodName := ⟨RX12, "alter", "(III)I"⟩
abbrev cX12_best : ByteArray := prog_13_method_59_code
def yX12_best : MethodName := ⟨RX12, "best", "(III)I"⟩
abbrev cX12_worn : ByteArray := prog_13_method_60_code
def yX12_worn : MethodName := ⟨RX12, "worn", "(IIIII)I"⟩
abbrev cX12_count : ByteArray := prog_13_method_61_code
def yX12_count : MethodName := ⟨RX12, "count", "(I)I"⟩
def RJx145de : String := "java/io/Serializable"
def TJx145de : u_T := fun k => match k with
  | _ => ("", "", "", false)
def tyJx145de : Nat → FieldType := fun k => match k with
  | _ => .int
abbrev wsJx145de0 : List Cond := u_ws RJx145de TJx145de 0
theorem nmJx145de : ∀ a, a < 0 → ∀ b, b < 0 → a ≠ b → (TJx145de a).2.1 ≠ (TJx145de b).2.1 := by decide +kernel
theorem tyJx145de_ok : ∀ k, k < 0 → parseFieldDescriptor (TJx145de k).2.2.1 = some (tyJx145de k) := by decide +kernel
def RJx9f9b0 : String := "java/lang/CharSequence"
def TJx9f9b0 : u_T := fun k => match k with
  | _ => ("", "", "", false)
def tyJx9f9b0 : Nat → FieldType := fun k => match k with
  | _ => .int
abbrev wsJx9f9b00 : List Cond := u_ws RJx9f9b0 TJx9f9b0 0
theorem nmJx9f9b0 : ∀ a, a < 0 → ∀ b, b < 0 → a ≠ b → (TJx9f9b0 a).2.1 ≠ (TJx9f9b0 b).2.1 := by decide +kernel
theorem tyJx9f9b0_ok : ∀ k, k < 0 → parseFieldDescriptor (TJx9f9b0 k).2.2.1 = some (tyJx9f9b0 k) := by decide +kernel
def RJxb160c : String := "java/lang/Comparable"
def TJxb160c : u_T := fun k => match k with
  | _ => ("", "", "", false)
def tyJxb160c : Nat → FieldType := fun k => match k with
  | _ => .int
abbrev wsJxb160c0 : List Cond := u_ws RJxb160c TJxb160c 0
theorem nmJxb160c : ∀ a, a < 0 → ∀ b, b < 0 → a ≠ b → (TJxb160c a).2.1 ≠ (TJxb160c b).2.1 := by decide +kernel
theorem tyJxb160c_ok : ∀ k, k < 0 → parseFieldDescriptor (TJxb160c k).2.2.1 = some (tyJxb160c k) := by decide +kernel
def RJ9 : String := "java/lang/Math"
def TJ9 : u_T := fun k => match k with
  | _ => ("", "", "", false)
def tyJ9 : Nat → FieldType := fun k => match k with
  | _ => .int
abbrev wsJ90 : List Cond := u_ws RJ9 TJ9 0
theorem nmJ9 : ∀ a, a < 0 → ∀ b, b < 0 → a ≠ b → (TJ9 a).2.1 ≠ (TJ9 b).2.1 := by decide +kernel
theorem tyJ9_ok : ∀ k, k < 0 → parseFieldDescriptor (TJ9 k).2.2.1 = some (tyJ9 k) := by decide +kernel
abbrev cJ9_max_7cf53 : ByteArray := prog_16_method_65_code
def yJ9_max_7cf53 : MethodName := ⟨RJ9, "max", "(II)I"⟩
abbrev cJ9_min_7cf53 : ByteArray := prog_16_method_69_code
def yJ9_min_7cf53 : MethodName := ⟨RJ9, "min", "(II)I"⟩
def RJ0 : String := "java/lang/String"
def TJ0 : u_T := fun k => match k with
  | _ => ("", "", "", false)
def tyJ0 : Nat → FieldType := fun k => match k with
  | _ => .int
abbrev wsJ00 : List Cond := u_ws RJ0 TJ0 0
theorem nmJ0 : ∀ a, a < 0 → ∀ b, b < 0 → a ≠ b → (TJ0 a).2.1 ≠ (TJ0 b).2.1 := by decide +kernel
theorem tyJ0_ok : ∀ k, k < 0 → parseFieldDescriptor (TJ0 k).2.2.1 = some (tyJ0 k) := by decide +kernel
abbrev cJ0_length_8abf5 : ByteArray := prog_17_method_54_code
def yJ0_length_8abf5 : MethodName := ⟨RJ0, "length", "()I"⟩
abbrev cJ0_charAt_5068e : ByteArray := prog_17_method_56_code
def yJ0_charAt_5068e : MethodName := ⟨RJ0, "charAt", "(I)C"⟩
abbrev cJ0_coder_7d493 : ByteArray := prog_17_method_152_code
def yJ0_coder_7d493 : MethodName := ⟨RJ0, "coder", "()B"⟩
abbrev cJ0_isLatin1_aae02 : ByteArray := prog_17_method_154_code
def yJ0_isLatin1_aae02 : MethodName := ⟨RJ0, "isLatin1", "()Z"⟩
abbrev cJ0_checkIndex_df160 : ByteArray := prog_17_method_155_code
def yJ0_checkIndex_df160 : MethodName := ⟨RJ0, "checkIndex", "(II)V"⟩
def RJ1 : String := "java/lang/StringLatin1"
def TJ1 : u_T := fun k => match k with
  | _ => ("", "", "", false)
def tyJ1 : Nat → FieldType := fun k => match k with
  | _ => .int
abbrev wsJ10 : List Cond := u_ws RJ1 TJ1 0
theorem nmJ1 : ∀ a, a < 0 → ∀ b, b < 0 → a ≠ b → (TJ1 a).2.1 ≠ (TJ1 b).2.1 := by decide +kernel
theorem tyJ1_ok : ∀ k, k < 0 → parseFieldDescriptor (TJ1 k).2.2.1 = some (tyJ1 k) := by decide +kernel
abbrev cJ1_charAt_3b067 : ByteArray := prog_18_method_2_code
def yJ1_charAt_3b067 : MethodName := ⟨RJ1, "charAt", "([BI)C"⟩
def RJ2 : String := "java/lang/StringUTF16"
def TJ2 : u_T := fun k => match k with
  | _ => ("", "", "", false)
def tyJ2 : Nat → FieldType := fun k => match k with
  | _ => .int
abbrev wsJ20 : List Cond := u_ws RJ2 TJ2 0
theorem nmJ2 : ∀ a, a < 0 → ∀ b, b < 0 → a ≠ b → (TJ2 a).2.1 ≠ (TJ2 b).2.1 := by decide +kernel
theorem tyJ2_ok : ∀ k, k < 0 → parseFieldDescriptor (TJ2 k).2.2.1 = some (tyJ2 k) := by decide +kernel
abbrev cJ2_getChar_3b067 : ByteArray := prog_19_method_5_code
def yJ2_getChar_3b067 : MethodName := ⟨RJ2, "getChar", "([BI)C"⟩
abbrev cJ2_length_9d52b : ByteArray := prog_19_method_6_code
def yJ2_length_9d52b : MethodName := ⟨RJ2, "length", "([B)I"⟩
abbrev cJ2_charAt_3b067 : ByteArray := prog_19_method_83_code
def yJ2_charAt_3b067 : MethodName := ⟨RJ2, "charAt", "([BI)C"⟩
abbrev cJ2_checkIndex_2214a : ByteArray := prog_19_method_91_code
def yJ2_checkIndex_2214a : MethodName := ⟨RJ2, "checkIndex", "(I[B)V"⟩
def RJxfd54e : String := "java/lang/constant/Constable"
def TJxfd54e : u_T := fun k => match k with
  | _ => ("", "", "", false)
def tyJxfd54e : Nat → FieldType := fun k => match k with
  | _ => .int
abbrev wsJxfd54e0 : List Cond := u_ws RJxfd54e TJxfd54e 0
theorem nmJxfd54e : ∀ a, a < 0 → ∀ b, b < 0 → a ≠ b → (TJxfd54e a).2.1 ≠ (TJxfd54e b).2.1 := by decide +kernel
theorem tyJxfd54e_ok : ∀ k, k < 0 → parseFieldDescriptor (TJxfd54e k).2.2.1 = some (tyJxfd54e k) := by decide +kernel
def RJx3cf43 : String := "java/lang/constant/ConstantDesc"
def TJx3cf43 : u_T := fun k => match k with
  | _ => ("", "", "", false)
def tyJx3cf43 : Nat → FieldType := fun k => match k with
  | _ => .int
abbrev wsJx3cf430 : List Cond := u_ws RJx3cf43 TJx3cf43 0
theorem nmJx3cf43 : ∀ a, a < 0 → ∀ b, b < 0 → a ≠ b → (TJx3cf43 a).2.1 ≠ (TJx3cf43 b).2.1 := by decide +kernel
theorem tyJx3cf43_ok : ∀ k, k < 0 → parseFieldDescriptor (TJx3cf43 k).2.2.1 = some (tyJx3cf43 k) := by decide +kernel
def RJ7 : String := "java/util/Arrays"
def TJ7 : u_T := fun k => match k with
  | _ => ("", "", "", false)
def tyJ7 : Nat → FieldType := fun k => match k with
  | _ => .int
abbrev wsJ70 : List Cond := u_ws RJ7 TJ7 0
theorem nmJ7 : ∀ a, a < 0 → ∀ b, b < 0 → a ≠ b → (TJ7 a).2.1 ≠ (TJ7 b).2.1 := by decide +kernel
theorem tyJ7_ok : ∀ k, k < 0 → parseFieldDescriptor (TJ7 k).2.2.1 = some (tyJ7 k) := by decide +kernel
abbrev cJ7_fill_53178 : ByteArray := prog_21_method_103_code
def yJ7_fill_53178 : MethodName := ⟨RJ7, "fill", "([II)V"⟩
def RJ3 : String := "jdk/internal/util/Preconditions"
def TJ3 : u_T := fun k => match k with
  | _ => ("", "", "", false)
def tyJ3 : Nat → FieldType := fun k => match k with
  | _ => .int
abbrev wsJ30 : List Cond := u_ws RJ3 TJ3 0
theorem nmJ3 : ∀ a, a < 0 → ∀ b, b < 0 → a ≠ b → (TJ3 a).2.1 ≠ (TJ3 b).2.1 := by decide +kernel
theorem tyJ3_ok : ∀ k, k < 0 → parseFieldDescriptor (TJ3 k).2.2.1 = some (tyJ3 k) := by decide +kernel
abbrev cJ3_checkIndex_8e157 : ByteArray := prog_22_method_11_code
def yJ3_checkIndex_8e157 : MethodName := ⟨RJ3, "checkIndex", "(IILjava/util/function/BiFunction;)I"⟩
def RL : String := "GownCourtLaw"
abbrev cL_law : ByteArray := code
def yL_law : MethodName := ⟨RL, "law", "([I)Z"⟩
abbrev vwCl : List vw_C := [(RX0, TX0, 6), (RX1, TX1, 3), (RX2, TX2, 2), (RX3, TX3, 4), (RX4, TX4, 7), (RX5, TX5, 15), (RX6, TX6, 4), (RX7, TX7, 6), (RX8, TX8, 2), (RX9, TX9, 5), (RX10, TX10, 18), (RX11, TX11, 6), (RX12, TX12, 57)]
end
section
theorem dX0_init_0 : decode cX0_init 0 = .ok (.aload_n 0, 1) := by decide +kernel
theorem dX0_init_1 : decode cX0_init 1 = .ok (.invokespecial 3, 3) := by decide +kernel
theorem dX0_init_4 : decode cX0_init 4 = .ok (.aload_n 0, 1) := by decide +kernel
theorem dX0_init_5 : decode cX0_init 5 = .ok (.iconst 0, 1) := by decide +kernel
theorem dX0_init_6 : decode cX0_init 6 = .ok (.putfield 9, 3) := by decide +kernel
theorem dX0_init_9 : decode cX0_init 9 = .ok (.aload_n 0, 1) := by decide +kernel
theorem dX0_init_10 : decode cX0_init 10 = .ok (.bipush 12, 2) := by decide +kernel
theorem dX0_init_12 : decode cX0_init 12 = .ok (.anewarray 15, 3) := by decide +kernel
theorem dX0_init_15 : decode cX0_init 15 = .ok (.putfield 17, 3) := by decide +kernel
theorem dX0_init_18 : decode cX0_init 18 = .ok (.aload_n 0, 1) := by decide +kernel
theorem dX0_init_19 : decode cX0_init 19 = .ok (.iconst 0, 1) := by decide +kernel
theorem dX0_init_20 : decode cX0_init 20 = .ok (.putfield 21, 3) := by decide +kernel
theorem dX0_init_23 : decode cX0_init 23 = .ok (.aload_n 0, 1) := by decide +kernel
theorem dX0_init_24 : decode cX0_init 24 = .ok (.iconst (-1), 1) := by decide +kernel
theorem dX0_init_25 : decode cX0_init 25 = .ok (.putfield 24, 3) := by decide +kernel
theorem dX0_init_28 : decode cX0_init 28 = .ok (.aload_n 0, 1) := by decide +kernel
theorem dX0_init_29 : decode cX0_init 29 = .ok (.iconst (-1), 1) := by decide +kernel
theorem dX0_init_30 : decode cX0_init 30 = .ok (.putfield 27, 3) := by decide +kernel
theorem dX0_init_33 : decode cX0_init 33 = .ok (.aload_n 0, 1) := by decide +kernel
theorem dX0_init_34 : decode cX0_init 34 = .ok (.iconst 0, 1) := by decide +kernel
theorem dX0_init_35 : decode cX0_init 35 = .ok (.putfield 30, 3) := by decide +kernel
theorem dX0_init_38 : decode cX0_init 38 = .ok (.return_, 1) := by decide +kernel
theorem dX0_wipe_0 : decode cX0_wipe 0 = .ok (.aload_n 0, 1) := by decide +kernel
theorem dX0_wipe_1 : decode cX0_wipe 1 = .ok (.iconst 0, 1) := by decide +kernel
theorem dX0_wipe_2 : decode cX0_wipe 2 = .ok (.putfield 21, 3) := by decide +kernel
theorem dX0_wipe_5 : decode cX0_wipe 5 = .ok (.aload_n 0, 1) := by decide +kernel
theorem dX0_wipe_6 : decode cX0_wipe 6 = .ok (.iconst (-1), 1) := by decide +kernel
theorem dX0_wipe_7 : decode cX0_wipe 7 = .ok (.putfield 24, 3) := by decide +kernel
theorem dX0_wipe_10 : decode cX0_wipe 10 = .ok (.aload_n 0, 1) := by decide +kernel
theorem dX0_wipe_11 : decode cX0_wipe 11 = .ok (.iconst (-1), 1) := by decide +kernel
theorem dX0_wipe_12 : decode cX0_wipe 12 = .ok (.putfield 27, 3) := by decide +kernel
theorem dX0_wipe_15 : decode cX0_wipe 15 = .ok (.aload_n 0, 1) := by decide +kernel
theorem dX0_wipe_16 : decode cX0_wipe 16 = .ok (.iconst 0, 1) := by decide +kernel
theorem dX0_wipe_17 : decode cX0_wipe 17 = .ok (.putfield 30, 3) := by decide +kernel
theorem dX0_wipe_20 : decode cX0_wipe 20 = .ok (.return_, 1) := by decide +kernel
theorem dX0_add_0 : decode cX0_add 0 = .ok (.aload_n 0, 1) := by decide +kernel
theorem dX0_add_1 : decode cX0_add 1 = .ok (.getfield 21, 3) := by decide +kernel
theorem dX0_add_4 : decode cX0_add 4 = .ok (.aload_n 0, 1) := by decide +kernel
theorem dX0_add_5 : decode cX0_add 5 = .ok (.getfield 17, 3) := by decide +kernel
theorem dX0_add_8 : decode cX0_add 8 = .ok (.arraylength, 1) := by decide +kernel
theorem dX0_add_9 : decode cX0_add 9 = .ok (.if_icmp .ge 23, 3) := by decide +kernel
theorem dX0_add_12 : decode cX0_add 12 = .ok (.aload_n 0, 1) := by decide +kernel
theorem dX0_add_13 : decode cX0_add 13 = .ok (.getfield 17, 3) := by decide +kernel
theorem dX0_add_16 : decode cX0_add 16 = .ok (.aload_n 0, 1) := by decide +kernel
theorem dX0_add_17 : decode cX0_add 17 = .ok (.getfield 21, 3) := by decide +kernel
theorem dX0_add_20 : decode cX0_add 20 = .ok (.aload_n 1, 1) := by decide +kernel
theorem dX0_add_21 : decode cX0_add 21 = .ok (.aastore, 1) := by decide +kernel
theorem dX0_add_22 : decode cX0_add 22 = .ok (.aload_n 0, 1) := by decide +kernel
theorem dX0_add_23 : decode cX0_add 23 = .ok (.dup, 1) := by decide +kernel
theorem dX0_add_24 : decode cX0_add 24 = .ok (.getfield 21, 3) := by decide +kernel
theorem dX0_add_27 : decode cX0_add 27 = .ok (.iconst 1, 1) := by decide +kernel
theorem dX0_add_28 : decode cX0_add 28 = .ok (.iadd, 1) := by decide +kernel
theorem dX0_add_29 : decode cX0_add 29 = .ok (.putfield 21, 3) := by decide +kernel
theorem dX0_add_32 : decode cX0_add 32 = .ok (.return_, 1) := by decide +kernel
theorem dX0_findRule_0 : decode cX0_findRule 0 = .ok (.iload_n 1, 1) := by decide +kernel
theorem dX0_findRule_1 : decode cX0_findRule 1 = .ok (.ifCond .lt 29, 3) := by decide +kernel
theorem dX0_findRule_4 : decode cX0_findRule 4 = .ok (.iload_n 1, 1) := by decide +kernel
theorem dX0_findRule_5 : decode cX0_findRule 5 = .ok (.aload_n 0, 1) := by decide +kernel
theorem dX0_findRule_6 : decode cX0_findRule 6 = .ok (.getfield 21, 3) := by decide +kernel
theorem dX0_findRule_9 : decode cX0_findRule 9 = .ok (.if_icmp .ge 21, 3) := by decide +kernel
theorem dX0_findRule_12 : decode cX0_findRule 12 = .ok (.iload_n 1, 1) := by decide +kernel
theorem dX0_findRule_13 : decode cX0_findRule 13 = .ok (.aload_n 0, 1) := by decide +kernel
theorem dX0_findRule_14 : decode cX0_findRule 14 = .ok (.getfield 17, 3) := by decide +kernel
theorem dX0_findRule_17 : decode cX0_findRule 17 = .ok (.arraylength, 1) := by decide +kernel
theorem dX0_findRule_18 : decode cX0_findRule 18 = .ok (.if_icmp .ge 12, 3) := by decide +kernel
theorem dX0_findRule_21 : decode cX0_findRule 21 = .ok (.aload_n 0, 1) := by decide +kernel
theorem dX0_findRule_22 : decode cX0_findRule 22 = .ok (.getfield 17, 3) := by decide +kernel
theorem dX0_findRule_25 : decode cX0_findRule 25 = .ok (.iload_n 1, 1) := by decide +kernel
theorem dX0_findRule_26 : decode cX0_findRule 26 = .ok (.aaload, 1) := by decide +kernel
theorem dX0_findRule_27 : decode cX0_findRule 27 = .ok (.goto 4, 3) := by decide +kernel
theorem dX0_findRule_30 : decode cX0_findRule 30 = .ok (.aconst_null, 1) := by decide +kernel
theorem dX0_findRule_31 : decode cX0_findRule 31 = .ok (.areturn, 1) := by decide +kernel
theorem dX0_sealDays_0 : decode cX0_sealDays 0 = .ok (.iconst 0, 1) := by decide +kernel
theorem dX0_sealDays_1 : decode cX0_sealDays 1 = .ok (.aload_n 0, 1) := by decide +kernel
theorem dX0_sealDays_2 : decode cX0_sealDays 2 = .ok (.getfield 24, 3) := by decide +kernel
theorem dX0_sealDays_5 : decode cX0_sealDays 5 = .ok (.invokestatic 33, 3) := by decide +kernel
theorem dX0_sealDays_8 : decode cX0_sealDays 8 = .ok (.ireturn, 1) := by decide +kernel
theorem dX0_lets_0 : decode cX0_lets 0 = .ok (.aload_n 1, 1) := by decide +kernel
theorem dX0_lets_1 : decode cX0_lets 1 = .ok (.getfield 39, 3) := by decide +kernel
theorem dX0_lets_4 : decode cX0_lets 4 = .ok (.getfield 45, 3) := by decide +kernel
theorem dX0_lets_7 : decode cX0_lets 7 = .ok (.istore_n 2, 1) := by decide +kernel
theorem dX0_lets_8 : decode cX0_lets 8 = .ok (.iload_n 2, 1) := by decide +kernel
theorem dX0_lets_9 : decode cX0_lets 9 = .ok (.iconst (-1), 1) := by decide +kernel
theorem dX0_lets_10 : decode cX0_lets 10 = .ok (.if_icmp .eq 31, 3) := by decide +kernel
theorem dX0_lets_13 : decode cX0_lets 13 = .ok (.iload_n 2, 1) := by decide +kernel
theorem dX0_lets_14 : decode cX0_lets 14 = .ok (.aload_n 0, 1) := by decide +kernel
theorem dX0_lets_15 : decode cX0_lets 15 = .ok (.getfield 9, 3) := by decide +kernel
theorem dX0_lets_18 : decode cX0_lets 18 = .ok (.if_icmp .ge 23, 3) := by decide +kernel
theorem dX0_lets_21 : decode cX0_lets 21 = .ok (.aload_n 1, 1) := by decide +kernel
theorem dX0_lets_22 : decode cX0_lets 22 = .ok (.getfield 50, 3) := by decide +kernel
theorem dX0_lets_25 : decode cX0_lets 25 = .ok (.aload_n 0, 1) := by decide +kernel
theorem dX0_lets_26 : decode cX0_lets 26 = .ok (.getfield 9, 3) := by decide +kernel
theorem dX0_lets_29 : decode cX0_lets 29 = .ok (.aload_n 0, 1) := by decide +kernel
theorem dX0_lets_30 : decode cX0_lets 30 = .ok (.invokevirtual 53, 3) := by decide +kernel
theorem dX0_lets_33 : decode cX0_lets 33 = .ok (.iadd, 1) := by decide +kernel
theorem dX0_lets_34 : decode cX0_lets 34 = .ok (.if_icmp .ge 7, 3) := by decide +kernel
theorem dX0_lets_37 : decode cX0_lets 37 = .ok (.iconst 1, 1) := by decide +kernel
theorem dX0_lets_38 : decode cX0_lets 38 = .ok (.goto 4, 3) := by decide +kernel
theorem dX0_lets_41 : decode cX0_lets 41 = .ok (.iconst 0, 1) := by decide +kernel
theorem dX0_lets_42 : decode cX0_lets 42 = .ok (.ireturn, 1) := by decide +kernel
theorem dX0_brokenBits_0 : decode cX0_brokenBits 0 = .ok (.iconst 0, 1) := by decide +kernel
theorem dX0_brokenBits_1 : decode cX0_brokenBits 1 = .ok (.istore_n 2, 1) := by decide +kernel
theorem dX0_brokenBits_2 : decode cX0_brokenBits 2 = .ok (.iconst 0, 1) := by decide +kernel
theorem dX0_brokenBits_3 : decode cX0_brokenBits 3 = .ok (.istore_n 3, 1) := by decide +kernel
theorem dX0_brokenBits_4 : decode cX0_brokenBits 4 = .ok (.iload_n 3, 1) := by decide +kernel
theorem dX0_brokenBits_5 : decode cX0_brokenBits 5 = .ok (.aload_n 0, 1) := by decide +kernel
theorem dX0_brokenBits_6 : decode cX0_brokenBits 6 = .ok (.getfield 21, 3) := by decide +kernel
theorem dX0_brokenBits_9 : decode cX0_brokenBits 9 = .ok (.if_icmp .ge 45, 3) := by decide +kernel
theorem dX0_brokenBits_12 : decode cX0_brokenBits 12 = .ok (.aload_n 0, 1) := by decide +kernel
theorem dX0_brokenBits_13 : decode cX0_brokenBits 13 = .ok (.iload_n 3, 1) := by decide +kernel
theorem dX0_brokenBits_14 : decode cX0_brokenBits 14 = .ok (.invokevirtual 57, 3) := by decide +kernel
theorem dX0_brokenBits_17 : decode cX0_brokenBits 17 = .ok (.astore 4, 2) := by decide +kernel
theorem dX0_brokenBits_19 : decode cX0_brokenBits 19 = .ok (.aload 4, 2) := by decide +kernel
theorem dX0_brokenBits_21 : decode cX0_brokenBits 21 = .ok (.ifnull 27, 3) := by decide +kernel
theorem dX0_brokenBits_24 : decode cX0_brokenBits 24 = .ok (.aload 4, 2) := by decide +kernel
theorem dX0_brokenBits_26 : decode cX0_brokenBits 26 = .ok (.aload_n 1, 1) := by decide +kernel
theorem dX0_brokenBits_27 : decode cX0_brokenBits 27 = .ok (.invokevirtual 61, 3) := by decide +kernel
theorem dX0_brokenBits_30 : decode cX0_brokenBits 30 = .ok (.ifCond .eq 18, 3) := by decide +kernel
theorem dX0_brokenBits_33 : decode cX0_brokenBits 33 = .ok (.aload 4, 2) := by decide +kernel
theorem dX0_brokenBits_35 : decode cX0_brokenBits 35 = .ok (.aload_n 1, 1) := by decide +kernel
theorem dX0_brokenBits_36 : decode cX0_brokenBits 36 = .ok (.invokevirtual 65, 3) := by decide +kernel
theorem dX0_brokenBits_39 : decode cX0_brokenBits 39 = .ok (.ifCond .eq 9, 3) := by decide +kernel
theorem dX0_brokenBits_42 : decode cX0_brokenBits 42 = .ok (.iload_n 2, 1) := by decide +kernel
theorem dX0_brokenBits_43 : decode cX0_brokenBits 43 = .ok (.iconst 1, 1) := by decide +kernel
theorem dX0_brokenBits_44 : decode cX0_brokenBits 44 = .ok (.iload_n 3, 1) := by decide +kernel
theorem dX0_brokenBits_45 : decode cX0_brokenBits 45 = .ok (.ishl, 1) := by decide +kernel
theorem dX0_brokenBits_46 : decode cX0_brokenBits 46 = .ok (.ior, 1) := by decide +kernel
theorem dX0_brokenBits_47 : decode cX0_brokenBits 47 = .ok (.istore_n 2, 1) := by decide +kernel
theorem dX0_brokenBits_48 : decode cX0_brokenBits 48 = .ok (.iinc 3 1, 3) := by decide +kernel
theorem dX0_brokenBits_51 : decode cX0_brokenBits 51 = .ok (.goto (-47), 3) := by decide +kernel
theorem dX0_brokenBits_54 : decode cX0_brokenBits 54 = .ok (.iload_n 2, 1) := by decide +kernel
theorem dX0_brokenBits_55 : decode cX0_brokenBits 55 = .ok (.ireturn, 1) := by decide +kernel
theorem dX0_penceOf_0 : decode cX0_penceOf 0 = .ok (.iconst 0, 1) := by decide +kernel
theorem dX0_penceOf_1 : decode cX0_penceOf 1 = .ok (.istore_n 2, 1) := by decide +kernel
theorem dX0_penceOf_2 : decode cX0_penceOf 2 = .ok (.iconst 0, 1) := by decide +kernel
theorem dX0_penceOf_3 : decode cX0_penceOf 3 = .ok (.istore_n 3, 1) := by decide +kernel
theorem dX0_penceOf_4 : decode cX0_penceOf 4 = .ok (.iload_n 3, 1) := by decide +kernel
theorem dX0_penceOf_5 : decode cX0_penceOf 5 = .ok (.aload_n 0, 1) := by decide +kernel
theorem dX0_penceOf_6 : decode cX0_penceOf 6 = .ok (.getfield 21, 3) := by decide +kernel
theorem dX0_penceOf_9 : decode cX0_penceOf 9 = .ok (.if_icmp .ge 38, 3) := by decide +kernel
theorem dX0_penceOf_12 : decode cX0_penceOf 12 = .ok (.aload_n 0, 1) := by decide +kernel
theorem dX0_penceOf_13 : decode cX0_penceOf 13 = .ok (.iload_n 3, 1) := by decide +kernel
theorem dX0_penceOf_14 : decode cX0_penceOf 14 = .ok (.invokevirtual 57, 3) := by decide +kernel
theorem dX0_penceOf_17 : decode cX0_penceOf 17 = .ok (.astore 4, 2) := by decide +kernel
theorem dX0_penceOf_19 : decode cX0_penceOf 19 = .ok (.aload 4, 2) := by decide +kernel
theorem dX0_penceOf_21 : decode cX0_penceOf 21 = .ok (.ifnull 20, 3) := by decide +kernel
theorem dX0_penceOf_24 : decode cX0_penceOf 24 = .ok (.iload_n 1, 1) := by decide +kernel
theorem dX0_penceOf_25 : decode cX0_penceOf 25 = .ok (.iload_n 3, 1) := by decide +kernel
theorem dX0_penceOf_26 : decode cX0_penceOf 26 = .ok (.iushr, 1) := by decide +kernel
theorem dX0_penceOf_27 : decode cX0_penceOf 27 = .ok (.iconst 1, 1) := by decide +kernel
theorem dX0_penceOf_28 : decode cX0_penceOf 28 = .ok (.iand, 1) := by decide +kernel
theorem dX0_penceOf_29 : decode cX0_penceOf 29 = .ok (.iconst 1, 1) := by decide +kernel
theorem dX0_penceOf_30 : decode cX0_penceOf 30 = .ok (.if_icmp .ne 11, 3) := by decide +kernel
theorem dX0_penceOf_33 : decode cX0_penceOf 33 = .ok (.iload_n 2, 1) := by decide +kernel
theorem dX0_penceOf_34 : decode cX0_penceOf 34 = .ok (.aload 4, 2) := by decide +kernel
theorem dX0_penceOf_36 : decode cX0_penceOf 36 = .ok (.getfield 68, 3) := by decide +kernel
theorem dX0_penceOf_39 : decode cX0_penceOf 39 = .ok (.iadd, 1) := by decide +kernel
theorem dX0_penceOf_40 : decode cX0_penceOf 40 = .ok (.istore_n 2, 1) := by decide +kernel
theorem dX0_penceOf_41 : decode cX0_penceOf 41 = .ok (.iinc 3 1, 3) := by decide +kernel
theorem dX0_penceOf_44 : decode cX0_penceOf 44 = .ok (.goto (-40), 3) := by decide +kernel
theorem dX0_penceOf_47 : decode cX0_penceOf 47 = .ok (.iload_n 2, 1) := by decide +kernel
theorem dX0_penceOf_48 : decode cX0_penceOf 48 = .ok (.ireturn, 1) := by decide +kernel
theorem dX0_narrow_0 : decode cX0_narrow 0 = .ok (.iconst 0, 1) := by decide +kernel
theorem dX0_narrow_1 : decode cX0_narrow 1 = .ok (.istore_n 3, 1) := by decide +kernel
theorem dX0_narrow_2 : decode cX0_narrow 2 = .ok (.iload_n 3, 1) := by decide +kernel
theorem dX0_narrow_3 : decode cX0_narrow 3 = .ok (.aload_n 0, 1) := by decide +kernel
theorem dX0_narrow_4 : decode cX0_narrow 4 = .ok (.getfield 21, 3) := by decide +kernel
theorem dX0_narrow_7 : decode cX0_narrow 7 = .ok (.if_icmp .ge 36, 3) := by decide +kernel
theorem dX0_narrow_10 : decode cX0_narrow 10 = .ok (.aload_n 0, 1) := by decide +kernel
theorem dX0_narrow_11 : decode cX0_narrow 11 = .ok (.iload_n 3, 1) := by decide +kernel
theorem dX0_narrow_12 : decode cX0_narrow 12 = .ok (.invokevirtual 57, 3) := by decide +kernel
theorem dX0_narrow_15 : decode cX0_narrow 15 = .ok (.astore 4, 2) := by decide +kernel
theorem dX0_narrow_17 : decode cX0_narrow 17 = .ok (.aload 4, 2) := by decide +kernel
theorem dX0_narrow_19 : decode cX0_narrow 19 = .ok (.ifnull 18, 3) := by decide +kernel
theorem dX0_narrow_22 : decode cX0_narrow 22 = .ok (.aload 4, 2) := by decide +kernel
theorem dX0_narrow_24 : decode cX0_narrow 24 = .ok (.aload_n 2, 1) := by decide +kernel
theorem dX0_narrow_25 : decode cX0_narrow 25 = .ok (.invokevirtual 61, 3) := by decide +kernel
theorem dX0_narrow_28 : decode cX0_narrow 28 = .ok (.ifCond .eq 9, 3) := by decide +kernel
theorem dX0_narrow_31 : decode cX0_narrow 31 = .ok (.aload_n 1, 1) := by decide +kernel
theorem dX0_narrow_32 : decode cX0_narrow 32 = .ok (.aload 4, 2) := by decide +kernel
theorem dX0_narrow_34 : decode cX0_narrow 34 = .ok (.invokevirtual 71, 3) := by decide +kernel
theorem dX0_narrow_37 : decode cX0_narrow 37 = .ok (.iinc 3 1, 3) := by decide +kernel
theorem dX0_narrow_40 : decode cX0_narrow 40 = .ok (.goto (-38), 3) := by decide +kernel
theorem dX0_narrow_43 : decode cX0_narrow 43 = .ok (.return_, 1) := by decide +kernel
theorem dX1_init_0 : decode cX1_init 0 = .ok (.aload_n 0, 1) := by decide +kernel
theorem dX1_init_1 : decode cX1_init 1 = .ok (.invokespecial 3, 3) := by decide +kernel
theorem dX1_init_4 : decode cX1_init 4 = .ok (.aload_n 0, 1) := by decide +kernel
theorem dX1_init_5 : decode cX1_init 5 = .ok (.iconst 5, 1) := by decide +kernel
theorem dX1_init_6 : decode cX1_init 6 = .ok (.newarray .int, 2) := by decide +kernel
theorem dX1_init_8 : decode cX1_init 8 = .ok (.putfield 9, 3) := by decide +kernel
theorem dX1_init_11 : decode cX1_init 11 = .ok (.aload_n 0, 1) := by decide +kernel
theorem dX1_init_12 : decode cX1_init 12 = .ok (.iconst 0, 1) := by decide +kernel
theorem dX1_init_13 : decode cX1_init 13 = .ok (.putfield 15, 3) := by decide +kernel
theorem dX1_init_16 : decode cX1_init 16 = .ok (.aload_n 0, 1) := by decide +kernel
theorem dX1_init_17 : decode cX1_init 17 = .ok (.iconst 0, 1) := by decide +kernel
theorem dX1_init_18 : decode cX1_init 18 = .ok (.putfield 19, 3) := by decide +kernel
theorem dX1_init_21 : decode cX1_init 21 = .ok (.return_, 1) := by decide +kernel
theorem dX1_open_0 : decode cX1_open 0 = .ok (.aload_n 0, 1) := by decide +kernel
theorem dX1_open_1 : decode cX1_open 1 = .ok (.getfield 9, 3) := by decide +kernel
theorem dX1_open_4 : decode cX1_open 4 = .ok (.sipush 9999, 3) := by decide +kernel
theorem dX1_open_7 : decode cX1_open 7 = .ok (.invokestatic 22, 3) := by decide +kernel
theorem dX1_open_10 : decode cX1_open 10 = .ok (.aload_n 0, 1) := by decide +kernel
theorem dX1_open_11 : decode cX1_open 11 = .ok (.iconst 0, 1) := by decide +kernel
theorem dX1_open_12 : decode cX1_open 12 = .ok (.putfield 15, 3) := by decide +kernel
theorem dX1_open_15 : decode cX1_open 15 = .ok (.aload_n 0, 1) := by decide +kernel
theorem dX1_open_16 : decode cX1_open 16 = .ok (.iconst 0, 1) := by decide +kernel
theorem dX1_open_17 : decode cX1_open 17 = .ok (.putfield 19, 3) := by decide +kernel
theorem dX1_open_20 : decode cX1_open 20 = .ok (.return_, 1) := by decide +kernel
theorem dX1_narrow_0 : decode cX1_narrow 0 = .ok (.aload_n 1, 1) := by decide +kernel
theorem dX1_narrow_1 : decode cX1_narrow 1 = .ok (.getfield 28, 3) := by decide +kernel
theorem dX1_narrow_4 : decode cX1_narrow 4 = .ok (.tableswitch 84 5 7 #[28, 46, 64], 28) := by decide +kernel
theorem dX1_narrow_32 : decode cX1_narrow 32 = .ok (.aload_n 0, 1) := by decide +kernel
theorem dX1_narrow_33 : decode cX1_narrow 33 = .ok (.dup, 1) := by decide +kernel
theorem dX1_narrow_34 : decode cX1_narrow 34 = .ok (.getfield 15, 3) := by decide +kernel
theorem dX1_narrow_37 : decode cX1_narrow 37 = .ok (.iconst 1, 1) := by decide +kernel
theorem dX1_narrow_38 : decode cX1_narrow 38 = .ok (.aload_n 1, 1) := by decide +kernel
theorem dX1_narrow_39 : decode cX1_narrow 39 = .ok (.getfield 33, 3) := by decide +kernel
theorem dX1_narrow_42 : decode cX1_narrow 42 = .ok (.ishl, 1) := by decide +kernel
theorem dX1_narrow_43 : decode cX1_narrow 43 = .ok (.ior, 1) := by decide +kernel
theorem dX1_narrow_44 : decode cX1_narrow 44 = .ok (.putfield 15, 3) := by decide +kernel
theorem dX1_narrow_47 : decode cX1_narrow 47 = .ok (.goto 53, 3) := by decide +kernel
theorem dX1_narrow_50 : decode cX1_narrow 50 = .ok (.aload_n 0, 1) := by decide +kernel
theorem dX1_narrow_51 : decode cX1_narrow 51 = .ok (.dup, 1) := by decide +kernel
theorem dX1_narrow_52 : decode cX1_narrow 52 = .ok (.getfield 19, 3) := by decide +kernel
theorem dX1_narrow_55 : decode cX1_narrow 55 = .ok (.iconst 1, 1) := by decide +kernel
theorem dX1_narrow_56 : decode cX1_narrow 56 = .ok (.aload_n 1, 1) := by decide +kernel
theorem dX1_narrow_57 : decode cX1_narrow 57 = .ok (.getfield 33, 3) := by decide +kernel
theorem dX1_narrow_60 : decode cX1_narrow 60 = .ok (.ishl, 1) := by decide +kernel
theorem dX1_narrow_61 : decode cX1_narrow 61 = .ok (.ior, 1) := by decide +kernel
theorem dX1_narrow_62 : decode cX1_narrow 62 = .ok (.putfield 19, 3) := by decide +kernel
theorem dX1_narrow_65 : decode cX1_narrow 65 = .ok (.goto 35, 3) := by decide +kernel
theorem dX1_narrow_68 : decode cX1_narrow 68 = .ok (.aload_n 0, 1) := by decide +kernel
theorem dX1_narrow_69 : decode cX1_narrow 69 = .ok (.dup, 1) := by decide +kernel
theorem dX1_narrow_70 : decode cX1_narrow 70 = .ok (.getfield 19, 3) := by decide +kernel
theorem dX1_narrow_73 : decode cX1_narrow 73 = .ok (.iconst 1, 1) := by decide +kernel
theorem dX1_narrow_74 : decode cX1_narrow 74 = .ok (.aload_n 1, 1) := by decide +kernel
theorem dX1_narrow_75 : decode cX1_narrow 75 = .ok (.getfield 33, 3) := by decide +kernel
theorem dX1_narrow_78 : decode cX1_narrow 78 = .ok (.ishl, 1) := by decide +kernel
theorem dX1_narrow_79 : decode cX1_narrow 79 = .ok (.iconst (-1), 1) := by decide +kernel
theorem dX1_narrow_80 : decode cX1_narrow 80 = .ok (.ixor, 1) := by decide +kernel
theorem dX1_narrow_81 : decode cX1_narrow 81 = .ok (.ior, 1) := by decide +kernel
theorem dX1_narrow_82 : decode cX1_narrow 82 = .ok (.putfield 19, 3) := by decide +kernel
theorem dX1_narrow_85 : decode cX1_narrow 85 = .ok (.goto 15, 3) := by decide +kernel
theorem dX1_narrow_88 : decode cX1_narrow 88 = .ok (.aload_n 0, 1) := by decide +kernel
theorem dX1_narrow_89 : decode cX1_narrow 89 = .ok (.aload_n 1, 1) := by decide +kernel
theorem dX1_narrow_90 : decode cX1_narrow 90 = .ok (.getfield 28, 3) := by decide +kernel
theorem dX1_narrow_93 : decode cX1_narrow 93 = .ok (.aload_n 1, 1) := by decide +kernel
theorem dX1_narrow_94 : decode cX1_narrow 94 = .ok (.getfield 33, 3) := by decide +kernel
theorem dX1_narrow_97 : decode cX1_narrow 97 = .ok (.invokevirtual 36, 3) := by decide +kernel
theorem dX1_narrow_100 : decode cX1_narrow 100 = .ok (.return_, 1) := by decide +kernel
theorem dX1_lower_0 : decode cX1_lower 0 = .ok (.iload_n 1, 1) := by decide +kernel
theorem dX1_lower_1 : decode cX1_lower 1 = .ok (.ifCond .lt 28, 3) := by decide +kernel
theorem dX1_lower_4 : decode cX1_lower 4 = .ok (.iload_n 1, 1) := by decide +kernel
theorem dX1_lower_5 : decode cX1_lower 5 = .ok (.aload_n 0, 1) := by decide +kernel
theorem dX1_lower_6 : decode cX1_lower 6 = .ok (.getfield 9, 3) := by decide +kernel
theorem dX1_lower_9 : decode cX1_lower 9 = .ok (.arraylength, 1) := by decide +kernel
theorem dX1_lower_10 : decode cX1_lower 10 = .ok (.if_icmp .ge 19, 3) := by decide +kernel
theorem dX1_lower_13 : decode cX1_lower 13 = .ok (.aload_n 0, 1) := by decide +kernel
theorem dX1_lower_14 : decode cX1_lower 14 = .ok (.getfield 9, 3) := by decide +kernel
theorem dX1_lower_17 : decode cX1_lower 17 = .ok (.iload_n 1, 1) := by decide +kernel
theorem dX1_lower_18 : decode cX1_lower 18 = .ok (.aload_n 0, 1) := by decide +kernel
theorem dX1_lower_19 : decode cX1_lower 19 = .ok (.getfield 9, 3) := by decide +kernel
theorem dX1_lower_22 : decode cX1_lower 22 = .ok (.iload_n 1, 1) := by decide +kernel
theorem dX1_lower_23 : decode cX1_lower 23 = .ok (.iaload, 1) := by decide +kernel
theorem dX1_lower_24 : decode cX1_lower 24 = .ok (.iload_n 2, 1) := by decide +kernel
theorem dX1_lower_25 : decode cX1_lower 25 = .ok (.invokestatic 40, 3) := by decide +kernel
theorem dX1_lower_28 : decode cX1_lower 28 = .ok (.iastore, 1) := by decide +kernel
theorem dX1_lower_29 : decode cX1_lower 29 = .ok (.return_, 1) := by decide +kernel
theorem dX1_limitOf_0 : decode cX1_limitOf 0 = .ok (.iload_n 1, 1) := by decide +kernel
theorem dX1_limitOf_1 : decode cX1_limitOf 1 = .ok (.ifCond .lt 21, 3) := by decide +kernel
theorem dX1_limitOf_4 : decode cX1_limitOf 4 = .ok (.iload_n 1, 1) := by decide +kernel
theorem dX1_limitOf_5 : decode cX1_limitOf 5 = .ok (.aload_n 0, 1) := by decide +kernel
theorem dX1_limitOf_6 : decode cX1_limitOf 6 = .ok (.getfield 9, 3) := by decide +kernel
theorem dX1_limitOf_9 : decode cX1_limitOf 9 = .ok (.arraylength, 1) := by decide +kernel
theorem dX1_limitOf_10 : decode cX1_limitOf 10 = .ok (.if_icmp .ge 12, 3) := by decide +kernel
theorem dX1_limitOf_13 : decode cX1_limitOf 13 = .ok (.aload_n 0, 1) := by decide +kernel
theorem dX1_limitOf_14 : decode cX1_limitOf 14 = .ok (.getfield 9, 3) := by decide +kernel
theorem dX1_limitOf_17 : decode cX1_limitOf 17 = .ok (.iload_n 1, 1) := by decide +kernel
theorem dX1_limitOf_18 : decode cX1_limitOf 18 = .ok (.iaload, 1) := by decide +kernel
theorem dX1_limitOf_19 : decode cX1_limitOf 19 = .ok (.goto 6, 3) := by decide +kernel
theorem dX1_limitOf_22 : decode cX1_limitOf 22 = .ok (.sipush 9999, 3) := by decide +kernel
theorem dX1_limitOf_25 : decode cX1_limitOf 25 = .ok (.ireturn, 1) := by decide +kernel
theorem dX1_leavesStuff_0 : decode cX1_leavesStuff 0 = .ok (.aload_n 0, 1) := by decide +kernel
theorem dX1_leavesStuff_1 : decode cX1_leavesStuff 1 = .ok (.getfield 15, 3) := by decide +kernel
theorem dX1_leavesStuff_4 : decode cX1_leavesStuff 4 = .ok (.iload_n 1, 1) := by decide +kernel
theorem dX1_leavesStuff_5 : decode cX1_leavesStuff 5 = .ok (.iushr, 1) := by decide +kernel
theorem dX1_leavesStuff_6 : decode cX1_leavesStuff 6 = .ok (.iconst 1, 1) := by decide +kernel
theorem dX1_leavesStuff_7 : decode cX1_leavesStuff 7 = .ok (.iand, 1) := by decide +kernel
theorem dX1_leavesStuff_8 : decode cX1_leavesStuff 8 = .ok (.ifCond .ne 7, 3) := by decide +kernel
theorem dX1_leavesStuff_11 : decode cX1_leavesStuff 11 = .ok (.iconst 1, 1) := by decide +kernel
theorem dX1_leavesStuff_12 : decode cX1_leavesStuff 12 = .ok (.goto 4, 3) := by decide +kernel
theorem dX1_leavesStuff_15 : decode cX1_leavesStuff 15 = .ok (.iconst 0, 1) := by decide +kernel
theorem dX1_leavesStuff_16 : decode cX1_leavesStuff 16 = .ok (.ireturn, 1) := by decide +kernel
theorem dX1_leavesColour_0 : decode cX1_leavesColour 0 = .ok (.aload_n 0, 1) := by decide +kernel
theorem dX1_leavesColour_1 : decode cX1_leavesColour 1 = .ok (.getfield 19, 3) := by decide +kernel
theorem dX1_leavesColour_4 : decode cX1_leavesColour 4 = .ok (.iload_n 1, 1) := by decide +kernel
theorem dX1_leavesColour_5 : decode cX1_leavesColour 5 = .ok (.iushr, 1) := by decide +kernel
theorem dX1_leavesColour_6 : decode cX1_leavesColour 6 = .ok (.iconst 1, 1) := by decide +kernel
theorem dX1_leavesColour_7 : decode cX1_leavesColour 7 = .ok (.iand, 1) := by decide +kernel
theorem dX1_leavesColour_8 : decode cX1_leavesColour 8 = .ok (.ifCond .ne 7, 3) := by decide +kernel
theorem dX1_leavesColour_11 : decode cX1_leavesColour 11 = .ok (.iconst 1, 1) := by decide +kernel
theorem dX1_leavesColour_12 : decode cX1_leavesColour 12 = .ok (.goto 4, 3) := by decide +kernel
theorem dX1_leavesColour_15 : decode cX1_leavesColour 15 = .ok (.iconst 0, 1) := by decide +kernel
theorem dX1_leavesColour_16 : decode cX1_leavesColour 16 = .ok (.ireturn, 1) := by decide +kernel
theorem dX2_init_0 : decode cX2_init 0 = .ok (.aload_n 0, 1) := by decide +kernel
theorem dX2_init_1 : decode cX2_init 1 = .ok (.invokespecial 3, 3) := by decide +kernel
theorem dX2_init_4 : decode cX2_init 4 = .ok (.aload_n 0, 1) := by decide +kernel
theorem dX2_init_5 : decode cX2_init 5 = .ok (.bipush 12, 2) := by decide +kernel
theorem dX2_init_7 : decode cX2_init 7 = .ok (.anewarray 9, 3) := by decide +kernel
theorem dX2_init_10 : decode cX2_init 10 = .ok (.putfield 11, 3) := by decide +kernel
theorem dX2_init_13 : decode cX2_init 13 = .ok (.aload_n 0, 1) := by decide +kernel
theorem dX2_init_14 : decode cX2_init 14 = .ok (.iconst 0, 1) := by decide +kernel
theorem dX2_init_15 : decode cX2_init 15 = .ok (.putfield 17, 3) := by decide +kernel
theorem dX2_init_18 : decode cX2_init 18 = .ok (.return_, 1) := by decide +kernel
theorem dX2_size_0 : decode cX2_size 0 = .ok (.aload_n 0, 1) := by decide +kernel
theorem dX2_size_1 : decode cX2_size 1 = .ok (.getfield 17, 3) := by decide +kernel
theorem dX2_size_4 : decode cX2_size 4 = .ok (.ireturn, 1) := by decide +kernel
theorem dX2_find_0 : decode cX2_find 0 = .ok (.iload_n 1, 1) := by decide +kernel
theorem dX2_find_1 : decode cX2_find 1 = .ok (.ifCond .lt 29, 3) := by decide +kernel
theorem dX2_find_4 : decode cX2_find 4 = .ok (.iload_n 1, 1) := by decide +kernel
theorem dX2_find_5 : decode cX2_find 5 = .ok (.aload_n 0, 1) := by decide +kernel
theorem dX2_find_6 : decode cX2_find 6 = .ok (.getfield 17, 3) := by decide +kernel
theorem dX2_find_9 : decode cX2_find 9 = .ok (.if_icmp .ge 21, 3) := by decide +kernel
theorem dX2_find_12 : decode cX2_find 12 = .ok (.iload_n 1, 1) := by decide +kernel
theorem dX2_find_13 : decode cX2_find 13 = .ok (.aload_n 0, 1) := by decide +kernel
theorem dX2_find_14 : decode cX2_find 14 = .ok (.getfield 11, 3) := by decide +kernel
theorem dX2_find_17 : decode cX2_find 17 = .ok (.arraylength, 1) := by decide +kernel
theorem dX2_find_18 : decode cX2_find 18 = .ok (.if_icmp .ge 12, 3) := by decide +kernel
theorem dX2_find_21 : decode cX2_find 21 = .ok (.aload_n 0, 1) := by decide +kernel
theorem dX2_find_22 : decode cX2_find 22 = .ok (.getfield 11, 3) := by decide +kernel
theorem dX2_find_25 : decode cX2_find 25 = .ok (.iload_n 1, 1) := by decide +kernel
theorem dX2_find_26 : decode cX2_find 26 = .ok (.aaload, 1) := by decide +kernel
theorem dX2_find_27 : decode cX2_find 27 = .ok (.goto 4, 3) := by decide +kernel
theorem dX2_find_30 : decode cX2_find 30 = .ok (.aconst_null, 1) := by decide +kernel
theorem dX2_find_31 : decode cX2_find 31 = .ok (.areturn, 1) := by decide +kernel
theorem dX2_latestFirstDay_0 : decode cX2_latestFirstDay 0 = .ok (.aload_n 0, 1) := by decide +kernel
theorem dX2_latestFirstDay_1 : decode cX2_latestFirstDay 1 = .ok (.aload_n 0, 1) := by decide +kernel
theorem dX2_latestFirstDay_2 : decode cX2_latestFirstDay 2 = .ok (.getfield 17, 3) := by decide +kernel
theorem dX2_latestFirstDay_5 : decode cX2_latestFirstDay 5 = .ok (.iconst 1, 1) := by decide +kernel
theorem dX2_latestFirstDay_6 : decode cX2_latestFirstDay 6 = .ok (.isub, 1) := by decide +kernel
theorem dX2_latestFirstDay_7 : decode cX2_latestFirstDay 7 = .ok (.invokevirtual 21, 3) := by decide +kernel
theorem dX2_latestFirstDay_10 : decode cX2_latestFirstDay 10 = .ok (.astore_n 1, 1) := by decide +kernel
theorem dX2_latestFirstDay_11 : decode cX2_latestFirstDay 11 = .ok (.aload_n 1, 1) := by decide +kernel
theorem dX2_latestFirstDay_12 : decode cX2_latestFirstDay 12 = .ok (.ifnonnull 7, 3) := by decide +kernel
theorem dX2_latestFirstDay_15 : decode cX2_latestFirstDay 15 = .ok (.iconst 0, 1) := by decide +kernel
theorem dX2_latestFirstDay_16 : decode cX2_latestFirstDay 16 = .ok (.goto 7, 3) := by decide +kernel
theorem dX2_latestFirstDay_19 : decode cX2_latestFirstDay 19 = .ok (.aload_n 1, 1) := by decide +kernel
theorem dX2_latestFirstDay_20 : decode cX2_latestFirstDay 20 = .ok (.getfield 25, 3) := by decide +kernel
theorem dX2_latestFirstDay_23 : decode cX2_latestFirstDay 23 = .ok (.ireturn, 1) := by decide +kernel
theorem dX2_add_0 : decode cX2_add 0 = .ok (.aload_n 0, 1) := by decide +kernel
theorem dX2_add_1 : decode cX2_add 1 = .ok (.getfield 17, 3) := by decide +kernel
theorem dX2_add_4 : decode cX2_add 4 = .ok (.aload_n 0, 1) := by decide +kernel
theorem dX2_add_5 : decode cX2_add 5 = .ok (.getfield 11, 3) := by decide +kernel
theorem dX2_add_8 : decode cX2_add 8 = .ok (.arraylength, 1) := by decide +kernel
theorem dX2_add_9 : decode cX2_add 9 = .ok (.if_icmp .ge 28, 3) := by decide +kernel
theorem dX2_add_12 : decode cX2_add 12 = .ok (.aload_n 1, 1) := by decide +kernel
theorem dX2_add_13 : decode cX2_add 13 = .ok (.iload_n 2, 1) := by decide +kernel
theorem dX2_add_14 : decode cX2_add 14 = .ok (.putfield 25, 3) := by decide +kernel
theorem dX2_add_17 : decode cX2_add 17 = .ok (.aload_n 0, 1) := by decide +kernel
theorem dX2_add_18 : decode cX2_add 18 = .ok (.getfield 11, 3) := by decide +kernel
theorem dX2_add_21 : decode cX2_add 21 = .ok (.aload_n 0, 1) := by decide +kernel
theorem dX2_add_22 : decode cX2_add 22 = .ok (.getfield 17, 3) := by decide +kernel
theorem dX2_add_25 : decode cX2_add 25 = .ok (.aload_n 1, 1) := by decide +kernel
theorem dX2_add_26 : decode cX2_add 26 = .ok (.aastore, 1) := by decide +kernel
theorem dX2_add_27 : decode cX2_add 27 = .ok (.aload_n 0, 1) := by decide +kernel
theorem dX2_add_28 : decode cX2_add 28 = .ok (.dup, 1) := by decide +kernel
theorem dX2_add_29 : decode cX2_add 29 = .ok (.getfield 17, 3) := by decide +kernel
theorem dX2_add_32 : decode cX2_add 32 = .ok (.iconst 1, 1) := by decide +kernel
theorem dX2_add_33 : decode cX2_add 33 = .ok (.iadd, 1) := by decide +kernel
theorem dX2_add_34 : decode cX2_add 34 = .ok (.putfield 17, 3) := by decide +kernel
theorem dX2_add_37 : decode cX2_add 37 = .ok (.return_, 1) := by decide +kernel
theorem dX2_inForce_0 : decode cX2_inForce 0 = .ok (.iconst 0, 1) := by decide +kernel
theorem dX2_inForce_1 : decode cX2_inForce 1 = .ok (.istore_n 2, 1) := by decide +kernel
theorem dX2_inForce_2 : decode cX2_inForce 2 = .ok (.iconst 0, 1) := by decide +kernel
theorem dX2_inForce_3 : decode cX2_inForce 3 = .ok (.istore_n 3, 1) := by decide +kernel
theorem dX2_inForce_4 : decode cX2_inForce 4 = .ok (.iconst 0, 1) := by decide +kernel
theorem dX2_inForce_5 : decode cX2_inForce 5 = .ok (.istore 4, 2) := by decide +kernel
theorem dX2_inForce_7 : decode cX2_inForce 7 = .ok (.iload 4, 2) := by decide +kernel
theorem dX2_inForce_9 : decode cX2_inForce 9 = .ok (.aload_n 0, 1) := by decide +kernel
theorem dX2_inForce_10 : decode cX2_inForce 10 = .ok (.getfield 17, 3) := by decide +kernel
theorem dX2_inForce_13 : decode cX2_inForce 13 = .ok (.if_icmp .ge 46, 3) := by decide +kernel
theorem dX2_inForce_16 : decode cX2_inForce 16 = .ok (.aload_n 0, 1) := by decide +kernel
theorem dX2_inForce_17 : decode cX2_inForce 17 = .ok (.iload 4, 2) := by decide +kernel
theorem dX2_inForce_19 : decode cX2_inForce 19 = .ok (.invokevirtual 21, 3) := by decide +kernel
theorem dX2_inForce_22 : decode cX2_inForce 22 = .ok (.astore 5, 2) := by decide +kernel
theorem dX2_inForce_24 : decode cX2_inForce 24 = .ok (.aload 5, 2) := by decide +kernel
theorem dX2_inForce_26 : decode cX2_inForce 26 = .ok (.ifnull 27, 3) := by decide +kernel
theorem dX2_inForce_29 : decode cX2_inForce 29 = .ok (.aload 5, 2) := by decide +kernel
theorem dX2_inForce_31 : decode cX2_inForce 31 = .ok (.getfield 25, 3) := by decide +kernel
theorem dX2_inForce_34 : decode cX2_inForce 34 = .ok (.iload_n 1, 1) := by decide +kernel
theorem dX2_inForce_35 : decode cX2_inForce 35 = .ok (.if_icmp .gt 18, 3) := by decide +kernel
theorem dX2_inForce_38 : decode cX2_inForce 38 = .ok (.iload_n 2, 1) := by decide +kernel
theorem dX2_inForce_39 : decode cX2_inForce 39 = .ok (.iconst 1, 1) := by decide +kernel
theorem dX2_inForce_40 : decode cX2_inForce 40 = .ok (.iload 4, 2) := by decide +kernel
theorem dX2_inForce_42 : decode cX2_inForce 42 = .ok (.ishl, 1) := by decide +kernel
theorem dX2_inForce_43 : decode cX2_inForce 43 = .ok (.ior, 1) := by decide +kernel
theorem dX2_inForce_44 : decode cX2_inForce 44 = .ok (.istore_n 2, 1) := by decide +kernel
theorem dX2_inForce_45 : decode cX2_inForce 45 = .ok (.iload_n 3, 1) := by decide +kernel
theorem dX2_inForce_46 : decode cX2_inForce 46 = .ok (.aload 5, 2) := by decide +kernel
theorem dX2_inForce_48 : decode cX2_inForce 48 = .ok (.getfield 28, 3) := by decide +kernel
theorem dX2_inForce_51 : decode cX2_inForce 51 = .ok (.ior, 1) := by decide +kernel
theorem dX2_inForce_52 : decode cX2_inForce 52 = .ok (.istore_n 3, 1) := by decide +kernel
theorem dX2_inForce_53 : decode cX2_inForce 53 = .ok (.iinc 4 1, 3) := by decide +kernel
theorem dX2_inForce_56 : decode cX2_inForce 56 = .ok (.goto (-49), 3) := by decide +kernel
theorem dX2_inForce_59 : decode cX2_inForce 59 = .ok (.iload_n 2, 1) := by decide +kernel
theorem dX2_inForce_60 : decode cX2_inForce 60 = .ok (.iload_n 3, 1) := by decide +kernel
theorem dX2_inForce_61 : decode cX2_inForce 61 = .ok (.iconst (-1), 1) := by decide +kernel
theorem dX2_inForce_62 : decode cX2_inForce 62 = .ok (.ixor, 1) := by decide +kernel
theorem dX2_inForce_63 : decode cX2_inForce 63 = .ok (.iand, 1) := by decide +kernel
theorem dX2_inForce_64 : decode cX2_inForce 64 = .ok (.ireturn, 1) := by decide +kernel
theorem dX2_among_0 : decode cX2_among 0 = .ok (.iload_n 1, 1) := by decide +kernel
theorem dX2_among_1 : decode cX2_among 1 = .ok (.iload_n 2, 1) := by decide +kernel
theorem dX2_among_2 : decode cX2_among 2 = .ok (.iushr, 1) := by decide +kernel
theorem dX2_among_3 : decode cX2_among 3 = .ok (.iconst 1, 1) := by decide +kernel
theorem dX2_among_4 : decode cX2_among 4 = .ok (.iand, 1) := by decide +kernel
theorem dX2_among_5 : decode cX2_among 5 = .ok (.iconst 1, 1) := by decide +kernel
theorem dX2_among_6 : decode cX2_among 6 = .ok (.if_icmp .ne 11, 3) := by decide +kernel
theorem dX2_among_9 : decode cX2_among 9 = .ok (.aload_n 0, 1) := by decide +kernel
theorem dX2_among_10 : decode cX2_among 10 = .ok (.iload_n 2, 1) := by decide +kernel
theorem dX2_among_11 : decode cX2_among 11 = .ok (.invokevirtual 21, 3) := by decide +kernel
theorem dX2_among_14 : decode cX2_among 14 = .ok (.goto 4, 3) := by decide +kernel
theorem dX2_among_17 : decode cX2_among 17 = .ok (.aconst_null, 1) := by decide +kernel
theorem dX2_among_18 : decode cX2_among 18 = .ok (.areturn, 1) := by decide +kernel
theorem dX2_partOn_0 : decode cX2_partOn 0 = .ok (.aload_n 0, 1) := by decide +kernel
theorem dX2_partOn_1 : decode cX2_partOn 1 = .ok (.iload_n 1, 1) := by decide +kernel
theorem dX2_partOn_2 : decode cX2_partOn 2 = .ok (.invokevirtual 31, 3) := by decide +kernel
theorem dX2_partOn_5 : decode cX2_partOn 5 = .ok (.istore_n 2, 1) := by decide +kernel
theorem dX2_partOn_6 : decode cX2_partOn 6 = .ok (.aload_n 0, 1) := by decide +kernel
theorem dX2_partOn_7 : decode cX2_partOn 7 = .ok (.getfield 17, 3) := by decide +kernel
theorem dX2_partOn_10 : decode cX2_partOn 10 = .ok (.iconst 1, 1) := by decide +kernel
theorem dX2_partOn_11 : decode cX2_partOn 11 = .ok (.isub, 1) := by decide +kernel
theorem dX2_partOn_12 : decode cX2_partOn 12 = .ok (.istore_n 3, 1) := by decide +kernel
theorem dX2_partOn_13 : decode cX2_partOn 13 = .ok (.iload_n 3, 1) := by decide +kernel
theorem dX2_partOn_14 : decode cX2_partOn 14 = .ok (.ifCond .lt 37, 3) := by decide +kernel
theorem dX2_partOn_17 : decode cX2_partOn 17 = .ok (.aload_n 0, 1) := by decide +kernel
theorem dX2_partOn_18 : decode cX2_partOn 18 = .ok (.iload_n 2, 1) := by decide +kernel
theorem dX2_partOn_19 : decode cX2_partOn 19 = .ok (.iload_n 3, 1) := by decide +kernel
theorem dX2_partOn_20 : decode cX2_partOn 20 = .ok (.invokevirtual 35, 3) := by decide +kernel
theorem dX2_partOn_23 : decode cX2_partOn 23 = .ok (.astore 4, 2) := by decide +kernel
theorem dX2_partOn_25 : decode cX2_partOn 25 = .ok (.aload 4, 2) := by decide +kernel
theorem dX2_partOn_27 : decode cX2_partOn 27 = .ok (.ifnull 18, 3) := by decide +kernel
theorem dX2_partOn_30 : decode cX2_partOn 30 = .ok (.aload 4, 2) := by decide +kernel
theorem dX2_partOn_32 : decode cX2_partOn 32 = .ok (.getfield 39, 3) := by decide +kernel
theorem dX2_partOn_35 : decode cX2_partOn 35 = .ok (.iconst (-1), 1) := by decide +kernel
theorem dX2_partOn_36 : decode cX2_partOn 36 = .ok (.if_icmp .eq 9, 3) := by decide +kernel
theorem dX2_partOn_39 : decode cX2_partOn 39 = .ok (.aload 4, 2) := by decide +kernel
theorem dX2_partOn_41 : decode cX2_partOn 41 = .ok (.getfield 39, 3) := by decide +kernel
theorem dX2_partOn_44 : decode cX2_partOn 44 = .ok (.ireturn, 1) := by decide +kernel
theorem dX2_partOn_45 : decode cX2_partOn 45 = .ok (.iinc 3 (-1), 3) := by decide +kernel
theorem dX2_partOn_48 : decode cX2_partOn 48 = .ok (.goto (-35), 3) := by decide +kernel
theorem dX2_partOn_51 : decode cX2_partOn 51 = .ok (.iconst 0, 1) := by decide +kernel
theorem dX2_partOn_52 : decode cX2_partOn 52 = .ok (.ireturn, 1) := by decide +kernel
theorem dX2_reaching_0 : decode cX2_reaching 0 = .ok (.aload_n 0, 1) := by decide +kernel
theorem dX2_reaching_1 : decode cX2_reaching 1 = .ok (.aload_n 1, 1) := by decide +kernel
theorem dX2_reaching_2 : decode cX2_reaching 2 = .ok (.getfield 42, 3) := by decide +kernel
theorem dX2_reaching_5 : decode cX2_reaching 5 = .ok (.invokevirtual 31, 3) := by decide +kernel
theorem dX2_reaching_8 : decode cX2_reaching 8 = .ok (.istore_n 2, 1) := by decide +kernel
theorem dX2_reaching_9 : decode cX2_reaching 9 = .ok (.iconst 0, 1) := by decide +kernel
theorem dX2_reaching_10 : decode cX2_reaching 10 = .ok (.istore_n 3, 1) := by decide +kernel
theorem dX2_reaching_11 : decode cX2_reaching 11 = .ok (.iload_n 3, 1) := by decide +kernel
theorem dX2_reaching_12 : decode cX2_reaching 12 = .ok (.aload_n 0, 1) := by decide +kernel
theorem dX2_reaching_13 : decode cX2_reaching 13 = .ok (.getfield 17, 3) := by decide +kernel
theorem dX2_reaching_16 : decode cX2_reaching 16 = .ok (.if_icmp .ge 38, 3) := by decide +kernel
theorem dX2_reaching_19 : decode cX2_reaching 19 = .ok (.aload_n 0, 1) := by decide +kernel
theorem dX2_reaching_20 : decode cX2_reaching 20 = .ok (.iload_n 3, 1) := by decide +kernel
theorem dX2_reaching_21 : decode cX2_reaching 21 = .ok (.invokevirtual 21, 3) := by decide +kernel
theorem dX2_reaching_24 : decode cX2_reaching 24 = .ok (.astore 4, 2) := by decide +kernel
theorem dX2_reaching_26 : decode cX2_reaching 26 = .ok (.aload 4, 2) := by decide +kernel
theorem dX2_reaching_28 : decode cX2_reaching 28 = .ok (.ifnull 20, 3) := by decide +kernel
theorem dX2_reaching_31 : decode cX2_reaching 31 = .ok (.aload 4, 2) := by decide +kernel
theorem dX2_reaching_33 : decode cX2_reaching 33 = .ok (.aload_n 1, 1) := by decide +kernel
theorem dX2_reaching_34 : decode cX2_reaching 34 = .ok (.invokevirtual 47, 3) := by decide +kernel
theorem dX2_reaching_37 : decode cX2_reaching 37 = .ok (.ifCond .eq 11, 3) := by decide +kernel
theorem dX2_reaching_40 : decode cX2_reaching 40 = .ok (.iload_n 2, 1) := by decide +kernel
theorem dX2_reaching_41 : decode cX2_reaching 41 = .ok (.iconst 1, 1) := by decide +kernel
theorem dX2_reaching_42 : decode cX2_reaching 42 = .ok (.iload_n 3, 1) := by decide +kernel
theorem dX2_reaching_43 : decode cX2_reaching 43 = .ok (.ishl, 1) := by decide +kernel
theorem dX2_reaching_44 : decode cX2_reaching 44 = .ok (.iconst (-1), 1) := by decide +kernel
theorem dX2_reaching_45 : decode cX2_reaching 45 = .ok (.ixor, 1) := by decide +kernel
theorem dX2_reaching_46 : decode cX2_reaching 46 = .ok (.iand, 1) := by decide +kernel
theorem dX2_reaching_47 : decode cX2_reaching 47 = .ok (.istore_n 2, 1) := by decide +kernel
theorem dX2_reaching_48 : decode cX2_reaching 48 = .ok (.iinc 3 1, 3) := by decide +kernel
theorem dX2_reaching_51 : decode cX2_reaching 51 = .ok (.goto (-40), 3) := by decide +kernel
theorem dX2_reaching_54 : decode cX2_reaching 54 = .ok (.iload_n 2, 1) := by decide +kernel
theorem dX2_reaching_55 : decode cX2_reaching 55 = .ok (.ireturn, 1) := by decide +kernel
theorem dX2_brokenRules_0 : decode cX2_brokenRules 0 = .ok (.aload_n 0, 1) := by decide +kernel
theorem dX2_brokenRules_1 : decode cX2_brokenRules 1 = .ok (.aload_n 0, 1) := by decide +kernel
theorem dX2_brokenRules_2 : decode cX2_brokenRules 2 = .ok (.aload_n 2, 1) := by decide +kernel
theorem dX2_brokenRules_3 : decode cX2_brokenRules 3 = .ok (.invokevirtual 51, 3) := by decide +kernel
theorem dX2_brokenRules_6 : decode cX2_brokenRules 6 = .ok (.iload_n 1, 1) := by decide +kernel
theorem dX2_brokenRules_7 : decode cX2_brokenRules 7 = .ok (.invokevirtual 35, 3) := by decide +kernel
theorem dX2_brokenRules_10 : decode cX2_brokenRules 10 = .ok (.astore_n 3, 1) := by decide +kernel
theorem dX2_brokenRules_11 : decode cX2_brokenRules 11 = .ok (.aload_n 3, 1) := by decide +kernel
theorem dX2_brokenRules_12 : decode cX2_brokenRules 12 = .ok (.ifnonnull 7, 3) := by decide +kernel
theorem dX2_brokenRules_15 : decode cX2_brokenRules 15 = .ok (.iconst 0, 1) := by decide +kernel
theorem dX2_brokenRules_16 : decode cX2_brokenRules 16 = .ok (.goto 8, 3) := by decide +kernel
theorem dX2_brokenRules_19 : decode cX2_brokenRules 19 = .ok (.aload_n 3, 1) := by decide +kernel
theorem dX2_brokenRules_20 : decode cX2_brokenRules 20 = .ok (.aload_n 2, 1) := by decide +kernel
theorem dX2_brokenRules_21 : decode cX2_brokenRules 21 = .ok (.invokevirtual 55, 3) := by decide +kernel
theorem dX2_brokenRules_24 : decode cX2_brokenRules 24 = .ok (.ireturn, 1) := by decide +kernel
theorem dX2_penceOfBroken_0 : decode cX2_penceOfBroken 0 = .ok (.aload_n 0, 1) := by decide +kernel
theorem dX2_penceOfBroken_1 : decode cX2_penceOfBroken 1 = .ok (.aload_n 1, 1) := by decide +kernel
theorem dX2_penceOfBroken_2 : decode cX2_penceOfBroken 2 = .ok (.invokevirtual 51, 3) := by decide +kernel
theorem dX2_penceOfBroken_5 : decode cX2_penceOfBroken 5 = .ok (.istore_n 2, 1) := by decide +kernel
theorem dX2_penceOfBroken_6 : decode cX2_penceOfBroken 6 = .ok (.iconst 0, 1) := by decide +kernel
theorem dX2_penceOfBroken_7 : decode cX2_penceOfBroken 7 = .ok (.istore_n 3, 1) := by decide +kernel
theorem dX2_penceOfBroken_8 : decode cX2_penceOfBroken 8 = .ok (.iconst 0, 1) := by decide +kernel
theorem dX2_penceOfBroken_9 : decode cX2_penceOfBroken 9 = .ok (.istore 4, 2) := by decide +kernel
theorem dX2_penceOfBroken_11 : decode cX2_penceOfBroken 11 = .ok (.iload 4, 2) := by decide +kernel
theorem dX2_penceOfBroken_13 : decode cX2_penceOfBroken 13 = .ok (.aload_n 0, 1) := by decide +kernel
theorem dX2_penceOfBroken_14 : decode cX2_penceOfBroken 14 = .ok (.getfield 17, 3) := by decide +kernel
theorem dX2_penceOfBroken_17 : decode cX2_penceOfBroken 17 = .ok (.if_icmp .ge 37, 3) := by decide +kernel
theorem dX2_penceOfBroken_20 : decode cX2_penceOfBroken 20 = .ok (.aload_n 0, 1) := by decide +kernel
theorem dX2_penceOfBroken_21 : decode cX2_penceOfBroken 21 = .ok (.iload_n 2, 1) := by decide +kernel
theorem dX2_penceOfBroken_22 : decode cX2_penceOfBroken 22 = .ok (.iload 4, 2) := by decide +kernel
theorem dX2_penceOfBroken_24 : decode cX2_penceOfBroken 24 = .ok (.invokevirtual 35, 3) := by decide +kernel
theorem dX2_penceOfBroken_27 : decode cX2_penceOfBroken 27 = .ok (.astore 5, 2) := by decide +kernel
theorem dX2_penceOfBroken_29 : decode cX2_penceOfBroken 29 = .ok (.aload 5, 2) := by decide +kernel
theorem dX2_penceOfBroken_31 : decode cX2_penceOfBroken 31 = .ok (.ifnull 17, 3) := by decide +kernel
theorem dX2_penceOfBroken_34 : decode cX2_penceOfBroken 34 = .ok (.iload_n 3, 1) := by decide +kernel
theorem dX2_penceOfBroken_35 : decode cX2_penceOfBroken 35 = .ok (.aload 5, 2) := by decide +kernel
theorem dX2_penceOfBroken_37 : decode cX2_penceOfBroken 37 = .ok (.aload 5, 2) := by decide +kernel
theorem dX2_penceOfBroken_39 : decode cX2_penceOfBroken 39 = .ok (.aload_n 1, 1) := by decide +kernel
theorem dX2_penceOfBroken_40 : decode cX2_penceOfBroken 40 = .ok (.invokevirtual 55, 3) := by decide +kernel
theorem dX2_penceOfBroken_43 : decode cX2_penceOfBroken 43 = .ok (.invokevirtual 58, 3) := by decide +kernel
theorem dX2_penceOfBroken_46 : decode cX2_penceOfBroken 46 = .ok (.iadd, 1) := by decide +kernel
theorem dX2_penceOfBroken_47 : decode cX2_penceOfBroken 47 = .ok (.istore_n 3, 1) := by decide +kernel
theorem dX2_penceOfBroken_48 : decode cX2_penceOfBroken 48 = .ok (.iinc 4 1, 3) := by decide +kernel
theorem dX2_penceOfBroken_51 : decode cX2_penceOfBroken 51 = .ok (.goto (-40), 3) := by decide +kernel
theorem dX2_penceOfBroken_54 : decode cX2_penceOfBroken 54 = .ok (.iload_n 3, 1) := by decide +kernel
theorem dX2_penceOfBroken_55 : decode cX2_penceOfBroken 55 = .ok (.ireturn, 1) := by decide +kernel
theorem dX2_breaksAny_0 : decode cX2_breaksAny 0 = .ok (.aload_n 0, 1) := by decide +kernel
theorem dX2_breaksAny_1 : decode cX2_breaksAny 1 = .ok (.aload_n 1, 1) := by decide +kernel
theorem dX2_breaksAny_2 : decode cX2_breaksAny 2 = .ok (.invokevirtual 51, 3) := by decide +kernel
theorem dX2_breaksAny_5 : decode cX2_breaksAny 5 = .ok (.istore_n 2, 1) := by decide +kernel
theorem dX2_breaksAny_6 : decode cX2_breaksAny 6 = .ok (.iconst 0, 1) := by decide +kernel
theorem dX2_breaksAny_7 : decode cX2_breaksAny 7 = .ok (.istore_n 3, 1) := by decide +kernel
theorem dX2_breaksAny_8 : decode cX2_breaksAny 8 = .ok (.iload_n 3, 1) := by decide +kernel
theorem dX2_breaksAny_9 : decode cX2_breaksAny 9 = .ok (.aload_n 0, 1) := by decide +kernel
theorem dX2_breaksAny_10 : decode cX2_breaksAny 10 = .ok (.getfield 17, 3) := by decide +kernel
theorem dX2_breaksAny_13 : decode cX2_breaksAny 13 = .ok (.if_icmp .ge 33, 3) := by decide +kernel
theorem dX2_breaksAny_16 : decode cX2_breaksAny 16 = .ok (.aload_n 0, 1) := by decide +kernel
theorem dX2_breaksAny_17 : decode cX2_breaksAny 17 = .ok (.iload_n 2, 1) := by decide +kernel
theorem dX2_breaksAny_18 : decode cX2_breaksAny 18 = .ok (.iload_n 3, 1) := by decide +kernel
theorem dX2_breaksAny_19 : decode cX2_breaksAny 19 = .ok (.invokevirtual 35, 3) := by decide +kernel
theorem dX2_breaksAny_22 : decode cX2_breaksAny 22 = .ok (.astore 4, 2) := by decide +kernel
theorem dX2_breaksAny_24 : decode cX2_breaksAny 24 = .ok (.aload 4, 2) := by decide +kernel
theorem dX2_breaksAny_26 : decode cX2_breaksAny 26 = .ok (.ifnull 14, 3) := by decide +kernel
theorem dX2_breaksAny_29 : decode cX2_breaksAny 29 = .ok (.aload 4, 2) := by decide +kernel
theorem dX2_breaksAny_31 : decode cX2_breaksAny 31 = .ok (.aload_n 1, 1) := by decide +kernel
theorem dX2_breaksAny_32 : decode cX2_breaksAny 32 = .ok (.invokevirtual 55, 3) := by decide +kernel
theorem dX2_breaksAny_35 : decode cX2_breaksAny 35 = .ok (.ifCond .eq 5, 3) := by decide +kernel
theorem dX2_breaksAny_38 : decode cX2_breaksAny 38 = .ok (.iconst 1, 1) := by decide +kernel
theorem dX2_breaksAny_39 : decode cX2_breaksAny 39 = .ok (.ireturn, 1) := by decide +kernel
theorem dX2_breaksAny_40 : decode cX2_breaksAny 40 = .ok (.iinc 3 1, 3) := by decide +kernel
theorem dX2_breaksAny_43 : decode cX2_breaksAny 43 = .ok (.goto (-35), 3) := by decide +kernel
theorem dX2_breaksAny_46 : decode cX2_breaksAny 46 = .ok (.iconst 0, 1) := by decide +kernel
theorem dX2_breaksAny_47 : decode cX2_breaksAny 47 = .ok (.ireturn, 1) := by decide +kernel
theorem dX2_bound_0 : decode cX2_bound 0 = .ok (.aload_n 0, 1) := by decide +kernel
theorem dX2_bound_1 : decode cX2_bound 1 = .ok (.aload_n 2, 1) := by decide +kernel
theorem dX2_bound_2 : decode cX2_bound 2 = .ok (.invokevirtual 51, 3) := by decide +kernel
theorem dX2_bound_5 : decode cX2_bound 5 = .ok (.istore_n 3, 1) := by decide +kernel
theorem dX2_bound_6 : decode cX2_bound 6 = .ok (.aload_n 1, 1) := by decide +kernel
theorem dX2_bound_7 : decode cX2_bound 7 = .ok (.invokevirtual 61, 3) := by decide +kernel
theorem dX2_bound_10 : decode cX2_bound 10 = .ok (.iconst 0, 1) := by decide +kernel
theorem dX2_bound_11 : decode cX2_bound 11 = .ok (.istore 4, 2) := by decide +kernel
theorem dX2_bound_13 : decode cX2_bound 13 = .ok (.iload 4, 2) := by decide +kernel
theorem dX2_bound_15 : decode cX2_bound 15 = .ok (.aload_n 0, 1) := by decide +kernel
theorem dX2_bound_16 : decode cX2_bound 16 = .ok (.getfield 17, 3) := by decide +kernel
theorem dX2_bound_19 : decode cX2_bound 19 = .ok (.if_icmp .ge 30, 3) := by decide +kernel
theorem dX2_bound_22 : decode cX2_bound 22 = .ok (.aload_n 0, 1) := by decide +kernel
theorem dX2_bound_23 : decode cX2_bound 23 = .ok (.iload_n 3, 1) := by decide +kernel
theorem dX2_bound_24 : decode cX2_bound 24 = .ok (.iload 4, 2) := by decide +kernel
theorem dX2_bound_26 : decode cX2_bound 26 = .ok (.invokevirtual 35, 3) := by decide +kernel
theorem dX2_bound_29 : decode cX2_bound 29 = .ok (.astore 5, 2) := by decide +kernel
theorem dX2_bound_31 : decode cX2_bound 31 = .ok (.aload 5, 2) := by decide +kernel
theorem dX2_bound_33 : decode cX2_bound 33 = .ok (.ifnull 10, 3) := by decide +kernel
theorem dX2_bound_36 : decode cX2_bound 36 = .ok (.aload 5, 2) := by decide +kernel
theorem dX2_bound_38 : decode cX2_bound 38 = .ok (.aload_n 1, 1) := by decide +kernel
theorem dX2_bound_39 : decode cX2_bound 39 = .ok (.aload_n 2, 1) := by decide +kernel
theorem dX2_bound_40 : decode cX2_bound 40 = .ok (.invokevirtual 66, 3) := by decide +kernel
theorem dX2_bound_43 : decode cX2_bound 43 = .ok (.iinc 4 1, 3) := by decide +kernel
theorem dX2_bound_46 : decode cX2_bound 46 = .ok (.goto (-33), 3) := by decide +kernel
theorem dX2_bound_49 : decode cX2_bound 49 = .ok (.return_, 1) := by decide +kernel
theorem dX3_init_0 : decode cX3_init 0 = .ok (.aload_n 0, 1) := by decide +kernel
theorem dX3_init_1 : decode cX3_init 1 = .ok (.invokespecial 3, 3) := by decide +kernel
theorem dX3_init_4 : decode cX3_init 4 = .ok (.aload_n 0, 1) := by decide +kernel
theorem dX3_init_5 : decode cX3_init 5 = .ok (.iconst 5, 1) := by decide +kernel
theorem dX3_init_6 : decode cX3_init 6 = .ok (.newarray .int, 2) := by decide +kernel
theorem dX3_init_8 : decode cX3_init 8 = .ok (.putfield 9, 3) := by decide +kernel
theorem dX3_init_11 : decode cX3_init 11 = .ok (.aload_n 0, 1) := by decide +kernel
theorem dX3_init_12 : decode cX3_init 12 = .ok (.iconst (-1), 1) := by decide +kernel
theorem dX3_init_13 : decode cX3_init 13 = .ok (.putfield 15, 3) := by decide +kernel
theorem dX3_init_16 : decode cX3_init 16 = .ok (.aload_n 0, 1) := by decide +kernel
theorem dX3_init_17 : decode cX3_init 17 = .ok (.getfield 9, 3) := by decide +kernel
theorem dX3_init_20 : decode cX3_init 20 = .ok (.iconst 0, 1) := by decide +kernel
theorem dX3_init_21 : decode cX3_init 21 = .ok (.iload_n 1, 1) := by decide +kernel
theorem dX3_init_22 : decode cX3_init 22 = .ok (.iastore, 1) := by decide +kernel
theorem dX3_init_23 : decode cX3_init 23 = .ok (.aload_n 0, 1) := by decide +kernel
theorem dX3_init_24 : decode cX3_init 24 = .ok (.getfield 9, 3) := by decide +kernel
theorem dX3_init_27 : decode cX3_init 27 = .ok (.iconst 1, 1) := by decide +kernel
theorem dX3_init_28 : decode cX3_init 28 = .ok (.iload_n 2, 1) := by decide +kernel
theorem dX3_init_29 : decode cX3_init 29 = .ok (.iastore, 1) := by decide +kernel
theorem dX3_init_30 : decode cX3_init 30 = .ok (.aload_n 0, 1) := by decide +kernel
theorem dX3_init_31 : decode cX3_init 31 = .ok (.getfield 9, 3) := by decide +kernel
theorem dX3_init_34 : decode cX3_init 34 = .ok (.iconst 2, 1) := by decide +kernel
theorem dX3_init_35 : decode cX3_init 35 = .ok (.iload_n 3, 1) := by decide +kernel
theorem dX3_init_36 : decode cX3_init 36 = .ok (.iastore, 1) := by decide +kernel
theorem dX3_init_37 : decode cX3_init 37 = .ok (.aload_n 0, 1) := by decide +kernel
theorem dX3_init_38 : decode cX3_init 38 = .ok (.getfield 9, 3) := by decide +kernel
theorem dX3_init_41 : decode cX3_init 41 = .ok (.iconst 3, 1) := by decide +kernel
theorem dX3_init_42 : decode cX3_init 42 = .ok (.iload 4, 2) := by decide +kernel
theorem dX3_init_44 : decode cX3_init 44 = .ok (.iastore, 1) := by decide +kernel
theorem dX3_init_45 : decode cX3_init 45 = .ok (.aload_n 0, 1) := by decide +kernel
theorem dX3_init_46 : decode cX3_init 46 = .ok (.getfield 9, 3) := by decide +kernel
theorem dX3_init_49 : decode cX3_init 49 = .ok (.iconst 4, 1) := by decide +kernel
theorem dX3_init_50 : decode cX3_init 50 = .ok (.iload 5, 2) := by decide +kernel
theorem dX3_init_52 : decode cX3_init 52 = .ok (.iastore, 1) := by decide +kernel
theorem dX3_init_53 : decode cX3_init 53 = .ok (.aload_n 0, 1) := by decide +kernel
theorem dX3_init_54 : decode cX3_init 54 = .ok (.iload 6, 2) := by decide +kernel
theorem dX3_init_56 : decode cX3_init 56 = .ok (.putfield 19, 3) := by decide +kernel
theorem dX3_init_59 : decode cX3_init 59 = .ok (.aload_n 0, 1) := by decide +kernel
theorem dX3_init_60 : decode cX3_init 60 = .ok (.iload 7, 2) := by decide +kernel
theorem dX3_init_62 : decode cX3_init 62 = .ok (.putfield 22, 3) := by decide +kernel
theorem dX3_init_65 : decode cX3_init 65 = .ok (.return_, 1) := by decide +kernel
theorem dX3_measure_0 : decode cX3_measure 0 = .ok (.iload_n 1, 1) := by decide +kernel
theorem dX3_measure_1 : decode cX3_measure 1 = .ok (.ifCond .lt 21, 3) := by decide +kernel
theorem dX3_measure_4 : decode cX3_measure 4 = .ok (.iload_n 1, 1) := by decide +kernel
theorem dX3_measure_5 : decode cX3_measure 5 = .ok (.aload_n 0, 1) := by decide +kernel
theorem dX3_measure_6 : decode cX3_measure 6 = .ok (.getfield 9, 3) := by decide +kernel
theorem dX3_measure_9 : decode cX3_measure 9 = .ok (.arraylength, 1) := by decide +kernel
theorem dX3_measure_10 : decode cX3_measure 10 = .ok (.if_icmp .ge 12, 3) := by decide +kernel
theorem dX3_measure_13 : decode cX3_measure 13 = .ok (.aload_n 0, 1) := by decide +kernel
theorem dX3_measure_14 : decode cX3_measure 14 = .ok (.getfield 9, 3) := by decide +kernel
theorem dX3_measure_17 : decode cX3_measure 17 = .ok (.iload_n 1, 1) := by decide +kernel
theorem dX3_measure_18 : decode cX3_measure 18 = .ok (.iaload, 1) := by decide +kernel
theorem dX3_measure_19 : decode cX3_measure 19 = .ok (.goto 4, 3) := by decide +kernel
theorem dX3_measure_22 : decode cX3_measure 22 = .ok (.iconst (-1), 1) := by decide +kernel
theorem dX3_measure_23 : decode cX3_measure 23 = .ok (.ireturn, 1) := by decide +kernel
theorem dX4_init_0 : decode cX4_init 0 = .ok (.aload_n 0, 1) := by decide +kernel
theorem dX4_init_1 : decode cX4_init 1 = .ok (.invokespecial 3, 3) := by decide +kernel
theorem dX4_init_4 : decode cX4_init 4 = .ok (.aload_n 0, 1) := by decide +kernel
theorem dX4_init_5 : decode cX4_init 5 = .ok (.iconst 0, 1) := by decide +kernel
theorem dX4_init_6 : decode cX4_init 6 = .ok (.putfield 9, 3) := by decide +kernel
theorem dX4_init_9 : decode cX4_init 9 = .ok (.aload_n 0, 1) := by decide +kernel
theorem dX4_init_10 : decode cX4_init 10 = .ok (.iconst 0, 1) := by decide +kernel
theorem dX4_init_11 : decode cX4_init 11 = .ok (.putfield 15, 3) := by decide +kernel
theorem dX4_init_14 : decode cX4_init 14 = .ok (.aload_n 0, 1) := by decide +kernel
theorem dX4_init_15 : decode cX4_init 15 = .ok (.iconst 0, 1) := by decide +kernel
theorem dX4_init_16 : decode cX4_init 16 = .ok (.putfield 18, 3) := by decide +kernel
theorem dX4_init_19 : decode cX4_init 19 = .ok (.aload_n 0, 1) := by decide +kernel
theorem dX4_init_20 : decode cX4_init 20 = .ok (.iload_n 1, 1) := by decide +kernel
theorem dX4_init_21 : decode cX4_init 21 = .ok (.putfield 21, 3) := by decide +kernel
theorem dX4_init_24 : decode cX4_init 24 = .ok (.aload_n 0, 1) := by decide +kernel
theorem dX4_init_25 : decode cX4_init 25 = .ok (.iload_n 2, 1) := by decide +kernel
theorem dX4_init_26 : decode cX4_init 26 = .ok (.putfield 24, 3) := by decide +kernel
theorem dX4_init_29 : decode cX4_init 29 = .ok (.aload_n 0, 1) := by decide +kernel
theorem dX4_init_30 : decode cX4_init 30 = .ok (.iload_n 3, 1) := by decide +kernel
theorem dX4_init_31 : decode cX4_init 31 = .ok (.putfield 27, 3) := by decide +kernel
theorem dX4_init_34 : decode cX4_init 34 = .ok (.aload_n 0, 1) := by decide +kernel
theorem dX4_init_35 : decode cX4_init 35 = .ok (.iload 4, 2) := by decide +kernel
theorem dX4_init_37 : decode cX4_init 37 = .ok (.putfield 30, 3) := by decide +kernel
theorem dX4_init_40 : decode cX4_init 40 = .ok (.return_, 1) := by decide +kernel
theorem dX4_isOfSameCase_0 : decode cX4_isOfSameCase 0 = .ok (.aload_n 0, 1) := by decide +kernel
theorem dX4_isOfSameCase_1 : decode cX4_isOfSameCase 1 = .ok (.getfield 24, 3) := by decide +kernel
theorem dX4_isOfSameCase_4 : decode cX4_isOfSameCase 4 = .ok (.aload_n 1, 1) := by decide +kernel
theorem dX4_isOfSameCase_5 : decode cX4_isOfSameCase 5 = .ok (.getfield 24, 3) := by decide +kernel
theorem dX4_isOfSameCase_8 : decode cX4_isOfSameCase 8 = .ok (.if_icmp .ne 29, 3) := by decide +kernel
theorem dX4_isOfSameCase_11 : decode cX4_isOfSameCase 11 = .ok (.aload_n 0, 1) := by decide +kernel
theorem dX4_isOfSameCase_12 : decode cX4_isOfSameCase 12 = .ok (.getfield 27, 3) := by decide +kernel
theorem dX4_isOfSameCase_15 : decode cX4_isOfSameCase 15 = .ok (.aload_n 1, 1) := by decide +kernel
theorem dX4_isOfSameCase_16 : decode cX4_isOfSameCase 16 = .ok (.getfield 27, 3) := by decide +kernel
theorem dX4_isOfSameCase_19 : decode cX4_isOfSameCase 19 = .ok (.if_icmp .ne 18, 3) := by decide +kernel
theorem dX4_isOfSameCase_22 : decode cX4_isOfSameCase 22 = .ok (.aload_n 0, 1) := by decide +kernel
theorem dX4_isOfSameCase_23 : decode cX4_isOfSameCase 23 = .ok (.getfield 30, 3) := by decide +kernel
theorem dX4_isOfSameCase_26 : decode cX4_isOfSameCase 26 = .ok (.aload_n 1, 1) := by decide +kernel
theorem dX4_isOfSameCase_27 : decode cX4_isOfSameCase 27 = .ok (.getfield 30, 3) := by decide +kernel
theorem dX4_isOfSameCase_30 : decode cX4_isOfSameCase 30 = .ok (.if_icmp .ne 7, 3) := by decide +kernel
theorem dX4_isOfSameCase_33 : decode cX4_isOfSameCase 33 = .ok (.iconst 1, 1) := by decide +kernel
theorem dX4_isOfSameCase_34 : decode cX4_isOfSameCase 34 = .ok (.goto 4, 3) := by decide +kernel
theorem dX4_isOfSameCase_37 : decode cX4_isOfSameCase 37 = .ok (.iconst 0, 1) := by decide +kernel
theorem dX4_isOfSameCase_38 : decode cX4_isOfSameCase 38 = .ok (.ireturn, 1) := by decide +kernel
theorem dX5_init_0 : decode cX5_init 0 = .ok (.aload_n 0, 1) := by decide +kernel
theorem dX5_init_1 : decode cX5_init 1 = .ok (.invokespecial 3, 3) := by decide +kernel
theorem dX5_init_4 : decode cX5_init 4 = .ok (.aload_n 0, 1) := by decide +kernel
theorem dX5_init_5 : decode cX5_init 5 = .ok (.new 9, 3) := by decide +kernel
theorem dX5_init_8 : decode cX5_init 8 = .ok (.dup, 1) := by decide +kernel
theorem dX5_init_9 : decode cX5_init 9 = .ok (.invokespecial 11, 3) := by decide +kernel
theorem dX5_init_12 : decode cX5_init 12 = .ok (.putfield 12, 3) := by decide +kernel
theorem dX5_init_15 : decode cX5_init 15 = .ok (.aload_n 0, 1) := by decide +kernel
theorem dX5_init_16 : decode cX5_init 16 = .ok (.iconst 0, 1) := by decide +kernel
theorem dX5_init_17 : decode cX5_init 17 = .ok (.putfield 18, 3) := by decide +kernel
theorem dX5_init_20 : decode cX5_init 20 = .ok (.aload_n 0, 1) := by decide +kernel
theorem dX5_init_21 : decode cX5_init 21 = .ok (.iconst 0, 1) := by decide +kernel
theorem dX5_init_22 : decode cX5_init 22 = .ok (.putfield 22, 3) := by decide +kernel
theorem dX5_init_25 : decode cX5_init 25 = .ok (.aload_n 0, 1) := by decide +kernel
theorem dX5_init_26 : decode cX5_init 26 = .ok (.iconst (-1), 1) := by decide +kernel
theorem dX5_init_27 : decode cX5_init 27 = .ok (.putfield 25, 3) := by decide +kernel
theorem dX5_init_30 : decode cX5_init 30 = .ok (.aload_n 0, 1) := by decide +kernel
theorem dX5_init_31 : decode cX5_init 31 = .ok (.iconst 0, 1) := by decide +kernel
theorem dX5_init_32 : decode cX5_init 32 = .ok (.putfield 28, 3) := by decide +kernel
theorem dX5_init_35 : decode cX5_init 35 = .ok (.aload_n 0, 1) := by decide +kernel
theorem dX5_init_36 : decode cX5_init 36 = .ok (.iconst 0, 1) := by decide +kernel
theorem dX5_init_37 : decode cX5_init 37 = .ok (.putfield 31, 3) := by decide +kernel
theorem dX5_init_40 : decode cX5_init 40 = .ok (.aload_n 0, 1) := by decide +kernel
theorem dX5_init_41 : decode cX5_init 41 = .ok (.iconst 0, 1) := by decide +kernel
theorem dX5_init_42 : decode cX5_init 42 = .ok (.putfield 34, 3) := by decide +kernel
theorem dX5_init_45 : decode cX5_init 45 = .ok (.aload_n 0, 1) := by decide +kernel
theorem dX5_init_46 : decode cX5_init 46 = .ok (.iconst 0, 1) := by decide +kernel
theorem dX5_init_47 : decode cX5_init 47 = .ok (.putfield 37, 3) := by decide +kernel
theorem dX5_init_50 : decode cX5_init 50 = .ok (.aload_n 0, 1) := by decide +kernel
theorem dX5_init_51 : decode cX5_init 51 = .ok (.iconst 0, 1) := by decide +kernel
theorem dX5_init_52 : decode cX5_init 52 = .ok (.putfield 40, 3) := by decide +kernel
theorem dX5_init_55 : decode cX5_init 55 = .ok (.aload_n 0, 1) := by decide +kernel
theorem dX5_init_56 : decode cX5_init 56 = .ok (.iconst 0, 1) := by decide +kernel
theorem dX5_init_57 : decode cX5_init 57 = .ok (.putfield 43, 3) := by decide +kernel
theorem dX5_init_60 : decode cX5_init 60 = .ok (.aload_n 0, 1) := by decide +kernel
theorem dX5_init_61 : decode cX5_init 61 = .ok (.iconst 0, 1) := by decide +kernel
theorem dX5_init_62 : decode cX5_init 62 = .ok (.putfield 46, 3) := by decide +kernel
theorem dX5_init_65 : decode cX5_init 65 = .ok (.aload_n 0, 1) := by decide +kernel
theorem dX5_init_66 : decode cX5_init 66 = .ok (.iconst 0, 1) := by decide +kernel
theorem dX5_init_67 : decode cX5_init 67 = .ok (.putfield 49, 3) := by decide +kernel
theorem dX5_init_70 : decode cX5_init 70 = .ok (.aload_n 0, 1) := by decide +kernel
theorem dX5_init_71 : decode cX5_init 71 = .ok (.bipush 9, 2) := by decide +kernel
theorem dX5_init_73 : decode cX5_init 73 = .ok (.putfield 52, 3) := by decide +kernel
theorem dX5_init_76 : decode cX5_init 76 = .ok (.aload_n 0, 1) := by decide +kernel
theorem dX5_init_77 : decode cX5_init 77 = .ok (.iconst 3, 1) := by decide +kernel
theorem dX5_init_78 : decode cX5_init 78 = .ok (.putfield 55, 3) := by decide +kernel
theorem dX5_init_81 : decode cX5_init 81 = .ok (.aload_n 0, 1) := by decide +kernel
theorem dX5_init_82 : decode cX5_init 82 = .ok (.aload_n 1, 1) := by decide +kernel
theorem dX5_init_83 : decode cX5_init 83 = .ok (.putfield 58, 3) := by decide +kernel
theorem dX5_init_86 : decode cX5_init 86 = .ok (.return_, 1) := by decide +kernel
theorem dX5_faultKind_0 : decode cX5_faultKind 0 = .ok (.aload_n 0, 1) := by decide +kernel
theorem dX5_faultKind_1 : decode cX5_faultKind 1 = .ok (.getfield 22, 3) := by decide +kernel
theorem dX5_faultKind_4 : decode cX5_faultKind 4 = .ok (.ireturn, 1) := by decide +kernel
theorem dX5_faultPlace_0 : decode cX5_faultPlace 0 = .ok (.aload_n 0, 1) := by decide +kernel
theorem dX5_faultPlace_1 : decode cX5_faultPlace 1 = .ok (.getfield 25, 3) := by decide +kernel
theorem dX5_faultPlace_4 : decode cX5_faultPlace 4 = .ok (.ireturn, 1) := by decide +kernel
theorem dX5_takeDraft_0 : decode cX5_takeDraft 0 = .ok (.aload_n 0, 1) := by decide +kernel
theorem dX5_takeDraft_1 : decode cX5_takeDraft 1 = .ok (.getfield 12, 3) := by decide +kernel
theorem dX5_takeDraft_4 : decode cX5_takeDraft 4 = .ok (.astore_n 1, 1) := by decide +kernel
theorem dX5_takeDraft_5 : decode cX5_takeDraft 5 = .ok (.aload_n 0, 1) := by decide +kernel
theorem dX5_takeDraft_6 : decode cX5_takeDraft 6 = .ok (.new 9, 3) := by decide +kernel
theorem dX5_takeDraft_9 : decode cX5_takeDraft 9 = .ok (.dup, 1) := by decide +kernel
theorem dX5_takeDraft_10 : decode cX5_takeDraft 10 = .ok (.invokespecial 11, 3) := by decide +kernel
theorem dX5_takeDraft_13 : decode cX5_takeDraft 13 = .ok (.putfield 12, 3) := by decide +kernel
theorem dX5_takeDraft_16 : decode cX5_takeDraft 16 = .ok (.aload_n 1, 1) := by decide +kernel
theorem dX5_takeDraft_17 : decode cX5_takeDraft 17 = .ok (.areturn, 1) := by decide +kernel
theorem dX5_read_0 : decode cX5_read 0 = .ok (.aload_n 0, 1) := by decide +kernel
theorem dX5_read_1 : decode cX5_read 1 = .ok (.iload_n 1, 1) := by decide +kernel
theorem dX5_read_2 : decode cX5_read 2 = .ok (.putfield 18, 3) := by decide +kernel
theorem dX5_read_5 : decode cX5_read 5 = .ok (.aload_n 0, 1) := by decide +kernel
theorem dX5_read_6 : decode cX5_read 6 = .ok (.getfield 12, 3) := by decide +kernel
theorem dX5_read_9 : decode cX5_read 9 = .ok (.invokevirtual 62, 3) := by decide +kernel
theorem dX5_read_12 : decode cX5_read 12 = .ok (.aload_n 0, 1) := by decide +kernel
theorem dX5_read_13 : decode cX5_read 13 = .ok (.iconst 0, 1) := by decide +kernel
theorem dX5_read_14 : decode cX5_read 14 = .ok (.putfield 22, 3) := by decide +kernel
theorem dX5_read_17 : decode cX5_read 17 = .ok (.aload_n 0, 1) := by decide +kernel
theorem dX5_read_18 : decode cX5_read 18 = .ok (.iconst (-1), 1) := by decide +kernel
theorem dX5_read_19 : decode cX5_read 19 = .ok (.putfield 25, 3) := by decide +kernel
theorem dX5_read_22 : decode cX5_read 22 = .ok (.aload_n 0, 1) := by decide +kernel
theorem dX5_read_23 : decode cX5_read 23 = .ok (.iconst 0, 1) := by decide +kernel
theorem dX5_read_24 : decode cX5_read 24 = .ok (.putfield 28, 3) := by decide +kernel
theorem dX5_read_27 : decode cX5_read 27 = .ok (.aload_n 0, 1) := by decide +kernel
theorem dX5_read_28 : decode cX5_read 28 = .ok (.iconst 0, 1) := by decide +kernel
theorem dX5_read_29 : decode cX5_read 29 = .ok (.putfield 37, 3) := by decide +kernel
theorem dX5_read_32 : decode cX5_read 32 = .ok (.aload_n 0, 1) := by decide +kernel
theorem dX5_read_33 : decode cX5_read 33 = .ok (.iconst 4, 1) := by decide +kernel
theorem dX5_read_34 : decode cX5_read 34 = .ok (.putfield 31, 3) := by decide +kernel
theorem dX5_read_37 : decode cX5_read 37 = .ok (.iconst 0, 1) := by decide +kernel
theorem dX5_read_38 : decode cX5_read 38 = .ok (.istore_n 2, 1) := by decide +kernel
theorem dX5_read_39 : decode cX5_read 39 = .ok (.iload_n 2, 1) := by decide +kernel
theorem dX5_read_40 : decode cX5_read 40 = .ok (.sipush 800, 3) := by decide +kernel
theorem dX5_read_43 : decode cX5_read 43 = .ok (.if_icmp .gt 45, 3) := by decide +kernel
theorem dX5_read_46 : decode cX5_read 46 = .ok (.aload_n 0, 1) := by decide +kernel
theorem dX5_read_47 : decode cX5_read 47 = .ok (.getfield 22, 3) := by decide +kernel
theorem dX5_read_50 : decode cX5_read 50 = .ok (.ifCond .ne 38, 3) := by decide +kernel
theorem dX5_read_53 : decode cX5_read 53 = .ok (.aload_n 0, 1) := by decide +kernel
theorem dX5_read_54 : decode cX5_read 54 = .ok (.getfield 31, 3) := by decide +kernel
theorem dX5_read_57 : decode cX5_read 57 = .ok (.ifCond .eq 31, 3) := by decide +kernel
theorem dX5_read_60 : decode cX5_read 60 = .ok (.aload_n 0, 1) := by decide +kernel
theorem dX5_read_61 : decode cX5_read 61 = .ok (.invokevirtual 65, 3) := by decide +kernel
theorem dX5_read_64 : decode cX5_read 64 = .ok (.aload_n 0, 1) := by decide +kernel
theorem dX5_read_65 : decode cX5_read 65 = .ok (.getfield 31, 3) := by decide +kernel
theorem dX5_read_68 : decode cX5_read 68 = .ok (.ifCond .ne 10, 3) := by decide +kernel
theorem dX5_read_71 : decode cX5_read 71 = .ok (.aload_n 0, 1) := by decide +kernel
theorem dX5_read_72 : decode cX5_read 72 = .ok (.getfield 28, 3) := by decide +kernel
theorem dX5_read_75 : decode cX5_read 75 = .ok (.ifCond .eq 7, 3) := by decide +kernel
theorem dX5_read_78 : decode cX5_read 78 = .ok (.aload_n 0, 1) := by decide +kernel
theorem dX5_read_79 : decode cX5_read 79 = .ok (.invokevirtual 68, 3) := by decide +kernel
theorem dX5_read_82 : decode cX5_read 82 = .ok (.iinc 2 1, 3) := by decide +kernel
theorem dX5_read_85 : decode cX5_read 85 = .ok (.goto (-46), 3) := by decide +kernel
theorem dX5_read_88 : decode cX5_read 88 = .ok (.return_, 1) := by decide +kernel
theorem dX5_scan_0 : decode cX5_scan 0 = .ok (.aload_n 0, 1) := by decide +kernel
theorem dX5_scan_1 : decode cX5_scan 1 = .ok (.aload_n 0, 1) := by decide +kernel
theorem dX5_scan_2 : decode cX5_scan 2 = .ok (.getfield 37, 3) := by decide +kernel
theorem dX5_scan_5 : decode cX5_scan 5 = .ok (.putfield 34, 3) := by decide +kernel
theorem dX5_scan_8 : decode cX5_scan 8 = .ok (.aload_n 0, 1) := by decide +kernel
theorem dX5_scan_9 : decode cX5_scan 9 = .ok (.getfield 34, 3) := by decide +kernel
theorem dX5_scan_12 : decode cX5_scan 12 = .ok (.aload_n 0, 1) := by decide +kernel
theorem dX5_scan_13 : decode cX5_scan 13 = .ok (.getfield 58, 3) := by decide +kernel
theorem dX5_scan_16 : decode cX5_scan 16 = .ok (.invokevirtual 71, 3) := by decide +kernel
theorem dX5_scan_19 : decode cX5_scan 19 = .ok (.if_icmp .ge 33, 3) := by decide +kernel
theorem dX5_scan_22 : decode cX5_scan 22 = .ok (.aload_n 0, 1) := by decide +kernel
theorem dX5_scan_23 : decode cX5_scan 23 = .ok (.getfield 58, 3) := by decide +kernel
theorem dX5_scan_26 : decode cX5_scan 26 = .ok (.aload_n 0, 1) := by decide +kernel
theorem dX5_scan_27 : decode cX5_scan 27 = .ok (.getfield 34, 3) := by decide +kernel
theorem dX5_scan_30 : decode cX5_scan 30 = .ok (.invokevirtual 77, 3) := by decide +kernel
theorem dX5_scan_33 : decode cX5_scan 33 = .ok (.invokestatic 81, 3) := by decide +kernel
theorem dX5_scan_36 : decode cX5_scan 36 = .ok (.ifCond .eq 16, 3) := by decide +kernel
theorem dX5_scan_39 : decode cX5_scan 39 = .ok (.aload_n 0, 1) := by decide +kernel
theorem dX5_scan_40 : decode cX5_scan 40 = .ok (.dup, 1) := by decide +kernel
theorem dX5_scan_41 : decode cX5_scan 41 = .ok (.getfield 34, 3) := by decide +kernel
theorem dX5_scan_44 : decode cX5_scan 44 = .ok (.iconst 1, 1) := by decide +kernel
theorem dX5_scan_45 : decode cX5_scan 45 = .ok (.iadd, 1) := by decide +kernel
theorem dX5_scan_46 : decode cX5_scan 46 = .ok (.putfield 34, 3) := by decide +kernel
theorem dX5_scan_49 : decode cX5_scan 49 = .ok (.goto (-41), 3) := by decide +kernel
theorem dX5_scan_52 : decode cX5_scan 52 = .ok (.aload_n 0, 1) := by decide +kernel
theorem dX5_scan_53 : decode cX5_scan 53 = .ok (.getfield 58, 3) := by decide +kernel
theorem dX5_scan_56 : decode cX5_scan 56 = .ok (.aload_n 0, 1) := by decide +kernel
theorem dX5_scan_57 : decode cX5_scan 57 = .ok (.getfield 34, 3) := by decide +kernel
theorem dX5_scan_60 : decode cX5_scan 60 = .ok (.invokevirtual 77, 3) := by decide +kernel
theorem dX5_scan_63 : decode cX5_scan 63 = .ok (.istore_n 1, 1) := by decide +kernel
theorem dX5_scan_64 : decode cX5_scan 64 = .ok (.aload_n 0, 1) := by decide +kernel
theorem dX5_scan_65 : decode cX5_scan 65 = .ok (.aload_n 0, 1) := by decide +kernel
theorem dX5_scan_66 : decode cX5_scan 66 = .ok (.getfield 34, 3) := by decide +kernel
theorem dX5_scan_69 : decode cX5_scan 69 = .ok (.iconst 1, 1) := by decide +kernel
theorem dX5_scan_70 : decode cX5_scan 70 = .ok (.iadd, 1) := by decide +kernel
theorem dX5_scan_71 : decode cX5_scan 71 = .ok (.putfield 37, 3) := by decide +kernel
theorem dX5_scan_74 : decode cX5_scan 74 = .ok (.iload_n 1, 1) := by decide +kernel
theorem dX5_scan_75 : decode cX5_scan 75 = .ok (.iconst (-1), 1) := by decide +kernel
theorem dX5_scan_76 : decode cX5_scan 76 = .ok (.if_icmp .ne 11, 3) := by decide +kernel
theorem dX5_scan_79 : decode cX5_scan 79 = .ok (.aload_n 0, 1) := by decide +kernel
theorem dX5_scan_80 : decode cX5_scan 80 = .ok (.iconst 0, 1) := by decide +kernel
theorem dX5_scan_81 : decode cX5_scan 81 = .ok (.putfield 31, 3) := by decide +kernel
theorem dX5_scan_84 : decode cX5_scan 84 = .ok (.goto 46, 3) := by decide +kernel
theorem dX5_scan_87 : decode cX5_scan 87 = .ok (.iload_n 1, 1) := by decide +kernel
theorem dX5_scan_88 : decode cX5_scan 88 = .ok (.invokestatic 85, 3) := by decide +kernel
theorem dX5_scan_91 : decode cX5_scan 91 = .ok (.ifCond .eq 10, 3) := by decide +kernel
theorem dX5_scan_94 : decode cX5_scan 94 = .ok (.aload_n 0, 1) := by decide +kernel
theorem dX5_scan_95 : decode cX5_scan 95 = .ok (.invokevirtual 88, 3) := by decide +kernel
theorem dX5_scan_98 : decode cX5_scan 98 = .ok (.goto 32, 3) := by decide +kernel
theorem dX5_scan_101 : decode cX5_scan 101 = .ok (.iload_n 1, 1) := by decide +kernel
theorem dX5_scan_102 : decode cX5_scan 102 = .ok (.invokestatic 91, 3) := by decide +kernel
theorem dX5_scan_105 : decode cX5_scan 105 = .ok (.ifCond .eq 10, 3) := by decide +kernel
theorem dX5_scan_108 : decode cX5_scan 108 = .ok (.aload_n 0, 1) := by decide +kernel
theorem dX5_scan_109 : decode cX5_scan 109 = .ok (.invokevirtual 94, 3) := by decide +kernel
theorem dX5_scan_112 : decode cX5_scan 112 = .ok (.goto 18, 3) := by decide +kernel
theorem dX5_scan_115 : decode cX5_scan 115 = .ok (.aload_n 0, 1) := by decide +kernel
theorem dX5_scan_116 : decode cX5_scan 116 = .ok (.iload_n 1, 1) := by decide +kernel
theorem dX5_scan_117 : decode cX5_scan 117 = .ok (.bipush 59, 2) := by decide +kernel
theorem dX5_scan_119 : decode cX5_scan 119 = .ok (.if_icmp .ne 7, 3) := by decide +kernel
theorem dX5_scan_122 : decode cX5_scan 122 = .ok (.iconst 3, 1) := by decide +kernel
theorem dX5_scan_123 : decode cX5_scan 123 = .ok (.goto 4, 3) := by decide +kernel
theorem dX5_scan_126 : decode cX5_scan 126 = .ok (.iconst 4, 1) := by decide +kernel
theorem dX5_scan_127 : decode cX5_scan 127 = .ok (.putfield 31, 3) := by decide +kernel
theorem dX5_scan_130 : decode cX5_scan 130 = .ok (.return_, 1) := by decide +kernel
theorem dX5_scanWord_0 : decode cX5_scanWord 0 = .ok (.aload_n 0, 1) := by decide +kernel
theorem dX5_scanWord_1 : decode cX5_scanWord 1 = .ok (.getfield 37, 3) := by decide +kernel
theorem dX5_scanWord_4 : decode cX5_scanWord 4 = .ok (.aload_n 0, 1) := by decide +kernel
theorem dX5_scanWord_5 : decode cX5_scanWord 5 = .ok (.getfield 58, 3) := by decide +kernel
theorem dX5_scanWord_8 : decode cX5_scanWord 8 = .ok (.invokevirtual 71, 3) := by decide +kernel
theorem dX5_scanWord_11 : decode cX5_scanWord 11 = .ok (.if_icmp .ge 33, 3) := by decide +kernel
theorem dX5_scanWord_14 : decode cX5_scanWord 14 = .ok (.aload_n 0, 1) := by decide +kernel
theorem dX5_scanWord_15 : decode cX5_scanWord 15 = .ok (.getfield 58, 3) := by decide +kernel
theorem dX5_scanWord_18 : decode cX5_scanWord 18 = .ok (.aload_n 0, 1) := by decide +kernel
theorem dX5_scanWord_19 : decode cX5_scanWord 19 = .ok (.getfield 37, 3) := by decide +kernel
theorem dX5_scanWord_22 : decode cX5_scanWord 22 = .ok (.invokevirtual 77, 3) := by decide +kernel
theorem dX5_scanWord_25 : decode cX5_scanWord 25 = .ok (.invokestatic 85, 3) := by decide +kernel
theorem dX5_scanWord_28 : decode cX5_scanWord 28 = .ok (.ifCond .eq 16, 3) := by decide +kernel
theorem dX5_scanWord_31 : decode cX5_scanWord 31 = .ok (.aload_n 0, 1) := by decide +kernel
theorem dX5_scanWord_32 : decode cX5_scanWord 32 = .ok (.dup, 1) := by decide +kernel
theorem dX5_scanWord_33 : decode cX5_scanWord 33 = .ok (.getfield 37, 3) := by decide +kernel
theorem dX5_scanWord_36 : decode cX5_scanWord 36 = .ok (.iconst 1, 1) := by decide +kernel
theorem dX5_scanWord_37 : decode cX5_scanWord 37 = .ok (.iadd, 1) := by decide +kernel
theorem dX5_scanWord_38 : decode cX5_scanWord 38 = .ok (.putfield 37, 3) := by decide +kernel
theorem dX5_scanWord_41 : decode cX5_scanWord 41 = .ok (.goto (-41), 3) := by decide +kernel
theorem dX5_scanWord_44 : decode cX5_scanWord 44 = .ok (.aload_n 0, 1) := by decide +kernel
theorem dX5_scanWord_45 : decode cX5_scanWord 45 = .ok (.iconst 1, 1) := by decide +kernel
theorem dX5_scanWord_46 : decode cX5_scanWord 46 = .ok (.putfield 31, 3) := by decide +kernel
theorem dX5_scanWord_49 : decode cX5_scanWord 49 = .ok (.return_, 1) := by decide +kernel
theorem dX5_scanNumber_0 : decode cX5_scanNumber 0 = .ok (.aload_n 0, 1) := by decide +kernel
theorem dX5_scanNumber_1 : decode cX5_scanNumber 1 = .ok (.getfield 37, 3) := by decide +kernel
theorem dX5_scanNumber_4 : decode cX5_scanNumber 4 = .ok (.aload_n 0, 1) := by decide +kernel
theorem dX5_scanNumber_5 : decode cX5_scanNumber 5 = .ok (.getfield 58, 3) := by decide +kernel
theorem dX5_scanNumber_8 : decode cX5_scanNumber 8 = .ok (.invokevirtual 71, 3) := by decide +kernel
theorem dX5_scanNumber_11 : decode cX5_scanNumber 11 = .ok (.if_icmp .ge 33, 3) := by decide +kernel
theorem dX5_scanNumber_14 : decode cX5_scanNumber 14 = .ok (.aload_n 0, 1) := by decide +kernel
theorem dX5_scanNumber_15 : decode cX5_scanNumber 15 = .ok (.getfield 58, 3) := by decide +kernel
theorem dX5_scanNumber_18 : decode cX5_scanNumber 18 = .ok (.aload_n 0, 1) := by decide +kernel
theorem dX5_scanNumber_19 : decode cX5_scanNumber 19 = .ok (.getfield 37, 3) := by decide +kernel
theorem dX5_scanNumber_22 : decode cX5_scanNumber 22 = .ok (.invokevirtual 77, 3) := by decide +kernel
theorem dX5_scanNumber_25 : decode cX5_scanNumber 25 = .ok (.invokestatic 91, 3) := by decide +kernel
theorem dX5_scanNumber_28 : decode cX5_scanNumber 28 = .ok (.ifCond .eq 16, 3) := by decide +kernel
theorem dX5_scanNumber_31 : decode cX5_scanNumber 31 = .ok (.aload_n 0, 1) := by decide +kernel
theorem dX5_scanNumber_32 : decode cX5_scanNumber 32 = .ok (.dup, 1) := by decide +kernel
theorem dX5_scanNumber_33 : decode cX5_scanNumber 33 = .ok (.getfield 37, 3) := by decide +kernel
theorem dX5_scanNumber_36 : decode cX5_scanNumber 36 = .ok (.iconst 1, 1) := by decide +kernel
theorem dX5_scanNumber_37 : decode cX5_scanNumber 37 = .ok (.iadd, 1) := by decide +kernel
theorem dX5_scanNumber_38 : decode cX5_scanNumber 38 = .ok (.putfield 37, 3) := by decide +kernel
theorem dX5_scanNumber_41 : decode cX5_scanNumber 41 = .ok (.goto (-41), 3) := by decide +kernel
theorem dX5_scanNumber_44 : decode cX5_scanNumber 44 = .ok (.aload_n 0, 1) := by decide +kernel
theorem dX5_scanNumber_45 : decode cX5_scanNumber 45 = .ok (.aload_n 0, 1) := by decide +kernel
theorem dX5_scanNumber_46 : decode cX5_scanNumber 46 = .ok (.getfield 37, 3) := by decide +kernel
theorem dX5_scanNumber_49 : decode cX5_scanNumber 49 = .ok (.aload_n 0, 1) := by decide +kernel
theorem dX5_scanNumber_50 : decode cX5_scanNumber 50 = .ok (.getfield 34, 3) := by decide +kernel
theorem dX5_scanNumber_53 : decode cX5_scanNumber 53 = .ok (.isub, 1) := by decide +kernel
theorem dX5_scanNumber_54 : decode cX5_scanNumber 54 = .ok (.iconst 4, 1) := by decide +kernel
theorem dX5_scanNumber_55 : decode cX5_scanNumber 55 = .ok (.if_icmp .gt 7, 3) := by decide +kernel
theorem dX5_scanNumber_58 : decode cX5_scanNumber 58 = .ok (.iconst 2, 1) := by decide +kernel
theorem dX5_scanNumber_59 : decode cX5_scanNumber 59 = .ok (.goto 4, 3) := by decide +kernel
theorem dX5_scanNumber_62 : decode cX5_scanNumber 62 = .ok (.iconst 4, 1) := by decide +kernel
theorem dX5_scanNumber_63 : decode cX5_scanNumber 63 = .ok (.putfield 31, 3) := by decide +kernel
theorem dX5_scanNumber_66 : decode cX5_scanNumber 66 = .ok (.aload_n 0, 1) := by decide +kernel
theorem dX5_scanNumber_67 : decode cX5_scanNumber 67 = .ok (.iconst 0, 1) := by decide +kernel
theorem dX5_scanNumber_68 : decode cX5_scanNumber 68 = .ok (.putfield 40, 3) := by decide +kernel
theorem dX5_scanNumber_71 : decode cX5_scanNumber 71 = .ok (.aload_n 0, 1) := by decide +kernel
theorem dX5_scanNumber_72 : decode cX5_scanNumber 72 = .ok (.getfield 34, 3) := by decide +kernel
theorem dX5_scanNumber_75 : decode cX5_scanNumber 75 = .ok (.istore_n 1, 1) := by decide +kernel
theorem dX5_scanNumber_76 : decode cX5_scanNumber 76 = .ok (.iload_n 1, 1) := by decide +kernel
theorem dX5_scanNumber_77 : decode cX5_scanNumber 77 = .ok (.aload_n 0, 1) := by decide +kernel
theorem dX5_scanNumber_78 : decode cX5_scanNumber 78 = .ok (.getfield 37, 3) := by decide +kernel
theorem dX5_scanNumber_81 : decode cX5_scanNumber 81 = .ok (.if_icmp .ge 40, 3) := by decide +kernel
theorem dX5_scanNumber_84 : decode cX5_scanNumber 84 = .ok (.aload_n 0, 1) := by decide +kernel
theorem dX5_scanNumber_85 : decode cX5_scanNumber 85 = .ok (.getfield 31, 3) := by decide +kernel
theorem dX5_scanNumber_88 : decode cX5_scanNumber 88 = .ok (.iconst 2, 1) := by decide +kernel
theorem dX5_scanNumber_89 : decode cX5_scanNumber 89 = .ok (.if_icmp .ne 32, 3) := by decide +kernel
theorem dX5_scanNumber_92 : decode cX5_scanNumber 92 = .ok (.aload_n 0, 1) := by decide +kernel
theorem dX5_scanNumber_93 : decode cX5_scanNumber 93 = .ok (.aload_n 0, 1) := by decide +kernel
theorem dX5_scanNumber_94 : decode cX5_scanNumber 94 = .ok (.getfield 40, 3) := by decide +kernel
theorem dX5_scanNumber_97 : decode cX5_scanNumber 97 = .ok (.bipush 10, 2) := by decide +kernel
theorem dX5_scanNumber_99 : decode cX5_scanNumber 99 = .ok (.imul, 1) := by decide +kernel
theorem dX5_scanNumber_100 : decode cX5_scanNumber 100 = .ok (.aload_n 0, 1) := by decide +kernel
theorem dX5_scanNumber_101 : decode cX5_scanNumber 101 = .ok (.getfield 58, 3) := by decide +kernel
theorem dX5_scanNumber_104 : decode cX5_scanNumber 104 = .ok (.iload_n 1, 1) := by decide +kernel
theorem dX5_scanNumber_105 : decode cX5_scanNumber 105 = .ok (.invokevirtual 77, 3) := by decide +kernel
theorem dX5_scanNumber_108 : decode cX5_scanNumber 108 = .ok (.iadd, 1) := by decide +kernel
theorem dX5_scanNumber_109 : decode cX5_scanNumber 109 = .ok (.bipush 48, 2) := by decide +kernel
theorem dX5_scanNumber_111 : decode cX5_scanNumber 111 = .ok (.isub, 1) := by decide +kernel
theorem dX5_scanNumber_112 : decode cX5_scanNumber 112 = .ok (.putfield 40, 3) := by decide +kernel
theorem dX5_scanNumber_115 : decode cX5_scanNumber 115 = .ok (.iinc 1 1, 3) := by decide +kernel
theorem dX5_scanNumber_118 : decode cX5_scanNumber 118 = .ok (.goto (-42), 3) := by decide +kernel
theorem dX5_scanNumber_121 : decode cX5_scanNumber 121 = .ok (.return_, 1) := by decide +kernel
theorem dX5_isBlank_0 : decode cX5_isBlank 0 = .ok (.iload_n 0, 1) := by decide +kernel
theorem dX5_isBlank_1 : decode cX5_isBlank 1 = .ok (.bipush 32, 2) := by decide +kernel
theorem dX5_isBlank_3 : decode cX5_isBlank 3 = .ok (.if_icmp .eq 9, 3) := by decide +kernel
theorem dX5_isBlank_6 : decode cX5_isBlank 6 = .ok (.iload_n 0, 1) := by decide +kernel
theorem dX5_isBlank_7 : decode cX5_isBlank 7 = .ok (.bipush 10, 2) := by decide +kernel
theorem dX5_isBlank_9 : decode cX5_isBlank 9 = .ok (.if_icmp .ne 7, 3) := by decide +kernel
theorem dX5_isBlank_12 : decode cX5_isBlank 12 = .ok (.iconst 1, 1) := by decide +kernel
theorem dX5_isBlank_13 : decode cX5_isBlank 13 = .ok (.goto 4, 3) := by decide +kernel
theorem dX5_isBlank_16 : decode cX5_isBlank 16 = .ok (.iconst 0, 1) := by decide +kernel
theorem dX5_isBlank_17 : decode cX5_isBlank 17 = .ok (.ireturn, 1) := by decide +kernel
theorem dX5_isLetter_0 : decode cX5_isLetter 0 = .ok (.iload_n 0, 1) := by decide +kernel
theorem dX5_isLetter_1 : decode cX5_isLetter 1 = .ok (.bipush 97, 2) := by decide +kernel
theorem dX5_isLetter_3 : decode cX5_isLetter 3 = .ok (.if_icmp .lt 13, 3) := by decide +kernel
theorem dX5_isLetter_6 : decode cX5_isLetter 6 = .ok (.iload_n 0, 1) := by decide +kernel
theorem dX5_isLetter_7 : decode cX5_isLetter 7 = .ok (.bipush 122, 2) := by decide +kernel
theorem dX5_isLetter_9 : decode cX5_isLetter 9 = .ok (.if_icmp .gt 7, 3) := by decide +kernel
theorem dX5_isLetter_12 : decode cX5_isLetter 12 = .ok (.iconst 1, 1) := by decide +kernel
theorem dX5_isLetter_13 : decode cX5_isLetter 13 = .ok (.goto 4, 3) := by decide +kernel
theorem dX5_isLetter_16 : decode cX5_isLetter 16 = .ok (.iconst 0, 1) := by decide +kernel
theorem dX5_isLetter_17 : decode cX5_isLetter 17 = .ok (.ireturn, 1) := by decide +kernel
theorem dX5_isDigit_0 : decode cX5_isDigit 0 = .ok (.iload_n 0, 1) := by decide +kernel
theorem dX5_isDigit_1 : decode cX5_isDigit 1 = .ok (.bipush 48, 2) := by decide +kernel
theorem dX5_isDigit_3 : decode cX5_isDigit 3 = .ok (.if_icmp .lt 13, 3) := by decide +kernel
theorem dX5_isDigit_6 : decode cX5_isDigit 6 = .ok (.iload_n 0, 1) := by decide +kernel
theorem dX5_isDigit_7 : decode cX5_isDigit 7 = .ok (.bipush 57, 2) := by decide +kernel
theorem dX5_isDigit_9 : decode cX5_isDigit 9 = .ok (.if_icmp .gt 7, 3) := by decide +kernel
theorem dX5_isDigit_12 : decode cX5_isDigit 12 = .ok (.iconst 1, 1) := by decide +kernel
theorem dX5_isDigit_13 : decode cX5_isDigit 13 = .ok (.goto 4, 3) := by decide +kernel
theorem dX5_isDigit_16 : decode cX5_isDigit 16 = .ok (.iconst 0, 1) := by decide +kernel
theorem dX5_isDigit_17 : decode cX5_isDigit 17 = .ok (.ireturn, 1) := by decide +kernel
theorem dX5_step_0 : decode cX5_step 0 = .ok (.aload_n 0, 1) := by decide +kernel
theorem dX5_step_1 : decode cX5_step 1 = .ok (.getfield 28, 3) := by decide +kernel
theorem dX5_step_4 : decode cX5_step 4 = .ok (.tableswitch 220 0 11 #[64, 71, 88, 95, 110, 120, 139, 146, 157, 174, 181, 201], 64) := by decide +kernel
theorem dX5_step_68 : decode cX5_step 68 = .ok (.aload_n 0, 1) := by decide +kernel
theorem dX5_step_69 : decode cX5_step 69 = .ok (.invokevirtual 97, 3) := by decide +kernel
theorem dX5_step_72 : decode cX5_step 72 = .ok (.goto 156, 3) := by decide +kernel
theorem dX5_step_75 : decode cX5_step 75 = .ok (.aload_n 0, 1) := by decide +kernel
theorem dX5_step_76 : decode cX5_step 76 = .ok (.aload_n 0, 1) := by decide +kernel
theorem dX5_step_77 : decode cX5_step 77 = .ok (.iconst 0, 1) := by decide +kernel
theorem dX5_step_78 : decode cX5_step 78 = .ok (.aload_n 0, 1) := by decide +kernel
theorem dX5_step_79 : decode cX5_step 79 = .ok (.invokevirtual 100, 3) := by decide +kernel
theorem dX5_step_82 : decode cX5_step 82 = .ok (.iconst 2, 1) := by decide +kernel
theorem dX5_step_83 : decode cX5_step 83 = .ok (.invokevirtual 103, 3) := by decide +kernel
theorem dX5_step_86 : decode cX5_step 86 = .ok (.putfield 46, 3) := by decide +kernel
theorem dX5_step_89 : decode cX5_step 89 = .ok (.goto 139, 3) := by decide +kernel
theorem dX5_step_92 : decode cX5_step 92 = .ok (.aload_n 0, 1) := by decide +kernel
theorem dX5_step_93 : decode cX5_step 93 = .ok (.invokevirtual 107, 3) := by decide +kernel
theorem dX5_step_96 : decode cX5_step 96 = .ok (.goto 132, 3) := by decide +kernel
theorem dX5_step_99 : decode cX5_step 99 = .ok (.aload_n 0, 1) := by decide +kernel
theorem dX5_step_100 : decode cX5_step 100 = .ok (.aload_n 0, 1) := by decide +kernel
theorem dX5_step_101 : decode cX5_step 101 = .ok (.iconst 0, 1) := by decide +kernel
theorem dX5_step_102 : decode cX5_step 102 = .ok (.bipush 9, 2) := by decide +kernel
theorem dX5_step_104 : decode cX5_step 104 = .ok (.iconst 4, 1) := by decide +kernel
theorem dX5_step_105 : decode cX5_step 105 = .ok (.invokevirtual 103, 3) := by decide +kernel
theorem dX5_step_108 : decode cX5_step 108 = .ok (.putfield 49, 3) := by decide +kernel
theorem dX5_step_111 : decode cX5_step 111 = .ok (.goto 117, 3) := by decide +kernel
theorem dX5_step_114 : decode cX5_step 114 = .ok (.aload_n 0, 1) := by decide +kernel
theorem dX5_step_115 : decode cX5_step 115 = .ok (.ldc 110, 2) := by decide +kernel
theorem dX5_step_117 : decode cX5_step 117 = .ok (.iconst 5, 1) := by decide +kernel
theorem dX5_step_118 : decode cX5_step 118 = .ok (.invokevirtual 112, 3) := by decide +kernel
theorem dX5_step_121 : decode cX5_step 121 = .ok (.goto 107, 3) := by decide +kernel
theorem dX5_step_124 : decode cX5_step 124 = .ok (.aload_n 0, 1) := by decide +kernel
theorem dX5_step_125 : decode cX5_step 125 = .ok (.aload_n 0, 1) := by decide +kernel
theorem dX5_step_126 : decode cX5_step 126 = .ok (.aload_n 0, 1) := by decide +kernel
theorem dX5_step_127 : decode cX5_step 127 = .ok (.getfield 49, 3) := by decide +kernel
theorem dX5_step_130 : decode cX5_step 130 = .ok (.bipush 9, 2) := by decide +kernel
theorem dX5_step_132 : decode cX5_step 132 = .ok (.bipush 6, 2) := by decide +kernel
theorem dX5_step_134 : decode cX5_step 134 = .ok (.invokevirtual 103, 3) := by decide +kernel
theorem dX5_step_137 : decode cX5_step 137 = .ok (.putfield 52, 3) := by decide +kernel
theorem dX5_step_140 : decode cX5_step 140 = .ok (.goto 88, 3) := by decide +kernel
theorem dX5_step_143 : decode cX5_step 143 = .ok (.aload_n 0, 1) := by decide +kernel
theorem dX5_step_144 : decode cX5_step 144 = .ok (.invokevirtual 116, 3) := by decide +kernel
theorem dX5_step_147 : decode cX5_step 147 = .ok (.goto 81, 3) := by decide +kernel
theorem dX5_step_150 : decode cX5_step 150 = .ok (.aload_n 0, 1) := by decide +kernel
theorem dX5_step_151 : decode cX5_step 151 = .ok (.ldc 119, 2) := by decide +kernel
theorem dX5_step_153 : decode cX5_step 153 = .ok (.bipush 8, 2) := by decide +kernel
theorem dX5_step_155 : decode cX5_step 155 = .ok (.invokevirtual 112, 3) := by decide +kernel
theorem dX5_step_158 : decode cX5_step 158 = .ok (.goto 70, 3) := by decide +kernel
theorem dX5_step_161 : decode cX5_step 161 = .ok (.aload_n 0, 1) := by decide +kernel
theorem dX5_step_162 : decode cX5_step 162 = .ok (.aload_n 0, 1) := by decide +kernel
theorem dX5_step_163 : decode cX5_step 163 = .ok (.iconst 0, 1) := by decide +kernel
theorem dX5_step_164 : decode cX5_step 164 = .ok (.sipush 9999, 3) := by decide +kernel
theorem dX5_step_167 : decode cX5_step 167 = .ok (.bipush 12, 2) := by decide +kernel
theorem dX5_step_169 : decode cX5_step 169 = .ok (.invokevirtual 103, 3) := by decide +kernel
theorem dX5_step_172 : decode cX5_step 172 = .ok (.invokevirtual 121, 3) := by decide +kernel
theorem dX5_step_175 : decode cX5_step 175 = .ok (.goto 53, 3) := by decide +kernel
theorem dX5_step_178 : decode cX5_step 178 = .ok (.aload_n 0, 1) := by decide +kernel
theorem dX5_step_179 : decode cX5_step 179 = .ok (.invokevirtual 125, 3) := by decide +kernel
theorem dX5_step_182 : decode cX5_step 182 = .ok (.goto 46, 3) := by decide +kernel
theorem dX5_step_185 : decode cX5_step 185 = .ok (.aload_n 0, 1) := by decide +kernel
theorem dX5_step_186 : decode cX5_step 186 = .ok (.getfield 12, 3) := by decide +kernel
theorem dX5_step_189 : decode cX5_step 189 = .ok (.aload_n 0, 1) := by decide +kernel
theorem dX5_step_190 : decode cX5_step 190 = .ok (.iconst 0, 1) := by decide +kernel
theorem dX5_step_191 : decode cX5_step 191 = .ok (.sipush 9999, 3) := by decide +kernel
theorem dX5_step_194 : decode cX5_step 194 = .ok (.bipush 12, 2) := by decide +kernel
theorem dX5_step_196 : decode cX5_step 196 = .ok (.invokevirtual 103, 3) := by decide +kernel
theorem dX5_step_199 : decode cX5_step 199 = .ok (.putfield 128, 3) := by decide +kernel
theorem dX5_step_202 : decode cX5_step 202 = .ok (.goto 26, 3) := by decide +kernel
theorem dX5_step_205 : decode cX5_step 205 = .ok (.aload_n 0, 1) := by decide +kernel
theorem dX5_step_206 : decode cX5_step 206 = .ok (.getfield 12, 3) := by decide +kernel
theorem dX5_step_209 : decode cX5_step 209 = .ok (.aload_n 0, 1) := by decide +kernel
theorem dX5_step_210 : decode cX5_step 210 = .ok (.iconst 0, 1) := by decide +kernel
theorem dX5_step_211 : decode cX5_step 211 = .ok (.bipush 100, 2) := by decide +kernel
theorem dX5_step_213 : decode cX5_step 213 = .ok (.bipush 12, 2) := by decide +kernel
theorem dX5_step_215 : decode cX5_step 215 = .ok (.invokevirtual 103, 3) := by decide +kernel
theorem dX5_step_218 : decode cX5_step 218 = .ok (.putfield 131, 3) := by decide +kernel
theorem dX5_step_221 : decode cX5_step 221 = .ok (.goto 7, 3) := by decide +kernel
theorem dX5_step_224 : decode cX5_step 224 = .ok (.aload_n 0, 1) := by decide +kernel
theorem dX5_step_225 : decode cX5_step 225 = .ok (.invokevirtual 134, 3) := by decide +kernel
theorem dX5_step_228 : decode cX5_step 228 = .ok (.return_, 1) := by decide +kernel
theorem dX5_startLine_0 : decode cX5_startLine 0 = .ok (.aload_n 0, 1) := by decide +kernel
theorem dX5_startLine_1 : decode cX5_startLine 1 = .ok (.invokevirtual 137, 3) := by decide +kernel
theorem dX5_startLine_4 : decode cX5_startLine 4 = .ok (.istore_n 1, 1) := by decide +kernel
theorem dX5_startLine_5 : decode cX5_startLine 5 = .ok (.iload_n 1, 1) := by decide +kernel
theorem dX5_startLine_6 : decode cX5_startLine 6 = .ok (.iconst (-1), 1) := by decide +kernel
theorem dX5_startLine_7 : decode cX5_startLine 7 = .ok (.if_icmp .eq 33, 3) := by decide +kernel
theorem dX5_startLine_10 : decode cX5_startLine 10 = .ok (.aload_n 0, 1) := by decide +kernel
theorem dX5_startLine_11 : decode cX5_startLine 11 = .ok (.iload_n 1, 1) := by decide +kernel
theorem dX5_startLine_12 : decode cX5_startLine 12 = .ok (.putfield 43, 3) := by decide +kernel
theorem dX5_startLine_15 : decode cX5_startLine 15 = .ok (.aload_n 0, 1) := by decide +kernel
theorem dX5_startLine_16 : decode cX5_startLine 16 = .ok (.aload_n 0, 1) := by decide +kernel
theorem dX5_startLine_17 : decode cX5_startLine 17 = .ok (.getfield 12, 3) := by decide +kernel
theorem dX5_startLine_20 : decode cX5_startLine 20 = .ok (.getfield 140, 3) := by decide +kernel
theorem dX5_startLine_23 : decode cX5_startLine 23 = .ok (.bipush 12, 2) := by decide +kernel
theorem dX5_startLine_25 : decode cX5_startLine 25 = .ok (.if_icmp .lt 7, 3) := by decide +kernel
theorem dX5_startLine_28 : decode cX5_startLine 28 = .ok (.iconst 4, 1) := by decide +kernel
theorem dX5_startLine_29 : decode cX5_startLine 29 = .ok (.goto 4, 3) := by decide +kernel
theorem dX5_startLine_32 : decode cX5_startLine 32 = .ok (.iconst 0, 1) := by decide +kernel
theorem dX5_startLine_33 : decode cX5_startLine 33 = .ok (.iconst 1, 1) := by decide +kernel
theorem dX5_startLine_34 : decode cX5_startLine 34 = .ok (.invokevirtual 143, 3) := by decide +kernel
theorem dX5_startLine_37 : decode cX5_startLine 37 = .ok (.goto 95, 3) := by decide +kernel
theorem dX5_startLine_40 : decode cX5_startLine 40 = .ok (.aload_n 0, 1) := by decide +kernel
theorem dX5_startLine_41 : decode cX5_startLine 41 = .ok (.ldc 147, 2) := by decide +kernel
theorem dX5_startLine_43 : decode cX5_startLine 43 = .ok (.invokevirtual 149, 3) := by decide +kernel
theorem dX5_startLine_46 : decode cX5_startLine 46 = .ok (.ifCond .eq 13, 3) := by decide +kernel
theorem dX5_startLine_49 : decode cX5_startLine 49 = .ok (.aload_n 0, 1) := by decide +kernel
theorem dX5_startLine_50 : decode cX5_startLine 50 = .ok (.iconst 0, 1) := by decide +kernel
theorem dX5_startLine_51 : decode cX5_startLine 51 = .ok (.bipush 9, 2) := by decide +kernel
theorem dX5_startLine_53 : decode cX5_startLine 53 = .ok (.invokevirtual 143, 3) := by decide +kernel
theorem dX5_startLine_56 : decode cX5_startLine 56 = .ok (.goto 76, 3) := by decide +kernel
theorem dX5_startLine_59 : decode cX5_startLine 59 = .ok (.aload_n 0, 1) := by decide +kernel
theorem dX5_startLine_60 : decode cX5_startLine 60 = .ok (.ldc 153, 2) := by decide +kernel
theorem dX5_startLine_62 : decode cX5_startLine 62 = .ok (.invokevirtual 149, 3) := by decide +kernel
theorem dX5_startLine_65 : decode cX5_startLine 65 = .ok (.ifCond .eq 28, 3) := by decide +kernel
theorem dX5_startLine_68 : decode cX5_startLine 68 = .ok (.aload_n 0, 1) := by decide +kernel
theorem dX5_startLine_69 : decode cX5_startLine 69 = .ok (.aload_n 0, 1) := by decide +kernel
theorem dX5_startLine_70 : decode cX5_startLine 70 = .ok (.getfield 12, 3) := by decide +kernel
theorem dX5_startLine_73 : decode cX5_startLine 73 = .ok (.getfield 128, 3) := by decide +kernel
theorem dX5_startLine_76 : decode cX5_startLine 76 = .ok (.iconst (-1), 1) := by decide +kernel
theorem dX5_startLine_77 : decode cX5_startLine 77 = .ok (.if_icmp .eq 7, 3) := by decide +kernel
theorem dX5_startLine_80 : decode cX5_startLine 80 = .ok (.iconst 3, 1) := by decide +kernel
theorem dX5_startLine_81 : decode cX5_startLine 81 = .ok (.goto 4, 3) := by decide +kernel
theorem dX5_startLine_84 : decode cX5_startLine 84 = .ok (.iconst 0, 1) := by decide +kernel
theorem dX5_startLine_85 : decode cX5_startLine 85 = .ok (.bipush 10, 2) := by decide +kernel
theorem dX5_startLine_87 : decode cX5_startLine 87 = .ok (.invokevirtual 143, 3) := by decide +kernel
theorem dX5_startLine_90 : decode cX5_startLine 90 = .ok (.goto 42, 3) := by decide +kernel
theorem dX5_startLine_93 : decode cX5_startLine 93 = .ok (.aload_n 0, 1) := by decide +kernel
theorem dX5_startLine_94 : decode cX5_startLine 94 = .ok (.ldc 154, 2) := by decide +kernel
theorem dX5_startLine_96 : decode cX5_startLine 96 = .ok (.invokevirtual 149, 3) := by decide +kernel
theorem dX5_startLine_99 : decode cX5_startLine 99 = .ok (.ifCond .eq 28, 3) := by decide +kernel
theorem dX5_startLine_102 : decode cX5_startLine 102 = .ok (.aload_n 0, 1) := by decide +kernel
theorem dX5_startLine_103 : decode cX5_startLine 103 = .ok (.aload_n 0, 1) := by decide +kernel
theorem dX5_startLine_104 : decode cX5_startLine 104 = .ok (.getfield 12, 3) := by decide +kernel
theorem dX5_startLine_107 : decode cX5_startLine 107 = .ok (.getfield 131, 3) := by decide +kernel
theorem dX5_startLine_110 : decode cX5_startLine 110 = .ok (.iconst (-1), 1) := by decide +kernel
theorem dX5_startLine_111 : decode cX5_startLine 111 = .ok (.if_icmp .eq 7, 3) := by decide +kernel
theorem dX5_startLine_114 : decode cX5_startLine 114 = .ok (.iconst 3, 1) := by decide +kernel
theorem dX5_startLine_115 : decode cX5_startLine 115 = .ok (.goto 4, 3) := by decide +kernel
theorem dX5_startLine_118 : decode cX5_startLine 118 = .ok (.iconst 0, 1) := by decide +kernel
theorem dX5_startLine_119 : decode cX5_startLine 119 = .ok (.bipush 11, 2) := by decide +kernel
theorem dX5_startLine_121 : decode cX5_startLine 121 = .ok (.invokevirtual 143, 3) := by decide +kernel
theorem dX5_startLine_124 : decode cX5_startLine 124 = .ok (.goto 8, 3) := by decide +kernel
theorem dX5_startLine_127 : decode cX5_startLine 127 = .ok (.aload_n 0, 1) := by decide +kernel
theorem dX5_startLine_128 : decode cX5_startLine 128 = .ok (.iconst 1, 1) := by decide +kernel
theorem dX5_startLine_129 : decode cX5_startLine 129 = .ok (.invokevirtual 155, 3) := by decide +kernel
theorem dX5_startLine_132 : decode cX5_startLine 132 = .ok (.return_, 1) := by decide +kernel
theorem dX5_ruleKind_0 : decode cX5_ruleKind 0 = .ok (.aload_n 0, 1) := by decide +kernel
theorem dX5_ruleKind_1 : decode cX5_ruleKind 1 = .ok (.ldc 158, 2) := by decide +kernel
theorem dX5_ruleKind_3 : decode cX5_ruleKind 3 = .ok (.invokevirtual 149, 3) := by decide +kernel
theorem dX5_ruleKind_6 : decode cX5_ruleKind 6 = .ok (.ifCond .eq 5, 3) := by decide +kernel
theorem dX5_ruleKind_9 : decode cX5_ruleKind 9 = .ok (.iconst 0, 1) := by decide +kernel
theorem dX5_ruleKind_10 : decode cX5_ruleKind 10 = .ok (.ireturn, 1) := by decide +kernel
theorem dX5_ruleKind_11 : decode cX5_ruleKind 11 = .ok (.aload_n 0, 1) := by decide +kernel
theorem dX5_ruleKind_12 : decode cX5_ruleKind 12 = .ok (.ldc 160, 2) := by decide +kernel
theorem dX5_ruleKind_14 : decode cX5_ruleKind 14 = .ok (.invokevirtual 149, 3) := by decide +kernel
theorem dX5_ruleKind_17 : decode cX5_ruleKind 17 = .ok (.ifCond .eq 5, 3) := by decide +kernel
theorem dX5_ruleKind_20 : decode cX5_ruleKind 20 = .ok (.iconst 1, 1) := by decide +kernel
theorem dX5_ruleKind_21 : decode cX5_ruleKind 21 = .ok (.ireturn, 1) := by decide +kernel
theorem dX5_ruleKind_22 : decode cX5_ruleKind 22 = .ok (.aload_n 0, 1) := by decide +kernel
theorem dX5_ruleKind_23 : decode cX5_ruleKind 23 = .ok (.ldc 162, 2) := by decide +kernel
theorem dX5_ruleKind_25 : decode cX5_ruleKind 25 = .ok (.invokevirtual 149, 3) := by decide +kernel
theorem dX5_ruleKind_28 : decode cX5_ruleKind 28 = .ok (.ifCond .eq 5, 3) := by decide +kernel
theorem dX5_ruleKind_31 : decode cX5_ruleKind 31 = .ok (.iconst 2, 1) := by decide +kernel
theorem dX5_ruleKind_32 : decode cX5_ruleKind 32 = .ok (.ireturn, 1) := by decide +kernel
theorem dX5_ruleKind_33 : decode cX5_ruleKind 33 = .ok (.aload_n 0, 1) := by decide +kernel
theorem dX5_ruleKind_34 : decode cX5_ruleKind 34 = .ok (.ldc 164, 2) := by decide +kernel
theorem dX5_ruleKind_36 : decode cX5_ruleKind 36 = .ok (.invokevirtual 149, 3) := by decide +kernel
theorem dX5_ruleKind_39 : decode cX5_ruleKind 39 = .ok (.ifCond .eq 5, 3) := by decide +kernel
theorem dX5_ruleKind_42 : decode cX5_ruleKind 42 = .ok (.iconst 3, 1) := by decide +kernel
theorem dX5_ruleKind_43 : decode cX5_ruleKind 43 = .ok (.ireturn, 1) := by decide +kernel
theorem dX5_ruleKind_44 : decode cX5_ruleKind 44 = .ok (.aload_n 0, 1) := by decide +kernel
theorem dX5_ruleKind_45 : decode cX5_ruleKind 45 = .ok (.ldc 166, 2) := by decide +kernel
theorem dX5_ruleKind_47 : decode cX5_ruleKind 47 = .ok (.invokevirtual 149, 3) := by decide +kernel
theorem dX5_ruleKind_50 : decode cX5_ruleKind 50 = .ok (.ifCond .eq 5, 3) := by decide +kernel
theorem dX5_ruleKind_53 : decode cX5_ruleKind 53 = .ok (.iconst 4, 1) := by decide +kernel
theorem dX5_ruleKind_54 : decode cX5_ruleKind 54 = .ok (.ireturn, 1) := by decide +kernel
theorem dX5_ruleKind_55 : decode cX5_ruleKind 55 = .ok (.aload_n 0, 1) := by decide +kernel
theorem dX5_ruleKind_56 : decode cX5_ruleKind 56 = .ok (.ldc 168, 2) := by decide +kernel
theorem dX5_ruleKind_58 : decode cX5_ruleKind 58 = .ok (.invokevirtual 149, 3) := by decide +kernel
theorem dX5_ruleKind_61 : decode cX5_ruleKind 61 = .ok (.ifCond .eq 5, 3) := by decide +kernel
theorem dX5_ruleKind_64 : decode cX5_ruleKind 64 = .ok (.iconst 5, 1) := by decide +kernel
theorem dX5_ruleKind_65 : decode cX5_ruleKind 65 = .ok (.ireturn, 1) := by decide +kernel
theorem dX5_ruleKind_66 : decode cX5_ruleKind 66 = .ok (.aload_n 0, 1) := by decide +kernel
theorem dX5_ruleKind_67 : decode cX5_ruleKind 67 = .ok (.ldc 170, 2) := by decide +kernel
theorem dX5_ruleKind_69 : decode cX5_ruleKind 69 = .ok (.invokevirtual 149, 3) := by decide +kernel
theorem dX5_ruleKind_72 : decode cX5_ruleKind 72 = .ok (.ifCond .eq 6, 3) := by decide +kernel
theorem dX5_ruleKind_75 : decode cX5_ruleKind 75 = .ok (.bipush 6, 2) := by decide +kernel
theorem dX5_ruleKind_77 : decode cX5_ruleKind 77 = .ok (.ireturn, 1) := by decide +kernel
theorem dX5_ruleKind_78 : decode cX5_ruleKind 78 = .ok (.aload_n 0, 1) := by decide +kernel
theorem dX5_ruleKind_79 : decode cX5_ruleKind 79 = .ok (.ldc 172, 2) := by decide +kernel
theorem dX5_ruleKind_81 : decode cX5_ruleKind 81 = .ok (.invokevirtual 149, 3) := by decide +kernel
theorem dX5_ruleKind_84 : decode cX5_ruleKind 84 = .ok (.ifCond .eq 8, 3) := by decide +kernel
theorem dX5_ruleKind_87 : decode cX5_ruleKind 87 = .ok (.bipush 7, 2) := by decide +kernel
theorem dX5_ruleKind_89 : decode cX5_ruleKind 89 = .ok (.goto 4, 3) := by decide +kernel
theorem dX5_ruleKind_92 : decode cX5_ruleKind 92 = .ok (.iconst (-1), 1) := by decide +kernel
theorem dX5_ruleKind_93 : decode cX5_ruleKind 93 = .ok (.ireturn, 1) := by decide +kernel
theorem dX5_topLimit_0 : decode cX5_topLimit 0 = .ok (.aload_n 0, 1) := by decide +kernel
theorem dX5_topLimit_1 : decode cX5_topLimit 1 = .ok (.getfield 43, 3) := by decide +kernel
theorem dX5_topLimit_4 : decode cX5_topLimit 4 = .ok (.tableswitch 37 5 7 #[28, 31, 34], 28) := by decide +kernel
theorem dX5_topLimit_32 : decode cX5_topLimit 32 = .ok (.bipush 15, 2) := by decide +kernel
theorem dX5_topLimit_34 : decode cX5_topLimit 34 = .ok (.ireturn, 1) := by decide +kernel
theorem dX5_topLimit_35 : decode cX5_topLimit 35 = .ok (.bipush 7, 2) := by decide +kernel
theorem dX5_topLimit_37 : decode cX5_topLimit 37 = .ok (.ireturn, 1) := by decide +kernel
theorem dX5_topLimit_38 : decode cX5_topLimit 38 = .ok (.bipush 7, 2) := by decide +kernel
theorem dX5_topLimit_40 : decode cX5_topLimit 40 = .ok (.ireturn, 1) := by decide +kernel
theorem dX5_topLimit_41 : decode cX5_topLimit 41 = .ok (.sipush 9999, 3) := by decide +kernel
theorem dX5_topLimit_44 : decode cX5_topLimit 44 = .ok (.ireturn, 1) := by decide +kernel
theorem dX5_readWho_0 : decode cX5_readWho 0 = .ok (.aload_n 0, 1) := by decide +kernel
theorem dX5_readWho_1 : decode cX5_readWho 1 = .ok (.ldc 174, 2) := by decide +kernel
theorem dX5_readWho_3 : decode cX5_readWho 3 = .ok (.invokevirtual 149, 3) := by decide +kernel
theorem dX5_readWho_6 : decode cX5_readWho 6 = .ok (.ifCond .eq 23, 3) := by decide +kernel
theorem dX5_readWho_9 : decode cX5_readWho 9 = .ok (.aload_n 0, 1) := by decide +kernel
theorem dX5_readWho_10 : decode cX5_readWho 10 = .ok (.iconst 0, 1) := by decide +kernel
theorem dX5_readWho_11 : decode cX5_readWho 11 = .ok (.putfield 49, 3) := by decide +kernel
theorem dX5_readWho_14 : decode cX5_readWho 14 = .ok (.aload_n 0, 1) := by decide +kernel
theorem dX5_readWho_15 : decode cX5_readWho 15 = .ok (.bipush 9, 2) := by decide +kernel
theorem dX5_readWho_17 : decode cX5_readWho 17 = .ok (.putfield 52, 3) := by decide +kernel
theorem dX5_readWho_20 : decode cX5_readWho 20 = .ok (.aload_n 0, 1) := by decide +kernel
theorem dX5_readWho_21 : decode cX5_readWho 21 = .ok (.bipush 6, 2) := by decide +kernel
theorem dX5_readWho_23 : decode cX5_readWho 23 = .ok (.putfield 28, 3) := by decide +kernel
theorem dX5_readWho_26 : decode cX5_readWho 26 = .ok (.goto 10, 3) := by decide +kernel
theorem dX5_readWho_29 : decode cX5_readWho 29 = .ok (.aload_n 0, 1) := by decide +kernel
theorem dX5_readWho_30 : decode cX5_readWho 30 = .ok (.ldc 176, 2) := by decide +kernel
theorem dX5_readWho_32 : decode cX5_readWho 32 = .ok (.iconst 3, 1) := by decide +kernel
theorem dX5_readWho_33 : decode cX5_readWho 33 = .ok (.invokevirtual 112, 3) := by decide +kernel
theorem dX5_readWho_36 : decode cX5_readWho 36 = .ok (.return_, 1) := by decide +kernel
theorem dX5_readWhen_0 : decode cX5_readWhen 0 = .ok (.aload_n 0, 1) := by decide +kernel
theorem dX5_readWhen_1 : decode cX5_readWhen 1 = .ok (.aload_n 0, 1) := by decide +kernel
theorem dX5_readWhen_2 : decode cX5_readWhen 2 = .ok (.invokevirtual 178, 3) := by decide +kernel
theorem dX5_readWhen_5 : decode cX5_readWhen 5 = .ok (.putfield 55, 3) := by decide +kernel
theorem dX5_readWhen_8 : decode cX5_readWhen 8 = .ok (.aload_n 0, 1) := by decide +kernel
theorem dX5_readWhen_9 : decode cX5_readWhen 9 = .ok (.aload_n 0, 1) := by decide +kernel
theorem dX5_readWhen_10 : decode cX5_readWhen 10 = .ok (.getfield 55, 3) := by decide +kernel
theorem dX5_readWhen_13 : decode cX5_readWhen 13 = .ok (.iconst (-1), 1) := by decide +kernel
theorem dX5_readWhen_14 : decode cX5_readWhen 14 = .ok (.if_icmp .ne 7, 3) := by decide +kernel
theorem dX5_readWhen_17 : decode cX5_readWhen 17 = .ok (.iconst 1, 1) := by decide +kernel
theorem dX5_readWhen_18 : decode cX5_readWhen 18 = .ok (.goto 4, 3) := by decide +kernel
theorem dX5_readWhen_21 : decode cX5_readWhen 21 = .ok (.iconst 0, 1) := by decide +kernel
theorem dX5_readWhen_22 : decode cX5_readWhen 22 = .ok (.bipush 7, 2) := by decide +kernel
theorem dX5_readWhen_24 : decode cX5_readWhen 24 = .ok (.invokevirtual 143, 3) := by decide +kernel
theorem dX5_readWhen_27 : decode cX5_readWhen 27 = .ok (.return_, 1) := by decide +kernel
theorem dX5_whenWord_0 : decode cX5_whenWord 0 = .ok (.aload_n 0, 1) := by decide +kernel
theorem dX5_whenWord_1 : decode cX5_whenWord 1 = .ok (.ldc 181, 2) := by decide +kernel
theorem dX5_whenWord_3 : decode cX5_whenWord 3 = .ok (.invokevirtual 149, 3) := by decide +kernel
theorem dX5_whenWord_6 : decode cX5_whenWord 6 = .ok (.ifCond .eq 5, 3) := by decide +kernel
theorem dX5_whenWord_9 : decode cX5_whenWord 9 = .ok (.iconst 0, 1) := by decide +kernel
theorem dX5_whenWord_10 : decode cX5_whenWord 10 = .ok (.ireturn, 1) := by decide +kernel
theorem dX5_whenWord_11 : decode cX5_whenWord 11 = .ok (.aload_n 0, 1) := by decide +kernel
theorem dX5_whenWord_12 : decode cX5_whenWord 12 = .ok (.ldc 183, 2) := by decide +kernel
theorem dX5_whenWord_14 : decode cX5_whenWord 14 = .ok (.invokevirtual 149, 3) := by decide +kernel
theorem dX5_whenWord_17 : decode cX5_whenWord 17 = .ok (.ifCond .eq 5, 3) := by decide +kernel
theorem dX5_whenWord_20 : decode cX5_whenWord 20 = .ok (.iconst 1, 1) := by decide +kernel
theorem dX5_whenWord_21 : decode cX5_whenWord 21 = .ok (.ireturn, 1) := by decide +kernel
theorem dX5_whenWord_22 : decode cX5_whenWord 22 = .ok (.aload_n 0, 1) := by decide +kernel
theorem dX5_whenWord_23 : decode cX5_whenWord 23 = .ok (.ldc 185, 2) := by decide +kernel
theorem dX5_whenWord_25 : decode cX5_whenWord 25 = .ok (.invokevirtual 149, 3) := by decide +kernel
theorem dX5_whenWord_28 : decode cX5_whenWord 28 = .ok (.ifCond .eq 5, 3) := by decide +kernel
theorem dX5_whenWord_31 : decode cX5_whenWord 31 = .ok (.iconst 2, 1) := by decide +kernel
theorem dX5_whenWord_32 : decode cX5_whenWord 32 = .ok (.ireturn, 1) := by decide +kernel
theorem dX5_whenWord_33 : decode cX5_whenWord 33 = .ok (.aload_n 0, 1) := by decide +kernel
theorem dX5_whenWord_34 : decode cX5_whenWord 34 = .ok (.ldc 187, 2) := by decide +kernel
theorem dX5_whenWord_36 : decode cX5_whenWord 36 = .ok (.invokevirtual 149, 3) := by decide +kernel
theorem dX5_whenWord_39 : decode cX5_whenWord 39 = .ok (.ifCond .eq 7, 3) := by decide +kernel
theorem dX5_whenWord_42 : decode cX5_whenWord 42 = .ok (.iconst 3, 1) := by decide +kernel
theorem dX5_whenWord_43 : decode cX5_whenWord 43 = .ok (.goto 4, 3) := by decide +kernel
theorem dX5_whenWord_46 : decode cX5_whenWord 46 = .ok (.iconst (-1), 1) := by decide +kernel
theorem dX5_whenWord_47 : decode cX5_whenWord 47 = .ok (.ireturn, 1) := by decide +kernel
theorem dX5_finishRule_0 : decode cX5_finishRule 0 = .ok (.aload_n 0, 1) := by decide +kernel
theorem dX5_finishRule_1 : decode cX5_finishRule 1 = .ok (.getfield 22, 3) := by decide +kernel
theorem dX5_finishRule_4 : decode cX5_finishRule 4 = .ok (.ifCond .ne 38, 3) := by decide +kernel
theorem dX5_finishRule_7 : decode cX5_finishRule 7 = .ok (.aload_n 0, 1) := by decide +kernel
theorem dX5_finishRule_8 : decode cX5_finishRule 8 = .ok (.getfield 12, 3) := by decide +kernel
theorem dX5_finishRule_11 : decode cX5_finishRule 11 = .ok (.new 189, 3) := by decide +kernel
theorem dX5_finishRule_14 : decode cX5_finishRule 14 = .ok (.dup, 1) := by decide +kernel
theorem dX5_finishRule_15 : decode cX5_finishRule 15 = .ok (.aload_n 0, 1) := by decide +kernel
theorem dX5_finishRule_16 : decode cX5_finishRule 16 = .ok (.getfield 43, 3) := by decide +kernel
theorem dX5_finishRule_19 : decode cX5_finishRule 19 = .ok (.aload_n 0, 1) := by decide +kernel
theorem dX5_finishRule_20 : decode cX5_finishRule 20 = .ok (.getfield 46, 3) := by decide +kernel
theorem dX5_finishRule_23 : decode cX5_finishRule 23 = .ok (.aload_n 0, 1) := by decide +kernel
theorem dX5_finishRule_24 : decode cX5_finishRule 24 = .ok (.getfield 49, 3) := by decide +kernel
theorem dX5_finishRule_27 : decode cX5_finishRule 27 = .ok (.aload_n 0, 1) := by decide +kernel
theorem dX5_finishRule_28 : decode cX5_finishRule 28 = .ok (.getfield 52, 3) := by decide +kernel
theorem dX5_finishRule_31 : decode cX5_finishRule 31 = .ok (.aload_n 0, 1) := by decide +kernel
theorem dX5_finishRule_32 : decode cX5_finishRule 32 = .ok (.getfield 55, 3) := by decide +kernel
theorem dX5_finishRule_35 : decode cX5_finishRule 35 = .ok (.iload_n 1, 1) := by decide +kernel
theorem dX5_finishRule_36 : decode cX5_finishRule 36 = .ok (.invokespecial 191, 3) := by decide +kernel
theorem dX5_finishRule_39 : decode cX5_finishRule 39 = .ok (.invokevirtual 194, 3) := by decide +kernel
theorem dX5_finishRule_42 : decode cX5_finishRule 42 = .ok (.return_, 1) := by decide +kernel
theorem dX5_readRepeal_0 : decode cX5_readRepeal 0 = .ok (.iconst 1, 1) := by decide +kernel
theorem dX5_readRepeal_1 : decode cX5_readRepeal 1 = .ok (.aload_n 0, 1) := by decide +kernel
theorem dX5_readRepeal_2 : decode cX5_readRepeal 2 = .ok (.iconst 0, 1) := by decide +kernel
theorem dX5_readRepeal_3 : decode cX5_readRepeal 3 = .ok (.aload_n 0, 1) := by decide +kernel
theorem dX5_readRepeal_4 : decode cX5_readRepeal 4 = .ok (.getfield 18, 3) := by decide +kernel
theorem dX5_readRepeal_7 : decode cX5_readRepeal 7 = .ok (.iconst 1, 1) := by decide +kernel
theorem dX5_readRepeal_8 : decode cX5_readRepeal 8 = .ok (.isub, 1) := by decide +kernel
theorem dX5_readRepeal_9 : decode cX5_readRepeal 9 = .ok (.bipush 12, 2) := by decide +kernel
theorem dX5_readRepeal_11 : decode cX5_readRepeal 11 = .ok (.invokevirtual 103, 3) := by decide +kernel
theorem dX5_readRepeal_14 : decode cX5_readRepeal 14 = .ok (.ishl, 1) := by decide +kernel
theorem dX5_readRepeal_15 : decode cX5_readRepeal 15 = .ok (.istore_n 1, 1) := by decide +kernel
theorem dX5_readRepeal_16 : decode cX5_readRepeal 16 = .ok (.aload_n 0, 1) := by decide +kernel
theorem dX5_readRepeal_17 : decode cX5_readRepeal 17 = .ok (.getfield 22, 3) := by decide +kernel
theorem dX5_readRepeal_20 : decode cX5_readRepeal 20 = .ok (.ifCond .ne 39, 3) := by decide +kernel
theorem dX5_readRepeal_23 : decode cX5_readRepeal 23 = .ok (.aload_n 0, 1) := by decide +kernel
theorem dX5_readRepeal_24 : decode cX5_readRepeal 24 = .ok (.aload_n 0, 1) := by decide +kernel
theorem dX5_readRepeal_25 : decode cX5_readRepeal 25 = .ok (.getfield 12, 3) := by decide +kernel
theorem dX5_readRepeal_28 : decode cX5_readRepeal 28 = .ok (.getfield 198, 3) := by decide +kernel
theorem dX5_readRepeal_31 : decode cX5_readRepeal 31 = .ok (.iload_n 1, 1) := by decide +kernel
theorem dX5_readRepeal_32 : decode cX5_readRepeal 32 = .ok (.iand, 1) := by decide +kernel
theorem dX5_readRepeal_33 : decode cX5_readRepeal 33 = .ok (.ifCond .eq 7, 3) := by decide +kernel
theorem dX5_readRepeal_36 : decode cX5_readRepeal 36 = .ok (.iconst 3, 1) := by decide +kernel
theorem dX5_readRepeal_37 : decode cX5_readRepeal 37 = .ok (.goto 4, 3) := by decide +kernel
theorem dX5_readRepeal_40 : decode cX5_readRepeal 40 = .ok (.iconst 0, 1) := by decide +kernel
theorem dX5_readRepeal_41 : decode cX5_readRepeal 41 = .ok (.bipush 12, 2) := by decide +kernel
theorem dX5_readRepeal_43 : decode cX5_readRepeal 43 = .ok (.invokevirtual 143, 3) := by decide +kernel
theorem dX5_readRepeal_46 : decode cX5_readRepeal 46 = .ok (.aload_n 0, 1) := by decide +kernel
theorem dX5_readRepeal_47 : decode cX5_readRepeal 47 = .ok (.getfield 12, 3) := by decide +kernel
theorem dX5_readRepeal_50 : decode cX5_readRepeal 50 = .ok (.dup, 1) := by decide +kernel
theorem dX5_readRepeal_51 : decode cX5_readRepeal 51 = .ok (.getfield 198, 3) := by decide +kernel
theorem dX5_readRepeal_54 : decode cX5_readRepeal 54 = .ok (.iload_n 1, 1) := by decide +kernel
theorem dX5_readRepeal_55 : decode cX5_readRepeal 55 = .ok (.ior, 1) := by decide +kernel
theorem dX5_readRepeal_56 : decode cX5_readRepeal 56 = .ok (.putfield 198, 3) := by decide +kernel
theorem dX5_readRepeal_59 : decode cX5_readRepeal 59 = .ok (.return_, 1) := by decide +kernel
theorem dX5_endLine_0 : decode cX5_endLine 0 = .ok (.aload_n 0, 1) := by decide +kernel
theorem dX5_endLine_1 : decode cX5_endLine 1 = .ok (.aload_n 0, 1) := by decide +kernel
theorem dX5_endLine_2 : decode cX5_endLine 2 = .ok (.getfield 31, 3) := by decide +kernel
theorem dX5_endLine_5 : decode cX5_endLine 5 = .ok (.iconst 3, 1) := by decide +kernel
theorem dX5_endLine_6 : decode cX5_endLine 6 = .ok (.if_icmp .ne 7, 3) := by decide +kernel
theorem dX5_endLine_9 : decode cX5_endLine 9 = .ok (.iconst 0, 1) := by decide +kernel
theorem dX5_endLine_10 : decode cX5_endLine 10 = .ok (.goto 4, 3) := by decide +kernel
theorem dX5_endLine_13 : decode cX5_endLine 13 = .ok (.iconst 1, 1) := by decide +kernel
theorem dX5_endLine_14 : decode cX5_endLine 14 = .ok (.iconst 0, 1) := by decide +kernel
theorem dX5_endLine_15 : decode cX5_endLine 15 = .ok (.invokevirtual 143, 3) := by decide +kernel
theorem dX5_endLine_18 : decode cX5_endLine 18 = .ok (.return_, 1) := by decide +kernel
theorem dX5_takeNumber_0 : decode cX5_takeNumber 0 = .ok (.aload_n 0, 1) := by decide +kernel
theorem dX5_takeNumber_1 : decode cX5_takeNumber 1 = .ok (.getfield 31, 3) := by decide +kernel
theorem dX5_takeNumber_4 : decode cX5_takeNumber 4 = .ok (.iconst 2, 1) := by decide +kernel
theorem dX5_takeNumber_5 : decode cX5_takeNumber 5 = .ok (.if_icmp .eq 10, 3) := by decide +kernel
theorem dX5_takeNumber_8 : decode cX5_takeNumber 8 = .ok (.aload_n 0, 1) := by decide +kernel
theorem dX5_takeNumber_9 : decode cX5_takeNumber 9 = .ok (.iconst 1, 1) := by decide +kernel
theorem dX5_takeNumber_10 : decode cX5_takeNumber 10 = .ok (.invokevirtual 155, 3) := by decide +kernel
theorem dX5_takeNumber_13 : decode cX5_takeNumber 13 = .ok (.iconst 0, 1) := by decide +kernel
theorem dX5_takeNumber_14 : decode cX5_takeNumber 14 = .ok (.ireturn, 1) := by decide +kernel
theorem dX5_takeNumber_15 : decode cX5_takeNumber 15 = .ok (.aload_n 0, 1) := by decide +kernel
theorem dX5_takeNumber_16 : decode cX5_takeNumber 16 = .ok (.getfield 40, 3) := by decide +kernel
theorem dX5_takeNumber_19 : decode cX5_takeNumber 19 = .ok (.iload_n 1, 1) := by decide +kernel
theorem dX5_takeNumber_20 : decode cX5_takeNumber 20 = .ok (.if_icmp .lt 11, 3) := by decide +kernel
theorem dX5_takeNumber_23 : decode cX5_takeNumber 23 = .ok (.aload_n 0, 1) := by decide +kernel
theorem dX5_takeNumber_24 : decode cX5_takeNumber 24 = .ok (.getfield 40, 3) := by decide +kernel
theorem dX5_takeNumber_27 : decode cX5_takeNumber 27 = .ok (.iload_n 2, 1) := by decide +kernel
theorem dX5_takeNumber_28 : decode cX5_takeNumber 28 = .ok (.if_icmp .le 10, 3) := by decide +kernel
theorem dX5_takeNumber_31 : decode cX5_takeNumber 31 = .ok (.aload_n 0, 1) := by decide +kernel
theorem dX5_takeNumber_32 : decode cX5_takeNumber 32 = .ok (.iconst 2, 1) := by decide +kernel
theorem dX5_takeNumber_33 : decode cX5_takeNumber 33 = .ok (.invokevirtual 155, 3) := by decide +kernel
theorem dX5_takeNumber_36 : decode cX5_takeNumber 36 = .ok (.iconst 0, 1) := by decide +kernel
theorem dX5_takeNumber_37 : decode cX5_takeNumber 37 = .ok (.ireturn, 1) := by decide +kernel
theorem dX5_takeNumber_38 : decode cX5_takeNumber 38 = .ok (.aload_n 0, 1) := by decide +kernel
theorem dX5_takeNumber_39 : decode cX5_takeNumber 39 = .ok (.iload_n 3, 1) := by decide +kernel
theorem dX5_takeNumber_40 : decode cX5_takeNumber 40 = .ok (.putfield 28, 3) := by decide +kernel
theorem dX5_takeNumber_43 : decode cX5_takeNumber 43 = .ok (.aload_n 0, 1) := by decide +kernel
theorem dX5_takeNumber_44 : decode cX5_takeNumber 44 = .ok (.getfield 40, 3) := by decide +kernel
theorem dX5_takeNumber_47 : decode cX5_takeNumber 47 = .ok (.ireturn, 1) := by decide +kernel
theorem dX5_takeWord_0 : decode cX5_takeWord 0 = .ok (.aload_n 0, 1) := by decide +kernel
theorem dX5_takeWord_1 : decode cX5_takeWord 1 = .ok (.aload_n 0, 1) := by decide +kernel
theorem dX5_takeWord_2 : decode cX5_takeWord 2 = .ok (.aload_n 1, 1) := by decide +kernel
theorem dX5_takeWord_3 : decode cX5_takeWord 3 = .ok (.invokevirtual 149, 3) := by decide +kernel
theorem dX5_takeWord_6 : decode cX5_takeWord 6 = .ok (.ifCond .eq 7, 3) := by decide +kernel
theorem dX5_takeWord_9 : decode cX5_takeWord 9 = .ok (.iconst 0, 1) := by decide +kernel
theorem dX5_takeWord_10 : decode cX5_takeWord 10 = .ok (.goto 4, 3) := by decide +kernel
theorem dX5_takeWord_13 : decode cX5_takeWord 13 = .ok (.iconst 1, 1) := by decide +kernel
theorem dX5_takeWord_14 : decode cX5_takeWord 14 = .ok (.iload_n 2, 1) := by decide +kernel
theorem dX5_takeWord_15 : decode cX5_takeWord 15 = .ok (.invokevirtual 143, 3) := by decide +kernel
theorem dX5_takeWord_18 : decode cX5_takeWord 18 = .ok (.return_, 1) := by decide +kernel
theorem dX5_isWord_0 : decode cX5_isWord 0 = .ok (.aload_n 0, 1) := by decide +kernel
theorem dX5_isWord_1 : decode cX5_isWord 1 = .ok (.getfield 31, 3) := by decide +kernel
theorem dX5_isWord_4 : decode cX5_isWord 4 = .ok (.iconst 1, 1) := by decide +kernel
theorem dX5_isWord_5 : decode cX5_isWord 5 = .ok (.if_icmp .ne 19, 3) := by decide +kernel
theorem dX5_isWord_8 : decode cX5_isWord 8 = .ok (.aload_n 0, 1) := by decide +kernel
theorem dX5_isWord_9 : decode cX5_isWord 9 = .ok (.getfield 37, 3) := by decide +kernel
theorem dX5_isWord_12 : decode cX5_isWord 12 = .ok (.aload_n 0, 1) := by decide +kernel
theorem dX5_isWord_13 : decode cX5_isWord 13 = .ok (.getfield 34, 3) := by decide +kernel
theorem dX5_isWord_16 : decode cX5_isWord 16 = .ok (.isub, 1) := by decide +kernel
theorem dX5_isWord_17 : decode cX5_isWord 17 = .ok (.aload_n 1, 1) := by decide +kernel
theorem dX5_isWord_18 : decode cX5_isWord 18 = .ok (.invokevirtual 201, 3) := by decide +kernel
theorem dX5_isWord_21 : decode cX5_isWord 21 = .ok (.if_icmp .eq 5, 3) := by decide +kernel
theorem dX5_isWord_24 : decode cX5_isWord 24 = .ok (.iconst 0, 1) := by decide +kernel
theorem dX5_isWord_25 : decode cX5_isWord 25 = .ok (.ireturn, 1) := by decide +kernel
theorem dX5_isWord_26 : decode cX5_isWord 26 = .ok (.iconst 0, 1) := by decide +kernel
theorem dX5_isWord_27 : decode cX5_isWord 27 = .ok (.istore_n 2, 1) := by decide +kernel
theorem dX5_isWord_28 : decode cX5_isWord 28 = .ok (.iload_n 2, 1) := by decide +kernel
theorem dX5_isWord_29 : decode cX5_isWord 29 = .ok (.aload_n 1, 1) := by decide +kernel
theorem dX5_isWord_30 : decode cX5_isWord 30 = .ok (.invokevirtual 201, 3) := by decide +kernel
theorem dX5_isWord_33 : decode cX5_isWord 33 = .ok (.if_icmp .ge 32, 3) := by decide +kernel
theorem dX5_isWord_36 : decode cX5_isWord 36 = .ok (.aload_n 0, 1) := by decide +kernel
theorem dX5_isWord_37 : decode cX5_isWord 37 = .ok (.getfield 58, 3) := by decide +kernel
theorem dX5_isWord_40 : decode cX5_isWord 40 = .ok (.aload_n 0, 1) := by decide +kernel
theorem dX5_isWord_41 : decode cX5_isWord 41 = .ok (.getfield 34, 3) := by decide +kernel
theorem dX5_isWord_44 : decode cX5_isWord 44 = .ok (.iload_n 2, 1) := by decide +kernel
theorem dX5_isWord_45 : decode cX5_isWord 45 = .ok (.iadd, 1) := by decide +kernel
theorem dX5_isWord_46 : decode cX5_isWord 46 = .ok (.invokevirtual 77, 3) := by decide +kernel
theorem dX5_isWord_49 : decode cX5_isWord 49 = .ok (.aload_n 1, 1) := by decide +kernel
theorem dX5_isWord_50 : decode cX5_isWord 50 = .ok (.iload_n 2, 1) := by decide +kernel
theorem dX5_isWord_51 : decode cX5_isWord 51 = .ok (.invokevirtual 206, 3) := by decide +kernel
theorem dX5_isWord_54 : decode cX5_isWord 54 = .ok (.if_icmp .eq 5, 3) := by decide +kernel
theorem dX5_isWord_57 : decode cX5_isWord 57 = .ok (.iconst 0, 1) := by decide +kernel
theorem dX5_isWord_58 : decode cX5_isWord 58 = .ok (.ireturn, 1) := by decide +kernel
theorem dX5_isWord_59 : decode cX5_isWord 59 = .ok (.iinc 2 1, 3) := by decide +kernel
theorem dX5_isWord_62 : decode cX5_isWord 62 = .ok (.goto (-34), 3) := by decide +kernel
theorem dX5_isWord_65 : decode cX5_isWord 65 = .ok (.iconst 1, 1) := by decide +kernel
theorem dX5_isWord_66 : decode cX5_isWord 66 = .ok (.ireturn, 1) := by decide +kernel
theorem dX5_goOn_0 : decode cX5_goOn 0 = .ok (.iload_n 1, 1) := by decide +kernel
theorem dX5_goOn_1 : decode cX5_goOn 1 = .ok (.ifCond .eq 11, 3) := by decide +kernel
theorem dX5_goOn_4 : decode cX5_goOn 4 = .ok (.aload_n 0, 1) := by decide +kernel
theorem dX5_goOn_5 : decode cX5_goOn 5 = .ok (.iload_n 1, 1) := by decide +kernel
theorem dX5_goOn_6 : decode cX5_goOn 6 = .ok (.invokevirtual 155, 3) := by decide +kernel
theorem dX5_goOn_9 : decode cX5_goOn 9 = .ok (.goto 8, 3) := by decide +kernel
theorem dX5_goOn_12 : decode cX5_goOn 12 = .ok (.aload_n 0, 1) := by decide +kernel
theorem dX5_goOn_13 : decode cX5_goOn 13 = .ok (.iload_n 2, 1) := by decide +kernel
theorem dX5_goOn_14 : decode cX5_goOn 14 = .ok (.putfield 28, 3) := by decide +kernel
theorem dX5_goOn_17 : decode cX5_goOn 17 = .ok (.return_, 1) := by decide +kernel
theorem dX5_blame_0 : decode cX5_blame 0 = .ok (.aload_n 0, 1) := by decide +kernel
theorem dX5_blame_1 : decode cX5_blame 1 = .ok (.iload_n 1, 1) := by decide +kernel
theorem dX5_blame_2 : decode cX5_blame 2 = .ok (.putfield 22, 3) := by decide +kernel
theorem dX5_blame_5 : decode cX5_blame 5 = .ok (.aload_n 0, 1) := by decide +kernel
theorem dX5_blame_6 : decode cX5_blame 6 = .ok (.aload_n 0, 1) := by decide +kernel
theorem dX5_blame_7 : decode cX5_blame 7 = .ok (.getfield 34, 3) := by decide +kernel
theorem dX5_blame_10 : decode cX5_blame 10 = .ok (.putfield 25, 3) := by decide +kernel
theorem dX5_blame_13 : decode cX5_blame 13 = .ok (.return_, 1) := by decide +kernel
end
section
theorem dX6_init_0 : decode cX6_init 0 = .ok (.aload_n 0, 1) := by decide +kernel
theorem dX6_init_1 : decode cX6_init 1 = .ok (.invokespecial 3, 3) := by decide +kernel
theorem dX6_init_4 : decode cX6_init 4 = .ok (.aload_n 0, 1) := by decide +kernel
theorem dX6_init_5 : decode cX6_init 5 = .ok (.iconst 0, 1) := by decide +kernel
theorem dX6_init_6 : decode cX6_init 6 = .ok (.putfield 9, 3) := by decide +kernel
theorem dX6_init_9 : decode cX6_init 9 = .ok (.aload_n 0, 1) := by decide +kernel
theorem dX6_init_10 : decode cX6_init 10 = .ok (.iload_n 1, 1) := by decide +kernel
theorem dX6_init_11 : decode cX6_init 11 = .ok (.newarray .int, 2) := by decide +kernel
theorem dX6_init_13 : decode cX6_init 13 = .ok (.putfield 15, 3) := by decide +kernel
theorem dX6_init_16 : decode cX6_init 16 = .ok (.aload_n 0, 1) := by decide +kernel
theorem dX6_init_17 : decode cX6_init 17 = .ok (.iload_n 1, 1) := by decide +kernel
theorem dX6_init_18 : decode cX6_init 18 = .ok (.newarray .int, 2) := by decide +kernel
theorem dX6_init_20 : decode cX6_init 20 = .ok (.putfield 19, 3) := by decide +kernel
theorem dX6_init_23 : decode cX6_init 23 = .ok (.aload_n 0, 1) := by decide +kernel
theorem dX6_init_24 : decode cX6_init 24 = .ok (.iload_n 1, 1) := by decide +kernel
theorem dX6_init_25 : decode cX6_init 25 = .ok (.newarray .int, 2) := by decide +kernel
theorem dX6_init_27 : decode cX6_init 27 = .ok (.putfield 22, 3) := by decide +kernel
theorem dX6_init_30 : decode cX6_init 30 = .ok (.return_, 1) := by decide +kernel
theorem dX6_size_0 : decode cX6_size 0 = .ok (.aload_n 0, 1) := by decide +kernel
theorem dX6_size_1 : decode cX6_size 1 = .ok (.getfield 9, 3) := by decide +kernel
theorem dX6_size_4 : decode cX6_size 4 = .ok (.ireturn, 1) := by decide +kernel
theorem dX6_countOf_0 : decode cX6_countOf 0 = .ok (.iconst 0, 1) := by decide +kernel
theorem dX6_countOf_1 : decode cX6_countOf 1 = .ok (.istore_n 2, 1) := by decide +kernel
theorem dX6_countOf_2 : decode cX6_countOf 2 = .ok (.iconst 0, 1) := by decide +kernel
theorem dX6_countOf_3 : decode cX6_countOf 3 = .ok (.istore_n 3, 1) := by decide +kernel
theorem dX6_countOf_4 : decode cX6_countOf 4 = .ok (.iload_n 3, 1) := by decide +kernel
theorem dX6_countOf_5 : decode cX6_countOf 5 = .ok (.aload_n 0, 1) := by decide +kernel
theorem dX6_countOf_6 : decode cX6_countOf 6 = .ok (.getfield 9, 3) := by decide +kernel
theorem dX6_countOf_9 : decode cX6_countOf 9 = .ok (.if_icmp .ge 22, 3) := by decide +kernel
theorem dX6_countOf_12 : decode cX6_countOf 12 = .ok (.aload_n 0, 1) := by decide +kernel
theorem dX6_countOf_13 : decode cX6_countOf 13 = .ok (.getfield 15, 3) := by decide +kernel
theorem dX6_countOf_16 : decode cX6_countOf 16 = .ok (.iload_n 3, 1) := by decide +kernel
theorem dX6_countOf_17 : decode cX6_countOf 17 = .ok (.iaload, 1) := by decide +kernel
theorem dX6_countOf_18 : decode cX6_countOf 18 = .ok (.iload_n 1, 1) := by decide +kernel
theorem dX6_countOf_19 : decode cX6_countOf 19 = .ok (.if_icmp .ne 6, 3) := by decide +kernel
theorem dX6_countOf_22 : decode cX6_countOf 22 = .ok (.iinc 2 1, 3) := by decide +kernel
theorem dX6_countOf_25 : decode cX6_countOf 25 = .ok (.iinc 3 1, 3) := by decide +kernel
theorem dX6_countOf_28 : decode cX6_countOf 28 = .ok (.goto (-24), 3) := by decide +kernel
theorem dX6_countOf_31 : decode cX6_countOf 31 = .ok (.iload_n 2, 1) := by decide +kernel
theorem dX6_countOf_32 : decode cX6_countOf 32 = .ok (.ireturn, 1) := by decide +kernel
theorem dX6_add_0 : decode cX6_add 0 = .ok (.aload_n 0, 1) := by decide +kernel
theorem dX6_add_1 : decode cX6_add 1 = .ok (.getfield 9, 3) := by decide +kernel
theorem dX6_add_4 : decode cX6_add 4 = .ok (.aload_n 0, 1) := by decide +kernel
theorem dX6_add_5 : decode cX6_add 5 = .ok (.getfield 15, 3) := by decide +kernel
theorem dX6_add_8 : decode cX6_add 8 = .ok (.arraylength, 1) := by decide +kernel
theorem dX6_add_9 : decode cX6_add 9 = .ok (.if_icmp .ge 43, 3) := by decide +kernel
theorem dX6_add_12 : decode cX6_add 12 = .ok (.aload_n 0, 1) := by decide +kernel
theorem dX6_add_13 : decode cX6_add 13 = .ok (.getfield 15, 3) := by decide +kernel
theorem dX6_add_16 : decode cX6_add 16 = .ok (.aload_n 0, 1) := by decide +kernel
theorem dX6_add_17 : decode cX6_add 17 = .ok (.getfield 9, 3) := by decide +kernel
theorem dX6_add_20 : decode cX6_add 20 = .ok (.iload_n 1, 1) := by decide +kernel
theorem dX6_add_21 : decode cX6_add 21 = .ok (.iastore, 1) := by decide +kernel
theorem dX6_add_22 : decode cX6_add 22 = .ok (.aload_n 0, 1) := by decide +kernel
theorem dX6_add_23 : decode cX6_add 23 = .ok (.getfield 19, 3) := by decide +kernel
theorem dX6_add_26 : decode cX6_add 26 = .ok (.aload_n 0, 1) := by decide +kernel
theorem dX6_add_27 : decode cX6_add 27 = .ok (.getfield 9, 3) := by decide +kernel
theorem dX6_add_30 : decode cX6_add 30 = .ok (.iload_n 2, 1) := by decide +kernel
theorem dX6_add_31 : decode cX6_add 31 = .ok (.iastore, 1) := by decide +kernel
theorem dX6_add_32 : decode cX6_add 32 = .ok (.aload_n 0, 1) := by decide +kernel
theorem dX6_add_33 : decode cX6_add 33 = .ok (.getfield 22, 3) := by decide +kernel
theorem dX6_add_36 : decode cX6_add 36 = .ok (.aload_n 0, 1) := by decide +kernel
theorem dX6_add_37 : decode cX6_add 37 = .ok (.getfield 9, 3) := by decide +kernel
theorem dX6_add_40 : decode cX6_add 40 = .ok (.iload_n 3, 1) := by decide +kernel
theorem dX6_add_41 : decode cX6_add 41 = .ok (.iastore, 1) := by decide +kernel
theorem dX6_add_42 : decode cX6_add 42 = .ok (.aload_n 0, 1) := by decide +kernel
theorem dX6_add_43 : decode cX6_add 43 = .ok (.dup, 1) := by decide +kernel
theorem dX6_add_44 : decode cX6_add 44 = .ok (.getfield 9, 3) := by decide +kernel
theorem dX6_add_47 : decode cX6_add 47 = .ok (.iconst 1, 1) := by decide +kernel
theorem dX6_add_48 : decode cX6_add 48 = .ok (.iadd, 1) := by decide +kernel
theorem dX6_add_49 : decode cX6_add 49 = .ok (.putfield 9, 3) := by decide +kernel
theorem dX6_add_52 : decode cX6_add 52 = .ok (.return_, 1) := by decide +kernel
theorem dX6_heldOn_0 : decode cX6_heldOn 0 = .ok (.iload_n 3, 1) := by decide +kernel
theorem dX6_heldOn_1 : decode cX6_heldOn 1 = .ok (.istore 4, 2) := by decide +kernel
theorem dX6_heldOn_3 : decode cX6_heldOn 3 = .ok (.iconst (-1), 1) := by decide +kernel
theorem dX6_heldOn_4 : decode cX6_heldOn 4 = .ok (.istore 5, 2) := by decide +kernel
theorem dX6_heldOn_6 : decode cX6_heldOn 6 = .ok (.iconst 0, 1) := by decide +kernel
theorem dX6_heldOn_7 : decode cX6_heldOn 7 = .ok (.istore 6, 2) := by decide +kernel
theorem dX6_heldOn_9 : decode cX6_heldOn 9 = .ok (.iload 6, 2) := by decide +kernel
theorem dX6_heldOn_11 : decode cX6_heldOn 11 = .ok (.aload_n 0, 1) := by decide +kernel
theorem dX6_heldOn_12 : decode cX6_heldOn 12 = .ok (.getfield 9, 3) := by decide +kernel
theorem dX6_heldOn_15 : decode cX6_heldOn 15 = .ok (.if_icmp .ge 61, 3) := by decide +kernel
theorem dX6_heldOn_18 : decode cX6_heldOn 18 = .ok (.aload_n 0, 1) := by decide +kernel
theorem dX6_heldOn_19 : decode cX6_heldOn 19 = .ok (.getfield 15, 3) := by decide +kernel
theorem dX6_heldOn_22 : decode cX6_heldOn 22 = .ok (.iload 6, 2) := by decide +kernel
theorem dX6_heldOn_24 : decode cX6_heldOn 24 = .ok (.iaload, 1) := by decide +kernel
theorem dX6_heldOn_25 : decode cX6_heldOn 25 = .ok (.iload_n 1, 1) := by decide +kernel
theorem dX6_heldOn_26 : decode cX6_heldOn 26 = .ok (.if_icmp .ne 44, 3) := by decide +kernel
theorem dX6_heldOn_29 : decode cX6_heldOn 29 = .ok (.aload_n 0, 1) := by decide +kernel
theorem dX6_heldOn_30 : decode cX6_heldOn 30 = .ok (.getfield 19, 3) := by decide +kernel
theorem dX6_heldOn_33 : decode cX6_heldOn 33 = .ok (.iload 6, 2) := by decide +kernel
theorem dX6_heldOn_35 : decode cX6_heldOn 35 = .ok (.iaload, 1) := by decide +kernel
theorem dX6_heldOn_36 : decode cX6_heldOn 36 = .ok (.iload_n 2, 1) := by decide +kernel
theorem dX6_heldOn_37 : decode cX6_heldOn 37 = .ok (.if_icmp .gt 33, 3) := by decide +kernel
theorem dX6_heldOn_40 : decode cX6_heldOn 40 = .ok (.aload_n 0, 1) := by decide +kernel
theorem dX6_heldOn_41 : decode cX6_heldOn 41 = .ok (.getfield 19, 3) := by decide +kernel
theorem dX6_heldOn_44 : decode cX6_heldOn 44 = .ok (.iload 6, 2) := by decide +kernel
theorem dX6_heldOn_46 : decode cX6_heldOn 46 = .ok (.iaload, 1) := by decide +kernel
theorem dX6_heldOn_47 : decode cX6_heldOn 47 = .ok (.iload 5, 2) := by decide +kernel
theorem dX6_heldOn_49 : decode cX6_heldOn 49 = .ok (.if_icmp .lt 21, 3) := by decide +kernel
theorem dX6_heldOn_52 : decode cX6_heldOn 52 = .ok (.aload_n 0, 1) := by decide +kernel
theorem dX6_heldOn_53 : decode cX6_heldOn 53 = .ok (.getfield 19, 3) := by decide +kernel
theorem dX6_heldOn_56 : decode cX6_heldOn 56 = .ok (.iload 6, 2) := by decide +kernel
theorem dX6_heldOn_58 : decode cX6_heldOn 58 = .ok (.iaload, 1) := by decide +kernel
theorem dX6_heldOn_59 : decode cX6_heldOn 59 = .ok (.istore 5, 2) := by decide +kernel
theorem dX6_heldOn_61 : decode cX6_heldOn 61 = .ok (.aload_n 0, 1) := by decide +kernel
theorem dX6_heldOn_62 : decode cX6_heldOn 62 = .ok (.getfield 22, 3) := by decide +kernel
theorem dX6_heldOn_65 : decode cX6_heldOn 65 = .ok (.iload 6, 2) := by decide +kernel
theorem dX6_heldOn_67 : decode cX6_heldOn 67 = .ok (.iaload, 1) := by decide +kernel
theorem dX6_heldOn_68 : decode cX6_heldOn 68 = .ok (.istore 4, 2) := by decide +kernel
theorem dX6_heldOn_70 : decode cX6_heldOn 70 = .ok (.iinc 6 1, 3) := by decide +kernel
theorem dX6_heldOn_73 : decode cX6_heldOn 73 = .ok (.goto (-64), 3) := by decide +kernel
theorem dX6_heldOn_76 : decode cX6_heldOn 76 = .ok (.iload 4, 2) := by decide +kernel
theorem dX6_heldOn_78 : decode cX6_heldOn 78 = .ok (.ireturn, 1) := by decide +kernel
theorem dX6_spanOver_0 : decode cX6_spanOver 0 = .ok (.iconst 0, 1) := by decide +kernel
theorem dX6_spanOver_1 : decode cX6_spanOver 1 = .ok (.istore_n 3, 1) := by decide +kernel
theorem dX6_spanOver_2 : decode cX6_spanOver 2 = .ok (.iload_n 3, 1) := by decide +kernel
theorem dX6_spanOver_3 : decode cX6_spanOver 3 = .ok (.aload_n 0, 1) := by decide +kernel
theorem dX6_spanOver_4 : decode cX6_spanOver 4 = .ok (.getfield 9, 3) := by decide +kernel
theorem dX6_spanOver_7 : decode cX6_spanOver 7 = .ok (.if_icmp .ge 41, 3) := by decide +kernel
theorem dX6_spanOver_10 : decode cX6_spanOver 10 = .ok (.aload_n 0, 1) := by decide +kernel
theorem dX6_spanOver_11 : decode cX6_spanOver 11 = .ok (.getfield 15, 3) := by decide +kernel
theorem dX6_spanOver_14 : decode cX6_spanOver 14 = .ok (.iload_n 3, 1) := by decide +kernel
theorem dX6_spanOver_15 : decode cX6_spanOver 15 = .ok (.iaload, 1) := by decide +kernel
theorem dX6_spanOver_16 : decode cX6_spanOver 16 = .ok (.iload_n 1, 1) := by decide +kernel
theorem dX6_spanOver_17 : decode cX6_spanOver 17 = .ok (.if_icmp .ne 25, 3) := by decide +kernel
theorem dX6_spanOver_20 : decode cX6_spanOver 20 = .ok (.aload_n 0, 1) := by decide +kernel
theorem dX6_spanOver_21 : decode cX6_spanOver 21 = .ok (.getfield 19, 3) := by decide +kernel
theorem dX6_spanOver_24 : decode cX6_spanOver 24 = .ok (.iload_n 3, 1) := by decide +kernel
theorem dX6_spanOver_25 : decode cX6_spanOver 25 = .ok (.iaload, 1) := by decide +kernel
theorem dX6_spanOver_26 : decode cX6_spanOver 26 = .ok (.iload_n 2, 1) := by decide +kernel
theorem dX6_spanOver_27 : decode cX6_spanOver 27 = .ok (.if_icmp .gt 15, 3) := by decide +kernel
theorem dX6_spanOver_30 : decode cX6_spanOver 30 = .ok (.iload_n 2, 1) := by decide +kernel
theorem dX6_spanOver_31 : decode cX6_spanOver 31 = .ok (.aload_n 0, 1) := by decide +kernel
theorem dX6_spanOver_32 : decode cX6_spanOver 32 = .ok (.getfield 22, 3) := by decide +kernel
theorem dX6_spanOver_35 : decode cX6_spanOver 35 = .ok (.iload_n 3, 1) := by decide +kernel
theorem dX6_spanOver_36 : decode cX6_spanOver 36 = .ok (.iaload, 1) := by decide +kernel
theorem dX6_spanOver_37 : decode cX6_spanOver 37 = .ok (.if_icmp .gt 5, 3) := by decide +kernel
theorem dX6_spanOver_40 : decode cX6_spanOver 40 = .ok (.iconst 1, 1) := by decide +kernel
theorem dX6_spanOver_41 : decode cX6_spanOver 41 = .ok (.ireturn, 1) := by decide +kernel
theorem dX6_spanOver_42 : decode cX6_spanOver 42 = .ok (.iinc 3 1, 3) := by decide +kernel
theorem dX6_spanOver_45 : decode cX6_spanOver 45 = .ok (.goto (-43), 3) := by decide +kernel
theorem dX6_spanOver_48 : decode cX6_spanOver 48 = .ok (.iconst 0, 1) := by decide +kernel
theorem dX6_spanOver_49 : decode cX6_spanOver 49 = .ok (.ireturn, 1) := by decide +kernel
theorem dX7_init_0 : decode cX7_init 0 = .ok (.aload_n 0, 1) := by decide +kernel
theorem dX7_init_1 : decode cX7_init 1 = .ok (.invokespecial 3, 3) := by decide +kernel
theorem dX7_init_4 : decode cX7_init 4 = .ok (.aload_n 0, 1) := by decide +kernel
theorem dX7_init_5 : decode cX7_init 5 = .ok (.iload_n 1, 1) := by decide +kernel
theorem dX7_init_6 : decode cX7_init 6 = .ok (.putfield 9, 3) := by decide +kernel
theorem dX7_init_9 : decode cX7_init 9 = .ok (.aload_n 0, 1) := by decide +kernel
theorem dX7_init_10 : decode cX7_init 10 = .ok (.iload_n 2, 1) := by decide +kernel
theorem dX7_init_11 : decode cX7_init 11 = .ok (.putfield 15, 3) := by decide +kernel
theorem dX7_init_14 : decode cX7_init 14 = .ok (.aload_n 0, 1) := by decide +kernel
theorem dX7_init_15 : decode cX7_init 15 = .ok (.iload_n 3, 1) := by decide +kernel
theorem dX7_init_16 : decode cX7_init 16 = .ok (.putfield 18, 3) := by decide +kernel
theorem dX7_init_19 : decode cX7_init 19 = .ok (.aload_n 0, 1) := by decide +kernel
theorem dX7_init_20 : decode cX7_init 20 = .ok (.iload 4, 2) := by decide +kernel
theorem dX7_init_22 : decode cX7_init 22 = .ok (.putfield 21, 3) := by decide +kernel
theorem dX7_init_25 : decode cX7_init 25 = .ok (.aload_n 0, 1) := by decide +kernel
theorem dX7_init_26 : decode cX7_init 26 = .ok (.iload 5, 2) := by decide +kernel
theorem dX7_init_28 : decode cX7_init 28 = .ok (.putfield 24, 3) := by decide +kernel
theorem dX7_init_31 : decode cX7_init 31 = .ok (.aload_n 0, 1) := by decide +kernel
theorem dX7_init_32 : decode cX7_init 32 = .ok (.iload 6, 2) := by decide +kernel
theorem dX7_init_34 : decode cX7_init 34 = .ok (.putfield 27, 3) := by decide +kernel
theorem dX7_init_37 : decode cX7_init 37 = .ok (.return_, 1) := by decide +kernel
theorem dX7_concerns_0 : decode cX7_concerns 0 = .ok (.aload_n 0, 1) := by decide +kernel
theorem dX7_concerns_1 : decode cX7_concerns 1 = .ok (.getfield 18, 3) := by decide +kernel
theorem dX7_concerns_4 : decode cX7_concerns 4 = .ok (.aload_n 1, 1) := by decide +kernel
theorem dX7_concerns_5 : decode cX7_concerns 5 = .ok (.getfield 30, 3) := by decide +kernel
theorem dX7_concerns_8 : decode cX7_concerns 8 = .ok (.if_icmp .gt 18, 3) := by decide +kernel
theorem dX7_concerns_11 : decode cX7_concerns 11 = .ok (.aload_n 1, 1) := by decide +kernel
theorem dX7_concerns_12 : decode cX7_concerns 12 = .ok (.getfield 30, 3) := by decide +kernel
theorem dX7_concerns_15 : decode cX7_concerns 15 = .ok (.aload_n 0, 1) := by decide +kernel
theorem dX7_concerns_16 : decode cX7_concerns 16 = .ok (.getfield 21, 3) := by decide +kernel
theorem dX7_concerns_19 : decode cX7_concerns 19 = .ok (.if_icmp .gt 7, 3) := by decide +kernel
theorem dX7_concerns_22 : decode cX7_concerns 22 = .ok (.iconst 1, 1) := by decide +kernel
theorem dX7_concerns_23 : decode cX7_concerns 23 = .ok (.goto 4, 3) := by decide +kernel
theorem dX7_concerns_26 : decode cX7_concerns 26 = .ok (.iconst 0, 1) := by decide +kernel
theorem dX7_concerns_27 : decode cX7_concerns 27 = .ok (.istore_n 2, 1) := by decide +kernel
theorem dX7_concerns_28 : decode cX7_concerns 28 = .ok (.iload_n 2, 1) := by decide +kernel
theorem dX7_concerns_29 : decode cX7_concerns 29 = .ok (.ifCond .eq 26, 3) := by decide +kernel
theorem dX7_concerns_32 : decode cX7_concerns 32 = .ok (.aload_n 0, 1) := by decide +kernel
theorem dX7_concerns_33 : decode cX7_concerns 33 = .ok (.getfield 24, 3) := by decide +kernel
theorem dX7_concerns_36 : decode cX7_concerns 36 = .ok (.iconst 3, 1) := by decide +kernel
theorem dX7_concerns_37 : decode cX7_concerns 37 = .ok (.if_icmp .eq 14, 3) := by decide +kernel
theorem dX7_concerns_40 : decode cX7_concerns 40 = .ok (.aload_n 0, 1) := by decide +kernel
theorem dX7_concerns_41 : decode cX7_concerns 41 = .ok (.getfield 24, 3) := by decide +kernel
theorem dX7_concerns_44 : decode cX7_concerns 44 = .ok (.aload_n 1, 1) := by decide +kernel
theorem dX7_concerns_45 : decode cX7_concerns 45 = .ok (.getfield 35, 3) := by decide +kernel
theorem dX7_concerns_48 : decode cX7_concerns 48 = .ok (.if_icmp .ne 7, 3) := by decide +kernel
theorem dX7_concerns_51 : decode cX7_concerns 51 = .ok (.iconst 1, 1) := by decide +kernel
theorem dX7_concerns_52 : decode cX7_concerns 52 = .ok (.goto 4, 3) := by decide +kernel
theorem dX7_concerns_55 : decode cX7_concerns 55 = .ok (.iconst 0, 1) := by decide +kernel
theorem dX7_concerns_56 : decode cX7_concerns 56 = .ok (.ireturn, 1) := by decide +kernel
theorem dX7_isOffended_0 : decode cX7_isOffended 0 = .ok (.aload_n 0, 1) := by decide +kernel
theorem dX7_isOffended_1 : decode cX7_isOffended 1 = .ok (.getfield 9, 3) := by decide +kernel
theorem dX7_isOffended_4 : decode cX7_isOffended 4 = .ok (.tableswitch 85 5 7 #[28, 45, 65], 28) := by decide +kernel
theorem dX7_isOffended_32 : decode cX7_isOffended 32 = .ok (.aload_n 1, 1) := by decide +kernel
theorem dX7_isOffended_33 : decode cX7_isOffended 33 = .ok (.getfield 38, 3) := by decide +kernel
theorem dX7_isOffended_36 : decode cX7_isOffended 36 = .ok (.aload_n 0, 1) := by decide +kernel
theorem dX7_isOffended_37 : decode cX7_isOffended 37 = .ok (.getfield 15, 3) := by decide +kernel
theorem dX7_isOffended_40 : decode cX7_isOffended 40 = .ok (.if_icmp .ne 7, 3) := by decide +kernel
theorem dX7_isOffended_43 : decode cX7_isOffended 43 = .ok (.iconst 1, 1) := by decide +kernel
theorem dX7_isOffended_44 : decode cX7_isOffended 44 = .ok (.goto 4, 3) := by decide +kernel
theorem dX7_isOffended_47 : decode cX7_isOffended 47 = .ok (.iconst 0, 1) := by decide +kernel
theorem dX7_isOffended_48 : decode cX7_isOffended 48 = .ok (.ireturn, 1) := by decide +kernel
theorem dX7_isOffended_49 : decode cX7_isOffended 49 = .ok (.aload_n 1, 1) := by decide +kernel
theorem dX7_isOffended_50 : decode cX7_isOffended 50 = .ok (.getfield 41, 3) := by decide +kernel
theorem dX7_isOffended_53 : decode cX7_isOffended 53 = .ok (.getfield 45, 3) := by decide +kernel
theorem dX7_isOffended_56 : decode cX7_isOffended 56 = .ok (.aload_n 0, 1) := by decide +kernel
theorem dX7_isOffended_57 : decode cX7_isOffended 57 = .ok (.getfield 15, 3) := by decide +kernel
theorem dX7_isOffended_60 : decode cX7_isOffended 60 = .ok (.if_icmp .ne 7, 3) := by decide +kernel
theorem dX7_isOffended_63 : decode cX7_isOffended 63 = .ok (.iconst 1, 1) := by decide +kernel
theorem dX7_isOffended_64 : decode cX7_isOffended 64 = .ok (.goto 4, 3) := by decide +kernel
theorem dX7_isOffended_67 : decode cX7_isOffended 67 = .ok (.iconst 0, 1) := by decide +kernel
theorem dX7_isOffended_68 : decode cX7_isOffended 68 = .ok (.ireturn, 1) := by decide +kernel
theorem dX7_isOffended_69 : decode cX7_isOffended 69 = .ok (.aload_n 1, 1) := by decide +kernel
theorem dX7_isOffended_70 : decode cX7_isOffended 70 = .ok (.getfield 41, 3) := by decide +kernel
theorem dX7_isOffended_73 : decode cX7_isOffended 73 = .ok (.getfield 45, 3) := by decide +kernel
theorem dX7_isOffended_76 : decode cX7_isOffended 76 = .ok (.aload_n 0, 1) := by decide +kernel
theorem dX7_isOffended_77 : decode cX7_isOffended 77 = .ok (.getfield 15, 3) := by decide +kernel
theorem dX7_isOffended_80 : decode cX7_isOffended 80 = .ok (.if_icmp .eq 7, 3) := by decide +kernel
theorem dX7_isOffended_83 : decode cX7_isOffended 83 = .ok (.iconst 1, 1) := by decide +kernel
theorem dX7_isOffended_84 : decode cX7_isOffended 84 = .ok (.goto 4, 3) := by decide +kernel
theorem dX7_isOffended_87 : decode cX7_isOffended 87 = .ok (.iconst 0, 1) := by decide +kernel
theorem dX7_isOffended_88 : decode cX7_isOffended 88 = .ok (.ireturn, 1) := by decide +kernel
theorem dX7_isOffended_89 : decode cX7_isOffended 89 = .ok (.aload_n 1, 1) := by decide +kernel
theorem dX7_isOffended_90 : decode cX7_isOffended 90 = .ok (.getfield 41, 3) := by decide +kernel
theorem dX7_isOffended_93 : decode cX7_isOffended 93 = .ok (.aload_n 0, 1) := by decide +kernel
theorem dX7_isOffended_94 : decode cX7_isOffended 94 = .ok (.getfield 9, 3) := by decide +kernel
theorem dX7_isOffended_97 : decode cX7_isOffended 97 = .ok (.invokevirtual 50, 3) := by decide +kernel
theorem dX7_isOffended_100 : decode cX7_isOffended 100 = .ok (.aload_n 0, 1) := by decide +kernel
theorem dX7_isOffended_101 : decode cX7_isOffended 101 = .ok (.getfield 15, 3) := by decide +kernel
theorem dX7_isOffended_104 : decode cX7_isOffended 104 = .ok (.if_icmp .le 7, 3) := by decide +kernel
theorem dX7_isOffended_107 : decode cX7_isOffended 107 = .ok (.iconst 1, 1) := by decide +kernel
theorem dX7_isOffended_108 : decode cX7_isOffended 108 = .ok (.goto 4, 3) := by decide +kernel
theorem dX7_isOffended_111 : decode cX7_isOffended 111 = .ok (.iconst 0, 1) := by decide +kernel
theorem dX7_isOffended_112 : decode cX7_isOffended 112 = .ok (.ireturn, 1) := by decide +kernel
theorem dX8_init_0 : decode cX8_init 0 = .ok (.aload_n 0, 1) := by decide +kernel
theorem dX8_init_1 : decode cX8_init 1 = .ok (.invokespecial 3, 3) := by decide +kernel
theorem dX8_init_4 : decode cX8_init 4 = .ok (.aload_n 0, 1) := by decide +kernel
theorem dX8_init_5 : decode cX8_init 5 = .ok (.sipush 800, 3) := by decide +kernel
theorem dX8_init_8 : decode cX8_init 8 = .ok (.newarray .byte, 2) := by decide +kernel
theorem dX8_init_10 : decode cX8_init 10 = .ok (.putfield 9, 3) := by decide +kernel
theorem dX8_init_13 : decode cX8_init 13 = .ok (.aload_n 0, 1) := by decide +kernel
theorem dX8_init_14 : decode cX8_init 14 = .ok (.iconst 0, 1) := by decide +kernel
theorem dX8_init_15 : decode cX8_init 15 = .ok (.putfield 15, 3) := by decide +kernel
theorem dX8_init_18 : decode cX8_init 18 = .ok (.return_, 1) := by decide +kernel
theorem dX8_size_0 : decode cX8_size 0 = .ok (.aload_n 0, 1) := by decide +kernel
theorem dX8_size_1 : decode cX8_size 1 = .ok (.getfield 15, 3) := by decide +kernel
theorem dX8_size_4 : decode cX8_size 4 = .ok (.ireturn, 1) := by decide +kernel
theorem dX8_put_0 : decode cX8_put 0 = .ok (.bipush 24, 2) := by decide +kernel
theorem dX8_put_2 : decode cX8_put 2 = .ok (.istore_n 2, 1) := by decide +kernel
theorem dX8_put_3 : decode cX8_put 3 = .ok (.iload_n 2, 1) := by decide +kernel
theorem dX8_put_4 : decode cX8_put 4 = .ok (.ifCond .lt 44, 3) := by decide +kernel
theorem dX8_put_7 : decode cX8_put 7 = .ok (.aload_n 0, 1) := by decide +kernel
theorem dX8_put_8 : decode cX8_put 8 = .ok (.getfield 15, 3) := by decide +kernel
theorem dX8_put_11 : decode cX8_put 11 = .ok (.aload_n 0, 1) := by decide +kernel
theorem dX8_put_12 : decode cX8_put 12 = .ok (.getfield 9, 3) := by decide +kernel
theorem dX8_put_15 : decode cX8_put 15 = .ok (.arraylength, 1) := by decide +kernel
theorem dX8_put_16 : decode cX8_put 16 = .ok (.if_icmp .ge 26, 3) := by decide +kernel
theorem dX8_put_19 : decode cX8_put 19 = .ok (.aload_n 0, 1) := by decide +kernel
theorem dX8_put_20 : decode cX8_put 20 = .ok (.getfield 9, 3) := by decide +kernel
theorem dX8_put_23 : decode cX8_put 23 = .ok (.aload_n 0, 1) := by decide +kernel
theorem dX8_put_24 : decode cX8_put 24 = .ok (.getfield 15, 3) := by decide +kernel
theorem dX8_put_27 : decode cX8_put 27 = .ok (.iload_n 1, 1) := by decide +kernel
theorem dX8_put_28 : decode cX8_put 28 = .ok (.iload_n 2, 1) := by decide +kernel
theorem dX8_put_29 : decode cX8_put 29 = .ok (.iushr, 1) := by decide +kernel
theorem dX8_put_30 : decode cX8_put 30 = .ok (.i2b, 1) := by decide +kernel
theorem dX8_put_31 : decode cX8_put 31 = .ok (.bastore, 1) := by decide +kernel
theorem dX8_put_32 : decode cX8_put 32 = .ok (.aload_n 0, 1) := by decide +kernel
theorem dX8_put_33 : decode cX8_put 33 = .ok (.dup, 1) := by decide +kernel
theorem dX8_put_34 : decode cX8_put 34 = .ok (.getfield 15, 3) := by decide +kernel
theorem dX8_put_37 : decode cX8_put 37 = .ok (.iconst 1, 1) := by decide +kernel
theorem dX8_put_38 : decode cX8_put 38 = .ok (.iadd, 1) := by decide +kernel
theorem dX8_put_39 : decode cX8_put 39 = .ok (.putfield 15, 3) := by decide +kernel
theorem dX8_put_42 : decode cX8_put 42 = .ok (.iinc 2 (-8), 3) := by decide +kernel
theorem dX8_put_45 : decode cX8_put 45 = .ok (.goto (-42), 3) := by decide +kernel
theorem dX8_put_48 : decode cX8_put 48 = .ok (.return_, 1) := by decide +kernel
theorem dX8_cutTo_0 : decode cX8_cutTo 0 = .ok (.iload_n 1, 1) := by decide +kernel
theorem dX8_cutTo_1 : decode cX8_cutTo 1 = .ok (.ifCond .lt 16, 3) := by decide +kernel
theorem dX8_cutTo_4 : decode cX8_cutTo 4 = .ok (.iload_n 1, 1) := by decide +kernel
theorem dX8_cutTo_5 : decode cX8_cutTo 5 = .ok (.aload_n 0, 1) := by decide +kernel
theorem dX8_cutTo_6 : decode cX8_cutTo 6 = .ok (.getfield 15, 3) := by decide +kernel
theorem dX8_cutTo_9 : decode cX8_cutTo 9 = .ok (.if_icmp .gt 8, 3) := by decide +kernel
theorem dX8_cutTo_12 : decode cX8_cutTo 12 = .ok (.aload_n 0, 1) := by decide +kernel
theorem dX8_cutTo_13 : decode cX8_cutTo 13 = .ok (.iload_n 1, 1) := by decide +kernel
theorem dX8_cutTo_14 : decode cX8_cutTo 14 = .ok (.putfield 15, 3) := by decide +kernel
theorem dX8_cutTo_17 : decode cX8_cutTo 17 = .ok (.return_, 1) := by decide +kernel
theorem dX8_byteAt_0 : decode cX8_byteAt 0 = .ok (.iload_n 1, 1) := by decide +kernel
theorem dX8_byteAt_1 : decode cX8_byteAt 1 = .ok (.ifCond .lt 33, 3) := by decide +kernel
theorem dX8_byteAt_4 : decode cX8_byteAt 4 = .ok (.iload_n 1, 1) := by decide +kernel
theorem dX8_byteAt_5 : decode cX8_byteAt 5 = .ok (.aload_n 0, 1) := by decide +kernel
theorem dX8_byteAt_6 : decode cX8_byteAt 6 = .ok (.getfield 15, 3) := by decide +kernel
theorem dX8_byteAt_9 : decode cX8_byteAt 9 = .ok (.if_icmp .ge 25, 3) := by decide +kernel
theorem dX8_byteAt_12 : decode cX8_byteAt 12 = .ok (.iload_n 1, 1) := by decide +kernel
theorem dX8_byteAt_13 : decode cX8_byteAt 13 = .ok (.aload_n 0, 1) := by decide +kernel
theorem dX8_byteAt_14 : decode cX8_byteAt 14 = .ok (.getfield 9, 3) := by decide +kernel
theorem dX8_byteAt_17 : decode cX8_byteAt 17 = .ok (.arraylength, 1) := by decide +kernel
theorem dX8_byteAt_18 : decode cX8_byteAt 18 = .ok (.if_icmp .ge 16, 3) := by decide +kernel
theorem dX8_byteAt_21 : decode cX8_byteAt 21 = .ok (.aload_n 0, 1) := by decide +kernel
theorem dX8_byteAt_22 : decode cX8_byteAt 22 = .ok (.getfield 9, 3) := by decide +kernel
theorem dX8_byteAt_25 : decode cX8_byteAt 25 = .ok (.iload_n 1, 1) := by decide +kernel
theorem dX8_byteAt_26 : decode cX8_byteAt 26 = .ok (.baload, 1) := by decide +kernel
theorem dX8_byteAt_27 : decode cX8_byteAt 27 = .ok (.sipush 255, 3) := by decide +kernel
theorem dX8_byteAt_30 : decode cX8_byteAt 30 = .ok (.iand, 1) := by decide +kernel
theorem dX8_byteAt_31 : decode cX8_byteAt 31 = .ok (.goto 4, 3) := by decide +kernel
theorem dX8_byteAt_34 : decode cX8_byteAt 34 = .ok (.iconst (-1), 1) := by decide +kernel
theorem dX8_byteAt_35 : decode cX8_byteAt 35 = .ok (.ireturn, 1) := by decide +kernel
theorem dX9_init_0 : decode cX9_init 0 = .ok (.aload_n 0, 1) := by decide +kernel
theorem dX9_init_1 : decode cX9_init 1 = .ok (.invokespecial 3, 3) := by decide +kernel
theorem dX9_init_4 : decode cX9_init 4 = .ok (.aload_n 0, 1) := by decide +kernel
theorem dX9_init_5 : decode cX9_init 5 = .ok (.iconst 5, 1) := by decide +kernel
theorem dX9_init_6 : decode cX9_init 6 = .ok (.putfield 9, 3) := by decide +kernel
theorem dX9_init_9 : decode cX9_init 9 = .ok (.aload_n 0, 1) := by decide +kernel
theorem dX9_init_10 : decode cX9_init 10 = .ok (.iconst 0, 1) := by decide +kernel
theorem dX9_init_11 : decode cX9_init 11 = .ok (.putfield 15, 3) := by decide +kernel
theorem dX9_init_14 : decode cX9_init 14 = .ok (.aload_n 0, 1) := by decide +kernel
theorem dX9_init_15 : decode cX9_init 15 = .ok (.new 18, 3) := by decide +kernel
theorem dX9_init_18 : decode cX9_init 18 = .ok (.dup, 1) := by decide +kernel
theorem dX9_init_19 : decode cX9_init 19 = .ok (.iconst 0, 1) := by decide +kernel
theorem dX9_init_20 : decode cX9_init 20 = .ok (.iconst 0, 1) := by decide +kernel
theorem dX9_init_21 : decode cX9_init 21 = .ok (.iconst 0, 1) := by decide +kernel
theorem dX9_init_22 : decode cX9_init 22 = .ok (.iconst 0, 1) := by decide +kernel
theorem dX9_init_23 : decode cX9_init 23 = .ok (.iconst 0, 1) := by decide +kernel
theorem dX9_init_24 : decode cX9_init 24 = .ok (.iconst 0, 1) := by decide +kernel
theorem dX9_init_25 : decode cX9_init 25 = .ok (.iconst 0, 1) := by decide +kernel
theorem dX9_init_26 : decode cX9_init 26 = .ok (.invokespecial 20, 3) := by decide +kernel
theorem dX9_init_29 : decode cX9_init 29 = .ok (.putfield 23, 3) := by decide +kernel
theorem dX9_init_32 : decode cX9_init 32 = .ok (.aload_n 0, 1) := by decide +kernel
theorem dX9_init_33 : decode cX9_init 33 = .ok (.iconst 0, 1) := by decide +kernel
theorem dX9_init_34 : decode cX9_init 34 = .ok (.putfield 27, 3) := by decide +kernel
theorem dX9_init_37 : decode cX9_init 37 = .ok (.aload_n 0, 1) := by decide +kernel
theorem dX9_init_38 : decode cX9_init 38 = .ok (.iconst 0, 1) := by decide +kernel
theorem dX9_init_39 : decode cX9_init 39 = .ok (.putfield 30, 3) := by decide +kernel
theorem dX9_init_42 : decode cX9_init 42 = .ok (.return_, 1) := by decide +kernel
theorem dX9_take_0 : decode cX9_take 0 = .ok (.aload_n 0, 1) := by decide +kernel
theorem dX9_take_1 : decode cX9_take 1 = .ok (.iload_n 1, 1) := by decide +kernel
theorem dX9_take_2 : decode cX9_take 2 = .ok (.putfield 9, 3) := by decide +kernel
theorem dX9_take_5 : decode cX9_take 5 = .ok (.aload_n 0, 1) := by decide +kernel
theorem dX9_take_6 : decode cX9_take 6 = .ok (.iload_n 2, 1) := by decide +kernel
theorem dX9_take_7 : decode cX9_take 7 = .ok (.putfield 15, 3) := by decide +kernel
theorem dX9_take_10 : decode cX9_take 10 = .ok (.aload_n 0, 1) := by decide +kernel
theorem dX9_take_11 : decode cX9_take 11 = .ok (.aload_n 3, 1) := by decide +kernel
theorem dX9_take_12 : decode cX9_take 12 = .ok (.putfield 23, 3) := by decide +kernel
theorem dX9_take_15 : decode cX9_take 15 = .ok (.aload_n 0, 1) := by decide +kernel
theorem dX9_take_16 : decode cX9_take 16 = .ok (.iload 4, 2) := by decide +kernel
theorem dX9_take_18 : decode cX9_take 18 = .ok (.putfield 27, 3) := by decide +kernel
theorem dX9_take_21 : decode cX9_take 21 = .ok (.aload_n 0, 1) := by decide +kernel
theorem dX9_take_22 : decode cX9_take 22 = .ok (.iload 5, 2) := by decide +kernel
theorem dX9_take_24 : decode cX9_take 24 = .ok (.putfield 30, 3) := by decide +kernel
theorem dX9_take_27 : decode cX9_take 27 = .ok (.return_, 1) := by decide +kernel
theorem dX10_init_0 : decode cX10_init 0 = .ok (.aload_n 0, 1) := by decide +kernel
theorem dX10_init_1 : decode cX10_init 1 = .ok (.invokespecial 1, 3) := by decide +kernel
theorem dX10_init_4 : decode cX10_init 4 = .ok (.aload_n 0, 1) := by decide +kernel
theorem dX10_init_5 : decode cX10_init 5 = .ok (.new 7, 3) := by decide +kernel
theorem dX10_init_8 : decode cX10_init 8 = .ok (.dup, 1) := by decide +kernel
theorem dX10_init_9 : decode cX10_init 9 = .ok (.invokespecial 9, 3) := by decide +kernel
theorem dX10_init_12 : decode cX10_init 12 = .ok (.putfield 10, 3) := by decide +kernel
theorem dX10_init_15 : decode cX10_init 15 = .ok (.aload_n 0, 1) := by decide +kernel
theorem dX10_init_16 : decode cX10_init 16 = .ok (.new 16, 3) := by decide +kernel
theorem dX10_init_19 : decode cX10_init 19 = .ok (.dup, 1) := by decide +kernel
theorem dX10_init_20 : decode cX10_init 20 = .ok (.aload_n 0, 1) := by decide +kernel
theorem dX10_init_21 : decode cX10_init 21 = .ok (.getfield 10, 3) := by decide +kernel
theorem dX10_init_24 : decode cX10_init 24 = .ok (.invokespecial 18, 3) := by decide +kernel
theorem dX10_init_27 : decode cX10_init 27 = .ok (.putfield 21, 3) := by decide +kernel
theorem dX10_init_30 : decode cX10_init 30 = .ok (.aload_n 0, 1) := by decide +kernel
theorem dX10_init_31 : decode cX10_init 31 = .ok (.new 25, 3) := by decide +kernel
theorem dX10_init_34 : decode cX10_init 34 = .ok (.dup, 1) := by decide +kernel
theorem dX10_init_35 : decode cX10_init 35 = .ok (.invokespecial 27, 3) := by decide +kernel
theorem dX10_init_38 : decode cX10_init 38 = .ok (.putfield 28, 3) := by decide +kernel
theorem dX10_init_41 : decode cX10_init 41 = .ok (.aload_n 0, 1) := by decide +kernel
theorem dX10_init_42 : decode cX10_init 42 = .ok (.new 32, 3) := by decide +kernel
theorem dX10_init_45 : decode cX10_init 45 = .ok (.dup, 1) := by decide +kernel
theorem dX10_init_46 : decode cX10_init 46 = .ok (.sipush 360, 3) := by decide +kernel
theorem dX10_init_49 : decode cX10_init 49 = .ok (.invokespecial 34, 3) := by decide +kernel
theorem dX10_init_52 : decode cX10_init 52 = .ok (.putfield 37, 3) := by decide +kernel
theorem dX10_init_55 : decode cX10_init 55 = .ok (.aload_n 0, 1) := by decide +kernel
theorem dX10_init_56 : decode cX10_init 56 = .ok (.new 32, 3) := by decide +kernel
theorem dX10_init_59 : decode cX10_init 59 = .ok (.dup, 1) := by decide +kernel
theorem dX10_init_60 : decode cX10_init 60 = .ok (.bipush 120, 2) := by decide +kernel
theorem dX10_init_62 : decode cX10_init 62 = .ok (.invokespecial 34, 3) := by decide +kernel
theorem dX10_init_65 : decode cX10_init 65 = .ok (.putfield 41, 3) := by decide +kernel
theorem dX10_init_68 : decode cX10_init 68 = .ok (.aload_n 0, 1) := by decide +kernel
theorem dX10_init_69 : decode cX10_init 69 = .ok (.new 32, 3) := by decide +kernel
theorem dX10_init_72 : decode cX10_init 72 = .ok (.dup, 1) := by decide +kernel
theorem dX10_init_73 : decode cX10_init 73 = .ok (.bipush 20, 2) := by decide +kernel
theorem dX10_init_75 : decode cX10_init 75 = .ok (.invokespecial 34, 3) := by decide +kernel
theorem dX10_init_78 : decode cX10_init 78 = .ok (.putfield 44, 3) := by decide +kernel
theorem dX10_init_81 : decode cX10_init 81 = .ok (.aload_n 0, 1) := by decide +kernel
theorem dX10_init_82 : decode cX10_init 82 = .ok (.new 32, 3) := by decide +kernel
theorem dX10_init_85 : decode cX10_init 85 = .ok (.dup, 1) := by decide +kernel
theorem dX10_init_86 : decode cX10_init 86 = .ok (.bipush 30, 2) := by decide +kernel
theorem dX10_init_88 : decode cX10_init 88 = .ok (.invokespecial 34, 3) := by decide +kernel
theorem dX10_init_91 : decode cX10_init 91 = .ok (.putfield 47, 3) := by decide +kernel
theorem dX10_init_94 : decode cX10_init 94 = .ok (.aload_n 0, 1) := by decide +kernel
theorem dX10_init_95 : decode cX10_init 95 = .ok (.bipush 40, 2) := by decide +kernel
theorem dX10_init_97 : decode cX10_init 97 = .ok (.anewarray 50, 3) := by decide +kernel
theorem dX10_init_100 : decode cX10_init 100 = .ok (.putfield 52, 3) := by decide +kernel
theorem dX10_init_103 : decode cX10_init 103 = .ok (.aload_n 0, 1) := by decide +kernel
theorem dX10_init_104 : decode cX10_init 104 = .ok (.iconst 0, 1) := by decide +kernel
theorem dX10_init_105 : decode cX10_init 105 = .ok (.putfield 56, 3) := by decide +kernel
theorem dX10_init_108 : decode cX10_init 108 = .ok (.aload_n 0, 1) := by decide +kernel
theorem dX10_init_109 : decode cX10_init 109 = .ok (.bipush 60, 2) := by decide +kernel
theorem dX10_init_111 : decode cX10_init 111 = .ok (.anewarray 60, 3) := by decide +kernel
theorem dX10_init_114 : decode cX10_init 114 = .ok (.putfield 62, 3) := by decide +kernel
theorem dX10_init_117 : decode cX10_init 117 = .ok (.aload_n 0, 1) := by decide +kernel
theorem dX10_init_118 : decode cX10_init 118 = .ok (.iconst 0, 1) := by decide +kernel
theorem dX10_init_119 : decode cX10_init 119 = .ok (.putfield 66, 3) := by decide +kernel
theorem dX10_init_122 : decode cX10_init 122 = .ok (.aload_n 0, 1) := by decide +kernel
theorem dX10_init_123 : decode cX10_init 123 = .ok (.bipush 30, 2) := by decide +kernel
theorem dX10_init_125 : decode cX10_init 125 = .ok (.newarray .int, 2) := by decide +kernel
theorem dX10_init_127 : decode cX10_init 127 = .ok (.putfield 69, 3) := by decide +kernel
theorem dX10_init_130 : decode cX10_init 130 = .ok (.aload_n 0, 1) := by decide +kernel
theorem dX10_init_131 : decode cX10_init 131 = .ok (.bipush 30, 2) := by decide +kernel
theorem dX10_init_133 : decode cX10_init 133 = .ok (.newarray .int, 2) := by decide +kernel
theorem dX10_init_135 : decode cX10_init 135 = .ok (.putfield 73, 3) := by decide +kernel
theorem dX10_init_138 : decode cX10_init 138 = .ok (.aload_n 0, 1) := by decide +kernel
theorem dX10_init_139 : decode cX10_init 139 = .ok (.bipush 30, 2) := by decide +kernel
theorem dX10_init_141 : decode cX10_init 141 = .ok (.newarray .int, 2) := by decide +kernel
theorem dX10_init_143 : decode cX10_init 143 = .ok (.putfield 76, 3) := by decide +kernel
theorem dX10_init_146 : decode cX10_init 146 = .ok (.aload_n 0, 1) := by decide +kernel
theorem dX10_init_147 : decode cX10_init 147 = .ok (.iconst 0, 1) := by decide +kernel
theorem dX10_init_148 : decode cX10_init 148 = .ok (.putfield 79, 3) := by decide +kernel
theorem dX10_init_151 : decode cX10_init 151 = .ok (.aload_n 0, 1) := by decide +kernel
theorem dX10_init_152 : decode cX10_init 152 = .ok (.bipush 7, 2) := by decide +kernel
theorem dX10_init_154 : decode cX10_init 154 = .ok (.newarray .int, 2) := by decide +kernel
theorem dX10_init_156 : decode cX10_init 156 = .ok (.putfield 82, 3) := by decide +kernel
theorem dX10_init_159 : decode cX10_init 159 = .ok (.aload_n 0, 1) := by decide +kernel
theorem dX10_init_160 : decode cX10_init 160 = .ok (.new 85, 3) := by decide +kernel
theorem dX10_init_163 : decode cX10_init 163 = .ok (.dup, 1) := by decide +kernel
theorem dX10_init_164 : decode cX10_init 164 = .ok (.invokespecial 87, 3) := by decide +kernel
theorem dX10_init_167 : decode cX10_init 167 = .ok (.putfield 88, 3) := by decide +kernel
theorem dX10_init_170 : decode cX10_init 170 = .ok (.aload_n 0, 1) := by decide +kernel
theorem dX10_init_171 : decode cX10_init 171 = .ok (.new 92, 3) := by decide +kernel
theorem dX10_init_174 : decode cX10_init 174 = .ok (.dup, 1) := by decide +kernel
theorem dX10_init_175 : decode cX10_init 175 = .ok (.invokespecial 94, 3) := by decide +kernel
theorem dX10_init_178 : decode cX10_init 178 = .ok (.putfield 95, 3) := by decide +kernel
theorem dX10_init_181 : decode cX10_init 181 = .ok (.aload_n 0, 1) := by decide +kernel
theorem dX10_init_182 : decode cX10_init 182 = .ok (.getfield 82, 3) := by decide +kernel
theorem dX10_init_185 : decode cX10_init 185 = .ok (.iconst 1, 1) := by decide +kernel
theorem dX10_init_186 : decode cX10_init 186 = .ok (.invokestatic 99, 3) := by decide +kernel
theorem dX10_init_189 : decode cX10_init 189 = .ok (.return_, 1) := by decide +kernel
theorem dX10_feed_0 : decode cX10_feed 0 = .ok (.aload_n 0, 1) := by decide +kernel
theorem dX10_feed_1 : decode cX10_feed 1 = .ok (.getfield 10, 3) := by decide +kernel
theorem dX10_feed_4 : decode cX10_feed 4 = .ok (.invokevirtual 105, 3) := by decide +kernel
theorem dX10_feed_7 : decode cX10_feed 7 = .ok (.bipush 20, 2) := by decide +kernel
theorem dX10_feed_9 : decode cX10_feed 9 = .ok (.iadd, 1) := by decide +kernel
theorem dX10_feed_10 : decode cX10_feed 10 = .ok (.sipush 800, 3) := by decide +kernel
theorem dX10_feed_13 : decode cX10_feed 13 = .ok (.if_icmp .le 6, 3) := by decide +kernel
theorem dX10_feed_16 : decode cX10_feed 16 = .ok (.bipush (-3), 2) := by decide +kernel
theorem dX10_feed_18 : decode cX10_feed 18 = .ok (.ireturn, 1) := by decide +kernel
theorem dX10_feed_19 : decode cX10_feed 19 = .ok (.aload_n 0, 1) := by decide +kernel
theorem dX10_feed_20 : decode cX10_feed 20 = .ok (.getfield 10, 3) := by decide +kernel
theorem dX10_feed_23 : decode cX10_feed 23 = .ok (.iload_n 1, 1) := by decide +kernel
theorem dX10_feed_24 : decode cX10_feed 24 = .ok (.invokevirtual 109, 3) := by decide +kernel
theorem dX10_feed_27 : decode cX10_feed 27 = .ok (.aload_n 0, 1) := by decide +kernel
theorem dX10_feed_28 : decode cX10_feed 28 = .ok (.getfield 10, 3) := by decide +kernel
theorem dX10_feed_31 : decode cX10_feed 31 = .ok (.iload_n 2, 1) := by decide +kernel
theorem dX10_feed_32 : decode cX10_feed 32 = .ok (.invokevirtual 109, 3) := by decide +kernel
theorem dX10_feed_35 : decode cX10_feed 35 = .ok (.aload_n 0, 1) := by decide +kernel
theorem dX10_feed_36 : decode cX10_feed 36 = .ok (.getfield 10, 3) := by decide +kernel
theorem dX10_feed_39 : decode cX10_feed 39 = .ok (.iload_n 3, 1) := by decide +kernel
theorem dX10_feed_40 : decode cX10_feed 40 = .ok (.invokevirtual 109, 3) := by decide +kernel
theorem dX10_feed_43 : decode cX10_feed 43 = .ok (.aload_n 0, 1) := by decide +kernel
theorem dX10_feed_44 : decode cX10_feed 44 = .ok (.getfield 10, 3) := by decide +kernel
theorem dX10_feed_47 : decode cX10_feed 47 = .ok (.iload 4, 2) := by decide +kernel
theorem dX10_feed_49 : decode cX10_feed 49 = .ok (.invokevirtual 109, 3) := by decide +kernel
theorem dX10_feed_52 : decode cX10_feed 52 = .ok (.aload_n 0, 1) := by decide +kernel
theorem dX10_feed_53 : decode cX10_feed 53 = .ok (.getfield 10, 3) := by decide +kernel
theorem dX10_feed_56 : decode cX10_feed 56 = .ok (.iload 5, 2) := by decide +kernel
theorem dX10_feed_58 : decode cX10_feed 58 = .ok (.invokevirtual 109, 3) := by decide +kernel
theorem dX10_feed_61 : decode cX10_feed 61 = .ok (.aload_n 0, 1) := by decide +kernel
theorem dX10_feed_62 : decode cX10_feed 62 = .ok (.getfield 10, 3) := by decide +kernel
theorem dX10_feed_65 : decode cX10_feed 65 = .ok (.invokevirtual 105, 3) := by decide +kernel
theorem dX10_feed_68 : decode cX10_feed 68 = .ok (.ireturn, 1) := by decide +kernel
theorem dX10_end_0 : decode cX10_end 0 = .ok (.iload_n 1, 1) := by decide +kernel
theorem dX10_end_1 : decode cX10_end 1 = .ok (.ifCond .lt 14, 3) := by decide +kernel
theorem dX10_end_4 : decode cX10_end 4 = .ok (.iload_n 1, 1) := by decide +kernel
theorem dX10_end_5 : decode cX10_end 5 = .ok (.aload_n 0, 1) := by decide +kernel
theorem dX10_end_6 : decode cX10_end 6 = .ok (.getfield 10, 3) := by decide +kernel
theorem dX10_end_9 : decode cX10_end 9 = .ok (.invokevirtual 105, 3) := by decide +kernel
theorem dX10_end_12 : decode cX10_end 12 = .ok (.if_icmp .le 5, 3) := by decide +kernel
theorem dX10_end_15 : decode cX10_end 15 = .ok (.iconst (-1), 1) := by decide +kernel
theorem dX10_end_16 : decode cX10_end 16 = .ok (.ireturn, 1) := by decide +kernel
theorem dX10_end_17 : decode cX10_end 17 = .ok (.aload_n 0, 1) := by decide +kernel
theorem dX10_end_18 : decode cX10_end 18 = .ok (.getfield 10, 3) := by decide +kernel
theorem dX10_end_21 : decode cX10_end 21 = .ok (.iload_n 1, 1) := by decide +kernel
theorem dX10_end_22 : decode cX10_end 22 = .ok (.invokevirtual 112, 3) := by decide +kernel
theorem dX10_end_25 : decode cX10_end 25 = .ok (.iload_n 1, 1) := by decide +kernel
theorem dX10_end_26 : decode cX10_end 26 = .ok (.ireturn, 1) := by decide +kernel
theorem dX10_rank_0 : decode cX10_rank 0 = .ok (.iload_n 1, 1) := by decide +kernel
theorem dX10_rank_1 : decode cX10_rank 1 = .ok (.invokestatic 115, 3) := by decide +kernel
theorem dX10_rank_4 : decode cX10_rank 4 = .ok (.ifCond .eq 17, 3) := by decide +kernel
theorem dX10_rank_7 : decode cX10_rank 7 = .ok (.iload_n 2, 1) := by decide +kernel
theorem dX10_rank_8 : decode cX10_rank 8 = .ok (.invokestatic 119, 3) := by decide +kernel
theorem dX10_rank_11 : decode cX10_rank 11 = .ok (.ifCond .eq 10, 3) := by decide +kernel
theorem dX10_rank_14 : decode cX10_rank 14 = .ok (.iload_n 3, 1) := by decide +kernel
theorem dX10_rank_15 : decode cX10_rank 15 = .ok (.invokestatic 122, 3) := by decide +kernel
theorem dX10_rank_18 : decode cX10_rank 18 = .ok (.ifCond .ne 6, 3) := by decide +kernel
theorem dX10_rank_21 : decode cX10_rank 21 = .ok (.bipush (-2), 2) := by decide +kernel
theorem dX10_rank_23 : decode cX10_rank 23 = .ok (.ireturn, 1) := by decide +kernel
theorem dX10_rank_24 : decode cX10_rank 24 = .ok (.aload_n 0, 1) := by decide +kernel
theorem dX10_rank_25 : decode cX10_rank 25 = .ok (.getfield 37, 3) := by decide +kernel
theorem dX10_rank_28 : decode cX10_rank 28 = .ok (.iload_n 1, 1) := by decide +kernel
theorem dX10_rank_29 : decode cX10_rank 29 = .ok (.invokevirtual 125, 3) := by decide +kernel
theorem dX10_rank_32 : decode cX10_rank 32 = .ok (.bipush 12, 2) := by decide +kernel
theorem dX10_rank_34 : decode cX10_rank 34 = .ok (.if_icmp .lt 6, 3) := by decide +kernel
theorem dX10_rank_37 : decode cX10_rank 37 = .ok (.bipush (-3), 2) := by decide +kernel
theorem dX10_rank_39 : decode cX10_rank 39 = .ok (.ireturn, 1) := by decide +kernel
theorem dX10_rank_40 : decode cX10_rank 40 = .ok (.aload_n 0, 1) := by decide +kernel
theorem dX10_rank_41 : decode cX10_rank 41 = .ok (.getfield 37, 3) := by decide +kernel
theorem dX10_rank_44 : decode cX10_rank 44 = .ok (.iload_n 1, 1) := by decide +kernel
theorem dX10_rank_45 : decode cX10_rank 45 = .ok (.iload_n 2, 1) := by decide +kernel
theorem dX10_rank_46 : decode cX10_rank 46 = .ok (.iload_n 3, 1) := by decide +kernel
theorem dX10_rank_47 : decode cX10_rank 47 = .ok (.invokevirtual 129, 3) := by decide +kernel
theorem dX10_rank_50 : decode cX10_rank 50 = .ok (.aload_n 0, 1) := by decide +kernel
theorem dX10_rank_51 : decode cX10_rank 51 = .ok (.getfield 37, 3) := by decide +kernel
theorem dX10_rank_54 : decode cX10_rank 54 = .ok (.iload_n 1, 1) := by decide +kernel
theorem dX10_rank_55 : decode cX10_rank 55 = .ok (.invokevirtual 125, 3) := by decide +kernel
theorem dX10_rank_58 : decode cX10_rank 58 = .ok (.ireturn, 1) := by decide +kernel
theorem dX10_feast_0 : decode cX10_feast 0 = .ok (.iload_n 1, 1) := by decide +kernel
theorem dX10_feast_1 : decode cX10_feast 1 = .ok (.iload_n 2, 1) := by decide +kernel
theorem dX10_feast_2 : decode cX10_feast 2 = .ok (.invokestatic 133, 3) := by decide +kernel
theorem dX10_feast_5 : decode cX10_feast 5 = .ok (.ifCond .ne 6, 3) := by decide +kernel
theorem dX10_feast_8 : decode cX10_feast 8 = .ok (.bipush (-2), 2) := by decide +kernel
theorem dX10_feast_10 : decode cX10_feast 10 = .ok (.ireturn, 1) := by decide +kernel
theorem dX10_feast_11 : decode cX10_feast 11 = .ok (.aload_n 0, 1) := by decide +kernel
theorem dX10_feast_12 : decode cX10_feast 12 = .ok (.getfield 44, 3) := by decide +kernel
theorem dX10_feast_15 : decode cX10_feast 15 = .ok (.invokevirtual 137, 3) := by decide +kernel
theorem dX10_feast_18 : decode cX10_feast 18 = .ok (.bipush 20, 2) := by decide +kernel
theorem dX10_feast_20 : decode cX10_feast 20 = .ok (.if_icmp .lt 6, 3) := by decide +kernel
theorem dX10_feast_23 : decode cX10_feast 23 = .ok (.bipush (-3), 2) := by decide +kernel
theorem dX10_feast_25 : decode cX10_feast 25 = .ok (.ireturn, 1) := by decide +kernel
theorem dX10_feast_26 : decode cX10_feast 26 = .ok (.aload_n 0, 1) := by decide +kernel
theorem dX10_feast_27 : decode cX10_feast 27 = .ok (.getfield 44, 3) := by decide +kernel
theorem dX10_feast_30 : decode cX10_feast 30 = .ok (.iconst 0, 1) := by decide +kernel
theorem dX10_feast_31 : decode cX10_feast 31 = .ok (.iload_n 1, 1) := by decide +kernel
theorem dX10_feast_32 : decode cX10_feast 32 = .ok (.iload_n 2, 1) := by decide +kernel
theorem dX10_feast_33 : decode cX10_feast 33 = .ok (.invokevirtual 129, 3) := by decide +kernel
theorem dX10_feast_36 : decode cX10_feast 36 = .ok (.aload_n 0, 1) := by decide +kernel
theorem dX10_feast_37 : decode cX10_feast 37 = .ok (.getfield 44, 3) := by decide +kernel
theorem dX10_feast_40 : decode cX10_feast 40 = .ok (.invokevirtual 137, 3) := by decide +kernel
theorem dX10_feast_43 : decode cX10_feast 43 = .ok (.ireturn, 1) := by decide +kernel
theorem dX10_wedding_0 : decode cX10_wedding 0 = .ok (.iload_n 1, 1) := by decide +kernel
theorem dX10_wedding_1 : decode cX10_wedding 1 = .ok (.invokestatic 115, 3) := by decide +kernel
theorem dX10_wedding_4 : decode cX10_wedding 4 = .ok (.ifCond .eq 11, 3) := by decide +kernel
theorem dX10_wedding_7 : decode cX10_wedding 7 = .ok (.iload_n 2, 1) := by decide +kernel
theorem dX10_wedding_8 : decode cX10_wedding 8 = .ok (.iload_n 3, 1) := by decide +kernel
theorem dX10_wedding_9 : decode cX10_wedding 9 = .ok (.invokestatic 133, 3) := by decide +kernel
theorem dX10_wedding_12 : decode cX10_wedding 12 = .ok (.ifCond .ne 6, 3) := by decide +kernel
theorem dX10_wedding_15 : decode cX10_wedding 15 = .ok (.bipush (-2), 2) := by decide +kernel
theorem dX10_wedding_17 : decode cX10_wedding 17 = .ok (.ireturn, 1) := by decide +kernel
theorem dX10_wedding_18 : decode cX10_wedding 18 = .ok (.aload_n 0, 1) := by decide +kernel
theorem dX10_wedding_19 : decode cX10_wedding 19 = .ok (.getfield 41, 3) := by decide +kernel
theorem dX10_wedding_22 : decode cX10_wedding 22 = .ok (.iload_n 1, 1) := by decide +kernel
theorem dX10_wedding_23 : decode cX10_wedding 23 = .ok (.invokevirtual 125, 3) := by decide +kernel
theorem dX10_wedding_26 : decode cX10_wedding 26 = .ok (.iconst 4, 1) := by decide +kernel
theorem dX10_wedding_27 : decode cX10_wedding 27 = .ok (.if_icmp .lt 6, 3) := by decide +kernel
theorem dX10_wedding_30 : decode cX10_wedding 30 = .ok (.bipush (-3), 2) := by decide +kernel
theorem dX10_wedding_32 : decode cX10_wedding 32 = .ok (.ireturn, 1) := by decide +kernel
theorem dX10_wedding_33 : decode cX10_wedding 33 = .ok (.aload_n 0, 1) := by decide +kernel
theorem dX10_wedding_34 : decode cX10_wedding 34 = .ok (.getfield 41, 3) := by decide +kernel
theorem dX10_wedding_37 : decode cX10_wedding 37 = .ok (.iload_n 1, 1) := by decide +kernel
theorem dX10_wedding_38 : decode cX10_wedding 38 = .ok (.iload_n 2, 1) := by decide +kernel
theorem dX10_wedding_39 : decode cX10_wedding 39 = .ok (.iload_n 3, 1) := by decide +kernel
theorem dX10_wedding_40 : decode cX10_wedding 40 = .ok (.invokevirtual 129, 3) := by decide +kernel
theorem dX10_wedding_43 : decode cX10_wedding 43 = .ok (.aload_n 0, 1) := by decide +kernel
theorem dX10_wedding_44 : decode cX10_wedding 44 = .ok (.getfield 41, 3) := by decide +kernel
theorem dX10_wedding_47 : decode cX10_wedding 47 = .ok (.iload_n 1, 1) := by decide +kernel
theorem dX10_wedding_48 : decode cX10_wedding 48 = .ok (.invokevirtual 125, 3) := by decide +kernel
theorem dX10_wedding_51 : decode cX10_wedding 51 = .ok (.ireturn, 1) := by decide +kernel
theorem dX10_on_0 : decode cX10_on 0 = .ok (.iload_n 1, 1) := by decide +kernel
theorem dX10_on_1 : decode cX10_on 1 = .ok (.invokestatic 115, 3) := by decide +kernel
theorem dX10_on_4 : decode cX10_on 4 = .ok (.ifCond .eq 10, 3) := by decide +kernel
theorem dX10_on_7 : decode cX10_on 7 = .ok (.iload_n 2, 1) := by decide +kernel
theorem dX10_on_8 : decode cX10_on 8 = .ok (.invokestatic 119, 3) := by decide +kernel
theorem dX10_on_11 : decode cX10_on 11 = .ok (.ifCond .ne 6, 3) := by decide +kernel
theorem dX10_on_14 : decode cX10_on 14 = .ok (.bipush (-2), 2) := by decide +kernel
theorem dX10_on_16 : decode cX10_on 16 = .ok (.ireturn, 1) := by decide +kernel
theorem dX10_on_17 : decode cX10_on 17 = .ok (.iload_n 3, 1) := by decide +kernel
theorem dX10_on_18 : decode cX10_on 18 = .ok (.lookupswitch 40 #[(0, 26), (1, 33)], 26) := by decide +kernel
theorem dX10_on_44 : decode cX10_on 44 = .ok (.aload_n 0, 1) := by decide +kernel
theorem dX10_on_45 : decode cX10_on 45 = .ok (.iload_n 1, 1) := by decide +kernel
theorem dX10_on_46 : decode cX10_on 46 = .ok (.iload_n 2, 1) := by decide +kernel
theorem dX10_on_47 : decode cX10_on 47 = .ok (.invokevirtual 138, 3) := by decide +kernel
theorem dX10_on_50 : decode cX10_on 50 = .ok (.ireturn, 1) := by decide +kernel
theorem dX10_on_51 : decode cX10_on 51 = .ok (.aload_n 0, 1) := by decide +kernel
theorem dX10_on_52 : decode cX10_on 52 = .ok (.iload_n 1, 1) := by decide +kernel
theorem dX10_on_53 : decode cX10_on 53 = .ok (.iload_n 2, 1) := by decide +kernel
theorem dX10_on_54 : decode cX10_on 54 = .ok (.invokevirtual 142, 3) := by decide +kernel
theorem dX10_on_57 : decode cX10_on 57 = .ok (.ireturn, 1) := by decide +kernel
theorem dX10_on_58 : decode cX10_on 58 = .ok (.bipush (-2), 2) := by decide +kernel
theorem dX10_on_60 : decode cX10_on 60 = .ok (.ireturn, 1) := by decide +kernel
theorem dX10_gown_0 : decode cX10_gown 0 = .ok (.iload_n 1, 1) := by decide +kernel
theorem dX10_gown_1 : decode cX10_gown 1 = .ok (.invokestatic 145, 3) := by decide +kernel
theorem dX10_gown_4 : decode cX10_gown 4 = .ok (.ifCond .eq 37, 3) := by decide +kernel
theorem dX10_gown_7 : decode cX10_gown 7 = .ok (.iload_n 2, 1) := by decide +kernel
theorem dX10_gown_8 : decode cX10_gown 8 = .ok (.invokestatic 145, 3) := by decide +kernel
theorem dX10_gown_11 : decode cX10_gown 11 = .ok (.ifCond .eq 30, 3) := by decide +kernel
theorem dX10_gown_14 : decode cX10_gown 14 = .ok (.iload_n 3, 1) := by decide +kernel
theorem dX10_gown_15 : decode cX10_gown 15 = .ok (.invokestatic 145, 3) := by decide +kernel
theorem dX10_gown_18 : decode cX10_gown 18 = .ok (.ifCond .eq 23, 3) := by decide +kernel
theorem dX10_gown_21 : decode cX10_gown 21 = .ok (.iload 4, 2) := by decide +kernel
theorem dX10_gown_23 : decode cX10_gown 23 = .ok (.invokestatic 145, 3) := by decide +kernel
theorem dX10_gown_26 : decode cX10_gown 26 = .ok (.ifCond .eq 15, 3) := by decide +kernel
theorem dX10_gown_29 : decode cX10_gown 29 = .ok (.iload 5, 2) := by decide +kernel
theorem dX10_gown_31 : decode cX10_gown 31 = .ok (.invokestatic 145, 3) := by decide +kernel
theorem dX10_gown_34 : decode cX10_gown 34 = .ok (.ifCond .eq 7, 3) := by decide +kernel
theorem dX10_gown_37 : decode cX10_gown 37 = .ok (.iconst 1, 1) := by decide +kernel
theorem dX10_gown_38 : decode cX10_gown 38 = .ok (.goto 4, 3) := by decide +kernel
theorem dX10_gown_41 : decode cX10_gown 41 = .ok (.iconst 0, 1) := by decide +kernel
theorem dX10_gown_42 : decode cX10_gown 42 = .ok (.istore 8, 2) := by decide +kernel
theorem dX10_gown_44 : decode cX10_gown 44 = .ok (.iload 8, 2) := by decide +kernel
theorem dX10_gown_46 : decode cX10_gown 46 = .ok (.ifCond .eq 19, 3) := by decide +kernel
theorem dX10_gown_49 : decode cX10_gown 49 = .ok (.iload 6, 2) := by decide +kernel
theorem dX10_gown_51 : decode cX10_gown 51 = .ok (.invokestatic 148, 3) := by decide +kernel
theorem dX10_gown_54 : decode cX10_gown 54 = .ok (.ifCond .eq 11, 3) := by decide +kernel
theorem dX10_gown_57 : decode cX10_gown 57 = .ok (.iload 7, 2) := by decide +kernel
theorem dX10_gown_59 : decode cX10_gown 59 = .ok (.invokestatic 151, 3) := by decide +kernel
theorem dX10_gown_62 : decode cX10_gown 62 = .ok (.ifCond .ne 6, 3) := by decide +kernel
theorem dX10_gown_65 : decode cX10_gown 65 = .ok (.bipush (-2), 2) := by decide +kernel
theorem dX10_gown_67 : decode cX10_gown 67 = .ok (.ireturn, 1) := by decide +kernel
theorem dX10_gown_68 : decode cX10_gown 68 = .ok (.aload_n 0, 1) := by decide +kernel
theorem dX10_gown_69 : decode cX10_gown 69 = .ok (.getfield 56, 3) := by decide +kernel
theorem dX10_gown_72 : decode cX10_gown 72 = .ok (.bipush 40, 2) := by decide +kernel
theorem dX10_gown_74 : decode cX10_gown 74 = .ok (.if_icmp .lt 6, 3) := by decide +kernel
theorem dX10_gown_77 : decode cX10_gown 77 = .ok (.bipush (-3), 2) := by decide +kernel
theorem dX10_gown_79 : decode cX10_gown 79 = .ok (.ireturn, 1) := by decide +kernel
theorem dX10_gown_80 : decode cX10_gown 80 = .ok (.aload_n 0, 1) := by decide +kernel
theorem dX10_gown_81 : decode cX10_gown 81 = .ok (.getfield 52, 3) := by decide +kernel
theorem dX10_gown_84 : decode cX10_gown 84 = .ok (.aload_n 0, 1) := by decide +kernel
theorem dX10_gown_85 : decode cX10_gown 85 = .ok (.getfield 56, 3) := by decide +kernel
theorem dX10_gown_88 : decode cX10_gown 88 = .ok (.new 50, 3) := by decide +kernel
theorem dX10_gown_91 : decode cX10_gown 91 = .ok (.dup, 1) := by decide +kernel
theorem dX10_gown_92 : decode cX10_gown 92 = .ok (.iload_n 1, 1) := by decide +kernel
theorem dX10_gown_93 : decode cX10_gown 93 = .ok (.iload_n 2, 1) := by decide +kernel
theorem dX10_gown_94 : decode cX10_gown 94 = .ok (.iload_n 3, 1) := by decide +kernel
theorem dX10_gown_95 : decode cX10_gown 95 = .ok (.iload 4, 2) := by decide +kernel
theorem dX10_gown_97 : decode cX10_gown 97 = .ok (.iload 5, 2) := by decide +kernel
theorem dX10_gown_99 : decode cX10_gown 99 = .ok (.iload 6, 2) := by decide +kernel
theorem dX10_gown_101 : decode cX10_gown 101 = .ok (.iload 7, 2) := by decide +kernel
theorem dX10_gown_103 : decode cX10_gown 103 = .ok (.invokespecial 154, 3) := by decide +kernel
theorem dX10_gown_106 : decode cX10_gown 106 = .ok (.aastore, 1) := by decide +kernel
theorem dX10_gown_107 : decode cX10_gown 107 = .ok (.aload_n 0, 1) := by decide +kernel
theorem dX10_gown_108 : decode cX10_gown 108 = .ok (.dup, 1) := by decide +kernel
theorem dX10_gown_109 : decode cX10_gown 109 = .ok (.getfield 56, 3) := by decide +kernel
theorem dX10_gown_112 : decode cX10_gown 112 = .ok (.iconst 1, 1) := by decide +kernel
theorem dX10_gown_113 : decode cX10_gown 113 = .ok (.iadd, 1) := by decide +kernel
theorem dX10_gown_114 : decode cX10_gown 114 = .ok (.putfield 56, 3) := by decide +kernel
theorem dX10_gown_117 : decode cX10_gown 117 = .ok (.aload_n 0, 1) := by decide +kernel
theorem dX10_gown_118 : decode cX10_gown 118 = .ok (.getfield 56, 3) := by decide +kernel
theorem dX10_gown_121 : decode cX10_gown 121 = .ok (.iconst 1, 1) := by decide +kernel
theorem dX10_gown_122 : decode cX10_gown 122 = .ok (.isub, 1) := by decide +kernel
theorem dX10_gown_123 : decode cX10_gown 123 = .ok (.ireturn, 1) := by decide +kernel
theorem dX10_seal_0 : decode cX10_seal 0 = .ok (.aload_n 0, 1) := by decide +kernel
theorem dX10_seal_1 : decode cX10_seal 1 = .ok (.iload_n 1, 1) := by decide +kernel
theorem dX10_seal_2 : decode cX10_seal 2 = .ok (.invokevirtual 157, 3) := by decide +kernel
theorem dX10_seal_5 : decode cX10_seal 5 = .ok (.astore_n 3, 1) := by decide +kernel
theorem dX10_seal_6 : decode cX10_seal 6 = .ok (.aload_n 3, 1) := by decide +kernel
theorem dX10_seal_7 : decode cX10_seal 7 = .ok (.ifnull 10, 3) := by decide +kernel
theorem dX10_seal_10 : decode cX10_seal 10 = .ok (.iload_n 2, 1) := by decide +kernel
theorem dX10_seal_11 : decode cX10_seal 11 = .ok (.invokestatic 119, 3) := by decide +kernel
theorem dX10_seal_14 : decode cX10_seal 14 = .ok (.ifCond .ne 6, 3) := by decide +kernel
theorem dX10_seal_17 : decode cX10_seal 17 = .ok (.bipush (-2), 2) := by decide +kernel
theorem dX10_seal_19 : decode cX10_seal 19 = .ok (.ireturn, 1) := by decide +kernel
theorem dX10_seal_20 : decode cX10_seal 20 = .ok (.aload_n 3, 1) := by decide +kernel
theorem dX10_seal_21 : decode cX10_seal 21 = .ok (.getfield 161, 3) := by decide +kernel
theorem dX10_seal_24 : decode cX10_seal 24 = .ok (.iconst (-1), 1) := by decide +kernel
theorem dX10_seal_25 : decode cX10_seal 25 = .ok (.if_icmp .eq 6, 3) := by decide +kernel
theorem dX10_seal_28 : decode cX10_seal 28 = .ok (.bipush (-4), 2) := by decide +kernel
theorem dX10_seal_30 : decode cX10_seal 30 = .ok (.ireturn, 1) := by decide +kernel
theorem dX10_seal_31 : decode cX10_seal 31 = .ok (.aload_n 3, 1) := by decide +kernel
theorem dX10_seal_32 : decode cX10_seal 32 = .ok (.iload_n 2, 1) := by decide +kernel
theorem dX10_seal_33 : decode cX10_seal 33 = .ok (.putfield 161, 3) := by decide +kernel
theorem dX10_seal_36 : decode cX10_seal 36 = .ok (.iconst 1, 1) := by decide +kernel
theorem dX10_seal_37 : decode cX10_seal 37 = .ok (.ireturn, 1) := by decide +kernel
theorem dX10_about_0 : decode cX10_about 0 = .ok (.aload_n 0, 1) := by decide +kernel
theorem dX10_about_1 : decode cX10_about 1 = .ok (.iload_n 1, 1) := by decide +kernel
theorem dX10_about_2 : decode cX10_about 2 = .ok (.invokevirtual 157, 3) := by decide +kernel
theorem dX10_about_5 : decode cX10_about 5 = .ok (.astore_n 3, 1) := by decide +kernel
theorem dX10_about_6 : decode cX10_about 6 = .ok (.aload_n 3, 1) := by decide +kernel
theorem dX10_about_7 : decode cX10_about 7 = .ok (.ifnonnull 5, 3) := by decide +kernel
theorem dX10_about_10 : decode cX10_about 10 = .ok (.iconst (-1), 1) := by decide +kernel
theorem dX10_about_11 : decode cX10_about 11 = .ok (.ireturn, 1) := by decide +kernel
theorem dX10_about_12 : decode cX10_about 12 = .ok (.iload_n 2, 1) := by decide +kernel
theorem dX10_about_13 : decode cX10_about 13 = .ok (.tableswitch 42 5 7 #[27, 32, 37], 27) := by decide +kernel
theorem dX10_about_40 : decode cX10_about 40 = .ok (.aload_n 3, 1) := by decide +kernel
theorem dX10_about_41 : decode cX10_about 41 = .ok (.getfield 164, 3) := by decide +kernel
theorem dX10_about_44 : decode cX10_about 44 = .ok (.ireturn, 1) := by decide +kernel
theorem dX10_about_45 : decode cX10_about 45 = .ok (.aload_n 3, 1) := by decide +kernel
theorem dX10_about_46 : decode cX10_about 46 = .ok (.getfield 167, 3) := by decide +kernel
theorem dX10_about_49 : decode cX10_about 49 = .ok (.ireturn, 1) := by decide +kernel
theorem dX10_about_50 : decode cX10_about 50 = .ok (.aload_n 3, 1) := by decide +kernel
theorem dX10_about_51 : decode cX10_about 51 = .ok (.getfield 161, 3) := by decide +kernel
theorem dX10_about_54 : decode cX10_about 54 = .ok (.ireturn, 1) := by decide +kernel
theorem dX10_about_55 : decode cX10_about 55 = .ok (.aload_n 3, 1) := by decide +kernel
theorem dX10_about_56 : decode cX10_about 56 = .ok (.iload_n 2, 1) := by decide +kernel
theorem dX10_about_57 : decode cX10_about 57 = .ok (.invokevirtual 170, 3) := by decide +kernel
theorem dX10_about_60 : decode cX10_about 60 = .ok (.ireturn, 1) := by decide +kernel
theorem dX10_like_0 : decode cX10_like 0 = .ok (.iload_n 1, 1) := by decide +kernel
theorem dX10_like_1 : decode cX10_like 1 = .ok (.invokestatic 148, 3) := by decide +kernel
theorem dX10_like_4 : decode cX10_like 4 = .ok (.ifCond .eq 22, 3) := by decide +kernel
theorem dX10_like_7 : decode cX10_like 7 = .ok (.iload_n 2, 1) := by decide +kernel
theorem dX10_like_8 : decode cX10_like 8 = .ok (.invokestatic 148, 3) := by decide +kernel
theorem dX10_like_11 : decode cX10_like 11 = .ok (.ifCond .eq 15, 3) := by decide +kernel
theorem dX10_like_14 : decode cX10_like 14 = .ok (.iload_n 2, 1) := by decide +kernel
theorem dX10_like_15 : decode cX10_like 15 = .ok (.iload_n 1, 1) := by decide +kernel
theorem dX10_like_16 : decode cX10_like 16 = .ok (.if_icmp .ge 10, 3) := by decide +kernel
theorem dX10_like_19 : decode cX10_like 19 = .ok (.iload_n 3, 1) := by decide +kernel
theorem dX10_like_20 : decode cX10_like 20 = .ok (.invokestatic 119, 3) := by decide +kernel
theorem dX10_like_23 : decode cX10_like 23 = .ok (.ifCond .ne 6, 3) := by decide +kernel
theorem dX10_like_26 : decode cX10_like 26 = .ok (.bipush (-2), 2) := by decide +kernel
theorem dX10_like_28 : decode cX10_like 28 = .ok (.ireturn, 1) := by decide +kernel
theorem dX10_like_29 : decode cX10_like 29 = .ok (.aload_n 0, 1) := by decide +kernel
theorem dX10_like_30 : decode cX10_like 30 = .ok (.getfield 47, 3) := by decide +kernel
theorem dX10_like_33 : decode cX10_like 33 = .ok (.invokevirtual 137, 3) := by decide +kernel
theorem dX10_like_36 : decode cX10_like 36 = .ok (.bipush 30, 2) := by decide +kernel
theorem dX10_like_38 : decode cX10_like 38 = .ok (.if_icmp .lt 6, 3) := by decide +kernel
theorem dX10_like_41 : decode cX10_like 41 = .ok (.bipush (-3), 2) := by decide +kernel
theorem dX10_like_43 : decode cX10_like 43 = .ok (.ireturn, 1) := by decide +kernel
theorem dX10_like_44 : decode cX10_like 44 = .ok (.aload_n 0, 1) := by decide +kernel
theorem dX10_like_45 : decode cX10_like 45 = .ok (.getfield 47, 3) := by decide +kernel
theorem dX10_like_48 : decode cX10_like 48 = .ok (.iload_n 1, 1) := by decide +kernel
theorem dX10_like_49 : decode cX10_like 49 = .ok (.iload_n 3, 1) := by decide +kernel
theorem dX10_like_50 : decode cX10_like 50 = .ok (.iload_n 2, 1) := by decide +kernel
theorem dX10_like_51 : decode cX10_like 51 = .ok (.invokevirtual 129, 3) := by decide +kernel
theorem dX10_like_54 : decode cX10_like 54 = .ok (.aload_n 0, 1) := by decide +kernel
theorem dX10_like_55 : decode cX10_like 55 = .ok (.getfield 47, 3) := by decide +kernel
theorem dX10_like_58 : decode cX10_like 58 = .ok (.invokevirtual 137, 3) := by decide +kernel
theorem dX10_like_61 : decode cX10_like 61 = .ok (.ireturn, 1) := by decide +kernel
theorem dX10_counts_0 : decode cX10_counts 0 = .ok (.iload_n 1, 1) := by decide +kernel
theorem dX10_counts_1 : decode cX10_counts 1 = .ok (.invokestatic 148, 3) := by decide +kernel
theorem dX10_counts_4 : decode cX10_counts 4 = .ok (.ifCond .eq 10, 3) := by decide +kernel
theorem dX10_counts_7 : decode cX10_counts 7 = .ok (.iload_n 2, 1) := by decide +kernel
theorem dX10_counts_8 : decode cX10_counts 8 = .ok (.invokestatic 119, 3) := by decide +kernel
theorem dX10_counts_11 : decode cX10_counts 11 = .ok (.ifCond .ne 6, 3) := by decide +kernel
theorem dX10_counts_14 : decode cX10_counts 14 = .ok (.bipush (-2), 2) := by decide +kernel
theorem dX10_counts_16 : decode cX10_counts 16 = .ok (.ireturn, 1) := by decide +kernel
theorem dX10_counts_17 : decode cX10_counts 17 = .ok (.aload_n 0, 1) := by decide +kernel
theorem dX10_counts_18 : decode cX10_counts 18 = .ok (.iload_n 1, 1) := by decide +kernel
theorem dX10_counts_19 : decode cX10_counts 19 = .ok (.iload_n 2, 1) := by decide +kernel
theorem dX10_counts_20 : decode cX10_counts 20 = .ok (.invokevirtual 173, 3) := by decide +kernel
theorem dX10_counts_23 : decode cX10_counts 23 = .ok (.ireturn, 1) := by decide +kernel
theorem dX10_act_0 : decode cX10_act 0 = .ok (.iload_n 1, 1) := by decide +kernel
theorem dX10_act_1 : decode cX10_act 1 = .ok (.invokestatic 119, 3) := by decide +kernel
theorem dX10_act_4 : decode cX10_act 4 = .ok (.ifCond .eq 18, 3) := by decide +kernel
theorem dX10_act_7 : decode cX10_act 7 = .ok (.iload_n 1, 1) := by decide +kernel
theorem dX10_act_8 : decode cX10_act 8 = .ok (.aload_n 0, 1) := by decide +kernel
theorem dX10_act_9 : decode cX10_act 9 = .ok (.getfield 28, 3) := by decide +kernel
theorem dX10_act_12 : decode cX10_act 12 = .ok (.invokevirtual 176, 3) := by decide +kernel
theorem dX10_act_15 : decode cX10_act 15 = .ok (.if_icmp .lt 7, 3) := by decide +kernel
theorem dX10_act_18 : decode cX10_act 18 = .ok (.iconst 1, 1) := by decide +kernel
theorem dX10_act_19 : decode cX10_act 19 = .ok (.goto 4, 3) := by decide +kernel
theorem dX10_act_22 : decode cX10_act 22 = .ok (.iconst 0, 1) := by decide +kernel
theorem dX10_act_23 : decode cX10_act 23 = .ok (.istore_n 2, 1) := by decide +kernel
theorem dX10_act_24 : decode cX10_act 24 = .ok (.iload_n 2, 1) := by decide +kernel
theorem dX10_act_25 : decode cX10_act 25 = .ok (.ifCond .eq 17, 3) := by decide +kernel
theorem dX10_act_28 : decode cX10_act 28 = .ok (.aload_n 0, 1) := by decide +kernel
theorem dX10_act_29 : decode cX10_act 29 = .ok (.getfield 21, 3) := by decide +kernel
theorem dX10_act_32 : decode cX10_act 32 = .ok (.aload_n 0, 1) := by decide +kernel
theorem dX10_act_33 : decode cX10_act 33 = .ok (.getfield 28, 3) := by decide +kernel
theorem dX10_act_36 : decode cX10_act 36 = .ok (.invokevirtual 179, 3) := by decide +kernel
theorem dX10_act_39 : decode cX10_act 39 = .ok (.invokevirtual 180, 3) := by decide +kernel
theorem dX10_act_42 : decode cX10_act 42 = .ok (.aload_n 0, 1) := by decide +kernel
theorem dX10_act_43 : decode cX10_act 43 = .ok (.getfield 10, 3) := by decide +kernel
theorem dX10_act_46 : decode cX10_act 46 = .ok (.iconst 0, 1) := by decide +kernel
theorem dX10_act_47 : decode cX10_act 47 = .ok (.invokevirtual 112, 3) := by decide +kernel
theorem dX10_act_50 : decode cX10_act 50 = .ok (.iload_n 2, 1) := by decide +kernel
theorem dX10_act_51 : decode cX10_act 51 = .ok (.ifCond .ne 6, 3) := by decide +kernel
theorem dX10_act_54 : decode cX10_act 54 = .ok (.bipush (-2), 2) := by decide +kernel
theorem dX10_act_56 : decode cX10_act 56 = .ok (.ireturn, 1) := by decide +kernel
theorem dX10_act_57 : decode cX10_act 57 = .ok (.aload_n 0, 1) := by decide +kernel
theorem dX10_act_58 : decode cX10_act 58 = .ok (.getfield 21, 3) := by decide +kernel
theorem dX10_act_61 : decode cX10_act 61 = .ok (.invokevirtual 183, 3) := by decide +kernel
theorem dX10_act_64 : decode cX10_act 64 = .ok (.ifCond .eq 5, 3) := by decide +kernel
theorem dX10_act_67 : decode cX10_act 67 = .ok (.iconst (-1), 1) := by decide +kernel
theorem dX10_act_68 : decode cX10_act 68 = .ok (.ireturn, 1) := by decide +kernel
theorem dX10_act_69 : decode cX10_act 69 = .ok (.aload_n 0, 1) := by decide +kernel
theorem dX10_act_70 : decode cX10_act 70 = .ok (.getfield 28, 3) := by decide +kernel
theorem dX10_act_73 : decode cX10_act 73 = .ok (.invokevirtual 179, 3) := by decide +kernel
theorem dX10_act_76 : decode cX10_act 76 = .ok (.bipush 12, 2) := by decide +kernel
theorem dX10_act_78 : decode cX10_act 78 = .ok (.if_icmp .lt 6, 3) := by decide +kernel
theorem dX10_act_81 : decode cX10_act 81 = .ok (.bipush (-3), 2) := by decide +kernel
theorem dX10_act_83 : decode cX10_act 83 = .ok (.ireturn, 1) := by decide +kernel
theorem dX10_act_84 : decode cX10_act 84 = .ok (.aload_n 0, 1) := by decide +kernel
theorem dX10_act_85 : decode cX10_act 85 = .ok (.getfield 28, 3) := by decide +kernel
theorem dX10_act_88 : decode cX10_act 88 = .ok (.aload_n 0, 1) := by decide +kernel
theorem dX10_act_89 : decode cX10_act 89 = .ok (.getfield 21, 3) := by decide +kernel
theorem dX10_act_92 : decode cX10_act 92 = .ok (.invokevirtual 186, 3) := by decide +kernel
theorem dX10_act_95 : decode cX10_act 95 = .ok (.iload_n 1, 1) := by decide +kernel
theorem dX10_act_96 : decode cX10_act 96 = .ok (.invokevirtual 190, 3) := by decide +kernel
theorem dX10_act_99 : decode cX10_act 99 = .ok (.aload_n 0, 1) := by decide +kernel
theorem dX10_act_100 : decode cX10_act 100 = .ok (.getfield 28, 3) := by decide +kernel
theorem dX10_act_103 : decode cX10_act 103 = .ok (.invokevirtual 179, 3) := by decide +kernel
theorem dX10_act_106 : decode cX10_act 106 = .ok (.iconst 1, 1) := by decide +kernel
theorem dX10_act_107 : decode cX10_act 107 = .ok (.isub, 1) := by decide +kernel
theorem dX10_act_108 : decode cX10_act 108 = .ok (.ireturn, 1) := by decide +kernel
theorem dX10_fault_0 : decode cX10_fault 0 = .ok (.iload_n 1, 1) := by decide +kernel
theorem dX10_fault_1 : decode cX10_fault 1 = .ok (.lookupswitch 43 #[(0, 27), (1, 35)], 27) := by decide +kernel
theorem dX10_fault_28 : decode cX10_fault 28 = .ok (.aload_n 0, 1) := by decide +kernel
theorem dX10_fault_29 : decode cX10_fault 29 = .ok (.getfield 21, 3) := by decide +kernel
theorem dX10_fault_32 : decode cX10_fault 32 = .ok (.invokevirtual 183, 3) := by decide +kernel
theorem dX10_fault_35 : decode cX10_fault 35 = .ok (.ireturn, 1) := by decide +kernel
theorem dX10_fault_36 : decode cX10_fault 36 = .ok (.aload_n 0, 1) := by decide +kernel
theorem dX10_fault_37 : decode cX10_fault 37 = .ok (.getfield 21, 3) := by decide +kernel
theorem dX10_fault_40 : decode cX10_fault 40 = .ok (.invokevirtual 193, 3) := by decide +kernel
theorem dX10_fault_43 : decode cX10_fault 43 = .ok (.ireturn, 1) := by decide +kernel
theorem dX10_fault_44 : decode cX10_fault 44 = .ok (.iconst (-1), 1) := by decide +kernel
theorem dX10_fault_45 : decode cX10_fault 45 = .ok (.ireturn, 1) := by decide +kernel
theorem dX10_told_0 : decode cX10_told 0 = .ok (.aload_n 0, 1) := by decide +kernel
theorem dX10_told_1 : decode cX10_told 1 = .ok (.getfield 28, 3) := by decide +kernel
theorem dX10_told_4 : decode cX10_told 4 = .ok (.iload_n 1, 1) := by decide +kernel
theorem dX10_told_5 : decode cX10_told 5 = .ok (.invokevirtual 196, 3) := by decide +kernel
theorem dX10_told_8 : decode cX10_told 8 = .ok (.astore_n 3, 1) := by decide +kernel
theorem dX10_told_9 : decode cX10_told 9 = .ok (.aload_n 3, 1) := by decide +kernel
theorem dX10_told_10 : decode cX10_told 10 = .ok (.ifnonnull 6, 3) := by decide +kernel
theorem dX10_told_13 : decode cX10_told 13 = .ok (.bipush (-9), 2) := by decide +kernel
theorem dX10_told_15 : decode cX10_told 15 = .ok (.ireturn, 1) := by decide +kernel
theorem dX10_told_16 : decode cX10_told 16 = .ok (.iload_n 2, 1) := by decide +kernel
theorem dX10_told_17 : decode cX10_told 17 = .ok (.tableswitch 60 0 4 #[35, 40, 45, 50, 55], 35) := by decide +kernel
theorem dX10_told_52 : decode cX10_told 52 = .ok (.aload_n 3, 1) := by decide +kernel
theorem dX10_told_53 : decode cX10_told 53 = .ok (.getfield 200, 3) := by decide +kernel
theorem dX10_told_56 : decode cX10_told 56 = .ok (.ireturn, 1) := by decide +kernel
theorem dX10_told_57 : decode cX10_told 57 = .ok (.aload_n 3, 1) := by decide +kernel
theorem dX10_told_58 : decode cX10_told 58 = .ok (.getfield 205, 3) := by decide +kernel
theorem dX10_told_61 : decode cX10_told 61 = .ok (.ireturn, 1) := by decide +kernel
theorem dX10_told_62 : decode cX10_told 62 = .ok (.aload_n 3, 1) := by decide +kernel
theorem dX10_told_63 : decode cX10_told 63 = .ok (.invokevirtual 208, 3) := by decide +kernel
theorem dX10_told_66 : decode cX10_told 66 = .ok (.ireturn, 1) := by decide +kernel
theorem dX10_told_67 : decode cX10_told 67 = .ok (.aload_n 3, 1) := by decide +kernel
theorem dX10_told_68 : decode cX10_told 68 = .ok (.getfield 211, 3) := by decide +kernel
theorem dX10_told_71 : decode cX10_told 71 = .ok (.ireturn, 1) := by decide +kernel
theorem dX10_told_72 : decode cX10_told 72 = .ok (.aload_n 3, 1) := by decide +kernel
theorem dX10_told_73 : decode cX10_told 73 = .ok (.getfield 214, 3) := by decide +kernel
theorem dX10_told_76 : decode cX10_told 76 = .ok (.ireturn, 1) := by decide +kernel
theorem dX10_told_77 : decode cX10_told 77 = .ok (.bipush (-9), 2) := by decide +kernel
theorem dX10_told_79 : decode cX10_told 79 = .ok (.ireturn, 1) := by decide +kernel
theorem dX10_rule_0 : decode cX10_rule 0 = .ok (.aload_n 0, 1) := by decide +kernel
theorem dX10_rule_1 : decode cX10_rule 1 = .ok (.getfield 28, 3) := by decide +kernel
theorem dX10_rule_4 : decode cX10_rule 4 = .ok (.iload_n 1, 1) := by decide +kernel
theorem dX10_rule_5 : decode cX10_rule 5 = .ok (.invokevirtual 196, 3) := by decide +kernel
theorem dX10_rule_8 : decode cX10_rule 8 = .ok (.astore 4, 2) := by decide +kernel
theorem dX10_rule_10 : decode cX10_rule 10 = .ok (.aload 4, 2) := by decide +kernel
theorem dX10_rule_12 : decode cX10_rule 12 = .ok (.ifnonnull 6, 3) := by decide +kernel
theorem dX10_rule_15 : decode cX10_rule 15 = .ok (.bipush (-9), 2) := by decide +kernel
theorem dX10_rule_17 : decode cX10_rule 17 = .ok (.ireturn, 1) := by decide +kernel
theorem dX10_rule_18 : decode cX10_rule 18 = .ok (.aload 4, 2) := by decide +kernel
theorem dX10_rule_20 : decode cX10_rule 20 = .ok (.iload_n 2, 1) := by decide +kernel
theorem dX10_rule_21 : decode cX10_rule 21 = .ok (.invokevirtual 217, 3) := by decide +kernel
theorem dX10_rule_24 : decode cX10_rule 24 = .ok (.astore 5, 2) := by decide +kernel
theorem dX10_rule_26 : decode cX10_rule 26 = .ok (.aload 5, 2) := by decide +kernel
theorem dX10_rule_28 : decode cX10_rule 28 = .ok (.ifnonnull 6, 3) := by decide +kernel
theorem dX10_rule_31 : decode cX10_rule 31 = .ok (.bipush (-9), 2) := by decide +kernel
theorem dX10_rule_33 : decode cX10_rule 33 = .ok (.ireturn, 1) := by decide +kernel
theorem dX10_rule_34 : decode cX10_rule 34 = .ok (.iload_n 3, 1) := by decide +kernel
theorem dX10_rule_35 : decode cX10_rule 35 = .ok (.tableswitch 73 0 5 #[37, 43, 49, 55, 61, 67], 37) := by decide +kernel
theorem dX10_rule_72 : decode cX10_rule 72 = .ok (.aload 5, 2) := by decide +kernel
theorem dX10_rule_74 : decode cX10_rule 74 = .ok (.getfield 221, 3) := by decide +kernel
theorem dX10_rule_77 : decode cX10_rule 77 = .ok (.ireturn, 1) := by decide +kernel
theorem dX10_rule_78 : decode cX10_rule 78 = .ok (.aload 5, 2) := by decide +kernel
theorem dX10_rule_80 : decode cX10_rule 80 = .ok (.getfield 226, 3) := by decide +kernel
theorem dX10_rule_83 : decode cX10_rule 83 = .ok (.ireturn, 1) := by decide +kernel
theorem dX10_rule_84 : decode cX10_rule 84 = .ok (.aload 5, 2) := by decide +kernel
theorem dX10_rule_86 : decode cX10_rule 86 = .ok (.getfield 229, 3) := by decide +kernel
theorem dX10_rule_89 : decode cX10_rule 89 = .ok (.ireturn, 1) := by decide +kernel
theorem dX10_rule_90 : decode cX10_rule 90 = .ok (.aload 5, 2) := by decide +kernel
theorem dX10_rule_92 : decode cX10_rule 92 = .ok (.getfield 232, 3) := by decide +kernel
theorem dX10_rule_95 : decode cX10_rule 95 = .ok (.ireturn, 1) := by decide +kernel
theorem dX10_rule_96 : decode cX10_rule 96 = .ok (.aload 5, 2) := by decide +kernel
theorem dX10_rule_98 : decode cX10_rule 98 = .ok (.getfield 235, 3) := by decide +kernel
theorem dX10_rule_101 : decode cX10_rule 101 = .ok (.ireturn, 1) := by decide +kernel
theorem dX10_rule_102 : decode cX10_rule 102 = .ok (.aload 5, 2) := by decide +kernel
theorem dX10_rule_104 : decode cX10_rule 104 = .ok (.getfield 238, 3) := by decide +kernel
theorem dX10_rule_107 : decode cX10_rule 107 = .ok (.ireturn, 1) := by decide +kernel
theorem dX10_rule_108 : decode cX10_rule 108 = .ok (.bipush (-9), 2) := by decide +kernel
theorem dX10_rule_110 : decode cX10_rule 110 = .ok (.ireturn, 1) := by decide +kernel
theorem dX10_force_0 : decode cX10_force 0 = .ok (.iload_n 1, 1) := by decide +kernel
theorem dX10_force_1 : decode cX10_force 1 = .ok (.invokestatic 119, 3) := by decide +kernel
theorem dX10_force_4 : decode cX10_force 4 = .ok (.ifCond .ne 6, 3) := by decide +kernel
theorem dX10_force_7 : decode cX10_force 7 = .ok (.bipush (-2), 2) := by decide +kernel
theorem dX10_force_9 : decode cX10_force 9 = .ok (.ireturn, 1) := by decide +kernel
theorem dX10_force_10 : decode cX10_force 10 = .ok (.aload_n 0, 1) := by decide +kernel
theorem dX10_force_11 : decode cX10_force 11 = .ok (.getfield 28, 3) := by decide +kernel
theorem dX10_force_14 : decode cX10_force 14 = .ok (.iload_n 1, 1) := by decide +kernel
theorem dX10_force_15 : decode cX10_force 15 = .ok (.invokevirtual 241, 3) := by decide +kernel
theorem dX10_force_18 : decode cX10_force 18 = .ok (.ireturn, 1) := by decide +kernel
theorem dX10_fine_0 : decode cX10_fine 0 = .ok (.aload_n 0, 1) := by decide +kernel
theorem dX10_fine_1 : decode cX10_fine 1 = .ok (.iload_n 1, 1) := by decide +kernel
theorem dX10_fine_2 : decode cX10_fine 2 = .ok (.iload_n 2, 1) := by decide +kernel
theorem dX10_fine_3 : decode cX10_fine 3 = .ok (.iload_n 3, 1) := by decide +kernel
theorem dX10_fine_4 : decode cX10_fine 4 = .ok (.invokevirtual 244, 3) := by decide +kernel
theorem dX10_fine_7 : decode cX10_fine 7 = .ok (.ifCond .ne 6, 3) := by decide +kernel
theorem dX10_fine_10 : decode cX10_fine 10 = .ok (.bipush (-2), 2) := by decide +kernel
theorem dX10_fine_12 : decode cX10_fine 12 = .ok (.ireturn, 1) := by decide +kernel
theorem dX10_fine_13 : decode cX10_fine 13 = .ok (.aload_n 0, 1) := by decide +kernel
theorem dX10_fine_14 : decode cX10_fine 14 = .ok (.iload_n 1, 1) := by decide +kernel
theorem dX10_fine_15 : decode cX10_fine 15 = .ok (.invokevirtual 248, 3) := by decide +kernel
theorem dX10_fine_18 : decode cX10_fine 18 = .ok (.ireturn, 1) := by decide +kernel
theorem dX10_broken_0 : decode cX10_broken 0 = .ok (.aload_n 0, 1) := by decide +kernel
theorem dX10_broken_1 : decode cX10_broken 1 = .ok (.getfield 28, 3) := by decide +kernel
theorem dX10_broken_4 : decode cX10_broken 4 = .ok (.iload 4, 2) := by decide +kernel
theorem dX10_broken_6 : decode cX10_broken 6 = .ok (.invokevirtual 196, 3) := by decide +kernel
theorem dX10_broken_9 : decode cX10_broken 9 = .ok (.ifnull 13, 3) := by decide +kernel
theorem dX10_broken_12 : decode cX10_broken 12 = .ok (.aload_n 0, 1) := by decide +kernel
theorem dX10_broken_13 : decode cX10_broken 13 = .ok (.iload_n 1, 1) := by decide +kernel
theorem dX10_broken_14 : decode cX10_broken 14 = .ok (.iload_n 2, 1) := by decide +kernel
theorem dX10_broken_15 : decode cX10_broken 15 = .ok (.iload_n 3, 1) := by decide +kernel
theorem dX10_broken_16 : decode cX10_broken 16 = .ok (.invokevirtual 244, 3) := by decide +kernel
theorem dX10_broken_19 : decode cX10_broken 19 = .ok (.ifCond .ne 6, 3) := by decide +kernel
theorem dX10_broken_22 : decode cX10_broken 22 = .ok (.bipush (-2), 2) := by decide +kernel
theorem dX10_broken_24 : decode cX10_broken 24 = .ok (.ireturn, 1) := by decide +kernel
theorem dX10_broken_25 : decode cX10_broken 25 = .ok (.aload_n 0, 1) := by decide +kernel
theorem dX10_broken_26 : decode cX10_broken 26 = .ok (.getfield 28, 3) := by decide +kernel
theorem dX10_broken_29 : decode cX10_broken 29 = .ok (.iload 4, 2) := by decide +kernel
theorem dX10_broken_31 : decode cX10_broken 31 = .ok (.aload_n 0, 1) := by decide +kernel
theorem dX10_broken_32 : decode cX10_broken 32 = .ok (.getfield 88, 3) := by decide +kernel
theorem dX10_broken_35 : decode cX10_broken 35 = .ok (.invokevirtual 251, 3) := by decide +kernel
theorem dX10_broken_38 : decode cX10_broken 38 = .ok (.ireturn, 1) := by decide +kernel
theorem dX10_letter_0 : decode cX10_letter 0 = .ok (.iload_n 1, 1) := by decide +kernel
theorem dX10_letter_1 : decode cX10_letter 1 = .ok (.invokestatic 115, 3) := by decide +kernel
theorem dX10_letter_4 : decode cX10_letter 4 = .ok (.ifCond .eq 31, 3) := by decide +kernel
theorem dX10_letter_7 : decode cX10_letter 7 = .ok (.iload_n 2, 1) := by decide +kernel
theorem dX10_letter_8 : decode cX10_letter 8 = .ok (.invokestatic 115, 3) := by decide +kernel
theorem dX10_letter_11 : decode cX10_letter 11 = .ok (.ifCond .eq 24, 3) := by decide +kernel
theorem dX10_letter_14 : decode cX10_letter 14 = .ok (.iload_n 1, 1) := by decide +kernel
theorem dX10_letter_15 : decode cX10_letter 15 = .ok (.iload_n 2, 1) := by decide +kernel
theorem dX10_letter_16 : decode cX10_letter 16 = .ok (.if_icmp .eq 19, 3) := by decide +kernel
theorem dX10_letter_19 : decode cX10_letter 19 = .ok (.aload_n 0, 1) := by decide +kernel
theorem dX10_letter_20 : decode cX10_letter 20 = .ok (.iload_n 3, 1) := by decide +kernel
theorem dX10_letter_21 : decode cX10_letter 21 = .ok (.invokevirtual 157, 3) := by decide +kernel
theorem dX10_letter_24 : decode cX10_letter 24 = .ok (.ifnull 11, 3) := by decide +kernel
theorem dX10_letter_27 : decode cX10_letter 27 = .ok (.iload 4, 2) := by decide +kernel
theorem dX10_letter_29 : decode cX10_letter 29 = .ok (.invokestatic 119, 3) := by decide +kernel
theorem dX10_letter_32 : decode cX10_letter 32 = .ok (.ifCond .ne 6, 3) := by decide +kernel
theorem dX10_letter_35 : decode cX10_letter 35 = .ok (.bipush (-2), 2) := by decide +kernel
theorem dX10_letter_37 : decode cX10_letter 37 = .ok (.ireturn, 1) := by decide +kernel
theorem dX10_letter_38 : decode cX10_letter 38 = .ok (.aload_n 0, 1) := by decide +kernel
theorem dX10_letter_39 : decode cX10_letter 39 = .ok (.getfield 66, 3) := by decide +kernel
theorem dX10_letter_42 : decode cX10_letter 42 = .ok (.bipush 60, 2) := by decide +kernel
theorem dX10_letter_44 : decode cX10_letter 44 = .ok (.if_icmp .lt 6, 3) := by decide +kernel
theorem dX10_letter_47 : decode cX10_letter 47 = .ok (.bipush (-3), 2) := by decide +kernel
theorem dX10_letter_49 : decode cX10_letter 49 = .ok (.ireturn, 1) := by decide +kernel
theorem dX10_letter_50 : decode cX10_letter 50 = .ok (.aload_n 0, 1) := by decide +kernel
theorem dX10_letter_51 : decode cX10_letter 51 = .ok (.getfield 62, 3) := by decide +kernel
theorem dX10_letter_54 : decode cX10_letter 54 = .ok (.aload_n 0, 1) := by decide +kernel
theorem dX10_letter_55 : decode cX10_letter 55 = .ok (.getfield 66, 3) := by decide +kernel
theorem dX10_letter_58 : decode cX10_letter 58 = .ok (.new 60, 3) := by decide +kernel
theorem dX10_letter_61 : decode cX10_letter 61 = .ok (.dup, 1) := by decide +kernel
theorem dX10_letter_62 : decode cX10_letter 62 = .ok (.iload_n 1, 1) := by decide +kernel
theorem dX10_letter_63 : decode cX10_letter 63 = .ok (.iload_n 2, 1) := by decide +kernel
theorem dX10_letter_64 : decode cX10_letter 64 = .ok (.iload_n 3, 1) := by decide +kernel
theorem dX10_letter_65 : decode cX10_letter 65 = .ok (.iload 4, 2) := by decide +kernel
theorem dX10_letter_67 : decode cX10_letter 67 = .ok (.invokespecial 255, 3) := by decide +kernel
theorem dX10_letter_70 : decode cX10_letter 70 = .ok (.aastore, 1) := by decide +kernel
theorem dX10_letter_71 : decode cX10_letter 71 = .ok (.aload_n 0, 1) := by decide +kernel
theorem dX10_letter_72 : decode cX10_letter 72 = .ok (.dup, 1) := by decide +kernel
theorem dX10_letter_73 : decode cX10_letter 73 = .ok (.getfield 66, 3) := by decide +kernel
theorem dX10_letter_76 : decode cX10_letter 76 = .ok (.iconst 1, 1) := by decide +kernel
theorem dX10_letter_77 : decode cX10_letter 77 = .ok (.iadd, 1) := by decide +kernel
theorem dX10_letter_78 : decode cX10_letter 78 = .ok (.putfield 66, 3) := by decide +kernel
theorem dX10_letter_81 : decode cX10_letter 81 = .ok (.aload_n 0, 1) := by decide +kernel
theorem dX10_letter_82 : decode cX10_letter 82 = .ok (.getfield 66, 3) := by decide +kernel
theorem dX10_letter_85 : decode cX10_letter 85 = .ok (.iconst 1, 1) := by decide +kernel
theorem dX10_letter_86 : decode cX10_letter 86 = .ok (.isub, 1) := by decide +kernel
theorem dX10_letter_87 : decode cX10_letter 87 = .ok (.ireturn, 1) := by decide +kernel
theorem dX10_judge_0 : decode cX10_judge 0 = .ok (.aload_n 0, 1) := by decide +kernel
theorem dX10_judge_1 : decode cX10_judge 1 = .ok (.iload_n 1, 1) := by decide +kernel
theorem dX10_judge_2 : decode cX10_judge 2 = .ok (.invokevirtual 258, 3) := by decide +kernel
theorem dX10_judge_5 : decode cX10_judge 5 = .ok (.astore_n 2, 1) := by decide +kernel
theorem dX10_judge_6 : decode cX10_judge 6 = .ok (.aload_n 2, 1) := by decide +kernel
theorem dX10_judge_7 : decode cX10_judge 7 = .ok (.ifnonnull 6, 3) := by decide +kernel
theorem dX10_judge_10 : decode cX10_judge 10 = .ok (.bipush (-2), 2) := by decide +kernel
theorem dX10_judge_12 : decode cX10_judge 12 = .ok (.ireturn, 1) := by decide +kernel
theorem dX10_judge_13 : decode cX10_judge 13 = .ok (.aload_n 2, 1) := by decide +kernel
theorem dX10_judge_14 : decode cX10_judge 14 = .ok (.getfield 262, 3) := by decide +kernel
theorem dX10_judge_17 : decode cX10_judge 17 = .ok (.ifCond .eq 6, 3) := by decide +kernel
theorem dX10_judge_20 : decode cX10_judge 20 = .ok (.bipush (-4), 2) := by decide +kernel
theorem dX10_judge_22 : decode cX10_judge 22 = .ok (.ireturn, 1) := by decide +kernel
theorem dX10_judge_23 : decode cX10_judge 23 = .ok (.aload_n 0, 1) := by decide +kernel
theorem dX10_judge_24 : decode cX10_judge 24 = .ok (.aload_n 2, 1) := by decide +kernel
theorem dX10_judge_25 : decode cX10_judge 25 = .ok (.invokevirtual 265, 3) := by decide +kernel
theorem dX10_judge_28 : decode cX10_judge 28 = .ok (.ifCond .eq 10, 3) := by decide +kernel
theorem dX10_judge_31 : decode cX10_judge 31 = .ok (.aload_n 2, 1) := by decide +kernel
theorem dX10_judge_32 : decode cX10_judge 32 = .ok (.iconst 3, 1) := by decide +kernel
theorem dX10_judge_33 : decode cX10_judge 33 = .ok (.putfield 262, 3) := by decide +kernel
theorem dX10_judge_36 : decode cX10_judge 36 = .ok (.iconst 3, 1) := by decide +kernel
theorem dX10_judge_37 : decode cX10_judge 37 = .ok (.ireturn, 1) := by decide +kernel
theorem dX10_judge_38 : decode cX10_judge 38 = .ok (.aload_n 0, 1) := by decide +kernel
theorem dX10_judge_39 : decode cX10_judge 39 = .ok (.aload_n 2, 1) := by decide +kernel
theorem dX10_judge_40 : decode cX10_judge 40 = .ok (.getfield 269, 3) := by decide +kernel
theorem dX10_judge_43 : decode cX10_judge 43 = .ok (.aload_n 2, 1) := by decide +kernel
theorem dX10_judge_44 : decode cX10_judge 44 = .ok (.getfield 272, 3) := by decide +kernel
theorem dX10_judge_47 : decode cX10_judge 47 = .ok (.aload_n 2, 1) := by decide +kernel
theorem dX10_judge_48 : decode cX10_judge 48 = .ok (.getfield 275, 3) := by decide +kernel
theorem dX10_judge_51 : decode cX10_judge 51 = .ok (.invokevirtual 244, 3) := by decide +kernel
theorem dX10_judge_54 : decode cX10_judge 54 = .ok (.ifCond .eq 14, 3) := by decide +kernel
theorem dX10_judge_57 : decode cX10_judge 57 = .ok (.aload_n 0, 1) := by decide +kernel
theorem dX10_judge_58 : decode cX10_judge 58 = .ok (.aload_n 2, 1) := by decide +kernel
theorem dX10_judge_59 : decode cX10_judge 59 = .ok (.getfield 269, 3) := by decide +kernel
theorem dX10_judge_62 : decode cX10_judge 62 = .ok (.invokevirtual 248, 3) := by decide +kernel
theorem dX10_judge_65 : decode cX10_judge 65 = .ok (.goto 4, 3) := by decide +kernel
theorem dX10_judge_68 : decode cX10_judge 68 = .ok (.iconst 0, 1) := by decide +kernel
theorem dX10_judge_69 : decode cX10_judge 69 = .ok (.istore_n 3, 1) := by decide +kernel
theorem dX10_judge_70 : decode cX10_judge 70 = .ok (.iload_n 3, 1) := by decide +kernel
theorem dX10_judge_71 : decode cX10_judge 71 = .ok (.ifCond .le 12, 3) := by decide +kernel
theorem dX10_judge_74 : decode cX10_judge 74 = .ok (.aload_n 0, 1) := by decide +kernel
theorem dX10_judge_75 : decode cX10_judge 75 = .ok (.aload_n 2, 1) := by decide +kernel
theorem dX10_judge_76 : decode cX10_judge 76 = .ok (.iload_n 3, 1) := by decide +kernel
theorem dX10_judge_77 : decode cX10_judge 77 = .ok (.invokevirtual 278, 3) := by decide +kernel
theorem dX10_judge_80 : decode cX10_judge 80 = .ok (.goto 8, 3) := by decide +kernel
theorem dX10_judge_83 : decode cX10_judge 83 = .ok (.aload_n 0, 1) := by decide +kernel
theorem dX10_judge_84 : decode cX10_judge 84 = .ok (.aload_n 2, 1) := by decide +kernel
theorem dX10_judge_85 : decode cX10_judge 85 = .ok (.invokevirtual 282, 3) := by decide +kernel
theorem dX10_judge_88 : decode cX10_judge 88 = .ok (.aload_n 2, 1) := by decide +kernel
theorem dX10_judge_89 : decode cX10_judge 89 = .ok (.getfield 262, 3) := by decide +kernel
theorem dX10_judge_92 : decode cX10_judge 92 = .ok (.ireturn, 1) := by decide +kernel
theorem dX10_lettered_0 : decode cX10_lettered 0 = .ok (.aload_n 0, 1) := by decide +kernel
theorem dX10_lettered_1 : decode cX10_lettered 1 = .ok (.iload_n 1, 1) := by decide +kernel
theorem dX10_lettered_2 : decode cX10_lettered 2 = .ok (.invokevirtual 258, 3) := by decide +kernel
theorem dX10_lettered_5 : decode cX10_lettered 5 = .ok (.astore_n 3, 1) := by decide +kernel
theorem dX10_lettered_6 : decode cX10_lettered 6 = .ok (.aload_n 3, 1) := by decide +kernel
theorem dX10_lettered_7 : decode cX10_lettered 7 = .ok (.ifnonnull 6, 3) := by decide +kernel
theorem dX10_lettered_10 : decode cX10_lettered 10 = .ok (.bipush (-9), 2) := by decide +kernel
theorem dX10_lettered_12 : decode cX10_lettered 12 = .ok (.ireturn, 1) := by decide +kernel
theorem dX10_lettered_13 : decode cX10_lettered 13 = .ok (.iload_n 2, 1) := by decide +kernel
theorem dX10_lettered_14 : decode cX10_lettered 14 = .ok (.tableswitch 77 0 6 #[42, 47, 52, 57, 62, 67, 72], 42) := by decide +kernel
theorem dX10_lettered_56 : decode cX10_lettered 56 = .ok (.aload_n 3, 1) := by decide +kernel
theorem dX10_lettered_57 : decode cX10_lettered 57 = .ok (.getfield 286, 3) := by decide +kernel
theorem dX10_lettered_60 : decode cX10_lettered 60 = .ok (.ireturn, 1) := by decide +kernel
theorem dX10_lettered_61 : decode cX10_lettered 61 = .ok (.aload_n 3, 1) := by decide +kernel
theorem dX10_lettered_62 : decode cX10_lettered 62 = .ok (.getfield 269, 3) := by decide +kernel
theorem dX10_lettered_65 : decode cX10_lettered 65 = .ok (.ireturn, 1) := by decide +kernel
theorem dX10_lettered_66 : decode cX10_lettered 66 = .ok (.aload_n 3, 1) := by decide +kernel
theorem dX10_lettered_67 : decode cX10_lettered 67 = .ok (.getfield 272, 3) := by decide +kernel
theorem dX10_lettered_70 : decode cX10_lettered 70 = .ok (.ireturn, 1) := by decide +kernel
theorem dX10_lettered_71 : decode cX10_lettered 71 = .ok (.aload_n 3, 1) := by decide +kernel
theorem dX10_lettered_72 : decode cX10_lettered 72 = .ok (.getfield 275, 3) := by decide +kernel
theorem dX10_lettered_75 : decode cX10_lettered 75 = .ok (.ireturn, 1) := by decide +kernel
theorem dX10_lettered_76 : decode cX10_lettered 76 = .ok (.aload_n 3, 1) := by decide +kernel
theorem dX10_lettered_77 : decode cX10_lettered 77 = .ok (.getfield 262, 3) := by decide +kernel
theorem dX10_lettered_80 : decode cX10_lettered 80 = .ok (.ireturn, 1) := by decide +kernel
theorem dX10_lettered_81 : decode cX10_lettered 81 = .ok (.aload_n 3, 1) := by decide +kernel
theorem dX10_lettered_82 : decode cX10_lettered 82 = .ok (.getfield 289, 3) := by decide +kernel
theorem dX10_lettered_85 : decode cX10_lettered 85 = .ok (.ireturn, 1) := by decide +kernel
theorem dX10_lettered_86 : decode cX10_lettered 86 = .ok (.aload_n 3, 1) := by decide +kernel
theorem dX10_lettered_87 : decode cX10_lettered 87 = .ok (.getfield 290, 3) := by decide +kernel
theorem dX10_lettered_90 : decode cX10_lettered 90 = .ok (.ireturn, 1) := by decide +kernel
theorem dX10_lettered_91 : decode cX10_lettered 91 = .ok (.bipush (-9), 2) := by decide +kernel
theorem dX10_lettered_93 : decode cX10_lettered 93 = .ok (.ireturn, 1) := by decide +kernel
theorem dX10_person_0 : decode cX10_person 0 = .ok (.iload_n 1, 1) := by decide +kernel
theorem dX10_person_1 : decode cX10_person 1 = .ok (.invokestatic 115, 3) := by decide +kernel
theorem dX10_person_4 : decode cX10_person 4 = .ok (.ifCond .ne 6, 3) := by decide +kernel
theorem dX10_person_7 : decode cX10_person 7 = .ok (.bipush (-2), 2) := by decide +kernel
theorem dX10_person_9 : decode cX10_person 9 = .ok (.ireturn, 1) := by decide +kernel
theorem dX10_person_10 : decode cX10_person 10 = .ok (.iload_n 2, 1) := by decide +kernel
theorem dX10_person_11 : decode cX10_person 11 = .ok (.tableswitch 46 0 2 #[25, 32, 39], 25) := by decide +kernel
theorem dX10_person_36 : decode cX10_person 36 = .ok (.aload_n 0, 1) := by decide +kernel
theorem dX10_person_37 : decode cX10_person 37 = .ok (.getfield 69, 3) := by decide +kernel
theorem dX10_person_40 : decode cX10_person 40 = .ok (.iload_n 1, 1) := by decide +kernel
theorem dX10_person_41 : decode cX10_person 41 = .ok (.iaload, 1) := by decide +kernel
theorem dX10_person_42 : decode cX10_person 42 = .ok (.ireturn, 1) := by decide +kernel
theorem dX10_person_43 : decode cX10_person 43 = .ok (.aload_n 0, 1) := by decide +kernel
theorem dX10_person_44 : decode cX10_person 44 = .ok (.getfield 73, 3) := by decide +kernel
theorem dX10_person_47 : decode cX10_person 47 = .ok (.iload_n 1, 1) := by decide +kernel
theorem dX10_person_48 : decode cX10_person 48 = .ok (.iaload, 1) := by decide +kernel
theorem dX10_person_49 : decode cX10_person 49 = .ok (.ireturn, 1) := by decide +kernel
theorem dX10_person_50 : decode cX10_person 50 = .ok (.aload_n 0, 1) := by decide +kernel
theorem dX10_person_51 : decode cX10_person 51 = .ok (.getfield 76, 3) := by decide +kernel
theorem dX10_person_54 : decode cX10_person 54 = .ok (.iload_n 1, 1) := by decide +kernel
theorem dX10_person_55 : decode cX10_person 55 = .ok (.iaload, 1) := by decide +kernel
theorem dX10_person_56 : decode cX10_person 56 = .ok (.ireturn, 1) := by decide +kernel
theorem dX10_person_57 : decode cX10_person 57 = .ok (.bipush (-2), 2) := by decide +kernel
theorem dX10_person_59 : decode cX10_person 59 = .ok (.ireturn, 1) := by decide +kernel
theorem dX10_price_0 : decode cX10_price 0 = .ok (.iload_n 1, 1) := by decide +kernel
theorem dX10_price_1 : decode cX10_price 1 = .ok (.ifCond .lt 20, 3) := by decide +kernel
theorem dX10_price_4 : decode cX10_price 4 = .ok (.iload_n 1, 1) := by decide +kernel
theorem dX10_price_5 : decode cX10_price 5 = .ok (.bipush 7, 2) := by decide +kernel
theorem dX10_price_7 : decode cX10_price 7 = .ok (.if_icmp .ge 14, 3) := by decide +kernel
theorem dX10_price_10 : decode cX10_price 10 = .ok (.iload_n 2, 1) := by decide +kernel
theorem dX10_price_11 : decode cX10_price 11 = .ok (.ifCond .lt 10, 3) := by decide +kernel
theorem dX10_price_14 : decode cX10_price 14 = .ok (.iload_n 2, 1) := by decide +kernel
theorem dX10_price_15 : decode cX10_price 15 = .ok (.sipush 999, 3) := by decide +kernel
theorem dX10_price_18 : decode cX10_price 18 = .ok (.if_icmp .le 6, 3) := by decide +kernel
theorem dX10_price_21 : decode cX10_price 21 = .ok (.bipush (-2), 2) := by decide +kernel
theorem dX10_price_23 : decode cX10_price 23 = .ok (.ireturn, 1) := by decide +kernel
theorem dX10_price_24 : decode cX10_price 24 = .ok (.aload_n 0, 1) := by decide +kernel
theorem dX10_price_25 : decode cX10_price 25 = .ok (.getfield 82, 3) := by decide +kernel
theorem dX10_price_28 : decode cX10_price 28 = .ok (.iload_n 1, 1) := by decide +kernel
theorem dX10_price_29 : decode cX10_price 29 = .ok (.iaload, 1) := by decide +kernel
theorem dX10_price_30 : decode cX10_price 30 = .ok (.istore_n 3, 1) := by decide +kernel
theorem dX10_price_31 : decode cX10_price 31 = .ok (.aload_n 0, 1) := by decide +kernel
theorem dX10_price_32 : decode cX10_price 32 = .ok (.getfield 82, 3) := by decide +kernel
theorem dX10_price_35 : decode cX10_price 35 = .ok (.iload_n 1, 1) := by decide +kernel
theorem dX10_price_36 : decode cX10_price 36 = .ok (.iload_n 2, 1) := by decide +kernel
theorem dX10_price_37 : decode cX10_price 37 = .ok (.iastore, 1) := by decide +kernel
theorem dX10_price_38 : decode cX10_price 38 = .ok (.iload_n 3, 1) := by decide +kernel
theorem dX10_price_39 : decode cX10_price 39 = .ok (.ireturn, 1) := by decide +kernel
theorem dX10_alter_0 : decode cX10_alter 0 = .ok (.aload_n 0, 1) := by decide +kernel
theorem dX10_alter_1 : decode cX10_alter 1 = .ok (.iload_n 1, 1) := by decide +kernel
theorem dX10_alter_2 : decode cX10_alter 2 = .ok (.iload_n 2, 1) := by decide +kernel
theorem dX10_alter_3 : decode cX10_alter 3 = .ok (.iload_n 3, 1) := by decide +kernel
theorem dX10_alter_4 : decode cX10_alter 4 = .ok (.invokevirtual 244, 3) := by decide +kernel
theorem dX10_alter_7 : decode cX10_alter 7 = .ok (.ifCond .ne 6, 3) := by decide +kernel
theorem dX10_alter_10 : decode cX10_alter 10 = .ok (.bipush (-2), 2) := by decide +kernel
theorem dX10_alter_12 : decode cX10_alter 12 = .ok (.ireturn, 1) := by decide +kernel
theorem dX10_alter_13 : decode cX10_alter 13 = .ok (.aload_n 0, 1) := by decide +kernel
theorem dX10_alter_14 : decode cX10_alter 14 = .ok (.invokevirtual 293, 3) := by decide +kernel
theorem dX10_alter_17 : decode cX10_alter 17 = .ok (.ireturn, 1) := by decide +kernel
theorem dX10_best_0 : decode cX10_best 0 = .ok (.aload_n 0, 1) := by decide +kernel
theorem dX10_best_1 : decode cX10_best 1 = .ok (.iload_n 1, 1) := by decide +kernel
theorem dX10_best_2 : decode cX10_best 2 = .ok (.iload_n 2, 1) := by decide +kernel
theorem dX10_best_3 : decode cX10_best 3 = .ok (.iload_n 3, 1) := by decide +kernel
theorem dX10_best_4 : decode cX10_best 4 = .ok (.invokevirtual 244, 3) := by decide +kernel
theorem dX10_best_7 : decode cX10_best 7 = .ok (.ifCond .ne 6, 3) := by decide +kernel
theorem dX10_best_10 : decode cX10_best 10 = .ok (.bipush (-2), 2) := by decide +kernel
theorem dX10_best_12 : decode cX10_best 12 = .ok (.ireturn, 1) := by decide +kernel
theorem dX10_best_13 : decode cX10_best 13 = .ok (.aload_n 0, 1) := by decide +kernel
theorem dX10_best_14 : decode cX10_best 14 = .ok (.iload_n 1, 1) := by decide +kernel
theorem dX10_best_15 : decode cX10_best 15 = .ok (.invokevirtual 248, 3) := by decide +kernel
theorem dX10_best_18 : decode cX10_best 18 = .ok (.istore 4, 2) := by decide +kernel
theorem dX10_best_20 : decode cX10_best 20 = .ok (.iload 4, 2) := by decide +kernel
theorem dX10_best_22 : decode cX10_best 22 = .ok (.ifCond .ne 5, 3) := by decide +kernel
theorem dX10_best_25 : decode cX10_best 25 = .ok (.iconst 0, 1) := by decide +kernel
theorem dX10_best_26 : decode cX10_best 26 = .ok (.ireturn, 1) := by decide +kernel
theorem dX10_best_27 : decode cX10_best 27 = .ok (.aload_n 0, 1) := by decide +kernel
theorem dX10_best_28 : decode cX10_best 28 = .ok (.invokevirtual 293, 3) := by decide +kernel
theorem dX10_best_31 : decode cX10_best 31 = .ok (.istore 5, 2) := by decide +kernel
theorem dX10_best_33 : decode cX10_best 33 = .ok (.iload 5, 2) := by decide +kernel
theorem dX10_best_35 : decode cX10_best 35 = .ok (.iconst (-1), 1) := by decide +kernel
theorem dX10_best_36 : decode cX10_best 36 = .ok (.if_icmp .eq 14, 3) := by decide +kernel
theorem dX10_best_39 : decode cX10_best 39 = .ok (.iload 5, 2) := by decide +kernel
theorem dX10_best_41 : decode cX10_best 41 = .ok (.iload 4, 2) := by decide +kernel
theorem dX10_best_43 : decode cX10_best 43 = .ok (.if_icmp .gt 7, 3) := by decide +kernel
theorem dX10_best_46 : decode cX10_best 46 = .ok (.iconst 1, 1) := by decide +kernel
theorem dX10_best_47 : decode cX10_best 47 = .ok (.goto 4, 3) := by decide +kernel
theorem dX10_best_50 : decode cX10_best 50 = .ok (.iconst 2, 1) := by decide +kernel
theorem dX10_best_51 : decode cX10_best 51 = .ok (.ireturn, 1) := by decide +kernel
theorem dX10_worn_0 : decode cX10_worn 0 = .ok (.aload_n 0, 1) := by decide +kernel
theorem dX10_worn_1 : decode cX10_worn 1 = .ok (.iload_n 1, 1) := by decide +kernel
theorem dX10_worn_2 : decode cX10_worn 2 = .ok (.invokevirtual 157, 3) := by decide +kernel
theorem dX10_worn_5 : decode cX10_worn 5 = .ok (.astore 6, 2) := by decide +kernel
theorem dX10_worn_7 : decode cX10_worn 7 = .ok (.aload 6, 2) := by decide +kernel
theorem dX10_worn_9 : decode cX10_worn 9 = .ok (.ifnull 40, 3) := by decide +kernel
theorem dX10_worn_12 : decode cX10_worn 12 = .ok (.iload_n 2, 1) := by decide +kernel
theorem dX10_worn_13 : decode cX10_worn 13 = .ok (.invokestatic 122, 3) := by decide +kernel
theorem dX10_worn_16 : decode cX10_worn 16 = .ok (.ifCond .eq 33, 3) := by decide +kernel
theorem dX10_worn_19 : decode cX10_worn 19 = .ok (.iload_n 3, 1) := by decide +kernel
theorem dX10_worn_20 : decode cX10_worn 20 = .ok (.iload 4, 2) := by decide +kernel
theorem dX10_worn_22 : decode cX10_worn 22 = .ok (.invokestatic 133, 3) := by decide +kernel
theorem dX10_worn_25 : decode cX10_worn 25 = .ok (.ifCond .eq 24, 3) := by decide +kernel
theorem dX10_worn_28 : decode cX10_worn 28 = .ok (.iload 4, 2) := by decide +kernel
theorem dX10_worn_30 : decode cX10_worn 30 = .ok (.iload_n 3, 1) := by decide +kernel
theorem dX10_worn_31 : decode cX10_worn 31 = .ok (.isub, 1) := by decide +kernel
theorem dX10_worn_32 : decode cX10_worn 32 = .ok (.sipush 500, 3) := by decide +kernel
theorem dX10_worn_35 : decode cX10_worn 35 = .ok (.if_icmp .ge 14, 3) := by decide +kernel
theorem dX10_worn_38 : decode cX10_worn 38 = .ok (.iload 5, 2) := by decide +kernel
theorem dX10_worn_40 : decode cX10_worn 40 = .ok (.ifCond .lt 9, 3) := by decide +kernel
theorem dX10_worn_43 : decode cX10_worn 43 = .ok (.iload 5, 2) := by decide +kernel
theorem dX10_worn_45 : decode cX10_worn 45 = .ok (.iconst 2, 1) := by decide +kernel
theorem dX10_worn_46 : decode cX10_worn 46 = .ok (.if_icmp .le 6, 3) := by decide +kernel
theorem dX10_worn_49 : decode cX10_worn 49 = .ok (.bipush (-2), 2) := by decide +kernel
theorem dX10_worn_51 : decode cX10_worn 51 = .ok (.ireturn, 1) := by decide +kernel
theorem dX10_worn_52 : decode cX10_worn 52 = .ok (.iconst 0, 1) := by decide +kernel
theorem dX10_worn_53 : decode cX10_worn 53 = .ok (.istore 7, 2) := by decide +kernel
theorem dX10_worn_55 : decode cX10_worn 55 = .ok (.iconst (-1), 1) := by decide +kernel
theorem dX10_worn_56 : decode cX10_worn 56 = .ok (.istore 8, 2) := by decide +kernel
theorem dX10_worn_58 : decode cX10_worn 58 = .ok (.iconst (-1), 1) := by decide +kernel
theorem dX10_worn_59 : decode cX10_worn 59 = .ok (.istore 9, 2) := by decide +kernel
theorem dX10_worn_61 : decode cX10_worn 61 = .ok (.iload_n 3, 1) := by decide +kernel
theorem dX10_worn_62 : decode cX10_worn 62 = .ok (.istore 10, 2) := by decide +kernel
theorem dX10_worn_64 : decode cX10_worn 64 = .ok (.iload 10, 2) := by decide +kernel
theorem dX10_worn_66 : decode cX10_worn 66 = .ok (.iload 4, 2) := by decide +kernel
theorem dX10_worn_68 : decode cX10_worn 68 = .ok (.if_icmp .gt 69, 3) := by decide +kernel
theorem dX10_worn_71 : decode cX10_worn 71 = .ok (.aload_n 0, 1) := by decide +kernel
theorem dX10_worn_72 : decode cX10_worn 72 = .ok (.getfield 88, 3) := by decide +kernel
theorem dX10_worn_75 : decode cX10_worn 75 = .ok (.iload_n 2, 1) := by decide +kernel
theorem dX10_worn_76 : decode cX10_worn 76 = .ok (.iconst 0, 1) := by decide +kernel
theorem dX10_worn_77 : decode cX10_worn 77 = .ok (.aload 6, 2) := by decide +kernel
theorem dX10_worn_79 : decode cX10_worn 79 = .ok (.iload 10, 2) := by decide +kernel
theorem dX10_worn_81 : decode cX10_worn 81 = .ok (.aload_n 0, 1) := by decide +kernel
theorem dX10_worn_82 : decode cX10_worn 82 = .ok (.aload 6, 2) := by decide +kernel
theorem dX10_worn_84 : decode cX10_worn 84 = .ok (.getfield 164, 3) := by decide +kernel
theorem dX10_worn_87 : decode cX10_worn 87 = .ok (.iload 10, 2) := by decide +kernel
theorem dX10_worn_89 : decode cX10_worn 89 = .ok (.invokevirtual 173, 3) := by decide +kernel
theorem dX10_worn_92 : decode cX10_worn 92 = .ok (.invokevirtual 296, 3) := by decide +kernel
theorem dX10_worn_95 : decode cX10_worn 95 = .ok (.aload_n 0, 1) := by decide +kernel
theorem dX10_worn_96 : decode cX10_worn 96 = .ok (.getfield 28, 3) := by decide +kernel
theorem dX10_worn_99 : decode cX10_worn 99 = .ok (.aload_n 0, 1) := by decide +kernel
theorem dX10_worn_100 : decode cX10_worn 100 = .ok (.getfield 88, 3) := by decide +kernel
theorem dX10_worn_103 : decode cX10_worn 103 = .ok (.invokevirtual 300, 3) := by decide +kernel
theorem dX10_worn_106 : decode cX10_worn 106 = .ok (.ifCond .ne 25, 3) := by decide +kernel
theorem dX10_worn_109 : decode cX10_worn 109 = .ok (.iinc 7 1, 3) := by decide +kernel
theorem dX10_worn_112 : decode cX10_worn 112 = .ok (.iload 8, 2) := by decide +kernel
theorem dX10_worn_114 : decode cX10_worn 114 = .ok (.iconst (-1), 1) := by decide +kernel
theorem dX10_worn_115 : decode cX10_worn 115 = .ok (.if_icmp .ne 8, 3) := by decide +kernel
theorem dX10_worn_118 : decode cX10_worn 118 = .ok (.iload 10, 2) := by decide +kernel
theorem dX10_worn_120 : decode cX10_worn 120 = .ok (.goto 5, 3) := by decide +kernel
theorem dX10_worn_123 : decode cX10_worn 123 = .ok (.iload 8, 2) := by decide +kernel
theorem dX10_worn_125 : decode cX10_worn 125 = .ok (.istore 8, 2) := by decide +kernel
theorem dX10_worn_127 : decode cX10_worn 127 = .ok (.iload 10, 2) := by decide +kernel
theorem dX10_worn_129 : decode cX10_worn 129 = .ok (.istore 9, 2) := by decide +kernel
theorem dX10_worn_131 : decode cX10_worn 131 = .ok (.iinc 10 1, 3) := by decide +kernel
theorem dX10_worn_134 : decode cX10_worn 134 = .ok (.goto (-70), 3) := by decide +kernel
theorem dX10_worn_137 : decode cX10_worn 137 = .ok (.iload 5, 2) := by decide +kernel
theorem dX10_worn_139 : decode cX10_worn 139 = .ok (.ifCond .ne 6, 3) := by decide +kernel
theorem dX10_worn_142 : decode cX10_worn 142 = .ok (.iload 7, 2) := by decide +kernel
theorem dX10_worn_144 : decode cX10_worn 144 = .ok (.ireturn, 1) := by decide +kernel
theorem dX10_worn_145 : decode cX10_worn 145 = .ok (.iload 5, 2) := by decide +kernel
theorem dX10_worn_147 : decode cX10_worn 147 = .ok (.iconst 1, 1) := by decide +kernel
theorem dX10_worn_148 : decode cX10_worn 148 = .ok (.if_icmp .ne 8, 3) := by decide +kernel
theorem dX10_worn_151 : decode cX10_worn 151 = .ok (.iload 8, 2) := by decide +kernel
theorem dX10_worn_153 : decode cX10_worn 153 = .ok (.goto 5, 3) := by decide +kernel
theorem dX10_worn_156 : decode cX10_worn 156 = .ok (.iload 9, 2) := by decide +kernel
theorem dX10_worn_158 : decode cX10_worn 158 = .ok (.ireturn, 1) := by decide +kernel
theorem dX10_count_0 : decode cX10_count 0 = .ok (.iload_n 1, 1) := by decide +kernel
theorem dX10_count_1 : decode cX10_count 1 = .ok (.tableswitch 90 0 6 #[43, 51, 56, 61, 66, 74, 82], 43) := by decide +kernel
theorem dX10_count_44 : decode cX10_count 44 = .ok (.aload_n 0, 1) := by decide +kernel
theorem dX10_count_45 : decode cX10_count 45 = .ok (.getfield 28, 3) := by decide +kernel
theorem dX10_count_48 : decode cX10_count 48 = .ok (.invokevirtual 179, 3) := by decide +kernel
theorem dX10_count_51 : decode cX10_count 51 = .ok (.ireturn, 1) := by decide +kernel
theorem dX10_count_52 : decode cX10_count 52 = .ok (.aload_n 0, 1) := by decide +kernel
theorem dX10_count_53 : decode cX10_count 53 = .ok (.getfield 56, 3) := by decide +kernel
theorem dX10_count_56 : decode cX10_count 56 = .ok (.ireturn, 1) := by decide +kernel
theorem dX10_count_57 : decode cX10_count 57 = .ok (.aload_n 0, 1) := by decide +kernel
theorem dX10_count_58 : decode cX10_count 58 = .ok (.getfield 66, 3) := by decide +kernel
theorem dX10_count_61 : decode cX10_count 61 = .ok (.ireturn, 1) := by decide +kernel
theorem dX10_count_62 : decode cX10_count 62 = .ok (.aload_n 0, 1) := by decide +kernel
theorem dX10_count_63 : decode cX10_count 63 = .ok (.getfield 79, 3) := by decide +kernel
theorem dX10_count_66 : decode cX10_count 66 = .ok (.ireturn, 1) := by decide +kernel
theorem dX10_count_67 : decode cX10_count 67 = .ok (.aload_n 0, 1) := by decide +kernel
theorem dX10_count_68 : decode cX10_count 68 = .ok (.getfield 47, 3) := by decide +kernel
theorem dX10_count_71 : decode cX10_count 71 = .ok (.invokevirtual 137, 3) := by decide +kernel
theorem dX10_count_74 : decode cX10_count 74 = .ok (.ireturn, 1) := by decide +kernel
theorem dX10_count_75 : decode cX10_count 75 = .ok (.aload_n 0, 1) := by decide +kernel
theorem dX10_count_76 : decode cX10_count 76 = .ok (.getfield 44, 3) := by decide +kernel
theorem dX10_count_79 : decode cX10_count 79 = .ok (.invokevirtual 137, 3) := by decide +kernel
theorem dX10_count_82 : decode cX10_count 82 = .ok (.ireturn, 1) := by decide +kernel
theorem dX10_count_83 : decode cX10_count 83 = .ok (.aload_n 0, 1) := by decide +kernel
theorem dX10_count_84 : decode cX10_count 84 = .ok (.getfield 10, 3) := by decide +kernel
theorem dX10_count_87 : decode cX10_count 87 = .ok (.invokevirtual 105, 3) := by decide +kernel
theorem dX10_count_90 : decode cX10_count 90 = .ok (.ireturn, 1) := by decide +kernel
theorem dX10_count_91 : decode cX10_count 91 = .ok (.iconst (-1), 1) := by decide +kernel
theorem dX10_count_92 : decode cX10_count 92 = .ok (.ireturn, 1) := by decide +kernel
theorem dX10_isPerson_0 : decode cX10_isPerson 0 = .ok (.iload_n 0, 1) := by decide +kernel
theorem dX10_isPerson_1 : decode cX10_isPerson 1 = .ok (.ifCond .lt 13, 3) := by decide +kernel
theorem dX10_isPerson_4 : decode cX10_isPerson 4 = .ok (.iload_n 0, 1) := by decide +kernel
theorem dX10_isPerson_5 : decode cX10_isPerson 5 = .ok (.bipush 30, 2) := by decide +kernel
theorem dX10_isPerson_7 : decode cX10_isPerson 7 = .ok (.if_icmp .ge 7, 3) := by decide +kernel
theorem dX10_isPerson_10 : decode cX10_isPerson 10 = .ok (.iconst 1, 1) := by decide +kernel
theorem dX10_isPerson_11 : decode cX10_isPerson 11 = .ok (.goto 4, 3) := by decide +kernel
theorem dX10_isPerson_14 : decode cX10_isPerson 14 = .ok (.iconst 0, 1) := by decide +kernel
theorem dX10_isPerson_15 : decode cX10_isPerson 15 = .ok (.ireturn, 1) := by decide +kernel
theorem dX10_isDay_0 : decode cX10_isDay 0 = .ok (.iload_n 0, 1) := by decide +kernel
theorem dX10_isDay_1 : decode cX10_isDay 1 = .ok (.ifCond .lt 14, 3) := by decide +kernel
theorem dX10_isDay_4 : decode cX10_isDay 4 = .ok (.iload_n 0, 1) := by decide +kernel
theorem dX10_isDay_5 : decode cX10_isDay 5 = .ok (.sipush 9999, 3) := by decide +kernel
theorem dX10_isDay_8 : decode cX10_isDay 8 = .ok (.if_icmp .gt 7, 3) := by decide +kernel
theorem dX10_isDay_11 : decode cX10_isDay 11 = .ok (.iconst 1, 1) := by decide +kernel
theorem dX10_isDay_12 : decode cX10_isDay 12 = .ok (.goto 4, 3) := by decide +kernel
theorem dX10_isDay_15 : decode cX10_isDay 15 = .ok (.iconst 0, 1) := by decide +kernel
theorem dX10_isDay_16 : decode cX10_isDay 16 = .ok (.ireturn, 1) := by decide +kernel
theorem dX10_isSpan_0 : decode cX10_isSpan 0 = .ok (.iload_n 0, 1) := by decide +kernel
theorem dX10_isSpan_1 : decode cX10_isSpan 1 = .ok (.invokestatic 119, 3) := by decide +kernel
theorem dX10_isSpan_4 : decode cX10_isSpan 4 = .ok (.ifCond .eq 19, 3) := by decide +kernel
theorem dX10_isSpan_7 : decode cX10_isSpan 7 = .ok (.iload_n 1, 1) := by decide +kernel
theorem dX10_isSpan_8 : decode cX10_isSpan 8 = .ok (.invokestatic 119, 3) := by decide +kernel
theorem dX10_isSpan_11 : decode cX10_isSpan 11 = .ok (.ifCond .eq 12, 3) := by decide +kernel
theorem dX10_isSpan_14 : decode cX10_isSpan 14 = .ok (.iload_n 0, 1) := by decide +kernel
theorem dX10_isSpan_15 : decode cX10_isSpan 15 = .ok (.iload_n 1, 1) := by decide +kernel
theorem dX10_isSpan_16 : decode cX10_isSpan 16 = .ok (.if_icmp .gt 7, 3) := by decide +kernel
theorem dX10_isSpan_19 : decode cX10_isSpan 19 = .ok (.iconst 1, 1) := by decide +kernel
theorem dX10_isSpan_20 : decode cX10_isSpan 20 = .ok (.goto 4, 3) := by decide +kernel
theorem dX10_isSpan_23 : decode cX10_isSpan 23 = .ok (.iconst 0, 1) := by decide +kernel
theorem dX10_isSpan_24 : decode cX10_isSpan 24 = .ok (.ireturn, 1) := by decide +kernel
theorem dX10_isRank_0 : decode cX10_isRank 0 = .ok (.iload_n 0, 1) := by decide +kernel
theorem dX10_isRank_1 : decode cX10_isRank 1 = .ok (.ifCond .lt 13, 3) := by decide +kernel
theorem dX10_isRank_4 : decode cX10_isRank 4 = .ok (.iload_n 0, 1) := by decide +kernel
theorem dX10_isRank_5 : decode cX10_isRank 5 = .ok (.bipush 9, 2) := by decide +kernel
theorem dX10_isRank_7 : decode cX10_isRank 7 = .ok (.if_icmp .gt 7, 3) := by decide +kernel
theorem dX10_isRank_10 : decode cX10_isRank 10 = .ok (.iconst 1, 1) := by decide +kernel
theorem dX10_isRank_11 : decode cX10_isRank 11 = .ok (.goto 4, 3) := by decide +kernel
theorem dX10_isRank_14 : decode cX10_isRank 14 = .ok (.iconst 0, 1) := by decide +kernel
theorem dX10_isRank_15 : decode cX10_isRank 15 = .ok (.ireturn, 1) := by decide +kernel
theorem dX10_isMeasure_0 : decode cX10_isMeasure 0 = .ok (.iload_n 0, 1) := by decide +kernel
theorem dX10_isMeasure_1 : decode cX10_isMeasure 1 = .ok (.ifCond .lt 14, 3) := by decide +kernel
theorem dX10_isMeasure_4 : decode cX10_isMeasure 4 = .ok (.iload_n 0, 1) := by decide +kernel
theorem dX10_isMeasure_5 : decode cX10_isMeasure 5 = .ok (.sipush 9999, 3) := by decide +kernel
theorem dX10_isMeasure_8 : decode cX10_isMeasure 8 = .ok (.if_icmp .gt 7, 3) := by decide +kernel
theorem dX10_isMeasure_11 : decode cX10_isMeasure 11 = .ok (.iconst 1, 1) := by decide +kernel
theorem dX10_isMeasure_12 : decode cX10_isMeasure 12 = .ok (.goto 4, 3) := by decide +kernel
theorem dX10_isMeasure_15 : decode cX10_isMeasure 15 = .ok (.iconst 0, 1) := by decide +kernel
theorem dX10_isMeasure_16 : decode cX10_isMeasure 16 = .ok (.ireturn, 1) := by decide +kernel
theorem dX10_isStuff_0 : decode cX10_isStuff 0 = .ok (.iload_n 0, 1) := by decide +kernel
theorem dX10_isStuff_1 : decode cX10_isStuff 1 = .ok (.ifCond .lt 13, 3) := by decide +kernel
theorem dX10_isStuff_4 : decode cX10_isStuff 4 = .ok (.iload_n 0, 1) := by decide +kernel
theorem dX10_isStuff_5 : decode cX10_isStuff 5 = .ok (.bipush 16, 2) := by decide +kernel
theorem dX10_isStuff_7 : decode cX10_isStuff 7 = .ok (.if_icmp .ge 7, 3) := by decide +kernel
theorem dX10_isStuff_10 : decode cX10_isStuff 10 = .ok (.iconst 1, 1) := by decide +kernel
theorem dX10_isStuff_11 : decode cX10_isStuff 11 = .ok (.goto 4, 3) := by decide +kernel
theorem dX10_isStuff_14 : decode cX10_isStuff 14 = .ok (.iconst 0, 1) := by decide +kernel
theorem dX10_isStuff_15 : decode cX10_isStuff 15 = .ok (.ireturn, 1) := by decide +kernel
theorem dX10_isColour_0 : decode cX10_isColour 0 = .ok (.iload_n 0, 1) := by decide +kernel
theorem dX10_isColour_1 : decode cX10_isColour 1 = .ok (.ifCond .lt 13, 3) := by decide +kernel
theorem dX10_isColour_4 : decode cX10_isColour 4 = .ok (.iload_n 0, 1) := by decide +kernel
theorem dX10_isColour_5 : decode cX10_isColour 5 = .ok (.bipush 8, 2) := by decide +kernel
theorem dX10_isColour_7 : decode cX10_isColour 7 = .ok (.if_icmp .ge 7, 3) := by decide +kernel
theorem dX10_isColour_10 : decode cX10_isColour 10 = .ok (.iconst 1, 1) := by decide +kernel
theorem dX10_isColour_11 : decode cX10_isColour 11 = .ok (.goto 4, 3) := by decide +kernel
theorem dX10_isColour_14 : decode cX10_isColour 14 = .ok (.iconst 0, 1) := by decide +kernel
theorem dX10_isColour_15 : decode cX10_isColour 15 = .ok (.ireturn, 1) := by decide +kernel
theorem dX10_findGown_0 : decode cX10_findGown 0 = .ok (.iload_n 1, 1) := by decide +kernel
theorem dX10_findGown_1 : decode cX10_findGown 1 = .ok (.ifCond .lt 29, 3) := by decide +kernel
theorem dX10_findGown_4 : decode cX10_findGown 4 = .ok (.iload_n 1, 1) := by decide +kernel
theorem dX10_findGown_5 : decode cX10_findGown 5 = .ok (.aload_n 0, 1) := by decide +kernel
theorem dX10_findGown_6 : decode cX10_findGown 6 = .ok (.getfield 56, 3) := by decide +kernel
theorem dX10_findGown_9 : decode cX10_findGown 9 = .ok (.if_icmp .ge 21, 3) := by decide +kernel
theorem dX10_findGown_12 : decode cX10_findGown 12 = .ok (.iload_n 1, 1) := by decide +kernel
theorem dX10_findGown_13 : decode cX10_findGown 13 = .ok (.aload_n 0, 1) := by decide +kernel
theorem dX10_findGown_14 : decode cX10_findGown 14 = .ok (.getfield 52, 3) := by decide +kernel
theorem dX10_findGown_17 : decode cX10_findGown 17 = .ok (.arraylength, 1) := by decide +kernel
theorem dX10_findGown_18 : decode cX10_findGown 18 = .ok (.if_icmp .ge 12, 3) := by decide +kernel
theorem dX10_findGown_21 : decode cX10_findGown 21 = .ok (.aload_n 0, 1) := by decide +kernel
theorem dX10_findGown_22 : decode cX10_findGown 22 = .ok (.getfield 52, 3) := by decide +kernel
theorem dX10_findGown_25 : decode cX10_findGown 25 = .ok (.iload_n 1, 1) := by decide +kernel
theorem dX10_findGown_26 : decode cX10_findGown 26 = .ok (.aaload, 1) := by decide +kernel
theorem dX10_findGown_27 : decode cX10_findGown 27 = .ok (.goto 4, 3) := by decide +kernel
theorem dX10_findGown_30 : decode cX10_findGown 30 = .ok (.aconst_null, 1) := by decide +kernel
theorem dX10_findGown_31 : decode cX10_findGown 31 = .ok (.areturn, 1) := by decide +kernel
theorem dX10_findLetter_0 : decode cX10_findLetter 0 = .ok (.iload_n 1, 1) := by decide +kernel
theorem dX10_findLetter_1 : decode cX10_findLetter 1 = .ok (.ifCond .lt 29, 3) := by decide +kernel
theorem dX10_findLetter_4 : decode cX10_findLetter 4 = .ok (.iload_n 1, 1) := by decide +kernel
theorem dX10_findLetter_5 : decode cX10_findLetter 5 = .ok (.aload_n 0, 1) := by decide +kernel
theorem dX10_findLetter_6 : decode cX10_findLetter 6 = .ok (.getfield 66, 3) := by decide +kernel
theorem dX10_findLetter_9 : decode cX10_findLetter 9 = .ok (.if_icmp .ge 21, 3) := by decide +kernel
theorem dX10_findLetter_12 : decode cX10_findLetter 12 = .ok (.iload_n 1, 1) := by decide +kernel
theorem dX10_findLetter_13 : decode cX10_findLetter 13 = .ok (.aload_n 0, 1) := by decide +kernel
theorem dX10_findLetter_14 : decode cX10_findLetter 14 = .ok (.getfield 62, 3) := by decide +kernel
theorem dX10_findLetter_17 : decode cX10_findLetter 17 = .ok (.arraylength, 1) := by decide +kernel
theorem dX10_findLetter_18 : decode cX10_findLetter 18 = .ok (.if_icmp .ge 12, 3) := by decide +kernel
theorem dX10_findLetter_21 : decode cX10_findLetter 21 = .ok (.aload_n 0, 1) := by decide +kernel
theorem dX10_findLetter_22 : decode cX10_findLetter 22 = .ok (.getfield 62, 3) := by decide +kernel
theorem dX10_findLetter_25 : decode cX10_findLetter 25 = .ok (.iload_n 1, 1) := by decide +kernel
theorem dX10_findLetter_26 : decode cX10_findLetter 26 = .ok (.aaload, 1) := by decide +kernel
theorem dX10_findLetter_27 : decode cX10_findLetter 27 = .ok (.goto 4, 3) := by decide +kernel
theorem dX10_findLetter_30 : decode cX10_findLetter 30 = .ok (.aconst_null, 1) := by decide +kernel
theorem dX10_findLetter_31 : decode cX10_findLetter 31 = .ok (.areturn, 1) := by decide +kernel
theorem dX10_rankOn_0 : decode cX10_rankOn 0 = .ok (.aload_n 0, 1) := by decide +kernel
theorem dX10_rankOn_1 : decode cX10_rankOn 1 = .ok (.getfield 37, 3) := by decide +kernel
theorem dX10_rankOn_4 : decode cX10_rankOn 4 = .ok (.iload_n 1, 1) := by decide +kernel
theorem dX10_rankOn_5 : decode cX10_rankOn 5 = .ok (.iload_n 2, 1) := by decide +kernel
theorem dX10_rankOn_6 : decode cX10_rankOn 6 = .ok (.iconst 5, 1) := by decide +kernel
theorem dX10_rankOn_7 : decode cX10_rankOn 7 = .ok (.invokevirtual 304, 3) := by decide +kernel
theorem dX10_rankOn_10 : decode cX10_rankOn 10 = .ok (.ireturn, 1) := by decide +kernel
theorem dX10_occasionOn_0 : decode cX10_occasionOn 0 = .ok (.aload_n 0, 1) := by decide +kernel
theorem dX10_occasionOn_1 : decode cX10_occasionOn 1 = .ok (.getfield 41, 3) := by decide +kernel
theorem dX10_occasionOn_4 : decode cX10_occasionOn 4 = .ok (.iload_n 1, 1) := by decide +kernel
theorem dX10_occasionOn_5 : decode cX10_occasionOn 5 = .ok (.iload_n 2, 1) := by decide +kernel
theorem dX10_occasionOn_6 : decode cX10_occasionOn 6 = .ok (.invokevirtual 308, 3) := by decide +kernel
theorem dX10_occasionOn_9 : decode cX10_occasionOn 9 = .ok (.ifCond .eq 5, 3) := by decide +kernel
theorem dX10_occasionOn_12 : decode cX10_occasionOn 12 = .ok (.iconst 2, 1) := by decide +kernel
theorem dX10_occasionOn_13 : decode cX10_occasionOn 13 = .ok (.ireturn, 1) := by decide +kernel
theorem dX10_occasionOn_14 : decode cX10_occasionOn 14 = .ok (.aload_n 0, 1) := by decide +kernel
theorem dX10_occasionOn_15 : decode cX10_occasionOn 15 = .ok (.getfield 44, 3) := by decide +kernel
theorem dX10_occasionOn_18 : decode cX10_occasionOn 18 = .ok (.iconst 0, 1) := by decide +kernel
theorem dX10_occasionOn_19 : decode cX10_occasionOn 19 = .ok (.iload_n 2, 1) := by decide +kernel
theorem dX10_occasionOn_20 : decode cX10_occasionOn 20 = .ok (.invokevirtual 308, 3) := by decide +kernel
theorem dX10_occasionOn_23 : decode cX10_occasionOn 23 = .ok (.ifCond .eq 7, 3) := by decide +kernel
theorem dX10_occasionOn_26 : decode cX10_occasionOn 26 = .ok (.iconst 1, 1) := by decide +kernel
theorem dX10_occasionOn_27 : decode cX10_occasionOn 27 = .ok (.goto 4, 3) := by decide +kernel
theorem dX10_occasionOn_30 : decode cX10_occasionOn 30 = .ok (.iconst 0, 1) := by decide +kernel
theorem dX10_occasionOn_31 : decode cX10_occasionOn 31 = .ok (.ireturn, 1) := by decide +kernel
theorem dX10_countsAs_0 : decode cX10_countsAs 0 = .ok (.iload_n 1, 1) := by decide +kernel
theorem dX10_countsAs_1 : decode cX10_countsAs 1 = .ok (.istore_n 3, 1) := by decide +kernel
theorem dX10_countsAs_2 : decode cX10_countsAs 2 = .ok (.iconst 0, 1) := by decide +kernel
theorem dX10_countsAs_3 : decode cX10_countsAs 3 = .ok (.istore 4, 2) := by decide +kernel
theorem dX10_countsAs_5 : decode cX10_countsAs 5 = .ok (.iload 4, 2) := by decide +kernel
theorem dX10_countsAs_7 : decode cX10_countsAs 7 = .ok (.bipush 16, 2) := by decide +kernel
theorem dX10_countsAs_9 : decode cX10_countsAs 9 = .ok (.if_icmp .ge 32, 3) := by decide +kernel
theorem dX10_countsAs_12 : decode cX10_countsAs 12 = .ok (.aload_n 0, 1) := by decide +kernel
theorem dX10_countsAs_13 : decode cX10_countsAs 13 = .ok (.getfield 47, 3) := by decide +kernel
theorem dX10_countsAs_16 : decode cX10_countsAs 16 = .ok (.iload_n 3, 1) := by decide +kernel
theorem dX10_countsAs_17 : decode cX10_countsAs 17 = .ok (.iload_n 2, 1) := by decide +kernel
theorem dX10_countsAs_18 : decode cX10_countsAs 18 = .ok (.iload_n 3, 1) := by decide +kernel
theorem dX10_countsAs_19 : decode cX10_countsAs 19 = .ok (.invokevirtual 304, 3) := by decide +kernel
theorem dX10_countsAs_22 : decode cX10_countsAs 22 = .ok (.istore 5, 2) := by decide +kernel
theorem dX10_countsAs_24 : decode cX10_countsAs 24 = .ok (.iload 5, 2) := by decide +kernel
theorem dX10_countsAs_26 : decode cX10_countsAs 26 = .ok (.iload_n 3, 1) := by decide +kernel
theorem dX10_countsAs_27 : decode cX10_countsAs 27 = .ok (.if_icmp .ne 5, 3) := by decide +kernel
theorem dX10_countsAs_30 : decode cX10_countsAs 30 = .ok (.iload_n 3, 1) := by decide +kernel
theorem dX10_countsAs_31 : decode cX10_countsAs 31 = .ok (.ireturn, 1) := by decide +kernel
theorem dX10_countsAs_32 : decode cX10_countsAs 32 = .ok (.iload 5, 2) := by decide +kernel
theorem dX10_countsAs_34 : decode cX10_countsAs 34 = .ok (.istore_n 3, 1) := by decide +kernel
theorem dX10_countsAs_35 : decode cX10_countsAs 35 = .ok (.iinc 4 1, 3) := by decide +kernel
theorem dX10_countsAs_38 : decode cX10_countsAs 38 = .ok (.goto (-33), 3) := by decide +kernel
theorem dX10_countsAs_41 : decode cX10_countsAs 41 = .ok (.iload_n 3, 1) := by decide +kernel
theorem dX10_countsAs_42 : decode cX10_countsAs 42 = .ok (.ireturn, 1) := by decide +kernel
theorem dX10_putOn_0 : decode cX10_putOn 0 = .ok (.aload_n 0, 1) := by decide +kernel
theorem dX10_putOn_1 : decode cX10_putOn 1 = .ok (.iload_n 2, 1) := by decide +kernel
theorem dX10_putOn_2 : decode cX10_putOn 2 = .ok (.invokevirtual 157, 3) := by decide +kernel
theorem dX10_putOn_5 : decode cX10_putOn 5 = .ok (.astore 4, 2) := by decide +kernel
end
section
theorem dX10_putOn_7 : decode cX10_putOn 7 = .ok (.iload_n 1, 1) := by decide +kernel
theorem dX10_putOn_8 : decode cX10_putOn 8 = .ok (.invokestatic 115, 3) := by decide +kernel
theorem dX10_putOn_11 : decode cX10_putOn 11 = .ok (.ifCond .eq 15, 3) := by decide +kernel
theorem dX10_putOn_14 : decode cX10_putOn 14 = .ok (.aload 4, 2) := by decide +kernel
theorem dX10_putOn_16 : decode cX10_putOn 16 = .ok (.ifnull 10, 3) := by decide +kernel
theorem dX10_putOn_19 : decode cX10_putOn 19 = .ok (.iload_n 3, 1) := by decide +kernel
theorem dX10_putOn_20 : decode cX10_putOn 20 = .ok (.invokestatic 119, 3) := by decide +kernel
theorem dX10_putOn_23 : decode cX10_putOn 23 = .ok (.ifCond .ne 5, 3) := by decide +kernel
theorem dX10_putOn_26 : decode cX10_putOn 26 = .ok (.iconst 0, 1) := by decide +kernel
theorem dX10_putOn_27 : decode cX10_putOn 27 = .ok (.ireturn, 1) := by decide +kernel
theorem dX10_putOn_28 : decode cX10_putOn 28 = .ok (.aload_n 0, 1) := by decide +kernel
theorem dX10_putOn_29 : decode cX10_putOn 29 = .ok (.getfield 88, 3) := by decide +kernel
theorem dX10_putOn_32 : decode cX10_putOn 32 = .ok (.aload_n 0, 1) := by decide +kernel
theorem dX10_putOn_33 : decode cX10_putOn 33 = .ok (.iload_n 1, 1) := by decide +kernel
theorem dX10_putOn_34 : decode cX10_putOn 34 = .ok (.iload_n 3, 1) := by decide +kernel
theorem dX10_putOn_35 : decode cX10_putOn 35 = .ok (.invokevirtual 138, 3) := by decide +kernel
theorem dX10_putOn_38 : decode cX10_putOn 38 = .ok (.aload_n 0, 1) := by decide +kernel
theorem dX10_putOn_39 : decode cX10_putOn 39 = .ok (.iload_n 1, 1) := by decide +kernel
theorem dX10_putOn_40 : decode cX10_putOn 40 = .ok (.iload_n 3, 1) := by decide +kernel
theorem dX10_putOn_41 : decode cX10_putOn 41 = .ok (.invokevirtual 142, 3) := by decide +kernel
theorem dX10_putOn_44 : decode cX10_putOn 44 = .ok (.aload 4, 2) := by decide +kernel
theorem dX10_putOn_46 : decode cX10_putOn 46 = .ok (.iload_n 3, 1) := by decide +kernel
theorem dX10_putOn_47 : decode cX10_putOn 47 = .ok (.aload_n 0, 1) := by decide +kernel
theorem dX10_putOn_48 : decode cX10_putOn 48 = .ok (.aload 4, 2) := by decide +kernel
theorem dX10_putOn_50 : decode cX10_putOn 50 = .ok (.getfield 164, 3) := by decide +kernel
theorem dX10_putOn_53 : decode cX10_putOn 53 = .ok (.iload_n 3, 1) := by decide +kernel
theorem dX10_putOn_54 : decode cX10_putOn 54 = .ok (.invokevirtual 173, 3) := by decide +kernel
theorem dX10_putOn_57 : decode cX10_putOn 57 = .ok (.invokevirtual 296, 3) := by decide +kernel
theorem dX10_putOn_60 : decode cX10_putOn 60 = .ok (.iconst 1, 1) := by decide +kernel
theorem dX10_putOn_61 : decode cX10_putOn 61 = .ok (.ireturn, 1) := by decide +kernel
theorem dX10_fineOfWearing_0 : decode cX10_fineOfWearing 0 = .ok (.iload_n 1, 1) := by decide +kernel
theorem dX10_fineOfWearing_1 : decode cX10_fineOfWearing 1 = .ok (.invokestatic 115, 3) := by decide +kernel
theorem dX10_fineOfWearing_4 : decode cX10_fineOfWearing 4 = .ok (.ifCond .ne 5, 3) := by decide +kernel
theorem dX10_fineOfWearing_7 : decode cX10_fineOfWearing 7 = .ok (.iconst 0, 1) := by decide +kernel
theorem dX10_fineOfWearing_8 : decode cX10_fineOfWearing 8 = .ok (.ireturn, 1) := by decide +kernel
theorem dX10_fineOfWearing_9 : decode cX10_fineOfWearing 9 = .ok (.iconst 1, 1) := by decide +kernel
theorem dX10_fineOfWearing_10 : decode cX10_fineOfWearing 10 = .ok (.aload_n 0, 1) := by decide +kernel
theorem dX10_fineOfWearing_11 : decode cX10_fineOfWearing 11 = .ok (.getfield 69, 3) := by decide +kernel
theorem dX10_fineOfWearing_14 : decode cX10_fineOfWearing 14 = .ok (.iload_n 1, 1) := by decide +kernel
theorem dX10_fineOfWearing_15 : decode cX10_fineOfWearing 15 = .ok (.iaload, 1) := by decide +kernel
theorem dX10_fineOfWearing_16 : decode cX10_fineOfWearing 16 = .ok (.iadd, 1) := by decide +kernel
theorem dX10_fineOfWearing_17 : decode cX10_fineOfWearing 17 = .ok (.iconst 5, 1) := by decide +kernel
theorem dX10_fineOfWearing_18 : decode cX10_fineOfWearing 18 = .ok (.invokestatic 311, 3) := by decide +kernel
theorem dX10_fineOfWearing_21 : decode cX10_fineOfWearing 21 = .ok (.istore_n 2, 1) := by decide +kernel
theorem dX10_fineOfWearing_22 : decode cX10_fineOfWearing 22 = .ok (.aload_n 0, 1) := by decide +kernel
theorem dX10_fineOfWearing_23 : decode cX10_fineOfWearing 23 = .ok (.getfield 28, 3) := by decide +kernel
theorem dX10_fineOfWearing_26 : decode cX10_fineOfWearing 26 = .ok (.aload_n 0, 1) := by decide +kernel
theorem dX10_fineOfWearing_27 : decode cX10_fineOfWearing 27 = .ok (.getfield 88, 3) := by decide +kernel
theorem dX10_fineOfWearing_30 : decode cX10_fineOfWearing 30 = .ok (.invokevirtual 316, 3) := by decide +kernel
theorem dX10_fineOfWearing_33 : decode cX10_fineOfWearing 33 = .ok (.iload_n 2, 1) := by decide +kernel
theorem dX10_fineOfWearing_34 : decode cX10_fineOfWearing 34 = .ok (.imul, 1) := by decide +kernel
theorem dX10_fineOfWearing_35 : decode cX10_fineOfWearing 35 = .ok (.ireturn, 1) := by decide +kernel
theorem dX10_wasConvicted_0 : decode cX10_wasConvicted 0 = .ok (.iconst 0, 1) := by decide +kernel
theorem dX10_wasConvicted_1 : decode cX10_wasConvicted 1 = .ok (.istore_n 2, 1) := by decide +kernel
theorem dX10_wasConvicted_2 : decode cX10_wasConvicted 2 = .ok (.iload_n 2, 1) := by decide +kernel
theorem dX10_wasConvicted_3 : decode cX10_wasConvicted 3 = .ok (.aload_n 0, 1) := by decide +kernel
theorem dX10_wasConvicted_4 : decode cX10_wasConvicted 4 = .ok (.getfield 66, 3) := by decide +kernel
theorem dX10_wasConvicted_7 : decode cX10_wasConvicted 7 = .ok (.if_icmp .ge 37, 3) := by decide +kernel
theorem dX10_wasConvicted_10 : decode cX10_wasConvicted 10 = .ok (.aload_n 0, 1) := by decide +kernel
theorem dX10_wasConvicted_11 : decode cX10_wasConvicted 11 = .ok (.iload_n 2, 1) := by decide +kernel
theorem dX10_wasConvicted_12 : decode cX10_wasConvicted 12 = .ok (.invokevirtual 258, 3) := by decide +kernel
theorem dX10_wasConvicted_15 : decode cX10_wasConvicted 15 = .ok (.astore_n 3, 1) := by decide +kernel
theorem dX10_wasConvicted_16 : decode cX10_wasConvicted 16 = .ok (.aload_n 3, 1) := by decide +kernel
theorem dX10_wasConvicted_17 : decode cX10_wasConvicted 17 = .ok (.ifnull 21, 3) := by decide +kernel
theorem dX10_wasConvicted_20 : decode cX10_wasConvicted 20 = .ok (.aload_n 3, 1) := by decide +kernel
theorem dX10_wasConvicted_21 : decode cX10_wasConvicted 21 = .ok (.getfield 262, 3) := by decide +kernel
theorem dX10_wasConvicted_24 : decode cX10_wasConvicted 24 = .ok (.iconst 1, 1) := by decide +kernel
theorem dX10_wasConvicted_25 : decode cX10_wasConvicted 25 = .ok (.if_icmp .ne 13, 3) := by decide +kernel
theorem dX10_wasConvicted_28 : decode cX10_wasConvicted 28 = .ok (.aload_n 3, 1) := by decide +kernel
theorem dX10_wasConvicted_29 : decode cX10_wasConvicted 29 = .ok (.aload_n 1, 1) := by decide +kernel
theorem dX10_wasConvicted_30 : decode cX10_wasConvicted 30 = .ok (.invokevirtual 320, 3) := by decide +kernel
theorem dX10_wasConvicted_33 : decode cX10_wasConvicted 33 = .ok (.ifCond .eq 5, 3) := by decide +kernel
theorem dX10_wasConvicted_36 : decode cX10_wasConvicted 36 = .ok (.iconst 1, 1) := by decide +kernel
theorem dX10_wasConvicted_37 : decode cX10_wasConvicted 37 = .ok (.ireturn, 1) := by decide +kernel
theorem dX10_wasConvicted_38 : decode cX10_wasConvicted 38 = .ok (.iinc 2 1, 3) := by decide +kernel
theorem dX10_wasConvicted_41 : decode cX10_wasConvicted 41 = .ok (.goto (-39), 3) := by decide +kernel
theorem dX10_wasConvicted_44 : decode cX10_wasConvicted 44 = .ok (.iconst 0, 1) := by decide +kernel
theorem dX10_wasConvicted_45 : decode cX10_wasConvicted 45 = .ok (.ireturn, 1) := by decide +kernel
theorem dX10_convict_0 : decode cX10_convict 0 = .ok (.aload_n 1, 1) := by decide +kernel
theorem dX10_convict_1 : decode cX10_convict 1 = .ok (.getfield 269, 3) := by decide +kernel
theorem dX10_convict_4 : decode cX10_convict 4 = .ok (.invokestatic 115, 3) := by decide +kernel
theorem dX10_convict_7 : decode cX10_convict 7 = .ok (.ifCond .eq 13, 3) := by decide +kernel
theorem dX10_convict_10 : decode cX10_convict 10 = .ok (.aload_n 1, 1) := by decide +kernel
theorem dX10_convict_11 : decode cX10_convict 11 = .ok (.getfield 286, 3) := by decide +kernel
theorem dX10_convict_14 : decode cX10_convict 14 = .ok (.invokestatic 115, 3) := by decide +kernel
theorem dX10_convict_17 : decode cX10_convict 17 = .ok (.ifCond .ne 4, 3) := by decide +kernel
theorem dX10_convict_20 : decode cX10_convict 20 = .ok (.return_, 1) := by decide +kernel
theorem dX10_convict_21 : decode cX10_convict 21 = .ok (.iload_n 2, 1) := by decide +kernel
theorem dX10_convict_22 : decode cX10_convict 22 = .ok (.i2l, 1) := by decide +kernel
theorem dX10_convict_23 : decode cX10_convict 23 = .ok (.aload_n 0, 1) := by decide +kernel
theorem dX10_convict_24 : decode cX10_convict 24 = .ok (.getfield 28, 3) := by decide +kernel
theorem dX10_convict_27 : decode cX10_convict 27 = .ok (.aload_n 1, 1) := by decide +kernel
theorem dX10_convict_28 : decode cX10_convict 28 = .ok (.getfield 275, 3) := by decide +kernel
theorem dX10_convict_31 : decode cX10_convict 31 = .ok (.invokevirtual 323, 3) := by decide +kernel
theorem dX10_convict_34 : decode cX10_convict 34 = .ok (.i2l, 1) := by decide +kernel
theorem dX10_convict_35 : decode cX10_convict 35 = .ok (.lmul, 1) := by decide +kernel
theorem dX10_convict_36 : decode cX10_convict 36 = .ok (.ldc2_w 326, 3) := by decide +kernel
theorem dX10_convict_39 : decode cX10_convict 39 = .ok (.ldiv, 1) := by decide +kernel
theorem dX10_convict_40 : decode cX10_convict 40 = .ok (.l2i, 1) := by decide +kernel
theorem dX10_convict_41 : decode cX10_convict 41 = .ok (.istore_n 3, 1) := by decide +kernel
theorem dX10_convict_42 : decode cX10_convict 42 = .ok (.aload_n 1, 1) := by decide +kernel
theorem dX10_convict_43 : decode cX10_convict 43 = .ok (.iconst 1, 1) := by decide +kernel
theorem dX10_convict_44 : decode cX10_convict 44 = .ok (.putfield 262, 3) := by decide +kernel
theorem dX10_convict_47 : decode cX10_convict 47 = .ok (.aload_n 1, 1) := by decide +kernel
theorem dX10_convict_48 : decode cX10_convict 48 = .ok (.iload_n 2, 1) := by decide +kernel
theorem dX10_convict_49 : decode cX10_convict 49 = .ok (.putfield 289, 3) := by decide +kernel
theorem dX10_convict_52 : decode cX10_convict 52 = .ok (.aload_n 1, 1) := by decide +kernel
theorem dX10_convict_53 : decode cX10_convict 53 = .ok (.iload_n 3, 1) := by decide +kernel
theorem dX10_convict_54 : decode cX10_convict 54 = .ok (.putfield 290, 3) := by decide +kernel
theorem dX10_convict_57 : decode cX10_convict 57 = .ok (.aload_n 0, 1) := by decide +kernel
theorem dX10_convict_58 : decode cX10_convict 58 = .ok (.getfield 69, 3) := by decide +kernel
theorem dX10_convict_61 : decode cX10_convict 61 = .ok (.aload_n 1, 1) := by decide +kernel
theorem dX10_convict_62 : decode cX10_convict 62 = .ok (.getfield 269, 3) := by decide +kernel
theorem dX10_convict_65 : decode cX10_convict 65 = .ok (.dup2, 1) := by decide +kernel
theorem dX10_convict_66 : decode cX10_convict 66 = .ok (.iaload, 1) := by decide +kernel
theorem dX10_convict_67 : decode cX10_convict 67 = .ok (.iconst 1, 1) := by decide +kernel
theorem dX10_convict_68 : decode cX10_convict 68 = .ok (.iadd, 1) := by decide +kernel
theorem dX10_convict_69 : decode cX10_convict 69 = .ok (.iastore, 1) := by decide +kernel
theorem dX10_convict_70 : decode cX10_convict 70 = .ok (.aload_n 0, 1) := by decide +kernel
theorem dX10_convict_71 : decode cX10_convict 71 = .ok (.getfield 73, 3) := by decide +kernel
theorem dX10_convict_74 : decode cX10_convict 74 = .ok (.aload_n 1, 1) := by decide +kernel
theorem dX10_convict_75 : decode cX10_convict 75 = .ok (.getfield 269, 3) := by decide +kernel
theorem dX10_convict_78 : decode cX10_convict 78 = .ok (.dup2, 1) := by decide +kernel
theorem dX10_convict_79 : decode cX10_convict 79 = .ok (.iaload, 1) := by decide +kernel
theorem dX10_convict_80 : decode cX10_convict 80 = .ok (.iload_n 2, 1) := by decide +kernel
theorem dX10_convict_81 : decode cX10_convict 81 = .ok (.iadd, 1) := by decide +kernel
theorem dX10_convict_82 : decode cX10_convict 82 = .ok (.iastore, 1) := by decide +kernel
theorem dX10_convict_83 : decode cX10_convict 83 = .ok (.aload_n 0, 1) := by decide +kernel
theorem dX10_convict_84 : decode cX10_convict 84 = .ok (.getfield 76, 3) := by decide +kernel
theorem dX10_convict_87 : decode cX10_convict 87 = .ok (.aload_n 1, 1) := by decide +kernel
theorem dX10_convict_88 : decode cX10_convict 88 = .ok (.getfield 286, 3) := by decide +kernel
theorem dX10_convict_91 : decode cX10_convict 91 = .ok (.dup2, 1) := by decide +kernel
theorem dX10_convict_92 : decode cX10_convict 92 = .ok (.iaload, 1) := by decide +kernel
theorem dX10_convict_93 : decode cX10_convict 93 = .ok (.iload_n 3, 1) := by decide +kernel
theorem dX10_convict_94 : decode cX10_convict 94 = .ok (.iadd, 1) := by decide +kernel
theorem dX10_convict_95 : decode cX10_convict 95 = .ok (.iastore, 1) := by decide +kernel
theorem dX10_convict_96 : decode cX10_convict 96 = .ok (.aload_n 0, 1) := by decide +kernel
theorem dX10_convict_97 : decode cX10_convict 97 = .ok (.dup, 1) := by decide +kernel
theorem dX10_convict_98 : decode cX10_convict 98 = .ok (.getfield 79, 3) := by decide +kernel
theorem dX10_convict_101 : decode cX10_convict 101 = .ok (.iload_n 2, 1) := by decide +kernel
theorem dX10_convict_102 : decode cX10_convict 102 = .ok (.iload_n 3, 1) := by decide +kernel
theorem dX10_convict_103 : decode cX10_convict 103 = .ok (.isub, 1) := by decide +kernel
theorem dX10_convict_104 : decode cX10_convict 104 = .ok (.iadd, 1) := by decide +kernel
theorem dX10_convict_105 : decode cX10_convict 105 = .ok (.putfield 79, 3) := by decide +kernel
theorem dX10_convict_108 : decode cX10_convict 108 = .ok (.return_, 1) := by decide +kernel
theorem dX10_punishFalse_0 : decode cX10_punishFalse 0 = .ok (.aload_n 1, 1) := by decide +kernel
theorem dX10_punishFalse_1 : decode cX10_punishFalse 1 = .ok (.getfield 286, 3) := by decide +kernel
theorem dX10_punishFalse_4 : decode cX10_punishFalse 4 = .ok (.invokestatic 115, 3) := by decide +kernel
theorem dX10_punishFalse_7 : decode cX10_punishFalse 7 = .ok (.ifCond .ne 4, 3) := by decide +kernel
theorem dX10_punishFalse_10 : decode cX10_punishFalse 10 = .ok (.return_, 1) := by decide +kernel
theorem dX10_punishFalse_11 : decode cX10_punishFalse 11 = .ok (.aload_n 1, 1) := by decide +kernel
theorem dX10_punishFalse_12 : decode cX10_punishFalse 12 = .ok (.iconst 2, 1) := by decide +kernel
theorem dX10_punishFalse_13 : decode cX10_punishFalse 13 = .ok (.putfield 262, 3) := by decide +kernel
theorem dX10_punishFalse_16 : decode cX10_punishFalse 16 = .ok (.aload_n 0, 1) := by decide +kernel
theorem dX10_punishFalse_17 : decode cX10_punishFalse 17 = .ok (.getfield 73, 3) := by decide +kernel
theorem dX10_punishFalse_20 : decode cX10_punishFalse 20 = .ok (.aload_n 1, 1) := by decide +kernel
theorem dX10_punishFalse_21 : decode cX10_punishFalse 21 = .ok (.getfield 286, 3) := by decide +kernel
theorem dX10_punishFalse_24 : decode cX10_punishFalse 24 = .ok (.dup2, 1) := by decide +kernel
theorem dX10_punishFalse_25 : decode cX10_punishFalse 25 = .ok (.iaload, 1) := by decide +kernel
theorem dX10_punishFalse_26 : decode cX10_punishFalse 26 = .ok (.bipush 50, 2) := by decide +kernel
theorem dX10_punishFalse_28 : decode cX10_punishFalse 28 = .ok (.iadd, 1) := by decide +kernel
theorem dX10_punishFalse_29 : decode cX10_punishFalse 29 = .ok (.iastore, 1) := by decide +kernel
theorem dX10_punishFalse_30 : decode cX10_punishFalse 30 = .ok (.aload_n 0, 1) := by decide +kernel
theorem dX10_punishFalse_31 : decode cX10_punishFalse 31 = .ok (.dup, 1) := by decide +kernel
theorem dX10_punishFalse_32 : decode cX10_punishFalse 32 = .ok (.getfield 79, 3) := by decide +kernel
theorem dX10_punishFalse_35 : decode cX10_punishFalse 35 = .ok (.bipush 50, 2) := by decide +kernel
theorem dX10_punishFalse_37 : decode cX10_punishFalse 37 = .ok (.iadd, 1) := by decide +kernel
theorem dX10_punishFalse_38 : decode cX10_punishFalse 38 = .ok (.putfield 79, 3) := by decide +kernel
theorem dX10_punishFalse_41 : decode cX10_punishFalse 41 = .ok (.return_, 1) := by decide +kernel
theorem dX10_cheapestChange_0 : decode cX10_cheapestChange 0 = .ok (.aload_n 0, 1) := by decide +kernel
theorem dX10_cheapestChange_1 : decode cX10_cheapestChange 1 = .ok (.getfield 28, 3) := by decide +kernel
theorem dX10_cheapestChange_4 : decode cX10_cheapestChange 4 = .ok (.aload_n 0, 1) := by decide +kernel
theorem dX10_cheapestChange_5 : decode cX10_cheapestChange 5 = .ok (.getfield 95, 3) := by decide +kernel
theorem dX10_cheapestChange_8 : decode cX10_cheapestChange 8 = .ok (.aload_n 0, 1) := by decide +kernel
theorem dX10_cheapestChange_9 : decode cX10_cheapestChange 9 = .ok (.getfield 88, 3) := by decide +kernel
theorem dX10_cheapestChange_12 : decode cX10_cheapestChange 12 = .ok (.invokevirtual 328, 3) := by decide +kernel
theorem dX10_cheapestChange_15 : decode cX10_cheapestChange 15 = .ok (.aload_n 0, 1) := by decide +kernel
theorem dX10_cheapestChange_16 : decode cX10_cheapestChange 16 = .ok (.invokevirtual 332, 3) := by decide +kernel
theorem dX10_cheapestChange_19 : decode cX10_cheapestChange 19 = .ok (.istore_n 1, 1) := by decide +kernel
theorem dX10_cheapestChange_20 : decode cX10_cheapestChange 20 = .ok (.aload_n 0, 1) := by decide +kernel
theorem dX10_cheapestChange_21 : decode cX10_cheapestChange 21 = .ok (.invokevirtual 335, 3) := by decide +kernel
theorem dX10_cheapestChange_24 : decode cX10_cheapestChange 24 = .ok (.istore_n 2, 1) := by decide +kernel
theorem dX10_cheapestChange_25 : decode cX10_cheapestChange 25 = .ok (.iload_n 1, 1) := by decide +kernel
theorem dX10_cheapestChange_26 : decode cX10_cheapestChange 26 = .ok (.iconst (-1), 1) := by decide +kernel
theorem dX10_cheapestChange_27 : decode cX10_cheapestChange 27 = .ok (.if_icmp .eq 8, 3) := by decide +kernel
theorem dX10_cheapestChange_30 : decode cX10_cheapestChange 30 = .ok (.iload_n 2, 1) := by decide +kernel
theorem dX10_cheapestChange_31 : decode cX10_cheapestChange 31 = .ok (.iconst (-1), 1) := by decide +kernel
theorem dX10_cheapestChange_32 : decode cX10_cheapestChange 32 = .ok (.if_icmp .ne 5, 3) := by decide +kernel
theorem dX10_cheapestChange_35 : decode cX10_cheapestChange 35 = .ok (.iconst (-1), 1) := by decide +kernel
theorem dX10_cheapestChange_36 : decode cX10_cheapestChange 36 = .ok (.ireturn, 1) := by decide +kernel
theorem dX10_cheapestChange_37 : decode cX10_cheapestChange 37 = .ok (.iload_n 1, 1) := by decide +kernel
theorem dX10_cheapestChange_38 : decode cX10_cheapestChange 38 = .ok (.iload_n 2, 1) := by decide +kernel
theorem dX10_cheapestChange_39 : decode cX10_cheapestChange 39 = .ok (.iadd, 1) := by decide +kernel
theorem dX10_cheapestChange_40 : decode cX10_cheapestChange 40 = .ok (.istore_n 3, 1) := by decide +kernel
theorem dX10_cheapestChange_41 : decode cX10_cheapestChange 41 = .ok (.iconst 0, 1) := by decide +kernel
theorem dX10_cheapestChange_42 : decode cX10_cheapestChange 42 = .ok (.istore 4, 2) := by decide +kernel
theorem dX10_cheapestChange_44 : decode cX10_cheapestChange 44 = .ok (.iload 4, 2) := by decide +kernel
theorem dX10_cheapestChange_46 : decode cX10_cheapestChange 46 = .ok (.iconst 5, 1) := by decide +kernel
theorem dX10_cheapestChange_47 : decode cX10_cheapestChange 47 = .ok (.if_icmp .ge 46, 3) := by decide +kernel
theorem dX10_cheapestChange_50 : decode cX10_cheapestChange 50 = .ok (.iload_n 3, 1) := by decide +kernel
theorem dX10_cheapestChange_51 : decode cX10_cheapestChange 51 = .ok (.iconst 0, 1) := by decide +kernel
theorem dX10_cheapestChange_52 : decode cX10_cheapestChange 52 = .ok (.aload_n 0, 1) := by decide +kernel
theorem dX10_cheapestChange_53 : decode cX10_cheapestChange 53 = .ok (.getfield 88, 3) := by decide +kernel
theorem dX10_cheapestChange_56 : decode cX10_cheapestChange 56 = .ok (.getfield 338, 3) := by decide +kernel
theorem dX10_cheapestChange_59 : decode cX10_cheapestChange 59 = .ok (.iload 4, 2) := by decide +kernel
theorem dX10_cheapestChange_61 : decode cX10_cheapestChange 61 = .ok (.invokevirtual 170, 3) := by decide +kernel
theorem dX10_cheapestChange_64 : decode cX10_cheapestChange 64 = .ok (.aload_n 0, 1) := by decide +kernel
theorem dX10_cheapestChange_65 : decode cX10_cheapestChange 65 = .ok (.getfield 95, 3) := by decide +kernel
theorem dX10_cheapestChange_68 : decode cX10_cheapestChange 68 = .ok (.iload 4, 2) := by decide +kernel
theorem dX10_cheapestChange_70 : decode cX10_cheapestChange 70 = .ok (.invokevirtual 341, 3) := by decide +kernel
theorem dX10_cheapestChange_73 : decode cX10_cheapestChange 73 = .ok (.isub, 1) := by decide +kernel
theorem dX10_cheapestChange_74 : decode cX10_cheapestChange 74 = .ok (.invokestatic 344, 3) := by decide +kernel
theorem dX10_cheapestChange_77 : decode cX10_cheapestChange 77 = .ok (.aload_n 0, 1) := by decide +kernel
theorem dX10_cheapestChange_78 : decode cX10_cheapestChange 78 = .ok (.getfield 82, 3) := by decide +kernel
theorem dX10_cheapestChange_81 : decode cX10_cheapestChange 81 = .ok (.iload 4, 2) := by decide +kernel
theorem dX10_cheapestChange_83 : decode cX10_cheapestChange 83 = .ok (.iaload, 1) := by decide +kernel
theorem dX10_cheapestChange_84 : decode cX10_cheapestChange 84 = .ok (.imul, 1) := by decide +kernel
theorem dX10_cheapestChange_85 : decode cX10_cheapestChange 85 = .ok (.iadd, 1) := by decide +kernel
theorem dX10_cheapestChange_86 : decode cX10_cheapestChange 86 = .ok (.istore_n 3, 1) := by decide +kernel
theorem dX10_cheapestChange_87 : decode cX10_cheapestChange 87 = .ok (.iinc 4 1, 3) := by decide +kernel
theorem dX10_cheapestChange_90 : decode cX10_cheapestChange 90 = .ok (.goto (-46), 3) := by decide +kernel
theorem dX10_cheapestChange_93 : decode cX10_cheapestChange 93 = .ok (.iload_n 3, 1) := by decide +kernel
theorem dX10_cheapestChange_94 : decode cX10_cheapestChange 94 = .ok (.ireturn, 1) := by decide +kernel
theorem dX10_stuffChange_0 : decode cX10_stuffChange 0 = .ok (.aload_n 0, 1) := by decide +kernel
theorem dX10_stuffChange_1 : decode cX10_stuffChange 1 = .ok (.getfield 95, 3) := by decide +kernel
theorem dX10_stuffChange_4 : decode cX10_stuffChange 4 = .ok (.aload_n 0, 1) := by decide +kernel
theorem dX10_stuffChange_5 : decode cX10_stuffChange 5 = .ok (.getfield 88, 3) := by decide +kernel
theorem dX10_stuffChange_8 : decode cX10_stuffChange 8 = .ok (.getfield 347, 3) := by decide +kernel
theorem dX10_stuffChange_11 : decode cX10_stuffChange 11 = .ok (.invokevirtual 350, 3) := by decide +kernel
theorem dX10_stuffChange_14 : decode cX10_stuffChange 14 = .ok (.ifCond .eq 5, 3) := by decide +kernel
theorem dX10_stuffChange_17 : decode cX10_stuffChange 17 = .ok (.iconst 0, 1) := by decide +kernel
theorem dX10_stuffChange_18 : decode cX10_stuffChange 18 = .ok (.ireturn, 1) := by decide +kernel
theorem dX10_stuffChange_19 : decode cX10_stuffChange 19 = .ok (.iconst 0, 1) := by decide +kernel
theorem dX10_stuffChange_20 : decode cX10_stuffChange 20 = .ok (.istore_n 1, 1) := by decide +kernel
theorem dX10_stuffChange_21 : decode cX10_stuffChange 21 = .ok (.iload_n 1, 1) := by decide +kernel
theorem dX10_stuffChange_22 : decode cX10_stuffChange 22 = .ok (.bipush 16, 2) := by decide +kernel
theorem dX10_stuffChange_24 : decode cX10_stuffChange 24 = .ok (.if_icmp .ge 38, 3) := by decide +kernel
theorem dX10_stuffChange_27 : decode cX10_stuffChange 27 = .ok (.aload_n 0, 1) := by decide +kernel
theorem dX10_stuffChange_28 : decode cX10_stuffChange 28 = .ok (.getfield 95, 3) := by decide +kernel
theorem dX10_stuffChange_31 : decode cX10_stuffChange 31 = .ok (.aload_n 0, 1) := by decide +kernel
theorem dX10_stuffChange_32 : decode cX10_stuffChange 32 = .ok (.iload_n 1, 1) := by decide +kernel
theorem dX10_stuffChange_33 : decode cX10_stuffChange 33 = .ok (.aload_n 0, 1) := by decide +kernel
theorem dX10_stuffChange_34 : decode cX10_stuffChange 34 = .ok (.getfield 88, 3) := by decide +kernel
theorem dX10_stuffChange_37 : decode cX10_stuffChange 37 = .ok (.getfield 353, 3) := by decide +kernel
theorem dX10_stuffChange_40 : decode cX10_stuffChange 40 = .ok (.invokevirtual 173, 3) := by decide +kernel
theorem dX10_stuffChange_43 : decode cX10_stuffChange 43 = .ok (.invokevirtual 350, 3) := by decide +kernel
theorem dX10_stuffChange_46 : decode cX10_stuffChange 46 = .ok (.ifCond .eq 10, 3) := by decide +kernel
theorem dX10_stuffChange_49 : decode cX10_stuffChange 49 = .ok (.aload_n 0, 1) := by decide +kernel
theorem dX10_stuffChange_50 : decode cX10_stuffChange 50 = .ok (.getfield 82, 3) := by decide +kernel
theorem dX10_stuffChange_53 : decode cX10_stuffChange 53 = .ok (.iconst 5, 1) := by decide +kernel
theorem dX10_stuffChange_54 : decode cX10_stuffChange 54 = .ok (.iaload, 1) := by decide +kernel
theorem dX10_stuffChange_55 : decode cX10_stuffChange 55 = .ok (.ireturn, 1) := by decide +kernel
theorem dX10_stuffChange_56 : decode cX10_stuffChange 56 = .ok (.iinc 1 1, 3) := by decide +kernel
theorem dX10_stuffChange_59 : decode cX10_stuffChange 59 = .ok (.goto (-38), 3) := by decide +kernel
theorem dX10_stuffChange_62 : decode cX10_stuffChange 62 = .ok (.iconst (-1), 1) := by decide +kernel
theorem dX10_stuffChange_63 : decode cX10_stuffChange 63 = .ok (.ireturn, 1) := by decide +kernel
theorem dX10_colourChange_0 : decode cX10_colourChange 0 = .ok (.aload_n 0, 1) := by decide +kernel
theorem dX10_colourChange_1 : decode cX10_colourChange 1 = .ok (.getfield 95, 3) := by decide +kernel
theorem dX10_colourChange_4 : decode cX10_colourChange 4 = .ok (.aload_n 0, 1) := by decide +kernel
theorem dX10_colourChange_5 : decode cX10_colourChange 5 = .ok (.getfield 88, 3) := by decide +kernel
theorem dX10_colourChange_8 : decode cX10_colourChange 8 = .ok (.getfield 338, 3) := by decide +kernel
theorem dX10_colourChange_11 : decode cX10_colourChange 11 = .ok (.getfield 167, 3) := by decide +kernel
theorem dX10_colourChange_14 : decode cX10_colourChange 14 = .ok (.invokevirtual 354, 3) := by decide +kernel
theorem dX10_colourChange_17 : decode cX10_colourChange 17 = .ok (.ifCond .eq 5, 3) := by decide +kernel
theorem dX10_colourChange_20 : decode cX10_colourChange 20 = .ok (.iconst 0, 1) := by decide +kernel
theorem dX10_colourChange_21 : decode cX10_colourChange 21 = .ok (.ireturn, 1) := by decide +kernel
theorem dX10_colourChange_22 : decode cX10_colourChange 22 = .ok (.iconst 0, 1) := by decide +kernel
theorem dX10_colourChange_23 : decode cX10_colourChange 23 = .ok (.istore_n 1, 1) := by decide +kernel
theorem dX10_colourChange_24 : decode cX10_colourChange 24 = .ok (.iload_n 1, 1) := by decide +kernel
theorem dX10_colourChange_25 : decode cX10_colourChange 25 = .ok (.bipush 8, 2) := by decide +kernel
theorem dX10_colourChange_27 : decode cX10_colourChange 27 = .ok (.if_icmp .ge 28, 3) := by decide +kernel
theorem dX10_colourChange_30 : decode cX10_colourChange 30 = .ok (.aload_n 0, 1) := by decide +kernel
theorem dX10_colourChange_31 : decode cX10_colourChange 31 = .ok (.getfield 95, 3) := by decide +kernel
theorem dX10_colourChange_34 : decode cX10_colourChange 34 = .ok (.iload_n 1, 1) := by decide +kernel
theorem dX10_colourChange_35 : decode cX10_colourChange 35 = .ok (.invokevirtual 354, 3) := by decide +kernel
theorem dX10_colourChange_38 : decode cX10_colourChange 38 = .ok (.ifCond .eq 11, 3) := by decide +kernel
theorem dX10_colourChange_41 : decode cX10_colourChange 41 = .ok (.aload_n 0, 1) := by decide +kernel
theorem dX10_colourChange_42 : decode cX10_colourChange 42 = .ok (.getfield 82, 3) := by decide +kernel
theorem dX10_colourChange_45 : decode cX10_colourChange 45 = .ok (.bipush 6, 2) := by decide +kernel
theorem dX10_colourChange_47 : decode cX10_colourChange 47 = .ok (.iaload, 1) := by decide +kernel
theorem dX10_colourChange_48 : decode cX10_colourChange 48 = .ok (.ireturn, 1) := by decide +kernel
theorem dX10_colourChange_49 : decode cX10_colourChange 49 = .ok (.iinc 1 1, 3) := by decide +kernel
theorem dX10_colourChange_52 : decode cX10_colourChange 52 = .ok (.goto (-28), 3) := by decide +kernel
theorem dX10_colourChange_55 : decode cX10_colourChange 55 = .ok (.iconst (-1), 1) := by decide +kernel
theorem dX10_colourChange_56 : decode cX10_colourChange 56 = .ok (.ireturn, 1) := by decide +kernel
theorem dX11_init_0 : decode cX11_init 0 = .ok (.aload_n 0, 1) := by decide +kernel
theorem dX11_init_1 : decode cX11_init 1 = .ok (.aconst_null, 1) := by decide +kernel
theorem dX11_init_2 : decode cX11_init 2 = .ok (.aconst_null, 1) := by decide +kernel
theorem dX11_init_3 : decode cX11_init 3 = .ok (.iconst 0, 1) := by decide +kernel
theorem dX11_init_4 : decode cX11_init 4 = .ok (.iconst 0, 1) := by decide +kernel
theorem dX11_init_5 : decode cX11_init 5 = .ok (.invokespecial 1, 3) := by decide +kernel
theorem dX11_init_8 : decode cX11_init 8 = .ok (.return_, 1) := by decide +kernel
theorem dX12_in_0 : decode cX12_in 0 = .ok (.lload_n 0, 1) := by decide +kernel
theorem dX12_in_1 : decode cX12_in 1 = .ok (.lload_n 2, 1) := by decide +kernel
theorem dX12_in_2 : decode cX12_in 2 = .ok (.lcmp, 1) := by decide +kernel
theorem dX12_in_3 : decode cX12_in 3 = .ok (.ifCond .lt 14, 3) := by decide +kernel
theorem dX12_in_6 : decode cX12_in 6 = .ok (.lload_n 0, 1) := by decide +kernel
theorem dX12_in_7 : decode cX12_in 7 = .ok (.lload 4, 2) := by decide +kernel
theorem dX12_in_9 : decode cX12_in 9 = .ok (.lcmp, 1) := by decide +kernel
theorem dX12_in_10 : decode cX12_in 10 = .ok (.ifCond .gt 7, 3) := by decide +kernel
theorem dX12_in_13 : decode cX12_in 13 = .ok (.iconst 1, 1) := by decide +kernel
theorem dX12_in_14 : decode cX12_in 14 = .ok (.goto 4, 3) := by decide +kernel
theorem dX12_in_17 : decode cX12_in 17 = .ok (.iconst 0, 1) := by decide +kernel
theorem dX12_in_18 : decode cX12_in 18 = .ok (.ireturn, 1) := by decide +kernel
theorem dX12_isDay_0 : decode cX12_isDay 0 = .ok (.iload_n 0, 1) := by decide +kernel
theorem dX12_isDay_1 : decode cX12_isDay 1 = .ok (.i2l, 1) := by decide +kernel
theorem dX12_isDay_2 : decode cX12_isDay 2 = .ok (.lconst 0, 1) := by decide +kernel
theorem dX12_isDay_3 : decode cX12_isDay 3 = .ok (.ldc2_w 3, 3) := by decide +kernel
theorem dX12_isDay_6 : decode cX12_isDay 6 = .ok (.invokestatic 5, 3) := by decide +kernel
theorem dX12_isDay_9 : decode cX12_isDay 9 = .ok (.ireturn, 1) := by decide +kernel
theorem dX12_wrong_0 : decode cX12_wrong 0 = .ok (.aload_n 0, 1) := by decide +kernel
theorem dX12_wrong_1 : decode cX12_wrong 1 = .ok (.iload_n 1, 1) := by decide +kernel
theorem dX12_wrong_2 : decode cX12_wrong 2 = .ok (.putfield 9, 3) := by decide +kernel
theorem dX12_wrong_5 : decode cX12_wrong 5 = .ok (.aload_n 0, 1) := by decide +kernel
theorem dX12_wrong_6 : decode cX12_wrong 6 = .ok (.aload_n 0, 1) := by decide +kernel
theorem dX12_wrong_7 : decode cX12_wrong 7 = .ok (.getfield 13, 3) := by decide +kernel
theorem dX12_wrong_10 : decode cX12_wrong 10 = .ok (.putfield 16, 3) := by decide +kernel
theorem dX12_wrong_13 : decode cX12_wrong 13 = .ok (.aload_n 0, 1) := by decide +kernel
theorem dX12_wrong_14 : decode cX12_wrong 14 = .ok (.getfield 19, 3) := by decide +kernel
theorem dX12_wrong_17 : decode cX12_wrong 17 = .ok (.areturn, 1) := by decide +kernel
theorem dX12_byteAt_0 : decode cX12_byteAt 0 = .ok (.iload_n 1, 1) := by decide +kernel
theorem dX12_byteAt_1 : decode cX12_byteAt 1 = .ok (.aload_n 0, 1) := by decide +kernel
theorem dX12_byteAt_2 : decode cX12_byteAt 2 = .ok (.getfield 23, 3) := by decide +kernel
theorem dX12_byteAt_5 : decode cX12_byteAt 5 = .ok (.if_icmp .ge 16, 3) := by decide +kernel
theorem dX12_byteAt_8 : decode cX12_byteAt 8 = .ok (.aload_n 0, 1) := by decide +kernel
theorem dX12_byteAt_9 : decode cX12_byteAt 9 = .ok (.getfield 26, 3) := by decide +kernel
theorem dX12_byteAt_12 : decode cX12_byteAt 12 = .ok (.iload_n 1, 1) := by decide +kernel
theorem dX12_byteAt_13 : decode cX12_byteAt 13 = .ok (.baload, 1) := by decide +kernel
theorem dX12_byteAt_14 : decode cX12_byteAt 14 = .ok (.sipush 255, 3) := by decide +kernel
theorem dX12_byteAt_17 : decode cX12_byteAt 17 = .ok (.iand, 1) := by decide +kernel
theorem dX12_byteAt_18 : decode cX12_byteAt 18 = .ok (.goto 4, 3) := by decide +kernel
theorem dX12_byteAt_21 : decode cX12_byteAt 21 = .ok (.iconst 0, 1) := by decide +kernel
theorem dX12_byteAt_22 : decode cX12_byteAt 22 = .ok (.ireturn, 1) := by decide +kernel
theorem dX12_isLetter_0 : decode cX12_isLetter 0 = .ok (.iload_n 0, 1) := by decide +kernel
theorem dX12_isLetter_1 : decode cX12_isLetter 1 = .ok (.bipush 97, 2) := by decide +kernel
theorem dX12_isLetter_3 : decode cX12_isLetter 3 = .ok (.if_icmp .lt 13, 3) := by decide +kernel
theorem dX12_isLetter_6 : decode cX12_isLetter 6 = .ok (.iload_n 0, 1) := by decide +kernel
theorem dX12_isLetter_7 : decode cX12_isLetter 7 = .ok (.bipush 122, 2) := by decide +kernel
theorem dX12_isLetter_9 : decode cX12_isLetter 9 = .ok (.if_icmp .gt 7, 3) := by decide +kernel
theorem dX12_isLetter_12 : decode cX12_isLetter 12 = .ok (.iconst 1, 1) := by decide +kernel
theorem dX12_isLetter_13 : decode cX12_isLetter 13 = .ok (.goto 4, 3) := by decide +kernel
theorem dX12_isLetter_16 : decode cX12_isLetter 16 = .ok (.iconst 0, 1) := by decide +kernel
theorem dX12_isLetter_17 : decode cX12_isLetter 17 = .ok (.ireturn, 1) := by decide +kernel
theorem dX12_isDigit_0 : decode cX12_isDigit 0 = .ok (.iload_n 0, 1) := by decide +kernel
theorem dX12_isDigit_1 : decode cX12_isDigit 1 = .ok (.bipush 48, 2) := by decide +kernel
theorem dX12_isDigit_3 : decode cX12_isDigit 3 = .ok (.if_icmp .lt 13, 3) := by decide +kernel
theorem dX12_isDigit_6 : decode cX12_isDigit 6 = .ok (.iload_n 0, 1) := by decide +kernel
theorem dX12_isDigit_7 : decode cX12_isDigit 7 = .ok (.bipush 57, 2) := by decide +kernel
theorem dX12_isDigit_9 : decode cX12_isDigit 9 = .ok (.if_icmp .gt 7, 3) := by decide +kernel
theorem dX12_isDigit_12 : decode cX12_isDigit 12 = .ok (.iconst 1, 1) := by decide +kernel
theorem dX12_isDigit_13 : decode cX12_isDigit 13 = .ok (.goto 4, 3) := by decide +kernel
theorem dX12_isDigit_16 : decode cX12_isDigit 16 = .ok (.iconst 0, 1) := by decide +kernel
theorem dX12_isDigit_17 : decode cX12_isDigit 17 = .ok (.ireturn, 1) := by decide +kernel
theorem dX12_scan_0 : decode cX12_scan 0 = .ok (.aload_n 0, 1) := by decide +kernel
theorem dX12_scan_1 : decode cX12_scan 1 = .ok (.getfield 30, 3) := by decide +kernel
theorem dX12_scan_4 : decode cX12_scan 4 = .ok (.aload_n 0, 1) := by decide +kernel
theorem dX12_scan_5 : decode cX12_scan 5 = .ok (.getfield 23, 3) := by decide +kernel
theorem dX12_scan_8 : decode cX12_scan 8 = .ok (.if_icmp .ge 44, 3) := by decide +kernel
theorem dX12_scan_11 : decode cX12_scan 11 = .ok (.aload_n 0, 1) := by decide +kernel
theorem dX12_scan_12 : decode cX12_scan 12 = .ok (.getfield 26, 3) := by decide +kernel
theorem dX12_scan_15 : decode cX12_scan 15 = .ok (.aload_n 0, 1) := by decide +kernel
theorem dX12_scan_16 : decode cX12_scan 16 = .ok (.getfield 30, 3) := by decide +kernel
theorem dX12_scan_19 : decode cX12_scan 19 = .ok (.baload, 1) := by decide +kernel
theorem dX12_scan_20 : decode cX12_scan 20 = .ok (.bipush 32, 2) := by decide +kernel
theorem dX12_scan_22 : decode cX12_scan 22 = .ok (.if_icmp .eq 17, 3) := by decide +kernel
theorem dX12_scan_25 : decode cX12_scan 25 = .ok (.aload_n 0, 1) := by decide +kernel
theorem dX12_scan_26 : decode cX12_scan 26 = .ok (.getfield 26, 3) := by decide +kernel
theorem dX12_scan_29 : decode cX12_scan 29 = .ok (.aload_n 0, 1) := by decide +kernel
theorem dX12_scan_30 : decode cX12_scan 30 = .ok (.getfield 30, 3) := by decide +kernel
theorem dX12_scan_33 : decode cX12_scan 33 = .ok (.baload, 1) := by decide +kernel
theorem dX12_scan_34 : decode cX12_scan 34 = .ok (.bipush 10, 2) := by decide +kernel
theorem dX12_scan_36 : decode cX12_scan 36 = .ok (.if_icmp .ne 16, 3) := by decide +kernel
theorem dX12_scan_39 : decode cX12_scan 39 = .ok (.aload_n 0, 1) := by decide +kernel
theorem dX12_scan_40 : decode cX12_scan 40 = .ok (.dup, 1) := by decide +kernel
theorem dX12_scan_41 : decode cX12_scan 41 = .ok (.getfield 30, 3) := by decide +kernel
theorem dX12_scan_44 : decode cX12_scan 44 = .ok (.iconst 1, 1) := by decide +kernel
theorem dX12_scan_45 : decode cX12_scan 45 = .ok (.iadd, 1) := by decide +kernel
theorem dX12_scan_46 : decode cX12_scan 46 = .ok (.putfield 30, 3) := by decide +kernel
theorem dX12_scan_49 : decode cX12_scan 49 = .ok (.goto (-49), 3) := by decide +kernel
theorem dX12_scan_52 : decode cX12_scan 52 = .ok (.aload_n 0, 1) := by decide +kernel
theorem dX12_scan_53 : decode cX12_scan 53 = .ok (.aload_n 0, 1) := by decide +kernel
theorem dX12_scan_54 : decode cX12_scan 54 = .ok (.getfield 30, 3) := by decide +kernel
theorem dX12_scan_57 : decode cX12_scan 57 = .ok (.putfield 13, 3) := by decide +kernel
theorem dX12_scan_60 : decode cX12_scan 60 = .ok (.aload_n 0, 1) := by decide +kernel
theorem dX12_scan_61 : decode cX12_scan 61 = .ok (.aload_n 0, 1) := by decide +kernel
theorem dX12_scan_62 : decode cX12_scan 62 = .ok (.getfield 13, 3) := by decide +kernel
theorem dX12_scan_65 : decode cX12_scan 65 = .ok (.invokevirtual 33, 3) := by decide +kernel
theorem dX12_scan_68 : decode cX12_scan 68 = .ok (.istore_n 1, 1) := by decide +kernel
theorem dX12_scan_69 : decode cX12_scan 69 = .ok (.aload_n 0, 1) := by decide +kernel
theorem dX12_scan_70 : decode cX12_scan 70 = .ok (.getfield 13, 3) := by decide +kernel
theorem dX12_scan_73 : decode cX12_scan 73 = .ok (.aload_n 0, 1) := by decide +kernel
theorem dX12_scan_74 : decode cX12_scan 74 = .ok (.getfield 23, 3) := by decide +kernel
theorem dX12_scan_77 : decode cX12_scan 77 = .ok (.if_icmp .ne 11, 3) := by decide +kernel
theorem dX12_scan_80 : decode cX12_scan 80 = .ok (.aload_n 0, 1) := by decide +kernel
theorem dX12_scan_81 : decode cX12_scan 81 = .ok (.iconst 0, 1) := by decide +kernel
theorem dX12_scan_82 : decode cX12_scan 82 = .ok (.putfield 37, 3) := by decide +kernel
theorem dX12_scan_85 : decode cX12_scan 85 = .ok (.goto 170, 3) := by decide +kernel
theorem dX12_scan_88 : decode cX12_scan 88 = .ok (.iload_n 1, 1) := by decide +kernel
theorem dX12_scan_89 : decode cX12_scan 89 = .ok (.invokestatic 40, 3) := by decide +kernel
theorem dX12_scan_92 : decode cX12_scan 92 = .ok (.ifCond .eq 38, 3) := by decide +kernel
theorem dX12_scan_95 : decode cX12_scan 95 = .ok (.aload_n 0, 1) := by decide +kernel
theorem dX12_scan_96 : decode cX12_scan 96 = .ok (.aload_n 0, 1) := by decide +kernel
theorem dX12_scan_97 : decode cX12_scan 97 = .ok (.getfield 30, 3) := by decide +kernel
theorem dX12_scan_100 : decode cX12_scan 100 = .ok (.invokevirtual 33, 3) := by decide +kernel
theorem dX12_scan_103 : decode cX12_scan 103 = .ok (.invokestatic 40, 3) := by decide +kernel
theorem dX12_scan_106 : decode cX12_scan 106 = .ok (.ifCond .eq 16, 3) := by decide +kernel
theorem dX12_scan_109 : decode cX12_scan 109 = .ok (.aload_n 0, 1) := by decide +kernel
theorem dX12_scan_110 : decode cX12_scan 110 = .ok (.dup, 1) := by decide +kernel
theorem dX12_scan_111 : decode cX12_scan 111 = .ok (.getfield 30, 3) := by decide +kernel
theorem dX12_scan_114 : decode cX12_scan 114 = .ok (.iconst 1, 1) := by decide +kernel
theorem dX12_scan_115 : decode cX12_scan 115 = .ok (.iadd, 1) := by decide +kernel
theorem dX12_scan_116 : decode cX12_scan 116 = .ok (.putfield 30, 3) := by decide +kernel
theorem dX12_scan_119 : decode cX12_scan 119 = .ok (.goto (-24), 3) := by decide +kernel
theorem dX12_scan_122 : decode cX12_scan 122 = .ok (.aload_n 0, 1) := by decide +kernel
theorem dX12_scan_123 : decode cX12_scan 123 = .ok (.iconst 1, 1) := by decide +kernel
theorem dX12_scan_124 : decode cX12_scan 124 = .ok (.putfield 37, 3) := by decide +kernel
theorem dX12_scan_127 : decode cX12_scan 127 = .ok (.goto 128, 3) := by decide +kernel
theorem dX12_scan_130 : decode cX12_scan 130 = .ok (.iload_n 1, 1) := by decide +kernel
theorem dX12_scan_131 : decode cX12_scan 131 = .ok (.invokestatic 44, 3) := by decide +kernel
theorem dX12_scan_134 : decode cX12_scan 134 = .ok (.ifCond .eq 96, 3) := by decide +kernel
theorem dX12_scan_137 : decode cX12_scan 137 = .ok (.aload_n 0, 1) := by decide +kernel
theorem dX12_scan_138 : decode cX12_scan 138 = .ok (.iconst 0, 1) := by decide +kernel
theorem dX12_scan_139 : decode cX12_scan 139 = .ok (.putfield 47, 3) := by decide +kernel
theorem dX12_scan_142 : decode cX12_scan 142 = .ok (.aload_n 0, 1) := by decide +kernel
theorem dX12_scan_143 : decode cX12_scan 143 = .ok (.aload_n 0, 1) := by decide +kernel
theorem dX12_scan_144 : decode cX12_scan 144 = .ok (.getfield 30, 3) := by decide +kernel
theorem dX12_scan_147 : decode cX12_scan 147 = .ok (.invokevirtual 33, 3) := by decide +kernel
theorem dX12_scan_150 : decode cX12_scan 150 = .ok (.invokestatic 44, 3) := by decide +kernel
theorem dX12_scan_153 : decode cX12_scan 153 = .ok (.ifCond .eq 52, 3) := by decide +kernel
theorem dX12_scan_156 : decode cX12_scan 156 = .ok (.aload_n 0, 1) := by decide +kernel
theorem dX12_scan_157 : decode cX12_scan 157 = .ok (.getfield 30, 3) := by decide +kernel
theorem dX12_scan_160 : decode cX12_scan 160 = .ok (.aload_n 0, 1) := by decide +kernel
theorem dX12_scan_161 : decode cX12_scan 161 = .ok (.getfield 13, 3) := by decide +kernel
theorem dX12_scan_164 : decode cX12_scan 164 = .ok (.isub, 1) := by decide +kernel
theorem dX12_scan_165 : decode cX12_scan 165 = .ok (.iconst 4, 1) := by decide +kernel
theorem dX12_scan_166 : decode cX12_scan 166 = .ok (.if_icmp .ge 26, 3) := by decide +kernel
theorem dX12_scan_169 : decode cX12_scan 169 = .ok (.aload_n 0, 1) := by decide +kernel
theorem dX12_scan_170 : decode cX12_scan 170 = .ok (.bipush 10, 2) := by decide +kernel
theorem dX12_scan_172 : decode cX12_scan 172 = .ok (.aload_n 0, 1) := by decide +kernel
theorem dX12_scan_173 : decode cX12_scan 173 = .ok (.getfield 47, 3) := by decide +kernel
theorem dX12_scan_176 : decode cX12_scan 176 = .ok (.imul, 1) := by decide +kernel
theorem dX12_scan_177 : decode cX12_scan 177 = .ok (.aload_n 0, 1) := by decide +kernel
theorem dX12_scan_178 : decode cX12_scan 178 = .ok (.aload_n 0, 1) := by decide +kernel
theorem dX12_scan_179 : decode cX12_scan 179 = .ok (.getfield 30, 3) := by decide +kernel
theorem dX12_scan_182 : decode cX12_scan 182 = .ok (.invokevirtual 33, 3) := by decide +kernel
theorem dX12_scan_185 : decode cX12_scan 185 = .ok (.iadd, 1) := by decide +kernel
theorem dX12_scan_186 : decode cX12_scan 186 = .ok (.bipush 48, 2) := by decide +kernel
theorem dX12_scan_188 : decode cX12_scan 188 = .ok (.isub, 1) := by decide +kernel
theorem dX12_scan_189 : decode cX12_scan 189 = .ok (.putfield 47, 3) := by decide +kernel
theorem dX12_scan_192 : decode cX12_scan 192 = .ok (.aload_n 0, 1) := by decide +kernel
theorem dX12_scan_193 : decode cX12_scan 193 = .ok (.dup, 1) := by decide +kernel
theorem dX12_scan_194 : decode cX12_scan 194 = .ok (.getfield 30, 3) := by decide +kernel
theorem dX12_scan_197 : decode cX12_scan 197 = .ok (.iconst 1, 1) := by decide +kernel
theorem dX12_scan_198 : decode cX12_scan 198 = .ok (.iadd, 1) := by decide +kernel
theorem dX12_scan_199 : decode cX12_scan 199 = .ok (.putfield 30, 3) := by decide +kernel
theorem dX12_scan_202 : decode cX12_scan 202 = .ok (.goto (-60), 3) := by decide +kernel
theorem dX12_scan_205 : decode cX12_scan 205 = .ok (.aload_n 0, 1) := by decide +kernel
theorem dX12_scan_206 : decode cX12_scan 206 = .ok (.aload_n 0, 1) := by decide +kernel
theorem dX12_scan_207 : decode cX12_scan 207 = .ok (.getfield 30, 3) := by decide +kernel
theorem dX12_scan_210 : decode cX12_scan 210 = .ok (.aload_n 0, 1) := by decide +kernel
theorem dX12_scan_211 : decode cX12_scan 211 = .ok (.getfield 13, 3) := by decide +kernel
theorem dX12_scan_214 : decode cX12_scan 214 = .ok (.isub, 1) := by decide +kernel
theorem dX12_scan_215 : decode cX12_scan 215 = .ok (.iconst 4, 1) := by decide +kernel
theorem dX12_scan_216 : decode cX12_scan 216 = .ok (.if_icmp .le 7, 3) := by decide +kernel
theorem dX12_scan_219 : decode cX12_scan 219 = .ok (.iconst 4, 1) := by decide +kernel
theorem dX12_scan_220 : decode cX12_scan 220 = .ok (.goto 4, 3) := by decide +kernel
theorem dX12_scan_223 : decode cX12_scan 223 = .ok (.iconst 2, 1) := by decide +kernel
theorem dX12_scan_224 : decode cX12_scan 224 = .ok (.putfield 37, 3) := by decide +kernel
theorem dX12_scan_227 : decode cX12_scan 227 = .ok (.goto 28, 3) := by decide +kernel
theorem dX12_scan_230 : decode cX12_scan 230 = .ok (.aload_n 0, 1) := by decide +kernel
theorem dX12_scan_231 : decode cX12_scan 231 = .ok (.iload_n 1, 1) := by decide +kernel
theorem dX12_scan_232 : decode cX12_scan 232 = .ok (.bipush 59, 2) := by decide +kernel
theorem dX12_scan_234 : decode cX12_scan 234 = .ok (.if_icmp .ne 7, 3) := by decide +kernel
theorem dX12_scan_237 : decode cX12_scan 237 = .ok (.iconst 3, 1) := by decide +kernel
theorem dX12_scan_238 : decode cX12_scan 238 = .ok (.goto 4, 3) := by decide +kernel
theorem dX12_scan_241 : decode cX12_scan 241 = .ok (.iconst 4, 1) := by decide +kernel
theorem dX12_scan_242 : decode cX12_scan 242 = .ok (.putfield 37, 3) := by decide +kernel
theorem dX12_scan_245 : decode cX12_scan 245 = .ok (.aload_n 0, 1) := by decide +kernel
theorem dX12_scan_246 : decode cX12_scan 246 = .ok (.dup, 1) := by decide +kernel
theorem dX12_scan_247 : decode cX12_scan 247 = .ok (.getfield 30, 3) := by decide +kernel
theorem dX12_scan_250 : decode cX12_scan 250 = .ok (.iconst 1, 1) := by decide +kernel
theorem dX12_scan_251 : decode cX12_scan 251 = .ok (.iadd, 1) := by decide +kernel
theorem dX12_scan_252 : decode cX12_scan 252 = .ok (.putfield 30, 3) := by decide +kernel
theorem dX12_scan_255 : decode cX12_scan 255 = .ok (.return_, 1) := by decide +kernel
theorem dX12_is_0 : decode cX12_is 0 = .ok (.aload_n 0, 1) := by decide +kernel
theorem dX12_is_1 : decode cX12_is 1 = .ok (.getfield 37, 3) := by decide +kernel
theorem dX12_is_4 : decode cX12_is 4 = .ok (.iconst 1, 1) := by decide +kernel
theorem dX12_is_5 : decode cX12_is 5 = .ok (.if_icmp .ne 23, 3) := by decide +kernel
theorem dX12_is_8 : decode cX12_is 8 = .ok (.aload_n 0, 1) := by decide +kernel
theorem dX12_is_9 : decode cX12_is 9 = .ok (.getfield 30, 3) := by decide +kernel
theorem dX12_is_12 : decode cX12_is 12 = .ok (.aload_n 0, 1) := by decide +kernel
theorem dX12_is_13 : decode cX12_is 13 = .ok (.getfield 13, 3) := by decide +kernel
theorem dX12_is_16 : decode cX12_is 16 = .ok (.isub, 1) := by decide +kernel
theorem dX12_is_17 : decode cX12_is 17 = .ok (.aload_n 1, 1) := by decide +kernel
theorem dX12_is_18 : decode cX12_is 18 = .ok (.invokevirtual 50, 3) := by decide +kernel
theorem dX12_is_21 : decode cX12_is 21 = .ok (.if_icmp .ne 7, 3) := by decide +kernel
theorem dX12_is_24 : decode cX12_is 24 = .ok (.iconst 1, 1) := by decide +kernel
theorem dX12_is_25 : decode cX12_is 25 = .ok (.goto 4, 3) := by decide +kernel
theorem dX12_is_28 : decode cX12_is 28 = .ok (.iconst 0, 1) := by decide +kernel
theorem dX12_is_29 : decode cX12_is 29 = .ok (.istore_n 2, 1) := by decide +kernel
theorem dX12_is_30 : decode cX12_is 30 = .ok (.iconst 0, 1) := by decide +kernel
theorem dX12_is_31 : decode cX12_is 31 = .ok (.istore_n 3, 1) := by decide +kernel
theorem dX12_is_32 : decode cX12_is 32 = .ok (.iload_n 3, 1) := by decide +kernel
theorem dX12_is_33 : decode cX12_is 33 = .ok (.aload_n 1, 1) := by decide +kernel
theorem dX12_is_34 : decode cX12_is 34 = .ok (.invokevirtual 50, 3) := by decide +kernel
theorem dX12_is_37 : decode cX12_is 37 = .ok (.if_icmp .ge 38, 3) := by decide +kernel
theorem dX12_is_40 : decode cX12_is 40 = .ok (.iload_n 2, 1) := by decide +kernel
theorem dX12_is_41 : decode cX12_is 41 = .ok (.ifCond .eq 34, 3) := by decide +kernel
theorem dX12_is_44 : decode cX12_is 44 = .ok (.aload_n 0, 1) := by decide +kernel
theorem dX12_is_45 : decode cX12_is 45 = .ok (.getfield 26, 3) := by decide +kernel
theorem dX12_is_48 : decode cX12_is 48 = .ok (.aload_n 0, 1) := by decide +kernel
theorem dX12_is_49 : decode cX12_is 49 = .ok (.getfield 13, 3) := by decide +kernel
theorem dX12_is_52 : decode cX12_is 52 = .ok (.iload_n 3, 1) := by decide +kernel
theorem dX12_is_53 : decode cX12_is 53 = .ok (.iadd, 1) := by decide +kernel
theorem dX12_is_54 : decode cX12_is 54 = .ok (.baload, 1) := by decide +kernel
theorem dX12_is_55 : decode cX12_is 55 = .ok (.aload_n 1, 1) := by decide +kernel
theorem dX12_is_56 : decode cX12_is 56 = .ok (.iload_n 3, 1) := by decide +kernel
theorem dX12_is_57 : decode cX12_is 57 = .ok (.invokevirtual 56, 3) := by decide +kernel
theorem dX12_is_60 : decode cX12_is 60 = .ok (.if_icmp .ne 7, 3) := by decide +kernel
theorem dX12_is_63 : decode cX12_is 63 = .ok (.iconst 1, 1) := by decide +kernel
theorem dX12_is_64 : decode cX12_is 64 = .ok (.goto 4, 3) := by decide +kernel
theorem dX12_is_67 : decode cX12_is 67 = .ok (.iconst 0, 1) := by decide +kernel
theorem dX12_is_68 : decode cX12_is 68 = .ok (.istore_n 2, 1) := by decide +kernel
theorem dX12_is_69 : decode cX12_is 69 = .ok (.iinc 3 1, 3) := by decide +kernel
theorem dX12_is_72 : decode cX12_is 72 = .ok (.goto (-40), 3) := by decide +kernel
theorem dX12_is_75 : decode cX12_is 75 = .ok (.iload_n 2, 1) := by decide +kernel
theorem dX12_is_76 : decode cX12_is 76 = .ok (.ireturn, 1) := by decide +kernel
theorem dX12_need_0 : decode cX12_need 0 = .ok (.aload_n 0, 1) := by decide +kernel
theorem dX12_need_1 : decode cX12_need 1 = .ok (.aload_n 1, 1) := by decide +kernel
theorem dX12_need_2 : decode cX12_need 2 = .ok (.invokevirtual 60, 3) := by decide +kernel
theorem dX12_need_5 : decode cX12_need 5 = .ok (.ifCond .ne 9, 3) := by decide +kernel
theorem dX12_need_8 : decode cX12_need 8 = .ok (.aload_n 0, 1) := by decide +kernel
theorem dX12_need_9 : decode cX12_need 9 = .ok (.iconst 1, 1) := by decide +kernel
theorem dX12_need_10 : decode cX12_need 10 = .ok (.invokevirtual 64, 3) := by decide +kernel
theorem dX12_need_13 : decode cX12_need 13 = .ok (.athrow, 1) := by decide +kernel
theorem dX12_need_14 : decode cX12_need 14 = .ok (.aload_n 0, 1) := by decide +kernel
theorem dX12_need_15 : decode cX12_need 15 = .ok (.invokevirtual 68, 3) := by decide +kernel
theorem dX12_need_18 : decode cX12_need 18 = .ok (.return_, 1) := by decide +kernel
theorem dX12_number_0 : decode cX12_number 0 = .ok (.aload_n 0, 1) := by decide +kernel
theorem dX12_number_1 : decode cX12_number 1 = .ok (.getfield 37, 3) := by decide +kernel
theorem dX12_number_4 : decode cX12_number 4 = .ok (.iconst 2, 1) := by decide +kernel
theorem dX12_number_5 : decode cX12_number 5 = .ok (.if_icmp .eq 9, 3) := by decide +kernel
theorem dX12_number_8 : decode cX12_number 8 = .ok (.aload_n 0, 1) := by decide +kernel
theorem dX12_number_9 : decode cX12_number 9 = .ok (.iconst 1, 1) := by decide +kernel
theorem dX12_number_10 : decode cX12_number 10 = .ok (.invokevirtual 64, 3) := by decide +kernel
theorem dX12_number_13 : decode cX12_number 13 = .ok (.athrow, 1) := by decide +kernel
theorem dX12_number_14 : decode cX12_number 14 = .ok (.aload_n 0, 1) := by decide +kernel
theorem dX12_number_15 : decode cX12_number 15 = .ok (.getfield 47, 3) := by decide +kernel
theorem dX12_number_18 : decode cX12_number 18 = .ok (.i2l, 1) := by decide +kernel
theorem dX12_number_19 : decode cX12_number 19 = .ok (.iload_n 1, 1) := by decide +kernel
theorem dX12_number_20 : decode cX12_number 20 = .ok (.i2l, 1) := by decide +kernel
theorem dX12_number_21 : decode cX12_number 21 = .ok (.iload_n 2, 1) := by decide +kernel
theorem dX12_number_22 : decode cX12_number 22 = .ok (.i2l, 1) := by decide +kernel
theorem dX12_number_23 : decode cX12_number 23 = .ok (.invokestatic 5, 3) := by decide +kernel
theorem dX12_number_26 : decode cX12_number 26 = .ok (.ifCond .ne 9, 3) := by decide +kernel
theorem dX12_number_29 : decode cX12_number 29 = .ok (.aload_n 0, 1) := by decide +kernel
theorem dX12_number_30 : decode cX12_number 30 = .ok (.iconst 2, 1) := by decide +kernel
theorem dX12_number_31 : decode cX12_number 31 = .ok (.invokevirtual 64, 3) := by decide +kernel
theorem dX12_number_34 : decode cX12_number 34 = .ok (.athrow, 1) := by decide +kernel
theorem dX12_number_35 : decode cX12_number 35 = .ok (.aload_n 0, 1) := by decide +kernel
theorem dX12_number_36 : decode cX12_number 36 = .ok (.getfield 47, 3) := by decide +kernel
theorem dX12_number_39 : decode cX12_number 39 = .ok (.istore_n 3, 1) := by decide +kernel
theorem dX12_number_40 : decode cX12_number 40 = .ok (.aload_n 0, 1) := by decide +kernel
theorem dX12_number_41 : decode cX12_number 41 = .ok (.invokevirtual 68, 3) := by decide +kernel
theorem dX12_number_44 : decode cX12_number 44 = .ok (.iload_n 3, 1) := by decide +kernel
theorem dX12_number_45 : decode cX12_number 45 = .ok (.ireturn, 1) := by decide +kernel
theorem dX12_kindAtHand_0 : decode cX12_kindAtHand 0 = .ok (.aload_n 0, 1) := by decide +kernel
theorem dX12_kindAtHand_1 : decode cX12_kindAtHand 1 = .ok (.ldc 72, 2) := by decide +kernel
theorem dX12_kindAtHand_3 : decode cX12_kindAtHand 3 = .ok (.invokevirtual 60, 3) := by decide +kernel
theorem dX12_kindAtHand_6 : decode cX12_kindAtHand 6 = .ok (.ifCond .eq 5, 3) := by decide +kernel
theorem dX12_kindAtHand_9 : decode cX12_kindAtHand 9 = .ok (.iconst 0, 1) := by decide +kernel
theorem dX12_kindAtHand_10 : decode cX12_kindAtHand 10 = .ok (.ireturn, 1) := by decide +kernel
theorem dX12_kindAtHand_11 : decode cX12_kindAtHand 11 = .ok (.aload_n 0, 1) := by decide +kernel
theorem dX12_kindAtHand_12 : decode cX12_kindAtHand 12 = .ok (.ldc 74, 2) := by decide +kernel
theorem dX12_kindAtHand_14 : decode cX12_kindAtHand 14 = .ok (.invokevirtual 60, 3) := by decide +kernel
theorem dX12_kindAtHand_17 : decode cX12_kindAtHand 17 = .ok (.ifCond .eq 5, 3) := by decide +kernel
theorem dX12_kindAtHand_20 : decode cX12_kindAtHand 20 = .ok (.iconst 1, 1) := by decide +kernel
theorem dX12_kindAtHand_21 : decode cX12_kindAtHand 21 = .ok (.ireturn, 1) := by decide +kernel
theorem dX12_kindAtHand_22 : decode cX12_kindAtHand 22 = .ok (.aload_n 0, 1) := by decide +kernel
theorem dX12_kindAtHand_23 : decode cX12_kindAtHand 23 = .ok (.ldc 76, 2) := by decide +kernel
theorem dX12_kindAtHand_25 : decode cX12_kindAtHand 25 = .ok (.invokevirtual 60, 3) := by decide +kernel
theorem dX12_kindAtHand_28 : decode cX12_kindAtHand 28 = .ok (.ifCond .eq 5, 3) := by decide +kernel
theorem dX12_kindAtHand_31 : decode cX12_kindAtHand 31 = .ok (.iconst 2, 1) := by decide +kernel
theorem dX12_kindAtHand_32 : decode cX12_kindAtHand 32 = .ok (.ireturn, 1) := by decide +kernel
theorem dX12_kindAtHand_33 : decode cX12_kindAtHand 33 = .ok (.aload_n 0, 1) := by decide +kernel
theorem dX12_kindAtHand_34 : decode cX12_kindAtHand 34 = .ok (.ldc 78, 2) := by decide +kernel
theorem dX12_kindAtHand_36 : decode cX12_kindAtHand 36 = .ok (.invokevirtual 60, 3) := by decide +kernel
theorem dX12_kindAtHand_39 : decode cX12_kindAtHand 39 = .ok (.ifCond .eq 5, 3) := by decide +kernel
theorem dX12_kindAtHand_42 : decode cX12_kindAtHand 42 = .ok (.iconst 3, 1) := by decide +kernel
theorem dX12_kindAtHand_43 : decode cX12_kindAtHand 43 = .ok (.ireturn, 1) := by decide +kernel
theorem dX12_kindAtHand_44 : decode cX12_kindAtHand 44 = .ok (.aload_n 0, 1) := by decide +kernel
theorem dX12_kindAtHand_45 : decode cX12_kindAtHand 45 = .ok (.ldc 80, 2) := by decide +kernel
theorem dX12_kindAtHand_47 : decode cX12_kindAtHand 47 = .ok (.invokevirtual 60, 3) := by decide +kernel
theorem dX12_kindAtHand_50 : decode cX12_kindAtHand 50 = .ok (.ifCond .eq 5, 3) := by decide +kernel
theorem dX12_kindAtHand_53 : decode cX12_kindAtHand 53 = .ok (.iconst 4, 1) := by decide +kernel
theorem dX12_kindAtHand_54 : decode cX12_kindAtHand 54 = .ok (.ireturn, 1) := by decide +kernel
theorem dX12_kindAtHand_55 : decode cX12_kindAtHand 55 = .ok (.aload_n 0, 1) := by decide +kernel
theorem dX12_kindAtHand_56 : decode cX12_kindAtHand 56 = .ok (.ldc 82, 2) := by decide +kernel
theorem dX12_kindAtHand_58 : decode cX12_kindAtHand 58 = .ok (.invokevirtual 60, 3) := by decide +kernel
theorem dX12_kindAtHand_61 : decode cX12_kindAtHand 61 = .ok (.ifCond .eq 5, 3) := by decide +kernel
theorem dX12_kindAtHand_64 : decode cX12_kindAtHand 64 = .ok (.iconst 5, 1) := by decide +kernel
theorem dX12_kindAtHand_65 : decode cX12_kindAtHand 65 = .ok (.ireturn, 1) := by decide +kernel
theorem dX12_kindAtHand_66 : decode cX12_kindAtHand 66 = .ok (.aload_n 0, 1) := by decide +kernel
theorem dX12_kindAtHand_67 : decode cX12_kindAtHand 67 = .ok (.ldc 84, 2) := by decide +kernel
theorem dX12_kindAtHand_69 : decode cX12_kindAtHand 69 = .ok (.invokevirtual 60, 3) := by decide +kernel
theorem dX12_kindAtHand_72 : decode cX12_kindAtHand 72 = .ok (.ifCond .eq 6, 3) := by decide +kernel
theorem dX12_kindAtHand_75 : decode cX12_kindAtHand 75 = .ok (.bipush 6, 2) := by decide +kernel
theorem dX12_kindAtHand_77 : decode cX12_kindAtHand 77 = .ok (.ireturn, 1) := by decide +kernel
theorem dX12_kindAtHand_78 : decode cX12_kindAtHand 78 = .ok (.aload_n 0, 1) := by decide +kernel
theorem dX12_kindAtHand_79 : decode cX12_kindAtHand 79 = .ok (.ldc 86, 2) := by decide +kernel
theorem dX12_kindAtHand_81 : decode cX12_kindAtHand 81 = .ok (.invokevirtual 60, 3) := by decide +kernel
theorem dX12_kindAtHand_84 : decode cX12_kindAtHand 84 = .ok (.ifCond .eq 8, 3) := by decide +kernel
theorem dX12_kindAtHand_87 : decode cX12_kindAtHand 87 = .ok (.bipush 7, 2) := by decide +kernel
theorem dX12_kindAtHand_89 : decode cX12_kindAtHand 89 = .ok (.goto 4, 3) := by decide +kernel
theorem dX12_kindAtHand_92 : decode cX12_kindAtHand 92 = .ok (.iconst (-1), 1) := by decide +kernel
theorem dX12_kindAtHand_93 : decode cX12_kindAtHand 93 = .ok (.ireturn, 1) := by decide +kernel
theorem dX12_readAct_0 : decode cX12_readAct 0 = .ok (.aload_n 0, 1) := by decide +kernel
theorem dX12_readAct_1 : decode cX12_readAct 1 = .ok (.getfield 88, 3) := by decide +kernel
theorem dX12_readAct_4 : decode cX12_readAct 4 = .ok (.iload_n 1, 1) := by decide +kernel
theorem dX12_readAct_5 : decode cX12_readAct 5 = .ok (.iconst 0, 1) := by decide +kernel
theorem dX12_readAct_6 : decode cX12_readAct 6 = .ok (.iastore, 1) := by decide +kernel
theorem dX12_readAct_7 : decode cX12_readAct 7 = .ok (.aload_n 0, 1) := by decide +kernel
theorem dX12_readAct_8 : decode cX12_readAct 8 = .ok (.getfield 92, 3) := by decide +kernel
theorem dX12_readAct_11 : decode cX12_readAct 11 = .ok (.iload_n 1, 1) := by decide +kernel
theorem dX12_readAct_12 : decode cX12_readAct 12 = .ok (.iconst 0, 1) := by decide +kernel
theorem dX12_readAct_13 : decode cX12_readAct 13 = .ok (.iastore, 1) := by decide +kernel
theorem dX12_readAct_14 : decode cX12_readAct 14 = .ok (.aload_n 0, 1) := by decide +kernel
theorem dX12_readAct_15 : decode cX12_readAct 15 = .ok (.getfield 95, 3) := by decide +kernel
theorem dX12_readAct_18 : decode cX12_readAct 18 = .ok (.iload_n 1, 1) := by decide +kernel
theorem dX12_readAct_19 : decode cX12_readAct 19 = .ok (.iconst (-1), 1) := by decide +kernel
theorem dX12_readAct_20 : decode cX12_readAct 20 = .ok (.iastore, 1) := by decide +kernel
theorem dX12_readAct_21 : decode cX12_readAct 21 = .ok (.aload_n 0, 1) := by decide +kernel
theorem dX12_readAct_22 : decode cX12_readAct 22 = .ok (.getfield 98, 3) := by decide +kernel
theorem dX12_readAct_25 : decode cX12_readAct 25 = .ok (.iload_n 1, 1) := by decide +kernel
theorem dX12_readAct_26 : decode cX12_readAct 26 = .ok (.iconst 0, 1) := by decide +kernel
theorem dX12_readAct_27 : decode cX12_readAct 27 = .ok (.iastore, 1) := by decide +kernel
theorem dX12_readAct_28 : decode cX12_readAct 28 = .ok (.aload_n 0, 1) := by decide +kernel
theorem dX12_readAct_29 : decode cX12_readAct 29 = .ok (.iconst 0, 1) := by decide +kernel
theorem dX12_readAct_30 : decode cX12_readAct 30 = .ok (.putfield 101, 3) := by decide +kernel
theorem dX12_readAct_33 : decode cX12_readAct 33 = .ok (.aload_n 0, 1) := by decide +kernel
theorem dX12_readAct_34 : decode cX12_readAct 34 = .ok (.getfield 37, 3) := by decide +kernel
theorem dX12_readAct_37 : decode cX12_readAct 37 = .ok (.ifCond .eq 48, 3) := by decide +kernel
theorem dX12_readAct_40 : decode cX12_readAct 40 = .ok (.aload_n 0, 1) := by decide +kernel
theorem dX12_readAct_41 : decode cX12_readAct 41 = .ok (.invokevirtual 105, 3) := by decide +kernel
theorem dX12_readAct_44 : decode cX12_readAct 44 = .ok (.istore_n 2, 1) := by decide +kernel
theorem dX12_readAct_45 : decode cX12_readAct 45 = .ok (.iload_n 2, 1) := by decide +kernel
theorem dX12_readAct_46 : decode cX12_readAct 46 = .ok (.iconst (-1), 1) := by decide +kernel
theorem dX12_readAct_47 : decode cX12_readAct 47 = .ok (.if_icmp .eq 12, 3) := by decide +kernel
theorem dX12_readAct_50 : decode cX12_readAct 50 = .ok (.aload_n 0, 1) := by decide +kernel
theorem dX12_readAct_51 : decode cX12_readAct 51 = .ok (.iload_n 1, 1) := by decide +kernel
theorem dX12_readAct_52 : decode cX12_readAct 52 = .ok (.iload_n 2, 1) := by decide +kernel
theorem dX12_readAct_53 : decode cX12_readAct 53 = .ok (.invokevirtual 108, 3) := by decide +kernel
theorem dX12_readAct_56 : decode cX12_readAct 56 = .ok (.goto 8, 3) := by decide +kernel
theorem dX12_readAct_59 : decode cX12_readAct 59 = .ok (.aload_n 0, 1) := by decide +kernel
theorem dX12_readAct_60 : decode cX12_readAct 60 = .ok (.iload_n 1, 1) := by decide +kernel
theorem dX12_readAct_61 : decode cX12_readAct 61 = .ok (.invokevirtual 112, 3) := by decide +kernel
theorem dX12_readAct_64 : decode cX12_readAct 64 = .ok (.aload_n 0, 1) := by decide +kernel
theorem dX12_readAct_65 : decode cX12_readAct 65 = .ok (.getfield 37, 3) := by decide +kernel
theorem dX12_readAct_68 : decode cX12_readAct 68 = .ok (.iconst 3, 1) := by decide +kernel
theorem dX12_readAct_69 : decode cX12_readAct 69 = .ok (.if_icmp .eq 9, 3) := by decide +kernel
theorem dX12_readAct_72 : decode cX12_readAct 72 = .ok (.aload_n 0, 1) := by decide +kernel
theorem dX12_readAct_73 : decode cX12_readAct 73 = .ok (.iconst 1, 1) := by decide +kernel
theorem dX12_readAct_74 : decode cX12_readAct 74 = .ok (.invokevirtual 64, 3) := by decide +kernel
theorem dX12_readAct_77 : decode cX12_readAct 77 = .ok (.athrow, 1) := by decide +kernel
theorem dX12_readAct_78 : decode cX12_readAct 78 = .ok (.aload_n 0, 1) := by decide +kernel
theorem dX12_readAct_79 : decode cX12_readAct 79 = .ok (.invokevirtual 68, 3) := by decide +kernel
theorem dX12_readAct_82 : decode cX12_readAct 82 = .ok (.goto (-49), 3) := by decide +kernel
theorem dX12_readAct_85 : decode cX12_readAct 85 = .ok (.return_, 1) := by decide +kernel
theorem dX12_readOther_0 : decode cX12_readOther 0 = .ok (.aload_n 0, 1) := by decide +kernel
theorem dX12_readOther_1 : decode cX12_readOther 1 = .ok (.ldc 116, 2) := by decide +kernel
theorem dX12_readOther_3 : decode cX12_readOther 3 = .ok (.invokevirtual 60, 3) := by decide +kernel
theorem dX12_readOther_6 : decode cX12_readOther 6 = .ok (.ifCond .eq 76, 3) := by decide +kernel
theorem dX12_readOther_9 : decode cX12_readOther 9 = .ok (.aload_n 0, 1) := by decide +kernel
theorem dX12_readOther_10 : decode cX12_readOther 10 = .ok (.invokevirtual 68, 3) := by decide +kernel
theorem dX12_readOther_13 : decode cX12_readOther 13 = .ok (.aload_n 0, 1) := by decide +kernel
theorem dX12_readOther_14 : decode cX12_readOther 14 = .ok (.getfield 37, 3) := by decide +kernel
theorem dX12_readOther_17 : decode cX12_readOther 17 = .ok (.iconst 2, 1) := by decide +kernel
theorem dX12_readOther_18 : decode cX12_readOther 18 = .ok (.if_icmp .ne 37, 3) := by decide +kernel
theorem dX12_readOther_21 : decode cX12_readOther 21 = .ok (.aload_n 0, 1) := by decide +kernel
theorem dX12_readOther_22 : decode cX12_readOther 22 = .ok (.getfield 47, 3) := by decide +kernel
theorem dX12_readOther_25 : decode cX12_readOther 25 = .ok (.aload_n 0, 1) := by decide +kernel
theorem dX12_readOther_26 : decode cX12_readOther 26 = .ok (.getfield 118, 3) := by decide +kernel
theorem dX12_readOther_29 : decode cX12_readOther 29 = .ok (.if_icmp .ge 26, 3) := by decide +kernel
theorem dX12_readOther_32 : decode cX12_readOther 32 = .ok (.aload_n 0, 1) := by decide +kernel
theorem dX12_readOther_33 : decode cX12_readOther 33 = .ok (.getfield 98, 3) := by decide +kernel
theorem dX12_readOther_36 : decode cX12_readOther 36 = .ok (.iload_n 1, 1) := by decide +kernel
theorem dX12_readOther_37 : decode cX12_readOther 37 = .ok (.iaload, 1) := by decide +kernel
theorem dX12_readOther_38 : decode cX12_readOther 38 = .ok (.aload_n 0, 1) := by decide +kernel
theorem dX12_readOther_39 : decode cX12_readOther 39 = .ok (.getfield 47, 3) := by decide +kernel
theorem dX12_readOther_42 : decode cX12_readOther 42 = .ok (.ishr, 1) := by decide +kernel
theorem dX12_readOther_43 : decode cX12_readOther 43 = .ok (.iconst 1, 1) := by decide +kernel
theorem dX12_readOther_44 : decode cX12_readOther 44 = .ok (.iand, 1) := by decide +kernel
theorem dX12_readOther_45 : decode cX12_readOther 45 = .ok (.iconst 1, 1) := by decide +kernel
theorem dX12_readOther_46 : decode cX12_readOther 46 = .ok (.if_icmp .ne 9, 3) := by decide +kernel
theorem dX12_readOther_49 : decode cX12_readOther 49 = .ok (.aload_n 0, 1) := by decide +kernel
theorem dX12_readOther_50 : decode cX12_readOther 50 = .ok (.iconst 3, 1) := by decide +kernel
theorem dX12_readOther_51 : decode cX12_readOther 51 = .ok (.invokevirtual 64, 3) := by decide +kernel
theorem dX12_readOther_54 : decode cX12_readOther 54 = .ok (.athrow, 1) := by decide +kernel
theorem dX12_readOther_55 : decode cX12_readOther 55 = .ok (.aload_n 0, 1) := by decide +kernel
theorem dX12_readOther_56 : decode cX12_readOther 56 = .ok (.iconst 0, 1) := by decide +kernel
theorem dX12_readOther_57 : decode cX12_readOther 57 = .ok (.aload_n 0, 1) := by decide +kernel
theorem dX12_readOther_58 : decode cX12_readOther 58 = .ok (.getfield 118, 3) := by decide +kernel
theorem dX12_readOther_61 : decode cX12_readOther 61 = .ok (.iconst 1, 1) := by decide +kernel
theorem dX12_readOther_62 : decode cX12_readOther 62 = .ok (.isub, 1) := by decide +kernel
theorem dX12_readOther_63 : decode cX12_readOther 63 = .ok (.invokevirtual 121, 3) := by decide +kernel
theorem dX12_readOther_66 : decode cX12_readOther 66 = .ok (.istore_n 2, 1) := by decide +kernel
theorem dX12_readOther_67 : decode cX12_readOther 67 = .ok (.aload_n 0, 1) := by decide +kernel
theorem dX12_readOther_68 : decode cX12_readOther 68 = .ok (.getfield 98, 3) := by decide +kernel
theorem dX12_readOther_71 : decode cX12_readOther 71 = .ok (.iload_n 1, 1) := by decide +kernel
theorem dX12_readOther_72 : decode cX12_readOther 72 = .ok (.dup2, 1) := by decide +kernel
theorem dX12_readOther_73 : decode cX12_readOther 73 = .ok (.iaload, 1) := by decide +kernel
theorem dX12_readOther_74 : decode cX12_readOther 74 = .ok (.iconst 1, 1) := by decide +kernel
theorem dX12_readOther_75 : decode cX12_readOther 75 = .ok (.iload_n 2, 1) := by decide +kernel
theorem dX12_readOther_76 : decode cX12_readOther 76 = .ok (.ishl, 1) := by decide +kernel
theorem dX12_readOther_77 : decode cX12_readOther 77 = .ok (.ior, 1) := by decide +kernel
theorem dX12_readOther_78 : decode cX12_readOther 78 = .ok (.iastore, 1) := by decide +kernel
theorem dX12_readOther_79 : decode cX12_readOther 79 = .ok (.goto 102, 3) := by decide +kernel
theorem dX12_readOther_82 : decode cX12_readOther 82 = .ok (.aload_n 0, 1) := by decide +kernel
theorem dX12_readOther_83 : decode cX12_readOther 83 = .ok (.ldc 125, 2) := by decide +kernel
theorem dX12_readOther_85 : decode cX12_readOther 85 = .ok (.invokevirtual 60, 3) := by decide +kernel
theorem dX12_readOther_88 : decode cX12_readOther 88 = .ok (.ifCond .eq 42, 3) := by decide +kernel
theorem dX12_readOther_91 : decode cX12_readOther 91 = .ok (.aload_n 0, 1) := by decide +kernel
theorem dX12_readOther_92 : decode cX12_readOther 92 = .ok (.getfield 101, 3) := by decide +kernel
theorem dX12_readOther_95 : decode cX12_readOther 95 = .ok (.ifCond .eq 9, 3) := by decide +kernel
theorem dX12_readOther_98 : decode cX12_readOther 98 = .ok (.aload_n 0, 1) := by decide +kernel
theorem dX12_readOther_99 : decode cX12_readOther 99 = .ok (.iconst 3, 1) := by decide +kernel
theorem dX12_readOther_100 : decode cX12_readOther 100 = .ok (.invokevirtual 64, 3) := by decide +kernel
theorem dX12_readOther_103 : decode cX12_readOther 103 = .ok (.athrow, 1) := by decide +kernel
theorem dX12_readOther_104 : decode cX12_readOther 104 = .ok (.aload_n 0, 1) := by decide +kernel
theorem dX12_readOther_105 : decode cX12_readOther 105 = .ok (.iconst 1, 1) := by decide +kernel
theorem dX12_readOther_106 : decode cX12_readOther 106 = .ok (.putfield 101, 3) := by decide +kernel
theorem dX12_readOther_109 : decode cX12_readOther 109 = .ok (.aload_n 0, 1) := by decide +kernel
theorem dX12_readOther_110 : decode cX12_readOther 110 = .ok (.invokevirtual 68, 3) := by decide +kernel
theorem dX12_readOther_113 : decode cX12_readOther 113 = .ok (.aload_n 0, 1) := by decide +kernel
theorem dX12_readOther_114 : decode cX12_readOther 114 = .ok (.getfield 92, 3) := by decide +kernel
theorem dX12_readOther_117 : decode cX12_readOther 117 = .ok (.iload_n 1, 1) := by decide +kernel
theorem dX12_readOther_118 : decode cX12_readOther 118 = .ok (.aload_n 0, 1) := by decide +kernel
theorem dX12_readOther_119 : decode cX12_readOther 119 = .ok (.iconst 0, 1) := by decide +kernel
theorem dX12_readOther_120 : decode cX12_readOther 120 = .ok (.sipush 9999, 3) := by decide +kernel
theorem dX12_readOther_123 : decode cX12_readOther 123 = .ok (.invokevirtual 121, 3) := by decide +kernel
theorem dX12_readOther_126 : decode cX12_readOther 126 = .ok (.iastore, 1) := by decide +kernel
theorem dX12_readOther_127 : decode cX12_readOther 127 = .ok (.goto 54, 3) := by decide +kernel
theorem dX12_readOther_130 : decode cX12_readOther 130 = .ok (.aload_n 0, 1) := by decide +kernel
theorem dX12_readOther_131 : decode cX12_readOther 131 = .ok (.ldc 126, 2) := by decide +kernel
theorem dX12_readOther_133 : decode cX12_readOther 133 = .ok (.invokevirtual 60, 3) := by decide +kernel
theorem dX12_readOther_136 : decode cX12_readOther 136 = .ok (.ifCond .eq 39, 3) := by decide +kernel
theorem dX12_readOther_139 : decode cX12_readOther 139 = .ok (.aload_n 0, 1) := by decide +kernel
theorem dX12_readOther_140 : decode cX12_readOther 140 = .ok (.getfield 95, 3) := by decide +kernel
theorem dX12_readOther_143 : decode cX12_readOther 143 = .ok (.iload_n 1, 1) := by decide +kernel
theorem dX12_readOther_144 : decode cX12_readOther 144 = .ok (.iaload, 1) := by decide +kernel
theorem dX12_readOther_145 : decode cX12_readOther 145 = .ok (.iconst (-1), 1) := by decide +kernel
theorem dX12_readOther_146 : decode cX12_readOther 146 = .ok (.if_icmp .eq 9, 3) := by decide +kernel
theorem dX12_readOther_149 : decode cX12_readOther 149 = .ok (.aload_n 0, 1) := by decide +kernel
theorem dX12_readOther_150 : decode cX12_readOther 150 = .ok (.iconst 3, 1) := by decide +kernel
theorem dX12_readOther_151 : decode cX12_readOther 151 = .ok (.invokevirtual 64, 3) := by decide +kernel
theorem dX12_readOther_154 : decode cX12_readOther 154 = .ok (.athrow, 1) := by decide +kernel
theorem dX12_readOther_155 : decode cX12_readOther 155 = .ok (.aload_n 0, 1) := by decide +kernel
theorem dX12_readOther_156 : decode cX12_readOther 156 = .ok (.invokevirtual 68, 3) := by decide +kernel
theorem dX12_readOther_159 : decode cX12_readOther 159 = .ok (.aload_n 0, 1) := by decide +kernel
theorem dX12_readOther_160 : decode cX12_readOther 160 = .ok (.getfield 95, 3) := by decide +kernel
theorem dX12_readOther_163 : decode cX12_readOther 163 = .ok (.iload_n 1, 1) := by decide +kernel
theorem dX12_readOther_164 : decode cX12_readOther 164 = .ok (.aload_n 0, 1) := by decide +kernel
theorem dX12_readOther_165 : decode cX12_readOther 165 = .ok (.iconst 0, 1) := by decide +kernel
theorem dX12_readOther_166 : decode cX12_readOther 166 = .ok (.bipush 100, 2) := by decide +kernel
theorem dX12_readOther_168 : decode cX12_readOther 168 = .ok (.invokevirtual 121, 3) := by decide +kernel
theorem dX12_readOther_171 : decode cX12_readOther 171 = .ok (.iastore, 1) := by decide +kernel
theorem dX12_readOther_172 : decode cX12_readOther 172 = .ok (.goto 9, 3) := by decide +kernel
theorem dX12_readOther_175 : decode cX12_readOther 175 = .ok (.aload_n 0, 1) := by decide +kernel
theorem dX12_readOther_176 : decode cX12_readOther 176 = .ok (.iconst 1, 1) := by decide +kernel
theorem dX12_readOther_177 : decode cX12_readOther 177 = .ok (.invokevirtual 64, 3) := by decide +kernel
theorem dX12_readOther_180 : decode cX12_readOther 180 = .ok (.athrow, 1) := by decide +kernel
theorem dX12_readOther_181 : decode cX12_readOther 181 = .ok (.return_, 1) := by decide +kernel
theorem dX12_readRule_0 : decode cX12_readRule 0 = .ok (.aload_n 0, 1) := by decide +kernel
theorem dX12_readRule_1 : decode cX12_readRule 1 = .ok (.getfield 88, 3) := by decide +kernel
theorem dX12_readRule_4 : decode cX12_readRule 4 = .ok (.iload_n 1, 1) := by decide +kernel
theorem dX12_readRule_5 : decode cX12_readRule 5 = .ok (.iaload, 1) := by decide +kernel
theorem dX12_readRule_6 : decode cX12_readRule 6 = .ok (.bipush 12, 2) := by decide +kernel
theorem dX12_readRule_8 : decode cX12_readRule 8 = .ok (.if_icmp .ne 9, 3) := by decide +kernel
theorem dX12_readRule_11 : decode cX12_readRule 11 = .ok (.aload_n 0, 1) := by decide +kernel
theorem dX12_readRule_12 : decode cX12_readRule 12 = .ok (.iconst 4, 1) := by decide +kernel
theorem dX12_readRule_13 : decode cX12_readRule 13 = .ok (.invokevirtual 64, 3) := by decide +kernel
theorem dX12_readRule_16 : decode cX12_readRule 16 = .ok (.athrow, 1) := by decide +kernel
theorem dX12_readRule_17 : decode cX12_readRule 17 = .ok (.bipush 12, 2) := by decide +kernel
theorem dX12_readRule_19 : decode cX12_readRule 19 = .ok (.iload_n 1, 1) := by decide +kernel
theorem dX12_readRule_20 : decode cX12_readRule 20 = .ok (.imul, 1) := by decide +kernel
theorem dX12_readRule_21 : decode cX12_readRule 21 = .ok (.aload_n 0, 1) := by decide +kernel
theorem dX12_readRule_22 : decode cX12_readRule 22 = .ok (.getfield 88, 3) := by decide +kernel
theorem dX12_readRule_25 : decode cX12_readRule 25 = .ok (.iload_n 1, 1) := by decide +kernel
theorem dX12_readRule_26 : decode cX12_readRule 26 = .ok (.iaload, 1) := by decide +kernel
theorem dX12_readRule_27 : decode cX12_readRule 27 = .ok (.iadd, 1) := by decide +kernel
theorem dX12_readRule_28 : decode cX12_readRule 28 = .ok (.istore_n 3, 1) := by decide +kernel
theorem dX12_readRule_29 : decode cX12_readRule 29 = .ok (.aload_n 0, 1) := by decide +kernel
theorem dX12_readRule_30 : decode cX12_readRule 30 = .ok (.getfield 127, 3) := by decide +kernel
theorem dX12_readRule_33 : decode cX12_readRule 33 = .ok (.iload_n 3, 1) := by decide +kernel
theorem dX12_readRule_34 : decode cX12_readRule 34 = .ok (.iload_n 2, 1) := by decide +kernel
theorem dX12_readRule_35 : decode cX12_readRule 35 = .ok (.iastore, 1) := by decide +kernel
theorem dX12_readRule_36 : decode cX12_readRule 36 = .ok (.aload_n 0, 1) := by decide +kernel
theorem dX12_readRule_37 : decode cX12_readRule 37 = .ok (.invokevirtual 68, 3) := by decide +kernel
theorem dX12_readRule_40 : decode cX12_readRule 40 = .ok (.aload_n 0, 1) := by decide +kernel
theorem dX12_readRule_41 : decode cX12_readRule 41 = .ok (.getfield 130, 3) := by decide +kernel
theorem dX12_readRule_44 : decode cX12_readRule 44 = .ok (.iload_n 3, 1) := by decide +kernel
theorem dX12_readRule_45 : decode cX12_readRule 45 = .ok (.aload_n 0, 1) := by decide +kernel
theorem dX12_readRule_46 : decode cX12_readRule 46 = .ok (.iconst 0, 1) := by decide +kernel
theorem dX12_readRule_47 : decode cX12_readRule 47 = .ok (.iload_n 2, 1) := by decide +kernel
theorem dX12_readRule_48 : decode cX12_readRule 48 = .ok (.iconst 5, 1) := by decide +kernel
theorem dX12_readRule_49 : decode cX12_readRule 49 = .ok (.if_icmp .ne 8, 3) := by decide +kernel
theorem dX12_readRule_52 : decode cX12_readRule 52 = .ok (.bipush 15, 2) := by decide +kernel
theorem dX12_readRule_54 : decode cX12_readRule 54 = .ok (.goto 17, 3) := by decide +kernel
theorem dX12_readRule_57 : decode cX12_readRule 57 = .ok (.iload_n 2, 1) := by decide +kernel
theorem dX12_readRule_58 : decode cX12_readRule 58 = .ok (.bipush 6, 2) := by decide +kernel
theorem dX12_readRule_60 : decode cX12_readRule 60 = .ok (.if_icmp .lt 8, 3) := by decide +kernel
theorem dX12_readRule_63 : decode cX12_readRule 63 = .ok (.bipush 7, 2) := by decide +kernel
theorem dX12_readRule_65 : decode cX12_readRule 65 = .ok (.goto 6, 3) := by decide +kernel
theorem dX12_readRule_68 : decode cX12_readRule 68 = .ok (.sipush 9999, 3) := by decide +kernel
theorem dX12_readRule_71 : decode cX12_readRule 71 = .ok (.invokevirtual 121, 3) := by decide +kernel
theorem dX12_readRule_74 : decode cX12_readRule 74 = .ok (.iastore, 1) := by decide +kernel
theorem dX12_readRule_75 : decode cX12_readRule 75 = .ok (.aload_n 0, 1) := by decide +kernel
theorem dX12_readRule_76 : decode cX12_readRule 76 = .ok (.getfield 132, 3) := by decide +kernel
theorem dX12_readRule_79 : decode cX12_readRule 79 = .ok (.iload_n 3, 1) := by decide +kernel
theorem dX12_readRule_80 : decode cX12_readRule 80 = .ok (.iconst 0, 1) := by decide +kernel
theorem dX12_readRule_81 : decode cX12_readRule 81 = .ok (.iastore, 1) := by decide +kernel
theorem dX12_readRule_82 : decode cX12_readRule 82 = .ok (.aload_n 0, 1) := by decide +kernel
theorem dX12_readRule_83 : decode cX12_readRule 83 = .ok (.getfield 135, 3) := by decide +kernel
theorem dX12_readRule_86 : decode cX12_readRule 86 = .ok (.iload_n 3, 1) := by decide +kernel
theorem dX12_readRule_87 : decode cX12_readRule 87 = .ok (.bipush 9, 2) := by decide +kernel
theorem dX12_readRule_89 : decode cX12_readRule 89 = .ok (.iastore, 1) := by decide +kernel
theorem dX12_readRule_90 : decode cX12_readRule 90 = .ok (.aload_n 0, 1) := by decide +kernel
theorem dX12_readRule_91 : decode cX12_readRule 91 = .ok (.ldc 138, 2) := by decide +kernel
theorem dX12_readRule_93 : decode cX12_readRule 93 = .ok (.invokevirtual 60, 3) := by decide +kernel
theorem dX12_readRule_96 : decode cX12_readRule 96 = .ok (.ifCond .eq 10, 3) := by decide +kernel
theorem dX12_readRule_99 : decode cX12_readRule 99 = .ok (.aload_n 0, 1) := by decide +kernel
theorem dX12_readRule_100 : decode cX12_readRule 100 = .ok (.invokevirtual 68, 3) := by decide +kernel
theorem dX12_readRule_103 : decode cX12_readRule 103 = .ok (.goto 46, 3) := by decide +kernel
theorem dX12_readRule_106 : decode cX12_readRule 106 = .ok (.aload_n 0, 1) := by decide +kernel
theorem dX12_readRule_107 : decode cX12_readRule 107 = .ok (.ldc 140, 2) := by decide +kernel
theorem dX12_readRule_109 : decode cX12_readRule 109 = .ok (.invokevirtual 142, 3) := by decide +kernel
theorem dX12_readRule_112 : decode cX12_readRule 112 = .ok (.aload_n 0, 1) := by decide +kernel
theorem dX12_readRule_113 : decode cX12_readRule 113 = .ok (.getfield 132, 3) := by decide +kernel
theorem dX12_readRule_116 : decode cX12_readRule 116 = .ok (.iload_n 3, 1) := by decide +kernel
theorem dX12_readRule_117 : decode cX12_readRule 117 = .ok (.aload_n 0, 1) := by decide +kernel
theorem dX12_readRule_118 : decode cX12_readRule 118 = .ok (.iconst 0, 1) := by decide +kernel
theorem dX12_readRule_119 : decode cX12_readRule 119 = .ok (.bipush 9, 2) := by decide +kernel
theorem dX12_readRule_121 : decode cX12_readRule 121 = .ok (.invokevirtual 121, 3) := by decide +kernel
theorem dX12_readRule_124 : decode cX12_readRule 124 = .ok (.iastore, 1) := by decide +kernel
theorem dX12_readRule_125 : decode cX12_readRule 125 = .ok (.aload_n 0, 1) := by decide +kernel
theorem dX12_readRule_126 : decode cX12_readRule 126 = .ok (.ldc 146, 2) := by decide +kernel
theorem dX12_readRule_128 : decode cX12_readRule 128 = .ok (.invokevirtual 142, 3) := by decide +kernel
theorem dX12_readRule_131 : decode cX12_readRule 131 = .ok (.aload_n 0, 1) := by decide +kernel
theorem dX12_readRule_132 : decode cX12_readRule 132 = .ok (.getfield 135, 3) := by decide +kernel
theorem dX12_readRule_135 : decode cX12_readRule 135 = .ok (.iload_n 3, 1) := by decide +kernel
theorem dX12_readRule_136 : decode cX12_readRule 136 = .ok (.aload_n 0, 1) := by decide +kernel
theorem dX12_readRule_137 : decode cX12_readRule 137 = .ok (.aload_n 0, 1) := by decide +kernel
theorem dX12_readRule_138 : decode cX12_readRule 138 = .ok (.getfield 132, 3) := by decide +kernel
theorem dX12_readRule_141 : decode cX12_readRule 141 = .ok (.iload_n 3, 1) := by decide +kernel
theorem dX12_readRule_142 : decode cX12_readRule 142 = .ok (.iaload, 1) := by decide +kernel
theorem dX12_readRule_143 : decode cX12_readRule 143 = .ok (.bipush 9, 2) := by decide +kernel
theorem dX12_readRule_145 : decode cX12_readRule 145 = .ok (.invokevirtual 121, 3) := by decide +kernel
theorem dX12_readRule_148 : decode cX12_readRule 148 = .ok (.iastore, 1) := by decide +kernel
theorem dX12_readRule_149 : decode cX12_readRule 149 = .ok (.aload_n 0, 1) := by decide +kernel
theorem dX12_readRule_150 : decode cX12_readRule 150 = .ok (.getfield 148, 3) := by decide +kernel
theorem dX12_readRule_153 : decode cX12_readRule 153 = .ok (.iload_n 3, 1) := by decide +kernel
theorem dX12_readRule_154 : decode cX12_readRule 154 = .ok (.aload_n 0, 1) := by decide +kernel
theorem dX12_readRule_155 : decode cX12_readRule 155 = .ok (.ldc 151, 2) := by decide +kernel
theorem dX12_readRule_157 : decode cX12_readRule 157 = .ok (.invokevirtual 60, 3) := by decide +kernel
theorem dX12_readRule_160 : decode cX12_readRule 160 = .ok (.ifCond .eq 7, 3) := by decide +kernel
theorem dX12_readRule_163 : decode cX12_readRule 163 = .ok (.iconst 0, 1) := by decide +kernel
theorem dX12_readRule_164 : decode cX12_readRule 164 = .ok (.goto 43, 3) := by decide +kernel
theorem dX12_readRule_167 : decode cX12_readRule 167 = .ok (.aload_n 0, 1) := by decide +kernel
theorem dX12_readRule_168 : decode cX12_readRule 168 = .ok (.ldc 153, 2) := by decide +kernel
theorem dX12_readRule_170 : decode cX12_readRule 170 = .ok (.invokevirtual 60, 3) := by decide +kernel
theorem dX12_readRule_173 : decode cX12_readRule 173 = .ok (.ifCond .eq 7, 3) := by decide +kernel
theorem dX12_readRule_176 : decode cX12_readRule 176 = .ok (.iconst 1, 1) := by decide +kernel
theorem dX12_readRule_177 : decode cX12_readRule 177 = .ok (.goto 30, 3) := by decide +kernel
theorem dX12_readRule_180 : decode cX12_readRule 180 = .ok (.aload_n 0, 1) := by decide +kernel
theorem dX12_readRule_181 : decode cX12_readRule 181 = .ok (.ldc 155, 2) := by decide +kernel
theorem dX12_readRule_183 : decode cX12_readRule 183 = .ok (.invokevirtual 60, 3) := by decide +kernel
theorem dX12_readRule_186 : decode cX12_readRule 186 = .ok (.ifCond .eq 7, 3) := by decide +kernel
theorem dX12_readRule_189 : decode cX12_readRule 189 = .ok (.iconst 2, 1) := by decide +kernel
theorem dX12_readRule_190 : decode cX12_readRule 190 = .ok (.goto 17, 3) := by decide +kernel
theorem dX12_readRule_193 : decode cX12_readRule 193 = .ok (.aload_n 0, 1) := by decide +kernel
theorem dX12_readRule_194 : decode cX12_readRule 194 = .ok (.ldc 157, 2) := by decide +kernel
theorem dX12_readRule_196 : decode cX12_readRule 196 = .ok (.invokevirtual 60, 3) := by decide +kernel
theorem dX12_readRule_199 : decode cX12_readRule 199 = .ok (.ifCond .eq 7, 3) := by decide +kernel
theorem dX12_readRule_202 : decode cX12_readRule 202 = .ok (.iconst 3, 1) := by decide +kernel
theorem dX12_readRule_203 : decode cX12_readRule 203 = .ok (.goto 4, 3) := by decide +kernel
theorem dX12_readRule_206 : decode cX12_readRule 206 = .ok (.iconst (-1), 1) := by decide +kernel
theorem dX12_readRule_207 : decode cX12_readRule 207 = .ok (.iastore, 1) := by decide +kernel
theorem dX12_readRule_208 : decode cX12_readRule 208 = .ok (.aload_n 0, 1) := by decide +kernel
theorem dX12_readRule_209 : decode cX12_readRule 209 = .ok (.getfield 148, 3) := by decide +kernel
theorem dX12_readRule_212 : decode cX12_readRule 212 = .ok (.iload_n 3, 1) := by decide +kernel
theorem dX12_readRule_213 : decode cX12_readRule 213 = .ok (.iaload, 1) := by decide +kernel
theorem dX12_readRule_214 : decode cX12_readRule 214 = .ok (.iconst (-1), 1) := by decide +kernel
theorem dX12_readRule_215 : decode cX12_readRule 215 = .ok (.if_icmp .ne 9, 3) := by decide +kernel
theorem dX12_readRule_218 : decode cX12_readRule 218 = .ok (.aload_n 0, 1) := by decide +kernel
theorem dX12_readRule_219 : decode cX12_readRule 219 = .ok (.iconst 1, 1) := by decide +kernel
theorem dX12_readRule_220 : decode cX12_readRule 220 = .ok (.invokevirtual 64, 3) := by decide +kernel
theorem dX12_readRule_223 : decode cX12_readRule 223 = .ok (.athrow, 1) := by decide +kernel
theorem dX12_readRule_224 : decode cX12_readRule 224 = .ok (.aload_n 0, 1) := by decide +kernel
theorem dX12_readRule_225 : decode cX12_readRule 225 = .ok (.invokevirtual 68, 3) := by decide +kernel
theorem dX12_readRule_228 : decode cX12_readRule 228 = .ok (.aload_n 0, 1) := by decide +kernel
theorem dX12_readRule_229 : decode cX12_readRule 229 = .ok (.ldc 159, 2) := by decide +kernel
theorem dX12_readRule_231 : decode cX12_readRule 231 = .ok (.invokevirtual 142, 3) := by decide +kernel
theorem dX12_readRule_234 : decode cX12_readRule 234 = .ok (.aload_n 0, 1) := by decide +kernel
theorem dX12_readRule_235 : decode cX12_readRule 235 = .ok (.getfield 161, 3) := by decide +kernel
theorem dX12_readRule_238 : decode cX12_readRule 238 = .ok (.iload_n 3, 1) := by decide +kernel
theorem dX12_readRule_239 : decode cX12_readRule 239 = .ok (.aload_n 0, 1) := by decide +kernel
theorem dX12_readRule_240 : decode cX12_readRule 240 = .ok (.iconst 0, 1) := by decide +kernel
theorem dX12_readRule_241 : decode cX12_readRule 241 = .ok (.sipush 9999, 3) := by decide +kernel
theorem dX12_readRule_244 : decode cX12_readRule 244 = .ok (.invokevirtual 121, 3) := by decide +kernel
theorem dX12_readRule_247 : decode cX12_readRule 247 = .ok (.iastore, 1) := by decide +kernel
theorem dX12_readRule_248 : decode cX12_readRule 248 = .ok (.aload_n 0, 1) := by decide +kernel
theorem dX12_readRule_249 : decode cX12_readRule 249 = .ok (.getfield 88, 3) := by decide +kernel
theorem dX12_readRule_252 : decode cX12_readRule 252 = .ok (.iload_n 1, 1) := by decide +kernel
theorem dX12_readRule_253 : decode cX12_readRule 253 = .ok (.dup2, 1) := by decide +kernel
theorem dX12_readRule_254 : decode cX12_readRule 254 = .ok (.iaload, 1) := by decide +kernel
theorem dX12_readRule_255 : decode cX12_readRule 255 = .ok (.iconst 1, 1) := by decide +kernel
theorem dX12_readRule_256 : decode cX12_readRule 256 = .ok (.iadd, 1) := by decide +kernel
theorem dX12_readRule_257 : decode cX12_readRule 257 = .ok (.iastore, 1) := by decide +kernel
theorem dX12_readRule_258 : decode cX12_readRule 258 = .ok (.return_, 1) := by decide +kernel
theorem dX12_init_0 : decode cX12_init 0 = .ok (.aload_n 0, 1) := by decide +kernel
theorem dX12_init_1 : decode cX12_init 1 = .ok (.invokespecial 163, 3) := by decide +kernel
theorem dX12_init_4 : decode cX12_init 4 = .ok (.aload_n 0, 1) := by decide +kernel
theorem dX12_init_5 : decode cX12_init 5 = .ok (.bipush 13, 2) := by decide +kernel
theorem dX12_init_7 : decode cX12_init 7 = .ok (.newarray .int, 2) := by decide +kernel
theorem dX12_init_9 : decode cX12_init 9 = .ok (.putfield 168, 3) := by decide +kernel
theorem dX12_init_12 : decode cX12_init 12 = .ok (.aload_n 0, 1) := by decide +kernel
theorem dX12_init_13 : decode cX12_init 13 = .ok (.bipush 13, 2) := by decide +kernel
theorem dX12_init_15 : decode cX12_init 15 = .ok (.newarray .int, 2) := by decide +kernel
theorem dX12_init_17 : decode cX12_init 17 = .ok (.putfield 88, 3) := by decide +kernel
theorem dX12_init_20 : decode cX12_init 20 = .ok (.aload_n 0, 1) := by decide +kernel
theorem dX12_init_21 : decode cX12_init 21 = .ok (.bipush 13, 2) := by decide +kernel
theorem dX12_init_23 : decode cX12_init 23 = .ok (.newarray .int, 2) := by decide +kernel
theorem dX12_init_25 : decode cX12_init 25 = .ok (.putfield 92, 3) := by decide +kernel
theorem dX12_init_28 : decode cX12_init 28 = .ok (.aload_n 0, 1) := by decide +kernel
theorem dX12_init_29 : decode cX12_init 29 = .ok (.bipush 13, 2) := by decide +kernel
theorem dX12_init_31 : decode cX12_init 31 = .ok (.newarray .int, 2) := by decide +kernel
theorem dX12_init_33 : decode cX12_init 33 = .ok (.putfield 95, 3) := by decide +kernel
theorem dX12_init_36 : decode cX12_init 36 = .ok (.aload_n 0, 1) := by decide +kernel
theorem dX12_init_37 : decode cX12_init 37 = .ok (.bipush 13, 2) := by decide +kernel
theorem dX12_init_39 : decode cX12_init 39 = .ok (.newarray .int, 2) := by decide +kernel
theorem dX12_init_41 : decode cX12_init 41 = .ok (.putfield 98, 3) := by decide +kernel
theorem dX12_init_44 : decode cX12_init 44 = .ok (.aload_n 0, 1) := by decide +kernel
theorem dX12_init_45 : decode cX12_init 45 = .ok (.sipush 156, 3) := by decide +kernel
theorem dX12_init_48 : decode cX12_init 48 = .ok (.newarray .int, 2) := by decide +kernel
theorem dX12_init_50 : decode cX12_init 50 = .ok (.putfield 127, 3) := by decide +kernel
theorem dX12_init_53 : decode cX12_init 53 = .ok (.aload_n 0, 1) := by decide +kernel
theorem dX12_init_54 : decode cX12_init 54 = .ok (.sipush 156, 3) := by decide +kernel
theorem dX12_init_57 : decode cX12_init 57 = .ok (.newarray .int, 2) := by decide +kernel
theorem dX12_init_59 : decode cX12_init 59 = .ok (.putfield 130, 3) := by decide +kernel
theorem dX12_init_62 : decode cX12_init 62 = .ok (.aload_n 0, 1) := by decide +kernel
theorem dX12_init_63 : decode cX12_init 63 = .ok (.sipush 156, 3) := by decide +kernel
theorem dX12_init_66 : decode cX12_init 66 = .ok (.newarray .int, 2) := by decide +kernel
theorem dX12_init_68 : decode cX12_init 68 = .ok (.putfield 132, 3) := by decide +kernel
theorem dX12_init_71 : decode cX12_init 71 = .ok (.aload_n 0, 1) := by decide +kernel
theorem dX12_init_72 : decode cX12_init 72 = .ok (.sipush 156, 3) := by decide +kernel
theorem dX12_init_75 : decode cX12_init 75 = .ok (.newarray .int, 2) := by decide +kernel
theorem dX12_init_77 : decode cX12_init 77 = .ok (.putfield 135, 3) := by decide +kernel
theorem dX12_init_80 : decode cX12_init 80 = .ok (.aload_n 0, 1) := by decide +kernel
theorem dX12_init_81 : decode cX12_init 81 = .ok (.sipush 156, 3) := by decide +kernel
theorem dX12_init_84 : decode cX12_init 84 = .ok (.newarray .int, 2) := by decide +kernel
theorem dX12_init_86 : decode cX12_init 86 = .ok (.putfield 148, 3) := by decide +kernel
theorem dX12_init_89 : decode cX12_init 89 = .ok (.aload_n 0, 1) := by decide +kernel
theorem dX12_init_90 : decode cX12_init 90 = .ok (.sipush 156, 3) := by decide +kernel
theorem dX12_init_93 : decode cX12_init 93 = .ok (.newarray .int, 2) := by decide +kernel
theorem dX12_init_95 : decode cX12_init 95 = .ok (.putfield 161, 3) := by decide +kernel
theorem dX12_init_98 : decode cX12_init 98 = .ok (.aload_n 0, 1) := by decide +kernel
theorem dX12_init_99 : decode cX12_init 99 = .ok (.new 171, 3) := by decide +kernel
theorem dX12_init_102 : decode cX12_init 102 = .ok (.dup, 1) := by decide +kernel
theorem dX12_init_103 : decode cX12_init 103 = .ok (.invokespecial 173, 3) := by decide +kernel
theorem dX12_init_106 : decode cX12_init 106 = .ok (.putfield 19, 3) := by decide +kernel
theorem dX12_init_109 : decode cX12_init 109 = .ok (.aload_n 0, 1) := by decide +kernel
theorem dX12_init_110 : decode cX12_init 110 = .ok (.sipush 800, 3) := by decide +kernel
theorem dX12_init_113 : decode cX12_init 113 = .ok (.newarray .byte, 2) := by decide +kernel
theorem dX12_init_115 : decode cX12_init 115 = .ok (.putfield 26, 3) := by decide +kernel
theorem dX12_init_118 : decode cX12_init 118 = .ok (.aload_n 0, 1) := by decide +kernel
theorem dX12_init_119 : decode cX12_init 119 = .ok (.iconst (-1), 1) := by decide +kernel
theorem dX12_init_120 : decode cX12_init 120 = .ok (.putfield 16, 3) := by decide +kernel
theorem dX12_init_123 : decode cX12_init 123 = .ok (.aload_n 0, 1) := by decide +kernel
theorem dX12_init_124 : decode cX12_init 124 = .ok (.bipush 30, 2) := by decide +kernel
theorem dX12_init_126 : decode cX12_init 126 = .ok (.newarray .int, 2) := by decide +kernel
theorem dX12_init_128 : decode cX12_init 128 = .ok (.putfield 174, 3) := by decide +kernel
theorem dX12_init_131 : decode cX12_init 131 = .ok (.aload_n 0, 1) := by decide +kernel
theorem dX12_init_132 : decode cX12_init 132 = .ok (.sipush 360, 3) := by decide +kernel
theorem dX12_init_135 : decode cX12_init 135 = .ok (.newarray .int, 2) := by decide +kernel
theorem dX12_init_137 : decode cX12_init 137 = .ok (.putfield 177, 3) := by decide +kernel
theorem dX12_init_140 : decode cX12_init 140 = .ok (.aload_n 0, 1) := by decide +kernel
theorem dX12_init_141 : decode cX12_init 141 = .ok (.sipush 360, 3) := by decide +kernel
theorem dX12_init_144 : decode cX12_init 144 = .ok (.newarray .int, 2) := by decide +kernel
theorem dX12_init_146 : decode cX12_init 146 = .ok (.putfield 180, 3) := by decide +kernel
theorem dX12_init_149 : decode cX12_init 149 = .ok (.aload_n 0, 1) := by decide +kernel
theorem dX12_init_150 : decode cX12_init 150 = .ok (.bipush 30, 2) := by decide +kernel
theorem dX12_init_152 : decode cX12_init 152 = .ok (.newarray .int, 2) := by decide +kernel
theorem dX12_init_154 : decode cX12_init 154 = .ok (.putfield 183, 3) := by decide +kernel
theorem dX12_init_157 : decode cX12_init 157 = .ok (.aload_n 0, 1) := by decide +kernel
theorem dX12_init_158 : decode cX12_init 158 = .ok (.bipush 120, 2) := by decide +kernel
theorem dX12_init_160 : decode cX12_init 160 = .ok (.newarray .int, 2) := by decide +kernel
theorem dX12_init_162 : decode cX12_init 162 = .ok (.putfield 186, 3) := by decide +kernel
theorem dX12_init_165 : decode cX12_init 165 = .ok (.aload_n 0, 1) := by decide +kernel
theorem dX12_init_166 : decode cX12_init 166 = .ok (.bipush 120, 2) := by decide +kernel
theorem dX12_init_168 : decode cX12_init 168 = .ok (.newarray .int, 2) := by decide +kernel
theorem dX12_init_170 : decode cX12_init 170 = .ok (.putfield 189, 3) := by decide +kernel
theorem dX12_init_173 : decode cX12_init 173 = .ok (.aload_n 0, 1) := by decide +kernel
theorem dX12_init_174 : decode cX12_init 174 = .ok (.bipush 20, 2) := by decide +kernel
theorem dX12_init_176 : decode cX12_init 176 = .ok (.newarray .int, 2) := by decide +kernel
theorem dX12_init_178 : decode cX12_init 178 = .ok (.putfield 192, 3) := by decide +kernel
theorem dX12_init_181 : decode cX12_init 181 = .ok (.aload_n 0, 1) := by decide +kernel
theorem dX12_init_182 : decode cX12_init 182 = .ok (.bipush 20, 2) := by decide +kernel
theorem dX12_init_184 : decode cX12_init 184 = .ok (.newarray .int, 2) := by decide +kernel
theorem dX12_init_186 : decode cX12_init 186 = .ok (.putfield 195, 3) := by decide +kernel
theorem dX12_init_189 : decode cX12_init 189 = .ok (.aload_n 0, 1) := by decide +kernel
theorem dX12_init_190 : decode cX12_init 190 = .ok (.sipush 200, 3) := by decide +kernel
theorem dX12_init_193 : decode cX12_init 193 = .ok (.newarray .int, 2) := by decide +kernel
theorem dX12_init_195 : decode cX12_init 195 = .ok (.putfield 198, 3) := by decide +kernel
theorem dX12_init_198 : decode cX12_init 198 = .ok (.aload_n 0, 1) := by decide +kernel
theorem dX12_init_199 : decode cX12_init 199 = .ok (.bipush 40, 2) := by decide +kernel
theorem dX12_init_201 : decode cX12_init 201 = .ok (.newarray .int, 2) := by decide +kernel
theorem dX12_init_203 : decode cX12_init 203 = .ok (.putfield 201, 3) := by decide +kernel
theorem dX12_init_206 : decode cX12_init 206 = .ok (.aload_n 0, 1) := by decide +kernel
theorem dX12_init_207 : decode cX12_init 207 = .ok (.bipush 40, 2) := by decide +kernel
theorem dX12_init_209 : decode cX12_init 209 = .ok (.newarray .int, 2) := by decide +kernel
theorem dX12_init_211 : decode cX12_init 211 = .ok (.putfield 203, 3) := by decide +kernel
theorem dX12_init_214 : decode cX12_init 214 = .ok (.aload_n 0, 1) := by decide +kernel
theorem dX12_init_215 : decode cX12_init 215 = .ok (.bipush 40, 2) := by decide +kernel
theorem dX12_init_217 : decode cX12_init 217 = .ok (.newarray .int, 2) := by decide +kernel
theorem dX12_init_219 : decode cX12_init 219 = .ok (.putfield 205, 3) := by decide +kernel
theorem dX12_init_222 : decode cX12_init 222 = .ok (.aload_n 0, 1) := by decide +kernel
theorem dX12_init_223 : decode cX12_init 223 = .ok (.bipush 30, 2) := by decide +kernel
theorem dX12_init_225 : decode cX12_init 225 = .ok (.newarray .int, 2) := by decide +kernel
theorem dX12_init_227 : decode cX12_init 227 = .ok (.putfield 208, 3) := by decide +kernel
theorem dX12_init_230 : decode cX12_init 230 = .ok (.aload_n 0, 1) := by decide +kernel
theorem dX12_init_231 : decode cX12_init 231 = .ok (.bipush 30, 2) := by decide +kernel
theorem dX12_init_233 : decode cX12_init 233 = .ok (.newarray .int, 2) := by decide +kernel
theorem dX12_init_235 : decode cX12_init 235 = .ok (.putfield 211, 3) := by decide +kernel
theorem dX12_init_238 : decode cX12_init 238 = .ok (.aload_n 0, 1) := by decide +kernel
theorem dX12_init_239 : decode cX12_init 239 = .ok (.bipush 30, 2) := by decide +kernel
theorem dX12_init_241 : decode cX12_init 241 = .ok (.newarray .int, 2) := by decide +kernel
theorem dX12_init_243 : decode cX12_init 243 = .ok (.putfield 214, 3) := by decide +kernel
theorem dX12_init_246 : decode cX12_init 246 = .ok (.aload_n 0, 1) := by decide +kernel
theorem dX12_init_247 : decode cX12_init 247 = .ok (.bipush 30, 2) := by decide +kernel
theorem dX12_init_249 : decode cX12_init 249 = .ok (.newarray .int, 2) := by decide +kernel
theorem dX12_init_251 : decode cX12_init 251 = .ok (.putfield 217, 3) := by decide +kernel
theorem dX12_init_254 : decode cX12_init 254 = .ok (.aload_n 0, 1) := by decide +kernel
theorem dX12_init_255 : decode cX12_init 255 = .ok (.bipush 30, 2) := by decide +kernel
theorem dX12_init_257 : decode cX12_init 257 = .ok (.newarray .int, 2) := by decide +kernel
theorem dX12_init_259 : decode cX12_init 259 = .ok (.putfield 220, 3) := by decide +kernel
theorem dX12_init_262 : decode cX12_init 262 = .ok (.aload_n 0, 1) := by decide +kernel
theorem dX12_init_263 : decode cX12_init 263 = .ok (.bipush 30, 2) := by decide +kernel
theorem dX12_init_265 : decode cX12_init 265 = .ok (.newarray .int, 2) := by decide +kernel
theorem dX12_init_267 : decode cX12_init 267 = .ok (.putfield 223, 3) := by decide +kernel
theorem dX12_init_270 : decode cX12_init 270 = .ok (.aload_n 0, 1) := by decide +kernel
theorem dX12_init_271 : decode cX12_init 271 = .ok (.bipush 7, 2) := by decide +kernel
theorem dX12_init_273 : decode cX12_init 273 = .ok (.newarray .int, 2) := by decide +kernel
theorem dX12_init_275 : decode cX12_init 275 = .ok (.putfield 226, 3) := by decide +kernel
theorem dX12_init_278 : decode cX12_init 278 = .ok (.aload_n 0, 1) := by decide +kernel
theorem dX12_init_279 : decode cX12_init 279 = .ok (.bipush 60, 2) := by decide +kernel
theorem dX12_init_281 : decode cX12_init 281 = .ok (.newarray .int, 2) := by decide +kernel
theorem dX12_init_283 : decode cX12_init 283 = .ok (.putfield 229, 3) := by decide +kernel
theorem dX12_init_286 : decode cX12_init 286 = .ok (.aload_n 0, 1) := by decide +kernel
theorem dX12_init_287 : decode cX12_init 287 = .ok (.bipush 60, 2) := by decide +kernel
theorem dX12_init_289 : decode cX12_init 289 = .ok (.newarray .int, 2) := by decide +kernel
theorem dX12_init_291 : decode cX12_init 291 = .ok (.putfield 232, 3) := by decide +kernel
theorem dX12_init_294 : decode cX12_init 294 = .ok (.aload_n 0, 1) := by decide +kernel
theorem dX12_init_295 : decode cX12_init 295 = .ok (.bipush 60, 2) := by decide +kernel
theorem dX12_init_297 : decode cX12_init 297 = .ok (.newarray .int, 2) := by decide +kernel
theorem dX12_init_299 : decode cX12_init 299 = .ok (.putfield 235, 3) := by decide +kernel
theorem dX12_init_302 : decode cX12_init 302 = .ok (.aload_n 0, 1) := by decide +kernel
theorem dX12_init_303 : decode cX12_init 303 = .ok (.bipush 60, 2) := by decide +kernel
theorem dX12_init_305 : decode cX12_init 305 = .ok (.newarray .int, 2) := by decide +kernel
theorem dX12_init_307 : decode cX12_init 307 = .ok (.putfield 238, 3) := by decide +kernel
theorem dX12_init_310 : decode cX12_init 310 = .ok (.aload_n 0, 1) := by decide +kernel
theorem dX12_init_311 : decode cX12_init 311 = .ok (.bipush 60, 2) := by decide +kernel
theorem dX12_init_313 : decode cX12_init 313 = .ok (.newarray .int, 2) := by decide +kernel
theorem dX12_init_315 : decode cX12_init 315 = .ok (.putfield 241, 3) := by decide +kernel
theorem dX12_init_318 : decode cX12_init 318 = .ok (.aload_n 0, 1) := by decide +kernel
theorem dX12_init_319 : decode cX12_init 319 = .ok (.bipush 60, 2) := by decide +kernel
theorem dX12_init_321 : decode cX12_init 321 = .ok (.newarray .int, 2) := by decide +kernel
theorem dX12_init_323 : decode cX12_init 323 = .ok (.putfield 244, 3) := by decide +kernel
theorem dX12_init_326 : decode cX12_init 326 = .ok (.aload_n 0, 1) := by decide +kernel
theorem dX12_init_327 : decode cX12_init 327 = .ok (.bipush 60, 2) := by decide +kernel
theorem dX12_init_329 : decode cX12_init 329 = .ok (.newarray .int, 2) := by decide +kernel
theorem dX12_init_331 : decode cX12_init 331 = .ok (.putfield 247, 3) := by decide +kernel
theorem dX12_init_334 : decode cX12_init 334 = .ok (.aload_n 0, 1) := by decide +kernel
theorem dX12_init_335 : decode cX12_init 335 = .ok (.iconst 5, 1) := by decide +kernel
theorem dX12_init_336 : decode cX12_init 336 = .ok (.newarray .int, 2) := by decide +kernel
theorem dX12_init_338 : decode cX12_init 338 = .ok (.putfield 250, 3) := by decide +kernel
theorem dX12_init_341 : decode cX12_init 341 = .ok (.iconst 0, 1) := by decide +kernel
theorem dX12_init_342 : decode cX12_init 342 = .ok (.istore_n 1, 1) := by decide +kernel
theorem dX12_init_343 : decode cX12_init 343 = .ok (.iload_n 1, 1) := by decide +kernel
theorem dX12_init_344 : decode cX12_init 344 = .ok (.bipush 7, 2) := by decide +kernel
theorem dX12_init_346 : decode cX12_init 346 = .ok (.if_icmp .ge 16, 3) := by decide +kernel
theorem dX12_init_349 : decode cX12_init 349 = .ok (.aload_n 0, 1) := by decide +kernel
theorem dX12_init_350 : decode cX12_init 350 = .ok (.getfield 226, 3) := by decide +kernel
theorem dX12_init_353 : decode cX12_init 353 = .ok (.iload_n 1, 1) := by decide +kernel
theorem dX12_init_354 : decode cX12_init 354 = .ok (.iconst 1, 1) := by decide +kernel
theorem dX12_init_355 : decode cX12_init 355 = .ok (.iastore, 1) := by decide +kernel
theorem dX12_init_356 : decode cX12_init 356 = .ok (.iinc 1 1, 3) := by decide +kernel
theorem dX12_init_359 : decode cX12_init 359 = .ok (.goto (-16), 3) := by decide +kernel
theorem dX12_init_362 : decode cX12_init 362 = .ok (.return_, 1) := by decide +kernel
theorem dX12_feed_0 : decode cX12_feed 0 = .ok (.aload_n 0, 1) := by decide +kernel
theorem dX12_feed_1 : decode cX12_feed 1 = .ok (.getfield 253, 3) := by decide +kernel
theorem dX12_feed_4 : decode cX12_feed 4 = .ok (.bipush 20, 2) := by decide +kernel
theorem dX12_feed_6 : decode cX12_feed 6 = .ok (.iadd, 1) := by decide +kernel
theorem dX12_feed_7 : decode cX12_feed 7 = .ok (.sipush 800, 3) := by decide +kernel
theorem dX12_feed_10 : decode cX12_feed 10 = .ok (.if_icmp .le 6, 3) := by decide +kernel
theorem dX12_feed_13 : decode cX12_feed 13 = .ok (.bipush (-3), 2) := by decide +kernel
theorem dX12_feed_15 : decode cX12_feed 15 = .ok (.ireturn, 1) := by decide +kernel
theorem dX12_feed_16 : decode cX12_feed 16 = .ok (.aload_n 0, 1) := by decide +kernel
theorem dX12_feed_17 : decode cX12_feed 17 = .ok (.iload_n 1, 1) := by decide +kernel
theorem dX12_feed_18 : decode cX12_feed 18 = .ok (.invokevirtual 256, 3) := by decide +kernel
theorem dX12_feed_21 : decode cX12_feed 21 = .ok (.aload_n 0, 1) := by decide +kernel
theorem dX12_feed_22 : decode cX12_feed 22 = .ok (.iload_n 2, 1) := by decide +kernel
theorem dX12_feed_23 : decode cX12_feed 23 = .ok (.invokevirtual 256, 3) := by decide +kernel
theorem dX12_feed_26 : decode cX12_feed 26 = .ok (.aload_n 0, 1) := by decide +kernel
theorem dX12_feed_27 : decode cX12_feed 27 = .ok (.iload_n 3, 1) := by decide +kernel
theorem dX12_feed_28 : decode cX12_feed 28 = .ok (.invokevirtual 256, 3) := by decide +kernel
theorem dX12_feed_31 : decode cX12_feed 31 = .ok (.aload_n 0, 1) := by decide +kernel
theorem dX12_feed_32 : decode cX12_feed 32 = .ok (.iload 4, 2) := by decide +kernel
theorem dX12_feed_34 : decode cX12_feed 34 = .ok (.invokevirtual 256, 3) := by decide +kernel
theorem dX12_feed_37 : decode cX12_feed 37 = .ok (.aload_n 0, 1) := by decide +kernel
theorem dX12_feed_38 : decode cX12_feed 38 = .ok (.iload 5, 2) := by decide +kernel
theorem dX12_feed_40 : decode cX12_feed 40 = .ok (.invokevirtual 256, 3) := by decide +kernel
theorem dX12_feed_43 : decode cX12_feed 43 = .ok (.aload_n 0, 1) := by decide +kernel
theorem dX12_feed_44 : decode cX12_feed 44 = .ok (.getfield 253, 3) := by decide +kernel
theorem dX12_feed_47 : decode cX12_feed 47 = .ok (.ireturn, 1) := by decide +kernel
theorem dX12_lay_0 : decode cX12_lay 0 = .ok (.bipush 24, 2) := by decide +kernel
theorem dX12_lay_2 : decode cX12_lay 2 = .ok (.istore_n 2, 1) := by decide +kernel
theorem dX12_lay_3 : decode cX12_lay 3 = .ok (.iload_n 2, 1) := by decide +kernel
theorem dX12_lay_4 : decode cX12_lay 4 = .ok (.ifCond .lt 32, 3) := by decide +kernel
theorem dX12_lay_7 : decode cX12_lay 7 = .ok (.aload_n 0, 1) := by decide +kernel
theorem dX12_lay_8 : decode cX12_lay 8 = .ok (.getfield 26, 3) := by decide +kernel
theorem dX12_lay_11 : decode cX12_lay 11 = .ok (.aload_n 0, 1) := by decide +kernel
theorem dX12_lay_12 : decode cX12_lay 12 = .ok (.getfield 253, 3) := by decide +kernel
theorem dX12_lay_15 : decode cX12_lay 15 = .ok (.iload_n 1, 1) := by decide +kernel
theorem dX12_lay_16 : decode cX12_lay 16 = .ok (.iload_n 2, 1) := by decide +kernel
theorem dX12_lay_17 : decode cX12_lay 17 = .ok (.ishr, 1) := by decide +kernel
theorem dX12_lay_18 : decode cX12_lay 18 = .ok (.i2b, 1) := by decide +kernel
theorem dX12_lay_19 : decode cX12_lay 19 = .ok (.bastore, 1) := by decide +kernel
theorem dX12_lay_20 : decode cX12_lay 20 = .ok (.aload_n 0, 1) := by decide +kernel
theorem dX12_lay_21 : decode cX12_lay 21 = .ok (.dup, 1) := by decide +kernel
theorem dX12_lay_22 : decode cX12_lay 22 = .ok (.getfield 253, 3) := by decide +kernel
theorem dX12_lay_25 : decode cX12_lay 25 = .ok (.iconst 1, 1) := by decide +kernel
theorem dX12_lay_26 : decode cX12_lay 26 = .ok (.iadd, 1) := by decide +kernel
theorem dX12_lay_27 : decode cX12_lay 27 = .ok (.putfield 253, 3) := by decide +kernel
theorem dX12_lay_30 : decode cX12_lay 30 = .ok (.iinc 2 (-8), 3) := by decide +kernel
theorem dX12_lay_33 : decode cX12_lay 33 = .ok (.goto (-30), 3) := by decide +kernel
theorem dX12_lay_36 : decode cX12_lay 36 = .ok (.return_, 1) := by decide +kernel
theorem dX12_end_0 : decode cX12_end 0 = .ok (.iload_n 1, 1) := by decide +kernel
theorem dX12_end_1 : decode cX12_end 1 = .ok (.i2l, 1) := by decide +kernel
theorem dX12_end_2 : decode cX12_end 2 = .ok (.lconst 0, 1) := by decide +kernel
theorem dX12_end_3 : decode cX12_end 3 = .ok (.aload_n 0, 1) := by decide +kernel
theorem dX12_end_4 : decode cX12_end 4 = .ok (.getfield 253, 3) := by decide +kernel
theorem dX12_end_7 : decode cX12_end 7 = .ok (.i2l, 1) := by decide +kernel
theorem dX12_end_8 : decode cX12_end 8 = .ok (.invokestatic 5, 3) := by decide +kernel
theorem dX12_end_11 : decode cX12_end 11 = .ok (.ifCond .ne 5, 3) := by decide +kernel
theorem dX12_end_14 : decode cX12_end 14 = .ok (.iconst (-1), 1) := by decide +kernel
theorem dX12_end_15 : decode cX12_end 15 = .ok (.ireturn, 1) := by decide +kernel
theorem dX12_end_16 : decode cX12_end 16 = .ok (.aload_n 0, 1) := by decide +kernel
theorem dX12_end_17 : decode cX12_end 17 = .ok (.iload_n 1, 1) := by decide +kernel
theorem dX12_end_18 : decode cX12_end 18 = .ok (.putfield 253, 3) := by decide +kernel
theorem dX12_end_21 : decode cX12_end 21 = .ok (.iload_n 1, 1) := by decide +kernel
theorem dX12_end_22 : decode cX12_end 22 = .ok (.ireturn, 1) := by decide +kernel
theorem dX12_act_0 : decode cX12_act 0 = .ok (.aload_n 0, 1) := by decide +kernel
theorem dX12_act_1 : decode cX12_act 1 = .ok (.aload_n 0, 1) := by decide +kernel
theorem dX12_act_2 : decode cX12_act 2 = .ok (.getfield 253, 3) := by decide +kernel
theorem dX12_act_5 : decode cX12_act 5 = .ok (.putfield 23, 3) := by decide +kernel
theorem dX12_act_8 : decode cX12_act 8 = .ok (.aload_n 0, 1) := by decide +kernel
theorem dX12_act_9 : decode cX12_act 9 = .ok (.iconst 0, 1) := by decide +kernel
theorem dX12_act_10 : decode cX12_act 10 = .ok (.putfield 253, 3) := by decide +kernel
theorem dX12_act_13 : decode cX12_act 13 = .ok (.aload_n 0, 1) := by decide +kernel
theorem dX12_act_14 : decode cX12_act 14 = .ok (.iconst 0, 1) := by decide +kernel
theorem dX12_act_15 : decode cX12_act 15 = .ok (.putfield 30, 3) := by decide +kernel
theorem dX12_act_18 : decode cX12_act 18 = .ok (.iload_n 1, 1) := by decide +kernel
theorem dX12_act_19 : decode cX12_act 19 = .ok (.invokestatic 259, 3) := by decide +kernel
theorem dX12_act_22 : decode cX12_act 22 = .ok (.ifCond .eq 25, 3) := by decide +kernel
theorem dX12_act_25 : decode cX12_act 25 = .ok (.aload_n 0, 1) := by decide +kernel
theorem dX12_act_26 : decode cX12_act 26 = .ok (.getfield 118, 3) := by decide +kernel
theorem dX12_act_29 : decode cX12_act 29 = .ok (.ifCond .le 21, 3) := by decide +kernel
theorem dX12_act_32 : decode cX12_act 32 = .ok (.iload_n 1, 1) := by decide +kernel
theorem dX12_act_33 : decode cX12_act 33 = .ok (.aload_n 0, 1) := by decide +kernel
theorem dX12_act_34 : decode cX12_act 34 = .ok (.getfield 168, 3) := by decide +kernel
theorem dX12_act_37 : decode cX12_act 37 = .ok (.aload_n 0, 1) := by decide +kernel
theorem dX12_act_38 : decode cX12_act 38 = .ok (.getfield 118, 3) := by decide +kernel
theorem dX12_act_41 : decode cX12_act 41 = .ok (.iconst 1, 1) := by decide +kernel
theorem dX12_act_42 : decode cX12_act 42 = .ok (.isub, 1) := by decide +kernel
theorem dX12_act_43 : decode cX12_act 43 = .ok (.iaload, 1) := by decide +kernel
theorem dX12_act_44 : decode cX12_act 44 = .ok (.if_icmp .ge 6, 3) := by decide +kernel
theorem dX12_act_47 : decode cX12_act 47 = .ok (.bipush (-2), 2) := by decide +kernel
theorem dX12_act_49 : decode cX12_act 49 = .ok (.ireturn, 1) := by decide +kernel
theorem dX12_act_50 : decode cX12_act 50 = .ok (.aload_n 0, 1) := by decide +kernel
theorem dX12_act_51 : decode cX12_act 51 = .ok (.iconst 0, 1) := by decide +kernel
theorem dX12_act_52 : decode cX12_act 52 = .ok (.putfield 9, 3) := by decide +kernel
theorem dX12_act_55 : decode cX12_act 55 = .ok (.aload_n 0, 1) := by decide +kernel
theorem dX12_act_56 : decode cX12_act 56 = .ok (.iconst (-1), 1) := by decide +kernel
theorem dX12_act_57 : decode cX12_act 57 = .ok (.putfield 16, 3) := by decide +kernel
theorem dX12_act_60 : decode cX12_act 60 = .ok (.aload_n 0, 1) := by decide +kernel
theorem dX12_act_61 : decode cX12_act 61 = .ok (.invokevirtual 68, 3) := by decide +kernel
theorem dX12_act_64 : decode cX12_act 64 = .ok (.aload_n 0, 1) := by decide +kernel
theorem dX12_act_65 : decode cX12_act 65 = .ok (.aload_n 0, 1) := by decide +kernel
theorem dX12_act_66 : decode cX12_act 66 = .ok (.getfield 118, 3) := by decide +kernel
theorem dX12_act_69 : decode cX12_act 69 = .ok (.invokevirtual 262, 3) := by decide +kernel
theorem dX12_act_72 : decode cX12_act 72 = .ok (.goto 6, 3) := by decide +kernel
theorem dX12_act_75 : decode cX12_act 75 = .ok (.astore_n 2, 1) := by decide +kernel
theorem dX12_act_76 : decode cX12_act 76 = .ok (.iconst (-1), 1) := by decide +kernel
theorem dX12_act_77 : decode cX12_act 77 = .ok (.ireturn, 1) := by decide +kernel
theorem dX12_act_78 : decode cX12_act 78 = .ok (.aload_n 0, 1) := by decide +kernel
theorem dX12_act_79 : decode cX12_act 79 = .ok (.getfield 118, 3) := by decide +kernel
theorem dX12_act_82 : decode cX12_act 82 = .ok (.bipush 12, 2) := by decide +kernel
theorem dX12_act_84 : decode cX12_act 84 = .ok (.if_icmp .ne 6, 3) := by decide +kernel
theorem dX12_act_87 : decode cX12_act 87 = .ok (.bipush (-3), 2) := by decide +kernel
theorem dX12_act_89 : decode cX12_act 89 = .ok (.ireturn, 1) := by decide +kernel
theorem dX12_act_90 : decode cX12_act 90 = .ok (.aload_n 0, 1) := by decide +kernel
theorem dX12_act_91 : decode cX12_act 91 = .ok (.getfield 168, 3) := by decide +kernel
theorem dX12_act_94 : decode cX12_act 94 = .ok (.aload_n 0, 1) := by decide +kernel
theorem dX12_act_95 : decode cX12_act 95 = .ok (.getfield 118, 3) := by decide +kernel
theorem dX12_act_98 : decode cX12_act 98 = .ok (.iload_n 1, 1) := by decide +kernel
theorem dX12_act_99 : decode cX12_act 99 = .ok (.iastore, 1) := by decide +kernel
theorem dX12_act_100 : decode cX12_act 100 = .ok (.aload_n 0, 1) := by decide +kernel
theorem dX12_act_101 : decode cX12_act 101 = .ok (.dup, 1) := by decide +kernel
theorem dX12_act_102 : decode cX12_act 102 = .ok (.getfield 118, 3) := by decide +kernel
theorem dX12_act_105 : decode cX12_act 105 = .ok (.iconst 1, 1) := by decide +kernel
theorem dX12_act_106 : decode cX12_act 106 = .ok (.iadd, 1) := by decide +kernel
theorem dX12_act_107 : decode cX12_act 107 = .ok (.putfield 118, 3) := by decide +kernel
theorem dX12_act_110 : decode cX12_act 110 = .ok (.aload_n 0, 1) := by decide +kernel
theorem dX12_act_111 : decode cX12_act 111 = .ok (.getfield 118, 3) := by decide +kernel
theorem dX12_act_114 : decode cX12_act 114 = .ok (.iconst 1, 1) := by decide +kernel
theorem dX12_act_115 : decode cX12_act 115 = .ok (.isub, 1) := by decide +kernel
theorem dX12_act_116 : decode cX12_act 116 = .ok (.ireturn, 1) := by decide +kernel
theorem dX12_fault_0 : decode cX12_fault 0 = .ok (.iload_n 1, 1) := by decide +kernel
theorem dX12_fault_1 : decode cX12_fault 1 = .ok (.ifCond .ne 10, 3) := by decide +kernel
theorem dX12_fault_4 : decode cX12_fault 4 = .ok (.aload_n 0, 1) := by decide +kernel
theorem dX12_fault_5 : decode cX12_fault 5 = .ok (.getfield 9, 3) := by decide +kernel
theorem dX12_fault_8 : decode cX12_fault 8 = .ok (.goto 16, 3) := by decide +kernel
theorem dX12_fault_11 : decode cX12_fault 11 = .ok (.iload_n 1, 1) := by decide +kernel
theorem dX12_fault_12 : decode cX12_fault 12 = .ok (.iconst 1, 1) := by decide +kernel
theorem dX12_fault_13 : decode cX12_fault 13 = .ok (.if_icmp .ne 10, 3) := by decide +kernel
theorem dX12_fault_16 : decode cX12_fault 16 = .ok (.aload_n 0, 1) := by decide +kernel
theorem dX12_fault_17 : decode cX12_fault 17 = .ok (.getfield 16, 3) := by decide +kernel
theorem dX12_fault_20 : decode cX12_fault 20 = .ok (.goto 4, 3) := by decide +kernel
theorem dX12_fault_23 : decode cX12_fault 23 = .ok (.iconst (-1), 1) := by decide +kernel
theorem dX12_fault_24 : decode cX12_fault 24 = .ok (.ireturn, 1) := by decide +kernel
theorem dX12_isAct_0 : decode cX12_isAct 0 = .ok (.iload_n 1, 1) := by decide +kernel
theorem dX12_isAct_1 : decode cX12_isAct 1 = .ok (.i2l, 1) := by decide +kernel
theorem dX12_isAct_2 : decode cX12_isAct 2 = .ok (.lconst 0, 1) := by decide +kernel
theorem dX12_isAct_3 : decode cX12_isAct 3 = .ok (.aload_n 0, 1) := by decide +kernel
theorem dX12_isAct_4 : decode cX12_isAct 4 = .ok (.getfield 118, 3) := by decide +kernel
theorem dX12_isAct_7 : decode cX12_isAct 7 = .ok (.i2l, 1) := by decide +kernel
theorem dX12_isAct_8 : decode cX12_isAct 8 = .ok (.lconst 1, 1) := by decide +kernel
theorem dX12_isAct_9 : decode cX12_isAct 9 = .ok (.lsub, 1) := by decide +kernel
theorem dX12_isAct_10 : decode cX12_isAct 10 = .ok (.invokestatic 5, 3) := by decide +kernel
theorem dX12_isAct_13 : decode cX12_isAct 13 = .ok (.ireturn, 1) := by decide +kernel
theorem dX12_told_0 : decode cX12_told 0 = .ok (.aload_n 0, 1) := by decide +kernel
theorem dX12_told_1 : decode cX12_told 1 = .ok (.iload_n 1, 1) := by decide +kernel
theorem dX12_told_2 : decode cX12_told 2 = .ok (.invokevirtual 265, 3) := by decide +kernel
theorem dX12_told_5 : decode cX12_told 5 = .ok (.ifCond .ne 6, 3) := by decide +kernel
theorem dX12_told_8 : decode cX12_told 8 = .ok (.bipush (-9), 2) := by decide +kernel
theorem dX12_told_10 : decode cX12_told 10 = .ok (.ireturn, 1) := by decide +kernel
theorem dX12_told_11 : decode cX12_told 11 = .ok (.iload_n 2, 1) := by decide +kernel
theorem dX12_told_12 : decode cX12_told 12 = .ok (.tableswitch 71 0 4 #[36, 43, 50, 57, 64], 36) := by decide +kernel
theorem dX12_told_48 : decode cX12_told 48 = .ok (.aload_n 0, 1) := by decide +kernel
theorem dX12_told_49 : decode cX12_told 49 = .ok (.getfield 168, 3) := by decide +kernel
theorem dX12_told_52 : decode cX12_told 52 = .ok (.iload_n 1, 1) := by decide +kernel
theorem dX12_told_53 : decode cX12_told 53 = .ok (.iaload, 1) := by decide +kernel
theorem dX12_told_54 : decode cX12_told 54 = .ok (.ireturn, 1) := by decide +kernel
theorem dX12_told_55 : decode cX12_told 55 = .ok (.aload_n 0, 1) := by decide +kernel
theorem dX12_told_56 : decode cX12_told 56 = .ok (.getfield 88, 3) := by decide +kernel
theorem dX12_told_59 : decode cX12_told 59 = .ok (.iload_n 1, 1) := by decide +kernel
theorem dX12_told_60 : decode cX12_told 60 = .ok (.iaload, 1) := by decide +kernel
theorem dX12_told_61 : decode cX12_told 61 = .ok (.ireturn, 1) := by decide +kernel
theorem dX12_told_62 : decode cX12_told 62 = .ok (.aload_n 0, 1) := by decide +kernel
theorem dX12_told_63 : decode cX12_told 63 = .ok (.getfield 92, 3) := by decide +kernel
theorem dX12_told_66 : decode cX12_told 66 = .ok (.iload_n 1, 1) := by decide +kernel
theorem dX12_told_67 : decode cX12_told 67 = .ok (.iaload, 1) := by decide +kernel
theorem dX12_told_68 : decode cX12_told 68 = .ok (.ireturn, 1) := by decide +kernel
theorem dX12_told_69 : decode cX12_told 69 = .ok (.aload_n 0, 1) := by decide +kernel
theorem dX12_told_70 : decode cX12_told 70 = .ok (.getfield 95, 3) := by decide +kernel
theorem dX12_told_73 : decode cX12_told 73 = .ok (.iload_n 1, 1) := by decide +kernel
theorem dX12_told_74 : decode cX12_told 74 = .ok (.iaload, 1) := by decide +kernel
theorem dX12_told_75 : decode cX12_told 75 = .ok (.ireturn, 1) := by decide +kernel
theorem dX12_told_76 : decode cX12_told 76 = .ok (.aload_n 0, 1) := by decide +kernel
theorem dX12_told_77 : decode cX12_told 77 = .ok (.getfield 98, 3) := by decide +kernel
theorem dX12_told_80 : decode cX12_told 80 = .ok (.iload_n 1, 1) := by decide +kernel
theorem dX12_told_81 : decode cX12_told 81 = .ok (.iaload, 1) := by decide +kernel
theorem dX12_told_82 : decode cX12_told 82 = .ok (.ireturn, 1) := by decide +kernel
theorem dX12_told_83 : decode cX12_told 83 = .ok (.bipush (-9), 2) := by decide +kernel
theorem dX12_told_85 : decode cX12_told 85 = .ok (.ireturn, 1) := by decide +kernel
theorem dX12_rule_0 : decode cX12_rule 0 = .ok (.aload_n 0, 1) := by decide +kernel
theorem dX12_rule_1 : decode cX12_rule 1 = .ok (.iload_n 1, 1) := by decide +kernel
theorem dX12_rule_2 : decode cX12_rule 2 = .ok (.invokevirtual 265, 3) := by decide +kernel
theorem dX12_rule_5 : decode cX12_rule 5 = .ok (.ifCond .eq 21, 3) := by decide +kernel
theorem dX12_rule_8 : decode cX12_rule 8 = .ok (.iload_n 2, 1) := by decide +kernel
theorem dX12_rule_9 : decode cX12_rule 9 = .ok (.i2l, 1) := by decide +kernel
theorem dX12_rule_10 : decode cX12_rule 10 = .ok (.lconst 0, 1) := by decide +kernel
theorem dX12_rule_11 : decode cX12_rule 11 = .ok (.aload_n 0, 1) := by decide +kernel
theorem dX12_rule_12 : decode cX12_rule 12 = .ok (.getfield 88, 3) := by decide +kernel
theorem dX12_rule_15 : decode cX12_rule 15 = .ok (.iload_n 1, 1) := by decide +kernel
theorem dX12_rule_16 : decode cX12_rule 16 = .ok (.iaload, 1) := by decide +kernel
theorem dX12_rule_17 : decode cX12_rule 17 = .ok (.i2l, 1) := by decide +kernel
theorem dX12_rule_18 : decode cX12_rule 18 = .ok (.lconst 1, 1) := by decide +kernel
theorem dX12_rule_19 : decode cX12_rule 19 = .ok (.lsub, 1) := by decide +kernel
theorem dX12_rule_20 : decode cX12_rule 20 = .ok (.invokestatic 5, 3) := by decide +kernel
theorem dX12_rule_23 : decode cX12_rule 23 = .ok (.ifCond .ne 6, 3) := by decide +kernel
theorem dX12_rule_26 : decode cX12_rule 26 = .ok (.bipush (-9), 2) := by decide +kernel
theorem dX12_rule_28 : decode cX12_rule 28 = .ok (.ireturn, 1) := by decide +kernel
theorem dX12_rule_29 : decode cX12_rule 29 = .ok (.bipush 12, 2) := by decide +kernel
theorem dX12_rule_31 : decode cX12_rule 31 = .ok (.iload_n 1, 1) := by decide +kernel
theorem dX12_rule_32 : decode cX12_rule 32 = .ok (.imul, 1) := by decide +kernel
theorem dX12_rule_33 : decode cX12_rule 33 = .ok (.iload_n 2, 1) := by decide +kernel
theorem dX12_rule_34 : decode cX12_rule 34 = .ok (.iadd, 1) := by decide +kernel
theorem dX12_rule_35 : decode cX12_rule 35 = .ok (.istore 4, 2) := by decide +kernel
theorem dX12_rule_37 : decode cX12_rule 37 = .ok (.iload_n 3, 1) := by decide +kernel
theorem dX12_rule_38 : decode cX12_rule 38 = .ok (.tableswitch 86 0 5 #[38, 46, 54, 62, 70, 78], 38) := by decide +kernel
theorem dX12_rule_76 : decode cX12_rule 76 = .ok (.aload_n 0, 1) := by decide +kernel
theorem dX12_rule_77 : decode cX12_rule 77 = .ok (.getfield 127, 3) := by decide +kernel
theorem dX12_rule_80 : decode cX12_rule 80 = .ok (.iload 4, 2) := by decide +kernel
theorem dX12_rule_82 : decode cX12_rule 82 = .ok (.iaload, 1) := by decide +kernel
theorem dX12_rule_83 : decode cX12_rule 83 = .ok (.ireturn, 1) := by decide +kernel
theorem dX12_rule_84 : decode cX12_rule 84 = .ok (.aload_n 0, 1) := by decide +kernel
theorem dX12_rule_85 : decode cX12_rule 85 = .ok (.getfield 130, 3) := by decide +kernel
theorem dX12_rule_88 : decode cX12_rule 88 = .ok (.iload 4, 2) := by decide +kernel
theorem dX12_rule_90 : decode cX12_rule 90 = .ok (.iaload, 1) := by decide +kernel
theorem dX12_rule_91 : decode cX12_rule 91 = .ok (.ireturn, 1) := by decide +kernel
theorem dX12_rule_92 : decode cX12_rule 92 = .ok (.aload_n 0, 1) := by decide +kernel
theorem dX12_rule_93 : decode cX12_rule 93 = .ok (.getfield 132, 3) := by decide +kernel
theorem dX12_rule_96 : decode cX12_rule 96 = .ok (.iload 4, 2) := by decide +kernel
theorem dX12_rule_98 : decode cX12_rule 98 = .ok (.iaload, 1) := by decide +kernel
theorem dX12_rule_99 : decode cX12_rule 99 = .ok (.ireturn, 1) := by decide +kernel
theorem dX12_rule_100 : decode cX12_rule 100 = .ok (.aload_n 0, 1) := by decide +kernel
theorem dX12_rule_101 : decode cX12_rule 101 = .ok (.getfield 135, 3) := by decide +kernel
theorem dX12_rule_104 : decode cX12_rule 104 = .ok (.iload 4, 2) := by decide +kernel
theorem dX12_rule_106 : decode cX12_rule 106 = .ok (.iaload, 1) := by decide +kernel
theorem dX12_rule_107 : decode cX12_rule 107 = .ok (.ireturn, 1) := by decide +kernel
theorem dX12_rule_108 : decode cX12_rule 108 = .ok (.aload_n 0, 1) := by decide +kernel
theorem dX12_rule_109 : decode cX12_rule 109 = .ok (.getfield 148, 3) := by decide +kernel
theorem dX12_rule_112 : decode cX12_rule 112 = .ok (.iload 4, 2) := by decide +kernel
theorem dX12_rule_114 : decode cX12_rule 114 = .ok (.iaload, 1) := by decide +kernel
theorem dX12_rule_115 : decode cX12_rule 115 = .ok (.ireturn, 1) := by decide +kernel
theorem dX12_rule_116 : decode cX12_rule 116 = .ok (.aload_n 0, 1) := by decide +kernel
theorem dX12_rule_117 : decode cX12_rule 117 = .ok (.getfield 161, 3) := by decide +kernel
theorem dX12_rule_120 : decode cX12_rule 120 = .ok (.iload 4, 2) := by decide +kernel
theorem dX12_rule_122 : decode cX12_rule 122 = .ok (.iaload, 1) := by decide +kernel
theorem dX12_rule_123 : decode cX12_rule 123 = .ok (.ireturn, 1) := by decide +kernel
theorem dX12_rule_124 : decode cX12_rule 124 = .ok (.bipush (-9), 2) := by decide +kernel
theorem dX12_rule_126 : decode cX12_rule 126 = .ok (.ireturn, 1) := by decide +kernel
theorem dX12_isInForce_0 : decode cX12_isInForce 0 = .ok (.aload_n 0, 1) := by decide +kernel
theorem dX12_isInForce_1 : decode cX12_isInForce 1 = .ok (.getfield 168, 3) := by decide +kernel
theorem dX12_isInForce_4 : decode cX12_isInForce 4 = .ok (.iload_n 1, 1) := by decide +kernel
theorem dX12_isInForce_5 : decode cX12_isInForce 5 = .ok (.iaload, 1) := by decide +kernel
theorem dX12_isInForce_6 : decode cX12_isInForce 6 = .ok (.iload_n 2, 1) := by decide +kernel
theorem dX12_isInForce_7 : decode cX12_isInForce 7 = .ok (.if_icmp .le 5, 3) := by decide +kernel
theorem dX12_isInForce_10 : decode cX12_isInForce 10 = .ok (.iconst 0, 1) := by decide +kernel
theorem dX12_isInForce_11 : decode cX12_isInForce 11 = .ok (.ireturn, 1) := by decide +kernel
theorem dX12_isInForce_12 : decode cX12_isInForce 12 = .ok (.iconst 0, 1) := by decide +kernel
theorem dX12_isInForce_13 : decode cX12_isInForce 13 = .ok (.istore_n 3, 1) := by decide +kernel
theorem dX12_isInForce_14 : decode cX12_isInForce 14 = .ok (.iload_n 3, 1) := by decide +kernel
theorem dX12_isInForce_15 : decode cX12_isInForce 15 = .ok (.aload_n 0, 1) := by decide +kernel
theorem dX12_isInForce_16 : decode cX12_isInForce 16 = .ok (.getfield 118, 3) := by decide +kernel
theorem dX12_isInForce_19 : decode cX12_isInForce 19 = .ok (.if_icmp .ge 35, 3) := by decide +kernel
theorem dX12_isInForce_22 : decode cX12_isInForce 22 = .ok (.aload_n 0, 1) := by decide +kernel
theorem dX12_isInForce_23 : decode cX12_isInForce 23 = .ok (.getfield 168, 3) := by decide +kernel
theorem dX12_isInForce_26 : decode cX12_isInForce 26 = .ok (.iload_n 3, 1) := by decide +kernel
theorem dX12_isInForce_27 : decode cX12_isInForce 27 = .ok (.iaload, 1) := by decide +kernel
theorem dX12_isInForce_28 : decode cX12_isInForce 28 = .ok (.iload_n 2, 1) := by decide +kernel
theorem dX12_isInForce_29 : decode cX12_isInForce 29 = .ok (.if_icmp .gt 19, 3) := by decide +kernel
theorem dX12_isInForce_32 : decode cX12_isInForce 32 = .ok (.aload_n 0, 1) := by decide +kernel
theorem dX12_isInForce_33 : decode cX12_isInForce 33 = .ok (.getfield 98, 3) := by decide +kernel
theorem dX12_isInForce_36 : decode cX12_isInForce 36 = .ok (.iload_n 3, 1) := by decide +kernel
theorem dX12_isInForce_37 : decode cX12_isInForce 37 = .ok (.iaload, 1) := by decide +kernel
theorem dX12_isInForce_38 : decode cX12_isInForce 38 = .ok (.iload_n 1, 1) := by decide +kernel
theorem dX12_isInForce_39 : decode cX12_isInForce 39 = .ok (.ishr, 1) := by decide +kernel
theorem dX12_isInForce_40 : decode cX12_isInForce 40 = .ok (.iconst 1, 1) := by decide +kernel
theorem dX12_isInForce_41 : decode cX12_isInForce 41 = .ok (.iand, 1) := by decide +kernel
theorem dX12_isInForce_42 : decode cX12_isInForce 42 = .ok (.iconst 1, 1) := by decide +kernel
theorem dX12_isInForce_43 : decode cX12_isInForce 43 = .ok (.if_icmp .ne 5, 3) := by decide +kernel
theorem dX12_isInForce_46 : decode cX12_isInForce 46 = .ok (.iconst 0, 1) := by decide +kernel
theorem dX12_isInForce_47 : decode cX12_isInForce 47 = .ok (.ireturn, 1) := by decide +kernel
theorem dX12_isInForce_48 : decode cX12_isInForce 48 = .ok (.iinc 3 1, 3) := by decide +kernel
theorem dX12_isInForce_51 : decode cX12_isInForce 51 = .ok (.goto (-37), 3) := by decide +kernel
theorem dX12_isInForce_54 : decode cX12_isInForce 54 = .ok (.iconst 1, 1) := by decide +kernel
theorem dX12_isInForce_55 : decode cX12_isInForce 55 = .ok (.ireturn, 1) := by decide +kernel
theorem dX12_force_0 : decode cX12_force 0 = .ok (.iload_n 1, 1) := by decide +kernel
theorem dX12_force_1 : decode cX12_force 1 = .ok (.invokestatic 259, 3) := by decide +kernel
theorem dX12_force_4 : decode cX12_force 4 = .ok (.ifCond .ne 6, 3) := by decide +kernel
theorem dX12_force_7 : decode cX12_force 7 = .ok (.bipush (-2), 2) := by decide +kernel
theorem dX12_force_9 : decode cX12_force 9 = .ok (.ireturn, 1) := by decide +kernel
theorem dX12_force_10 : decode cX12_force 10 = .ok (.iconst 0, 1) := by decide +kernel
theorem dX12_force_11 : decode cX12_force 11 = .ok (.istore_n 2, 1) := by decide +kernel
theorem dX12_force_12 : decode cX12_force 12 = .ok (.iconst 0, 1) := by decide +kernel
theorem dX12_force_13 : decode cX12_force 13 = .ok (.istore_n 3, 1) := by decide +kernel
theorem dX12_force_14 : decode cX12_force 14 = .ok (.iload_n 3, 1) := by decide +kernel
theorem dX12_force_15 : decode cX12_force 15 = .ok (.aload_n 0, 1) := by decide +kernel
theorem dX12_force_16 : decode cX12_force 16 = .ok (.getfield 118, 3) := by decide +kernel
theorem dX12_force_19 : decode cX12_force 19 = .ok (.if_icmp .ge 28, 3) := by decide +kernel
theorem dX12_force_22 : decode cX12_force 22 = .ok (.iload_n 2, 1) := by decide +kernel
theorem dX12_force_23 : decode cX12_force 23 = .ok (.aload_n 0, 1) := by decide +kernel
theorem dX12_force_24 : decode cX12_force 24 = .ok (.iload_n 3, 1) := by decide +kernel
theorem dX12_force_25 : decode cX12_force 25 = .ok (.iload_n 1, 1) := by decide +kernel
theorem dX12_force_26 : decode cX12_force 26 = .ok (.invokevirtual 268, 3) := by decide +kernel
theorem dX12_force_29 : decode cX12_force 29 = .ok (.ifCond .eq 9, 3) := by decide +kernel
theorem dX12_force_32 : decode cX12_force 32 = .ok (.iconst 1, 1) := by decide +kernel
theorem dX12_force_33 : decode cX12_force 33 = .ok (.iload_n 3, 1) := by decide +kernel
end
section
theorem dX12_force_34 : decode cX12_force 34 = .ok (.ishl, 1) := by decide +kernel
theorem dX12_force_35 : decode cX12_force 35 = .ok (.goto 4, 3) := by decide +kernel
theorem dX12_force_38 : decode cX12_force 38 = .ok (.iconst 0, 1) := by decide +kernel
theorem dX12_force_39 : decode cX12_force 39 = .ok (.ior, 1) := by decide +kernel
theorem dX12_force_40 : decode cX12_force 40 = .ok (.istore_n 2, 1) := by decide +kernel
theorem dX12_force_41 : decode cX12_force 41 = .ok (.iinc 3 1, 3) := by decide +kernel
theorem dX12_force_44 : decode cX12_force 44 = .ok (.goto (-30), 3) := by decide +kernel
theorem dX12_force_47 : decode cX12_force 47 = .ok (.iload_n 2, 1) := by decide +kernel
theorem dX12_force_48 : decode cX12_force 48 = .ok (.ireturn, 1) := by decide +kernel
theorem dX12_isPerson_0 : decode cX12_isPerson 0 = .ok (.iload_n 0, 1) := by decide +kernel
theorem dX12_isPerson_1 : decode cX12_isPerson 1 = .ok (.i2l, 1) := by decide +kernel
theorem dX12_isPerson_2 : decode cX12_isPerson 2 = .ok (.lconst 0, 1) := by decide +kernel
theorem dX12_isPerson_3 : decode cX12_isPerson 3 = .ok (.ldc2_w 272, 3) := by decide +kernel
theorem dX12_isPerson_6 : decode cX12_isPerson 6 = .ok (.invokestatic 5, 3) := by decide +kernel
theorem dX12_isPerson_9 : decode cX12_isPerson 9 = .ok (.ireturn, 1) := by decide +kernel
theorem dX12_areDays_0 : decode cX12_areDays 0 = .ok (.iload_n 0, 1) := by decide +kernel
theorem dX12_areDays_1 : decode cX12_areDays 1 = .ok (.invokestatic 259, 3) := by decide +kernel
theorem dX12_areDays_4 : decode cX12_areDays 4 = .ok (.ifCond .eq 20, 3) := by decide +kernel
theorem dX12_areDays_7 : decode cX12_areDays 7 = .ok (.iload_n 1, 1) := by decide +kernel
theorem dX12_areDays_8 : decode cX12_areDays 8 = .ok (.i2l, 1) := by decide +kernel
theorem dX12_areDays_9 : decode cX12_areDays 9 = .ok (.iload_n 0, 1) := by decide +kernel
theorem dX12_areDays_10 : decode cX12_areDays 10 = .ok (.i2l, 1) := by decide +kernel
theorem dX12_areDays_11 : decode cX12_areDays 11 = .ok (.ldc2_w 3, 3) := by decide +kernel
theorem dX12_areDays_14 : decode cX12_areDays 14 = .ok (.invokestatic 5, 3) := by decide +kernel
theorem dX12_areDays_17 : decode cX12_areDays 17 = .ok (.ifCond .eq 7, 3) := by decide +kernel
theorem dX12_areDays_20 : decode cX12_areDays 20 = .ok (.iconst 1, 1) := by decide +kernel
theorem dX12_areDays_21 : decode cX12_areDays 21 = .ok (.goto 4, 3) := by decide +kernel
theorem dX12_areDays_24 : decode cX12_areDays 24 = .ok (.iconst 0, 1) := by decide +kernel
theorem dX12_areDays_25 : decode cX12_areDays 25 = .ok (.ireturn, 1) := by decide +kernel
theorem dX12_rank_0 : decode cX12_rank 0 = .ok (.iload_n 1, 1) := by decide +kernel
theorem dX12_rank_1 : decode cX12_rank 1 = .ok (.invokestatic 274, 3) := by decide +kernel
theorem dX12_rank_4 : decode cX12_rank 4 = .ok (.ifCond .eq 22, 3) := by decide +kernel
theorem dX12_rank_7 : decode cX12_rank 7 = .ok (.iload_n 2, 1) := by decide +kernel
theorem dX12_rank_8 : decode cX12_rank 8 = .ok (.invokestatic 259, 3) := by decide +kernel
theorem dX12_rank_11 : decode cX12_rank 11 = .ok (.ifCond .eq 15, 3) := by decide +kernel
theorem dX12_rank_14 : decode cX12_rank 14 = .ok (.iload_n 3, 1) := by decide +kernel
theorem dX12_rank_15 : decode cX12_rank 15 = .ok (.i2l, 1) := by decide +kernel
theorem dX12_rank_16 : decode cX12_rank 16 = .ok (.lconst 0, 1) := by decide +kernel
theorem dX12_rank_17 : decode cX12_rank 17 = .ok (.ldc2_w 277, 3) := by decide +kernel
theorem dX12_rank_20 : decode cX12_rank 20 = .ok (.invokestatic 5, 3) := by decide +kernel
theorem dX12_rank_23 : decode cX12_rank 23 = .ok (.ifCond .ne 6, 3) := by decide +kernel
theorem dX12_rank_26 : decode cX12_rank 26 = .ok (.bipush (-2), 2) := by decide +kernel
theorem dX12_rank_28 : decode cX12_rank 28 = .ok (.ireturn, 1) := by decide +kernel
theorem dX12_rank_29 : decode cX12_rank 29 = .ok (.aload_n 0, 1) := by decide +kernel
theorem dX12_rank_30 : decode cX12_rank 30 = .ok (.getfield 174, 3) := by decide +kernel
theorem dX12_rank_33 : decode cX12_rank 33 = .ok (.iload_n 1, 1) := by decide +kernel
theorem dX12_rank_34 : decode cX12_rank 34 = .ok (.iaload, 1) := by decide +kernel
theorem dX12_rank_35 : decode cX12_rank 35 = .ok (.bipush 12, 2) := by decide +kernel
theorem dX12_rank_37 : decode cX12_rank 37 = .ok (.if_icmp .ne 6, 3) := by decide +kernel
theorem dX12_rank_40 : decode cX12_rank 40 = .ok (.bipush (-3), 2) := by decide +kernel
theorem dX12_rank_42 : decode cX12_rank 42 = .ok (.ireturn, 1) := by decide +kernel
theorem dX12_rank_43 : decode cX12_rank 43 = .ok (.aload_n 0, 1) := by decide +kernel
theorem dX12_rank_44 : decode cX12_rank 44 = .ok (.getfield 177, 3) := by decide +kernel
theorem dX12_rank_47 : decode cX12_rank 47 = .ok (.bipush 12, 2) := by decide +kernel
theorem dX12_rank_49 : decode cX12_rank 49 = .ok (.iload_n 1, 1) := by decide +kernel
theorem dX12_rank_50 : decode cX12_rank 50 = .ok (.imul, 1) := by decide +kernel
theorem dX12_rank_51 : decode cX12_rank 51 = .ok (.aload_n 0, 1) := by decide +kernel
theorem dX12_rank_52 : decode cX12_rank 52 = .ok (.getfield 174, 3) := by decide +kernel
theorem dX12_rank_55 : decode cX12_rank 55 = .ok (.iload_n 1, 1) := by decide +kernel
theorem dX12_rank_56 : decode cX12_rank 56 = .ok (.iaload, 1) := by decide +kernel
theorem dX12_rank_57 : decode cX12_rank 57 = .ok (.iadd, 1) := by decide +kernel
theorem dX12_rank_58 : decode cX12_rank 58 = .ok (.iload_n 2, 1) := by decide +kernel
theorem dX12_rank_59 : decode cX12_rank 59 = .ok (.iastore, 1) := by decide +kernel
theorem dX12_rank_60 : decode cX12_rank 60 = .ok (.aload_n 0, 1) := by decide +kernel
theorem dX12_rank_61 : decode cX12_rank 61 = .ok (.getfield 180, 3) := by decide +kernel
theorem dX12_rank_64 : decode cX12_rank 64 = .ok (.bipush 12, 2) := by decide +kernel
theorem dX12_rank_66 : decode cX12_rank 66 = .ok (.iload_n 1, 1) := by decide +kernel
theorem dX12_rank_67 : decode cX12_rank 67 = .ok (.imul, 1) := by decide +kernel
theorem dX12_rank_68 : decode cX12_rank 68 = .ok (.aload_n 0, 1) := by decide +kernel
theorem dX12_rank_69 : decode cX12_rank 69 = .ok (.getfield 174, 3) := by decide +kernel
theorem dX12_rank_72 : decode cX12_rank 72 = .ok (.iload_n 1, 1) := by decide +kernel
theorem dX12_rank_73 : decode cX12_rank 73 = .ok (.iaload, 1) := by decide +kernel
theorem dX12_rank_74 : decode cX12_rank 74 = .ok (.iadd, 1) := by decide +kernel
theorem dX12_rank_75 : decode cX12_rank 75 = .ok (.iload_n 3, 1) := by decide +kernel
theorem dX12_rank_76 : decode cX12_rank 76 = .ok (.iastore, 1) := by decide +kernel
theorem dX12_rank_77 : decode cX12_rank 77 = .ok (.aload_n 0, 1) := by decide +kernel
theorem dX12_rank_78 : decode cX12_rank 78 = .ok (.getfield 174, 3) := by decide +kernel
theorem dX12_rank_81 : decode cX12_rank 81 = .ok (.iload_n 1, 1) := by decide +kernel
theorem dX12_rank_82 : decode cX12_rank 82 = .ok (.dup2, 1) := by decide +kernel
theorem dX12_rank_83 : decode cX12_rank 83 = .ok (.iaload, 1) := by decide +kernel
theorem dX12_rank_84 : decode cX12_rank 84 = .ok (.iconst 1, 1) := by decide +kernel
theorem dX12_rank_85 : decode cX12_rank 85 = .ok (.iadd, 1) := by decide +kernel
theorem dX12_rank_86 : decode cX12_rank 86 = .ok (.iastore, 1) := by decide +kernel
theorem dX12_rank_87 : decode cX12_rank 87 = .ok (.aload_n 0, 1) := by decide +kernel
theorem dX12_rank_88 : decode cX12_rank 88 = .ok (.getfield 174, 3) := by decide +kernel
theorem dX12_rank_91 : decode cX12_rank 91 = .ok (.iload_n 1, 1) := by decide +kernel
theorem dX12_rank_92 : decode cX12_rank 92 = .ok (.iaload, 1) := by decide +kernel
theorem dX12_rank_93 : decode cX12_rank 93 = .ok (.ireturn, 1) := by decide +kernel
theorem dX12_feast_0 : decode cX12_feast 0 = .ok (.iload_n 1, 1) := by decide +kernel
theorem dX12_feast_1 : decode cX12_feast 1 = .ok (.iload_n 2, 1) := by decide +kernel
theorem dX12_feast_2 : decode cX12_feast 2 = .ok (.invokestatic 279, 3) := by decide +kernel
theorem dX12_feast_5 : decode cX12_feast 5 = .ok (.ifCond .ne 6, 3) := by decide +kernel
theorem dX12_feast_8 : decode cX12_feast 8 = .ok (.bipush (-2), 2) := by decide +kernel
theorem dX12_feast_10 : decode cX12_feast 10 = .ok (.ireturn, 1) := by decide +kernel
theorem dX12_feast_11 : decode cX12_feast 11 = .ok (.aload_n 0, 1) := by decide +kernel
theorem dX12_feast_12 : decode cX12_feast 12 = .ok (.getfield 282, 3) := by decide +kernel
theorem dX12_feast_15 : decode cX12_feast 15 = .ok (.bipush 20, 2) := by decide +kernel
theorem dX12_feast_17 : decode cX12_feast 17 = .ok (.if_icmp .ne 6, 3) := by decide +kernel
theorem dX12_feast_20 : decode cX12_feast 20 = .ok (.bipush (-3), 2) := by decide +kernel
theorem dX12_feast_22 : decode cX12_feast 22 = .ok (.ireturn, 1) := by decide +kernel
theorem dX12_feast_23 : decode cX12_feast 23 = .ok (.aload_n 0, 1) := by decide +kernel
theorem dX12_feast_24 : decode cX12_feast 24 = .ok (.getfield 192, 3) := by decide +kernel
theorem dX12_feast_27 : decode cX12_feast 27 = .ok (.aload_n 0, 1) := by decide +kernel
theorem dX12_feast_28 : decode cX12_feast 28 = .ok (.getfield 282, 3) := by decide +kernel
theorem dX12_feast_31 : decode cX12_feast 31 = .ok (.iload_n 1, 1) := by decide +kernel
theorem dX12_feast_32 : decode cX12_feast 32 = .ok (.iastore, 1) := by decide +kernel
theorem dX12_feast_33 : decode cX12_feast 33 = .ok (.aload_n 0, 1) := by decide +kernel
theorem dX12_feast_34 : decode cX12_feast 34 = .ok (.getfield 195, 3) := by decide +kernel
theorem dX12_feast_37 : decode cX12_feast 37 = .ok (.aload_n 0, 1) := by decide +kernel
theorem dX12_feast_38 : decode cX12_feast 38 = .ok (.getfield 282, 3) := by decide +kernel
theorem dX12_feast_41 : decode cX12_feast 41 = .ok (.iload_n 2, 1) := by decide +kernel
theorem dX12_feast_42 : decode cX12_feast 42 = .ok (.iastore, 1) := by decide +kernel
theorem dX12_feast_43 : decode cX12_feast 43 = .ok (.aload_n 0, 1) := by decide +kernel
theorem dX12_feast_44 : decode cX12_feast 44 = .ok (.dup, 1) := by decide +kernel
theorem dX12_feast_45 : decode cX12_feast 45 = .ok (.getfield 282, 3) := by decide +kernel
theorem dX12_feast_48 : decode cX12_feast 48 = .ok (.iconst 1, 1) := by decide +kernel
theorem dX12_feast_49 : decode cX12_feast 49 = .ok (.iadd, 1) := by decide +kernel
theorem dX12_feast_50 : decode cX12_feast 50 = .ok (.putfield 282, 3) := by decide +kernel
theorem dX12_feast_53 : decode cX12_feast 53 = .ok (.aload_n 0, 1) := by decide +kernel
theorem dX12_feast_54 : decode cX12_feast 54 = .ok (.getfield 282, 3) := by decide +kernel
theorem dX12_feast_57 : decode cX12_feast 57 = .ok (.ireturn, 1) := by decide +kernel
theorem dX12_wedding_0 : decode cX12_wedding 0 = .ok (.iload_n 1, 1) := by decide +kernel
theorem dX12_wedding_1 : decode cX12_wedding 1 = .ok (.invokestatic 274, 3) := by decide +kernel
theorem dX12_wedding_4 : decode cX12_wedding 4 = .ok (.ifCond .eq 11, 3) := by decide +kernel
theorem dX12_wedding_7 : decode cX12_wedding 7 = .ok (.iload_n 2, 1) := by decide +kernel
theorem dX12_wedding_8 : decode cX12_wedding 8 = .ok (.iload_n 3, 1) := by decide +kernel
theorem dX12_wedding_9 : decode cX12_wedding 9 = .ok (.invokestatic 279, 3) := by decide +kernel
theorem dX12_wedding_12 : decode cX12_wedding 12 = .ok (.ifCond .ne 6, 3) := by decide +kernel
theorem dX12_wedding_15 : decode cX12_wedding 15 = .ok (.bipush (-2), 2) := by decide +kernel
theorem dX12_wedding_17 : decode cX12_wedding 17 = .ok (.ireturn, 1) := by decide +kernel
theorem dX12_wedding_18 : decode cX12_wedding 18 = .ok (.aload_n 0, 1) := by decide +kernel
theorem dX12_wedding_19 : decode cX12_wedding 19 = .ok (.getfield 183, 3) := by decide +kernel
theorem dX12_wedding_22 : decode cX12_wedding 22 = .ok (.iload_n 1, 1) := by decide +kernel
theorem dX12_wedding_23 : decode cX12_wedding 23 = .ok (.iaload, 1) := by decide +kernel
theorem dX12_wedding_24 : decode cX12_wedding 24 = .ok (.iconst 4, 1) := by decide +kernel
theorem dX12_wedding_25 : decode cX12_wedding 25 = .ok (.if_icmp .ne 6, 3) := by decide +kernel
theorem dX12_wedding_28 : decode cX12_wedding 28 = .ok (.bipush (-3), 2) := by decide +kernel
theorem dX12_wedding_30 : decode cX12_wedding 30 = .ok (.ireturn, 1) := by decide +kernel
theorem dX12_wedding_31 : decode cX12_wedding 31 = .ok (.aload_n 0, 1) := by decide +kernel
theorem dX12_wedding_32 : decode cX12_wedding 32 = .ok (.getfield 186, 3) := by decide +kernel
theorem dX12_wedding_35 : decode cX12_wedding 35 = .ok (.iconst 4, 1) := by decide +kernel
theorem dX12_wedding_36 : decode cX12_wedding 36 = .ok (.iload_n 1, 1) := by decide +kernel
theorem dX12_wedding_37 : decode cX12_wedding 37 = .ok (.imul, 1) := by decide +kernel
theorem dX12_wedding_38 : decode cX12_wedding 38 = .ok (.aload_n 0, 1) := by decide +kernel
theorem dX12_wedding_39 : decode cX12_wedding 39 = .ok (.getfield 183, 3) := by decide +kernel
theorem dX12_wedding_42 : decode cX12_wedding 42 = .ok (.iload_n 1, 1) := by decide +kernel
theorem dX12_wedding_43 : decode cX12_wedding 43 = .ok (.iaload, 1) := by decide +kernel
theorem dX12_wedding_44 : decode cX12_wedding 44 = .ok (.iadd, 1) := by decide +kernel
theorem dX12_wedding_45 : decode cX12_wedding 45 = .ok (.iload_n 2, 1) := by decide +kernel
theorem dX12_wedding_46 : decode cX12_wedding 46 = .ok (.iastore, 1) := by decide +kernel
theorem dX12_wedding_47 : decode cX12_wedding 47 = .ok (.aload_n 0, 1) := by decide +kernel
theorem dX12_wedding_48 : decode cX12_wedding 48 = .ok (.getfield 189, 3) := by decide +kernel
theorem dX12_wedding_51 : decode cX12_wedding 51 = .ok (.iconst 4, 1) := by decide +kernel
theorem dX12_wedding_52 : decode cX12_wedding 52 = .ok (.iload_n 1, 1) := by decide +kernel
theorem dX12_wedding_53 : decode cX12_wedding 53 = .ok (.imul, 1) := by decide +kernel
theorem dX12_wedding_54 : decode cX12_wedding 54 = .ok (.aload_n 0, 1) := by decide +kernel
theorem dX12_wedding_55 : decode cX12_wedding 55 = .ok (.getfield 183, 3) := by decide +kernel
theorem dX12_wedding_58 : decode cX12_wedding 58 = .ok (.iload_n 1, 1) := by decide +kernel
theorem dX12_wedding_59 : decode cX12_wedding 59 = .ok (.iaload, 1) := by decide +kernel
theorem dX12_wedding_60 : decode cX12_wedding 60 = .ok (.iadd, 1) := by decide +kernel
theorem dX12_wedding_61 : decode cX12_wedding 61 = .ok (.iload_n 3, 1) := by decide +kernel
theorem dX12_wedding_62 : decode cX12_wedding 62 = .ok (.iastore, 1) := by decide +kernel
theorem dX12_wedding_63 : decode cX12_wedding 63 = .ok (.aload_n 0, 1) := by decide +kernel
theorem dX12_wedding_64 : decode cX12_wedding 64 = .ok (.getfield 183, 3) := by decide +kernel
theorem dX12_wedding_67 : decode cX12_wedding 67 = .ok (.iload_n 1, 1) := by decide +kernel
theorem dX12_wedding_68 : decode cX12_wedding 68 = .ok (.dup2, 1) := by decide +kernel
theorem dX12_wedding_69 : decode cX12_wedding 69 = .ok (.iaload, 1) := by decide +kernel
theorem dX12_wedding_70 : decode cX12_wedding 70 = .ok (.iconst 1, 1) := by decide +kernel
theorem dX12_wedding_71 : decode cX12_wedding 71 = .ok (.iadd, 1) := by decide +kernel
theorem dX12_wedding_72 : decode cX12_wedding 72 = .ok (.iastore, 1) := by decide +kernel
theorem dX12_wedding_73 : decode cX12_wedding 73 = .ok (.aload_n 0, 1) := by decide +kernel
theorem dX12_wedding_74 : decode cX12_wedding 74 = .ok (.getfield 183, 3) := by decide +kernel
theorem dX12_wedding_77 : decode cX12_wedding 77 = .ok (.iload_n 1, 1) := by decide +kernel
theorem dX12_wedding_78 : decode cX12_wedding 78 = .ok (.iaload, 1) := by decide +kernel
theorem dX12_wedding_79 : decode cX12_wedding 79 = .ok (.ireturn, 1) := by decide +kernel
theorem dX12_rankOf_0 : decode cX12_rankOf 0 = .ok (.iconst (-1), 1) := by decide +kernel
theorem dX12_rankOf_1 : decode cX12_rankOf 1 = .ok (.istore_n 3, 1) := by decide +kernel
theorem dX12_rankOf_2 : decode cX12_rankOf 2 = .ok (.bipush 12, 2) := by decide +kernel
theorem dX12_rankOf_4 : decode cX12_rankOf 4 = .ok (.iload_n 1, 1) := by decide +kernel
theorem dX12_rankOf_5 : decode cX12_rankOf 5 = .ok (.imul, 1) := by decide +kernel
theorem dX12_rankOf_6 : decode cX12_rankOf 6 = .ok (.istore 4, 2) := by decide +kernel
theorem dX12_rankOf_8 : decode cX12_rankOf 8 = .ok (.iload 4, 2) := by decide +kernel
theorem dX12_rankOf_10 : decode cX12_rankOf 10 = .ok (.bipush 12, 2) := by decide +kernel
theorem dX12_rankOf_12 : decode cX12_rankOf 12 = .ok (.iload_n 1, 1) := by decide +kernel
theorem dX12_rankOf_13 : decode cX12_rankOf 13 = .ok (.imul, 1) := by decide +kernel
theorem dX12_rankOf_14 : decode cX12_rankOf 14 = .ok (.aload_n 0, 1) := by decide +kernel
theorem dX12_rankOf_15 : decode cX12_rankOf 15 = .ok (.getfield 174, 3) := by decide +kernel
theorem dX12_rankOf_18 : decode cX12_rankOf 18 = .ok (.iload_n 1, 1) := by decide +kernel
theorem dX12_rankOf_19 : decode cX12_rankOf 19 = .ok (.iaload, 1) := by decide +kernel
theorem dX12_rankOf_20 : decode cX12_rankOf 20 = .ok (.iadd, 1) := by decide +kernel
theorem dX12_rankOf_21 : decode cX12_rankOf 21 = .ok (.if_icmp .ge 44, 3) := by decide +kernel
theorem dX12_rankOf_24 : decode cX12_rankOf 24 = .ok (.aload_n 0, 1) := by decide +kernel
theorem dX12_rankOf_25 : decode cX12_rankOf 25 = .ok (.getfield 177, 3) := by decide +kernel
theorem dX12_rankOf_28 : decode cX12_rankOf 28 = .ok (.iload 4, 2) := by decide +kernel
theorem dX12_rankOf_30 : decode cX12_rankOf 30 = .ok (.iaload, 1) := by decide +kernel
theorem dX12_rankOf_31 : decode cX12_rankOf 31 = .ok (.iload_n 2, 1) := by decide +kernel
theorem dX12_rankOf_32 : decode cX12_rankOf 32 = .ok (.if_icmp .gt 27, 3) := by decide +kernel
theorem dX12_rankOf_35 : decode cX12_rankOf 35 = .ok (.iload_n 3, 1) := by decide +kernel
theorem dX12_rankOf_36 : decode cX12_rankOf 36 = .ok (.iconst (-1), 1) := by decide +kernel
theorem dX12_rankOf_37 : decode cX12_rankOf 37 = .ok (.if_icmp .eq 19, 3) := by decide +kernel
theorem dX12_rankOf_40 : decode cX12_rankOf 40 = .ok (.aload_n 0, 1) := by decide +kernel
theorem dX12_rankOf_41 : decode cX12_rankOf 41 = .ok (.getfield 177, 3) := by decide +kernel
theorem dX12_rankOf_44 : decode cX12_rankOf 44 = .ok (.iload 4, 2) := by decide +kernel
theorem dX12_rankOf_46 : decode cX12_rankOf 46 = .ok (.iaload, 1) := by decide +kernel
theorem dX12_rankOf_47 : decode cX12_rankOf 47 = .ok (.aload_n 0, 1) := by decide +kernel
theorem dX12_rankOf_48 : decode cX12_rankOf 48 = .ok (.getfield 177, 3) := by decide +kernel
theorem dX12_rankOf_51 : decode cX12_rankOf 51 = .ok (.iload_n 3, 1) := by decide +kernel
theorem dX12_rankOf_52 : decode cX12_rankOf 52 = .ok (.iaload, 1) := by decide +kernel
theorem dX12_rankOf_53 : decode cX12_rankOf 53 = .ok (.if_icmp .lt 6, 3) := by decide +kernel
theorem dX12_rankOf_56 : decode cX12_rankOf 56 = .ok (.iload 4, 2) := by decide +kernel
theorem dX12_rankOf_58 : decode cX12_rankOf 58 = .ok (.istore_n 3, 1) := by decide +kernel
theorem dX12_rankOf_59 : decode cX12_rankOf 59 = .ok (.iinc 4 1, 3) := by decide +kernel
theorem dX12_rankOf_62 : decode cX12_rankOf 62 = .ok (.goto (-54), 3) := by decide +kernel
theorem dX12_rankOf_65 : decode cX12_rankOf 65 = .ok (.iload_n 3, 1) := by decide +kernel
theorem dX12_rankOf_66 : decode cX12_rankOf 66 = .ok (.iconst (-1), 1) := by decide +kernel
theorem dX12_rankOf_67 : decode cX12_rankOf 67 = .ok (.if_icmp .ne 7, 3) := by decide +kernel
theorem dX12_rankOf_70 : decode cX12_rankOf 70 = .ok (.iconst 5, 1) := by decide +kernel
theorem dX12_rankOf_71 : decode cX12_rankOf 71 = .ok (.goto 9, 3) := by decide +kernel
theorem dX12_rankOf_74 : decode cX12_rankOf 74 = .ok (.aload_n 0, 1) := by decide +kernel
theorem dX12_rankOf_75 : decode cX12_rankOf 75 = .ok (.getfield 180, 3) := by decide +kernel
theorem dX12_rankOf_78 : decode cX12_rankOf 78 = .ok (.iload_n 3, 1) := by decide +kernel
theorem dX12_rankOf_79 : decode cX12_rankOf 79 = .ok (.iaload, 1) := by decide +kernel
theorem dX12_rankOf_80 : decode cX12_rankOf 80 = .ok (.ireturn, 1) := by decide +kernel
theorem dX12_occasionOf_0 : decode cX12_occasionOf 0 = .ok (.iconst 4, 1) := by decide +kernel
theorem dX12_occasionOf_1 : decode cX12_occasionOf 1 = .ok (.iload_n 1, 1) := by decide +kernel
theorem dX12_occasionOf_2 : decode cX12_occasionOf 2 = .ok (.imul, 1) := by decide +kernel
theorem dX12_occasionOf_3 : decode cX12_occasionOf 3 = .ok (.istore_n 3, 1) := by decide +kernel
theorem dX12_occasionOf_4 : decode cX12_occasionOf 4 = .ok (.iload_n 3, 1) := by decide +kernel
theorem dX12_occasionOf_5 : decode cX12_occasionOf 5 = .ok (.iconst 4, 1) := by decide +kernel
theorem dX12_occasionOf_6 : decode cX12_occasionOf 6 = .ok (.iload_n 1, 1) := by decide +kernel
theorem dX12_occasionOf_7 : decode cX12_occasionOf 7 = .ok (.imul, 1) := by decide +kernel
theorem dX12_occasionOf_8 : decode cX12_occasionOf 8 = .ok (.aload_n 0, 1) := by decide +kernel
theorem dX12_occasionOf_9 : decode cX12_occasionOf 9 = .ok (.getfield 183, 3) := by decide +kernel
theorem dX12_occasionOf_12 : decode cX12_occasionOf 12 = .ok (.iload_n 1, 1) := by decide +kernel
theorem dX12_occasionOf_13 : decode cX12_occasionOf 13 = .ok (.iaload, 1) := by decide +kernel
theorem dX12_occasionOf_14 : decode cX12_occasionOf 14 = .ok (.iadd, 1) := by decide +kernel
theorem dX12_occasionOf_15 : decode cX12_occasionOf 15 = .ok (.if_icmp .ge 33, 3) := by decide +kernel
theorem dX12_occasionOf_18 : decode cX12_occasionOf 18 = .ok (.iload_n 2, 1) := by decide +kernel
theorem dX12_occasionOf_19 : decode cX12_occasionOf 19 = .ok (.i2l, 1) := by decide +kernel
theorem dX12_occasionOf_20 : decode cX12_occasionOf 20 = .ok (.aload_n 0, 1) := by decide +kernel
theorem dX12_occasionOf_21 : decode cX12_occasionOf 21 = .ok (.getfield 186, 3) := by decide +kernel
theorem dX12_occasionOf_24 : decode cX12_occasionOf 24 = .ok (.iload_n 3, 1) := by decide +kernel
theorem dX12_occasionOf_25 : decode cX12_occasionOf 25 = .ok (.iaload, 1) := by decide +kernel
theorem dX12_occasionOf_26 : decode cX12_occasionOf 26 = .ok (.i2l, 1) := by decide +kernel
theorem dX12_occasionOf_27 : decode cX12_occasionOf 27 = .ok (.aload_n 0, 1) := by decide +kernel
theorem dX12_occasionOf_28 : decode cX12_occasionOf 28 = .ok (.getfield 189, 3) := by decide +kernel
theorem dX12_occasionOf_31 : decode cX12_occasionOf 31 = .ok (.iload_n 3, 1) := by decide +kernel
theorem dX12_occasionOf_32 : decode cX12_occasionOf 32 = .ok (.iaload, 1) := by decide +kernel
theorem dX12_occasionOf_33 : decode cX12_occasionOf 33 = .ok (.i2l, 1) := by decide +kernel
theorem dX12_occasionOf_34 : decode cX12_occasionOf 34 = .ok (.invokestatic 5, 3) := by decide +kernel
theorem dX12_occasionOf_37 : decode cX12_occasionOf 37 = .ok (.ifCond .eq 5, 3) := by decide +kernel
theorem dX12_occasionOf_40 : decode cX12_occasionOf 40 = .ok (.iconst 2, 1) := by decide +kernel
theorem dX12_occasionOf_41 : decode cX12_occasionOf 41 = .ok (.ireturn, 1) := by decide +kernel
theorem dX12_occasionOf_42 : decode cX12_occasionOf 42 = .ok (.iinc 3 1, 3) := by decide +kernel
theorem dX12_occasionOf_45 : decode cX12_occasionOf 45 = .ok (.goto (-41), 3) := by decide +kernel
theorem dX12_occasionOf_48 : decode cX12_occasionOf 48 = .ok (.iconst 0, 1) := by decide +kernel
theorem dX12_occasionOf_49 : decode cX12_occasionOf 49 = .ok (.istore_n 3, 1) := by decide +kernel
theorem dX12_occasionOf_50 : decode cX12_occasionOf 50 = .ok (.iload_n 3, 1) := by decide +kernel
theorem dX12_occasionOf_51 : decode cX12_occasionOf 51 = .ok (.aload_n 0, 1) := by decide +kernel
theorem dX12_occasionOf_52 : decode cX12_occasionOf 52 = .ok (.getfield 282, 3) := by decide +kernel
theorem dX12_occasionOf_55 : decode cX12_occasionOf 55 = .ok (.if_icmp .ge 33, 3) := by decide +kernel
theorem dX12_occasionOf_58 : decode cX12_occasionOf 58 = .ok (.iload_n 2, 1) := by decide +kernel
theorem dX12_occasionOf_59 : decode cX12_occasionOf 59 = .ok (.i2l, 1) := by decide +kernel
theorem dX12_occasionOf_60 : decode cX12_occasionOf 60 = .ok (.aload_n 0, 1) := by decide +kernel
theorem dX12_occasionOf_61 : decode cX12_occasionOf 61 = .ok (.getfield 192, 3) := by decide +kernel
theorem dX12_occasionOf_64 : decode cX12_occasionOf 64 = .ok (.iload_n 3, 1) := by decide +kernel
theorem dX12_occasionOf_65 : decode cX12_occasionOf 65 = .ok (.iaload, 1) := by decide +kernel
theorem dX12_occasionOf_66 : decode cX12_occasionOf 66 = .ok (.i2l, 1) := by decide +kernel
theorem dX12_occasionOf_67 : decode cX12_occasionOf 67 = .ok (.aload_n 0, 1) := by decide +kernel
theorem dX12_occasionOf_68 : decode cX12_occasionOf 68 = .ok (.getfield 195, 3) := by decide +kernel
theorem dX12_occasionOf_71 : decode cX12_occasionOf 71 = .ok (.iload_n 3, 1) := by decide +kernel
theorem dX12_occasionOf_72 : decode cX12_occasionOf 72 = .ok (.iaload, 1) := by decide +kernel
theorem dX12_occasionOf_73 : decode cX12_occasionOf 73 = .ok (.i2l, 1) := by decide +kernel
theorem dX12_occasionOf_74 : decode cX12_occasionOf 74 = .ok (.invokestatic 5, 3) := by decide +kernel
theorem dX12_occasionOf_77 : decode cX12_occasionOf 77 = .ok (.ifCond .eq 5, 3) := by decide +kernel
theorem dX12_occasionOf_80 : decode cX12_occasionOf 80 = .ok (.iconst 1, 1) := by decide +kernel
theorem dX12_occasionOf_81 : decode cX12_occasionOf 81 = .ok (.ireturn, 1) := by decide +kernel
theorem dX12_occasionOf_82 : decode cX12_occasionOf 82 = .ok (.iinc 3 1, 3) := by decide +kernel
theorem dX12_occasionOf_85 : decode cX12_occasionOf 85 = .ok (.goto (-35), 3) := by decide +kernel
theorem dX12_occasionOf_88 : decode cX12_occasionOf 88 = .ok (.iconst 0, 1) := by decide +kernel
theorem dX12_occasionOf_89 : decode cX12_occasionOf 89 = .ok (.ireturn, 1) := by decide +kernel
theorem dX12_on_0 : decode cX12_on 0 = .ok (.iload_n 1, 1) := by decide +kernel
theorem dX12_on_1 : decode cX12_on 1 = .ok (.invokestatic 274, 3) := by decide +kernel
theorem dX12_on_4 : decode cX12_on 4 = .ok (.ifCond .eq 20, 3) := by decide +kernel
theorem dX12_on_7 : decode cX12_on 7 = .ok (.iload_n 2, 1) := by decide +kernel
theorem dX12_on_8 : decode cX12_on 8 = .ok (.invokestatic 259, 3) := by decide +kernel
theorem dX12_on_11 : decode cX12_on 11 = .ok (.ifCond .eq 13, 3) := by decide +kernel
theorem dX12_on_14 : decode cX12_on 14 = .ok (.iload_n 3, 1) := by decide +kernel
theorem dX12_on_15 : decode cX12_on 15 = .ok (.i2l, 1) := by decide +kernel
theorem dX12_on_16 : decode cX12_on 16 = .ok (.lconst 0, 1) := by decide +kernel
theorem dX12_on_17 : decode cX12_on 17 = .ok (.lconst 1, 1) := by decide +kernel
theorem dX12_on_18 : decode cX12_on 18 = .ok (.invokestatic 5, 3) := by decide +kernel
theorem dX12_on_21 : decode cX12_on 21 = .ok (.ifCond .ne 6, 3) := by decide +kernel
theorem dX12_on_24 : decode cX12_on 24 = .ok (.bipush (-2), 2) := by decide +kernel
theorem dX12_on_26 : decode cX12_on 26 = .ok (.ireturn, 1) := by decide +kernel
theorem dX12_on_27 : decode cX12_on 27 = .ok (.iload_n 3, 1) := by decide +kernel
theorem dX12_on_28 : decode cX12_on 28 = .ok (.ifCond .ne 12, 3) := by decide +kernel
theorem dX12_on_31 : decode cX12_on 31 = .ok (.aload_n 0, 1) := by decide +kernel
theorem dX12_on_32 : decode cX12_on 32 = .ok (.iload_n 1, 1) := by decide +kernel
theorem dX12_on_33 : decode cX12_on 33 = .ok (.iload_n 2, 1) := by decide +kernel
theorem dX12_on_34 : decode cX12_on 34 = .ok (.invokevirtual 285, 3) := by decide +kernel
theorem dX12_on_37 : decode cX12_on 37 = .ok (.goto 9, 3) := by decide +kernel
theorem dX12_on_40 : decode cX12_on 40 = .ok (.aload_n 0, 1) := by decide +kernel
theorem dX12_on_41 : decode cX12_on 41 = .ok (.iload_n 1, 1) := by decide +kernel
theorem dX12_on_42 : decode cX12_on 42 = .ok (.iload_n 2, 1) := by decide +kernel
theorem dX12_on_43 : decode cX12_on 43 = .ok (.invokevirtual 288, 3) := by decide +kernel
theorem dX12_on_46 : decode cX12_on 46 = .ok (.ireturn, 1) := by decide +kernel
theorem dX12_gown_0 : decode cX12_gown 0 = .ok (.iload_n 1, 1) := by decide +kernel
theorem dX12_gown_1 : decode cX12_gown 1 = .ok (.i2l, 1) := by decide +kernel
theorem dX12_gown_2 : decode cX12_gown 2 = .ok (.lconst 0, 1) := by decide +kernel
theorem dX12_gown_3 : decode cX12_gown 3 = .ok (.ldc2_w 3, 3) := by decide +kernel
theorem dX12_gown_6 : decode cX12_gown 6 = .ok (.invokestatic 5, 3) := by decide +kernel
theorem dX12_gown_9 : decode cX12_gown 9 = .ok (.ifCond .eq 57, 3) := by decide +kernel
theorem dX12_gown_12 : decode cX12_gown 12 = .ok (.iload_n 2, 1) := by decide +kernel
theorem dX12_gown_13 : decode cX12_gown 13 = .ok (.i2l, 1) := by decide +kernel
theorem dX12_gown_14 : decode cX12_gown 14 = .ok (.lconst 0, 1) := by decide +kernel
theorem dX12_gown_15 : decode cX12_gown 15 = .ok (.ldc2_w 3, 3) := by decide +kernel
theorem dX12_gown_18 : decode cX12_gown 18 = .ok (.invokestatic 5, 3) := by decide +kernel
theorem dX12_gown_21 : decode cX12_gown 21 = .ok (.ifCond .eq 45, 3) := by decide +kernel
theorem dX12_gown_24 : decode cX12_gown 24 = .ok (.iload_n 3, 1) := by decide +kernel
theorem dX12_gown_25 : decode cX12_gown 25 = .ok (.i2l, 1) := by decide +kernel
theorem dX12_gown_26 : decode cX12_gown 26 = .ok (.lconst 0, 1) := by decide +kernel
theorem dX12_gown_27 : decode cX12_gown 27 = .ok (.ldc2_w 3, 3) := by decide +kernel
theorem dX12_gown_30 : decode cX12_gown 30 = .ok (.invokestatic 5, 3) := by decide +kernel
theorem dX12_gown_33 : decode cX12_gown 33 = .ok (.ifCond .eq 33, 3) := by decide +kernel
theorem dX12_gown_36 : decode cX12_gown 36 = .ok (.iload 4, 2) := by decide +kernel
theorem dX12_gown_38 : decode cX12_gown 38 = .ok (.i2l, 1) := by decide +kernel
theorem dX12_gown_39 : decode cX12_gown 39 = .ok (.lconst 0, 1) := by decide +kernel
theorem dX12_gown_40 : decode cX12_gown 40 = .ok (.ldc2_w 3, 3) := by decide +kernel
theorem dX12_gown_43 : decode cX12_gown 43 = .ok (.invokestatic 5, 3) := by decide +kernel
theorem dX12_gown_46 : decode cX12_gown 46 = .ok (.ifCond .eq 20, 3) := by decide +kernel
theorem dX12_gown_49 : decode cX12_gown 49 = .ok (.iload 5, 2) := by decide +kernel
theorem dX12_gown_51 : decode cX12_gown 51 = .ok (.i2l, 1) := by decide +kernel
theorem dX12_gown_52 : decode cX12_gown 52 = .ok (.lconst 0, 1) := by decide +kernel
theorem dX12_gown_53 : decode cX12_gown 53 = .ok (.ldc2_w 3, 3) := by decide +kernel
theorem dX12_gown_56 : decode cX12_gown 56 = .ok (.invokestatic 5, 3) := by decide +kernel
theorem dX12_gown_59 : decode cX12_gown 59 = .ok (.ifCond .eq 7, 3) := by decide +kernel
theorem dX12_gown_62 : decode cX12_gown 62 = .ok (.iconst 1, 1) := by decide +kernel
theorem dX12_gown_63 : decode cX12_gown 63 = .ok (.goto 4, 3) := by decide +kernel
theorem dX12_gown_66 : decode cX12_gown 66 = .ok (.iconst 0, 1) := by decide +kernel
theorem dX12_gown_67 : decode cX12_gown 67 = .ok (.istore 8, 2) := by decide +kernel
theorem dX12_gown_69 : decode cX12_gown 69 = .ok (.iload 8, 2) := by decide +kernel
theorem dX12_gown_71 : decode cX12_gown 71 = .ok (.ifCond .eq 29, 3) := by decide +kernel
theorem dX12_gown_74 : decode cX12_gown 74 = .ok (.iload 6, 2) := by decide +kernel
theorem dX12_gown_76 : decode cX12_gown 76 = .ok (.i2l, 1) := by decide +kernel
theorem dX12_gown_77 : decode cX12_gown 77 = .ok (.lconst 0, 1) := by decide +kernel
theorem dX12_gown_78 : decode cX12_gown 78 = .ok (.ldc2_w 291, 3) := by decide +kernel
theorem dX12_gown_81 : decode cX12_gown 81 = .ok (.invokestatic 5, 3) := by decide +kernel
theorem dX12_gown_84 : decode cX12_gown 84 = .ok (.ifCond .eq 16, 3) := by decide +kernel
theorem dX12_gown_87 : decode cX12_gown 87 = .ok (.iload 7, 2) := by decide +kernel
theorem dX12_gown_89 : decode cX12_gown 89 = .ok (.i2l, 1) := by decide +kernel
theorem dX12_gown_90 : decode cX12_gown 90 = .ok (.lconst 0, 1) := by decide +kernel
theorem dX12_gown_91 : decode cX12_gown 91 = .ok (.ldc2_w 293, 3) := by decide +kernel
theorem dX12_gown_94 : decode cX12_gown 94 = .ok (.invokestatic 5, 3) := by decide +kernel
theorem dX12_gown_97 : decode cX12_gown 97 = .ok (.ifCond .ne 6, 3) := by decide +kernel
theorem dX12_gown_100 : decode cX12_gown 100 = .ok (.bipush (-2), 2) := by decide +kernel
theorem dX12_gown_102 : decode cX12_gown 102 = .ok (.ireturn, 1) := by decide +kernel
theorem dX12_gown_103 : decode cX12_gown 103 = .ok (.aload_n 0, 1) := by decide +kernel
theorem dX12_gown_104 : decode cX12_gown 104 = .ok (.getfield 295, 3) := by decide +kernel
theorem dX12_gown_107 : decode cX12_gown 107 = .ok (.bipush 40, 2) := by decide +kernel
theorem dX12_gown_109 : decode cX12_gown 109 = .ok (.if_icmp .ne 6, 3) := by decide +kernel
theorem dX12_gown_112 : decode cX12_gown 112 = .ok (.bipush (-3), 2) := by decide +kernel
theorem dX12_gown_114 : decode cX12_gown 114 = .ok (.ireturn, 1) := by decide +kernel
theorem dX12_gown_115 : decode cX12_gown 115 = .ok (.iconst 5, 1) := by decide +kernel
theorem dX12_gown_116 : decode cX12_gown 116 = .ok (.aload_n 0, 1) := by decide +kernel
theorem dX12_gown_117 : decode cX12_gown 117 = .ok (.getfield 295, 3) := by decide +kernel
theorem dX12_gown_120 : decode cX12_gown 120 = .ok (.imul, 1) := by decide +kernel
theorem dX12_gown_121 : decode cX12_gown 121 = .ok (.istore 9, 2) := by decide +kernel
theorem dX12_gown_123 : decode cX12_gown 123 = .ok (.aload_n 0, 1) := by decide +kernel
theorem dX12_gown_124 : decode cX12_gown 124 = .ok (.getfield 198, 3) := by decide +kernel
theorem dX12_gown_127 : decode cX12_gown 127 = .ok (.iload 9, 2) := by decide +kernel
theorem dX12_gown_129 : decode cX12_gown 129 = .ok (.iload_n 1, 1) := by decide +kernel
theorem dX12_gown_130 : decode cX12_gown 130 = .ok (.iastore, 1) := by decide +kernel
theorem dX12_gown_131 : decode cX12_gown 131 = .ok (.aload_n 0, 1) := by decide +kernel
theorem dX12_gown_132 : decode cX12_gown 132 = .ok (.getfield 198, 3) := by decide +kernel
theorem dX12_gown_135 : decode cX12_gown 135 = .ok (.iload 9, 2) := by decide +kernel
theorem dX12_gown_137 : decode cX12_gown 137 = .ok (.iconst 1, 1) := by decide +kernel
theorem dX12_gown_138 : decode cX12_gown 138 = .ok (.iadd, 1) := by decide +kernel
theorem dX12_gown_139 : decode cX12_gown 139 = .ok (.iload_n 2, 1) := by decide +kernel
theorem dX12_gown_140 : decode cX12_gown 140 = .ok (.iastore, 1) := by decide +kernel
theorem dX12_gown_141 : decode cX12_gown 141 = .ok (.aload_n 0, 1) := by decide +kernel
theorem dX12_gown_142 : decode cX12_gown 142 = .ok (.getfield 198, 3) := by decide +kernel
theorem dX12_gown_145 : decode cX12_gown 145 = .ok (.iload 9, 2) := by decide +kernel
theorem dX12_gown_147 : decode cX12_gown 147 = .ok (.iconst 2, 1) := by decide +kernel
theorem dX12_gown_148 : decode cX12_gown 148 = .ok (.iadd, 1) := by decide +kernel
theorem dX12_gown_149 : decode cX12_gown 149 = .ok (.iload_n 3, 1) := by decide +kernel
theorem dX12_gown_150 : decode cX12_gown 150 = .ok (.iastore, 1) := by decide +kernel
theorem dX12_gown_151 : decode cX12_gown 151 = .ok (.aload_n 0, 1) := by decide +kernel
theorem dX12_gown_152 : decode cX12_gown 152 = .ok (.getfield 198, 3) := by decide +kernel
theorem dX12_gown_155 : decode cX12_gown 155 = .ok (.iload 9, 2) := by decide +kernel
theorem dX12_gown_157 : decode cX12_gown 157 = .ok (.iconst 3, 1) := by decide +kernel
theorem dX12_gown_158 : decode cX12_gown 158 = .ok (.iadd, 1) := by decide +kernel
theorem dX12_gown_159 : decode cX12_gown 159 = .ok (.iload 4, 2) := by decide +kernel
theorem dX12_gown_161 : decode cX12_gown 161 = .ok (.iastore, 1) := by decide +kernel
theorem dX12_gown_162 : decode cX12_gown 162 = .ok (.aload_n 0, 1) := by decide +kernel
theorem dX12_gown_163 : decode cX12_gown 163 = .ok (.getfield 198, 3) := by decide +kernel
theorem dX12_gown_166 : decode cX12_gown 166 = .ok (.iload 9, 2) := by decide +kernel
theorem dX12_gown_168 : decode cX12_gown 168 = .ok (.iconst 4, 1) := by decide +kernel
theorem dX12_gown_169 : decode cX12_gown 169 = .ok (.iadd, 1) := by decide +kernel
theorem dX12_gown_170 : decode cX12_gown 170 = .ok (.iload 5, 2) := by decide +kernel
theorem dX12_gown_172 : decode cX12_gown 172 = .ok (.iastore, 1) := by decide +kernel
theorem dX12_gown_173 : decode cX12_gown 173 = .ok (.aload_n 0, 1) := by decide +kernel
theorem dX12_gown_174 : decode cX12_gown 174 = .ok (.getfield 201, 3) := by decide +kernel
theorem dX12_gown_177 : decode cX12_gown 177 = .ok (.aload_n 0, 1) := by decide +kernel
theorem dX12_gown_178 : decode cX12_gown 178 = .ok (.getfield 295, 3) := by decide +kernel
theorem dX12_gown_181 : decode cX12_gown 181 = .ok (.iload 6, 2) := by decide +kernel
theorem dX12_gown_183 : decode cX12_gown 183 = .ok (.iastore, 1) := by decide +kernel
theorem dX12_gown_184 : decode cX12_gown 184 = .ok (.aload_n 0, 1) := by decide +kernel
theorem dX12_gown_185 : decode cX12_gown 185 = .ok (.getfield 203, 3) := by decide +kernel
theorem dX12_gown_188 : decode cX12_gown 188 = .ok (.aload_n 0, 1) := by decide +kernel
theorem dX12_gown_189 : decode cX12_gown 189 = .ok (.getfield 295, 3) := by decide +kernel
theorem dX12_gown_192 : decode cX12_gown 192 = .ok (.iload 7, 2) := by decide +kernel
theorem dX12_gown_194 : decode cX12_gown 194 = .ok (.iastore, 1) := by decide +kernel
theorem dX12_gown_195 : decode cX12_gown 195 = .ok (.aload_n 0, 1) := by decide +kernel
theorem dX12_gown_196 : decode cX12_gown 196 = .ok (.getfield 205, 3) := by decide +kernel
theorem dX12_gown_199 : decode cX12_gown 199 = .ok (.aload_n 0, 1) := by decide +kernel
theorem dX12_gown_200 : decode cX12_gown 200 = .ok (.getfield 295, 3) := by decide +kernel
theorem dX12_gown_203 : decode cX12_gown 203 = .ok (.iconst (-1), 1) := by decide +kernel
theorem dX12_gown_204 : decode cX12_gown 204 = .ok (.iastore, 1) := by decide +kernel
theorem dX12_gown_205 : decode cX12_gown 205 = .ok (.aload_n 0, 1) := by decide +kernel
theorem dX12_gown_206 : decode cX12_gown 206 = .ok (.dup, 1) := by decide +kernel
theorem dX12_gown_207 : decode cX12_gown 207 = .ok (.getfield 295, 3) := by decide +kernel
theorem dX12_gown_210 : decode cX12_gown 210 = .ok (.iconst 1, 1) := by decide +kernel
theorem dX12_gown_211 : decode cX12_gown 211 = .ok (.iadd, 1) := by decide +kernel
theorem dX12_gown_212 : decode cX12_gown 212 = .ok (.putfield 295, 3) := by decide +kernel
theorem dX12_gown_215 : decode cX12_gown 215 = .ok (.aload_n 0, 1) := by decide +kernel
theorem dX12_gown_216 : decode cX12_gown 216 = .ok (.getfield 295, 3) := by decide +kernel
theorem dX12_gown_219 : decode cX12_gown 219 = .ok (.iconst 1, 1) := by decide +kernel
theorem dX12_gown_220 : decode cX12_gown 220 = .ok (.isub, 1) := by decide +kernel
theorem dX12_gown_221 : decode cX12_gown 221 = .ok (.ireturn, 1) := by decide +kernel
theorem dX12_isGown_0 : decode cX12_isGown 0 = .ok (.iload_n 1, 1) := by decide +kernel
theorem dX12_isGown_1 : decode cX12_isGown 1 = .ok (.i2l, 1) := by decide +kernel
theorem dX12_isGown_2 : decode cX12_isGown 2 = .ok (.lconst 0, 1) := by decide +kernel
theorem dX12_isGown_3 : decode cX12_isGown 3 = .ok (.aload_n 0, 1) := by decide +kernel
theorem dX12_isGown_4 : decode cX12_isGown 4 = .ok (.getfield 295, 3) := by decide +kernel
theorem dX12_isGown_7 : decode cX12_isGown 7 = .ok (.i2l, 1) := by decide +kernel
theorem dX12_isGown_8 : decode cX12_isGown 8 = .ok (.lconst 1, 1) := by decide +kernel
theorem dX12_isGown_9 : decode cX12_isGown 9 = .ok (.lsub, 1) := by decide +kernel
theorem dX12_isGown_10 : decode cX12_isGown 10 = .ok (.invokestatic 5, 3) := by decide +kernel
theorem dX12_isGown_13 : decode cX12_isGown 13 = .ok (.ireturn, 1) := by decide +kernel
theorem dX12_seal_0 : decode cX12_seal 0 = .ok (.aload_n 0, 1) := by decide +kernel
theorem dX12_seal_1 : decode cX12_seal 1 = .ok (.iload_n 1, 1) := by decide +kernel
theorem dX12_seal_2 : decode cX12_seal 2 = .ok (.invokevirtual 298, 3) := by decide +kernel
theorem dX12_seal_5 : decode cX12_seal 5 = .ok (.ifCond .eq 10, 3) := by decide +kernel
theorem dX12_seal_8 : decode cX12_seal 8 = .ok (.iload_n 2, 1) := by decide +kernel
theorem dX12_seal_9 : decode cX12_seal 9 = .ok (.invokestatic 259, 3) := by decide +kernel
theorem dX12_seal_12 : decode cX12_seal 12 = .ok (.ifCond .ne 6, 3) := by decide +kernel
theorem dX12_seal_15 : decode cX12_seal 15 = .ok (.bipush (-2), 2) := by decide +kernel
theorem dX12_seal_17 : decode cX12_seal 17 = .ok (.ireturn, 1) := by decide +kernel
theorem dX12_seal_18 : decode cX12_seal 18 = .ok (.aload_n 0, 1) := by decide +kernel
theorem dX12_seal_19 : decode cX12_seal 19 = .ok (.getfield 205, 3) := by decide +kernel
theorem dX12_seal_22 : decode cX12_seal 22 = .ok (.iload_n 1, 1) := by decide +kernel
theorem dX12_seal_23 : decode cX12_seal 23 = .ok (.iaload, 1) := by decide +kernel
theorem dX12_seal_24 : decode cX12_seal 24 = .ok (.iconst (-1), 1) := by decide +kernel
theorem dX12_seal_25 : decode cX12_seal 25 = .ok (.if_icmp .eq 6, 3) := by decide +kernel
theorem dX12_seal_28 : decode cX12_seal 28 = .ok (.bipush (-4), 2) := by decide +kernel
theorem dX12_seal_30 : decode cX12_seal 30 = .ok (.ireturn, 1) := by decide +kernel
theorem dX12_seal_31 : decode cX12_seal 31 = .ok (.aload_n 0, 1) := by decide +kernel
theorem dX12_seal_32 : decode cX12_seal 32 = .ok (.getfield 205, 3) := by decide +kernel
theorem dX12_seal_35 : decode cX12_seal 35 = .ok (.iload_n 1, 1) := by decide +kernel
theorem dX12_seal_36 : decode cX12_seal 36 = .ok (.iload_n 2, 1) := by decide +kernel
theorem dX12_seal_37 : decode cX12_seal 37 = .ok (.iastore, 1) := by decide +kernel
theorem dX12_seal_38 : decode cX12_seal 38 = .ok (.iconst 1, 1) := by decide +kernel
theorem dX12_seal_39 : decode cX12_seal 39 = .ok (.ireturn, 1) := by decide +kernel
theorem dX12_about_0 : decode cX12_about 0 = .ok (.aload_n 0, 1) := by decide +kernel
theorem dX12_about_1 : decode cX12_about 1 = .ok (.iload_n 1, 1) := by decide +kernel
theorem dX12_about_2 : decode cX12_about 2 = .ok (.invokevirtual 298, 3) := by decide +kernel
theorem dX12_about_5 : decode cX12_about 5 = .ok (.ifCond .ne 5, 3) := by decide +kernel
theorem dX12_about_8 : decode cX12_about 8 = .ok (.iconst (-1), 1) := by decide +kernel
theorem dX12_about_9 : decode cX12_about 9 = .ok (.ireturn, 1) := by decide +kernel
theorem dX12_about_10 : decode cX12_about 10 = .ok (.iload_n 2, 1) := by decide +kernel
theorem dX12_about_11 : decode cX12_about 11 = .ok (.i2l, 1) := by decide +kernel
theorem dX12_about_12 : decode cX12_about 12 = .ok (.lconst 0, 1) := by decide +kernel
theorem dX12_about_13 : decode cX12_about 13 = .ok (.ldc2_w 301, 3) := by decide +kernel
theorem dX12_about_16 : decode cX12_about 16 = .ok (.invokestatic 5, 3) := by decide +kernel
theorem dX12_about_19 : decode cX12_about 19 = .ok (.ifCond .eq 14, 3) := by decide +kernel
theorem dX12_about_22 : decode cX12_about 22 = .ok (.aload_n 0, 1) := by decide +kernel
theorem dX12_about_23 : decode cX12_about 23 = .ok (.getfield 198, 3) := by decide +kernel
theorem dX12_about_26 : decode cX12_about 26 = .ok (.iconst 5, 1) := by decide +kernel
theorem dX12_about_27 : decode cX12_about 27 = .ok (.iload_n 1, 1) := by decide +kernel
theorem dX12_about_28 : decode cX12_about 28 = .ok (.imul, 1) := by decide +kernel
theorem dX12_about_29 : decode cX12_about 29 = .ok (.iload_n 2, 1) := by decide +kernel
theorem dX12_about_30 : decode cX12_about 30 = .ok (.iadd, 1) := by decide +kernel
theorem dX12_about_31 : decode cX12_about 31 = .ok (.iaload, 1) := by decide +kernel
theorem dX12_about_32 : decode cX12_about 32 = .ok (.ireturn, 1) := by decide +kernel
theorem dX12_about_33 : decode cX12_about 33 = .ok (.iload_n 2, 1) := by decide +kernel
theorem dX12_about_34 : decode cX12_about 34 = .ok (.iconst 5, 1) := by decide +kernel
theorem dX12_about_35 : decode cX12_about 35 = .ok (.if_icmp .ne 12, 3) := by decide +kernel
theorem dX12_about_38 : decode cX12_about 38 = .ok (.aload_n 0, 1) := by decide +kernel
theorem dX12_about_39 : decode cX12_about 39 = .ok (.getfield 201, 3) := by decide +kernel
theorem dX12_about_42 : decode cX12_about 42 = .ok (.iload_n 1, 1) := by decide +kernel
theorem dX12_about_43 : decode cX12_about 43 = .ok (.iaload, 1) := by decide +kernel
theorem dX12_about_44 : decode cX12_about 44 = .ok (.goto 34, 3) := by decide +kernel
theorem dX12_about_47 : decode cX12_about 47 = .ok (.iload_n 2, 1) := by decide +kernel
theorem dX12_about_48 : decode cX12_about 48 = .ok (.bipush 6, 2) := by decide +kernel
theorem dX12_about_50 : decode cX12_about 50 = .ok (.if_icmp .ne 12, 3) := by decide +kernel
theorem dX12_about_53 : decode cX12_about 53 = .ok (.aload_n 0, 1) := by decide +kernel
theorem dX12_about_54 : decode cX12_about 54 = .ok (.getfield 203, 3) := by decide +kernel
theorem dX12_about_57 : decode cX12_about 57 = .ok (.iload_n 1, 1) := by decide +kernel
theorem dX12_about_58 : decode cX12_about 58 = .ok (.iaload, 1) := by decide +kernel
theorem dX12_about_59 : decode cX12_about 59 = .ok (.goto 19, 3) := by decide +kernel
theorem dX12_about_62 : decode cX12_about 62 = .ok (.iload_n 2, 1) := by decide +kernel
theorem dX12_about_63 : decode cX12_about 63 = .ok (.bipush 7, 2) := by decide +kernel
theorem dX12_about_65 : decode cX12_about 65 = .ok (.if_icmp .ne 12, 3) := by decide +kernel
theorem dX12_about_68 : decode cX12_about 68 = .ok (.aload_n 0, 1) := by decide +kernel
theorem dX12_about_69 : decode cX12_about 69 = .ok (.getfield 205, 3) := by decide +kernel
theorem dX12_about_72 : decode cX12_about 72 = .ok (.iload_n 1, 1) := by decide +kernel
theorem dX12_about_73 : decode cX12_about 73 = .ok (.iaload, 1) := by decide +kernel
theorem dX12_about_74 : decode cX12_about 74 = .ok (.goto 4, 3) := by decide +kernel
theorem dX12_about_77 : decode cX12_about 77 = .ok (.iconst (-1), 1) := by decide +kernel
theorem dX12_about_78 : decode cX12_about 78 = .ok (.ireturn, 1) := by decide +kernel
theorem dX12_isStuff_0 : decode cX12_isStuff 0 = .ok (.iload_n 0, 1) := by decide +kernel
theorem dX12_isStuff_1 : decode cX12_isStuff 1 = .ok (.i2l, 1) := by decide +kernel
theorem dX12_isStuff_2 : decode cX12_isStuff 2 = .ok (.lconst 0, 1) := by decide +kernel
theorem dX12_isStuff_3 : decode cX12_isStuff 3 = .ok (.ldc2_w 291, 3) := by decide +kernel
theorem dX12_isStuff_6 : decode cX12_isStuff 6 = .ok (.invokestatic 5, 3) := by decide +kernel
theorem dX12_isStuff_9 : decode cX12_isStuff 9 = .ok (.ireturn, 1) := by decide +kernel
theorem dX12_like_0 : decode cX12_like 0 = .ok (.iload_n 1, 1) := by decide +kernel
theorem dX12_like_1 : decode cX12_like 1 = .ok (.invokestatic 303, 3) := by decide +kernel
theorem dX12_like_4 : decode cX12_like 4 = .ok (.ifCond .eq 23, 3) := by decide +kernel
theorem dX12_like_7 : decode cX12_like 7 = .ok (.iload_n 2, 1) := by decide +kernel
theorem dX12_like_8 : decode cX12_like 8 = .ok (.i2l, 1) := by decide +kernel
theorem dX12_like_9 : decode cX12_like 9 = .ok (.lconst 0, 1) := by decide +kernel
theorem dX12_like_10 : decode cX12_like 10 = .ok (.iload_n 1, 1) := by decide +kernel
theorem dX12_like_11 : decode cX12_like 11 = .ok (.i2l, 1) := by decide +kernel
theorem dX12_like_12 : decode cX12_like 12 = .ok (.lconst 1, 1) := by decide +kernel
theorem dX12_like_13 : decode cX12_like 13 = .ok (.lsub, 1) := by decide +kernel
theorem dX12_like_14 : decode cX12_like 14 = .ok (.invokestatic 5, 3) := by decide +kernel
theorem dX12_like_17 : decode cX12_like 17 = .ok (.ifCond .eq 10, 3) := by decide +kernel
theorem dX12_like_20 : decode cX12_like 20 = .ok (.iload_n 3, 1) := by decide +kernel
theorem dX12_like_21 : decode cX12_like 21 = .ok (.invokestatic 259, 3) := by decide +kernel
theorem dX12_like_24 : decode cX12_like 24 = .ok (.ifCond .ne 6, 3) := by decide +kernel
theorem dX12_like_27 : decode cX12_like 27 = .ok (.bipush (-2), 2) := by decide +kernel
theorem dX12_like_29 : decode cX12_like 29 = .ok (.ireturn, 1) := by decide +kernel
theorem dX12_like_30 : decode cX12_like 30 = .ok (.aload_n 0, 1) := by decide +kernel
theorem dX12_like_31 : decode cX12_like 31 = .ok (.getfield 306, 3) := by decide +kernel
theorem dX12_like_34 : decode cX12_like 34 = .ok (.bipush 30, 2) := by decide +kernel
theorem dX12_like_36 : decode cX12_like 36 = .ok (.if_icmp .ne 6, 3) := by decide +kernel
theorem dX12_like_39 : decode cX12_like 39 = .ok (.bipush (-3), 2) := by decide +kernel
theorem dX12_like_41 : decode cX12_like 41 = .ok (.ireturn, 1) := by decide +kernel
theorem dX12_like_42 : decode cX12_like 42 = .ok (.aload_n 0, 1) := by decide +kernel
theorem dX12_like_43 : decode cX12_like 43 = .ok (.getfield 208, 3) := by decide +kernel
theorem dX12_like_46 : decode cX12_like 46 = .ok (.aload_n 0, 1) := by decide +kernel
theorem dX12_like_47 : decode cX12_like 47 = .ok (.getfield 306, 3) := by decide +kernel
theorem dX12_like_50 : decode cX12_like 50 = .ok (.iload_n 1, 1) := by decide +kernel
theorem dX12_like_51 : decode cX12_like 51 = .ok (.iastore, 1) := by decide +kernel
theorem dX12_like_52 : decode cX12_like 52 = .ok (.aload_n 0, 1) := by decide +kernel
theorem dX12_like_53 : decode cX12_like 53 = .ok (.getfield 211, 3) := by decide +kernel
theorem dX12_like_56 : decode cX12_like 56 = .ok (.aload_n 0, 1) := by decide +kernel
theorem dX12_like_57 : decode cX12_like 57 = .ok (.getfield 306, 3) := by decide +kernel
theorem dX12_like_60 : decode cX12_like 60 = .ok (.iload_n 2, 1) := by decide +kernel
theorem dX12_like_61 : decode cX12_like 61 = .ok (.iastore, 1) := by decide +kernel
theorem dX12_like_62 : decode cX12_like 62 = .ok (.aload_n 0, 1) := by decide +kernel
theorem dX12_like_63 : decode cX12_like 63 = .ok (.getfield 214, 3) := by decide +kernel
theorem dX12_like_66 : decode cX12_like 66 = .ok (.aload_n 0, 1) := by decide +kernel
theorem dX12_like_67 : decode cX12_like 67 = .ok (.getfield 306, 3) := by decide +kernel
theorem dX12_like_70 : decode cX12_like 70 = .ok (.iload_n 3, 1) := by decide +kernel
theorem dX12_like_71 : decode cX12_like 71 = .ok (.iastore, 1) := by decide +kernel
theorem dX12_like_72 : decode cX12_like 72 = .ok (.aload_n 0, 1) := by decide +kernel
theorem dX12_like_73 : decode cX12_like 73 = .ok (.dup, 1) := by decide +kernel
theorem dX12_like_74 : decode cX12_like 74 = .ok (.getfield 306, 3) := by decide +kernel
theorem dX12_like_77 : decode cX12_like 77 = .ok (.iconst 1, 1) := by decide +kernel
theorem dX12_like_78 : decode cX12_like 78 = .ok (.iadd, 1) := by decide +kernel
theorem dX12_like_79 : decode cX12_like 79 = .ok (.putfield 306, 3) := by decide +kernel
theorem dX12_like_82 : decode cX12_like 82 = .ok (.aload_n 0, 1) := by decide +kernel
theorem dX12_like_83 : decode cX12_like 83 = .ok (.getfield 306, 3) := by decide +kernel
theorem dX12_like_86 : decode cX12_like 86 = .ok (.ireturn, 1) := by decide +kernel
theorem dX12_countsAs_0 : decode cX12_countsAs 0 = .ok (.iload_n 1, 1) := by decide +kernel
theorem dX12_countsAs_1 : decode cX12_countsAs 1 = .ok (.istore_n 3, 1) := by decide +kernel
theorem dX12_countsAs_2 : decode cX12_countsAs 2 = .ok (.iconst 0, 1) := by decide +kernel
theorem dX12_countsAs_3 : decode cX12_countsAs 3 = .ok (.istore 4, 2) := by decide +kernel
theorem dX12_countsAs_5 : decode cX12_countsAs 5 = .ok (.iload 4, 2) := by decide +kernel
theorem dX12_countsAs_7 : decode cX12_countsAs 7 = .ok (.iconst (-1), 1) := by decide +kernel
theorem dX12_countsAs_8 : decode cX12_countsAs 8 = .ok (.if_icmp .eq 90, 3) := by decide +kernel
theorem dX12_countsAs_11 : decode cX12_countsAs 11 = .ok (.iconst (-1), 1) := by decide +kernel
theorem dX12_countsAs_12 : decode cX12_countsAs 12 = .ok (.istore 4, 2) := by decide +kernel
theorem dX12_countsAs_14 : decode cX12_countsAs 14 = .ok (.iconst 0, 1) := by decide +kernel
theorem dX12_countsAs_15 : decode cX12_countsAs 15 = .ok (.istore 5, 2) := by decide +kernel
theorem dX12_countsAs_17 : decode cX12_countsAs 17 = .ok (.iload 5, 2) := by decide +kernel
theorem dX12_countsAs_19 : decode cX12_countsAs 19 = .ok (.aload_n 0, 1) := by decide +kernel
theorem dX12_countsAs_20 : decode cX12_countsAs 20 = .ok (.getfield 306, 3) := by decide +kernel
theorem dX12_countsAs_23 : decode cX12_countsAs 23 = .ok (.if_icmp .ge 58, 3) := by decide +kernel
theorem dX12_countsAs_26 : decode cX12_countsAs 26 = .ok (.aload_n 0, 1) := by decide +kernel
theorem dX12_countsAs_27 : decode cX12_countsAs 27 = .ok (.getfield 208, 3) := by decide +kernel
theorem dX12_countsAs_30 : decode cX12_countsAs 30 = .ok (.iload 5, 2) := by decide +kernel
theorem dX12_countsAs_32 : decode cX12_countsAs 32 = .ok (.iaload, 1) := by decide +kernel
theorem dX12_countsAs_33 : decode cX12_countsAs 33 = .ok (.iload_n 3, 1) := by decide +kernel
theorem dX12_countsAs_34 : decode cX12_countsAs 34 = .ok (.if_icmp .ne 41, 3) := by decide +kernel
theorem dX12_countsAs_37 : decode cX12_countsAs 37 = .ok (.aload_n 0, 1) := by decide +kernel
theorem dX12_countsAs_38 : decode cX12_countsAs 38 = .ok (.getfield 214, 3) := by decide +kernel
theorem dX12_countsAs_41 : decode cX12_countsAs 41 = .ok (.iload 5, 2) := by decide +kernel
theorem dX12_countsAs_43 : decode cX12_countsAs 43 = .ok (.iaload, 1) := by decide +kernel
theorem dX12_countsAs_44 : decode cX12_countsAs 44 = .ok (.iload_n 2, 1) := by decide +kernel
theorem dX12_countsAs_45 : decode cX12_countsAs 45 = .ok (.if_icmp .gt 30, 3) := by decide +kernel
theorem dX12_countsAs_48 : decode cX12_countsAs 48 = .ok (.iload 4, 2) := by decide +kernel
theorem dX12_countsAs_50 : decode cX12_countsAs 50 = .ok (.iconst (-1), 1) := by decide +kernel
theorem dX12_countsAs_51 : decode cX12_countsAs 51 = .ok (.if_icmp .eq 20, 3) := by decide +kernel
theorem dX12_countsAs_54 : decode cX12_countsAs 54 = .ok (.aload_n 0, 1) := by decide +kernel
theorem dX12_countsAs_55 : decode cX12_countsAs 55 = .ok (.getfield 214, 3) := by decide +kernel
theorem dX12_countsAs_58 : decode cX12_countsAs 58 = .ok (.iload 5, 2) := by decide +kernel
theorem dX12_countsAs_60 : decode cX12_countsAs 60 = .ok (.iaload, 1) := by decide +kernel
theorem dX12_countsAs_61 : decode cX12_countsAs 61 = .ok (.aload_n 0, 1) := by decide +kernel
theorem dX12_countsAs_62 : decode cX12_countsAs 62 = .ok (.getfield 214, 3) := by decide +kernel
theorem dX12_countsAs_65 : decode cX12_countsAs 65 = .ok (.iload 4, 2) := by decide +kernel
theorem dX12_countsAs_67 : decode cX12_countsAs 67 = .ok (.iaload, 1) := by decide +kernel
theorem dX12_countsAs_68 : decode cX12_countsAs 68 = .ok (.if_icmp .lt 7, 3) := by decide +kernel
theorem dX12_countsAs_71 : decode cX12_countsAs 71 = .ok (.iload 5, 2) := by decide +kernel
theorem dX12_countsAs_73 : decode cX12_countsAs 73 = .ok (.istore 4, 2) := by decide +kernel
theorem dX12_countsAs_75 : decode cX12_countsAs 75 = .ok (.iinc 5 1, 3) := by decide +kernel
theorem dX12_countsAs_78 : decode cX12_countsAs 78 = .ok (.goto (-61), 3) := by decide +kernel
theorem dX12_countsAs_81 : decode cX12_countsAs 81 = .ok (.iload 4, 2) := by decide +kernel
theorem dX12_countsAs_83 : decode cX12_countsAs 83 = .ok (.iconst (-1), 1) := by decide +kernel
theorem dX12_countsAs_84 : decode cX12_countsAs 84 = .ok (.if_icmp .eq (-79), 3) := by decide +kernel
theorem dX12_countsAs_87 : decode cX12_countsAs 87 = .ok (.aload_n 0, 1) := by decide +kernel
theorem dX12_countsAs_88 : decode cX12_countsAs 88 = .ok (.getfield 211, 3) := by decide +kernel
theorem dX12_countsAs_91 : decode cX12_countsAs 91 = .ok (.iload 4, 2) := by decide +kernel
theorem dX12_countsAs_93 : decode cX12_countsAs 93 = .ok (.iaload, 1) := by decide +kernel
theorem dX12_countsAs_94 : decode cX12_countsAs 94 = .ok (.istore_n 3, 1) := by decide +kernel
theorem dX12_countsAs_95 : decode cX12_countsAs 95 = .ok (.goto (-90), 3) := by decide +kernel
theorem dX12_countsAs_98 : decode cX12_countsAs 98 = .ok (.iload_n 3, 1) := by decide +kernel
theorem dX12_countsAs_99 : decode cX12_countsAs 99 = .ok (.ireturn, 1) := by decide +kernel
theorem dX12_counts_0 : decode cX12_counts 0 = .ok (.iload_n 1, 1) := by decide +kernel
theorem dX12_counts_1 : decode cX12_counts 1 = .ok (.invokestatic 303, 3) := by decide +kernel
theorem dX12_counts_4 : decode cX12_counts 4 = .ok (.ifCond .eq 19, 3) := by decide +kernel
theorem dX12_counts_7 : decode cX12_counts 7 = .ok (.iload_n 2, 1) := by decide +kernel
theorem dX12_counts_8 : decode cX12_counts 8 = .ok (.invokestatic 259, 3) := by decide +kernel
theorem dX12_counts_11 : decode cX12_counts 11 = .ok (.ifCond .eq 12, 3) := by decide +kernel
theorem dX12_counts_14 : decode cX12_counts 14 = .ok (.aload_n 0, 1) := by decide +kernel
theorem dX12_counts_15 : decode cX12_counts 15 = .ok (.iload_n 1, 1) := by decide +kernel
theorem dX12_counts_16 : decode cX12_counts 16 = .ok (.iload_n 2, 1) := by decide +kernel
theorem dX12_counts_17 : decode cX12_counts 17 = .ok (.invokevirtual 309, 3) := by decide +kernel
theorem dX12_counts_20 : decode cX12_counts 20 = .ok (.goto 5, 3) := by decide +kernel
theorem dX12_counts_23 : decode cX12_counts 23 = .ok (.bipush (-2), 2) := by decide +kernel
theorem dX12_counts_25 : decode cX12_counts 25 = .ok (.ireturn, 1) := by decide +kernel
theorem dX12_binds_0 : decode cX12_binds 0 = .ok (.bipush 12, 2) := by decide +kernel
theorem dX12_binds_2 : decode cX12_binds 2 = .ok (.iload_n 1, 1) := by decide +kernel
theorem dX12_binds_3 : decode cX12_binds 3 = .ok (.imul, 1) := by decide +kernel
theorem dX12_binds_4 : decode cX12_binds 4 = .ok (.iload_n 2, 1) := by decide +kernel
theorem dX12_binds_5 : decode cX12_binds 5 = .ok (.iadd, 1) := by decide +kernel
theorem dX12_binds_6 : decode cX12_binds 6 = .ok (.istore 7, 2) := by decide +kernel
theorem dX12_binds_8 : decode cX12_binds 8 = .ok (.aload_n 0, 1) := by decide +kernel
theorem dX12_binds_9 : decode cX12_binds 9 = .ok (.iload_n 1, 1) := by decide +kernel
theorem dX12_binds_10 : decode cX12_binds 10 = .ok (.iload 6, 2) := by decide +kernel
theorem dX12_binds_12 : decode cX12_binds 12 = .ok (.invokevirtual 268, 3) := by decide +kernel
theorem dX12_binds_15 : decode cX12_binds 15 = .ok (.ifCond .eq 50, 3) := by decide +kernel
theorem dX12_binds_18 : decode cX12_binds 18 = .ok (.iload_n 3, 1) := by decide +kernel
theorem dX12_binds_19 : decode cX12_binds 19 = .ok (.i2l, 1) := by decide +kernel
theorem dX12_binds_20 : decode cX12_binds 20 = .ok (.aload_n 0, 1) := by decide +kernel
theorem dX12_binds_21 : decode cX12_binds 21 = .ok (.getfield 132, 3) := by decide +kernel
theorem dX12_binds_24 : decode cX12_binds 24 = .ok (.iload 7, 2) := by decide +kernel
theorem dX12_binds_26 : decode cX12_binds 26 = .ok (.iaload, 1) := by decide +kernel
theorem dX12_binds_27 : decode cX12_binds 27 = .ok (.i2l, 1) := by decide +kernel
theorem dX12_binds_28 : decode cX12_binds 28 = .ok (.aload_n 0, 1) := by decide +kernel
theorem dX12_binds_29 : decode cX12_binds 29 = .ok (.getfield 135, 3) := by decide +kernel
theorem dX12_binds_32 : decode cX12_binds 32 = .ok (.iload 7, 2) := by decide +kernel
theorem dX12_binds_34 : decode cX12_binds 34 = .ok (.iaload, 1) := by decide +kernel
theorem dX12_binds_35 : decode cX12_binds 35 = .ok (.i2l, 1) := by decide +kernel
theorem dX12_binds_36 : decode cX12_binds 36 = .ok (.invokestatic 5, 3) := by decide +kernel
theorem dX12_binds_39 : decode cX12_binds 39 = .ok (.ifCond .eq 26, 3) := by decide +kernel
theorem dX12_binds_42 : decode cX12_binds 42 = .ok (.aload_n 0, 1) := by decide +kernel
theorem dX12_binds_43 : decode cX12_binds 43 = .ok (.getfield 148, 3) := by decide +kernel
theorem dX12_binds_46 : decode cX12_binds 46 = .ok (.iload 7, 2) := by decide +kernel
theorem dX12_binds_48 : decode cX12_binds 48 = .ok (.iaload, 1) := by decide +kernel
theorem dX12_binds_49 : decode cX12_binds 49 = .ok (.iconst 3, 1) := by decide +kernel
theorem dX12_binds_50 : decode cX12_binds 50 = .ok (.if_icmp .eq 17, 3) := by decide +kernel
theorem dX12_binds_53 : decode cX12_binds 53 = .ok (.aload_n 0, 1) := by decide +kernel
theorem dX12_binds_54 : decode cX12_binds 54 = .ok (.getfield 148, 3) := by decide +kernel
theorem dX12_binds_57 : decode cX12_binds 57 = .ok (.iload 7, 2) := by decide +kernel
theorem dX12_binds_59 : decode cX12_binds 59 = .ok (.iaload, 1) := by decide +kernel
theorem dX12_binds_60 : decode cX12_binds 60 = .ok (.iload 4, 2) := by decide +kernel
theorem dX12_binds_62 : decode cX12_binds 62 = .ok (.if_icmp .eq 5, 3) := by decide +kernel
theorem dX12_binds_65 : decode cX12_binds 65 = .ok (.iconst 0, 1) := by decide +kernel
theorem dX12_binds_66 : decode cX12_binds 66 = .ok (.ireturn, 1) := by decide +kernel
theorem dX12_binds_67 : decode cX12_binds 67 = .ok (.aload_n 0, 1) := by decide +kernel
theorem dX12_binds_68 : decode cX12_binds 68 = .ok (.getfield 205, 3) := by decide +kernel
theorem dX12_binds_71 : decode cX12_binds 71 = .ok (.iload 5, 2) := by decide +kernel
theorem dX12_binds_73 : decode cX12_binds 73 = .ok (.iaload, 1) := by decide +kernel
theorem dX12_binds_74 : decode cX12_binds 74 = .ok (.iconst (-1), 1) := by decide +kernel
theorem dX12_binds_75 : decode cX12_binds 75 = .ok (.if_icmp .eq 37, 3) := by decide +kernel
theorem dX12_binds_78 : decode cX12_binds 78 = .ok (.aload_n 0, 1) := by decide +kernel
theorem dX12_binds_79 : decode cX12_binds 79 = .ok (.getfield 205, 3) := by decide +kernel
theorem dX12_binds_82 : decode cX12_binds 82 = .ok (.iload 5, 2) := by decide +kernel
theorem dX12_binds_84 : decode cX12_binds 84 = .ok (.iaload, 1) := by decide +kernel
theorem dX12_binds_85 : decode cX12_binds 85 = .ok (.aload_n 0, 1) := by decide +kernel
theorem dX12_binds_86 : decode cX12_binds 86 = .ok (.getfield 168, 3) := by decide +kernel
theorem dX12_binds_89 : decode cX12_binds 89 = .ok (.iload_n 1, 1) := by decide +kernel
theorem dX12_binds_90 : decode cX12_binds 90 = .ok (.iaload, 1) := by decide +kernel
theorem dX12_binds_91 : decode cX12_binds 91 = .ok (.if_icmp .ge 21, 3) := by decide +kernel
theorem dX12_binds_94 : decode cX12_binds 94 = .ok (.iload 6, 2) := by decide +kernel
theorem dX12_binds_96 : decode cX12_binds 96 = .ok (.aload_n 0, 1) := by decide +kernel
theorem dX12_binds_97 : decode cX12_binds 97 = .ok (.getfield 168, 3) := by decide +kernel
theorem dX12_binds_100 : decode cX12_binds 100 = .ok (.iload_n 1, 1) := by decide +kernel
theorem dX12_binds_101 : decode cX12_binds 101 = .ok (.iaload, 1) := by decide +kernel
theorem dX12_binds_102 : decode cX12_binds 102 = .ok (.aload_n 0, 1) := by decide +kernel
theorem dX12_binds_103 : decode cX12_binds 103 = .ok (.getfield 92, 3) := by decide +kernel
theorem dX12_binds_106 : decode cX12_binds 106 = .ok (.iload_n 1, 1) := by decide +kernel
theorem dX12_binds_107 : decode cX12_binds 107 = .ok (.iaload, 1) := by decide +kernel
theorem dX12_binds_108 : decode cX12_binds 108 = .ok (.iadd, 1) := by decide +kernel
theorem dX12_binds_109 : decode cX12_binds 109 = .ok (.if_icmp .lt 7, 3) := by decide +kernel
theorem dX12_binds_112 : decode cX12_binds 112 = .ok (.iconst 1, 1) := by decide +kernel
theorem dX12_binds_113 : decode cX12_binds 113 = .ok (.goto 4, 3) := by decide +kernel
theorem dX12_binds_116 : decode cX12_binds 116 = .ok (.iconst 0, 1) := by decide +kernel
theorem dX12_binds_117 : decode cX12_binds 117 = .ok (.ireturn, 1) := by decide +kernel
theorem dX12_isBroken_0 : decode cX12_isBroken 0 = .ok (.bipush 12, 2) := by decide +kernel
theorem dX12_isBroken_2 : decode cX12_isBroken 2 = .ok (.iload_n 1, 1) := by decide +kernel
theorem dX12_isBroken_3 : decode cX12_isBroken 3 = .ok (.imul, 1) := by decide +kernel
theorem dX12_isBroken_4 : decode cX12_isBroken 4 = .ok (.iload_n 2, 1) := by decide +kernel
theorem dX12_isBroken_5 : decode cX12_isBroken 5 = .ok (.iadd, 1) := by decide +kernel
theorem dX12_isBroken_6 : decode cX12_isBroken 6 = .ok (.istore 5, 2) := by decide +kernel
theorem dX12_isBroken_8 : decode cX12_isBroken 8 = .ok (.aload_n 0, 1) := by decide +kernel
theorem dX12_isBroken_9 : decode cX12_isBroken 9 = .ok (.getfield 127, 3) := by decide +kernel
theorem dX12_isBroken_12 : decode cX12_isBroken 12 = .ok (.iload 5, 2) := by decide +kernel
theorem dX12_isBroken_14 : decode cX12_isBroken 14 = .ok (.iaload, 1) := by decide +kernel
theorem dX12_isBroken_15 : decode cX12_isBroken 15 = .ok (.tableswitch 97 5 7 #[25, 53, 75], 25) := by decide +kernel
theorem dX12_isBroken_40 : decode cX12_isBroken 40 = .ok (.aload_n 0, 1) := by decide +kernel
theorem dX12_isBroken_41 : decode cX12_isBroken 41 = .ok (.aload_n 0, 1) := by decide +kernel
theorem dX12_isBroken_42 : decode cX12_isBroken 42 = .ok (.getfield 201, 3) := by decide +kernel
theorem dX12_isBroken_45 : decode cX12_isBroken 45 = .ok (.iload_n 3, 1) := by decide +kernel
theorem dX12_isBroken_46 : decode cX12_isBroken 46 = .ok (.iaload, 1) := by decide +kernel
theorem dX12_isBroken_47 : decode cX12_isBroken 47 = .ok (.iload 4, 2) := by decide +kernel
theorem dX12_isBroken_49 : decode cX12_isBroken 49 = .ok (.invokevirtual 309, 3) := by decide +kernel
theorem dX12_isBroken_52 : decode cX12_isBroken 52 = .ok (.aload_n 0, 1) := by decide +kernel
theorem dX12_isBroken_53 : decode cX12_isBroken 53 = .ok (.getfield 130, 3) := by decide +kernel
theorem dX12_isBroken_56 : decode cX12_isBroken 56 = .ok (.iload 5, 2) := by decide +kernel
theorem dX12_isBroken_58 : decode cX12_isBroken 58 = .ok (.iaload, 1) := by decide +kernel
theorem dX12_isBroken_59 : decode cX12_isBroken 59 = .ok (.if_icmp .ne 7, 3) := by decide +kernel
theorem dX12_isBroken_62 : decode cX12_isBroken 62 = .ok (.iconst 1, 1) := by decide +kernel
theorem dX12_isBroken_63 : decode cX12_isBroken 63 = .ok (.goto 4, 3) := by decide +kernel
theorem dX12_isBroken_66 : decode cX12_isBroken 66 = .ok (.iconst 0, 1) := by decide +kernel
theorem dX12_isBroken_67 : decode cX12_isBroken 67 = .ok (.ireturn, 1) := by decide +kernel
theorem dX12_isBroken_68 : decode cX12_isBroken 68 = .ok (.aload_n 0, 1) := by decide +kernel
theorem dX12_isBroken_69 : decode cX12_isBroken 69 = .ok (.getfield 203, 3) := by decide +kernel
theorem dX12_isBroken_72 : decode cX12_isBroken 72 = .ok (.iload_n 3, 1) := by decide +kernel
theorem dX12_isBroken_73 : decode cX12_isBroken 73 = .ok (.iaload, 1) := by decide +kernel
theorem dX12_isBroken_74 : decode cX12_isBroken 74 = .ok (.aload_n 0, 1) := by decide +kernel
theorem dX12_isBroken_75 : decode cX12_isBroken 75 = .ok (.getfield 130, 3) := by decide +kernel
theorem dX12_isBroken_78 : decode cX12_isBroken 78 = .ok (.iload 5, 2) := by decide +kernel
theorem dX12_isBroken_80 : decode cX12_isBroken 80 = .ok (.iaload, 1) := by decide +kernel
theorem dX12_isBroken_81 : decode cX12_isBroken 81 = .ok (.if_icmp .ne 7, 3) := by decide +kernel
theorem dX12_isBroken_84 : decode cX12_isBroken 84 = .ok (.iconst 1, 1) := by decide +kernel
theorem dX12_isBroken_85 : decode cX12_isBroken 85 = .ok (.goto 4, 3) := by decide +kernel
theorem dX12_isBroken_88 : decode cX12_isBroken 88 = .ok (.iconst 0, 1) := by decide +kernel
theorem dX12_isBroken_89 : decode cX12_isBroken 89 = .ok (.ireturn, 1) := by decide +kernel
theorem dX12_isBroken_90 : decode cX12_isBroken 90 = .ok (.aload_n 0, 1) := by decide +kernel
theorem dX12_isBroken_91 : decode cX12_isBroken 91 = .ok (.getfield 203, 3) := by decide +kernel
theorem dX12_isBroken_94 : decode cX12_isBroken 94 = .ok (.iload_n 3, 1) := by decide +kernel
theorem dX12_isBroken_95 : decode cX12_isBroken 95 = .ok (.iaload, 1) := by decide +kernel
theorem dX12_isBroken_96 : decode cX12_isBroken 96 = .ok (.aload_n 0, 1) := by decide +kernel
theorem dX12_isBroken_97 : decode cX12_isBroken 97 = .ok (.getfield 130, 3) := by decide +kernel
theorem dX12_isBroken_100 : decode cX12_isBroken 100 = .ok (.iload 5, 2) := by decide +kernel
theorem dX12_isBroken_102 : decode cX12_isBroken 102 = .ok (.iaload, 1) := by decide +kernel
theorem dX12_isBroken_103 : decode cX12_isBroken 103 = .ok (.if_icmp .eq 7, 3) := by decide +kernel
theorem dX12_isBroken_106 : decode cX12_isBroken 106 = .ok (.iconst 1, 1) := by decide +kernel
theorem dX12_isBroken_107 : decode cX12_isBroken 107 = .ok (.goto 4, 3) := by decide +kernel
theorem dX12_isBroken_110 : decode cX12_isBroken 110 = .ok (.iconst 0, 1) := by decide +kernel
theorem dX12_isBroken_111 : decode cX12_isBroken 111 = .ok (.ireturn, 1) := by decide +kernel
theorem dX12_isBroken_112 : decode cX12_isBroken 112 = .ok (.aload_n 0, 1) := by decide +kernel
theorem dX12_isBroken_113 : decode cX12_isBroken 113 = .ok (.getfield 198, 3) := by decide +kernel
theorem dX12_isBroken_116 : decode cX12_isBroken 116 = .ok (.iconst 5, 1) := by decide +kernel
theorem dX12_isBroken_117 : decode cX12_isBroken 117 = .ok (.iload_n 3, 1) := by decide +kernel
theorem dX12_isBroken_118 : decode cX12_isBroken 118 = .ok (.imul, 1) := by decide +kernel
theorem dX12_isBroken_119 : decode cX12_isBroken 119 = .ok (.aload_n 0, 1) := by decide +kernel
theorem dX12_isBroken_120 : decode cX12_isBroken 120 = .ok (.getfield 127, 3) := by decide +kernel
theorem dX12_isBroken_123 : decode cX12_isBroken 123 = .ok (.iload 5, 2) := by decide +kernel
theorem dX12_isBroken_125 : decode cX12_isBroken 125 = .ok (.iaload, 1) := by decide +kernel
theorem dX12_isBroken_126 : decode cX12_isBroken 126 = .ok (.iadd, 1) := by decide +kernel
theorem dX12_isBroken_127 : decode cX12_isBroken 127 = .ok (.iaload, 1) := by decide +kernel
theorem dX12_isBroken_128 : decode cX12_isBroken 128 = .ok (.aload_n 0, 1) := by decide +kernel
theorem dX12_isBroken_129 : decode cX12_isBroken 129 = .ok (.getfield 130, 3) := by decide +kernel
theorem dX12_isBroken_132 : decode cX12_isBroken 132 = .ok (.iload 5, 2) := by decide +kernel
theorem dX12_isBroken_134 : decode cX12_isBroken 134 = .ok (.iaload, 1) := by decide +kernel
theorem dX12_isBroken_135 : decode cX12_isBroken 135 = .ok (.if_icmp .le 7, 3) := by decide +kernel
theorem dX12_isBroken_138 : decode cX12_isBroken 138 = .ok (.iconst 1, 1) := by decide +kernel
theorem dX12_isBroken_139 : decode cX12_isBroken 139 = .ok (.goto 4, 3) := by decide +kernel
theorem dX12_isBroken_142 : decode cX12_isBroken 142 = .ok (.iconst 0, 1) := by decide +kernel
theorem dX12_isBroken_143 : decode cX12_isBroken 143 = .ok (.ireturn, 1) := by decide +kernel
theorem dX12_brokenOf_0 : decode cX12_brokenOf 0 = .ok (.iconst 0, 1) := by decide +kernel
theorem dX12_brokenOf_1 : decode cX12_brokenOf 1 = .ok (.istore 6, 2) := by decide +kernel
theorem dX12_brokenOf_3 : decode cX12_brokenOf 3 = .ok (.iconst 0, 1) := by decide +kernel
theorem dX12_brokenOf_4 : decode cX12_brokenOf 4 = .ok (.istore 7, 2) := by decide +kernel
theorem dX12_brokenOf_6 : decode cX12_brokenOf 6 = .ok (.iload 7, 2) := by decide +kernel
theorem dX12_brokenOf_8 : decode cX12_brokenOf 8 = .ok (.aload_n 0, 1) := by decide +kernel
theorem dX12_brokenOf_9 : decode cX12_brokenOf 9 = .ok (.getfield 88, 3) := by decide +kernel
theorem dX12_brokenOf_12 : decode cX12_brokenOf 12 = .ok (.iload_n 1, 1) := by decide +kernel
theorem dX12_brokenOf_13 : decode cX12_brokenOf 13 = .ok (.iaload, 1) := by decide +kernel
theorem dX12_brokenOf_14 : decode cX12_brokenOf 14 = .ok (.if_icmp .ge 48, 3) := by decide +kernel
theorem dX12_brokenOf_17 : decode cX12_brokenOf 17 = .ok (.aload_n 0, 1) := by decide +kernel
theorem dX12_brokenOf_18 : decode cX12_brokenOf 18 = .ok (.iload_n 1, 1) := by decide +kernel
theorem dX12_brokenOf_19 : decode cX12_brokenOf 19 = .ok (.iload 7, 2) := by decide +kernel
theorem dX12_brokenOf_21 : decode cX12_brokenOf 21 = .ok (.iload_n 2, 1) := by decide +kernel
theorem dX12_brokenOf_22 : decode cX12_brokenOf 22 = .ok (.iload_n 3, 1) := by decide +kernel
theorem dX12_brokenOf_23 : decode cX12_brokenOf 23 = .ok (.iload 4, 2) := by decide +kernel
theorem dX12_brokenOf_25 : decode cX12_brokenOf 25 = .ok (.iload 5, 2) := by decide +kernel
theorem dX12_brokenOf_27 : decode cX12_brokenOf 27 = .ok (.invokevirtual 312, 3) := by decide +kernel
theorem dX12_brokenOf_30 : decode cX12_brokenOf 30 = .ok (.ifCond .eq 26, 3) := by decide +kernel
theorem dX12_brokenOf_33 : decode cX12_brokenOf 33 = .ok (.aload_n 0, 1) := by decide +kernel
theorem dX12_brokenOf_34 : decode cX12_brokenOf 34 = .ok (.iload_n 1, 1) := by decide +kernel
theorem dX12_brokenOf_35 : decode cX12_brokenOf 35 = .ok (.iload 7, 2) := by decide +kernel
theorem dX12_brokenOf_37 : decode cX12_brokenOf 37 = .ok (.iload 4, 2) := by decide +kernel
theorem dX12_brokenOf_39 : decode cX12_brokenOf 39 = .ok (.iload 5, 2) := by decide +kernel
theorem dX12_brokenOf_41 : decode cX12_brokenOf 41 = .ok (.invokevirtual 316, 3) := by decide +kernel
theorem dX12_brokenOf_44 : decode cX12_brokenOf 44 = .ok (.ifCond .eq 12, 3) := by decide +kernel
theorem dX12_brokenOf_47 : decode cX12_brokenOf 47 = .ok (.iload 6, 2) := by decide +kernel
theorem dX12_brokenOf_49 : decode cX12_brokenOf 49 = .ok (.iconst 1, 1) := by decide +kernel
theorem dX12_brokenOf_50 : decode cX12_brokenOf 50 = .ok (.iload 7, 2) := by decide +kernel
theorem dX12_brokenOf_52 : decode cX12_brokenOf 52 = .ok (.ishl, 1) := by decide +kernel
theorem dX12_brokenOf_53 : decode cX12_brokenOf 53 = .ok (.ior, 1) := by decide +kernel
theorem dX12_brokenOf_54 : decode cX12_brokenOf 54 = .ok (.istore 6, 2) := by decide +kernel
theorem dX12_brokenOf_56 : decode cX12_brokenOf 56 = .ok (.iinc 7 1, 3) := by decide +kernel
theorem dX12_brokenOf_59 : decode cX12_brokenOf 59 = .ok (.goto (-53), 3) := by decide +kernel
theorem dX12_brokenOf_62 : decode cX12_brokenOf 62 = .ok (.iload 6, 2) := by decide +kernel
theorem dX12_brokenOf_64 : decode cX12_brokenOf 64 = .ok (.ireturn, 1) := by decide +kernel
theorem dX12_isCase_0 : decode cX12_isCase 0 = .ok (.iload_n 1, 1) := by decide +kernel
theorem dX12_isCase_1 : decode cX12_isCase 1 = .ok (.invokestatic 274, 3) := by decide +kernel
theorem dX12_isCase_4 : decode cX12_isCase 4 = .ok (.ifCond .eq 22, 3) := by decide +kernel
theorem dX12_isCase_7 : decode cX12_isCase 7 = .ok (.aload_n 0, 1) := by decide +kernel
theorem dX12_isCase_8 : decode cX12_isCase 8 = .ok (.iload_n 2, 1) := by decide +kernel
theorem dX12_isCase_9 : decode cX12_isCase 9 = .ok (.invokevirtual 298, 3) := by decide +kernel
theorem dX12_isCase_12 : decode cX12_isCase 12 = .ok (.ifCond .eq 14, 3) := by decide +kernel
theorem dX12_isCase_15 : decode cX12_isCase 15 = .ok (.iload_n 3, 1) := by decide +kernel
theorem dX12_isCase_16 : decode cX12_isCase 16 = .ok (.invokestatic 259, 3) := by decide +kernel
theorem dX12_isCase_19 : decode cX12_isCase 19 = .ok (.ifCond .eq 7, 3) := by decide +kernel
theorem dX12_isCase_22 : decode cX12_isCase 22 = .ok (.iconst 1, 1) := by decide +kernel
theorem dX12_isCase_23 : decode cX12_isCase 23 = .ok (.goto 4, 3) := by decide +kernel
theorem dX12_isCase_26 : decode cX12_isCase 26 = .ok (.iconst 0, 1) := by decide +kernel
theorem dX12_isCase_27 : decode cX12_isCase 27 = .ok (.ireturn, 1) := by decide +kernel
theorem dX12_fineOf_0 : decode cX12_fineOf 0 = .ok (.iconst 0, 1) := by decide +kernel
theorem dX12_fineOf_1 : decode cX12_fineOf 1 = .ok (.istore 4, 2) := by decide +kernel
theorem dX12_fineOf_3 : decode cX12_fineOf 3 = .ok (.iconst 0, 1) := by decide +kernel
theorem dX12_fineOf_4 : decode cX12_fineOf 4 = .ok (.istore 5, 2) := by decide +kernel
theorem dX12_fineOf_6 : decode cX12_fineOf 6 = .ok (.iload 5, 2) := by decide +kernel
theorem dX12_fineOf_8 : decode cX12_fineOf 8 = .ok (.aload_n 0, 1) := by decide +kernel
theorem dX12_fineOf_9 : decode cX12_fineOf 9 = .ok (.getfield 118, 3) := by decide +kernel
theorem dX12_fineOf_12 : decode cX12_fineOf 12 = .ok (.if_icmp .ge 78, 3) := by decide +kernel
theorem dX12_fineOf_15 : decode cX12_fineOf 15 = .ok (.aload_n 0, 1) := by decide +kernel
theorem dX12_fineOf_16 : decode cX12_fineOf 16 = .ok (.iload 5, 2) := by decide +kernel
theorem dX12_fineOf_18 : decode cX12_fineOf 18 = .ok (.aload_n 0, 1) := by decide +kernel
theorem dX12_fineOf_19 : decode cX12_fineOf 19 = .ok (.iload_n 1, 1) := by decide +kernel
theorem dX12_fineOf_20 : decode cX12_fineOf 20 = .ok (.iload_n 3, 1) := by decide +kernel
theorem dX12_fineOf_21 : decode cX12_fineOf 21 = .ok (.invokevirtual 285, 3) := by decide +kernel
theorem dX12_fineOf_24 : decode cX12_fineOf 24 = .ok (.aload_n 0, 1) := by decide +kernel
theorem dX12_fineOf_25 : decode cX12_fineOf 25 = .ok (.iload_n 1, 1) := by decide +kernel
theorem dX12_fineOf_26 : decode cX12_fineOf 26 = .ok (.iload_n 3, 1) := by decide +kernel
theorem dX12_fineOf_27 : decode cX12_fineOf 27 = .ok (.invokevirtual 288, 3) := by decide +kernel
theorem dX12_fineOf_30 : decode cX12_fineOf 30 = .ok (.iload_n 2, 1) := by decide +kernel
theorem dX12_fineOf_31 : decode cX12_fineOf 31 = .ok (.iload_n 3, 1) := by decide +kernel
theorem dX12_fineOf_32 : decode cX12_fineOf 32 = .ok (.invokevirtual 320, 3) := by decide +kernel
theorem dX12_fineOf_35 : decode cX12_fineOf 35 = .ok (.istore 6, 2) := by decide +kernel
theorem dX12_fineOf_37 : decode cX12_fineOf 37 = .ok (.iconst 0, 1) := by decide +kernel
theorem dX12_fineOf_38 : decode cX12_fineOf 38 = .ok (.istore 7, 2) := by decide +kernel
theorem dX12_fineOf_40 : decode cX12_fineOf 40 = .ok (.iload 7, 2) := by decide +kernel
theorem dX12_fineOf_42 : decode cX12_fineOf 42 = .ok (.aload_n 0, 1) := by decide +kernel
theorem dX12_fineOf_43 : decode cX12_fineOf 43 = .ok (.getfield 88, 3) := by decide +kernel
theorem dX12_fineOf_46 : decode cX12_fineOf 46 = .ok (.iload 5, 2) := by decide +kernel
theorem dX12_fineOf_48 : decode cX12_fineOf 48 = .ok (.iaload, 1) := by decide +kernel
theorem dX12_fineOf_49 : decode cX12_fineOf 49 = .ok (.if_icmp .ge 35, 3) := by decide +kernel
theorem dX12_fineOf_52 : decode cX12_fineOf 52 = .ok (.iload 4, 2) := by decide +kernel
theorem dX12_fineOf_54 : decode cX12_fineOf 54 = .ok (.iload 6, 2) := by decide +kernel
theorem dX12_fineOf_56 : decode cX12_fineOf 56 = .ok (.iload 7, 2) := by decide +kernel
theorem dX12_fineOf_58 : decode cX12_fineOf 58 = .ok (.ishr, 1) := by decide +kernel
theorem dX12_fineOf_59 : decode cX12_fineOf 59 = .ok (.iconst 1, 1) := by decide +kernel
theorem dX12_fineOf_60 : decode cX12_fineOf 60 = .ok (.iand, 1) := by decide +kernel
theorem dX12_fineOf_61 : decode cX12_fineOf 61 = .ok (.aload_n 0, 1) := by decide +kernel
theorem dX12_fineOf_62 : decode cX12_fineOf 62 = .ok (.getfield 161, 3) := by decide +kernel
theorem dX12_fineOf_65 : decode cX12_fineOf 65 = .ok (.bipush 12, 2) := by decide +kernel
theorem dX12_fineOf_67 : decode cX12_fineOf 67 = .ok (.iload 5, 2) := by decide +kernel
theorem dX12_fineOf_69 : decode cX12_fineOf 69 = .ok (.imul, 1) := by decide +kernel
theorem dX12_fineOf_70 : decode cX12_fineOf 70 = .ok (.iload 7, 2) := by decide +kernel
theorem dX12_fineOf_72 : decode cX12_fineOf 72 = .ok (.iadd, 1) := by decide +kernel
theorem dX12_fineOf_73 : decode cX12_fineOf 73 = .ok (.iaload, 1) := by decide +kernel
theorem dX12_fineOf_74 : decode cX12_fineOf 74 = .ok (.imul, 1) := by decide +kernel
theorem dX12_fineOf_75 : decode cX12_fineOf 75 = .ok (.iadd, 1) := by decide +kernel
theorem dX12_fineOf_76 : decode cX12_fineOf 76 = .ok (.istore 4, 2) := by decide +kernel
theorem dX12_fineOf_78 : decode cX12_fineOf 78 = .ok (.iinc 7 1, 3) := by decide +kernel
theorem dX12_fineOf_81 : decode cX12_fineOf 81 = .ok (.goto (-41), 3) := by decide +kernel
theorem dX12_fineOf_84 : decode cX12_fineOf 84 = .ok (.iinc 5 1, 3) := by decide +kernel
theorem dX12_fineOf_87 : decode cX12_fineOf 87 = .ok (.goto (-81), 3) := by decide +kernel
theorem dX12_fineOf_90 : decode cX12_fineOf 90 = .ok (.iload 4, 2) := by decide +kernel
theorem dX12_fineOf_92 : decode cX12_fineOf 92 = .ok (.iconst 5, 1) := by decide +kernel
theorem dX12_fineOf_93 : decode cX12_fineOf 93 = .ok (.iconst 1, 1) := by decide +kernel
theorem dX12_fineOf_94 : decode cX12_fineOf 94 = .ok (.aload_n 0, 1) := by decide +kernel
theorem dX12_fineOf_95 : decode cX12_fineOf 95 = .ok (.getfield 217, 3) := by decide +kernel
theorem dX12_fineOf_98 : decode cX12_fineOf 98 = .ok (.iload_n 1, 1) := by decide +kernel
theorem dX12_fineOf_99 : decode cX12_fineOf 99 = .ok (.iaload, 1) := by decide +kernel
theorem dX12_fineOf_100 : decode cX12_fineOf 100 = .ok (.iadd, 1) := by decide +kernel
theorem dX12_fineOf_101 : decode cX12_fineOf 101 = .ok (.invokestatic 324, 3) := by decide +kernel
theorem dX12_fineOf_104 : decode cX12_fineOf 104 = .ok (.imul, 1) := by decide +kernel
theorem dX12_fineOf_105 : decode cX12_fineOf 105 = .ok (.ireturn, 1) := by decide +kernel
theorem dX12_fine_0 : decode cX12_fine 0 = .ok (.aload_n 0, 1) := by decide +kernel
theorem dX12_fine_1 : decode cX12_fine 1 = .ok (.iload_n 1, 1) := by decide +kernel
theorem dX12_fine_2 : decode cX12_fine 2 = .ok (.iload_n 2, 1) := by decide +kernel
theorem dX12_fine_3 : decode cX12_fine 3 = .ok (.iload_n 3, 1) := by decide +kernel
theorem dX12_fine_4 : decode cX12_fine 4 = .ok (.invokevirtual 329, 3) := by decide +kernel
theorem dX12_fine_7 : decode cX12_fine 7 = .ok (.ifCond .eq 13, 3) := by decide +kernel
theorem dX12_fine_10 : decode cX12_fine 10 = .ok (.aload_n 0, 1) := by decide +kernel
theorem dX12_fine_11 : decode cX12_fine 11 = .ok (.iload_n 1, 1) := by decide +kernel
theorem dX12_fine_12 : decode cX12_fine 12 = .ok (.iload_n 2, 1) := by decide +kernel
theorem dX12_fine_13 : decode cX12_fine 13 = .ok (.iload_n 3, 1) := by decide +kernel
theorem dX12_fine_14 : decode cX12_fine 14 = .ok (.invokevirtual 333, 3) := by decide +kernel
theorem dX12_fine_17 : decode cX12_fine 17 = .ok (.goto 5, 3) := by decide +kernel
theorem dX12_fine_20 : decode cX12_fine 20 = .ok (.bipush (-2), 2) := by decide +kernel
theorem dX12_fine_22 : decode cX12_fine 22 = .ok (.ireturn, 1) := by decide +kernel
theorem dX12_broken_0 : decode cX12_broken 0 = .ok (.aload_n 0, 1) := by decide +kernel
theorem dX12_broken_1 : decode cX12_broken 1 = .ok (.iload_n 1, 1) := by decide +kernel
theorem dX12_broken_2 : decode cX12_broken 2 = .ok (.iload_n 2, 1) := by decide +kernel
theorem dX12_broken_3 : decode cX12_broken 3 = .ok (.iload_n 3, 1) := by decide +kernel
theorem dX12_broken_4 : decode cX12_broken 4 = .ok (.invokevirtual 329, 3) := by decide +kernel
theorem dX12_broken_7 : decode cX12_broken 7 = .ok (.ifCond .eq 35, 3) := by decide +kernel
theorem dX12_broken_10 : decode cX12_broken 10 = .ok (.aload_n 0, 1) := by decide +kernel
theorem dX12_broken_11 : decode cX12_broken 11 = .ok (.iload 4, 2) := by decide +kernel
theorem dX12_broken_13 : decode cX12_broken 13 = .ok (.invokevirtual 265, 3) := by decide +kernel
theorem dX12_broken_16 : decode cX12_broken 16 = .ok (.ifCond .eq 26, 3) := by decide +kernel
theorem dX12_broken_19 : decode cX12_broken 19 = .ok (.aload_n 0, 1) := by decide +kernel
theorem dX12_broken_20 : decode cX12_broken 20 = .ok (.iload 4, 2) := by decide +kernel
theorem dX12_broken_22 : decode cX12_broken 22 = .ok (.aload_n 0, 1) := by decide +kernel
theorem dX12_broken_23 : decode cX12_broken 23 = .ok (.iload_n 1, 1) := by decide +kernel
theorem dX12_broken_24 : decode cX12_broken 24 = .ok (.iload_n 3, 1) := by decide +kernel
theorem dX12_broken_25 : decode cX12_broken 25 = .ok (.invokevirtual 285, 3) := by decide +kernel
theorem dX12_broken_28 : decode cX12_broken 28 = .ok (.aload_n 0, 1) := by decide +kernel
theorem dX12_broken_29 : decode cX12_broken 29 = .ok (.iload_n 1, 1) := by decide +kernel
theorem dX12_broken_30 : decode cX12_broken 30 = .ok (.iload_n 3, 1) := by decide +kernel
theorem dX12_broken_31 : decode cX12_broken 31 = .ok (.invokevirtual 288, 3) := by decide +kernel
theorem dX12_broken_34 : decode cX12_broken 34 = .ok (.iload_n 2, 1) := by decide +kernel
theorem dX12_broken_35 : decode cX12_broken 35 = .ok (.iload_n 3, 1) := by decide +kernel
theorem dX12_broken_36 : decode cX12_broken 36 = .ok (.invokevirtual 320, 3) := by decide +kernel
theorem dX12_broken_39 : decode cX12_broken 39 = .ok (.goto 5, 3) := by decide +kernel
theorem dX12_broken_42 : decode cX12_broken 42 = .ok (.bipush (-2), 2) := by decide +kernel
theorem dX12_broken_44 : decode cX12_broken 44 = .ok (.ireturn, 1) := by decide +kernel
theorem dX12_letter_0 : decode cX12_letter 0 = .ok (.iload_n 1, 1) := by decide +kernel
theorem dX12_letter_1 : decode cX12_letter 1 = .ok (.invokestatic 274, 3) := by decide +kernel
theorem dX12_letter_4 : decode cX12_letter 4 = .ok (.ifCond .eq 19, 3) := by decide +kernel
theorem dX12_letter_7 : decode cX12_letter 7 = .ok (.aload_n 0, 1) := by decide +kernel
theorem dX12_letter_8 : decode cX12_letter 8 = .ok (.iload_n 2, 1) := by decide +kernel
theorem dX12_letter_9 : decode cX12_letter 9 = .ok (.iload_n 3, 1) := by decide +kernel
theorem dX12_letter_10 : decode cX12_letter 10 = .ok (.iload 4, 2) := by decide +kernel
theorem dX12_letter_12 : decode cX12_letter 12 = .ok (.invokevirtual 329, 3) := by decide +kernel
theorem dX12_letter_15 : decode cX12_letter 15 = .ok (.ifCond .eq 8, 3) := by decide +kernel
theorem dX12_letter_18 : decode cX12_letter 18 = .ok (.iload_n 1, 1) := by decide +kernel
theorem dX12_letter_19 : decode cX12_letter 19 = .ok (.iload_n 2, 1) := by decide +kernel
theorem dX12_letter_20 : decode cX12_letter 20 = .ok (.if_icmp .ne 6, 3) := by decide +kernel
theorem dX12_letter_23 : decode cX12_letter 23 = .ok (.bipush (-2), 2) := by decide +kernel
theorem dX12_letter_25 : decode cX12_letter 25 = .ok (.ireturn, 1) := by decide +kernel
theorem dX12_letter_26 : decode cX12_letter 26 = .ok (.aload_n 0, 1) := by decide +kernel
theorem dX12_letter_27 : decode cX12_letter 27 = .ok (.getfield 337, 3) := by decide +kernel
theorem dX12_letter_30 : decode cX12_letter 30 = .ok (.bipush 60, 2) := by decide +kernel
theorem dX12_letter_32 : decode cX12_letter 32 = .ok (.if_icmp .ne 6, 3) := by decide +kernel
theorem dX12_letter_35 : decode cX12_letter 35 = .ok (.bipush (-3), 2) := by decide +kernel
theorem dX12_letter_37 : decode cX12_letter 37 = .ok (.ireturn, 1) := by decide +kernel
theorem dX12_letter_38 : decode cX12_letter 38 = .ok (.aload_n 0, 1) := by decide +kernel
theorem dX12_letter_39 : decode cX12_letter 39 = .ok (.getfield 229, 3) := by decide +kernel
theorem dX12_letter_42 : decode cX12_letter 42 = .ok (.aload_n 0, 1) := by decide +kernel
theorem dX12_letter_43 : decode cX12_letter 43 = .ok (.getfield 337, 3) := by decide +kernel
theorem dX12_letter_46 : decode cX12_letter 46 = .ok (.iload_n 1, 1) := by decide +kernel
theorem dX12_letter_47 : decode cX12_letter 47 = .ok (.iastore, 1) := by decide +kernel
theorem dX12_letter_48 : decode cX12_letter 48 = .ok (.aload_n 0, 1) := by decide +kernel
theorem dX12_letter_49 : decode cX12_letter 49 = .ok (.getfield 232, 3) := by decide +kernel
theorem dX12_letter_52 : decode cX12_letter 52 = .ok (.aload_n 0, 1) := by decide +kernel
theorem dX12_letter_53 : decode cX12_letter 53 = .ok (.getfield 337, 3) := by decide +kernel
theorem dX12_letter_56 : decode cX12_letter 56 = .ok (.iload_n 2, 1) := by decide +kernel
theorem dX12_letter_57 : decode cX12_letter 57 = .ok (.iastore, 1) := by decide +kernel
theorem dX12_letter_58 : decode cX12_letter 58 = .ok (.aload_n 0, 1) := by decide +kernel
theorem dX12_letter_59 : decode cX12_letter 59 = .ok (.getfield 235, 3) := by decide +kernel
theorem dX12_letter_62 : decode cX12_letter 62 = .ok (.aload_n 0, 1) := by decide +kernel
theorem dX12_letter_63 : decode cX12_letter 63 = .ok (.getfield 337, 3) := by decide +kernel
theorem dX12_letter_66 : decode cX12_letter 66 = .ok (.iload_n 3, 1) := by decide +kernel
theorem dX12_letter_67 : decode cX12_letter 67 = .ok (.iastore, 1) := by decide +kernel
theorem dX12_letter_68 : decode cX12_letter 68 = .ok (.aload_n 0, 1) := by decide +kernel
theorem dX12_letter_69 : decode cX12_letter 69 = .ok (.getfield 238, 3) := by decide +kernel
theorem dX12_letter_72 : decode cX12_letter 72 = .ok (.aload_n 0, 1) := by decide +kernel
theorem dX12_letter_73 : decode cX12_letter 73 = .ok (.getfield 337, 3) := by decide +kernel
theorem dX12_letter_76 : decode cX12_letter 76 = .ok (.iload 4, 2) := by decide +kernel
theorem dX12_letter_78 : decode cX12_letter 78 = .ok (.iastore, 1) := by decide +kernel
theorem dX12_letter_79 : decode cX12_letter 79 = .ok (.aload_n 0, 1) := by decide +kernel
theorem dX12_letter_80 : decode cX12_letter 80 = .ok (.getfield 241, 3) := by decide +kernel
theorem dX12_letter_83 : decode cX12_letter 83 = .ok (.aload_n 0, 1) := by decide +kernel
theorem dX12_letter_84 : decode cX12_letter 84 = .ok (.getfield 337, 3) := by decide +kernel
theorem dX12_letter_87 : decode cX12_letter 87 = .ok (.iconst 0, 1) := by decide +kernel
theorem dX12_letter_88 : decode cX12_letter 88 = .ok (.iastore, 1) := by decide +kernel
theorem dX12_letter_89 : decode cX12_letter 89 = .ok (.aload_n 0, 1) := by decide +kernel
theorem dX12_letter_90 : decode cX12_letter 90 = .ok (.getfield 244, 3) := by decide +kernel
theorem dX12_letter_93 : decode cX12_letter 93 = .ok (.aload_n 0, 1) := by decide +kernel
theorem dX12_letter_94 : decode cX12_letter 94 = .ok (.getfield 337, 3) := by decide +kernel
theorem dX12_letter_97 : decode cX12_letter 97 = .ok (.iconst 0, 1) := by decide +kernel
theorem dX12_letter_98 : decode cX12_letter 98 = .ok (.iastore, 1) := by decide +kernel
theorem dX12_letter_99 : decode cX12_letter 99 = .ok (.aload_n 0, 1) := by decide +kernel
theorem dX12_letter_100 : decode cX12_letter 100 = .ok (.getfield 247, 3) := by decide +kernel
theorem dX12_letter_103 : decode cX12_letter 103 = .ok (.aload_n 0, 1) := by decide +kernel
theorem dX12_letter_104 : decode cX12_letter 104 = .ok (.getfield 337, 3) := by decide +kernel
theorem dX12_letter_107 : decode cX12_letter 107 = .ok (.iconst 0, 1) := by decide +kernel
theorem dX12_letter_108 : decode cX12_letter 108 = .ok (.iastore, 1) := by decide +kernel
theorem dX12_letter_109 : decode cX12_letter 109 = .ok (.aload_n 0, 1) := by decide +kernel
theorem dX12_letter_110 : decode cX12_letter 110 = .ok (.dup, 1) := by decide +kernel
theorem dX12_letter_111 : decode cX12_letter 111 = .ok (.getfield 337, 3) := by decide +kernel
theorem dX12_letter_114 : decode cX12_letter 114 = .ok (.iconst 1, 1) := by decide +kernel
theorem dX12_letter_115 : decode cX12_letter 115 = .ok (.iadd, 1) := by decide +kernel
theorem dX12_letter_116 : decode cX12_letter 116 = .ok (.putfield 337, 3) := by decide +kernel
theorem dX12_letter_119 : decode cX12_letter 119 = .ok (.aload_n 0, 1) := by decide +kernel
theorem dX12_letter_120 : decode cX12_letter 120 = .ok (.getfield 337, 3) := by decide +kernel
theorem dX12_letter_123 : decode cX12_letter 123 = .ok (.iconst 1, 1) := by decide +kernel
theorem dX12_letter_124 : decode cX12_letter 124 = .ok (.isub, 1) := by decide +kernel
theorem dX12_letter_125 : decode cX12_letter 125 = .ok (.ireturn, 1) := by decide +kernel
theorem dX12_isLetterOf_0 : decode cX12_isLetterOf 0 = .ok (.iload_n 1, 1) := by decide +kernel
theorem dX12_isLetterOf_1 : decode cX12_isLetterOf 1 = .ok (.i2l, 1) := by decide +kernel
theorem dX12_isLetterOf_2 : decode cX12_isLetterOf 2 = .ok (.lconst 0, 1) := by decide +kernel
theorem dX12_isLetterOf_3 : decode cX12_isLetterOf 3 = .ok (.aload_n 0, 1) := by decide +kernel
theorem dX12_isLetterOf_4 : decode cX12_isLetterOf 4 = .ok (.getfield 337, 3) := by decide +kernel
theorem dX12_isLetterOf_7 : decode cX12_isLetterOf 7 = .ok (.i2l, 1) := by decide +kernel
theorem dX12_isLetterOf_8 : decode cX12_isLetterOf 8 = .ok (.lconst 1, 1) := by decide +kernel
theorem dX12_isLetterOf_9 : decode cX12_isLetterOf 9 = .ok (.lsub, 1) := by decide +kernel
theorem dX12_isLetterOf_10 : decode cX12_isLetterOf 10 = .ok (.invokestatic 5, 3) := by decide +kernel
theorem dX12_isLetterOf_13 : decode cX12_isLetterOf 13 = .ok (.ireturn, 1) := by decide +kernel
theorem dX12_partOn_0 : decode cX12_partOn 0 = .ok (.iconst 0, 1) := by decide +kernel
theorem dX12_partOn_1 : decode cX12_partOn 1 = .ok (.istore_n 2, 1) := by decide +kernel
theorem dX12_partOn_2 : decode cX12_partOn 2 = .ok (.iconst 0, 1) := by decide +kernel
theorem dX12_partOn_3 : decode cX12_partOn 3 = .ok (.istore_n 3, 1) := by decide +kernel
theorem dX12_partOn_4 : decode cX12_partOn 4 = .ok (.iload_n 3, 1) := by decide +kernel
theorem dX12_partOn_5 : decode cX12_partOn 5 = .ok (.aload_n 0, 1) := by decide +kernel
theorem dX12_partOn_6 : decode cX12_partOn 6 = .ok (.getfield 118, 3) := by decide +kernel
theorem dX12_partOn_9 : decode cX12_partOn 9 = .ok (.if_icmp .ge 35, 3) := by decide +kernel
theorem dX12_partOn_12 : decode cX12_partOn 12 = .ok (.aload_n 0, 1) := by decide +kernel
theorem dX12_partOn_13 : decode cX12_partOn 13 = .ok (.getfield 95, 3) := by decide +kernel
theorem dX12_partOn_16 : decode cX12_partOn 16 = .ok (.iload_n 3, 1) := by decide +kernel
theorem dX12_partOn_17 : decode cX12_partOn 17 = .ok (.iaload, 1) := by decide +kernel
theorem dX12_partOn_18 : decode cX12_partOn 18 = .ok (.iconst (-1), 1) := by decide +kernel
theorem dX12_partOn_19 : decode cX12_partOn 19 = .ok (.if_icmp .eq 19, 3) := by decide +kernel
theorem dX12_partOn_22 : decode cX12_partOn 22 = .ok (.aload_n 0, 1) := by decide +kernel
theorem dX12_partOn_23 : decode cX12_partOn 23 = .ok (.iload_n 3, 1) := by decide +kernel
theorem dX12_partOn_24 : decode cX12_partOn 24 = .ok (.iload_n 1, 1) := by decide +kernel
theorem dX12_partOn_25 : decode cX12_partOn 25 = .ok (.invokevirtual 268, 3) := by decide +kernel
theorem dX12_partOn_28 : decode cX12_partOn 28 = .ok (.ifCond .eq 10, 3) := by decide +kernel
theorem dX12_partOn_31 : decode cX12_partOn 31 = .ok (.aload_n 0, 1) := by decide +kernel
theorem dX12_partOn_32 : decode cX12_partOn 32 = .ok (.getfield 95, 3) := by decide +kernel
theorem dX12_partOn_35 : decode cX12_partOn 35 = .ok (.iload_n 3, 1) := by decide +kernel
theorem dX12_partOn_36 : decode cX12_partOn 36 = .ok (.iaload, 1) := by decide +kernel
theorem dX12_partOn_37 : decode cX12_partOn 37 = .ok (.istore_n 2, 1) := by decide +kernel
theorem dX12_partOn_38 : decode cX12_partOn 38 = .ok (.iinc 3 1, 3) := by decide +kernel
theorem dX12_partOn_41 : decode cX12_partOn 41 = .ok (.goto (-37), 3) := by decide +kernel
theorem dX12_partOn_44 : decode cX12_partOn 44 = .ok (.iload_n 2, 1) := by decide +kernel
theorem dX12_partOn_45 : decode cX12_partOn 45 = .ok (.ireturn, 1) := by decide +kernel
theorem dX12_judge_0 : decode cX12_judge 0 = .ok (.aload_n 0, 1) := by decide +kernel
theorem dX12_judge_1 : decode cX12_judge 1 = .ok (.iload_n 1, 1) := by decide +kernel
theorem dX12_judge_2 : decode cX12_judge 2 = .ok (.invokevirtual 340, 3) := by decide +kernel
theorem dX12_judge_5 : decode cX12_judge 5 = .ok (.ifCond .ne 6, 3) := by decide +kernel
theorem dX12_judge_8 : decode cX12_judge 8 = .ok (.bipush (-2), 2) := by decide +kernel
theorem dX12_judge_10 : decode cX12_judge 10 = .ok (.ireturn, 1) := by decide +kernel
theorem dX12_judge_11 : decode cX12_judge 11 = .ok (.aload_n 0, 1) := by decide +kernel
theorem dX12_judge_12 : decode cX12_judge 12 = .ok (.getfield 241, 3) := by decide +kernel
theorem dX12_judge_15 : decode cX12_judge 15 = .ok (.iload_n 1, 1) := by decide +kernel
theorem dX12_judge_16 : decode cX12_judge 16 = .ok (.iaload, 1) := by decide +kernel
theorem dX12_judge_17 : decode cX12_judge 17 = .ok (.ifCond .eq 6, 3) := by decide +kernel
theorem dX12_judge_20 : decode cX12_judge 20 = .ok (.bipush (-4), 2) := by decide +kernel
theorem dX12_judge_22 : decode cX12_judge 22 = .ok (.ireturn, 1) := by decide +kernel
theorem dX12_judge_23 : decode cX12_judge 23 = .ok (.aload_n 0, 1) := by decide +kernel
theorem dX12_judge_24 : decode cX12_judge 24 = .ok (.getfield 232, 3) := by decide +kernel
theorem dX12_judge_27 : decode cX12_judge 27 = .ok (.iload_n 1, 1) := by decide +kernel
theorem dX12_judge_28 : decode cX12_judge 28 = .ok (.iaload, 1) := by decide +kernel
theorem dX12_judge_29 : decode cX12_judge 29 = .ok (.istore_n 2, 1) := by decide +kernel
theorem dX12_judge_30 : decode cX12_judge 30 = .ok (.iconst 0, 1) := by decide +kernel
theorem dX12_judge_31 : decode cX12_judge 31 = .ok (.istore_n 3, 1) := by decide +kernel
theorem dX12_judge_32 : decode cX12_judge 32 = .ok (.iload_n 3, 1) := by decide +kernel
theorem dX12_judge_33 : decode cX12_judge 33 = .ok (.aload_n 0, 1) := by decide +kernel
theorem dX12_judge_34 : decode cX12_judge 34 = .ok (.getfield 337, 3) := by decide +kernel
theorem dX12_judge_37 : decode cX12_judge 37 = .ok (.if_icmp .ge 66, 3) := by decide +kernel
theorem dX12_judge_40 : decode cX12_judge 40 = .ok (.aload_n 0, 1) := by decide +kernel
theorem dX12_judge_41 : decode cX12_judge 41 = .ok (.getfield 241, 3) := by decide +kernel
theorem dX12_judge_44 : decode cX12_judge 44 = .ok (.iload_n 3, 1) := by decide +kernel
theorem dX12_judge_45 : decode cX12_judge 45 = .ok (.iaload, 1) := by decide +kernel
theorem dX12_judge_46 : decode cX12_judge 46 = .ok (.iconst 1, 1) := by decide +kernel
theorem dX12_judge_47 : decode cX12_judge 47 = .ok (.if_icmp .ne 50, 3) := by decide +kernel
theorem dX12_judge_50 : decode cX12_judge 50 = .ok (.aload_n 0, 1) := by decide +kernel
theorem dX12_judge_51 : decode cX12_judge 51 = .ok (.getfield 232, 3) := by decide +kernel
theorem dX12_judge_54 : decode cX12_judge 54 = .ok (.iload_n 3, 1) := by decide +kernel
theorem dX12_judge_55 : decode cX12_judge 55 = .ok (.iaload, 1) := by decide +kernel
theorem dX12_judge_56 : decode cX12_judge 56 = .ok (.iload_n 2, 1) := by decide +kernel
theorem dX12_judge_57 : decode cX12_judge 57 = .ok (.if_icmp .ne 40, 3) := by decide +kernel
theorem dX12_judge_60 : decode cX12_judge 60 = .ok (.aload_n 0, 1) := by decide +kernel
theorem dX12_judge_61 : decode cX12_judge 61 = .ok (.getfield 235, 3) := by decide +kernel
theorem dX12_judge_64 : decode cX12_judge 64 = .ok (.iload_n 3, 1) := by decide +kernel
theorem dX12_judge_65 : decode cX12_judge 65 = .ok (.iaload, 1) := by decide +kernel
theorem dX12_judge_66 : decode cX12_judge 66 = .ok (.aload_n 0, 1) := by decide +kernel
theorem dX12_judge_67 : decode cX12_judge 67 = .ok (.getfield 235, 3) := by decide +kernel
theorem dX12_judge_70 : decode cX12_judge 70 = .ok (.iload_n 1, 1) := by decide +kernel
theorem dX12_judge_71 : decode cX12_judge 71 = .ok (.iaload, 1) := by decide +kernel
theorem dX12_judge_72 : decode cX12_judge 72 = .ok (.if_icmp .ne 25, 3) := by decide +kernel
theorem dX12_judge_75 : decode cX12_judge 75 = .ok (.aload_n 0, 1) := by decide +kernel
theorem dX12_judge_76 : decode cX12_judge 76 = .ok (.getfield 238, 3) := by decide +kernel
theorem dX12_judge_79 : decode cX12_judge 79 = .ok (.iload_n 3, 1) := by decide +kernel
theorem dX12_judge_80 : decode cX12_judge 80 = .ok (.iaload, 1) := by decide +kernel
theorem dX12_judge_81 : decode cX12_judge 81 = .ok (.aload_n 0, 1) := by decide +kernel
theorem dX12_judge_82 : decode cX12_judge 82 = .ok (.getfield 238, 3) := by decide +kernel
theorem dX12_judge_85 : decode cX12_judge 85 = .ok (.iload_n 1, 1) := by decide +kernel
theorem dX12_judge_86 : decode cX12_judge 86 = .ok (.iaload, 1) := by decide +kernel
theorem dX12_judge_87 : decode cX12_judge 87 = .ok (.if_icmp .ne 10, 3) := by decide +kernel
theorem dX12_judge_90 : decode cX12_judge 90 = .ok (.aload_n 0, 1) := by decide +kernel
theorem dX12_judge_91 : decode cX12_judge 91 = .ok (.getfield 241, 3) := by decide +kernel
theorem dX12_judge_94 : decode cX12_judge 94 = .ok (.iload_n 1, 1) := by decide +kernel
theorem dX12_judge_95 : decode cX12_judge 95 = .ok (.iconst 3, 1) := by decide +kernel
theorem dX12_judge_96 : decode cX12_judge 96 = .ok (.iastore, 1) := by decide +kernel
theorem dX12_judge_97 : decode cX12_judge 97 = .ok (.iinc 3 1, 3) := by decide +kernel
theorem dX12_judge_100 : decode cX12_judge 100 = .ok (.goto (-68), 3) := by decide +kernel
theorem dX12_judge_103 : decode cX12_judge 103 = .ok (.aload_n 0, 1) := by decide +kernel
theorem dX12_judge_104 : decode cX12_judge 104 = .ok (.getfield 241, 3) := by decide +kernel
theorem dX12_judge_107 : decode cX12_judge 107 = .ok (.iload_n 1, 1) := by decide +kernel
theorem dX12_judge_108 : decode cX12_judge 108 = .ok (.iaload, 1) := by decide +kernel
theorem dX12_judge_109 : decode cX12_judge 109 = .ok (.iconst 3, 1) := by decide +kernel
theorem dX12_judge_110 : decode cX12_judge 110 = .ok (.if_icmp .ne 5, 3) := by decide +kernel
theorem dX12_judge_113 : decode cX12_judge 113 = .ok (.iconst 3, 1) := by decide +kernel
theorem dX12_judge_114 : decode cX12_judge 114 = .ok (.ireturn, 1) := by decide +kernel
theorem dX12_judge_115 : decode cX12_judge 115 = .ok (.aload_n 0, 1) := by decide +kernel
theorem dX12_judge_116 : decode cX12_judge 116 = .ok (.iload_n 2, 1) := by decide +kernel
theorem dX12_judge_117 : decode cX12_judge 117 = .ok (.aload_n 0, 1) := by decide +kernel
theorem dX12_judge_118 : decode cX12_judge 118 = .ok (.getfield 235, 3) := by decide +kernel
theorem dX12_judge_121 : decode cX12_judge 121 = .ok (.iload_n 1, 1) := by decide +kernel
theorem dX12_judge_122 : decode cX12_judge 122 = .ok (.iaload, 1) := by decide +kernel
theorem dX12_judge_123 : decode cX12_judge 123 = .ok (.aload_n 0, 1) := by decide +kernel
theorem dX12_judge_124 : decode cX12_judge 124 = .ok (.getfield 238, 3) := by decide +kernel
theorem dX12_judge_127 : decode cX12_judge 127 = .ok (.iload_n 1, 1) := by decide +kernel
theorem dX12_judge_128 : decode cX12_judge 128 = .ok (.iaload, 1) := by decide +kernel
theorem dX12_judge_129 : decode cX12_judge 129 = .ok (.invokevirtual 333, 3) := by decide +kernel
theorem dX12_judge_132 : decode cX12_judge 132 = .ok (.istore_n 3, 1) := by decide +kernel
theorem dX12_judge_133 : decode cX12_judge 133 = .ok (.iload_n 3, 1) := by decide +kernel
theorem dX12_judge_134 : decode cX12_judge 134 = .ok (.ifCond .ne 39, 3) := by decide +kernel
theorem dX12_judge_137 : decode cX12_judge 137 = .ok (.aload_n 0, 1) := by decide +kernel
theorem dX12_judge_138 : decode cX12_judge 138 = .ok (.getfield 220, 3) := by decide +kernel
theorem dX12_judge_141 : decode cX12_judge 141 = .ok (.aload_n 0, 1) := by decide +kernel
theorem dX12_judge_142 : decode cX12_judge 142 = .ok (.getfield 229, 3) := by decide +kernel
theorem dX12_judge_145 : decode cX12_judge 145 = .ok (.iload_n 1, 1) := by decide +kernel
theorem dX12_judge_146 : decode cX12_judge 146 = .ok (.iaload, 1) := by decide +kernel
theorem dX12_judge_147 : decode cX12_judge 147 = .ok (.dup2, 1) := by decide +kernel
theorem dX12_judge_148 : decode cX12_judge 148 = .ok (.iaload, 1) := by decide +kernel
theorem dX12_judge_149 : decode cX12_judge 149 = .ok (.bipush 50, 2) := by decide +kernel
theorem dX12_judge_151 : decode cX12_judge 151 = .ok (.iadd, 1) := by decide +kernel
theorem dX12_judge_152 : decode cX12_judge 152 = .ok (.iastore, 1) := by decide +kernel
theorem dX12_judge_153 : decode cX12_judge 153 = .ok (.aload_n 0, 1) := by decide +kernel
theorem dX12_judge_154 : decode cX12_judge 154 = .ok (.dup, 1) := by decide +kernel
theorem dX12_judge_155 : decode cX12_judge 155 = .ok (.getfield 343, 3) := by decide +kernel
theorem dX12_judge_158 : decode cX12_judge 158 = .ok (.bipush 50, 2) := by decide +kernel
theorem dX12_judge_160 : decode cX12_judge 160 = .ok (.iadd, 1) := by decide +kernel
theorem dX12_judge_161 : decode cX12_judge 161 = .ok (.putfield 343, 3) := by decide +kernel
theorem dX12_judge_164 : decode cX12_judge 164 = .ok (.aload_n 0, 1) := by decide +kernel
theorem dX12_judge_165 : decode cX12_judge 165 = .ok (.getfield 241, 3) := by decide +kernel
theorem dX12_judge_168 : decode cX12_judge 168 = .ok (.iload_n 1, 1) := by decide +kernel
theorem dX12_judge_169 : decode cX12_judge 169 = .ok (.iconst 2, 1) := by decide +kernel
theorem dX12_judge_170 : decode cX12_judge 170 = .ok (.iastore, 1) := by decide +kernel
theorem dX12_judge_171 : decode cX12_judge 171 = .ok (.iconst 2, 1) := by decide +kernel
theorem dX12_judge_172 : decode cX12_judge 172 = .ok (.ireturn, 1) := by decide +kernel
theorem dX12_judge_173 : decode cX12_judge 173 = .ok (.iload_n 3, 1) := by decide +kernel
theorem dX12_judge_174 : decode cX12_judge 174 = .ok (.i2l, 1) := by decide +kernel
theorem dX12_judge_175 : decode cX12_judge 175 = .ok (.aload_n 0, 1) := by decide +kernel
theorem dX12_judge_176 : decode cX12_judge 176 = .ok (.aload_n 0, 1) := by decide +kernel
theorem dX12_judge_177 : decode cX12_judge 177 = .ok (.getfield 238, 3) := by decide +kernel
theorem dX12_judge_180 : decode cX12_judge 180 = .ok (.iload_n 1, 1) := by decide +kernel
theorem dX12_judge_181 : decode cX12_judge 181 = .ok (.iaload, 1) := by decide +kernel
theorem dX12_judge_182 : decode cX12_judge 182 = .ok (.invokevirtual 346, 3) := by decide +kernel
theorem dX12_judge_185 : decode cX12_judge 185 = .ok (.i2l, 1) := by decide +kernel
theorem dX12_judge_186 : decode cX12_judge 186 = .ok (.lmul, 1) := by decide +kernel
theorem dX12_judge_187 : decode cX12_judge 187 = .ok (.ldc2_w 349, 3) := by decide +kernel
theorem dX12_judge_190 : decode cX12_judge 190 = .ok (.ldiv, 1) := by decide +kernel
theorem dX12_judge_191 : decode cX12_judge 191 = .ok (.l2i, 1) := by decide +kernel
theorem dX12_judge_192 : decode cX12_judge 192 = .ok (.istore 4, 2) := by decide +kernel
theorem dX12_judge_194 : decode cX12_judge 194 = .ok (.aload_n 0, 1) := by decide +kernel
theorem dX12_judge_195 : decode cX12_judge 195 = .ok (.getfield 244, 3) := by decide +kernel
theorem dX12_judge_198 : decode cX12_judge 198 = .ok (.iload_n 1, 1) := by decide +kernel
theorem dX12_judge_199 : decode cX12_judge 199 = .ok (.iload_n 3, 1) := by decide +kernel
theorem dX12_judge_200 : decode cX12_judge 200 = .ok (.iastore, 1) := by decide +kernel
theorem dX12_judge_201 : decode cX12_judge 201 = .ok (.aload_n 0, 1) := by decide +kernel
theorem dX12_judge_202 : decode cX12_judge 202 = .ok (.getfield 247, 3) := by decide +kernel
theorem dX12_judge_205 : decode cX12_judge 205 = .ok (.iload_n 1, 1) := by decide +kernel
theorem dX12_judge_206 : decode cX12_judge 206 = .ok (.iload 4, 2) := by decide +kernel
theorem dX12_judge_208 : decode cX12_judge 208 = .ok (.iastore, 1) := by decide +kernel
theorem dX12_judge_209 : decode cX12_judge 209 = .ok (.aload_n 0, 1) := by decide +kernel
theorem dX12_judge_210 : decode cX12_judge 210 = .ok (.getfield 220, 3) := by decide +kernel
theorem dX12_judge_213 : decode cX12_judge 213 = .ok (.iload_n 2, 1) := by decide +kernel
theorem dX12_judge_214 : decode cX12_judge 214 = .ok (.dup2, 1) := by decide +kernel
theorem dX12_judge_215 : decode cX12_judge 215 = .ok (.iaload, 1) := by decide +kernel
theorem dX12_judge_216 : decode cX12_judge 216 = .ok (.iload_n 3, 1) := by decide +kernel
theorem dX12_judge_217 : decode cX12_judge 217 = .ok (.iadd, 1) := by decide +kernel
theorem dX12_judge_218 : decode cX12_judge 218 = .ok (.iastore, 1) := by decide +kernel
theorem dX12_judge_219 : decode cX12_judge 219 = .ok (.aload_n 0, 1) := by decide +kernel
theorem dX12_judge_220 : decode cX12_judge 220 = .ok (.getfield 223, 3) := by decide +kernel
theorem dX12_judge_223 : decode cX12_judge 223 = .ok (.aload_n 0, 1) := by decide +kernel
theorem dX12_judge_224 : decode cX12_judge 224 = .ok (.getfield 229, 3) := by decide +kernel
theorem dX12_judge_227 : decode cX12_judge 227 = .ok (.iload_n 1, 1) := by decide +kernel
theorem dX12_judge_228 : decode cX12_judge 228 = .ok (.iaload, 1) := by decide +kernel
theorem dX12_judge_229 : decode cX12_judge 229 = .ok (.dup2, 1) := by decide +kernel
theorem dX12_judge_230 : decode cX12_judge 230 = .ok (.iaload, 1) := by decide +kernel
theorem dX12_judge_231 : decode cX12_judge 231 = .ok (.iload 4, 2) := by decide +kernel
theorem dX12_judge_233 : decode cX12_judge 233 = .ok (.iadd, 1) := by decide +kernel
theorem dX12_judge_234 : decode cX12_judge 234 = .ok (.iastore, 1) := by decide +kernel
theorem dX12_judge_235 : decode cX12_judge 235 = .ok (.aload_n 0, 1) := by decide +kernel
theorem dX12_judge_236 : decode cX12_judge 236 = .ok (.dup, 1) := by decide +kernel
theorem dX12_judge_237 : decode cX12_judge 237 = .ok (.getfield 343, 3) := by decide +kernel
theorem dX12_judge_240 : decode cX12_judge 240 = .ok (.iload_n 3, 1) := by decide +kernel
theorem dX12_judge_241 : decode cX12_judge 241 = .ok (.iload 4, 2) := by decide +kernel
theorem dX12_judge_243 : decode cX12_judge 243 = .ok (.isub, 1) := by decide +kernel
theorem dX12_judge_244 : decode cX12_judge 244 = .ok (.iadd, 1) := by decide +kernel
theorem dX12_judge_245 : decode cX12_judge 245 = .ok (.putfield 343, 3) := by decide +kernel
theorem dX12_judge_248 : decode cX12_judge 248 = .ok (.aload_n 0, 1) := by decide +kernel
theorem dX12_judge_249 : decode cX12_judge 249 = .ok (.getfield 217, 3) := by decide +kernel
theorem dX12_judge_252 : decode cX12_judge 252 = .ok (.iload_n 2, 1) := by decide +kernel
theorem dX12_judge_253 : decode cX12_judge 253 = .ok (.dup2, 1) := by decide +kernel
theorem dX12_judge_254 : decode cX12_judge 254 = .ok (.iaload, 1) := by decide +kernel
theorem dX12_judge_255 : decode cX12_judge 255 = .ok (.iconst 1, 1) := by decide +kernel
theorem dX12_judge_256 : decode cX12_judge 256 = .ok (.iadd, 1) := by decide +kernel
theorem dX12_judge_257 : decode cX12_judge 257 = .ok (.iastore, 1) := by decide +kernel
theorem dX12_judge_258 : decode cX12_judge 258 = .ok (.aload_n 0, 1) := by decide +kernel
theorem dX12_judge_259 : decode cX12_judge 259 = .ok (.getfield 241, 3) := by decide +kernel
theorem dX12_judge_262 : decode cX12_judge 262 = .ok (.iload_n 1, 1) := by decide +kernel
theorem dX12_judge_263 : decode cX12_judge 263 = .ok (.iconst 1, 1) := by decide +kernel
theorem dX12_judge_264 : decode cX12_judge 264 = .ok (.iastore, 1) := by decide +kernel
theorem dX12_judge_265 : decode cX12_judge 265 = .ok (.iconst 1, 1) := by decide +kernel
theorem dX12_judge_266 : decode cX12_judge 266 = .ok (.ireturn, 1) := by decide +kernel
theorem dX12_lettered_0 : decode cX12_lettered 0 = .ok (.aload_n 0, 1) := by decide +kernel
theorem dX12_lettered_1 : decode cX12_lettered 1 = .ok (.iload_n 1, 1) := by decide +kernel
theorem dX12_lettered_2 : decode cX12_lettered 2 = .ok (.invokevirtual 340, 3) := by decide +kernel
theorem dX12_lettered_5 : decode cX12_lettered 5 = .ok (.ifCond .ne 6, 3) := by decide +kernel
theorem dX12_lettered_8 : decode cX12_lettered 8 = .ok (.bipush (-9), 2) := by decide +kernel
theorem dX12_lettered_10 : decode cX12_lettered 10 = .ok (.ireturn, 1) := by decide +kernel
theorem dX12_lettered_11 : decode cX12_lettered 11 = .ok (.iload_n 2, 1) := by decide +kernel
theorem dX12_lettered_12 : decode cX12_lettered 12 = .ok (.tableswitch 93 0 6 #[44, 51, 58, 65, 72, 79, 86], 44) := by decide +kernel
theorem dX12_lettered_56 : decode cX12_lettered 56 = .ok (.aload_n 0, 1) := by decide +kernel
theorem dX12_lettered_57 : decode cX12_lettered 57 = .ok (.getfield 229, 3) := by decide +kernel
theorem dX12_lettered_60 : decode cX12_lettered 60 = .ok (.iload_n 1, 1) := by decide +kernel
theorem dX12_lettered_61 : decode cX12_lettered 61 = .ok (.iaload, 1) := by decide +kernel
theorem dX12_lettered_62 : decode cX12_lettered 62 = .ok (.ireturn, 1) := by decide +kernel
theorem dX12_lettered_63 : decode cX12_lettered 63 = .ok (.aload_n 0, 1) := by decide +kernel
theorem dX12_lettered_64 : decode cX12_lettered 64 = .ok (.getfield 232, 3) := by decide +kernel
theorem dX12_lettered_67 : decode cX12_lettered 67 = .ok (.iload_n 1, 1) := by decide +kernel
theorem dX12_lettered_68 : decode cX12_lettered 68 = .ok (.iaload, 1) := by decide +kernel
theorem dX12_lettered_69 : decode cX12_lettered 69 = .ok (.ireturn, 1) := by decide +kernel
theorem dX12_lettered_70 : decode cX12_lettered 70 = .ok (.aload_n 0, 1) := by decide +kernel
theorem dX12_lettered_71 : decode cX12_lettered 71 = .ok (.getfield 235, 3) := by decide +kernel
theorem dX12_lettered_74 : decode cX12_lettered 74 = .ok (.iload_n 1, 1) := by decide +kernel
theorem dX12_lettered_75 : decode cX12_lettered 75 = .ok (.iaload, 1) := by decide +kernel
theorem dX12_lettered_76 : decode cX12_lettered 76 = .ok (.ireturn, 1) := by decide +kernel
theorem dX12_lettered_77 : decode cX12_lettered 77 = .ok (.aload_n 0, 1) := by decide +kernel
theorem dX12_lettered_78 : decode cX12_lettered 78 = .ok (.getfield 238, 3) := by decide +kernel
theorem dX12_lettered_81 : decode cX12_lettered 81 = .ok (.iload_n 1, 1) := by decide +kernel
theorem dX12_lettered_82 : decode cX12_lettered 82 = .ok (.iaload, 1) := by decide +kernel
theorem dX12_lettered_83 : decode cX12_lettered 83 = .ok (.ireturn, 1) := by decide +kernel
theorem dX12_lettered_84 : decode cX12_lettered 84 = .ok (.aload_n 0, 1) := by decide +kernel
theorem dX12_lettered_85 : decode cX12_lettered 85 = .ok (.getfield 241, 3) := by decide +kernel
theorem dX12_lettered_88 : decode cX12_lettered 88 = .ok (.iload_n 1, 1) := by decide +kernel
theorem dX12_lettered_89 : decode cX12_lettered 89 = .ok (.iaload, 1) := by decide +kernel
theorem dX12_lettered_90 : decode cX12_lettered 90 = .ok (.ireturn, 1) := by decide +kernel
theorem dX12_lettered_91 : decode cX12_lettered 91 = .ok (.aload_n 0, 1) := by decide +kernel
theorem dX12_lettered_92 : decode cX12_lettered 92 = .ok (.getfield 244, 3) := by decide +kernel
theorem dX12_lettered_95 : decode cX12_lettered 95 = .ok (.iload_n 1, 1) := by decide +kernel
theorem dX12_lettered_96 : decode cX12_lettered 96 = .ok (.iaload, 1) := by decide +kernel
theorem dX12_lettered_97 : decode cX12_lettered 97 = .ok (.ireturn, 1) := by decide +kernel
theorem dX12_lettered_98 : decode cX12_lettered 98 = .ok (.aload_n 0, 1) := by decide +kernel
theorem dX12_lettered_99 : decode cX12_lettered 99 = .ok (.getfield 247, 3) := by decide +kernel
theorem dX12_lettered_102 : decode cX12_lettered 102 = .ok (.iload_n 1, 1) := by decide +kernel
theorem dX12_lettered_103 : decode cX12_lettered 103 = .ok (.iaload, 1) := by decide +kernel
theorem dX12_lettered_104 : decode cX12_lettered 104 = .ok (.ireturn, 1) := by decide +kernel
theorem dX12_lettered_105 : decode cX12_lettered 105 = .ok (.bipush (-9), 2) := by decide +kernel
theorem dX12_lettered_107 : decode cX12_lettered 107 = .ok (.ireturn, 1) := by decide +kernel
theorem dX12_person_0 : decode cX12_person 0 = .ok (.iload_n 1, 1) := by decide +kernel
theorem dX12_person_1 : decode cX12_person 1 = .ok (.invokestatic 274, 3) := by decide +kernel
theorem dX12_person_4 : decode cX12_person 4 = .ok (.ifCond .eq 15, 3) := by decide +kernel
theorem dX12_person_7 : decode cX12_person 7 = .ok (.iload_n 2, 1) := by decide +kernel
theorem dX12_person_8 : decode cX12_person 8 = .ok (.i2l, 1) := by decide +kernel
theorem dX12_person_9 : decode cX12_person 9 = .ok (.lconst 0, 1) := by decide +kernel
theorem dX12_person_10 : decode cX12_person 10 = .ok (.ldc2_w 351, 3) := by decide +kernel
theorem dX12_person_13 : decode cX12_person 13 = .ok (.invokestatic 5, 3) := by decide +kernel
theorem dX12_person_16 : decode cX12_person 16 = .ok (.ifCond .ne 6, 3) := by decide +kernel
theorem dX12_person_19 : decode cX12_person 19 = .ok (.bipush (-2), 2) := by decide +kernel
theorem dX12_person_21 : decode cX12_person 21 = .ok (.ireturn, 1) := by decide +kernel
theorem dX12_person_22 : decode cX12_person 22 = .ok (.iload_n 2, 1) := by decide +kernel
theorem dX12_person_23 : decode cX12_person 23 = .ok (.ifCond .ne 12, 3) := by decide +kernel
theorem dX12_person_26 : decode cX12_person 26 = .ok (.aload_n 0, 1) := by decide +kernel
theorem dX12_person_27 : decode cX12_person 27 = .ok (.getfield 217, 3) := by decide +kernel
theorem dX12_person_30 : decode cX12_person 30 = .ok (.iload_n 1, 1) := by decide +kernel
theorem dX12_person_31 : decode cX12_person 31 = .ok (.iaload, 1) := by decide +kernel
theorem dX12_person_32 : decode cX12_person 32 = .ok (.goto 23, 3) := by decide +kernel
theorem dX12_person_35 : decode cX12_person 35 = .ok (.iload_n 2, 1) := by decide +kernel
theorem dX12_person_36 : decode cX12_person 36 = .ok (.iconst 1, 1) := by decide +kernel
theorem dX12_person_37 : decode cX12_person 37 = .ok (.if_icmp .ne 12, 3) := by decide +kernel
theorem dX12_person_40 : decode cX12_person 40 = .ok (.aload_n 0, 1) := by decide +kernel
theorem dX12_person_41 : decode cX12_person 41 = .ok (.getfield 220, 3) := by decide +kernel
theorem dX12_person_44 : decode cX12_person 44 = .ok (.iload_n 1, 1) := by decide +kernel
theorem dX12_person_45 : decode cX12_person 45 = .ok (.iaload, 1) := by decide +kernel
theorem dX12_person_46 : decode cX12_person 46 = .ok (.goto 9, 3) := by decide +kernel
theorem dX12_person_49 : decode cX12_person 49 = .ok (.aload_n 0, 1) := by decide +kernel
theorem dX12_person_50 : decode cX12_person 50 = .ok (.getfield 223, 3) := by decide +kernel
theorem dX12_person_53 : decode cX12_person 53 = .ok (.iload_n 1, 1) := by decide +kernel
theorem dX12_person_54 : decode cX12_person 54 = .ok (.iaload, 1) := by decide +kernel
theorem dX12_person_55 : decode cX12_person 55 = .ok (.ireturn, 1) := by decide +kernel
theorem dX12_price_0 : decode cX12_price 0 = .ok (.iload_n 1, 1) := by decide +kernel
theorem dX12_price_1 : decode cX12_price 1 = .ok (.i2l, 1) := by decide +kernel
theorem dX12_price_2 : decode cX12_price 2 = .ok (.lconst 0, 1) := by decide +kernel
theorem dX12_price_3 : decode cX12_price 3 = .ok (.ldc2_w 353, 3) := by decide +kernel
theorem dX12_price_6 : decode cX12_price 6 = .ok (.invokestatic 5, 3) := by decide +kernel
theorem dX12_price_9 : decode cX12_price 9 = .ok (.ifCond .eq 15, 3) := by decide +kernel
theorem dX12_price_12 : decode cX12_price 12 = .ok (.iload_n 2, 1) := by decide +kernel
theorem dX12_price_13 : decode cX12_price 13 = .ok (.i2l, 1) := by decide +kernel
theorem dX12_price_14 : decode cX12_price 14 = .ok (.lconst 0, 1) := by decide +kernel
theorem dX12_price_15 : decode cX12_price 15 = .ok (.ldc2_w 355, 3) := by decide +kernel
theorem dX12_price_18 : decode cX12_price 18 = .ok (.invokestatic 5, 3) := by decide +kernel
theorem dX12_price_21 : decode cX12_price 21 = .ok (.ifCond .ne 6, 3) := by decide +kernel
theorem dX12_price_24 : decode cX12_price 24 = .ok (.bipush (-2), 2) := by decide +kernel
theorem dX12_price_26 : decode cX12_price 26 = .ok (.ireturn, 1) := by decide +kernel
theorem dX12_price_27 : decode cX12_price 27 = .ok (.aload_n 0, 1) := by decide +kernel
theorem dX12_price_28 : decode cX12_price 28 = .ok (.getfield 226, 3) := by decide +kernel
theorem dX12_price_31 : decode cX12_price 31 = .ok (.iload_n 1, 1) := by decide +kernel
theorem dX12_price_32 : decode cX12_price 32 = .ok (.iaload, 1) := by decide +kernel
theorem dX12_price_33 : decode cX12_price 33 = .ok (.istore_n 3, 1) := by decide +kernel
theorem dX12_price_34 : decode cX12_price 34 = .ok (.aload_n 0, 1) := by decide +kernel
theorem dX12_price_35 : decode cX12_price 35 = .ok (.getfield 226, 3) := by decide +kernel
theorem dX12_price_38 : decode cX12_price 38 = .ok (.iload_n 1, 1) := by decide +kernel
theorem dX12_price_39 : decode cX12_price 39 = .ok (.iload_n 2, 1) := by decide +kernel
theorem dX12_price_40 : decode cX12_price 40 = .ok (.iastore, 1) := by decide +kernel
theorem dX12_price_41 : decode cX12_price 41 = .ok (.iload_n 3, 1) := by decide +kernel
theorem dX12_price_42 : decode cX12_price 42 = .ok (.ireturn, 1) := by decide +kernel
theorem dX12_gather_0 : decode cX12_gather 0 = .ok (.iconst 0, 1) := by decide +kernel
theorem dX12_gather_1 : decode cX12_gather 1 = .ok (.istore 4, 2) := by decide +kernel
theorem dX12_gather_3 : decode cX12_gather 3 = .ok (.iload 4, 2) := by decide +kernel
theorem dX12_gather_5 : decode cX12_gather 5 = .ok (.iconst 5, 1) := by decide +kernel
theorem dX12_gather_6 : decode cX12_gather 6 = .ok (.if_icmp .ge 19, 3) := by decide +kernel
theorem dX12_gather_9 : decode cX12_gather 9 = .ok (.aload_n 0, 1) := by decide +kernel
theorem dX12_gather_10 : decode cX12_gather 10 = .ok (.getfield 250, 3) := by decide +kernel
theorem dX12_gather_13 : decode cX12_gather 13 = .ok (.iload 4, 2) := by decide +kernel
theorem dX12_gather_15 : decode cX12_gather 15 = .ok (.sipush 9999, 3) := by decide +kernel
theorem dX12_gather_18 : decode cX12_gather 18 = .ok (.iastore, 1) := by decide +kernel
theorem dX12_gather_19 : decode cX12_gather 19 = .ok (.iinc 4 1, 3) := by decide +kernel
theorem dX12_gather_22 : decode cX12_gather 22 = .ok (.goto (-19), 3) := by decide +kernel
theorem dX12_gather_25 : decode cX12_gather 25 = .ok (.aload_n 0, 1) := by decide +kernel
theorem dX12_gather_26 : decode cX12_gather 26 = .ok (.iconst 0, 1) := by decide +kernel
theorem dX12_gather_27 : decode cX12_gather 27 = .ok (.putfield 357, 3) := by decide +kernel
theorem dX12_gather_30 : decode cX12_gather 30 = .ok (.aload_n 0, 1) := by decide +kernel
theorem dX12_gather_31 : decode cX12_gather 31 = .ok (.iconst 0, 1) := by decide +kernel
theorem dX12_gather_32 : decode cX12_gather 32 = .ok (.putfield 360, 3) := by decide +kernel
theorem dX12_gather_35 : decode cX12_gather 35 = .ok (.iconst 0, 1) := by decide +kernel
theorem dX12_gather_36 : decode cX12_gather 36 = .ok (.istore 4, 2) := by decide +kernel
theorem dX12_gather_38 : decode cX12_gather 38 = .ok (.iload 4, 2) := by decide +kernel
theorem dX12_gather_40 : decode cX12_gather 40 = .ok (.aload_n 0, 1) := by decide +kernel
theorem dX12_gather_41 : decode cX12_gather 41 = .ok (.getfield 118, 3) := by decide +kernel
theorem dX12_gather_44 : decode cX12_gather 44 = .ok (.if_icmp .ge 205, 3) := by decide +kernel
theorem dX12_gather_47 : decode cX12_gather 47 = .ok (.iconst 0, 1) := by decide +kernel
theorem dX12_gather_48 : decode cX12_gather 48 = .ok (.istore 5, 2) := by decide +kernel
theorem dX12_gather_50 : decode cX12_gather 50 = .ok (.iload 5, 2) := by decide +kernel
theorem dX12_gather_52 : decode cX12_gather 52 = .ok (.aload_n 0, 1) := by decide +kernel
theorem dX12_gather_53 : decode cX12_gather 53 = .ok (.getfield 88, 3) := by decide +kernel
theorem dX12_gather_56 : decode cX12_gather 56 = .ok (.iload 4, 2) := by decide +kernel
theorem dX12_gather_58 : decode cX12_gather 58 = .ok (.iaload, 1) := by decide +kernel
theorem dX12_gather_59 : decode cX12_gather 59 = .ok (.if_icmp .ge 184, 3) := by decide +kernel
theorem dX12_gather_62 : decode cX12_gather 62 = .ok (.aload_n 0, 1) := by decide +kernel
theorem dX12_gather_63 : decode cX12_gather 63 = .ok (.iload 4, 2) := by decide +kernel
theorem dX12_gather_65 : decode cX12_gather 65 = .ok (.iload 5, 2) := by decide +kernel
theorem dX12_gather_67 : decode cX12_gather 67 = .ok (.aload_n 0, 1) := by decide +kernel
theorem dX12_gather_68 : decode cX12_gather 68 = .ok (.iload_n 1, 1) := by decide +kernel
theorem dX12_gather_69 : decode cX12_gather 69 = .ok (.iload_n 3, 1) := by decide +kernel
theorem dX12_gather_70 : decode cX12_gather 70 = .ok (.invokevirtual 285, 3) := by decide +kernel
theorem dX12_gather_73 : decode cX12_gather 73 = .ok (.aload_n 0, 1) := by decide +kernel
theorem dX12_gather_74 : decode cX12_gather 74 = .ok (.iload_n 1, 1) := by decide +kernel
theorem dX12_gather_75 : decode cX12_gather 75 = .ok (.iload_n 3, 1) := by decide +kernel
theorem dX12_gather_76 : decode cX12_gather 76 = .ok (.invokevirtual 288, 3) := by decide +kernel
theorem dX12_gather_79 : decode cX12_gather 79 = .ok (.iload_n 2, 1) := by decide +kernel
theorem dX12_gather_80 : decode cX12_gather 80 = .ok (.iload_n 3, 1) := by decide +kernel
theorem dX12_gather_81 : decode cX12_gather 81 = .ok (.invokevirtual 312, 3) := by decide +kernel
theorem dX12_gather_84 : decode cX12_gather 84 = .ok (.ifCond .ne 6, 3) := by decide +kernel
theorem dX12_gather_87 : decode cX12_gather 87 = .ok (.goto 150, 3) := by decide +kernel
theorem dX12_gather_90 : decode cX12_gather 90 = .ok (.bipush 12, 2) := by decide +kernel
theorem dX12_gather_92 : decode cX12_gather 92 = .ok (.iload 4, 2) := by decide +kernel
theorem dX12_gather_94 : decode cX12_gather 94 = .ok (.imul, 1) := by decide +kernel
theorem dX12_gather_95 : decode cX12_gather 95 = .ok (.iload 5, 2) := by decide +kernel
theorem dX12_gather_97 : decode cX12_gather 97 = .ok (.iadd, 1) := by decide +kernel
theorem dX12_gather_98 : decode cX12_gather 98 = .ok (.istore 6, 2) := by decide +kernel
theorem dX12_gather_100 : decode cX12_gather 100 = .ok (.aload_n 0, 1) := by decide +kernel
theorem dX12_gather_101 : decode cX12_gather 101 = .ok (.getfield 127, 3) := by decide +kernel
theorem dX12_gather_104 : decode cX12_gather 104 = .ok (.iload 6, 2) := by decide +kernel
theorem dX12_gather_106 : decode cX12_gather 106 = .ok (.iaload, 1) := by decide +kernel
theorem dX12_gather_107 : decode cX12_gather 107 = .ok (.iconst 5, 1) := by decide +kernel
theorem dX12_gather_108 : decode cX12_gather 108 = .ok (.if_icmp .ge 40, 3) := by decide +kernel
theorem dX12_gather_111 : decode cX12_gather 111 = .ok (.aload_n 0, 1) := by decide +kernel
theorem dX12_gather_112 : decode cX12_gather 112 = .ok (.getfield 250, 3) := by decide +kernel
theorem dX12_gather_115 : decode cX12_gather 115 = .ok (.aload_n 0, 1) := by decide +kernel
theorem dX12_gather_116 : decode cX12_gather 116 = .ok (.getfield 127, 3) := by decide +kernel
theorem dX12_gather_119 : decode cX12_gather 119 = .ok (.iload 6, 2) := by decide +kernel
theorem dX12_gather_121 : decode cX12_gather 121 = .ok (.iaload, 1) := by decide +kernel
theorem dX12_gather_122 : decode cX12_gather 122 = .ok (.aload_n 0, 1) := by decide +kernel
theorem dX12_gather_123 : decode cX12_gather 123 = .ok (.getfield 250, 3) := by decide +kernel
theorem dX12_gather_126 : decode cX12_gather 126 = .ok (.aload_n 0, 1) := by decide +kernel
theorem dX12_gather_127 : decode cX12_gather 127 = .ok (.getfield 127, 3) := by decide +kernel
theorem dX12_gather_130 : decode cX12_gather 130 = .ok (.iload 6, 2) := by decide +kernel
theorem dX12_gather_132 : decode cX12_gather 132 = .ok (.iaload, 1) := by decide +kernel
theorem dX12_gather_133 : decode cX12_gather 133 = .ok (.iaload, 1) := by decide +kernel
theorem dX12_gather_134 : decode cX12_gather 134 = .ok (.aload_n 0, 1) := by decide +kernel
theorem dX12_gather_135 : decode cX12_gather 135 = .ok (.getfield 130, 3) := by decide +kernel
theorem dX12_gather_138 : decode cX12_gather 138 = .ok (.iload 6, 2) := by decide +kernel
theorem dX12_gather_140 : decode cX12_gather 140 = .ok (.iaload, 1) := by decide +kernel
theorem dX12_gather_141 : decode cX12_gather 141 = .ok (.invokestatic 324, 3) := by decide +kernel
theorem dX12_gather_144 : decode cX12_gather 144 = .ok (.iastore, 1) := by decide +kernel
theorem dX12_gather_145 : decode cX12_gather 145 = .ok (.goto 92, 3) := by decide +kernel
theorem dX12_gather_148 : decode cX12_gather 148 = .ok (.aload_n 0, 1) := by decide +kernel
theorem dX12_gather_149 : decode cX12_gather 149 = .ok (.getfield 127, 3) := by decide +kernel
theorem dX12_gather_152 : decode cX12_gather 152 = .ok (.iload 6, 2) := by decide +kernel
theorem dX12_gather_154 : decode cX12_gather 154 = .ok (.iaload, 1) := by decide +kernel
theorem dX12_gather_155 : decode cX12_gather 155 = .ok (.iconst 5, 1) := by decide +kernel
theorem dX12_gather_156 : decode cX12_gather 156 = .ok (.if_icmp .ne 24, 3) := by decide +kernel
end
section
theorem dX12_gather_159 : decode cX12_gather 159 = .ok (.aload_n 0, 1) := by decide +kernel
theorem dX12_gather_160 : decode cX12_gather 160 = .ok (.dup, 1) := by decide +kernel
theorem dX12_gather_161 : decode cX12_gather 161 = .ok (.getfield 357, 3) := by decide +kernel
theorem dX12_gather_164 : decode cX12_gather 164 = .ok (.iconst 1, 1) := by decide +kernel
theorem dX12_gather_165 : decode cX12_gather 165 = .ok (.aload_n 0, 1) := by decide +kernel
theorem dX12_gather_166 : decode cX12_gather 166 = .ok (.getfield 130, 3) := by decide +kernel
theorem dX12_gather_169 : decode cX12_gather 169 = .ok (.iload 6, 2) := by decide +kernel
theorem dX12_gather_171 : decode cX12_gather 171 = .ok (.iaload, 1) := by decide +kernel
theorem dX12_gather_172 : decode cX12_gather 172 = .ok (.ishl, 1) := by decide +kernel
theorem dX12_gather_173 : decode cX12_gather 173 = .ok (.ior, 1) := by decide +kernel
theorem dX12_gather_174 : decode cX12_gather 174 = .ok (.putfield 357, 3) := by decide +kernel
theorem dX12_gather_177 : decode cX12_gather 177 = .ok (.goto 60, 3) := by decide +kernel
theorem dX12_gather_180 : decode cX12_gather 180 = .ok (.aload_n 0, 1) := by decide +kernel
theorem dX12_gather_181 : decode cX12_gather 181 = .ok (.getfield 127, 3) := by decide +kernel
theorem dX12_gather_184 : decode cX12_gather 184 = .ok (.iload 6, 2) := by decide +kernel
theorem dX12_gather_186 : decode cX12_gather 186 = .ok (.iaload, 1) := by decide +kernel
theorem dX12_gather_187 : decode cX12_gather 187 = .ok (.bipush 6, 2) := by decide +kernel
theorem dX12_gather_189 : decode cX12_gather 189 = .ok (.if_icmp .ne 24, 3) := by decide +kernel
theorem dX12_gather_192 : decode cX12_gather 192 = .ok (.aload_n 0, 1) := by decide +kernel
theorem dX12_gather_193 : decode cX12_gather 193 = .ok (.dup, 1) := by decide +kernel
theorem dX12_gather_194 : decode cX12_gather 194 = .ok (.getfield 360, 3) := by decide +kernel
theorem dX12_gather_197 : decode cX12_gather 197 = .ok (.iconst 1, 1) := by decide +kernel
theorem dX12_gather_198 : decode cX12_gather 198 = .ok (.aload_n 0, 1) := by decide +kernel
theorem dX12_gather_199 : decode cX12_gather 199 = .ok (.getfield 130, 3) := by decide +kernel
theorem dX12_gather_202 : decode cX12_gather 202 = .ok (.iload 6, 2) := by decide +kernel
theorem dX12_gather_204 : decode cX12_gather 204 = .ok (.iaload, 1) := by decide +kernel
theorem dX12_gather_205 : decode cX12_gather 205 = .ok (.ishl, 1) := by decide +kernel
theorem dX12_gather_206 : decode cX12_gather 206 = .ok (.ior, 1) := by decide +kernel
theorem dX12_gather_207 : decode cX12_gather 207 = .ok (.putfield 360, 3) := by decide +kernel
theorem dX12_gather_210 : decode cX12_gather 210 = .ok (.goto 27, 3) := by decide +kernel
theorem dX12_gather_213 : decode cX12_gather 213 = .ok (.aload_n 0, 1) := by decide +kernel
theorem dX12_gather_214 : decode cX12_gather 214 = .ok (.dup, 1) := by decide +kernel
theorem dX12_gather_215 : decode cX12_gather 215 = .ok (.getfield 360, 3) := by decide +kernel
theorem dX12_gather_218 : decode cX12_gather 218 = .ok (.sipush 255, 3) := by decide +kernel
theorem dX12_gather_221 : decode cX12_gather 221 = .ok (.iconst 1, 1) := by decide +kernel
theorem dX12_gather_222 : decode cX12_gather 222 = .ok (.aload_n 0, 1) := by decide +kernel
theorem dX12_gather_223 : decode cX12_gather 223 = .ok (.getfield 130, 3) := by decide +kernel
theorem dX12_gather_226 : decode cX12_gather 226 = .ok (.iload 6, 2) := by decide +kernel
theorem dX12_gather_228 : decode cX12_gather 228 = .ok (.iaload, 1) := by decide +kernel
theorem dX12_gather_229 : decode cX12_gather 229 = .ok (.ishl, 1) := by decide +kernel
theorem dX12_gather_230 : decode cX12_gather 230 = .ok (.iconst (-1), 1) := by decide +kernel
theorem dX12_gather_231 : decode cX12_gather 231 = .ok (.ixor, 1) := by decide +kernel
theorem dX12_gather_232 : decode cX12_gather 232 = .ok (.iand, 1) := by decide +kernel
theorem dX12_gather_233 : decode cX12_gather 233 = .ok (.ior, 1) := by decide +kernel
theorem dX12_gather_234 : decode cX12_gather 234 = .ok (.putfield 360, 3) := by decide +kernel
theorem dX12_gather_237 : decode cX12_gather 237 = .ok (.iinc 5 1, 3) := by decide +kernel
theorem dX12_gather_240 : decode cX12_gather 240 = .ok (.goto (-190), 3) := by decide +kernel
theorem dX12_gather_243 : decode cX12_gather 243 = .ok (.iinc 4 1, 3) := by decide +kernel
theorem dX12_gather_246 : decode cX12_gather 246 = .ok (.goto (-208), 3) := by decide +kernel
theorem dX12_gather_249 : decode cX12_gather 249 = .ok (.return_, 1) := by decide +kernel
theorem dX12_alterOf_0 : decode cX12_alterOf 0 = .ok (.aload_n 0, 1) := by decide +kernel
theorem dX12_alterOf_1 : decode cX12_alterOf 1 = .ok (.iload_n 1, 1) := by decide +kernel
theorem dX12_alterOf_2 : decode cX12_alterOf 2 = .ok (.iload_n 2, 1) := by decide +kernel
theorem dX12_alterOf_3 : decode cX12_alterOf 3 = .ok (.iload_n 3, 1) := by decide +kernel
theorem dX12_alterOf_4 : decode cX12_alterOf 4 = .ok (.invokevirtual 363, 3) := by decide +kernel
theorem dX12_alterOf_7 : decode cX12_alterOf 7 = .ok (.iconst 0, 1) := by decide +kernel
theorem dX12_alterOf_8 : decode cX12_alterOf 8 = .ok (.istore 4, 2) := by decide +kernel
theorem dX12_alterOf_10 : decode cX12_alterOf 10 = .ok (.iconst 0, 1) := by decide +kernel
theorem dX12_alterOf_11 : decode cX12_alterOf 11 = .ok (.istore 5, 2) := by decide +kernel
theorem dX12_alterOf_13 : decode cX12_alterOf 13 = .ok (.iload 5, 2) := by decide +kernel
theorem dX12_alterOf_15 : decode cX12_alterOf 15 = .ok (.iconst 5, 1) := by decide +kernel
theorem dX12_alterOf_16 : decode cX12_alterOf 16 = .ok (.if_icmp .ge 45, 3) := by decide +kernel
theorem dX12_alterOf_19 : decode cX12_alterOf 19 = .ok (.iload 4, 2) := by decide +kernel
theorem dX12_alterOf_21 : decode cX12_alterOf 21 = .ok (.aload_n 0, 1) := by decide +kernel
theorem dX12_alterOf_22 : decode cX12_alterOf 22 = .ok (.getfield 226, 3) := by decide +kernel
theorem dX12_alterOf_25 : decode cX12_alterOf 25 = .ok (.iload 5, 2) := by decide +kernel
theorem dX12_alterOf_27 : decode cX12_alterOf 27 = .ok (.iaload, 1) := by decide +kernel
theorem dX12_alterOf_28 : decode cX12_alterOf 28 = .ok (.iconst 0, 1) := by decide +kernel
theorem dX12_alterOf_29 : decode cX12_alterOf 29 = .ok (.aload_n 0, 1) := by decide +kernel
theorem dX12_alterOf_30 : decode cX12_alterOf 30 = .ok (.getfield 198, 3) := by decide +kernel
theorem dX12_alterOf_33 : decode cX12_alterOf 33 = .ok (.iconst 5, 1) := by decide +kernel
theorem dX12_alterOf_34 : decode cX12_alterOf 34 = .ok (.iload_n 2, 1) := by decide +kernel
theorem dX12_alterOf_35 : decode cX12_alterOf 35 = .ok (.imul, 1) := by decide +kernel
theorem dX12_alterOf_36 : decode cX12_alterOf 36 = .ok (.iload 5, 2) := by decide +kernel
theorem dX12_alterOf_38 : decode cX12_alterOf 38 = .ok (.iadd, 1) := by decide +kernel
theorem dX12_alterOf_39 : decode cX12_alterOf 39 = .ok (.iaload, 1) := by decide +kernel
theorem dX12_alterOf_40 : decode cX12_alterOf 40 = .ok (.aload_n 0, 1) := by decide +kernel
theorem dX12_alterOf_41 : decode cX12_alterOf 41 = .ok (.getfield 250, 3) := by decide +kernel
theorem dX12_alterOf_44 : decode cX12_alterOf 44 = .ok (.iload 5, 2) := by decide +kernel
theorem dX12_alterOf_46 : decode cX12_alterOf 46 = .ok (.iaload, 1) := by decide +kernel
theorem dX12_alterOf_47 : decode cX12_alterOf 47 = .ok (.isub, 1) := by decide +kernel
theorem dX12_alterOf_48 : decode cX12_alterOf 48 = .ok (.invokestatic 367, 3) := by decide +kernel
theorem dX12_alterOf_51 : decode cX12_alterOf 51 = .ok (.imul, 1) := by decide +kernel
theorem dX12_alterOf_52 : decode cX12_alterOf 52 = .ok (.iadd, 1) := by decide +kernel
theorem dX12_alterOf_53 : decode cX12_alterOf 53 = .ok (.istore 4, 2) := by decide +kernel
theorem dX12_alterOf_55 : decode cX12_alterOf 55 = .ok (.iinc 5 1, 3) := by decide +kernel
theorem dX12_alterOf_58 : decode cX12_alterOf 58 = .ok (.goto (-45), 3) := by decide +kernel
theorem dX12_alterOf_61 : decode cX12_alterOf 61 = .ok (.aload_n 0, 1) := by decide +kernel
theorem dX12_alterOf_62 : decode cX12_alterOf 62 = .ok (.getfield 357, 3) := by decide +kernel
theorem dX12_alterOf_65 : decode cX12_alterOf 65 = .ok (.aload_n 0, 1) := by decide +kernel
theorem dX12_alterOf_66 : decode cX12_alterOf 66 = .ok (.aload_n 0, 1) := by decide +kernel
theorem dX12_alterOf_67 : decode cX12_alterOf 67 = .ok (.getfield 201, 3) := by decide +kernel
theorem dX12_alterOf_70 : decode cX12_alterOf 70 = .ok (.iload_n 2, 1) := by decide +kernel
theorem dX12_alterOf_71 : decode cX12_alterOf 71 = .ok (.iaload, 1) := by decide +kernel
theorem dX12_alterOf_72 : decode cX12_alterOf 72 = .ok (.iload_n 3, 1) := by decide +kernel
theorem dX12_alterOf_73 : decode cX12_alterOf 73 = .ok (.invokevirtual 309, 3) := by decide +kernel
theorem dX12_alterOf_76 : decode cX12_alterOf 76 = .ok (.ishr, 1) := by decide +kernel
theorem dX12_alterOf_77 : decode cX12_alterOf 77 = .ok (.iconst 1, 1) := by decide +kernel
theorem dX12_alterOf_78 : decode cX12_alterOf 78 = .ok (.iand, 1) := by decide +kernel
theorem dX12_alterOf_79 : decode cX12_alterOf 79 = .ok (.iconst 1, 1) := by decide +kernel
theorem dX12_alterOf_80 : decode cX12_alterOf 80 = .ok (.if_icmp .ne 69, 3) := by decide +kernel
theorem dX12_alterOf_83 : decode cX12_alterOf 83 = .ok (.iconst 0, 1) := by decide +kernel
theorem dX12_alterOf_84 : decode cX12_alterOf 84 = .ok (.istore 5, 2) := by decide +kernel
theorem dX12_alterOf_86 : decode cX12_alterOf 86 = .ok (.iconst 0, 1) := by decide +kernel
theorem dX12_alterOf_87 : decode cX12_alterOf 87 = .ok (.istore 6, 2) := by decide +kernel
theorem dX12_alterOf_89 : decode cX12_alterOf 89 = .ok (.iload 6, 2) := by decide +kernel
theorem dX12_alterOf_91 : decode cX12_alterOf 91 = .ok (.bipush 16, 2) := by decide +kernel
theorem dX12_alterOf_93 : decode cX12_alterOf 93 = .ok (.if_icmp .ge 38, 3) := by decide +kernel
theorem dX12_alterOf_96 : decode cX12_alterOf 96 = .ok (.iload 5, 2) := by decide +kernel
theorem dX12_alterOf_98 : decode cX12_alterOf 98 = .ok (.ifCond .ne 20, 3) := by decide +kernel
theorem dX12_alterOf_101 : decode cX12_alterOf 101 = .ok (.aload_n 0, 1) := by decide +kernel
theorem dX12_alterOf_102 : decode cX12_alterOf 102 = .ok (.getfield 357, 3) := by decide +kernel
theorem dX12_alterOf_105 : decode cX12_alterOf 105 = .ok (.aload_n 0, 1) := by decide +kernel
theorem dX12_alterOf_106 : decode cX12_alterOf 106 = .ok (.iload 6, 2) := by decide +kernel
theorem dX12_alterOf_108 : decode cX12_alterOf 108 = .ok (.iload_n 3, 1) := by decide +kernel
theorem dX12_alterOf_109 : decode cX12_alterOf 109 = .ok (.invokevirtual 309, 3) := by decide +kernel
theorem dX12_alterOf_112 : decode cX12_alterOf 112 = .ok (.ishr, 1) := by decide +kernel
theorem dX12_alterOf_113 : decode cX12_alterOf 113 = .ok (.iconst 1, 1) := by decide +kernel
theorem dX12_alterOf_114 : decode cX12_alterOf 114 = .ok (.iand, 1) := by decide +kernel
theorem dX12_alterOf_115 : decode cX12_alterOf 115 = .ok (.ifCond .ne 7, 3) := by decide +kernel
theorem dX12_alterOf_118 : decode cX12_alterOf 118 = .ok (.iconst 1, 1) := by decide +kernel
theorem dX12_alterOf_119 : decode cX12_alterOf 119 = .ok (.goto 4, 3) := by decide +kernel
theorem dX12_alterOf_122 : decode cX12_alterOf 122 = .ok (.iconst 0, 1) := by decide +kernel
theorem dX12_alterOf_123 : decode cX12_alterOf 123 = .ok (.istore 5, 2) := by decide +kernel
theorem dX12_alterOf_125 : decode cX12_alterOf 125 = .ok (.iinc 6 1, 3) := by decide +kernel
theorem dX12_alterOf_128 : decode cX12_alterOf 128 = .ok (.goto (-39), 3) := by decide +kernel
theorem dX12_alterOf_131 : decode cX12_alterOf 131 = .ok (.iload 5, 2) := by decide +kernel
theorem dX12_alterOf_133 : decode cX12_alterOf 133 = .ok (.ifCond .ne 5, 3) := by decide +kernel
theorem dX12_alterOf_136 : decode cX12_alterOf 136 = .ok (.iconst (-1), 1) := by decide +kernel
theorem dX12_alterOf_137 : decode cX12_alterOf 137 = .ok (.ireturn, 1) := by decide +kernel
theorem dX12_alterOf_138 : decode cX12_alterOf 138 = .ok (.iload 4, 2) := by decide +kernel
theorem dX12_alterOf_140 : decode cX12_alterOf 140 = .ok (.aload_n 0, 1) := by decide +kernel
theorem dX12_alterOf_141 : decode cX12_alterOf 141 = .ok (.getfield 226, 3) := by decide +kernel
theorem dX12_alterOf_144 : decode cX12_alterOf 144 = .ok (.iconst 5, 1) := by decide +kernel
theorem dX12_alterOf_145 : decode cX12_alterOf 145 = .ok (.iaload, 1) := by decide +kernel
theorem dX12_alterOf_146 : decode cX12_alterOf 146 = .ok (.iadd, 1) := by decide +kernel
theorem dX12_alterOf_147 : decode cX12_alterOf 147 = .ok (.istore 4, 2) := by decide +kernel
theorem dX12_alterOf_149 : decode cX12_alterOf 149 = .ok (.aload_n 0, 1) := by decide +kernel
theorem dX12_alterOf_150 : decode cX12_alterOf 150 = .ok (.getfield 360, 3) := by decide +kernel
theorem dX12_alterOf_153 : decode cX12_alterOf 153 = .ok (.aload_n 0, 1) := by decide +kernel
theorem dX12_alterOf_154 : decode cX12_alterOf 154 = .ok (.getfield 203, 3) := by decide +kernel
theorem dX12_alterOf_157 : decode cX12_alterOf 157 = .ok (.iload_n 2, 1) := by decide +kernel
theorem dX12_alterOf_158 : decode cX12_alterOf 158 = .ok (.iaload, 1) := by decide +kernel
theorem dX12_alterOf_159 : decode cX12_alterOf 159 = .ok (.ishr, 1) := by decide +kernel
theorem dX12_alterOf_160 : decode cX12_alterOf 160 = .ok (.iconst 1, 1) := by decide +kernel
theorem dX12_alterOf_161 : decode cX12_alterOf 161 = .ok (.iand, 1) := by decide +kernel
theorem dX12_alterOf_162 : decode cX12_alterOf 162 = .ok (.iconst 1, 1) := by decide +kernel
theorem dX12_alterOf_163 : decode cX12_alterOf 163 = .ok (.if_icmp .ne 27, 3) := by decide +kernel
theorem dX12_alterOf_166 : decode cX12_alterOf 166 = .ok (.aload_n 0, 1) := by decide +kernel
theorem dX12_alterOf_167 : decode cX12_alterOf 167 = .ok (.getfield 360, 3) := by decide +kernel
theorem dX12_alterOf_170 : decode cX12_alterOf 170 = .ok (.sipush 255, 3) := by decide +kernel
theorem dX12_alterOf_173 : decode cX12_alterOf 173 = .ok (.if_icmp .ne 5, 3) := by decide +kernel
theorem dX12_alterOf_176 : decode cX12_alterOf 176 = .ok (.iconst (-1), 1) := by decide +kernel
theorem dX12_alterOf_177 : decode cX12_alterOf 177 = .ok (.ireturn, 1) := by decide +kernel
theorem dX12_alterOf_178 : decode cX12_alterOf 178 = .ok (.iload 4, 2) := by decide +kernel
theorem dX12_alterOf_180 : decode cX12_alterOf 180 = .ok (.aload_n 0, 1) := by decide +kernel
theorem dX12_alterOf_181 : decode cX12_alterOf 181 = .ok (.getfield 226, 3) := by decide +kernel
theorem dX12_alterOf_184 : decode cX12_alterOf 184 = .ok (.bipush 6, 2) := by decide +kernel
theorem dX12_alterOf_186 : decode cX12_alterOf 186 = .ok (.iaload, 1) := by decide +kernel
theorem dX12_alterOf_187 : decode cX12_alterOf 187 = .ok (.iadd, 1) := by decide +kernel
theorem dX12_alterOf_188 : decode cX12_alterOf 188 = .ok (.istore 4, 2) := by decide +kernel
theorem dX12_alterOf_190 : decode cX12_alterOf 190 = .ok (.iload 4, 2) := by decide +kernel
theorem dX12_alterOf_192 : decode cX12_alterOf 192 = .ok (.ireturn, 1) := by decide +kernel
theorem dX12_alter_0 : decode cX12_alter 0 = .ok (.aload_n 0, 1) := by decide +kernel
theorem dX12_alter_1 : decode cX12_alter 1 = .ok (.iload_n 1, 1) := by decide +kernel
theorem dX12_alter_2 : decode cX12_alter 2 = .ok (.iload_n 2, 1) := by decide +kernel
theorem dX12_alter_3 : decode cX12_alter 3 = .ok (.iload_n 3, 1) := by decide +kernel
theorem dX12_alter_4 : decode cX12_alter 4 = .ok (.invokevirtual 329, 3) := by decide +kernel
theorem dX12_alter_7 : decode cX12_alter 7 = .ok (.ifCond .eq 13, 3) := by decide +kernel
theorem dX12_alter_10 : decode cX12_alter 10 = .ok (.aload_n 0, 1) := by decide +kernel
theorem dX12_alter_11 : decode cX12_alter 11 = .ok (.iload_n 1, 1) := by decide +kernel
theorem dX12_alter_12 : decode cX12_alter 12 = .ok (.iload_n 2, 1) := by decide +kernel
theorem dX12_alter_13 : decode cX12_alter 13 = .ok (.iload_n 3, 1) := by decide +kernel
theorem dX12_alter_14 : decode cX12_alter 14 = .ok (.invokevirtual 370, 3) := by decide +kernel
theorem dX12_alter_17 : decode cX12_alter 17 = .ok (.goto 5, 3) := by decide +kernel
theorem dX12_alter_20 : decode cX12_alter 20 = .ok (.bipush (-2), 2) := by decide +kernel
theorem dX12_alter_22 : decode cX12_alter 22 = .ok (.ireturn, 1) := by decide +kernel
theorem dX12_best_0 : decode cX12_best 0 = .ok (.aload_n 0, 1) := by decide +kernel
theorem dX12_best_1 : decode cX12_best 1 = .ok (.iload_n 1, 1) := by decide +kernel
theorem dX12_best_2 : decode cX12_best 2 = .ok (.iload_n 2, 1) := by decide +kernel
theorem dX12_best_3 : decode cX12_best 3 = .ok (.iload_n 3, 1) := by decide +kernel
theorem dX12_best_4 : decode cX12_best 4 = .ok (.invokevirtual 329, 3) := by decide +kernel
theorem dX12_best_7 : decode cX12_best 7 = .ok (.ifCond .ne 6, 3) := by decide +kernel
theorem dX12_best_10 : decode cX12_best 10 = .ok (.bipush (-2), 2) := by decide +kernel
theorem dX12_best_12 : decode cX12_best 12 = .ok (.ireturn, 1) := by decide +kernel
theorem dX12_best_13 : decode cX12_best 13 = .ok (.aload_n 0, 1) := by decide +kernel
theorem dX12_best_14 : decode cX12_best 14 = .ok (.iload_n 1, 1) := by decide +kernel
theorem dX12_best_15 : decode cX12_best 15 = .ok (.iload_n 2, 1) := by decide +kernel
theorem dX12_best_16 : decode cX12_best 16 = .ok (.iload_n 3, 1) := by decide +kernel
theorem dX12_best_17 : decode cX12_best 17 = .ok (.invokevirtual 333, 3) := by decide +kernel
theorem dX12_best_20 : decode cX12_best 20 = .ok (.istore 4, 2) := by decide +kernel
theorem dX12_best_22 : decode cX12_best 22 = .ok (.iload 4, 2) := by decide +kernel
theorem dX12_best_24 : decode cX12_best 24 = .ok (.ifCond .ne 5, 3) := by decide +kernel
theorem dX12_best_27 : decode cX12_best 27 = .ok (.iconst 0, 1) := by decide +kernel
theorem dX12_best_28 : decode cX12_best 28 = .ok (.ireturn, 1) := by decide +kernel
theorem dX12_best_29 : decode cX12_best 29 = .ok (.aload_n 0, 1) := by decide +kernel
theorem dX12_best_30 : decode cX12_best 30 = .ok (.iload_n 1, 1) := by decide +kernel
theorem dX12_best_31 : decode cX12_best 31 = .ok (.iload_n 2, 1) := by decide +kernel
theorem dX12_best_32 : decode cX12_best 32 = .ok (.iload_n 3, 1) := by decide +kernel
theorem dX12_best_33 : decode cX12_best 33 = .ok (.invokevirtual 370, 3) := by decide +kernel
theorem dX12_best_36 : decode cX12_best 36 = .ok (.istore 5, 2) := by decide +kernel
theorem dX12_best_38 : decode cX12_best 38 = .ok (.iload 5, 2) := by decide +kernel
theorem dX12_best_40 : decode cX12_best 40 = .ok (.iconst (-1), 1) := by decide +kernel
theorem dX12_best_41 : decode cX12_best 41 = .ok (.if_icmp .eq 14, 3) := by decide +kernel
theorem dX12_best_44 : decode cX12_best 44 = .ok (.iload 5, 2) := by decide +kernel
theorem dX12_best_46 : decode cX12_best 46 = .ok (.iload 4, 2) := by decide +kernel
theorem dX12_best_48 : decode cX12_best 48 = .ok (.if_icmp .gt 7, 3) := by decide +kernel
theorem dX12_best_51 : decode cX12_best 51 = .ok (.iconst 1, 1) := by decide +kernel
theorem dX12_best_52 : decode cX12_best 52 = .ok (.goto 4, 3) := by decide +kernel
theorem dX12_best_55 : decode cX12_best 55 = .ok (.iconst 2, 1) := by decide +kernel
theorem dX12_best_56 : decode cX12_best 56 = .ok (.ireturn, 1) := by decide +kernel
theorem dX12_worn_0 : decode cX12_worn 0 = .ok (.aload_n 0, 1) := by decide +kernel
theorem dX12_worn_1 : decode cX12_worn 1 = .ok (.iload_n 1, 1) := by decide +kernel
theorem dX12_worn_2 : decode cX12_worn 2 = .ok (.invokevirtual 298, 3) := by decide +kernel
theorem dX12_worn_5 : decode cX12_worn 5 = .ok (.ifCond .eq 47, 3) := by decide +kernel
theorem dX12_worn_8 : decode cX12_worn 8 = .ok (.iload_n 2, 1) := by decide +kernel
theorem dX12_worn_9 : decode cX12_worn 9 = .ok (.i2l, 1) := by decide +kernel
theorem dX12_worn_10 : decode cX12_worn 10 = .ok (.lconst 0, 1) := by decide +kernel
theorem dX12_worn_11 : decode cX12_worn 11 = .ok (.ldc2_w 277, 3) := by decide +kernel
theorem dX12_worn_14 : decode cX12_worn 14 = .ok (.invokestatic 5, 3) := by decide +kernel
theorem dX12_worn_17 : decode cX12_worn 17 = .ok (.ifCond .eq 35, 3) := by decide +kernel
theorem dX12_worn_20 : decode cX12_worn 20 = .ok (.iload_n 3, 1) := by decide +kernel
theorem dX12_worn_21 : decode cX12_worn 21 = .ok (.iload 4, 2) := by decide +kernel
theorem dX12_worn_23 : decode cX12_worn 23 = .ok (.invokestatic 279, 3) := by decide +kernel
theorem dX12_worn_26 : decode cX12_worn 26 = .ok (.ifCond .eq 26, 3) := by decide +kernel
theorem dX12_worn_29 : decode cX12_worn 29 = .ok (.iload 4, 2) := by decide +kernel
theorem dX12_worn_31 : decode cX12_worn 31 = .ok (.iload_n 3, 1) := by decide +kernel
theorem dX12_worn_32 : decode cX12_worn 32 = .ok (.isub, 1) := by decide +kernel
theorem dX12_worn_33 : decode cX12_worn 33 = .ok (.sipush 500, 3) := by decide +kernel
theorem dX12_worn_36 : decode cX12_worn 36 = .ok (.if_icmp .ge 16, 3) := by decide +kernel
theorem dX12_worn_39 : decode cX12_worn 39 = .ok (.iload 5, 2) := by decide +kernel
theorem dX12_worn_41 : decode cX12_worn 41 = .ok (.i2l, 1) := by decide +kernel
theorem dX12_worn_42 : decode cX12_worn 42 = .ok (.lconst 0, 1) := by decide +kernel
theorem dX12_worn_43 : decode cX12_worn 43 = .ok (.ldc2_w 351, 3) := by decide +kernel
theorem dX12_worn_46 : decode cX12_worn 46 = .ok (.invokestatic 5, 3) := by decide +kernel
theorem dX12_worn_49 : decode cX12_worn 49 = .ok (.ifCond .ne 6, 3) := by decide +kernel
theorem dX12_worn_52 : decode cX12_worn 52 = .ok (.bipush (-2), 2) := by decide +kernel
theorem dX12_worn_54 : decode cX12_worn 54 = .ok (.ireturn, 1) := by decide +kernel
theorem dX12_worn_55 : decode cX12_worn 55 = .ok (.iconst 0, 1) := by decide +kernel
theorem dX12_worn_56 : decode cX12_worn 56 = .ok (.istore 6, 2) := by decide +kernel
theorem dX12_worn_58 : decode cX12_worn 58 = .ok (.iconst (-1), 1) := by decide +kernel
theorem dX12_worn_59 : decode cX12_worn 59 = .ok (.istore 7, 2) := by decide +kernel
theorem dX12_worn_61 : decode cX12_worn 61 = .ok (.iconst (-1), 1) := by decide +kernel
theorem dX12_worn_62 : decode cX12_worn 62 = .ok (.istore 8, 2) := by decide +kernel
theorem dX12_worn_64 : decode cX12_worn 64 = .ok (.iload_n 3, 1) := by decide +kernel
theorem dX12_worn_65 : decode cX12_worn 65 = .ok (.istore 9, 2) := by decide +kernel
theorem dX12_worn_67 : decode cX12_worn 67 = .ok (.iload 9, 2) := by decide +kernel
theorem dX12_worn_69 : decode cX12_worn 69 = .ok (.iload 4, 2) := by decide +kernel
theorem dX12_worn_71 : decode cX12_worn 71 = .ok (.if_icmp .gt 81, 3) := by decide +kernel
theorem dX12_worn_74 : decode cX12_worn 74 = .ok (.iconst 1, 1) := by decide +kernel
theorem dX12_worn_75 : decode cX12_worn 75 = .ok (.istore 10, 2) := by decide +kernel
theorem dX12_worn_77 : decode cX12_worn 77 = .ok (.iconst 0, 1) := by decide +kernel
theorem dX12_worn_78 : decode cX12_worn 78 = .ok (.istore 11, 2) := by decide +kernel
theorem dX12_worn_80 : decode cX12_worn 80 = .ok (.iload 11, 2) := by decide +kernel
theorem dX12_worn_82 : decode cX12_worn 82 = .ok (.aload_n 0, 1) := by decide +kernel
theorem dX12_worn_83 : decode cX12_worn 83 = .ok (.getfield 118, 3) := by decide +kernel
theorem dX12_worn_86 : decode cX12_worn 86 = .ok (.if_icmp .ge 35, 3) := by decide +kernel
theorem dX12_worn_89 : decode cX12_worn 89 = .ok (.iload 10, 2) := by decide +kernel
theorem dX12_worn_91 : decode cX12_worn 91 = .ok (.ifCond .eq 30, 3) := by decide +kernel
theorem dX12_worn_94 : decode cX12_worn 94 = .ok (.aload_n 0, 1) := by decide +kernel
theorem dX12_worn_95 : decode cX12_worn 95 = .ok (.iload 11, 2) := by decide +kernel
theorem dX12_worn_97 : decode cX12_worn 97 = .ok (.iload_n 2, 1) := by decide +kernel
theorem dX12_worn_98 : decode cX12_worn 98 = .ok (.iconst 0, 1) := by decide +kernel
theorem dX12_worn_99 : decode cX12_worn 99 = .ok (.iload_n 1, 1) := by decide +kernel
theorem dX12_worn_100 : decode cX12_worn 100 = .ok (.iload 9, 2) := by decide +kernel
theorem dX12_worn_102 : decode cX12_worn 102 = .ok (.invokevirtual 320, 3) := by decide +kernel
theorem dX12_worn_105 : decode cX12_worn 105 = .ok (.ifCond .ne 7, 3) := by decide +kernel
theorem dX12_worn_108 : decode cX12_worn 108 = .ok (.iconst 1, 1) := by decide +kernel
theorem dX12_worn_109 : decode cX12_worn 109 = .ok (.goto 4, 3) := by decide +kernel
theorem dX12_worn_112 : decode cX12_worn 112 = .ok (.iconst 0, 1) := by decide +kernel
theorem dX12_worn_113 : decode cX12_worn 113 = .ok (.istore 10, 2) := by decide +kernel
theorem dX12_worn_115 : decode cX12_worn 115 = .ok (.iinc 11 1, 3) := by decide +kernel
theorem dX12_worn_118 : decode cX12_worn 118 = .ok (.goto (-38), 3) := by decide +kernel
theorem dX12_worn_121 : decode cX12_worn 121 = .ok (.iload 10, 2) := by decide +kernel
theorem dX12_worn_123 : decode cX12_worn 123 = .ok (.ifCond .ne 6, 3) := by decide +kernel
theorem dX12_worn_126 : decode cX12_worn 126 = .ok (.goto 20, 3) := by decide +kernel
theorem dX12_worn_129 : decode cX12_worn 129 = .ok (.iinc 6 1, 3) := by decide +kernel
theorem dX12_worn_132 : decode cX12_worn 132 = .ok (.iload 9, 2) := by decide +kernel
theorem dX12_worn_134 : decode cX12_worn 134 = .ok (.istore 8, 2) := by decide +kernel
theorem dX12_worn_136 : decode cX12_worn 136 = .ok (.iload 7, 2) := by decide +kernel
theorem dX12_worn_138 : decode cX12_worn 138 = .ok (.iconst (-1), 1) := by decide +kernel
theorem dX12_worn_139 : decode cX12_worn 139 = .ok (.if_icmp .ne 7, 3) := by decide +kernel
theorem dX12_worn_142 : decode cX12_worn 142 = .ok (.iload 9, 2) := by decide +kernel
theorem dX12_worn_144 : decode cX12_worn 144 = .ok (.istore 7, 2) := by decide +kernel
theorem dX12_worn_146 : decode cX12_worn 146 = .ok (.iinc 9 1, 3) := by decide +kernel
theorem dX12_worn_149 : decode cX12_worn 149 = .ok (.goto (-82), 3) := by decide +kernel
theorem dX12_worn_152 : decode cX12_worn 152 = .ok (.iload 5, 2) := by decide +kernel
theorem dX12_worn_154 : decode cX12_worn 154 = .ok (.ifCond .ne 8, 3) := by decide +kernel
theorem dX12_worn_157 : decode cX12_worn 157 = .ok (.iload 6, 2) := by decide +kernel
theorem dX12_worn_159 : decode cX12_worn 159 = .ok (.goto 16, 3) := by decide +kernel
theorem dX12_worn_162 : decode cX12_worn 162 = .ok (.iload 5, 2) := by decide +kernel
theorem dX12_worn_164 : decode cX12_worn 164 = .ok (.iconst 1, 1) := by decide +kernel
theorem dX12_worn_165 : decode cX12_worn 165 = .ok (.if_icmp .ne 8, 3) := by decide +kernel
theorem dX12_worn_168 : decode cX12_worn 168 = .ok (.iload 7, 2) := by decide +kernel
theorem dX12_worn_170 : decode cX12_worn 170 = .ok (.goto 5, 3) := by decide +kernel
theorem dX12_worn_173 : decode cX12_worn 173 = .ok (.iload 8, 2) := by decide +kernel
theorem dX12_worn_175 : decode cX12_worn 175 = .ok (.ireturn, 1) := by decide +kernel
theorem dX12_count_0 : decode cX12_count 0 = .ok (.iload_n 1, 1) := by decide +kernel
theorem dX12_count_1 : decode cX12_count 1 = .ok (.tableswitch 78 0 6 #[43, 48, 53, 58, 63, 68, 73], 43) := by decide +kernel
theorem dX12_count_44 : decode cX12_count 44 = .ok (.aload_n 0, 1) := by decide +kernel
theorem dX12_count_45 : decode cX12_count 45 = .ok (.getfield 118, 3) := by decide +kernel
theorem dX12_count_48 : decode cX12_count 48 = .ok (.ireturn, 1) := by decide +kernel
theorem dX12_count_49 : decode cX12_count 49 = .ok (.aload_n 0, 1) := by decide +kernel
theorem dX12_count_50 : decode cX12_count 50 = .ok (.getfield 295, 3) := by decide +kernel
theorem dX12_count_53 : decode cX12_count 53 = .ok (.ireturn, 1) := by decide +kernel
theorem dX12_count_54 : decode cX12_count 54 = .ok (.aload_n 0, 1) := by decide +kernel
theorem dX12_count_55 : decode cX12_count 55 = .ok (.getfield 337, 3) := by decide +kernel
theorem dX12_count_58 : decode cX12_count 58 = .ok (.ireturn, 1) := by decide +kernel
theorem dX12_count_59 : decode cX12_count 59 = .ok (.aload_n 0, 1) := by decide +kernel
theorem dX12_count_60 : decode cX12_count 60 = .ok (.getfield 343, 3) := by decide +kernel
theorem dX12_count_63 : decode cX12_count 63 = .ok (.ireturn, 1) := by decide +kernel
theorem dX12_count_64 : decode cX12_count 64 = .ok (.aload_n 0, 1) := by decide +kernel
theorem dX12_count_65 : decode cX12_count 65 = .ok (.getfield 306, 3) := by decide +kernel
theorem dX12_count_68 : decode cX12_count 68 = .ok (.ireturn, 1) := by decide +kernel
theorem dX12_count_69 : decode cX12_count 69 = .ok (.aload_n 0, 1) := by decide +kernel
theorem dX12_count_70 : decode cX12_count 70 = .ok (.getfield 282, 3) := by decide +kernel
theorem dX12_count_73 : decode cX12_count 73 = .ok (.ireturn, 1) := by decide +kernel
theorem dX12_count_74 : decode cX12_count 74 = .ok (.aload_n 0, 1) := by decide +kernel
theorem dX12_count_75 : decode cX12_count 75 = .ok (.getfield 253, 3) := by decide +kernel
theorem dX12_count_78 : decode cX12_count 78 = .ok (.ireturn, 1) := by decide +kernel
theorem dX12_count_79 : decode cX12_count 79 = .ok (.iconst (-1), 1) := by decide +kernel
theorem dX12_count_80 : decode cX12_count 80 = .ok (.ireturn, 1) := by decide +kernel
theorem dJ9_max_7cf53_0 : decode cJ9_max_7cf53 0 = .ok (.iload_n 0, 1) := by decide +kernel
theorem dJ9_max_7cf53_1 : decode cJ9_max_7cf53 1 = .ok (.iload_n 1, 1) := by decide +kernel
theorem dJ9_max_7cf53_2 : decode cJ9_max_7cf53 2 = .ok (.if_icmp .lt 7, 3) := by decide +kernel
theorem dJ9_max_7cf53_5 : decode cJ9_max_7cf53 5 = .ok (.iload_n 0, 1) := by decide +kernel
theorem dJ9_max_7cf53_6 : decode cJ9_max_7cf53 6 = .ok (.goto 4, 3) := by decide +kernel
theorem dJ9_max_7cf53_9 : decode cJ9_max_7cf53 9 = .ok (.iload_n 1, 1) := by decide +kernel
theorem dJ9_max_7cf53_10 : decode cJ9_max_7cf53 10 = .ok (.ireturn, 1) := by decide +kernel
theorem dJ9_min_7cf53_0 : decode cJ9_min_7cf53 0 = .ok (.iload_n 0, 1) := by decide +kernel
theorem dJ9_min_7cf53_1 : decode cJ9_min_7cf53 1 = .ok (.iload_n 1, 1) := by decide +kernel
theorem dJ9_min_7cf53_2 : decode cJ9_min_7cf53 2 = .ok (.if_icmp .gt 7, 3) := by decide +kernel
theorem dJ9_min_7cf53_5 : decode cJ9_min_7cf53 5 = .ok (.iload_n 0, 1) := by decide +kernel
theorem dJ9_min_7cf53_6 : decode cJ9_min_7cf53 6 = .ok (.goto 4, 3) := by decide +kernel
theorem dJ9_min_7cf53_9 : decode cJ9_min_7cf53 9 = .ok (.iload_n 1, 1) := by decide +kernel
theorem dJ9_min_7cf53_10 : decode cJ9_min_7cf53 10 = .ok (.ireturn, 1) := by decide +kernel
theorem dJ0_length_8abf5_0 : decode cJ0_length_8abf5 0 = .ok (.aload_n 0, 1) := by decide +kernel
theorem dJ0_length_8abf5_1 : decode cJ0_length_8abf5 1 = .ok (.getfield 9, 3) := by decide +kernel
theorem dJ0_length_8abf5_4 : decode cJ0_length_8abf5 4 = .ok (.arraylength, 1) := by decide +kernel
theorem dJ0_length_8abf5_5 : decode cJ0_length_8abf5 5 = .ok (.aload_n 0, 1) := by decide +kernel
theorem dJ0_length_8abf5_6 : decode cJ0_length_8abf5 6 = .ok (.invokevirtual 335, 3) := by decide +kernel
theorem dJ0_length_8abf5_9 : decode cJ0_length_8abf5 9 = .ok (.ishr, 1) := by decide +kernel
theorem dJ0_length_8abf5_10 : decode cJ0_length_8abf5 10 = .ok (.ireturn, 1) := by decide +kernel
theorem dJ0_charAt_5068e_0 : decode cJ0_charAt_5068e 0 = .ok (.aload_n 0, 1) := by decide +kernel
theorem dJ0_charAt_5068e_1 : decode cJ0_charAt_5068e 1 = .ok (.invokevirtual 492, 3) := by decide +kernel
theorem dJ0_charAt_5068e_4 : decode cJ0_charAt_5068e 4 = .ok (.ifCond .eq 12, 3) := by decide +kernel
theorem dJ0_charAt_5068e_7 : decode cJ0_charAt_5068e 7 = .ok (.aload_n 0, 1) := by decide +kernel
theorem dJ0_charAt_5068e_8 : decode cJ0_charAt_5068e 8 = .ok (.getfield 9, 3) := by decide +kernel
theorem dJ0_charAt_5068e_11 : decode cJ0_charAt_5068e 11 = .ok (.iload_n 1, 1) := by decide +kernel
theorem dJ0_charAt_5068e_12 : decode cJ0_charAt_5068e 12 = .ok (.invokestatic 495, 3) := by decide +kernel
theorem dJ0_charAt_5068e_15 : decode cJ0_charAt_5068e 15 = .ok (.ireturn, 1) := by decide +kernel
theorem dJ0_charAt_5068e_16 : decode cJ0_charAt_5068e 16 = .ok (.aload_n 0, 1) := by decide +kernel
theorem dJ0_charAt_5068e_17 : decode cJ0_charAt_5068e 17 = .ok (.getfield 9, 3) := by decide +kernel
theorem dJ0_charAt_5068e_20 : decode cJ0_charAt_5068e 20 = .ok (.iload_n 1, 1) := by decide +kernel
theorem dJ0_charAt_5068e_21 : decode cJ0_charAt_5068e 21 = .ok (.invokestatic 498, 3) := by decide +kernel
theorem dJ0_charAt_5068e_24 : decode cJ0_charAt_5068e 24 = .ok (.ireturn, 1) := by decide +kernel
theorem dJ0_coder_7d493_0 : decode cJ0_coder_7d493 0 = .ok (.getstatic 38, 3) := by decide +kernel
theorem dJ0_coder_7d493_3 : decode cJ0_coder_7d493 3 = .ok (.ifCond .eq 10, 3) := by decide +kernel
theorem dJ0_coder_7d493_6 : decode cJ0_coder_7d493 6 = .ok (.aload_n 0, 1) := by decide +kernel
theorem dJ0_coder_7d493_7 : decode cJ0_coder_7d493 7 = .ok (.getfield 15, 3) := by decide +kernel
theorem dJ0_coder_7d493_10 : decode cJ0_coder_7d493 10 = .ok (.goto 4, 3) := by decide +kernel
theorem dJ0_coder_7d493_13 : decode cJ0_coder_7d493 13 = .ok (.iconst 1, 1) := by decide +kernel
theorem dJ0_coder_7d493_14 : decode cJ0_coder_7d493 14 = .ok (.ireturn, 1) := by decide +kernel
theorem dJ0_isLatin1_aae02_0 : decode cJ0_isLatin1_aae02 0 = .ok (.getstatic 38, 3) := by decide +kernel
theorem dJ0_isLatin1_aae02_3 : decode cJ0_isLatin1_aae02 3 = .ok (.ifCond .eq 14, 3) := by decide +kernel
theorem dJ0_isLatin1_aae02_6 : decode cJ0_isLatin1_aae02 6 = .ok (.aload_n 0, 1) := by decide +kernel
theorem dJ0_isLatin1_aae02_7 : decode cJ0_isLatin1_aae02 7 = .ok (.getfield 15, 3) := by decide +kernel
theorem dJ0_isLatin1_aae02_10 : decode cJ0_isLatin1_aae02 10 = .ok (.ifCond .ne 7, 3) := by decide +kernel
theorem dJ0_isLatin1_aae02_13 : decode cJ0_isLatin1_aae02 13 = .ok (.iconst 1, 1) := by decide +kernel
theorem dJ0_isLatin1_aae02_14 : decode cJ0_isLatin1_aae02 14 = .ok (.goto 4, 3) := by decide +kernel
theorem dJ0_isLatin1_aae02_17 : decode cJ0_isLatin1_aae02 17 = .ok (.iconst 0, 1) := by decide +kernel
theorem dJ0_isLatin1_aae02_18 : decode cJ0_isLatin1_aae02 18 = .ok (.ireturn, 1) := by decide +kernel
theorem dJ0_checkIndex_df160_0 : decode cJ0_checkIndex_df160 0 = .ok (.iload_n 0, 1) := by decide +kernel
theorem dJ0_checkIndex_df160_1 : decode cJ0_checkIndex_df160 1 = .ok (.iload_n 1, 1) := by decide +kernel
theorem dJ0_checkIndex_df160_2 : decode cJ0_checkIndex_df160 2 = .ok (.getstatic 1053, 3) := by decide +kernel
theorem dJ0_checkIndex_df160_5 : decode cJ0_checkIndex_df160 5 = .ok (.invokestatic 1059, 3) := by decide +kernel
theorem dJ0_checkIndex_df160_8 : decode cJ0_checkIndex_df160 8 = .ok (.pop, 1) := by decide +kernel
theorem dJ0_checkIndex_df160_9 : decode cJ0_checkIndex_df160 9 = .ok (.return_, 1) := by decide +kernel
theorem dJ1_charAt_3b067_0 : decode cJ1_charAt_3b067 0 = .ok (.iload_n 1, 1) := by decide +kernel
theorem dJ1_charAt_3b067_1 : decode cJ1_charAt_3b067 1 = .ok (.aload_n 0, 1) := by decide +kernel
theorem dJ1_charAt_3b067_2 : decode cJ1_charAt_3b067 2 = .ok (.arraylength, 1) := by decide +kernel
theorem dJ1_charAt_3b067_3 : decode cJ1_charAt_3b067 3 = .ok (.invokestatic 9, 3) := by decide +kernel
theorem dJ1_charAt_3b067_6 : decode cJ1_charAt_3b067 6 = .ok (.aload_n 0, 1) := by decide +kernel
theorem dJ1_charAt_3b067_7 : decode cJ1_charAt_3b067 7 = .ok (.iload_n 1, 1) := by decide +kernel
theorem dJ1_charAt_3b067_8 : decode cJ1_charAt_3b067 8 = .ok (.baload, 1) := by decide +kernel
theorem dJ1_charAt_3b067_9 : decode cJ1_charAt_3b067 9 = .ok (.sipush 255, 3) := by decide +kernel
theorem dJ1_charAt_3b067_12 : decode cJ1_charAt_3b067 12 = .ok (.iand, 1) := by decide +kernel
theorem dJ1_charAt_3b067_13 : decode cJ1_charAt_3b067 13 = .ok (.i2c, 1) := by decide +kernel
theorem dJ1_charAt_3b067_14 : decode cJ1_charAt_3b067 14 = .ok (.ireturn, 1) := by decide +kernel
theorem dJ2_getChar_3b067_0 : decode cJ2_getChar_3b067 0 = .ok (.getstatic 44, 3) := by decide +kernel
theorem dJ2_getChar_3b067_3 : decode cJ2_getChar_3b067 3 = .ok (.ifCond .ne 25, 3) := by decide +kernel
theorem dJ2_getChar_3b067_6 : decode cJ2_getChar_3b067 6 = .ok (.iload_n 1, 1) := by decide +kernel
theorem dJ2_getChar_3b067_7 : decode cJ2_getChar_3b067 7 = .ok (.ifCond .lt 11, 3) := by decide +kernel
theorem dJ2_getChar_3b067_10 : decode cJ2_getChar_3b067 10 = .ok (.iload_n 1, 1) := by decide +kernel
theorem dJ2_getChar_3b067_11 : decode cJ2_getChar_3b067 11 = .ok (.aload_n 0, 1) := by decide +kernel
theorem dJ2_getChar_3b067_12 : decode cJ2_getChar_3b067 12 = .ok (.invokestatic 48, 3) := by decide +kernel
theorem dJ2_getChar_3b067_15 : decode cJ2_getChar_3b067 15 = .ok (.if_icmp .lt 13, 3) := by decide +kernel
theorem dJ2_getChar_3b067_18 : decode cJ2_getChar_3b067 18 = .ok (.new 52, 3) := by decide +kernel
theorem dJ2_getChar_3b067_21 : decode cJ2_getChar_3b067 21 = .ok (.dup, 1) := by decide +kernel
theorem dJ2_getChar_3b067_22 : decode cJ2_getChar_3b067 22 = .ok (.ldc 54, 2) := by decide +kernel
theorem dJ2_getChar_3b067_24 : decode cJ2_getChar_3b067 24 = .ok (.invokespecial 56, 3) := by decide +kernel
theorem dJ2_getChar_3b067_27 : decode cJ2_getChar_3b067 27 = .ok (.athrow, 1) := by decide +kernel
theorem dJ2_getChar_3b067_28 : decode cJ2_getChar_3b067 28 = .ok (.iload_n 1, 1) := by decide +kernel
theorem dJ2_getChar_3b067_29 : decode cJ2_getChar_3b067 29 = .ok (.iconst 1, 1) := by decide +kernel
theorem dJ2_getChar_3b067_30 : decode cJ2_getChar_3b067 30 = .ok (.ishl, 1) := by decide +kernel
theorem dJ2_getChar_3b067_31 : decode cJ2_getChar_3b067 31 = .ok (.istore_n 1, 1) := by decide +kernel
theorem dJ2_getChar_3b067_32 : decode cJ2_getChar_3b067 32 = .ok (.aload_n 0, 1) := by decide +kernel
theorem dJ2_getChar_3b067_33 : decode cJ2_getChar_3b067 33 = .ok (.iload_n 1, 1) := by decide +kernel
theorem dJ2_getChar_3b067_34 : decode cJ2_getChar_3b067 34 = .ok (.iinc 1 1, 3) := by decide +kernel
theorem dJ2_getChar_3b067_37 : decode cJ2_getChar_3b067 37 = .ok (.baload, 1) := by decide +kernel
theorem dJ2_getChar_3b067_38 : decode cJ2_getChar_3b067 38 = .ok (.sipush 255, 3) := by decide +kernel
theorem dJ2_getChar_3b067_41 : decode cJ2_getChar_3b067 41 = .ok (.iand, 1) := by decide +kernel
theorem dJ2_getChar_3b067_42 : decode cJ2_getChar_3b067 42 = .ok (.getstatic 59, 3) := by decide +kernel
theorem dJ2_getChar_3b067_45 : decode cJ2_getChar_3b067 45 = .ok (.ishl, 1) := by decide +kernel
theorem dJ2_getChar_3b067_46 : decode cJ2_getChar_3b067 46 = .ok (.aload_n 0, 1) := by decide +kernel
theorem dJ2_getChar_3b067_47 : decode cJ2_getChar_3b067 47 = .ok (.iload_n 1, 1) := by decide +kernel
theorem dJ2_getChar_3b067_48 : decode cJ2_getChar_3b067 48 = .ok (.baload, 1) := by decide +kernel
theorem dJ2_getChar_3b067_49 : decode cJ2_getChar_3b067 49 = .ok (.sipush 255, 3) := by decide +kernel
theorem dJ2_getChar_3b067_52 : decode cJ2_getChar_3b067 52 = .ok (.iand, 1) := by decide +kernel
theorem dJ2_getChar_3b067_53 : decode cJ2_getChar_3b067 53 = .ok (.getstatic 63, 3) := by decide +kernel
theorem dJ2_getChar_3b067_56 : decode cJ2_getChar_3b067 56 = .ok (.ishl, 1) := by decide +kernel
theorem dJ2_getChar_3b067_57 : decode cJ2_getChar_3b067 57 = .ok (.ior, 1) := by decide +kernel
theorem dJ2_getChar_3b067_58 : decode cJ2_getChar_3b067 58 = .ok (.i2c, 1) := by decide +kernel
theorem dJ2_getChar_3b067_59 : decode cJ2_getChar_3b067 59 = .ok (.ireturn, 1) := by decide +kernel
theorem dJ2_length_9d52b_0 : decode cJ2_length_9d52b 0 = .ok (.aload_n 0, 1) := by decide +kernel
theorem dJ2_length_9d52b_1 : decode cJ2_length_9d52b 1 = .ok (.arraylength, 1) := by decide +kernel
theorem dJ2_length_9d52b_2 : decode cJ2_length_9d52b 2 = .ok (.iconst 1, 1) := by decide +kernel
theorem dJ2_length_9d52b_3 : decode cJ2_length_9d52b 3 = .ok (.ishr, 1) := by decide +kernel
theorem dJ2_length_9d52b_4 : decode cJ2_length_9d52b 4 = .ok (.ireturn, 1) := by decide +kernel
theorem dJ2_charAt_3b067_0 : decode cJ2_charAt_3b067 0 = .ok (.iload_n 1, 1) := by decide +kernel
theorem dJ2_charAt_3b067_1 : decode cJ2_charAt_3b067 1 = .ok (.aload_n 0, 1) := by decide +kernel
theorem dJ2_charAt_3b067_2 : decode cJ2_charAt_3b067 2 = .ok (.invokestatic 67, 3) := by decide +kernel
theorem dJ2_charAt_3b067_5 : decode cJ2_charAt_3b067 5 = .ok (.aload_n 0, 1) := by decide +kernel
theorem dJ2_charAt_3b067_6 : decode cJ2_charAt_3b067 6 = .ok (.iload_n 1, 1) := by decide +kernel
theorem dJ2_charAt_3b067_7 : decode cJ2_charAt_3b067 7 = .ok (.invokestatic 71, 3) := by decide +kernel
theorem dJ2_charAt_3b067_10 : decode cJ2_charAt_3b067 10 = .ok (.ireturn, 1) := by decide +kernel
theorem dJ2_checkIndex_2214a_0 : decode cJ2_checkIndex_2214a 0 = .ok (.iload_n 0, 1) := by decide +kernel
theorem dJ2_checkIndex_2214a_1 : decode cJ2_checkIndex_2214a 1 = .ok (.aload_n 1, 1) := by decide +kernel
theorem dJ2_checkIndex_2214a_2 : decode cJ2_checkIndex_2214a 2 = .ok (.invokestatic 48, 3) := by decide +kernel
theorem dJ2_checkIndex_2214a_5 : decode cJ2_checkIndex_2214a 5 = .ok (.invokestatic 414, 3) := by decide +kernel
theorem dJ2_checkIndex_2214a_8 : decode cJ2_checkIndex_2214a 8 = .ok (.return_, 1) := by decide +kernel
theorem dJ7_fill_53178_0 : decode cJ7_fill_53178 0 = .ok (.iconst 0, 1) := by decide +kernel
theorem dJ7_fill_53178_1 : decode cJ7_fill_53178 1 = .ok (.istore_n 2, 1) := by decide +kernel
theorem dJ7_fill_53178_2 : decode cJ7_fill_53178 2 = .ok (.aload_n 0, 1) := by decide +kernel
theorem dJ7_fill_53178_3 : decode cJ7_fill_53178 3 = .ok (.arraylength, 1) := by decide +kernel
theorem dJ7_fill_53178_4 : decode cJ7_fill_53178 4 = .ok (.istore_n 3, 1) := by decide +kernel
theorem dJ7_fill_53178_5 : decode cJ7_fill_53178 5 = .ok (.iload_n 2, 1) := by decide +kernel
theorem dJ7_fill_53178_6 : decode cJ7_fill_53178 6 = .ok (.iload_n 3, 1) := by decide +kernel
theorem dJ7_fill_53178_7 : decode cJ7_fill_53178 7 = .ok (.if_icmp .ge 13, 3) := by decide +kernel
theorem dJ7_fill_53178_10 : decode cJ7_fill_53178 10 = .ok (.aload_n 0, 1) := by decide +kernel
theorem dJ7_fill_53178_11 : decode cJ7_fill_53178 11 = .ok (.iload_n 2, 1) := by decide +kernel
theorem dJ7_fill_53178_12 : decode cJ7_fill_53178 12 = .ok (.iload_n 1, 1) := by decide +kernel
theorem dJ7_fill_53178_13 : decode cJ7_fill_53178 13 = .ok (.iastore, 1) := by decide +kernel
theorem dJ7_fill_53178_14 : decode cJ7_fill_53178 14 = .ok (.iinc 2 1, 3) := by decide +kernel
theorem dJ7_fill_53178_17 : decode cJ7_fill_53178 17 = .ok (.goto (-12), 3) := by decide +kernel
theorem dJ7_fill_53178_20 : decode cJ7_fill_53178 20 = .ok (.return_, 1) := by decide +kernel
theorem dJ3_checkIndex_8e157_0 : decode cJ3_checkIndex_8e157 0 = .ok (.iload_n 0, 1) := by decide +kernel
theorem dJ3_checkIndex_8e157_1 : decode cJ3_checkIndex_8e157 1 = .ok (.ifCond .lt 8, 3) := by decide +kernel
theorem dJ3_checkIndex_8e157_4 : decode cJ3_checkIndex_8e157 4 = .ok (.iload_n 0, 1) := by decide +kernel
theorem dJ3_checkIndex_8e157_5 : decode cJ3_checkIndex_8e157 5 = .ok (.iload_n 1, 1) := by decide +kernel
theorem dJ3_checkIndex_8e157_6 : decode cJ3_checkIndex_8e157 6 = .ok (.if_icmp .lt 10, 3) := by decide +kernel
theorem dJ3_checkIndex_8e157_9 : decode cJ3_checkIndex_8e157 9 = .ok (.aload_n 2, 1) := by decide +kernel
theorem dJ3_checkIndex_8e157_10 : decode cJ3_checkIndex_8e157 10 = .ok (.iload_n 0, 1) := by decide +kernel
theorem dJ3_checkIndex_8e157_11 : decode cJ3_checkIndex_8e157 11 = .ok (.iload_n 1, 1) := by decide +kernel
theorem dJ3_checkIndex_8e157_12 : decode cJ3_checkIndex_8e157 12 = .ok (.invokestatic 95, 3) := by decide +kernel
theorem dJ3_checkIndex_8e157_15 : decode cJ3_checkIndex_8e157 15 = .ok (.athrow, 1) := by decide +kernel
theorem dJ3_checkIndex_8e157_16 : decode cJ3_checkIndex_8e157 16 = .ok (.iload_n 0, 1) := by decide +kernel
theorem dJ3_checkIndex_8e157_17 : decode cJ3_checkIndex_8e157 17 = .ok (.ireturn, 1) := by decide +kernel
theorem dL_law_0 : decode cL_law 0 = .ok (.new 7, 3) := by decide +kernel
theorem dL_law_3 : decode cL_law 3 = .ok (.dup, 1) := by decide +kernel
theorem dL_law_4 : decode cL_law 4 = .ok (.invokespecial 9, 3) := by decide +kernel
theorem dL_law_7 : decode cL_law 7 = .ok (.astore_n 1, 1) := by decide +kernel
theorem dL_law_8 : decode cL_law 8 = .ok (.new 10, 3) := by decide +kernel
theorem dL_law_11 : decode cL_law 11 = .ok (.dup, 1) := by decide +kernel
theorem dL_law_12 : decode cL_law 12 = .ok (.invokespecial 12, 3) := by decide +kernel
theorem dL_law_15 : decode cL_law 15 = .ok (.astore_n 2, 1) := by decide +kernel
theorem dL_law_16 : decode cL_law 16 = .ok (.iconst 0, 1) := by decide +kernel
theorem dL_law_17 : decode cL_law 17 = .ok (.istore_n 3, 1) := by decide +kernel
theorem dL_law_18 : decode cL_law 18 = .ok (.iload_n 3, 1) := by decide +kernel
theorem dL_law_19 : decode cL_law 19 = .ok (.aload_n 0, 1) := by decide +kernel
theorem dL_law_20 : decode cL_law 20 = .ok (.arraylength, 1) := by decide +kernel
theorem dL_law_21 : decode cL_law 21 = .ok (.bipush 8, 2) := by decide +kernel
theorem dL_law_23 : decode cL_law 23 = .ok (.isub, 1) := by decide +kernel
theorem dL_law_24 : decode cL_law 24 = .ok (.if_icmp .gt 1203, 3) := by decide +kernel
theorem dL_law_27 : decode cL_law 27 = .ok (.aload_n 0, 1) := by decide +kernel
theorem dL_law_28 : decode cL_law 28 = .ok (.iload_n 3, 1) := by decide +kernel
theorem dL_law_29 : decode cL_law 29 = .ok (.iaload, 1) := by decide +kernel
theorem dL_law_30 : decode cL_law 30 = .ok (.bipush 31, 2) := by decide +kernel
theorem dL_law_32 : decode cL_law 32 = .ok (.iand, 1) := by decide +kernel
theorem dL_law_33 : decode cL_law 33 = .ok (.tableswitch 1188 0 26 #[123, 186, 209, 252, 285, 328, 371, 458, 491, 524, 567, 600, 623, 646, 679, 722, 745, 788, 841, 894, 917, 950, 983, 1016, 1059, 1102, 1165], 123) := by decide +kernel
theorem dL_law_156 : decode cL_law 156 = .ok (.aload_n 1, 1) := by decide +kernel
theorem dL_law_157 : decode cL_law 157 = .ok (.aload_n 0, 1) := by decide +kernel
theorem dL_law_158 : decode cL_law 158 = .ok (.iload_n 3, 1) := by decide +kernel
theorem dL_law_159 : decode cL_law 159 = .ok (.iconst 1, 1) := by decide +kernel
theorem dL_law_160 : decode cL_law 160 = .ok (.iadd, 1) := by decide +kernel
theorem dL_law_161 : decode cL_law 161 = .ok (.iaload, 1) := by decide +kernel
theorem dL_law_162 : decode cL_law 162 = .ok (.aload_n 0, 1) := by decide +kernel
theorem dL_law_163 : decode cL_law 163 = .ok (.iload_n 3, 1) := by decide +kernel
theorem dL_law_164 : decode cL_law 164 = .ok (.iconst 2, 1) := by decide +kernel
theorem dL_law_165 : decode cL_law 165 = .ok (.iadd, 1) := by decide +kernel
theorem dL_law_166 : decode cL_law 166 = .ok (.iaload, 1) := by decide +kernel
theorem dL_law_167 : decode cL_law 167 = .ok (.aload_n 0, 1) := by decide +kernel
theorem dL_law_168 : decode cL_law 168 = .ok (.iload_n 3, 1) := by decide +kernel
theorem dL_law_169 : decode cL_law 169 = .ok (.iconst 3, 1) := by decide +kernel
theorem dL_law_170 : decode cL_law 170 = .ok (.iadd, 1) := by decide +kernel
theorem dL_law_171 : decode cL_law 171 = .ok (.iaload, 1) := by decide +kernel
theorem dL_law_172 : decode cL_law 172 = .ok (.aload_n 0, 1) := by decide +kernel
theorem dL_law_173 : decode cL_law 173 = .ok (.iload_n 3, 1) := by decide +kernel
theorem dL_law_174 : decode cL_law 174 = .ok (.iconst 4, 1) := by decide +kernel
theorem dL_law_175 : decode cL_law 175 = .ok (.iadd, 1) := by decide +kernel
theorem dL_law_176 : decode cL_law 176 = .ok (.iaload, 1) := by decide +kernel
theorem dL_law_177 : decode cL_law 177 = .ok (.aload_n 0, 1) := by decide +kernel
theorem dL_law_178 : decode cL_law 178 = .ok (.iload_n 3, 1) := by decide +kernel
theorem dL_law_179 : decode cL_law 179 = .ok (.iconst 5, 1) := by decide +kernel
theorem dL_law_180 : decode cL_law 180 = .ok (.iadd, 1) := by decide +kernel
theorem dL_law_181 : decode cL_law 181 = .ok (.iaload, 1) := by decide +kernel
theorem dL_law_182 : decode cL_law 182 = .ok (.invokevirtual 13, 3) := by decide +kernel
theorem dL_law_185 : decode cL_law 185 = .ok (.aload_n 2, 1) := by decide +kernel
theorem dL_law_186 : decode cL_law 186 = .ok (.aload_n 0, 1) := by decide +kernel
theorem dL_law_187 : decode cL_law 187 = .ok (.iload_n 3, 1) := by decide +kernel
theorem dL_law_188 : decode cL_law 188 = .ok (.iconst 1, 1) := by decide +kernel
theorem dL_law_189 : decode cL_law 189 = .ok (.iadd, 1) := by decide +kernel
theorem dL_law_190 : decode cL_law 190 = .ok (.iaload, 1) := by decide +kernel
theorem dL_law_191 : decode cL_law 191 = .ok (.aload_n 0, 1) := by decide +kernel
theorem dL_law_192 : decode cL_law 192 = .ok (.iload_n 3, 1) := by decide +kernel
theorem dL_law_193 : decode cL_law 193 = .ok (.iconst 2, 1) := by decide +kernel
theorem dL_law_194 : decode cL_law 194 = .ok (.iadd, 1) := by decide +kernel
theorem dL_law_195 : decode cL_law 195 = .ok (.iaload, 1) := by decide +kernel
theorem dL_law_196 : decode cL_law 196 = .ok (.aload_n 0, 1) := by decide +kernel
theorem dL_law_197 : decode cL_law 197 = .ok (.iload_n 3, 1) := by decide +kernel
theorem dL_law_198 : decode cL_law 198 = .ok (.iconst 3, 1) := by decide +kernel
theorem dL_law_199 : decode cL_law 199 = .ok (.iadd, 1) := by decide +kernel
theorem dL_law_200 : decode cL_law 200 = .ok (.iaload, 1) := by decide +kernel
theorem dL_law_201 : decode cL_law 201 = .ok (.aload_n 0, 1) := by decide +kernel
theorem dL_law_202 : decode cL_law 202 = .ok (.iload_n 3, 1) := by decide +kernel
theorem dL_law_203 : decode cL_law 203 = .ok (.iconst 4, 1) := by decide +kernel
theorem dL_law_204 : decode cL_law 204 = .ok (.iadd, 1) := by decide +kernel
theorem dL_law_205 : decode cL_law 205 = .ok (.iaload, 1) := by decide +kernel
theorem dL_law_206 : decode cL_law 206 = .ok (.aload_n 0, 1) := by decide +kernel
theorem dL_law_207 : decode cL_law 207 = .ok (.iload_n 3, 1) := by decide +kernel
theorem dL_law_208 : decode cL_law 208 = .ok (.iconst 5, 1) := by decide +kernel
theorem dL_law_209 : decode cL_law 209 = .ok (.iadd, 1) := by decide +kernel
theorem dL_law_210 : decode cL_law 210 = .ok (.iaload, 1) := by decide +kernel
theorem dL_law_211 : decode cL_law 211 = .ok (.invokevirtual 17, 3) := by decide +kernel
theorem dL_law_214 : decode cL_law 214 = .ok (.if_icmp .eq 1007, 3) := by decide +kernel
theorem dL_law_217 : decode cL_law 217 = .ok (.iconst 0, 1) := by decide +kernel
theorem dL_law_218 : decode cL_law 218 = .ok (.ireturn, 1) := by decide +kernel
theorem dL_law_219 : decode cL_law 219 = .ok (.aload_n 1, 1) := by decide +kernel
theorem dL_law_220 : decode cL_law 220 = .ok (.aload_n 0, 1) := by decide +kernel
theorem dL_law_221 : decode cL_law 221 = .ok (.iload_n 3, 1) := by decide +kernel
theorem dL_law_222 : decode cL_law 222 = .ok (.iconst 1, 1) := by decide +kernel
theorem dL_law_223 : decode cL_law 223 = .ok (.iadd, 1) := by decide +kernel
theorem dL_law_224 : decode cL_law 224 = .ok (.iaload, 1) := by decide +kernel
theorem dL_law_225 : decode cL_law 225 = .ok (.invokevirtual 18, 3) := by decide +kernel
theorem dL_law_228 : decode cL_law 228 = .ok (.aload_n 2, 1) := by decide +kernel
theorem dL_law_229 : decode cL_law 229 = .ok (.aload_n 0, 1) := by decide +kernel
theorem dL_law_230 : decode cL_law 230 = .ok (.iload_n 3, 1) := by decide +kernel
theorem dL_law_231 : decode cL_law 231 = .ok (.iconst 1, 1) := by decide +kernel
theorem dL_law_232 : decode cL_law 232 = .ok (.iadd, 1) := by decide +kernel
theorem dL_law_233 : decode cL_law 233 = .ok (.iaload, 1) := by decide +kernel
theorem dL_law_234 : decode cL_law 234 = .ok (.invokevirtual 22, 3) := by decide +kernel
theorem dL_law_237 : decode cL_law 237 = .ok (.if_icmp .eq 984, 3) := by decide +kernel
theorem dL_law_240 : decode cL_law 240 = .ok (.iconst 0, 1) := by decide +kernel
theorem dL_law_241 : decode cL_law 241 = .ok (.ireturn, 1) := by decide +kernel
theorem dL_law_242 : decode cL_law 242 = .ok (.aload_n 1, 1) := by decide +kernel
theorem dL_law_243 : decode cL_law 243 = .ok (.aload_n 0, 1) := by decide +kernel
theorem dL_law_244 : decode cL_law 244 = .ok (.iload_n 3, 1) := by decide +kernel
theorem dL_law_245 : decode cL_law 245 = .ok (.iconst 1, 1) := by decide +kernel
theorem dL_law_246 : decode cL_law 246 = .ok (.iadd, 1) := by decide +kernel
theorem dL_law_247 : decode cL_law 247 = .ok (.iaload, 1) := by decide +kernel
theorem dL_law_248 : decode cL_law 248 = .ok (.aload_n 0, 1) := by decide +kernel
theorem dL_law_249 : decode cL_law 249 = .ok (.iload_n 3, 1) := by decide +kernel
theorem dL_law_250 : decode cL_law 250 = .ok (.iconst 2, 1) := by decide +kernel
theorem dL_law_251 : decode cL_law 251 = .ok (.iadd, 1) := by decide +kernel
theorem dL_law_252 : decode cL_law 252 = .ok (.iaload, 1) := by decide +kernel
theorem dL_law_253 : decode cL_law 253 = .ok (.aload_n 0, 1) := by decide +kernel
theorem dL_law_254 : decode cL_law 254 = .ok (.iload_n 3, 1) := by decide +kernel
theorem dL_law_255 : decode cL_law 255 = .ok (.iconst 3, 1) := by decide +kernel
theorem dL_law_256 : decode cL_law 256 = .ok (.iadd, 1) := by decide +kernel
theorem dL_law_257 : decode cL_law 257 = .ok (.iaload, 1) := by decide +kernel
theorem dL_law_258 : decode cL_law 258 = .ok (.invokevirtual 23, 3) := by decide +kernel
theorem dL_law_261 : decode cL_law 261 = .ok (.aload_n 2, 1) := by decide +kernel
theorem dL_law_262 : decode cL_law 262 = .ok (.aload_n 0, 1) := by decide +kernel
theorem dL_law_263 : decode cL_law 263 = .ok (.iload_n 3, 1) := by decide +kernel
theorem dL_law_264 : decode cL_law 264 = .ok (.iconst 1, 1) := by decide +kernel
theorem dL_law_265 : decode cL_law 265 = .ok (.iadd, 1) := by decide +kernel
theorem dL_law_266 : decode cL_law 266 = .ok (.iaload, 1) := by decide +kernel
theorem dL_law_267 : decode cL_law 267 = .ok (.aload_n 0, 1) := by decide +kernel
theorem dL_law_268 : decode cL_law 268 = .ok (.iload_n 3, 1) := by decide +kernel
theorem dL_law_269 : decode cL_law 269 = .ok (.iconst 2, 1) := by decide +kernel
theorem dL_law_270 : decode cL_law 270 = .ok (.iadd, 1) := by decide +kernel
theorem dL_law_271 : decode cL_law 271 = .ok (.iaload, 1) := by decide +kernel
theorem dL_law_272 : decode cL_law 272 = .ok (.aload_n 0, 1) := by decide +kernel
theorem dL_law_273 : decode cL_law 273 = .ok (.iload_n 3, 1) := by decide +kernel
theorem dL_law_274 : decode cL_law 274 = .ok (.iconst 3, 1) := by decide +kernel
theorem dL_law_275 : decode cL_law 275 = .ok (.iadd, 1) := by decide +kernel
theorem dL_law_276 : decode cL_law 276 = .ok (.iaload, 1) := by decide +kernel
theorem dL_law_277 : decode cL_law 277 = .ok (.invokevirtual 27, 3) := by decide +kernel
theorem dL_law_280 : decode cL_law 280 = .ok (.if_icmp .eq 941, 3) := by decide +kernel
theorem dL_law_283 : decode cL_law 283 = .ok (.iconst 0, 1) := by decide +kernel
theorem dL_law_284 : decode cL_law 284 = .ok (.ireturn, 1) := by decide +kernel
theorem dL_law_285 : decode cL_law 285 = .ok (.aload_n 1, 1) := by decide +kernel
theorem dL_law_286 : decode cL_law 286 = .ok (.aload_n 0, 1) := by decide +kernel
theorem dL_law_287 : decode cL_law 287 = .ok (.iload_n 3, 1) := by decide +kernel
theorem dL_law_288 : decode cL_law 288 = .ok (.iconst 1, 1) := by decide +kernel
theorem dL_law_289 : decode cL_law 289 = .ok (.iadd, 1) := by decide +kernel
theorem dL_law_290 : decode cL_law 290 = .ok (.iaload, 1) := by decide +kernel
theorem dL_law_291 : decode cL_law 291 = .ok (.aload_n 0, 1) := by decide +kernel
theorem dL_law_292 : decode cL_law 292 = .ok (.iload_n 3, 1) := by decide +kernel
theorem dL_law_293 : decode cL_law 293 = .ok (.iconst 2, 1) := by decide +kernel
theorem dL_law_294 : decode cL_law 294 = .ok (.iadd, 1) := by decide +kernel
theorem dL_law_295 : decode cL_law 295 = .ok (.iaload, 1) := by decide +kernel
theorem dL_law_296 : decode cL_law 296 = .ok (.invokevirtual 28, 3) := by decide +kernel
theorem dL_law_299 : decode cL_law 299 = .ok (.aload_n 2, 1) := by decide +kernel
theorem dL_law_300 : decode cL_law 300 = .ok (.aload_n 0, 1) := by decide +kernel
theorem dL_law_301 : decode cL_law 301 = .ok (.iload_n 3, 1) := by decide +kernel
theorem dL_law_302 : decode cL_law 302 = .ok (.iconst 1, 1) := by decide +kernel
theorem dL_law_303 : decode cL_law 303 = .ok (.iadd, 1) := by decide +kernel
theorem dL_law_304 : decode cL_law 304 = .ok (.iaload, 1) := by decide +kernel
theorem dL_law_305 : decode cL_law 305 = .ok (.aload_n 0, 1) := by decide +kernel
theorem dL_law_306 : decode cL_law 306 = .ok (.iload_n 3, 1) := by decide +kernel
theorem dL_law_307 : decode cL_law 307 = .ok (.iconst 2, 1) := by decide +kernel
theorem dL_law_308 : decode cL_law 308 = .ok (.iadd, 1) := by decide +kernel
theorem dL_law_309 : decode cL_law 309 = .ok (.iaload, 1) := by decide +kernel
theorem dL_law_310 : decode cL_law 310 = .ok (.invokevirtual 32, 3) := by decide +kernel
theorem dL_law_313 : decode cL_law 313 = .ok (.if_icmp .eq 908, 3) := by decide +kernel
theorem dL_law_316 : decode cL_law 316 = .ok (.iconst 0, 1) := by decide +kernel
theorem dL_law_317 : decode cL_law 317 = .ok (.ireturn, 1) := by decide +kernel
theorem dL_law_318 : decode cL_law 318 = .ok (.aload_n 1, 1) := by decide +kernel
theorem dL_law_319 : decode cL_law 319 = .ok (.aload_n 0, 1) := by decide +kernel
theorem dL_law_320 : decode cL_law 320 = .ok (.iload_n 3, 1) := by decide +kernel
theorem dL_law_321 : decode cL_law 321 = .ok (.iconst 1, 1) := by decide +kernel
theorem dL_law_322 : decode cL_law 322 = .ok (.iadd, 1) := by decide +kernel
theorem dL_law_323 : decode cL_law 323 = .ok (.iaload, 1) := by decide +kernel
theorem dL_law_324 : decode cL_law 324 = .ok (.aload_n 0, 1) := by decide +kernel
theorem dL_law_325 : decode cL_law 325 = .ok (.iload_n 3, 1) := by decide +kernel
theorem dL_law_326 : decode cL_law 326 = .ok (.iconst 2, 1) := by decide +kernel
theorem dL_law_327 : decode cL_law 327 = .ok (.iadd, 1) := by decide +kernel
theorem dL_law_328 : decode cL_law 328 = .ok (.iaload, 1) := by decide +kernel
theorem dL_law_329 : decode cL_law 329 = .ok (.aload_n 0, 1) := by decide +kernel
theorem dL_law_330 : decode cL_law 330 = .ok (.iload_n 3, 1) := by decide +kernel
theorem dL_law_331 : decode cL_law 331 = .ok (.iconst 3, 1) := by decide +kernel
theorem dL_law_332 : decode cL_law 332 = .ok (.iadd, 1) := by decide +kernel
theorem dL_law_333 : decode cL_law 333 = .ok (.iaload, 1) := by decide +kernel
theorem dL_law_334 : decode cL_law 334 = .ok (.invokevirtual 33, 3) := by decide +kernel
theorem dL_law_337 : decode cL_law 337 = .ok (.aload_n 2, 1) := by decide +kernel
theorem dL_law_338 : decode cL_law 338 = .ok (.aload_n 0, 1) := by decide +kernel
theorem dL_law_339 : decode cL_law 339 = .ok (.iload_n 3, 1) := by decide +kernel
theorem dL_law_340 : decode cL_law 340 = .ok (.iconst 1, 1) := by decide +kernel
theorem dL_law_341 : decode cL_law 341 = .ok (.iadd, 1) := by decide +kernel
theorem dL_law_342 : decode cL_law 342 = .ok (.iaload, 1) := by decide +kernel
theorem dL_law_343 : decode cL_law 343 = .ok (.aload_n 0, 1) := by decide +kernel
theorem dL_law_344 : decode cL_law 344 = .ok (.iload_n 3, 1) := by decide +kernel
theorem dL_law_345 : decode cL_law 345 = .ok (.iconst 2, 1) := by decide +kernel
theorem dL_law_346 : decode cL_law 346 = .ok (.iadd, 1) := by decide +kernel
theorem dL_law_347 : decode cL_law 347 = .ok (.iaload, 1) := by decide +kernel
theorem dL_law_348 : decode cL_law 348 = .ok (.aload_n 0, 1) := by decide +kernel
theorem dL_law_349 : decode cL_law 349 = .ok (.iload_n 3, 1) := by decide +kernel
theorem dL_law_350 : decode cL_law 350 = .ok (.iconst 3, 1) := by decide +kernel
theorem dL_law_351 : decode cL_law 351 = .ok (.iadd, 1) := by decide +kernel
theorem dL_law_352 : decode cL_law 352 = .ok (.iaload, 1) := by decide +kernel
theorem dL_law_353 : decode cL_law 353 = .ok (.invokevirtual 36, 3) := by decide +kernel
theorem dL_law_356 : decode cL_law 356 = .ok (.if_icmp .eq 865, 3) := by decide +kernel
theorem dL_law_359 : decode cL_law 359 = .ok (.iconst 0, 1) := by decide +kernel
theorem dL_law_360 : decode cL_law 360 = .ok (.ireturn, 1) := by decide +kernel
theorem dL_law_361 : decode cL_law 361 = .ok (.aload_n 1, 1) := by decide +kernel
theorem dL_law_362 : decode cL_law 362 = .ok (.aload_n 0, 1) := by decide +kernel
theorem dL_law_363 : decode cL_law 363 = .ok (.iload_n 3, 1) := by decide +kernel
theorem dL_law_364 : decode cL_law 364 = .ok (.iconst 1, 1) := by decide +kernel
theorem dL_law_365 : decode cL_law 365 = .ok (.iadd, 1) := by decide +kernel
theorem dL_law_366 : decode cL_law 366 = .ok (.iaload, 1) := by decide +kernel
theorem dL_law_367 : decode cL_law 367 = .ok (.aload_n 0, 1) := by decide +kernel
theorem dL_law_368 : decode cL_law 368 = .ok (.iload_n 3, 1) := by decide +kernel
theorem dL_law_369 : decode cL_law 369 = .ok (.iconst 2, 1) := by decide +kernel
theorem dL_law_370 : decode cL_law 370 = .ok (.iadd, 1) := by decide +kernel
theorem dL_law_371 : decode cL_law 371 = .ok (.iaload, 1) := by decide +kernel
theorem dL_law_372 : decode cL_law 372 = .ok (.aload_n 0, 1) := by decide +kernel
theorem dL_law_373 : decode cL_law 373 = .ok (.iload_n 3, 1) := by decide +kernel
theorem dL_law_374 : decode cL_law 374 = .ok (.iconst 3, 1) := by decide +kernel
theorem dL_law_375 : decode cL_law 375 = .ok (.iadd, 1) := by decide +kernel
theorem dL_law_376 : decode cL_law 376 = .ok (.iaload, 1) := by decide +kernel
theorem dL_law_377 : decode cL_law 377 = .ok (.invokevirtual 37, 3) := by decide +kernel
theorem dL_law_380 : decode cL_law 380 = .ok (.aload_n 2, 1) := by decide +kernel
theorem dL_law_381 : decode cL_law 381 = .ok (.aload_n 0, 1) := by decide +kernel
theorem dL_law_382 : decode cL_law 382 = .ok (.iload_n 3, 1) := by decide +kernel
theorem dL_law_383 : decode cL_law 383 = .ok (.iconst 1, 1) := by decide +kernel
theorem dL_law_384 : decode cL_law 384 = .ok (.iadd, 1) := by decide +kernel
theorem dL_law_385 : decode cL_law 385 = .ok (.iaload, 1) := by decide +kernel
theorem dL_law_386 : decode cL_law 386 = .ok (.aload_n 0, 1) := by decide +kernel
theorem dL_law_387 : decode cL_law 387 = .ok (.iload_n 3, 1) := by decide +kernel
theorem dL_law_388 : decode cL_law 388 = .ok (.iconst 2, 1) := by decide +kernel
theorem dL_law_389 : decode cL_law 389 = .ok (.iadd, 1) := by decide +kernel
theorem dL_law_390 : decode cL_law 390 = .ok (.iaload, 1) := by decide +kernel
theorem dL_law_391 : decode cL_law 391 = .ok (.aload_n 0, 1) := by decide +kernel
theorem dL_law_392 : decode cL_law 392 = .ok (.iload_n 3, 1) := by decide +kernel
theorem dL_law_393 : decode cL_law 393 = .ok (.iconst 3, 1) := by decide +kernel
theorem dL_law_394 : decode cL_law 394 = .ok (.iadd, 1) := by decide +kernel
theorem dL_law_395 : decode cL_law 395 = .ok (.iaload, 1) := by decide +kernel
theorem dL_law_396 : decode cL_law 396 = .ok (.invokevirtual 40, 3) := by decide +kernel
theorem dL_law_399 : decode cL_law 399 = .ok (.if_icmp .eq 822, 3) := by decide +kernel
theorem dL_law_402 : decode cL_law 402 = .ok (.iconst 0, 1) := by decide +kernel
theorem dL_law_403 : decode cL_law 403 = .ok (.ireturn, 1) := by decide +kernel
theorem dL_law_404 : decode cL_law 404 = .ok (.aload_n 1, 1) := by decide +kernel
theorem dL_law_405 : decode cL_law 405 = .ok (.aload_n 0, 1) := by decide +kernel
theorem dL_law_406 : decode cL_law 406 = .ok (.iload_n 3, 1) := by decide +kernel
theorem dL_law_407 : decode cL_law 407 = .ok (.iconst 1, 1) := by decide +kernel
theorem dL_law_408 : decode cL_law 408 = .ok (.iadd, 1) := by decide +kernel
theorem dL_law_409 : decode cL_law 409 = .ok (.iaload, 1) := by decide +kernel
theorem dL_law_410 : decode cL_law 410 = .ok (.aload_n 0, 1) := by decide +kernel
theorem dL_law_411 : decode cL_law 411 = .ok (.iload_n 3, 1) := by decide +kernel
theorem dL_law_412 : decode cL_law 412 = .ok (.iconst 2, 1) := by decide +kernel
theorem dL_law_413 : decode cL_law 413 = .ok (.iadd, 1) := by decide +kernel
theorem dL_law_414 : decode cL_law 414 = .ok (.iaload, 1) := by decide +kernel
theorem dL_law_415 : decode cL_law 415 = .ok (.aload_n 0, 1) := by decide +kernel
theorem dL_law_416 : decode cL_law 416 = .ok (.iload_n 3, 1) := by decide +kernel
theorem dL_law_417 : decode cL_law 417 = .ok (.iconst 3, 1) := by decide +kernel
theorem dL_law_418 : decode cL_law 418 = .ok (.iadd, 1) := by decide +kernel
theorem dL_law_419 : decode cL_law 419 = .ok (.iaload, 1) := by decide +kernel
theorem dL_law_420 : decode cL_law 420 = .ok (.aload_n 0, 1) := by decide +kernel
theorem dL_law_421 : decode cL_law 421 = .ok (.iload_n 3, 1) := by decide +kernel
theorem dL_law_422 : decode cL_law 422 = .ok (.iconst 4, 1) := by decide +kernel
theorem dL_law_423 : decode cL_law 423 = .ok (.iadd, 1) := by decide +kernel
theorem dL_law_424 : decode cL_law 424 = .ok (.iaload, 1) := by decide +kernel
theorem dL_law_425 : decode cL_law 425 = .ok (.aload_n 0, 1) := by decide +kernel
theorem dL_law_426 : decode cL_law 426 = .ok (.iload_n 3, 1) := by decide +kernel
theorem dL_law_427 : decode cL_law 427 = .ok (.iconst 5, 1) := by decide +kernel
theorem dL_law_428 : decode cL_law 428 = .ok (.iadd, 1) := by decide +kernel
theorem dL_law_429 : decode cL_law 429 = .ok (.iaload, 1) := by decide +kernel
theorem dL_law_430 : decode cL_law 430 = .ok (.aload_n 0, 1) := by decide +kernel
theorem dL_law_431 : decode cL_law 431 = .ok (.iload_n 3, 1) := by decide +kernel
theorem dL_law_432 : decode cL_law 432 = .ok (.bipush 6, 2) := by decide +kernel
theorem dL_law_434 : decode cL_law 434 = .ok (.iadd, 1) := by decide +kernel
theorem dL_law_435 : decode cL_law 435 = .ok (.iaload, 1) := by decide +kernel
theorem dL_law_436 : decode cL_law 436 = .ok (.aload_n 0, 1) := by decide +kernel
theorem dL_law_437 : decode cL_law 437 = .ok (.iload_n 3, 1) := by decide +kernel
theorem dL_law_438 : decode cL_law 438 = .ok (.bipush 7, 2) := by decide +kernel
theorem dL_law_440 : decode cL_law 440 = .ok (.iadd, 1) := by decide +kernel
theorem dL_law_441 : decode cL_law 441 = .ok (.iaload, 1) := by decide +kernel
theorem dL_law_442 : decode cL_law 442 = .ok (.invokevirtual 41, 3) := by decide +kernel
theorem dL_law_445 : decode cL_law 445 = .ok (.aload_n 2, 1) := by decide +kernel
theorem dL_law_446 : decode cL_law 446 = .ok (.aload_n 0, 1) := by decide +kernel
theorem dL_law_447 : decode cL_law 447 = .ok (.iload_n 3, 1) := by decide +kernel
theorem dL_law_448 : decode cL_law 448 = .ok (.iconst 1, 1) := by decide +kernel
theorem dL_law_449 : decode cL_law 449 = .ok (.iadd, 1) := by decide +kernel
theorem dL_law_450 : decode cL_law 450 = .ok (.iaload, 1) := by decide +kernel
theorem dL_law_451 : decode cL_law 451 = .ok (.aload_n 0, 1) := by decide +kernel
theorem dL_law_452 : decode cL_law 452 = .ok (.iload_n 3, 1) := by decide +kernel
theorem dL_law_453 : decode cL_law 453 = .ok (.iconst 2, 1) := by decide +kernel
theorem dL_law_454 : decode cL_law 454 = .ok (.iadd, 1) := by decide +kernel
theorem dL_law_455 : decode cL_law 455 = .ok (.iaload, 1) := by decide +kernel
theorem dL_law_456 : decode cL_law 456 = .ok (.aload_n 0, 1) := by decide +kernel
theorem dL_law_457 : decode cL_law 457 = .ok (.iload_n 3, 1) := by decide +kernel
theorem dL_law_458 : decode cL_law 458 = .ok (.iconst 3, 1) := by decide +kernel
theorem dL_law_459 : decode cL_law 459 = .ok (.iadd, 1) := by decide +kernel
theorem dL_law_460 : decode cL_law 460 = .ok (.iaload, 1) := by decide +kernel
theorem dL_law_461 : decode cL_law 461 = .ok (.aload_n 0, 1) := by decide +kernel
theorem dL_law_462 : decode cL_law 462 = .ok (.iload_n 3, 1) := by decide +kernel
theorem dL_law_463 : decode cL_law 463 = .ok (.iconst 4, 1) := by decide +kernel
theorem dL_law_464 : decode cL_law 464 = .ok (.iadd, 1) := by decide +kernel
theorem dL_law_465 : decode cL_law 465 = .ok (.iaload, 1) := by decide +kernel
theorem dL_law_466 : decode cL_law 466 = .ok (.aload_n 0, 1) := by decide +kernel
theorem dL_law_467 : decode cL_law 467 = .ok (.iload_n 3, 1) := by decide +kernel
theorem dL_law_468 : decode cL_law 468 = .ok (.iconst 5, 1) := by decide +kernel
theorem dL_law_469 : decode cL_law 469 = .ok (.iadd, 1) := by decide +kernel
theorem dL_law_470 : decode cL_law 470 = .ok (.iaload, 1) := by decide +kernel
theorem dL_law_471 : decode cL_law 471 = .ok (.aload_n 0, 1) := by decide +kernel
theorem dL_law_472 : decode cL_law 472 = .ok (.iload_n 3, 1) := by decide +kernel
theorem dL_law_473 : decode cL_law 473 = .ok (.bipush 6, 2) := by decide +kernel
theorem dL_law_475 : decode cL_law 475 = .ok (.iadd, 1) := by decide +kernel
theorem dL_law_476 : decode cL_law 476 = .ok (.iaload, 1) := by decide +kernel
theorem dL_law_477 : decode cL_law 477 = .ok (.aload_n 0, 1) := by decide +kernel
theorem dL_law_478 : decode cL_law 478 = .ok (.iload_n 3, 1) := by decide +kernel
theorem dL_law_479 : decode cL_law 479 = .ok (.bipush 7, 2) := by decide +kernel
theorem dL_law_481 : decode cL_law 481 = .ok (.iadd, 1) := by decide +kernel
theorem dL_law_482 : decode cL_law 482 = .ok (.iaload, 1) := by decide +kernel
theorem dL_law_483 : decode cL_law 483 = .ok (.invokevirtual 45, 3) := by decide +kernel
theorem dL_law_486 : decode cL_law 486 = .ok (.if_icmp .eq 735, 3) := by decide +kernel
theorem dL_law_489 : decode cL_law 489 = .ok (.iconst 0, 1) := by decide +kernel
theorem dL_law_490 : decode cL_law 490 = .ok (.ireturn, 1) := by decide +kernel
theorem dL_law_491 : decode cL_law 491 = .ok (.aload_n 1, 1) := by decide +kernel
theorem dL_law_492 : decode cL_law 492 = .ok (.aload_n 0, 1) := by decide +kernel
theorem dL_law_493 : decode cL_law 493 = .ok (.iload_n 3, 1) := by decide +kernel
theorem dL_law_494 : decode cL_law 494 = .ok (.iconst 1, 1) := by decide +kernel
theorem dL_law_495 : decode cL_law 495 = .ok (.iadd, 1) := by decide +kernel
theorem dL_law_496 : decode cL_law 496 = .ok (.iaload, 1) := by decide +kernel
theorem dL_law_497 : decode cL_law 497 = .ok (.aload_n 0, 1) := by decide +kernel
theorem dL_law_498 : decode cL_law 498 = .ok (.iload_n 3, 1) := by decide +kernel
theorem dL_law_499 : decode cL_law 499 = .ok (.iconst 2, 1) := by decide +kernel
theorem dL_law_500 : decode cL_law 500 = .ok (.iadd, 1) := by decide +kernel
theorem dL_law_501 : decode cL_law 501 = .ok (.iaload, 1) := by decide +kernel
theorem dL_law_502 : decode cL_law 502 = .ok (.invokevirtual 46, 3) := by decide +kernel
theorem dL_law_505 : decode cL_law 505 = .ok (.aload_n 2, 1) := by decide +kernel
theorem dL_law_506 : decode cL_law 506 = .ok (.aload_n 0, 1) := by decide +kernel
theorem dL_law_507 : decode cL_law 507 = .ok (.iload_n 3, 1) := by decide +kernel
theorem dL_law_508 : decode cL_law 508 = .ok (.iconst 1, 1) := by decide +kernel
theorem dL_law_509 : decode cL_law 509 = .ok (.iadd, 1) := by decide +kernel
theorem dL_law_510 : decode cL_law 510 = .ok (.iaload, 1) := by decide +kernel
theorem dL_law_511 : decode cL_law 511 = .ok (.aload_n 0, 1) := by decide +kernel
theorem dL_law_512 : decode cL_law 512 = .ok (.iload_n 3, 1) := by decide +kernel
theorem dL_law_513 : decode cL_law 513 = .ok (.iconst 2, 1) := by decide +kernel
theorem dL_law_514 : decode cL_law 514 = .ok (.iadd, 1) := by decide +kernel
theorem dL_law_515 : decode cL_law 515 = .ok (.iaload, 1) := by decide +kernel
theorem dL_law_516 : decode cL_law 516 = .ok (.invokevirtual 49, 3) := by decide +kernel
theorem dL_law_519 : decode cL_law 519 = .ok (.if_icmp .eq 702, 3) := by decide +kernel
theorem dL_law_522 : decode cL_law 522 = .ok (.iconst 0, 1) := by decide +kernel
theorem dL_law_523 : decode cL_law 523 = .ok (.ireturn, 1) := by decide +kernel
theorem dL_law_524 : decode cL_law 524 = .ok (.aload_n 1, 1) := by decide +kernel
theorem dL_law_525 : decode cL_law 525 = .ok (.aload_n 0, 1) := by decide +kernel
theorem dL_law_526 : decode cL_law 526 = .ok (.iload_n 3, 1) := by decide +kernel
theorem dL_law_527 : decode cL_law 527 = .ok (.iconst 1, 1) := by decide +kernel
theorem dL_law_528 : decode cL_law 528 = .ok (.iadd, 1) := by decide +kernel
theorem dL_law_529 : decode cL_law 529 = .ok (.iaload, 1) := by decide +kernel
theorem dL_law_530 : decode cL_law 530 = .ok (.aload_n 0, 1) := by decide +kernel
theorem dL_law_531 : decode cL_law 531 = .ok (.iload_n 3, 1) := by decide +kernel
theorem dL_law_532 : decode cL_law 532 = .ok (.iconst 2, 1) := by decide +kernel
theorem dL_law_533 : decode cL_law 533 = .ok (.iadd, 1) := by decide +kernel
theorem dL_law_534 : decode cL_law 534 = .ok (.iaload, 1) := by decide +kernel
theorem dL_law_535 : decode cL_law 535 = .ok (.invokevirtual 50, 3) := by decide +kernel
theorem dL_law_538 : decode cL_law 538 = .ok (.aload_n 2, 1) := by decide +kernel
theorem dL_law_539 : decode cL_law 539 = .ok (.aload_n 0, 1) := by decide +kernel
theorem dL_law_540 : decode cL_law 540 = .ok (.iload_n 3, 1) := by decide +kernel
theorem dL_law_541 : decode cL_law 541 = .ok (.iconst 1, 1) := by decide +kernel
theorem dL_law_542 : decode cL_law 542 = .ok (.iadd, 1) := by decide +kernel
theorem dL_law_543 : decode cL_law 543 = .ok (.iaload, 1) := by decide +kernel
theorem dL_law_544 : decode cL_law 544 = .ok (.aload_n 0, 1) := by decide +kernel
theorem dL_law_545 : decode cL_law 545 = .ok (.iload_n 3, 1) := by decide +kernel
theorem dL_law_546 : decode cL_law 546 = .ok (.iconst 2, 1) := by decide +kernel
theorem dL_law_547 : decode cL_law 547 = .ok (.iadd, 1) := by decide +kernel
theorem dL_law_548 : decode cL_law 548 = .ok (.iaload, 1) := by decide +kernel
theorem dL_law_549 : decode cL_law 549 = .ok (.invokevirtual 53, 3) := by decide +kernel
theorem dL_law_552 : decode cL_law 552 = .ok (.if_icmp .eq 669, 3) := by decide +kernel
theorem dL_law_555 : decode cL_law 555 = .ok (.iconst 0, 1) := by decide +kernel
theorem dL_law_556 : decode cL_law 556 = .ok (.ireturn, 1) := by decide +kernel
theorem dL_law_557 : decode cL_law 557 = .ok (.aload_n 1, 1) := by decide +kernel
theorem dL_law_558 : decode cL_law 558 = .ok (.aload_n 0, 1) := by decide +kernel
theorem dL_law_559 : decode cL_law 559 = .ok (.iload_n 3, 1) := by decide +kernel
theorem dL_law_560 : decode cL_law 560 = .ok (.iconst 1, 1) := by decide +kernel
theorem dL_law_561 : decode cL_law 561 = .ok (.iadd, 1) := by decide +kernel
theorem dL_law_562 : decode cL_law 562 = .ok (.iaload, 1) := by decide +kernel
theorem dL_law_563 : decode cL_law 563 = .ok (.aload_n 0, 1) := by decide +kernel
theorem dL_law_564 : decode cL_law 564 = .ok (.iload_n 3, 1) := by decide +kernel
theorem dL_law_565 : decode cL_law 565 = .ok (.iconst 2, 1) := by decide +kernel
theorem dL_law_566 : decode cL_law 566 = .ok (.iadd, 1) := by decide +kernel
theorem dL_law_567 : decode cL_law 567 = .ok (.iaload, 1) := by decide +kernel
theorem dL_law_568 : decode cL_law 568 = .ok (.aload_n 0, 1) := by decide +kernel
theorem dL_law_569 : decode cL_law 569 = .ok (.iload_n 3, 1) := by decide +kernel
theorem dL_law_570 : decode cL_law 570 = .ok (.iconst 3, 1) := by decide +kernel
theorem dL_law_571 : decode cL_law 571 = .ok (.iadd, 1) := by decide +kernel
theorem dL_law_572 : decode cL_law 572 = .ok (.iaload, 1) := by decide +kernel
theorem dL_law_573 : decode cL_law 573 = .ok (.invokevirtual 54, 3) := by decide +kernel
theorem dL_law_576 : decode cL_law 576 = .ok (.aload_n 2, 1) := by decide +kernel
theorem dL_law_577 : decode cL_law 577 = .ok (.aload_n 0, 1) := by decide +kernel
theorem dL_law_578 : decode cL_law 578 = .ok (.iload_n 3, 1) := by decide +kernel
theorem dL_law_579 : decode cL_law 579 = .ok (.iconst 1, 1) := by decide +kernel
theorem dL_law_580 : decode cL_law 580 = .ok (.iadd, 1) := by decide +kernel
theorem dL_law_581 : decode cL_law 581 = .ok (.iaload, 1) := by decide +kernel
theorem dL_law_582 : decode cL_law 582 = .ok (.aload_n 0, 1) := by decide +kernel
theorem dL_law_583 : decode cL_law 583 = .ok (.iload_n 3, 1) := by decide +kernel
theorem dL_law_584 : decode cL_law 584 = .ok (.iconst 2, 1) := by decide +kernel
theorem dL_law_585 : decode cL_law 585 = .ok (.iadd, 1) := by decide +kernel
theorem dL_law_586 : decode cL_law 586 = .ok (.iaload, 1) := by decide +kernel
theorem dL_law_587 : decode cL_law 587 = .ok (.aload_n 0, 1) := by decide +kernel
theorem dL_law_588 : decode cL_law 588 = .ok (.iload_n 3, 1) := by decide +kernel
theorem dL_law_589 : decode cL_law 589 = .ok (.iconst 3, 1) := by decide +kernel
theorem dL_law_590 : decode cL_law 590 = .ok (.iadd, 1) := by decide +kernel
theorem dL_law_591 : decode cL_law 591 = .ok (.iaload, 1) := by decide +kernel
theorem dL_law_592 : decode cL_law 592 = .ok (.invokevirtual 57, 3) := by decide +kernel
theorem dL_law_595 : decode cL_law 595 = .ok (.if_icmp .eq 626, 3) := by decide +kernel
theorem dL_law_598 : decode cL_law 598 = .ok (.iconst 0, 1) := by decide +kernel
theorem dL_law_599 : decode cL_law 599 = .ok (.ireturn, 1) := by decide +kernel
theorem dL_law_600 : decode cL_law 600 = .ok (.aload_n 1, 1) := by decide +kernel
theorem dL_law_601 : decode cL_law 601 = .ok (.aload_n 0, 1) := by decide +kernel
theorem dL_law_602 : decode cL_law 602 = .ok (.iload_n 3, 1) := by decide +kernel
theorem dL_law_603 : decode cL_law 603 = .ok (.iconst 1, 1) := by decide +kernel
theorem dL_law_604 : decode cL_law 604 = .ok (.iadd, 1) := by decide +kernel
theorem dL_law_605 : decode cL_law 605 = .ok (.iaload, 1) := by decide +kernel
theorem dL_law_606 : decode cL_law 606 = .ok (.aload_n 0, 1) := by decide +kernel
theorem dL_law_607 : decode cL_law 607 = .ok (.iload_n 3, 1) := by decide +kernel
theorem dL_law_608 : decode cL_law 608 = .ok (.iconst 2, 1) := by decide +kernel
theorem dL_law_609 : decode cL_law 609 = .ok (.iadd, 1) := by decide +kernel
theorem dL_law_610 : decode cL_law 610 = .ok (.iaload, 1) := by decide +kernel
theorem dL_law_611 : decode cL_law 611 = .ok (.invokevirtual 58, 3) := by decide +kernel
theorem dL_law_614 : decode cL_law 614 = .ok (.aload_n 2, 1) := by decide +kernel
theorem dL_law_615 : decode cL_law 615 = .ok (.aload_n 0, 1) := by decide +kernel
theorem dL_law_616 : decode cL_law 616 = .ok (.iload_n 3, 1) := by decide +kernel
theorem dL_law_617 : decode cL_law 617 = .ok (.iconst 1, 1) := by decide +kernel
theorem dL_law_618 : decode cL_law 618 = .ok (.iadd, 1) := by decide +kernel
theorem dL_law_619 : decode cL_law 619 = .ok (.iaload, 1) := by decide +kernel
theorem dL_law_620 : decode cL_law 620 = .ok (.aload_n 0, 1) := by decide +kernel
theorem dL_law_621 : decode cL_law 621 = .ok (.iload_n 3, 1) := by decide +kernel
theorem dL_law_622 : decode cL_law 622 = .ok (.iconst 2, 1) := by decide +kernel
theorem dL_law_623 : decode cL_law 623 = .ok (.iadd, 1) := by decide +kernel
theorem dL_law_624 : decode cL_law 624 = .ok (.iaload, 1) := by decide +kernel
theorem dL_law_625 : decode cL_law 625 = .ok (.invokevirtual 61, 3) := by decide +kernel
theorem dL_law_628 : decode cL_law 628 = .ok (.if_icmp .eq 593, 3) := by decide +kernel
theorem dL_law_631 : decode cL_law 631 = .ok (.iconst 0, 1) := by decide +kernel
theorem dL_law_632 : decode cL_law 632 = .ok (.ireturn, 1) := by decide +kernel
theorem dL_law_633 : decode cL_law 633 = .ok (.aload_n 1, 1) := by decide +kernel
theorem dL_law_634 : decode cL_law 634 = .ok (.aload_n 0, 1) := by decide +kernel
theorem dL_law_635 : decode cL_law 635 = .ok (.iload_n 3, 1) := by decide +kernel
theorem dL_law_636 : decode cL_law 636 = .ok (.iconst 1, 1) := by decide +kernel
theorem dL_law_637 : decode cL_law 637 = .ok (.iadd, 1) := by decide +kernel
theorem dL_law_638 : decode cL_law 638 = .ok (.iaload, 1) := by decide +kernel
theorem dL_law_639 : decode cL_law 639 = .ok (.invokevirtual 62, 3) := by decide +kernel
theorem dL_law_642 : decode cL_law 642 = .ok (.aload_n 2, 1) := by decide +kernel
theorem dL_law_643 : decode cL_law 643 = .ok (.aload_n 0, 1) := by decide +kernel
theorem dL_law_644 : decode cL_law 644 = .ok (.iload_n 3, 1) := by decide +kernel
theorem dL_law_645 : decode cL_law 645 = .ok (.iconst 1, 1) := by decide +kernel
theorem dL_law_646 : decode cL_law 646 = .ok (.iadd, 1) := by decide +kernel
theorem dL_law_647 : decode cL_law 647 = .ok (.iaload, 1) := by decide +kernel
theorem dL_law_648 : decode cL_law 648 = .ok (.invokevirtual 65, 3) := by decide +kernel
theorem dL_law_651 : decode cL_law 651 = .ok (.if_icmp .eq 570, 3) := by decide +kernel
theorem dL_law_654 : decode cL_law 654 = .ok (.iconst 0, 1) := by decide +kernel
theorem dL_law_655 : decode cL_law 655 = .ok (.ireturn, 1) := by decide +kernel
theorem dL_law_656 : decode cL_law 656 = .ok (.aload_n 1, 1) := by decide +kernel
theorem dL_law_657 : decode cL_law 657 = .ok (.aload_n 0, 1) := by decide +kernel
theorem dL_law_658 : decode cL_law 658 = .ok (.iload_n 3, 1) := by decide +kernel
theorem dL_law_659 : decode cL_law 659 = .ok (.iconst 1, 1) := by decide +kernel
theorem dL_law_660 : decode cL_law 660 = .ok (.iadd, 1) := by decide +kernel
theorem dL_law_661 : decode cL_law 661 = .ok (.iaload, 1) := by decide +kernel
theorem dL_law_662 : decode cL_law 662 = .ok (.invokevirtual 66, 3) := by decide +kernel
theorem dL_law_665 : decode cL_law 665 = .ok (.aload_n 2, 1) := by decide +kernel
theorem dL_law_666 : decode cL_law 666 = .ok (.aload_n 0, 1) := by decide +kernel
theorem dL_law_667 : decode cL_law 667 = .ok (.iload_n 3, 1) := by decide +kernel
theorem dL_law_668 : decode cL_law 668 = .ok (.iconst 1, 1) := by decide +kernel
theorem dL_law_669 : decode cL_law 669 = .ok (.iadd, 1) := by decide +kernel
theorem dL_law_670 : decode cL_law 670 = .ok (.iaload, 1) := by decide +kernel
theorem dL_law_671 : decode cL_law 671 = .ok (.invokevirtual 69, 3) := by decide +kernel
theorem dL_law_674 : decode cL_law 674 = .ok (.if_icmp .eq 547, 3) := by decide +kernel
theorem dL_law_677 : decode cL_law 677 = .ok (.iconst 0, 1) := by decide +kernel
theorem dL_law_678 : decode cL_law 678 = .ok (.ireturn, 1) := by decide +kernel
theorem dL_law_679 : decode cL_law 679 = .ok (.aload_n 1, 1) := by decide +kernel
theorem dL_law_680 : decode cL_law 680 = .ok (.aload_n 0, 1) := by decide +kernel
theorem dL_law_681 : decode cL_law 681 = .ok (.iload_n 3, 1) := by decide +kernel
theorem dL_law_682 : decode cL_law 682 = .ok (.iconst 1, 1) := by decide +kernel
theorem dL_law_683 : decode cL_law 683 = .ok (.iadd, 1) := by decide +kernel
theorem dL_law_684 : decode cL_law 684 = .ok (.iaload, 1) := by decide +kernel
theorem dL_law_685 : decode cL_law 685 = .ok (.aload_n 0, 1) := by decide +kernel
theorem dL_law_686 : decode cL_law 686 = .ok (.iload_n 3, 1) := by decide +kernel
theorem dL_law_687 : decode cL_law 687 = .ok (.iconst 2, 1) := by decide +kernel
theorem dL_law_688 : decode cL_law 688 = .ok (.iadd, 1) := by decide +kernel
theorem dL_law_689 : decode cL_law 689 = .ok (.iaload, 1) := by decide +kernel
theorem dL_law_690 : decode cL_law 690 = .ok (.invokevirtual 70, 3) := by decide +kernel
theorem dL_law_693 : decode cL_law 693 = .ok (.aload_n 2, 1) := by decide +kernel
theorem dL_law_694 : decode cL_law 694 = .ok (.aload_n 0, 1) := by decide +kernel
theorem dL_law_695 : decode cL_law 695 = .ok (.iload_n 3, 1) := by decide +kernel
theorem dL_law_696 : decode cL_law 696 = .ok (.iconst 1, 1) := by decide +kernel
theorem dL_law_697 : decode cL_law 697 = .ok (.iadd, 1) := by decide +kernel
theorem dL_law_698 : decode cL_law 698 = .ok (.iaload, 1) := by decide +kernel
theorem dL_law_699 : decode cL_law 699 = .ok (.aload_n 0, 1) := by decide +kernel
theorem dL_law_700 : decode cL_law 700 = .ok (.iload_n 3, 1) := by decide +kernel
theorem dL_law_701 : decode cL_law 701 = .ok (.iconst 2, 1) := by decide +kernel
theorem dL_law_702 : decode cL_law 702 = .ok (.iadd, 1) := by decide +kernel
theorem dL_law_703 : decode cL_law 703 = .ok (.iaload, 1) := by decide +kernel
theorem dL_law_704 : decode cL_law 704 = .ok (.invokevirtual 73, 3) := by decide +kernel
theorem dL_law_707 : decode cL_law 707 = .ok (.if_icmp .eq 514, 3) := by decide +kernel
theorem dL_law_710 : decode cL_law 710 = .ok (.iconst 0, 1) := by decide +kernel
theorem dL_law_711 : decode cL_law 711 = .ok (.ireturn, 1) := by decide +kernel
theorem dL_law_712 : decode cL_law 712 = .ok (.aload_n 1, 1) := by decide +kernel
theorem dL_law_713 : decode cL_law 713 = .ok (.aload_n 0, 1) := by decide +kernel
theorem dL_law_714 : decode cL_law 714 = .ok (.iload_n 3, 1) := by decide +kernel
theorem dL_law_715 : decode cL_law 715 = .ok (.iconst 1, 1) := by decide +kernel
theorem dL_law_716 : decode cL_law 716 = .ok (.iadd, 1) := by decide +kernel
theorem dL_law_717 : decode cL_law 717 = .ok (.iaload, 1) := by decide +kernel
theorem dL_law_718 : decode cL_law 718 = .ok (.aload_n 0, 1) := by decide +kernel
theorem dL_law_719 : decode cL_law 719 = .ok (.iload_n 3, 1) := by decide +kernel
theorem dL_law_720 : decode cL_law 720 = .ok (.iconst 2, 1) := by decide +kernel
theorem dL_law_721 : decode cL_law 721 = .ok (.iadd, 1) := by decide +kernel
theorem dL_law_722 : decode cL_law 722 = .ok (.iaload, 1) := by decide +kernel
theorem dL_law_723 : decode cL_law 723 = .ok (.aload_n 0, 1) := by decide +kernel
theorem dL_law_724 : decode cL_law 724 = .ok (.iload_n 3, 1) := by decide +kernel
theorem dL_law_725 : decode cL_law 725 = .ok (.iconst 3, 1) := by decide +kernel
theorem dL_law_726 : decode cL_law 726 = .ok (.iadd, 1) := by decide +kernel
theorem dL_law_727 : decode cL_law 727 = .ok (.iaload, 1) := by decide +kernel
theorem dL_law_728 : decode cL_law 728 = .ok (.invokevirtual 74, 3) := by decide +kernel
theorem dL_law_731 : decode cL_law 731 = .ok (.aload_n 2, 1) := by decide +kernel
theorem dL_law_732 : decode cL_law 732 = .ok (.aload_n 0, 1) := by decide +kernel
theorem dL_law_733 : decode cL_law 733 = .ok (.iload_n 3, 1) := by decide +kernel
theorem dL_law_734 : decode cL_law 734 = .ok (.iconst 1, 1) := by decide +kernel
theorem dL_law_735 : decode cL_law 735 = .ok (.iadd, 1) := by decide +kernel
theorem dL_law_736 : decode cL_law 736 = .ok (.iaload, 1) := by decide +kernel
theorem dL_law_737 : decode cL_law 737 = .ok (.aload_n 0, 1) := by decide +kernel
theorem dL_law_738 : decode cL_law 738 = .ok (.iload_n 3, 1) := by decide +kernel
theorem dL_law_739 : decode cL_law 739 = .ok (.iconst 2, 1) := by decide +kernel
theorem dL_law_740 : decode cL_law 740 = .ok (.iadd, 1) := by decide +kernel
theorem dL_law_741 : decode cL_law 741 = .ok (.iaload, 1) := by decide +kernel
theorem dL_law_742 : decode cL_law 742 = .ok (.aload_n 0, 1) := by decide +kernel
theorem dL_law_743 : decode cL_law 743 = .ok (.iload_n 3, 1) := by decide +kernel
theorem dL_law_744 : decode cL_law 744 = .ok (.iconst 3, 1) := by decide +kernel
theorem dL_law_745 : decode cL_law 745 = .ok (.iadd, 1) := by decide +kernel
theorem dL_law_746 : decode cL_law 746 = .ok (.iaload, 1) := by decide +kernel
theorem dL_law_747 : decode cL_law 747 = .ok (.invokevirtual 77, 3) := by decide +kernel
theorem dL_law_750 : decode cL_law 750 = .ok (.if_icmp .eq 471, 3) := by decide +kernel
theorem dL_law_753 : decode cL_law 753 = .ok (.iconst 0, 1) := by decide +kernel
theorem dL_law_754 : decode cL_law 754 = .ok (.ireturn, 1) := by decide +kernel
theorem dL_law_755 : decode cL_law 755 = .ok (.aload_n 1, 1) := by decide +kernel
theorem dL_law_756 : decode cL_law 756 = .ok (.aload_n 0, 1) := by decide +kernel
theorem dL_law_757 : decode cL_law 757 = .ok (.iload_n 3, 1) := by decide +kernel
theorem dL_law_758 : decode cL_law 758 = .ok (.iconst 1, 1) := by decide +kernel
theorem dL_law_759 : decode cL_law 759 = .ok (.iadd, 1) := by decide +kernel
theorem dL_law_760 : decode cL_law 760 = .ok (.iaload, 1) := by decide +kernel
theorem dL_law_761 : decode cL_law 761 = .ok (.invokevirtual 78, 3) := by decide +kernel
theorem dL_law_764 : decode cL_law 764 = .ok (.aload_n 2, 1) := by decide +kernel
theorem dL_law_765 : decode cL_law 765 = .ok (.aload_n 0, 1) := by decide +kernel
theorem dL_law_766 : decode cL_law 766 = .ok (.iload_n 3, 1) := by decide +kernel
theorem dL_law_767 : decode cL_law 767 = .ok (.iconst 1, 1) := by decide +kernel
theorem dL_law_768 : decode cL_law 768 = .ok (.iadd, 1) := by decide +kernel
theorem dL_law_769 : decode cL_law 769 = .ok (.iaload, 1) := by decide +kernel
theorem dL_law_770 : decode cL_law 770 = .ok (.invokevirtual 81, 3) := by decide +kernel
theorem dL_law_773 : decode cL_law 773 = .ok (.if_icmp .eq 448, 3) := by decide +kernel
theorem dL_law_776 : decode cL_law 776 = .ok (.iconst 0, 1) := by decide +kernel
theorem dL_law_777 : decode cL_law 777 = .ok (.ireturn, 1) := by decide +kernel
theorem dL_law_778 : decode cL_law 778 = .ok (.aload_n 1, 1) := by decide +kernel
theorem dL_law_779 : decode cL_law 779 = .ok (.aload_n 0, 1) := by decide +kernel
theorem dL_law_780 : decode cL_law 780 = .ok (.iload_n 3, 1) := by decide +kernel
theorem dL_law_781 : decode cL_law 781 = .ok (.iconst 1, 1) := by decide +kernel
theorem dL_law_782 : decode cL_law 782 = .ok (.iadd, 1) := by decide +kernel
theorem dL_law_783 : decode cL_law 783 = .ok (.iaload, 1) := by decide +kernel
theorem dL_law_784 : decode cL_law 784 = .ok (.aload_n 0, 1) := by decide +kernel
theorem dL_law_785 : decode cL_law 785 = .ok (.iload_n 3, 1) := by decide +kernel
theorem dL_law_786 : decode cL_law 786 = .ok (.iconst 2, 1) := by decide +kernel
theorem dL_law_787 : decode cL_law 787 = .ok (.iadd, 1) := by decide +kernel
theorem dL_law_788 : decode cL_law 788 = .ok (.iaload, 1) := by decide +kernel
theorem dL_law_789 : decode cL_law 789 = .ok (.aload_n 0, 1) := by decide +kernel
theorem dL_law_790 : decode cL_law 790 = .ok (.iload_n 3, 1) := by decide +kernel
theorem dL_law_791 : decode cL_law 791 = .ok (.iconst 3, 1) := by decide +kernel
theorem dL_law_792 : decode cL_law 792 = .ok (.iadd, 1) := by decide +kernel
theorem dL_law_793 : decode cL_law 793 = .ok (.iaload, 1) := by decide +kernel
theorem dL_law_794 : decode cL_law 794 = .ok (.invokevirtual 82, 3) := by decide +kernel
theorem dL_law_797 : decode cL_law 797 = .ok (.aload_n 2, 1) := by decide +kernel
theorem dL_law_798 : decode cL_law 798 = .ok (.aload_n 0, 1) := by decide +kernel
theorem dL_law_799 : decode cL_law 799 = .ok (.iload_n 3, 1) := by decide +kernel
theorem dL_law_800 : decode cL_law 800 = .ok (.iconst 1, 1) := by decide +kernel
theorem dL_law_801 : decode cL_law 801 = .ok (.iadd, 1) := by decide +kernel
theorem dL_law_802 : decode cL_law 802 = .ok (.iaload, 1) := by decide +kernel
theorem dL_law_803 : decode cL_law 803 = .ok (.aload_n 0, 1) := by decide +kernel
theorem dL_law_804 : decode cL_law 804 = .ok (.iload_n 3, 1) := by decide +kernel
theorem dL_law_805 : decode cL_law 805 = .ok (.iconst 2, 1) := by decide +kernel
theorem dL_law_806 : decode cL_law 806 = .ok (.iadd, 1) := by decide +kernel
theorem dL_law_807 : decode cL_law 807 = .ok (.iaload, 1) := by decide +kernel
theorem dL_law_808 : decode cL_law 808 = .ok (.aload_n 0, 1) := by decide +kernel
theorem dL_law_809 : decode cL_law 809 = .ok (.iload_n 3, 1) := by decide +kernel
theorem dL_law_810 : decode cL_law 810 = .ok (.iconst 3, 1) := by decide +kernel
theorem dL_law_811 : decode cL_law 811 = .ok (.iadd, 1) := by decide +kernel
theorem dL_law_812 : decode cL_law 812 = .ok (.iaload, 1) := by decide +kernel
theorem dL_law_813 : decode cL_law 813 = .ok (.invokevirtual 85, 3) := by decide +kernel
theorem dL_law_816 : decode cL_law 816 = .ok (.if_icmp .eq 405, 3) := by decide +kernel
theorem dL_law_819 : decode cL_law 819 = .ok (.iconst 0, 1) := by decide +kernel
theorem dL_law_820 : decode cL_law 820 = .ok (.ireturn, 1) := by decide +kernel
theorem dL_law_821 : decode cL_law 821 = .ok (.aload_n 1, 1) := by decide +kernel
theorem dL_law_822 : decode cL_law 822 = .ok (.aload_n 0, 1) := by decide +kernel
theorem dL_law_823 : decode cL_law 823 = .ok (.iload_n 3, 1) := by decide +kernel
theorem dL_law_824 : decode cL_law 824 = .ok (.iconst 1, 1) := by decide +kernel
theorem dL_law_825 : decode cL_law 825 = .ok (.iadd, 1) := by decide +kernel
theorem dL_law_826 : decode cL_law 826 = .ok (.iaload, 1) := by decide +kernel
theorem dL_law_827 : decode cL_law 827 = .ok (.aload_n 0, 1) := by decide +kernel
theorem dL_law_828 : decode cL_law 828 = .ok (.iload_n 3, 1) := by decide +kernel
theorem dL_law_829 : decode cL_law 829 = .ok (.iconst 2, 1) := by decide +kernel
theorem dL_law_830 : decode cL_law 830 = .ok (.iadd, 1) := by decide +kernel
theorem dL_law_831 : decode cL_law 831 = .ok (.iaload, 1) := by decide +kernel
theorem dL_law_832 : decode cL_law 832 = .ok (.aload_n 0, 1) := by decide +kernel
theorem dL_law_833 : decode cL_law 833 = .ok (.iload_n 3, 1) := by decide +kernel
theorem dL_law_834 : decode cL_law 834 = .ok (.iconst 3, 1) := by decide +kernel
theorem dL_law_835 : decode cL_law 835 = .ok (.iadd, 1) := by decide +kernel
theorem dL_law_836 : decode cL_law 836 = .ok (.iaload, 1) := by decide +kernel
theorem dL_law_837 : decode cL_law 837 = .ok (.aload_n 0, 1) := by decide +kernel
theorem dL_law_838 : decode cL_law 838 = .ok (.iload_n 3, 1) := by decide +kernel
theorem dL_law_839 : decode cL_law 839 = .ok (.iconst 4, 1) := by decide +kernel
theorem dL_law_840 : decode cL_law 840 = .ok (.iadd, 1) := by decide +kernel
theorem dL_law_841 : decode cL_law 841 = .ok (.iaload, 1) := by decide +kernel
theorem dL_law_842 : decode cL_law 842 = .ok (.invokevirtual 86, 3) := by decide +kernel
theorem dL_law_845 : decode cL_law 845 = .ok (.aload_n 2, 1) := by decide +kernel
theorem dL_law_846 : decode cL_law 846 = .ok (.aload_n 0, 1) := by decide +kernel
theorem dL_law_847 : decode cL_law 847 = .ok (.iload_n 3, 1) := by decide +kernel
theorem dL_law_848 : decode cL_law 848 = .ok (.iconst 1, 1) := by decide +kernel
theorem dL_law_849 : decode cL_law 849 = .ok (.iadd, 1) := by decide +kernel
theorem dL_law_850 : decode cL_law 850 = .ok (.iaload, 1) := by decide +kernel
theorem dL_law_851 : decode cL_law 851 = .ok (.aload_n 0, 1) := by decide +kernel
theorem dL_law_852 : decode cL_law 852 = .ok (.iload_n 3, 1) := by decide +kernel
theorem dL_law_853 : decode cL_law 853 = .ok (.iconst 2, 1) := by decide +kernel
theorem dL_law_854 : decode cL_law 854 = .ok (.iadd, 1) := by decide +kernel
theorem dL_law_855 : decode cL_law 855 = .ok (.iaload, 1) := by decide +kernel
theorem dL_law_856 : decode cL_law 856 = .ok (.aload_n 0, 1) := by decide +kernel
theorem dL_law_857 : decode cL_law 857 = .ok (.iload_n 3, 1) := by decide +kernel
theorem dL_law_858 : decode cL_law 858 = .ok (.iconst 3, 1) := by decide +kernel
theorem dL_law_859 : decode cL_law 859 = .ok (.iadd, 1) := by decide +kernel
theorem dL_law_860 : decode cL_law 860 = .ok (.iaload, 1) := by decide +kernel
theorem dL_law_861 : decode cL_law 861 = .ok (.aload_n 0, 1) := by decide +kernel
theorem dL_law_862 : decode cL_law 862 = .ok (.iload_n 3, 1) := by decide +kernel
theorem dL_law_863 : decode cL_law 863 = .ok (.iconst 4, 1) := by decide +kernel
theorem dL_law_864 : decode cL_law 864 = .ok (.iadd, 1) := by decide +kernel
theorem dL_law_865 : decode cL_law 865 = .ok (.iaload, 1) := by decide +kernel
theorem dL_law_866 : decode cL_law 866 = .ok (.invokevirtual 90, 3) := by decide +kernel
theorem dL_law_869 : decode cL_law 869 = .ok (.if_icmp .eq 352, 3) := by decide +kernel
theorem dL_law_872 : decode cL_law 872 = .ok (.iconst 0, 1) := by decide +kernel
theorem dL_law_873 : decode cL_law 873 = .ok (.ireturn, 1) := by decide +kernel
theorem dL_law_874 : decode cL_law 874 = .ok (.aload_n 1, 1) := by decide +kernel
theorem dL_law_875 : decode cL_law 875 = .ok (.aload_n 0, 1) := by decide +kernel
theorem dL_law_876 : decode cL_law 876 = .ok (.iload_n 3, 1) := by decide +kernel
theorem dL_law_877 : decode cL_law 877 = .ok (.iconst 1, 1) := by decide +kernel
theorem dL_law_878 : decode cL_law 878 = .ok (.iadd, 1) := by decide +kernel
theorem dL_law_879 : decode cL_law 879 = .ok (.iaload, 1) := by decide +kernel
theorem dL_law_880 : decode cL_law 880 = .ok (.aload_n 0, 1) := by decide +kernel
theorem dL_law_881 : decode cL_law 881 = .ok (.iload_n 3, 1) := by decide +kernel
theorem dL_law_882 : decode cL_law 882 = .ok (.iconst 2, 1) := by decide +kernel
theorem dL_law_883 : decode cL_law 883 = .ok (.iadd, 1) := by decide +kernel
theorem dL_law_884 : decode cL_law 884 = .ok (.iaload, 1) := by decide +kernel
theorem dL_law_885 : decode cL_law 885 = .ok (.aload_n 0, 1) := by decide +kernel
theorem dL_law_886 : decode cL_law 886 = .ok (.iload_n 3, 1) := by decide +kernel
theorem dL_law_887 : decode cL_law 887 = .ok (.iconst 3, 1) := by decide +kernel
theorem dL_law_888 : decode cL_law 888 = .ok (.iadd, 1) := by decide +kernel
theorem dL_law_889 : decode cL_law 889 = .ok (.iaload, 1) := by decide +kernel
theorem dL_law_890 : decode cL_law 890 = .ok (.aload_n 0, 1) := by decide +kernel
theorem dL_law_891 : decode cL_law 891 = .ok (.iload_n 3, 1) := by decide +kernel
theorem dL_law_892 : decode cL_law 892 = .ok (.iconst 4, 1) := by decide +kernel
theorem dL_law_893 : decode cL_law 893 = .ok (.iadd, 1) := by decide +kernel
theorem dL_law_894 : decode cL_law 894 = .ok (.iaload, 1) := by decide +kernel
theorem dL_law_895 : decode cL_law 895 = .ok (.invokevirtual 91, 3) := by decide +kernel
theorem dL_law_898 : decode cL_law 898 = .ok (.aload_n 2, 1) := by decide +kernel
theorem dL_law_899 : decode cL_law 899 = .ok (.aload_n 0, 1) := by decide +kernel
theorem dL_law_900 : decode cL_law 900 = .ok (.iload_n 3, 1) := by decide +kernel
theorem dL_law_901 : decode cL_law 901 = .ok (.iconst 1, 1) := by decide +kernel
theorem dL_law_902 : decode cL_law 902 = .ok (.iadd, 1) := by decide +kernel
theorem dL_law_903 : decode cL_law 903 = .ok (.iaload, 1) := by decide +kernel
theorem dL_law_904 : decode cL_law 904 = .ok (.aload_n 0, 1) := by decide +kernel
theorem dL_law_905 : decode cL_law 905 = .ok (.iload_n 3, 1) := by decide +kernel
theorem dL_law_906 : decode cL_law 906 = .ok (.iconst 2, 1) := by decide +kernel
theorem dL_law_907 : decode cL_law 907 = .ok (.iadd, 1) := by decide +kernel
theorem dL_law_908 : decode cL_law 908 = .ok (.iaload, 1) := by decide +kernel
theorem dL_law_909 : decode cL_law 909 = .ok (.aload_n 0, 1) := by decide +kernel
theorem dL_law_910 : decode cL_law 910 = .ok (.iload_n 3, 1) := by decide +kernel
theorem dL_law_911 : decode cL_law 911 = .ok (.iconst 3, 1) := by decide +kernel
theorem dL_law_912 : decode cL_law 912 = .ok (.iadd, 1) := by decide +kernel
theorem dL_law_913 : decode cL_law 913 = .ok (.iaload, 1) := by decide +kernel
theorem dL_law_914 : decode cL_law 914 = .ok (.aload_n 0, 1) := by decide +kernel
theorem dL_law_915 : decode cL_law 915 = .ok (.iload_n 3, 1) := by decide +kernel
theorem dL_law_916 : decode cL_law 916 = .ok (.iconst 4, 1) := by decide +kernel
theorem dL_law_917 : decode cL_law 917 = .ok (.iadd, 1) := by decide +kernel
theorem dL_law_918 : decode cL_law 918 = .ok (.iaload, 1) := by decide +kernel
theorem dL_law_919 : decode cL_law 919 = .ok (.invokevirtual 94, 3) := by decide +kernel
theorem dL_law_922 : decode cL_law 922 = .ok (.if_icmp .eq 299, 3) := by decide +kernel
theorem dL_law_925 : decode cL_law 925 = .ok (.iconst 0, 1) := by decide +kernel
theorem dL_law_926 : decode cL_law 926 = .ok (.ireturn, 1) := by decide +kernel
theorem dL_law_927 : decode cL_law 927 = .ok (.aload_n 1, 1) := by decide +kernel
theorem dL_law_928 : decode cL_law 928 = .ok (.aload_n 0, 1) := by decide +kernel
theorem dL_law_929 : decode cL_law 929 = .ok (.iload_n 3, 1) := by decide +kernel
theorem dL_law_930 : decode cL_law 930 = .ok (.iconst 1, 1) := by decide +kernel
theorem dL_law_931 : decode cL_law 931 = .ok (.iadd, 1) := by decide +kernel
theorem dL_law_932 : decode cL_law 932 = .ok (.iaload, 1) := by decide +kernel
theorem dL_law_933 : decode cL_law 933 = .ok (.invokevirtual 95, 3) := by decide +kernel
theorem dL_law_936 : decode cL_law 936 = .ok (.aload_n 2, 1) := by decide +kernel
theorem dL_law_937 : decode cL_law 937 = .ok (.aload_n 0, 1) := by decide +kernel
theorem dL_law_938 : decode cL_law 938 = .ok (.iload_n 3, 1) := by decide +kernel
theorem dL_law_939 : decode cL_law 939 = .ok (.iconst 1, 1) := by decide +kernel
theorem dL_law_940 : decode cL_law 940 = .ok (.iadd, 1) := by decide +kernel
theorem dL_law_941 : decode cL_law 941 = .ok (.iaload, 1) := by decide +kernel
theorem dL_law_942 : decode cL_law 942 = .ok (.invokevirtual 98, 3) := by decide +kernel
theorem dL_law_945 : decode cL_law 945 = .ok (.if_icmp .eq 276, 3) := by decide +kernel
theorem dL_law_948 : decode cL_law 948 = .ok (.iconst 0, 1) := by decide +kernel
theorem dL_law_949 : decode cL_law 949 = .ok (.ireturn, 1) := by decide +kernel
theorem dL_law_950 : decode cL_law 950 = .ok (.aload_n 1, 1) := by decide +kernel
theorem dL_law_951 : decode cL_law 951 = .ok (.aload_n 0, 1) := by decide +kernel
theorem dL_law_952 : decode cL_law 952 = .ok (.iload_n 3, 1) := by decide +kernel
theorem dL_law_953 : decode cL_law 953 = .ok (.iconst 1, 1) := by decide +kernel
theorem dL_law_954 : decode cL_law 954 = .ok (.iadd, 1) := by decide +kernel
theorem dL_law_955 : decode cL_law 955 = .ok (.iaload, 1) := by decide +kernel
theorem dL_law_956 : decode cL_law 956 = .ok (.aload_n 0, 1) := by decide +kernel
theorem dL_law_957 : decode cL_law 957 = .ok (.iload_n 3, 1) := by decide +kernel
theorem dL_law_958 : decode cL_law 958 = .ok (.iconst 2, 1) := by decide +kernel
theorem dL_law_959 : decode cL_law 959 = .ok (.iadd, 1) := by decide +kernel
theorem dL_law_960 : decode cL_law 960 = .ok (.iaload, 1) := by decide +kernel
theorem dL_law_961 : decode cL_law 961 = .ok (.invokevirtual 99, 3) := by decide +kernel
theorem dL_law_964 : decode cL_law 964 = .ok (.aload_n 2, 1) := by decide +kernel
theorem dL_law_965 : decode cL_law 965 = .ok (.aload_n 0, 1) := by decide +kernel
theorem dL_law_966 : decode cL_law 966 = .ok (.iload_n 3, 1) := by decide +kernel
theorem dL_law_967 : decode cL_law 967 = .ok (.iconst 1, 1) := by decide +kernel
theorem dL_law_968 : decode cL_law 968 = .ok (.iadd, 1) := by decide +kernel
theorem dL_law_969 : decode cL_law 969 = .ok (.iaload, 1) := by decide +kernel
theorem dL_law_970 : decode cL_law 970 = .ok (.aload_n 0, 1) := by decide +kernel
theorem dL_law_971 : decode cL_law 971 = .ok (.iload_n 3, 1) := by decide +kernel
theorem dL_law_972 : decode cL_law 972 = .ok (.iconst 2, 1) := by decide +kernel
theorem dL_law_973 : decode cL_law 973 = .ok (.iadd, 1) := by decide +kernel
theorem dL_law_974 : decode cL_law 974 = .ok (.iaload, 1) := by decide +kernel
theorem dL_law_975 : decode cL_law 975 = .ok (.invokevirtual 102, 3) := by decide +kernel
theorem dL_law_978 : decode cL_law 978 = .ok (.if_icmp .eq 243, 3) := by decide +kernel
theorem dL_law_981 : decode cL_law 981 = .ok (.iconst 0, 1) := by decide +kernel
theorem dL_law_982 : decode cL_law 982 = .ok (.ireturn, 1) := by decide +kernel
theorem dL_law_983 : decode cL_law 983 = .ok (.aload_n 1, 1) := by decide +kernel
theorem dL_law_984 : decode cL_law 984 = .ok (.aload_n 0, 1) := by decide +kernel
theorem dL_law_985 : decode cL_law 985 = .ok (.iload_n 3, 1) := by decide +kernel
theorem dL_law_986 : decode cL_law 986 = .ok (.iconst 1, 1) := by decide +kernel
theorem dL_law_987 : decode cL_law 987 = .ok (.iadd, 1) := by decide +kernel
theorem dL_law_988 : decode cL_law 988 = .ok (.iaload, 1) := by decide +kernel
theorem dL_law_989 : decode cL_law 989 = .ok (.aload_n 0, 1) := by decide +kernel
theorem dL_law_990 : decode cL_law 990 = .ok (.iload_n 3, 1) := by decide +kernel
theorem dL_law_991 : decode cL_law 991 = .ok (.iconst 2, 1) := by decide +kernel
theorem dL_law_992 : decode cL_law 992 = .ok (.iadd, 1) := by decide +kernel
theorem dL_law_993 : decode cL_law 993 = .ok (.iaload, 1) := by decide +kernel
theorem dL_law_994 : decode cL_law 994 = .ok (.invokevirtual 103, 3) := by decide +kernel
theorem dL_law_997 : decode cL_law 997 = .ok (.aload_n 2, 1) := by decide +kernel
theorem dL_law_998 : decode cL_law 998 = .ok (.aload_n 0, 1) := by decide +kernel
theorem dL_law_999 : decode cL_law 999 = .ok (.iload_n 3, 1) := by decide +kernel
theorem dL_law_1000 : decode cL_law 1000 = .ok (.iconst 1, 1) := by decide +kernel
theorem dL_law_1001 : decode cL_law 1001 = .ok (.iadd, 1) := by decide +kernel
theorem dL_law_1002 : decode cL_law 1002 = .ok (.iaload, 1) := by decide +kernel
theorem dL_law_1003 : decode cL_law 1003 = .ok (.aload_n 0, 1) := by decide +kernel
theorem dL_law_1004 : decode cL_law 1004 = .ok (.iload_n 3, 1) := by decide +kernel
theorem dL_law_1005 : decode cL_law 1005 = .ok (.iconst 2, 1) := by decide +kernel
theorem dL_law_1006 : decode cL_law 1006 = .ok (.iadd, 1) := by decide +kernel
theorem dL_law_1007 : decode cL_law 1007 = .ok (.iaload, 1) := by decide +kernel
theorem dL_law_1008 : decode cL_law 1008 = .ok (.invokevirtual 106, 3) := by decide +kernel
theorem dL_law_1011 : decode cL_law 1011 = .ok (.if_icmp .eq 210, 3) := by decide +kernel
theorem dL_law_1014 : decode cL_law 1014 = .ok (.iconst 0, 1) := by decide +kernel
theorem dL_law_1015 : decode cL_law 1015 = .ok (.ireturn, 1) := by decide +kernel
theorem dL_law_1016 : decode cL_law 1016 = .ok (.aload_n 1, 1) := by decide +kernel
theorem dL_law_1017 : decode cL_law 1017 = .ok (.aload_n 0, 1) := by decide +kernel
theorem dL_law_1018 : decode cL_law 1018 = .ok (.iload_n 3, 1) := by decide +kernel
theorem dL_law_1019 : decode cL_law 1019 = .ok (.iconst 1, 1) := by decide +kernel
theorem dL_law_1020 : decode cL_law 1020 = .ok (.iadd, 1) := by decide +kernel
theorem dL_law_1021 : decode cL_law 1021 = .ok (.iaload, 1) := by decide +kernel
theorem dL_law_1022 : decode cL_law 1022 = .ok (.aload_n 0, 1) := by decide +kernel
theorem dL_law_1023 : decode cL_law 1023 = .ok (.iload_n 3, 1) := by decide +kernel
theorem dL_law_1024 : decode cL_law 1024 = .ok (.iconst 2, 1) := by decide +kernel
theorem dL_law_1025 : decode cL_law 1025 = .ok (.iadd, 1) := by decide +kernel
theorem dL_law_1026 : decode cL_law 1026 = .ok (.iaload, 1) := by decide +kernel
theorem dL_law_1027 : decode cL_law 1027 = .ok (.invokevirtual 107, 3) := by decide +kernel
theorem dL_law_1030 : decode cL_law 1030 = .ok (.aload_n 2, 1) := by decide +kernel
theorem dL_law_1031 : decode cL_law 1031 = .ok (.aload_n 0, 1) := by decide +kernel
theorem dL_law_1032 : decode cL_law 1032 = .ok (.iload_n 3, 1) := by decide +kernel
theorem dL_law_1033 : decode cL_law 1033 = .ok (.iconst 1, 1) := by decide +kernel
theorem dL_law_1034 : decode cL_law 1034 = .ok (.iadd, 1) := by decide +kernel
theorem dL_law_1035 : decode cL_law 1035 = .ok (.iaload, 1) := by decide +kernel
theorem dL_law_1036 : decode cL_law 1036 = .ok (.aload_n 0, 1) := by decide +kernel
theorem dL_law_1037 : decode cL_law 1037 = .ok (.iload_n 3, 1) := by decide +kernel
theorem dL_law_1038 : decode cL_law 1038 = .ok (.iconst 2, 1) := by decide +kernel
theorem dL_law_1039 : decode cL_law 1039 = .ok (.iadd, 1) := by decide +kernel
theorem dL_law_1040 : decode cL_law 1040 = .ok (.iaload, 1) := by decide +kernel
theorem dL_law_1041 : decode cL_law 1041 = .ok (.invokevirtual 110, 3) := by decide +kernel
theorem dL_law_1044 : decode cL_law 1044 = .ok (.if_icmp .eq 177, 3) := by decide +kernel
theorem dL_law_1047 : decode cL_law 1047 = .ok (.iconst 0, 1) := by decide +kernel
theorem dL_law_1048 : decode cL_law 1048 = .ok (.ireturn, 1) := by decide +kernel
theorem dL_law_1049 : decode cL_law 1049 = .ok (.aload_n 1, 1) := by decide +kernel
theorem dL_law_1050 : decode cL_law 1050 = .ok (.aload_n 0, 1) := by decide +kernel
theorem dL_law_1051 : decode cL_law 1051 = .ok (.iload_n 3, 1) := by decide +kernel
theorem dL_law_1052 : decode cL_law 1052 = .ok (.iconst 1, 1) := by decide +kernel
theorem dL_law_1053 : decode cL_law 1053 = .ok (.iadd, 1) := by decide +kernel
theorem dL_law_1054 : decode cL_law 1054 = .ok (.iaload, 1) := by decide +kernel
theorem dL_law_1055 : decode cL_law 1055 = .ok (.aload_n 0, 1) := by decide +kernel
theorem dL_law_1056 : decode cL_law 1056 = .ok (.iload_n 3, 1) := by decide +kernel
theorem dL_law_1057 : decode cL_law 1057 = .ok (.iconst 2, 1) := by decide +kernel
theorem dL_law_1058 : decode cL_law 1058 = .ok (.iadd, 1) := by decide +kernel
theorem dL_law_1059 : decode cL_law 1059 = .ok (.iaload, 1) := by decide +kernel
theorem dL_law_1060 : decode cL_law 1060 = .ok (.aload_n 0, 1) := by decide +kernel
theorem dL_law_1061 : decode cL_law 1061 = .ok (.iload_n 3, 1) := by decide +kernel
theorem dL_law_1062 : decode cL_law 1062 = .ok (.iconst 3, 1) := by decide +kernel
theorem dL_law_1063 : decode cL_law 1063 = .ok (.iadd, 1) := by decide +kernel
theorem dL_law_1064 : decode cL_law 1064 = .ok (.iaload, 1) := by decide +kernel
theorem dL_law_1065 : decode cL_law 1065 = .ok (.invokevirtual 111, 3) := by decide +kernel
theorem dL_law_1068 : decode cL_law 1068 = .ok (.aload_n 2, 1) := by decide +kernel
theorem dL_law_1069 : decode cL_law 1069 = .ok (.aload_n 0, 1) := by decide +kernel
theorem dL_law_1070 : decode cL_law 1070 = .ok (.iload_n 3, 1) := by decide +kernel
theorem dL_law_1071 : decode cL_law 1071 = .ok (.iconst 1, 1) := by decide +kernel
theorem dL_law_1072 : decode cL_law 1072 = .ok (.iadd, 1) := by decide +kernel
theorem dL_law_1073 : decode cL_law 1073 = .ok (.iaload, 1) := by decide +kernel
theorem dL_law_1074 : decode cL_law 1074 = .ok (.aload_n 0, 1) := by decide +kernel
theorem dL_law_1075 : decode cL_law 1075 = .ok (.iload_n 3, 1) := by decide +kernel
theorem dL_law_1076 : decode cL_law 1076 = .ok (.iconst 2, 1) := by decide +kernel
theorem dL_law_1077 : decode cL_law 1077 = .ok (.iadd, 1) := by decide +kernel
theorem dL_law_1078 : decode cL_law 1078 = .ok (.iaload, 1) := by decide +kernel
theorem dL_law_1079 : decode cL_law 1079 = .ok (.aload_n 0, 1) := by decide +kernel
theorem dL_law_1080 : decode cL_law 1080 = .ok (.iload_n 3, 1) := by decide +kernel
theorem dL_law_1081 : decode cL_law 1081 = .ok (.iconst 3, 1) := by decide +kernel
theorem dL_law_1082 : decode cL_law 1082 = .ok (.iadd, 1) := by decide +kernel
theorem dL_law_1083 : decode cL_law 1083 = .ok (.iaload, 1) := by decide +kernel
theorem dL_law_1084 : decode cL_law 1084 = .ok (.invokevirtual 114, 3) := by decide +kernel
theorem dL_law_1087 : decode cL_law 1087 = .ok (.if_icmp .eq 134, 3) := by decide +kernel
theorem dL_law_1090 : decode cL_law 1090 = .ok (.iconst 0, 1) := by decide +kernel
theorem dL_law_1091 : decode cL_law 1091 = .ok (.ireturn, 1) := by decide +kernel
theorem dL_law_1092 : decode cL_law 1092 = .ok (.aload_n 1, 1) := by decide +kernel
theorem dL_law_1093 : decode cL_law 1093 = .ok (.aload_n 0, 1) := by decide +kernel
theorem dL_law_1094 : decode cL_law 1094 = .ok (.iload_n 3, 1) := by decide +kernel
theorem dL_law_1095 : decode cL_law 1095 = .ok (.iconst 1, 1) := by decide +kernel
theorem dL_law_1096 : decode cL_law 1096 = .ok (.iadd, 1) := by decide +kernel
theorem dL_law_1097 : decode cL_law 1097 = .ok (.iaload, 1) := by decide +kernel
theorem dL_law_1098 : decode cL_law 1098 = .ok (.aload_n 0, 1) := by decide +kernel
theorem dL_law_1099 : decode cL_law 1099 = .ok (.iload_n 3, 1) := by decide +kernel
theorem dL_law_1100 : decode cL_law 1100 = .ok (.iconst 2, 1) := by decide +kernel
theorem dL_law_1101 : decode cL_law 1101 = .ok (.iadd, 1) := by decide +kernel
theorem dL_law_1102 : decode cL_law 1102 = .ok (.iaload, 1) := by decide +kernel
theorem dL_law_1103 : decode cL_law 1103 = .ok (.aload_n 0, 1) := by decide +kernel
theorem dL_law_1104 : decode cL_law 1104 = .ok (.iload_n 3, 1) := by decide +kernel
theorem dL_law_1105 : decode cL_law 1105 = .ok (.iconst 3, 1) := by decide +kernel
theorem dL_law_1106 : decode cL_law 1106 = .ok (.iadd, 1) := by decide +kernel
theorem dL_law_1107 : decode cL_law 1107 = .ok (.iaload, 1) := by decide +kernel
theorem dL_law_1108 : decode cL_law 1108 = .ok (.invokevirtual 115, 3) := by decide +kernel
theorem dL_law_1111 : decode cL_law 1111 = .ok (.aload_n 2, 1) := by decide +kernel
theorem dL_law_1112 : decode cL_law 1112 = .ok (.aload_n 0, 1) := by decide +kernel
theorem dL_law_1113 : decode cL_law 1113 = .ok (.iload_n 3, 1) := by decide +kernel
theorem dL_law_1114 : decode cL_law 1114 = .ok (.iconst 1, 1) := by decide +kernel
theorem dL_law_1115 : decode cL_law 1115 = .ok (.iadd, 1) := by decide +kernel
theorem dL_law_1116 : decode cL_law 1116 = .ok (.iaload, 1) := by decide +kernel
theorem dL_law_1117 : decode cL_law 1117 = .ok (.aload_n 0, 1) := by decide +kernel
theorem dL_law_1118 : decode cL_law 1118 = .ok (.iload_n 3, 1) := by decide +kernel
theorem dL_law_1119 : decode cL_law 1119 = .ok (.iconst 2, 1) := by decide +kernel
theorem dL_law_1120 : decode cL_law 1120 = .ok (.iadd, 1) := by decide +kernel
theorem dL_law_1121 : decode cL_law 1121 = .ok (.iaload, 1) := by decide +kernel
theorem dL_law_1122 : decode cL_law 1122 = .ok (.aload_n 0, 1) := by decide +kernel
theorem dL_law_1123 : decode cL_law 1123 = .ok (.iload_n 3, 1) := by decide +kernel
theorem dL_law_1124 : decode cL_law 1124 = .ok (.iconst 3, 1) := by decide +kernel
theorem dL_law_1125 : decode cL_law 1125 = .ok (.iadd, 1) := by decide +kernel
theorem dL_law_1126 : decode cL_law 1126 = .ok (.iaload, 1) := by decide +kernel
theorem dL_law_1127 : decode cL_law 1127 = .ok (.invokevirtual 118, 3) := by decide +kernel
theorem dL_law_1130 : decode cL_law 1130 = .ok (.if_icmp .eq 91, 3) := by decide +kernel
theorem dL_law_1133 : decode cL_law 1133 = .ok (.iconst 0, 1) := by decide +kernel
theorem dL_law_1134 : decode cL_law 1134 = .ok (.ireturn, 1) := by decide +kernel
theorem dL_law_1135 : decode cL_law 1135 = .ok (.aload_n 1, 1) := by decide +kernel
theorem dL_law_1136 : decode cL_law 1136 = .ok (.aload_n 0, 1) := by decide +kernel
theorem dL_law_1137 : decode cL_law 1137 = .ok (.iload_n 3, 1) := by decide +kernel
theorem dL_law_1138 : decode cL_law 1138 = .ok (.iconst 1, 1) := by decide +kernel
theorem dL_law_1139 : decode cL_law 1139 = .ok (.iadd, 1) := by decide +kernel
theorem dL_law_1140 : decode cL_law 1140 = .ok (.iaload, 1) := by decide +kernel
theorem dL_law_1141 : decode cL_law 1141 = .ok (.aload_n 0, 1) := by decide +kernel
theorem dL_law_1142 : decode cL_law 1142 = .ok (.iload_n 3, 1) := by decide +kernel
theorem dL_law_1143 : decode cL_law 1143 = .ok (.iconst 2, 1) := by decide +kernel
theorem dL_law_1144 : decode cL_law 1144 = .ok (.iadd, 1) := by decide +kernel
theorem dL_law_1145 : decode cL_law 1145 = .ok (.iaload, 1) := by decide +kernel
theorem dL_law_1146 : decode cL_law 1146 = .ok (.aload_n 0, 1) := by decide +kernel
theorem dL_law_1147 : decode cL_law 1147 = .ok (.iload_n 3, 1) := by decide +kernel
theorem dL_law_1148 : decode cL_law 1148 = .ok (.iconst 3, 1) := by decide +kernel
theorem dL_law_1149 : decode cL_law 1149 = .ok (.iadd, 1) := by decide +kernel
theorem dL_law_1150 : decode cL_law 1150 = .ok (.iaload, 1) := by decide +kernel
theorem dL_law_1151 : decode cL_law 1151 = .ok (.aload_n 0, 1) := by decide +kernel
theorem dL_law_1152 : decode cL_law 1152 = .ok (.iload_n 3, 1) := by decide +kernel
theorem dL_law_1153 : decode cL_law 1153 = .ok (.iconst 4, 1) := by decide +kernel
theorem dL_law_1154 : decode cL_law 1154 = .ok (.iadd, 1) := by decide +kernel
theorem dL_law_1155 : decode cL_law 1155 = .ok (.iaload, 1) := by decide +kernel
theorem dL_law_1156 : decode cL_law 1156 = .ok (.aload_n 0, 1) := by decide +kernel
theorem dL_law_1157 : decode cL_law 1157 = .ok (.iload_n 3, 1) := by decide +kernel
theorem dL_law_1158 : decode cL_law 1158 = .ok (.iconst 5, 1) := by decide +kernel
theorem dL_law_1159 : decode cL_law 1159 = .ok (.iadd, 1) := by decide +kernel
theorem dL_law_1160 : decode cL_law 1160 = .ok (.iaload, 1) := by decide +kernel
theorem dL_law_1161 : decode cL_law 1161 = .ok (.invokevirtual 119, 3) := by decide +kernel
theorem dL_law_1164 : decode cL_law 1164 = .ok (.aload_n 2, 1) := by decide +kernel
theorem dL_law_1165 : decode cL_law 1165 = .ok (.aload_n 0, 1) := by decide +kernel
theorem dL_law_1166 : decode cL_law 1166 = .ok (.iload_n 3, 1) := by decide +kernel
theorem dL_law_1167 : decode cL_law 1167 = .ok (.iconst 1, 1) := by decide +kernel
theorem dL_law_1168 : decode cL_law 1168 = .ok (.iadd, 1) := by decide +kernel
theorem dL_law_1169 : decode cL_law 1169 = .ok (.iaload, 1) := by decide +kernel
theorem dL_law_1170 : decode cL_law 1170 = .ok (.aload_n 0, 1) := by decide +kernel
theorem dL_law_1171 : decode cL_law 1171 = .ok (.iload_n 3, 1) := by decide +kernel
theorem dL_law_1172 : decode cL_law 1172 = .ok (.iconst 2, 1) := by decide +kernel
theorem dL_law_1173 : decode cL_law 1173 = .ok (.iadd, 1) := by decide +kernel
theorem dL_law_1174 : decode cL_law 1174 = .ok (.iaload, 1) := by decide +kernel
theorem dL_law_1175 : decode cL_law 1175 = .ok (.aload_n 0, 1) := by decide +kernel
theorem dL_law_1176 : decode cL_law 1176 = .ok (.iload_n 3, 1) := by decide +kernel
theorem dL_law_1177 : decode cL_law 1177 = .ok (.iconst 3, 1) := by decide +kernel
theorem dL_law_1178 : decode cL_law 1178 = .ok (.iadd, 1) := by decide +kernel
theorem dL_law_1179 : decode cL_law 1179 = .ok (.iaload, 1) := by decide +kernel
theorem dL_law_1180 : decode cL_law 1180 = .ok (.aload_n 0, 1) := by decide +kernel
theorem dL_law_1181 : decode cL_law 1181 = .ok (.iload_n 3, 1) := by decide +kernel
theorem dL_law_1182 : decode cL_law 1182 = .ok (.iconst 4, 1) := by decide +kernel
theorem dL_law_1183 : decode cL_law 1183 = .ok (.iadd, 1) := by decide +kernel
theorem dL_law_1184 : decode cL_law 1184 = .ok (.iaload, 1) := by decide +kernel
theorem dL_law_1185 : decode cL_law 1185 = .ok (.aload_n 0, 1) := by decide +kernel
theorem dL_law_1186 : decode cL_law 1186 = .ok (.iload_n 3, 1) := by decide +kernel
theorem dL_law_1187 : decode cL_law 1187 = .ok (.iconst 5, 1) := by decide +kernel
theorem dL_law_1188 : decode cL_law 1188 = .ok (.iadd, 1) := by decide +kernel
theorem dL_law_1189 : decode cL_law 1189 = .ok (.iaload, 1) := by decide +kernel
theorem dL_law_1190 : decode cL_law 1190 = .ok (.invokevirtual 122, 3) := by decide +kernel
theorem dL_law_1193 : decode cL_law 1193 = .ok (.if_icmp .eq 28, 3) := by decide +kernel
theorem dL_law_1196 : decode cL_law 1196 = .ok (.iconst 0, 1) := by decide +kernel
theorem dL_law_1197 : decode cL_law 1197 = .ok (.ireturn, 1) := by decide +kernel
theorem dL_law_1198 : decode cL_law 1198 = .ok (.aload_n 1, 1) := by decide +kernel
theorem dL_law_1199 : decode cL_law 1199 = .ok (.aload_n 0, 1) := by decide +kernel
theorem dL_law_1200 : decode cL_law 1200 = .ok (.iload_n 3, 1) := by decide +kernel
theorem dL_law_1201 : decode cL_law 1201 = .ok (.iconst 1, 1) := by decide +kernel
theorem dL_law_1202 : decode cL_law 1202 = .ok (.iadd, 1) := by decide +kernel
theorem dL_law_1203 : decode cL_law 1203 = .ok (.iaload, 1) := by decide +kernel
theorem dL_law_1204 : decode cL_law 1204 = .ok (.invokevirtual 123, 3) := by decide +kernel
theorem dL_law_1207 : decode cL_law 1207 = .ok (.aload_n 2, 1) := by decide +kernel
theorem dL_law_1208 : decode cL_law 1208 = .ok (.aload_n 0, 1) := by decide +kernel
theorem dL_law_1209 : decode cL_law 1209 = .ok (.iload_n 3, 1) := by decide +kernel
theorem dL_law_1210 : decode cL_law 1210 = .ok (.iconst 1, 1) := by decide +kernel
theorem dL_law_1211 : decode cL_law 1211 = .ok (.iadd, 1) := by decide +kernel
theorem dL_law_1212 : decode cL_law 1212 = .ok (.iaload, 1) := by decide +kernel
theorem dL_law_1213 : decode cL_law 1213 = .ok (.invokevirtual 126, 3) := by decide +kernel
theorem dL_law_1216 : decode cL_law 1216 = .ok (.if_icmp .eq 5, 3) := by decide +kernel
theorem dL_law_1219 : decode cL_law 1219 = .ok (.iconst 0, 1) := by decide +kernel
theorem dL_law_1220 : decode cL_law 1220 = .ok (.ireturn, 1) := by decide +kernel
theorem dL_law_1221 : decode cL_law 1221 = .ok (.iinc 3 8, 3) := by decide +kernel
theorem dL_law_1224 : decode cL_law 1224 = .ok (.goto (-1206), 3) := by decide +kernel
theorem dL_law_1227 : decode cL_law 1227 = .ok (.iconst 1, 1) := by decide +kernel
theorem dL_law_1228 : decode cL_law 1228 = .ok (.ireturn, 1) := by decide +kernel
end
section
/-! ===== a flat memory over the machine's heap: cells by their offset from the base, ints and references by cell and place ===== -/
abbrev mSh : Type := Nat ⊕ (Nat × Nat)
abbrev mI : Type := Nat → Nat → Int32
abbrev mP : Type := Nat → Nat → Option Nat
def mUp {α : Type} (f : Nat → Nat → α) (c k : Nat) (v : α) : Nat → Nat → α := fun c' k' => if c' = c ∧ k' = k then v else f c' k'
def mUs (sh : Nat → Option mSh) (c : Nat) (z : mSh) : Nat → Option mSh := fun c' => if c' = c then some z else sh c'
/-- a row of zeros, of nulls, for a new cell -/
def mNI (f : mI) (c : Nat) : mI := fun c' k' => if c' = c then 0 else f c' k'
def mNP (f : mP) (c : Nat) : mP := fun c' k' => if c' = c then none else f c' k'
theorem mUp_s {α : Type} {f : Nat → Nat → α} {c k : Nat} {v : α} : mUp f c k v c k = v := by simp [mUp]
theorem mUp_c {α : Type} {f : Nat → Nat → α} {c k c' k' : Nat} {v : α} (h : c' ≠ c) : mUp f c k v c' k' = f c' k' := by simp [mUp, h]
theorem mUp_k {α : Type} {f : Nat → Nat → α} {c k c' k' : Nat} {v : α} (h : k' ≠ k) : mUp f c k v c' k' = f c' k' := by simp [mUp, h]
/-- what is fixed: the classes' numbers and slots; the array classes; the heap at the law's entry; where the texts and their bytes lie -/
abbrev mX : Type := va_G × (Nat → ClassId) × Heap × (Nat → Nat) × (Nat → Nat) × Launch
def mRf (B : Nat) (o : Option Nat) : Value := match o with
  | none => .null
  | some c => .ref (B + c)
/-- which fields hold references -/
def mIsR (ci k : Nat) : Bool := (([[1], [0], [0], [0], [], [0, 1], [0, 1, 2], [], [0], [2], [0, 1, 2, 3, 4, 5, 6, 7, 9, 11, 12, 13, 15, 16, 17], [], [1, 2, 3, 4, 5, 6, 7, 8, 9, 10, 11, 12, 13, 23, 24, 25, 26, 27, 28, 29, 30, 34, 35, 36, 37, 38, 39, 40, 41, 42, 43, 44, 47, 48, 49, 50, 51, 52, 53, 54]] : List (List Nat)).getD ci []).contains k
def mF (ci B : Nat) (I : mI) (P : mP) (c : Nat) : Nat → Value := fun k => bif mIsR ci k then mRf B (P c k) else .int (I c k)
def mA (t B : Nat) (I : mI) (P : mP) (c : Nat) : Nat → Value := fun j => bif Nat.blt t 2 then .int (I c j) else mRf B (P c j)
def mTyOf (t : Nat) : FieldType := match t with
  | 0 => .int
  | 1 => .byte
  | 2 => .object RX3
  | 3 => .object RX4
  | 4 => .object RX0
  | _ => .object RX7
def mElem (t : Nat) : Nat := match t with
  | 2 => 3
  | 3 => 4
  | 4 => 0
  | _ => 7
abbrev mTys (dA : Nat → ClassId) : List (ClassId × FieldType) := [(dA 0, mTyOf 0), (dA 1, mTyOf 1), (dA 2, mTyOf 2), (dA 3, mTyOf 3), (dA 4, mTyOf 4), (dA 5, mTyOf 5)]
def mOk (X : mX) (B : Nat) (I : mI) (P : mP) (H : Heap) (c : Nat) (z : mSh) : Prop := match z with
  | .inl ci => ∃ (r : vw_C) (V : Nat → Value), vwCl[ci]? = some r ∧ t_OB (B + c) (X.1.1 ci) r.2.2 (X.1.2 ci) H V ∧ (ci ≠ 11 → ∀ k, k < r.2.2 → V k = mF ci B I P c k)
  | .inr a => a.1 < 6 ∧ H[B + c]? = some (arrV (X.2.1 a.1) a.2 (mA a.1 B I P c))
def mRel (X : mX) (B nx : Nat) (sh : Nat → Option mSh) (I : mI) (P : mP) (H : Heap) : Prop :=
  H.size = B + nx ∧ (∀ q : Nat, q < B → H[q]? = X.2.2.1[q]?) ∧ ∀ (c : Nat) (z : mSh), sh c = some z → mOk X B I P H c z
theorem mOk.lt {X : mX} {B : Nat} {I : mI} {P : mP} {H : Heap} {c : Nat} {z : mSh} (h : mOk X B I P H c z) : B + c < H.size := by
  cases z with
  | inl ci =>
    obtain ⟨r, V, -, ⟨cell, h1, -⟩, -⟩ := h
    exact (Array.getElem?_eq_some_iff.mp h1).1
  | inr a => exact (Array.getElem?_eq_some_iff.mp h.2).1
theorem mRel.lt {X : mX} {B nx : Nat} {sh : Nat → Option mSh} {I : mI} {P : mP} {H : Heap} (h : mRel X B nx sh I P H) {c : Nat} {z : mSh} (hc : sh c = some z) : c < nx := by
  have h1 := (h.2.2 c z hc).lt
  have h2 := h.1
  omega
/-- a cell that nobody touched -/
theorem mOk.kept {X : mX} {B : Nat} {I I' : mI} {P P' : mP} {H H' : Heap} {c : Nat} {z : mSh} (h : mOk X B I P H c z) (hq : H'[B + c]? = H[B + c]?) (hI : ∀ k, I' c k = I c k) (hP : ∀ k, P' c k = P c k) : mOk X B I' P' H' c z := by
  cases z with
  | inl ci =>
    obtain ⟨r, V, h1, h2, h3⟩ := h
    exact ⟨r, V, h1, h2.kept hq, fun hn k hk => by rw [h3 hn k hk]; simp [mF, hI, hP]⟩
  | inr a =>
    refine ⟨h.1, ?_⟩
    rw [hq, h.2]
    congr 2
    funext j
    simp [mA, hI, hP]
/-- one cell is written -/
theorem mRel.put {X : mX} {B nx : Nat} {sh : Nat → Option mSh} {I I' : mI} {P P' : mP} {H H' : Heap} {c : Nat} (h : mRel X B nx sh I P H) (hz : H'.size = H.size) (ho : ∀ q : Nat, q ≠ B + c → H'[q]? = H[q]?)
    (hI : ∀ c' k, c' ≠ c → I' c' k = I c' k) (hP : ∀ c' k, c' ≠ c → P' c' k = P c' k) (hc : ∀ z, sh c = some z → mOk X B I' P' H' c z) : mRel X B nx sh I' P' H' := by
  refine ⟨hz.trans h.1, fun q hq => (ho q (by omega)).trans (h.2.1 q hq), fun c' z hz' => ?_⟩
  by_cases e : c' = c
  · subst e
    exact hc z hz'
  · exact (h.2.2 c' z hz').kept (ho _ (by omega)) (fun k => hI c' k e) (fun k => hP c' k e)
/-- one cell is new -/
theorem mRel.new {X : mX} {B nx : Nat} {sh : Nat → Option mSh} {I I' : mI} {P P' : mP} {H H' : Heap} {z : mSh} (h : mRel X B nx sh I P H) (hz : H'.size = H.size + 1) (ho : ∀ q : Nat, q < H.size → H'[q]? = H[q]?)
    (hI : ∀ c' k, c' ≠ nx → I' c' k = I c' k) (hP : ∀ c' k, c' ≠ nx → P' c' k = P c' k) (hc : mOk X B I' P' H' nx z) : mRel X B (nx + 1) (mUs sh nx z) I' P' H' := by
  refine ⟨by have := h.1; omega, fun q hq => (ho q (by have := h.1; omega)).trans (h.2.1 q hq), fun c' z' hz' => ?_⟩
  by_cases e : c' = nx
  · subst e
    simp [mUs] at hz'
    subst hz'
    exact hc
  · simp [mUs, e] at hz'
    have h1 := (h.2.2 c' z' hz').lt
    exact (h.2.2 c' z' hz').kept (ho _ h1) (fun k => hI c' k e) (fun k => hP c' k e)
/-- the words of the tables that stay good -/
def mW : List Cond := lw_tbl.filter goodWord
theorem mW_in {w : Cond} (h : w ∈ lw_tbl) (g : goodWord w = true) : w ∈ mW := List.mem_filter.mpr ⟨h, g⟩
theorem mW_good : GoodIn mW mW := fun w h => ⟨h, good_of_word (List.mem_filter.mp h).2⟩
/-- a word by its place in the tables -/
theorem mW_at {w : Cond} (i : Nat) (h : tables_1[i]? = some w) (g : goodWord w = true) : w ∈ mW := mW_in (List.mem_append_right _ (List.mem_of_getElem? h)) g
theorem mW_sel {w : Cond} (i : Nat) (h : (k2_sels lw_privs)[i]? = some w) (g : goodWord w = true) : w ∈ mW := mW_in (List.mem_append_left _ (List.mem_of_getElem? h)) g
/-- the words on private members of nest mates -/
def mIsN : Cond → Bool
  | .fieldLinkNest .. => true
  | .methodLinkNest .. => true
  | _ => false
def mN : List Cond := tables_1.filter mIsN
theorem mN_at {w : Cond} (i : Nat) (h : tables_1[i]? = some w) (g : mIsN w = true) : w ∈ mN := List.mem_filter.mpr ⟨List.mem_of_getElem? h, g⟩
theorem mN_warm {s U : State} (hW : s.WarmedH U.vm) (h : ∀ w ∈ mN, va_Nw w s) : ∀ w ∈ mN, va_Nw w U := by
  intro w hw
  have h1 := h w hw
  have h2 := (List.mem_filter.mp hw).2
  cases w <;> simp [mIsN] at h2
  · exact va_Nw.warmM hW h1
  · exact va_Nw.warmF hW h1
/-- String constants: who names them, their bytes -/
def mSr : List (String × Nat × String) := [("GownCourt$Reader", 158, "sleeve"), ("GownCourt$Reader", 160, "train"), ("GownCourt$Reader", 162, "pearls"), ("GownCourt$Reader", 164, "chain"), ("GownCourt$Reader", 166, "cost"), ("GownCourt$Reader", 168, "stuff"), ("GownCourt$Reader", 170, "colour"), ("GownCourt$Reader", 172, "must"), ("GownCourt$Reader", 147, "repeal"), ("GownCourt$Reader", 153, "seal"), ("GownCourt$Reader", 154, "part"), ("GownCourt$Reader", 174, "all"), ("GownCourt$Reader", 176, "ranks"), ("GownCourt$Reader", 110, "to"), ("GownCourt$Reader", 181, "daily"), ("GownCourt$Reader", 183, "feast"), ("GownCourt$Reader", 185, "wedding"), ("GownCourt$Reader", 187, "always"), ("GownCourt$Reader", 119, "fine"), ("GownCourtModel", 72, "sleeve"), ("GownCourtModel", 74, "train"), ("GownCourtModel", 76, "pearls"), ("GownCourtModel", 78, "chain"), ("GownCourtModel", 80, "cost"), ("GownCourtModel", 82, "stuff"), ("GownCourtModel", 84, "colour"), ("GownCourtModel", 86, "must"), ("GownCourtModel", 138, "all"), ("GownCourtModel", 140, "ranks"), ("GownCourtModel", 146, "to"), ("GownCourtModel", 151, "daily"), ("GownCourtModel", 153, "feast"), ("GownCourtModel", 155, "wedding"), ("GownCourtModel", 157, "always"), ("GownCourtModel", 159, "fine"), ("GownCourtModel", 116, "repeal"), ("GownCourtModel", 125, "seal"), ("GownCourtModel", 126, "part")]
def mBy : List (List Int32) := [[115, 108, 101, 101, 118, 101], [116, 114, 97, 105, 110], [112, 101, 97, 114, 108, 115], [99, 104, 97, 105, 110], [99, 111, 115, 116], [115, 116, 117, 102, 102], [99, 111, 108, 111, 117, 114], [109, 117, 115, 116], [114, 101, 112, 101, 97, 108], [115, 101, 97, 108], [112, 97, 114, 116], [97, 108, 108], [114, 97, 110, 107, 115], [116, 111], [100, 97, 105, 108, 121], [102, 101, 97, 115, 116], [119, 101, 100, 100, 105, 110, 103], [97, 108, 119, 97, 121, 115], [102, 105, 110, 101], [115, 108, 101, 101, 118, 101], [116, 114, 97, 105, 110], [112, 101, 97, 114, 108, 115], [99, 104, 97, 105, 110], [99, 111, 115, 116], [115, 116, 117, 102, 102], [99, 111, 108, 111, 117, 114], [109, 117, 115, 116], [97, 108, 108], [114, 97, 110, 107, 115], [116, 111], [100, 97, 105, 108, 121], [102, 101, 97, 115, 116], [119, 101, 100, 100, 105, 110, 103], [97, 108, 119, 97, 121, 115], [102, 105, 110, 101], [114, 101, 112, 101, 97, 108], [115, 101, 97, 108], [112, 97, 114, 116]]
def mLe : List Nat := [6, 5, 6, 5, 4, 5, 6, 4, 6, 4, 4, 3, 5, 2, 5, 5, 7, 6, 4, 6, 5, 6, 5, 4, 5, 6, 4, 3, 5, 2, 5, 5, 7, 6, 4, 6, 4, 4]
abbrev mNT : Nat := 38
def mS (aK aV : Nat → Nat) (A : Nat → Prop) (U : State) (H : Heap) : Prop :=
  ∀ i : Nat, i < mNT → va_O "java/lang/String" (aK i) A U H ∧ va_OF "java/lang/String" "coder" "B" (.int 0) (aK i) A U H ∧ va_OF "java/lang/String" "value" "[B" (.ref (aV i)) (aK i) A U H ∧ va_T .byte (aV i) (mLe.getD i 0) (fun j => .int ((mBy.getD i []).getD j 0)) A U H
theorem mS.moved {aK aV : Nat → Nat} {A : Nat → Prop} {u U : State} {H : Heap} (hvm : u.vm.Alike U.vm) (h : mS aK aV A u H) : mS aK aV A U H :=
  fun i hi => ⟨va_O.moved hvm (h i hi).1, va_OF.moved hvm (h i hi).2.1, va_OF.moved hvm (h i hi).2.2.1, va_T.moved hvm (h i hi).2.2.2⟩
/-- statics that hold one number, or a reference that nobody looks at -/
def mZi : List (String × String × String × Int32) := [("java/lang/String", "COMPACT_STRINGS", "Z", 1)]
def mZq : List (String × String × String) := [("java/lang/Throwable", "UNASSIGNED_STACK", "[Ljava/lang/StackTraceElement;"), ("java/lang/Throwable", "SUPPRESSED_SENTINEL", "Ljava/util/List;")]
def mK (X : mX) (B : Nat) (U : State) : Prop :=
  va_K X.1 vwCl (mTys X.2.1) U ∧ (∀ w ∈ mN, va_Nw w U) ∧ mS X.2.2.2.1 X.2.2.2.2.1 (fun q => B ≤ q) U X.2.2.1 ∧ (∀ (i : Nat) (r : String × Nat × String), mSr[i]? = some r → vk_R r.1 r.2.1 r.2.2 (X.2.2.2.1 i) U) ∧
  (∀ r ∈ mZi, va_Z r.1 r.2.1 r.2.2.1 (.int r.2.2.2) (fun q => B ≤ q) U X.2.2.1) ∧ (∀ r ∈ mZq, va_Zq r.1 r.2.1 r.2.2 (fun q => B ≤ q) U X.2.2.1) ∧ (∀ t, 2 ≤ t → t < 6 → va_AO (vwCl.getD (mElem t) (RX0, TX0, 0)).1 U) ∧ X.2.2.1.size = B
theorem mK.warm {X : mX} {B : Nat} {s U : State} (hW : s.WarmedH U.vm) (h : mK X B s) : mK X B U :=
  ⟨va_K.moved hW.alike h.1, mN_warm hW h.2.1, mS.moved hW.alike h.2.2.1, fun i r hr => vk_R.warm hW (h.2.2.2.1 i r hr), fun r hr => va_Z.moved hW.alike (h.2.2.2.2.1 r hr), fun r hr => va_Zq.moved hW.alike (h.2.2.2.2.2.1 r hr), fun t h1 h2 => va_AO.moved hW.alike (h.2.2.2.2.2.2.1 t h1 h2), h.2.2.2.2.2.2.2⟩
theorem mK.same {X : mX} {B : Nat} {s U : State} (hv : U.vm = s.vm) (h : mK X B s) : mK X B U := by
  have ha : s.vm.Alike U.vm := by rw [hv]; exact Vm.Alike.refl _
  refine ⟨va_K.moved ha h.1, fun w hw => ?_, mS.moved ha h.2.2.1, fun i r hr => vk_R.same hv (h.2.2.2.1 i r hr), fun r hr => va_Z.moved ha (h.2.2.2.2.1 r hr), fun r hr => va_Zq.moved ha (h.2.2.2.2.2.1 r hr), fun t h1 h2 => va_AO.moved ha (h.2.2.2.2.2.2.1 t h1 h2), h.2.2.2.2.2.2.2⟩
  have h1 := h.2.1 w hw
  have h2 := (List.mem_filter.mp hw).2
  cases w <;> simp [mIsN] at h2
  · exact va_Nw.same rfl hv.symm h1
  · exact va_Nw.same rfl hv.symm h1
end
section
/-! ===== the judgement V: from here the method runs to its end, over the flat memory ===== -/
abbrev mG : Type := Program × Env × Room × State × MethodId × Array Value × List Frame × Method × Code × (State → Prop)
abbrev mPo : Type := Option Value → Nat → (Nat → Option mSh) → mI → mP → Prop
def mLs (c : Code) (la : Array Slot) (ls : List (Option Value)) : Prop := la.size = c.maxLocals ∧ ls.length = la.size ∧ lv_wf la ∧ ∀ (i : Nat) (v : Value), ls[i]? = some (some v) → la[i]? = some (.val v) ∧ v.category = 1
def mCx (X : mX) (B : Nat) (own : String) (cc : ByteArray) (p : Program) (s : State) (m : MethodId) (args : Array Value) (meth : Method) (c : Code) : Prop :=
  p.tables.exec = Jvm.exec ∧ c.code = cc ∧ s.vm.findClass own = some m.cls ∧ (∀ w ∈ mW, w.before args s = true) ∧ mK X B s ∧ meth.locks = false
def V (X : mX) (B : Nat) (own : String) (cc : ByteArray) (G : mG) (nc ns nx : Nat) (sh : Nat → Option mSh) (I : mI) (P : mP) (pc : Nat) (ls : List (Option Value)) (st : List Value) : Prop := match G with
  | (p, e, R, s, m, args, below, meth, c, Q) => mCx X B own cc p s m args meth c → ∀ (H : Heap) (locs : List Loc) (la : Array Slot), mRel X B nx sh I P H → (∀ q ∈ locs, B ≤ q.base) → mLs c la ls → W p X.2.2.2.2.2 e R s m args below meth c H locs nc ns Q (F0 m pc la st)
def mQc (X : mX) (B : Nat) (Po : mPo) : Array Value → State → Outcome → State → Prop := fun _ _ o t => ∃ (v : Option Value) (nx : Nat) (sh : Nat → Option mSh) (I : mI) (P : mP), o = .returned v ∧ Po v nx sh I P ∧ mRel X B nx sh I P t.heap
/-- the method that runs: its answer's type, its room, what its end must meet -/
def mM (X : mX) (B : Nat) (nm : String) (ret : Option FieldType) (fr lo mc ms : Nat) (Po : mPo) (G : mG) : Prop := match G with
  | (p, e, R, s, m, args, below, meth, c, Q) => meth.sig.returnType = ret ∧ R.frames = fr ∧ R.locals = lo ∧ R.cells = mc ∧ R.slots = ms ∧ meth.name = nm ∧ Q = MQ below (mQc X B Po) args s mc ms (fun q => B ≤ q)
def mPc (X : mX) (B : Nat) (av : List Value) (nx : Nat) (sh : Nat → Option mSh) (I : mI) (P : mP) : Array Value → State → Prop := va_Pc av (fun U => mRel X B nx sh I P U.heap ∧ mK X B U)
/-- a method: name, code, locals, answer, frames, locals of all below -/
abbrev mMd : Type := MethodName × ByteArray × Nat × Option FieldType × Nat × Nat
/-- THE CONTRACT: from this memory, at these arguments, the method ends as Po says -/
def Ev (X : mX) (B : Nat) (d : mMd) (mc ms : Nat) (av : List Value) (nx : Nat) (sh : Nat → Option mSh) (I : mI) (P : mP) (Po : mPo) : Prop :=
  Met X.2.2.2.2.2 d.1 (Cond.code d.1 d.2.1 d.2.2.1 d.2.2.2.1 :: mW) { frames := d.2.2.2.2.1, cells := mc, slots := ms, locals := d.2.2.2.2.2 } (mPc X B av nx sh I P) (mQc X B Po) mc ms (fun q => B ≤ q)
theorem Ev.weaken {X : mX} {B : Nat} {d : mMd} {mc ms : Nat} {av : List Value} {nx : Nat} {sh : Nat → Option mSh} {I : mI} {P : mP} {Po Po' : mPo} (h : Ev X B d mc ms av nx sh I P Po) (k : ∀ o nx sh I P, Po o nx sh I P → Po' o nx sh I P) : Ev X B d mc ms av nx sh I P Po' := by
  intro p e ha hc hk s m args below h1 h2 h3 h4
  obtain ⟨k9, o, a1, a2, a3, ⟨v, nx', sh', I', P', b0, b1, b2⟩, a4⟩ := h p e ha hc hk s m args below h1 h2 h3 h4
  exact ⟨k9, o, a1, a2, a3, ⟨v, nx', sh', I', P', b0, k _ _ _ _ _ b1, b2⟩, a4⟩
theorem mLs_entry {c : Code} {n : Nat} (hml : c.maxLocals = n) (av : List Value) (hc : ∀ v ∈ av, v.category = 1) (hn : av.length ≤ n) : mLs c ((lg_sl av ++ List.replicate (n - (lg_sl av).length) Slot.unset).toArray) (av.map some ++ List.replicate (n - av.length) none) := by
  have e : lg_sl av = av.map Slot.val := by
    unfold lg_sl
    clear hn
    induction av with
    | nil => rfl
    | cons v l ih =>
      rw [List.flatMap_cons, ih (fun v h => hc v (List.mem_cons_of_mem _ h)), if_neg (by rw [hc v List.mem_cons_self]; decide)]
      rfl
  rw [e]
  refine ⟨by simp [hml]; omega, by simp, ⟨fun i v hi hv => ?_, fun i hi => ?_⟩, fun i v hi => ?_⟩
  · simp only [List.getElem?_toArray] at hi
    by_cases hl : i < av.length
    · rw [List.getElem?_append_left (by simpa using hl), List.getElem?_map] at hi
      cases hg : av[i]? with
      | none => rw [hg] at hi; cases hi
      | some w =>
        rw [hg] at hi
        have hw := hc w (List.mem_of_getElem? hg)
        cases hi
        rw [hv] at hw
        cases hw
    · rw [List.getElem?_append_right (by simpa using hl), List.getElem?_replicate] at hi
      split at hi <;> cases hi
  · simp only [List.getElem?_toArray] at hi
    by_cases hl : i < av.length
    · rw [List.getElem?_append_left (by simpa using hl), List.getElem?_map] at hi
      cases hg : av[i]? with
      | none => rw [hg] at hi; cases hi
      | some w => rw [hg] at hi; cases hi
    · rw [List.getElem?_append_right (by simpa using hl), List.getElem?_replicate] at hi
      split at hi <;> cases hi
  · by_cases hl : i < av.length
    · rw [List.getElem?_append_left (by simpa using hl), List.getElem?_map] at hi
      cases hg : av[i]? with
      | none => rw [hg] at hi; cases hi
      | some w =>
        rw [hg] at hi
        cases hi
        refine ⟨?_, hc _ (List.mem_of_getElem? hg)⟩
        rw [List.getElem?_toArray, List.getElem?_append_left (by simpa using hl), List.getElem?_map, hg]
        rfl
    · rw [List.getElem?_append_right (by simpa using hl), List.getElem?_replicate] at hi
      split at hi <;> cases hi
/-- a contract out of the walk of the body -/
theorem Ev.of {X : mX} {B : Nat} {d : mMd} {mc ms : Nat} {av : List Value} {nx : Nat} {sh : Nat → Option mSh} {I : mI} {P : mP} {Po : mPo} (hy : plainName d.1.cls = true) (hc : ∀ v ∈ av, v.category = 1) (hn : av.length ≤ d.2.2.1)
    (h : ∀ G : mG, mM X B d.1.name d.2.2.2.1 d.2.2.2.2.1 d.2.2.2.2.2 mc ms Po G → V X B d.1.cls d.2.1 G 0 0 nx sh I P 0 (av.map some ++ List.replicate (d.2.2.1 - av.length) none) []) : Ev X B d mc ms av nx sh I P Po := by
  obtain ⟨y, cc, maxL, ret, fr, lo⟩ := d
  refine Met.ofW (cc := cc) (maxL := maxL) (ret := ret) hy rfl ?_
  intro p e s m args below meth c s₁ Bd hml hv
  obtain ⟨rfl, hR, hK⟩ := hv
  have hts := atoms_spec (ws := Cond.code y cc maxL ret :: mW) Bd.pre
  have hown : s.vm.findClass y.cls = some m.cls := findClass_of_methodNamed Bd.named
  have hnm : meth.name = y.name := (name_of_methodNamed Bd.named Bd.method).1
  have h1 := h (p, e, { frames := fr, cells := mc, slots := ms, locals := lo }, s, m, av.toArray, below, meth, c, MQ below (mQc X B Po) av.toArray s mc ms (fun q => B ≤ q)) ⟨Bd.returns, rfl, rfl, rfl, rfl, hnm, rfl⟩ ⟨Bd.exec, Bd.bytes, hown, fun w hw => hts w (List.mem_cons_of_mem _ hw), hK, Bd.notSynchronized⟩ s.heap [] _ hR (fun q h => by cases h) (mLs_entry hml av hc hn)
  rw [lg_entry_eq]
  exact h1
section VR
variable {X : mX} {B : Nat} {own : String} {cc : ByteArray} {G : mG} {nc ns nx : Nat} {sh : Nat → Option mSh} {I : mI} {P : mP} {pc : Nat} {ls : List (Option Value)} {st : List Value}
theorem V.widen {a b : Nat} (h1 : nc ≤ a) (h2 : ns ≤ b) (k : V X B own cc G a b nx sh I P pc ls st) : V X B own cc G nc ns nx sh I P pc ls st := by
  obtain ⟨p, e, R, s, m, args, below, meth, c, Q⟩ := G
  intro C H locs la hR hL hl
  exact W.widen h1 h2 (k C H locs la hR hL hl)
/-- the memory is as well another one that agrees on all cells -/
theorem mRel.to {H : Heap} {I' : mI} {P' : mP} (h : mRel X B nx sh I P H) (hI : ∀ c k, I c k = I' c k) (hP : ∀ c k, P c k = P' c k) : mRel X B nx sh I' P' H :=
  ⟨h.1, h.2.1, fun c z hz => (h.2.2 c z hz).kept rfl (fun k => (hI c k).symm) (fun k => (hP c k).symm)⟩
theorem mLs.at {c : Code} {la : Array Slot} (h : mLs c la ls) {i : Nat} {v : Value} (hi : ls[i]? = some (some v)) : la[i]? = some (.val v) := (h.2.2.2 i v hi).1
theorem mLs.store {c : Code} {la : Array Slot} (h : mLs c la ls) {i : Nat} {v : Value} (hi : i < ls.length) (hv : v.category = 1) : ∃ la', storeLocals la i v = some la' ∧ mLs c la' (ls.set i (some v)) := by
  have hn : i < c.maxLocals := by rw [← h.1, ← h.2.1]; exact hi
  obtain ⟨la', e1, h1⟩ := lv_store1 (l := []) (i := i) (v := v) ⟨h.1, h.2.2.1, fun q hq => by cases hq⟩ hn hv
  refine ⟨la', e1, h1.1, by rw [List.length_set, h.2.1, h.1, h1.1], h1.2.1, fun j w hj => ?_⟩
  by_cases hji : j = i
  · subst hji
    rw [List.getElem?_set_self hi] at hj
    cases hj
    exact ⟨h1.2.2 (j, v) List.mem_cons_self, hv⟩
  · rw [List.getElem?_set_ne (Ne.symm hji)] at hj
    obtain ⟨q1, q2⟩ := h.2.2.2 j w hj
    obtain ⟨la2, e2, h2⟩ := lv_store1 (l := [(j, w)]) (i := i) (v := v) ⟨h.1, h.2.2.1, fun q hq => by rw [List.mem_singleton.mp hq]; exact q1⟩ hn hv
    cases e1.symm.trans e2
    refine ⟨h2.2.2 (j, w) (List.mem_cons_of_mem _ (List.mem_filter.mpr ⟨List.mem_singleton.mpr rfl, ?_⟩)), q2⟩
    simp [hji, q2]

theorem V_iadd {x y : Int32} (hd : decode cc pc = .ok (.iadd, 1)) (k : V X B own cc G nc ns nx sh I P (pc + 1) ls (.int (x + y) :: st)) : V X B own cc G nc ns nx sh I P pc ls (.int y :: .int x :: st) := by
  obtain ⟨p, e, R, s, m, args, below, meth, c, Q⟩ := G
  intro C H locs la hR hL hl
  exact lv_iadd C.1 C.2.1 hd (k C H locs la hR hL hl)
theorem V_isub {x y : Int32} (hd : decode cc pc = .ok (.isub, 1)) (k : V X B own cc G nc ns nx sh I P (pc + 1) ls (.int (x - y) :: st)) : V X B own cc G nc ns nx sh I P pc ls (.int y :: .int x :: st) := by
  obtain ⟨p, e, R, s, m, args, below, meth, c, Q⟩ := G
  intro C H locs la hR hL hl
  exact lv_isub C.1 C.2.1 hd (k C H locs la hR hL hl)
theorem V_imul {x y : Int32} (hd : decode cc pc = .ok (.imul, 1)) (k : V X B own cc G nc ns nx sh I P (pc + 1) ls (.int (x * y) :: st)) : V X B own cc G nc ns nx sh I P pc ls (.int y :: .int x :: st) := by
  obtain ⟨p, e, R, s, m, args, below, meth, c, Q⟩ := G
  intro C H locs la hR hL hl
  exact lv_imul C.1 C.2.1 hd (k C H locs la hR hL hl)
theorem V_iand {x y : Int32} (hd : decode cc pc = .ok (.iand, 1)) (k : V X B own cc G nc ns nx sh I P (pc + 1) ls (.int (x &&& y) :: st)) : V X B own cc G nc ns nx sh I P pc ls (.int y :: .int x :: st) := by
  obtain ⟨p, e, R, s, m, args, below, meth, c, Q⟩ := G
  intro C H locs la hR hL hl
  exact lv_iand C.1 C.2.1 hd (k C H locs la hR hL hl)
theorem V_ior {x y : Int32} (hd : decode cc pc = .ok (.ior, 1)) (k : V X B own cc G nc ns nx sh I P (pc + 1) ls (.int (x ||| y) :: st)) : V X B own cc G nc ns nx sh I P pc ls (.int y :: .int x :: st) := by
  obtain ⟨p, e, R, s, m, args, below, meth, c, Q⟩ := G
  intro C H locs la hR hL hl
  exact lv_ior C.1 C.2.1 hd (k C H locs la hR hL hl)
theorem V_ixor {x y : Int32} (hd : decode cc pc = .ok (.ixor, 1)) (k : V X B own cc G nc ns nx sh I P (pc + 1) ls (.int (x ^^^ y) :: st)) : V X B own cc G nc ns nx sh I P pc ls (.int y :: .int x :: st) := by
  obtain ⟨p, e, R, s, m, args, below, meth, c, Q⟩ := G
  intro C H locs la hR hL hl
  exact lv_ixor C.1 C.2.1 hd (k C H locs la hR hL hl)
theorem V_lsub {x y : Int64} (hd : decode cc pc = .ok (.lsub, 1)) (k : V X B own cc G nc ns nx sh I P (pc + 1) ls (.long (x - y) :: st)) : V X B own cc G nc ns nx sh I P pc ls (.long y :: .long x :: st) := by
  obtain ⟨p, e, R, s, m, args, below, meth, c, Q⟩ := G
  intro C H locs la hR hL hl
  exact lv_lsub C.1 C.2.1 hd (k C H locs la hR hL hl)
theorem V_lmul {x y : Int64} (hd : decode cc pc = .ok (.lmul, 1)) (k : V X B own cc G nc ns nx sh I P (pc + 1) ls (.long (x * y) :: st)) : V X B own cc G nc ns nx sh I P pc ls (.long y :: .long x :: st) := by
  obtain ⟨p, e, R, s, m, args, below, meth, c, Q⟩ := G
  intro C H locs la hR hL hl
  exact lv_lmul C.1 C.2.1 hd (k C H locs la hR hL hl)
theorem V_ldiv {x y : Int64} (hne : ¬ y = 0) (hd : decode cc pc = .ok (.ldiv, 1)) (k : V X B own cc G nc ns nx sh I P (pc + 1) ls (.long (x / y) :: st)) : V X B own cc G nc ns nx sh I P pc ls (.long y :: .long x :: st) := by
  obtain ⟨p, e, R, s, m, args, below, meth, c, Q⟩ := G
  intro C H locs la hR hL hl
  exact lv_ldiv C.1 C.2.1 hd hne (k C H locs la hR hL hl)
theorem V_iconst {n : Int} {v : Int32} (hv : Int32.ofInt n = v) (hd : decode cc pc = .ok (.iconst n, 1)) (k : V X B own cc G nc ns nx sh I P (pc + 1) ls (.int v :: st)) : V X B own cc G nc ns nx sh I P pc ls (st) := by
  obtain ⟨p, e, R, s, m, args, below, meth, c, Q⟩ := G
  intro C H locs la hR hL hl
  exact lv_iconst C.1 C.2.1 hd hv (k C H locs la hR hL hl)
theorem V_bipush {n : Int} {v : Int32} (hv : (Int8.ofInt n).toInt32 = v) (hd : decode cc pc = .ok (.bipush n, 2)) (k : V X B own cc G nc ns nx sh I P (pc + 2) ls (.int v :: st)) : V X B own cc G nc ns nx sh I P pc ls (st) := by
  obtain ⟨p, e, R, s, m, args, below, meth, c, Q⟩ := G
  intro C H locs la hR hL hl
  exact lv_bipush C.1 C.2.1 hd hv (k C H locs la hR hL hl)
theorem V_sipush {n : Int} {v : Int32} (hv : (Int16.ofInt n).toInt32 = v) (hd : decode cc pc = .ok (.sipush n, 3)) (k : V X B own cc G nc ns nx sh I P (pc + 3) ls (.int v :: st)) : V X B own cc G nc ns nx sh I P pc ls (st) := by
  obtain ⟨p, e, R, s, m, args, below, meth, c, Q⟩ := G
  intro C H locs la hR hL hl
  exact lv_sipush C.1 C.2.1 hd hv (k C H locs la hR hL hl)
theorem V_lconst {n : Fin 2} {v : Int64} (hv : Int64.ofNat (n : Nat) = v) (hd : decode cc pc = .ok (.lconst n, 1)) (k : V X B own cc G nc ns nx sh I P (pc + 1) ls (.long v :: st)) : V X B own cc G nc ns nx sh I P pc ls (st) := by
  obtain ⟨p, e, R, s, m, args, below, meth, c, Q⟩ := G
  intro C H locs la hR hL hl
  exact lv_lconst C.1 C.2.1 hd hv (k C H locs la hR hL hl)
theorem V_ishl {x y : Int32} (hd : decode cc pc = .ok (.ishl, 1)) (k : V X B own cc G nc ns nx sh I P (pc + 1) ls (.int (x <<< (y &&& 31)) :: st)) : V X B own cc G nc ns nx sh I P pc ls (.int y :: .int x :: st) := by
  obtain ⟨p, e, R, s, m, args, below, meth, c, Q⟩ := G
  intro C H locs la hR hL hl
  exact lv_ishl C.1 C.2.1 hd (k C H locs la hR hL hl)
theorem V_ishr {x y : Int32} (hd : decode cc pc = .ok (.ishr, 1)) (k : V X B own cc G nc ns nx sh I P (pc + 1) ls (.int (x >>> (y &&& 31)) :: st)) : V X B own cc G nc ns nx sh I P pc ls (.int y :: .int x :: st) := by
  obtain ⟨p, e, R, s, m, args, below, meth, c, Q⟩ := G
  intro C H locs la hR hL hl
  exact lv_ishr C.1 C.2.1 hd (k C H locs la hR hL hl)
def mUshr (x y : Int32) : Int32 := (x.toUInt32 >>> (y.toUInt32 &&& Int32.toUInt32 31)).toInt32
theorem V_iushr {x y : Int32} (hd : decode cc pc = .ok (.iushr, 1)) (k : V X B own cc G nc ns nx sh I P (pc + 1) ls (.int (mUshr x y) :: st)) : V X B own cc G nc ns nx sh I P pc ls (.int y :: .int x :: st) := by
  obtain ⟨p, e, R, s, m, args, below, meth, c, Q⟩ := G
  intro C H locs la hR hL hl
  exact lv_iushr C.1 C.2.1 hd rfl (k C H locs la hR hL hl)
theorem V_i2l {x : Int32} (hd : decode cc pc = .ok (.i2l, 1)) (k : V X B own cc G nc ns nx sh I P (pc + 1) ls (.long x.toInt64 :: st)) : V X B own cc G nc ns nx sh I P pc ls (.int x :: st) := by
  obtain ⟨p, e, R, s, m, args, below, meth, c, Q⟩ := G
  intro C H locs la hR hL hl
  exact lv_i2l C.1 C.2.1 hd rfl (k C H locs la hR hL hl)
theorem V_l2i {x : Int64} (hd : decode cc pc = .ok (.l2i, 1)) (k : V X B own cc G nc ns nx sh I P (pc + 1) ls (.int x.toInt32 :: st)) : V X B own cc G nc ns nx sh I P pc ls (.long x :: st) := by
  obtain ⟨p, e, R, s, m, args, below, meth, c, Q⟩ := G
  intro C H locs la hR hL hl
  exact lv_l2i C.1 C.2.1 hd rfl (k C H locs la hR hL hl)
theorem V_i2b {x : Int32} (hd : decode cc pc = .ok (.i2b, 1)) (k : V X B own cc G nc ns nx sh I P (pc + 1) ls (.int x.toInt8.toInt32 :: st)) : V X B own cc G nc ns nx sh I P pc ls (.int x :: st) := by
  obtain ⟨p, e, R, s, m, args, below, meth, c, Q⟩ := G
  intro C H locs la hR hL hl
  exact lv_i2b C.1 C.2.1 hd rfl (k C H locs la hR hL hl)
theorem V_i2c {x : Int32} (hd : decode cc pc = .ok (.i2c, 1)) (k : V X B own cc G nc ns nx sh I P (pc + 1) ls (.int (x.toUInt32 % 65536).toInt32 :: st)) : V X B own cc G nc ns nx sh I P pc ls (.int x :: st) := by
  obtain ⟨p, e, R, s, m, args, below, meth, c, Q⟩ := G
  intro C H locs la hR hL hl
  exact lv_i2c C.1 C.2.1 hd rfl (k C H locs la hR hL hl)
theorem V_dup {va : Value} (hva : va.category = 1) (hd : decode cc pc = .ok (.dup, 1)) (k : V X B own cc G nc ns nx sh I P (pc + 1) ls (va :: va :: st)) : V X B own cc G nc ns nx sh I P pc ls (va :: st) := by
  obtain ⟨p, e, R, s, m, args, below, meth, c, Q⟩ := G
  intro C H locs la hR hL hl
  exact lv_dup C.1 C.2.1 hd hva (k C H locs la hR hL hl)
theorem V_pop {va : Value} (hva : va.category = 1) (hd : decode cc pc = .ok (.pop, 1)) (k : V X B own cc G nc ns nx sh I P (pc + 1) ls (st)) : V X B own cc G nc ns nx sh I P pc ls (va :: st) := by
  obtain ⟨p, e, R, s, m, args, below, meth, c, Q⟩ := G
  intro C H locs la hR hL hl
  exact lv_pop C.1 C.2.1 hd hva (k C H locs la hR hL hl)
theorem V_dup2 {va vb : Value} (hva : va.category = 1) (hvb : vb.category = 1) (hd : decode cc pc = .ok (.dup2, 1)) (k : V X B own cc G nc ns nx sh I P (pc + 1) ls (va :: vb :: va :: vb :: st)) : V X B own cc G nc ns nx sh I P pc ls (va :: vb :: st) := by
  obtain ⟨p, e, R, s, m, args, below, meth, c, Q⟩ := G
  intro C H locs la hR hL hl
  exact lv_dup2_11 C.1 C.2.1 hd hva hvb (k C H locs la hR hL hl)
theorem V_null  (hd : decode cc pc = .ok (.aconst_null, 1)) (k : V X B own cc G nc ns nx sh I P (pc + 1) ls (.null :: st)) : V X B own cc G nc ns nx sh I P pc ls (st) := by
  obtain ⟨p, e, R, s, m, args, below, meth, c, Q⟩ := G
  intro C H locs la hR hL hl
  exact lv_null C.1 C.2.1 hd (k C H locs la hR hL hl)
theorem V_if_eq {x : Int32} {off : Int} {tgt : Nat} (hd : decode cc pc = .ok (.ifCond .eq off, 3)) (ht : (pc : Int) + off = (tgt : Int)) (kt : (x = 0) → V X B own cc G nc ns nx sh I P tgt ls st) (kf : (¬ x = 0) → V X B own cc G nc ns nx sh I P (pc + 3) ls st) : V X B own cc G nc ns nx sh I P pc ls (.int x :: st) := by
  obtain ⟨p, e, R, s, m, args, below, meth, c, Q⟩ := G
  intro C H locs la hR hL hl
  exact lv_if_eq C.1 C.2.1 hd ht (fun h => kt h C H locs la hR hL hl) (fun h => kf h C H locs la hR hL hl)
theorem V_icmp_eq {x y : Int32} {off : Int} {tgt : Nat} (hd : decode cc pc = .ok (.if_icmp .eq off, 3)) (ht : (pc : Int) + off = (tgt : Int)) (kt : (x = y) → V X B own cc G nc ns nx sh I P tgt ls st) (kf : (¬ x = y) → V X B own cc G nc ns nx sh I P (pc + 3) ls st) : V X B own cc G nc ns nx sh I P pc ls (.int y :: .int x :: st) := by
  obtain ⟨p, e, R, s, m, args, below, meth, c, Q⟩ := G
  intro C H locs la hR hL hl
  exact lv_icmp_eq C.1 C.2.1 hd ht (fun h => kt h C H locs la hR hL hl) (fun h => kf h C H locs la hR hL hl)
theorem V_if_ne {x : Int32} {off : Int} {tgt : Nat} (hd : decode cc pc = .ok (.ifCond .ne off, 3)) (ht : (pc : Int) + off = (tgt : Int)) (kt : (¬ x = 0) → V X B own cc G nc ns nx sh I P tgt ls st) (kf : (x = 0) → V X B own cc G nc ns nx sh I P (pc + 3) ls st) : V X B own cc G nc ns nx sh I P pc ls (.int x :: st) := by
  obtain ⟨p, e, R, s, m, args, below, meth, c, Q⟩ := G
  intro C H locs la hR hL hl
  exact lv_if_ne C.1 C.2.1 hd ht (fun h => kt h C H locs la hR hL hl) (fun h => kf h C H locs la hR hL hl)
theorem V_icmp_ne {x y : Int32} {off : Int} {tgt : Nat} (hd : decode cc pc = .ok (.if_icmp .ne off, 3)) (ht : (pc : Int) + off = (tgt : Int)) (kt : (¬ x = y) → V X B own cc G nc ns nx sh I P tgt ls st) (kf : (x = y) → V X B own cc G nc ns nx sh I P (pc + 3) ls st) : V X B own cc G nc ns nx sh I P pc ls (.int y :: .int x :: st) := by
  obtain ⟨p, e, R, s, m, args, below, meth, c, Q⟩ := G
  intro C H locs la hR hL hl
  exact lv_icmp_ne C.1 C.2.1 hd ht (fun h => kt h C H locs la hR hL hl) (fun h => kf h C H locs la hR hL hl)
theorem V_if_lt {x : Int32} {off : Int} {tgt : Nat} (hd : decode cc pc = .ok (.ifCond .lt off, 3)) (ht : (pc : Int) + off = (tgt : Int)) (kt : (x < 0) → V X B own cc G nc ns nx sh I P tgt ls st) (kf : (¬ x < 0) → V X B own cc G nc ns nx sh I P (pc + 3) ls st) : V X B own cc G nc ns nx sh I P pc ls (.int x :: st) := by
  obtain ⟨p, e, R, s, m, args, below, meth, c, Q⟩ := G
  intro C H locs la hR hL hl
  exact lv_if_lt C.1 C.2.1 hd ht (fun h => kt h C H locs la hR hL hl) (fun h => kf h C H locs la hR hL hl)
theorem V_icmp_lt {x y : Int32} {off : Int} {tgt : Nat} (hd : decode cc pc = .ok (.if_icmp .lt off, 3)) (ht : (pc : Int) + off = (tgt : Int)) (kt : (x < y) → V X B own cc G nc ns nx sh I P tgt ls st) (kf : (¬ x < y) → V X B own cc G nc ns nx sh I P (pc + 3) ls st) : V X B own cc G nc ns nx sh I P pc ls (.int y :: .int x :: st) := by
  obtain ⟨p, e, R, s, m, args, below, meth, c, Q⟩ := G
  intro C H locs la hR hL hl
  exact lv_icmp_lt C.1 C.2.1 hd ht (fun h => kt h C H locs la hR hL hl) (fun h => kf h C H locs la hR hL hl)
theorem V_if_ge {x : Int32} {off : Int} {tgt : Nat} (hd : decode cc pc = .ok (.ifCond .ge off, 3)) (ht : (pc : Int) + off = (tgt : Int)) (kt : (0 ≤ x) → V X B own cc G nc ns nx sh I P tgt ls st) (kf : (¬ 0 ≤ x) → V X B own cc G nc ns nx sh I P (pc + 3) ls st) : V X B own cc G nc ns nx sh I P pc ls (.int x :: st) := by
  obtain ⟨p, e, R, s, m, args, below, meth, c, Q⟩ := G
  intro C H locs la hR hL hl
  exact lv_if_ge C.1 C.2.1 hd ht (fun h => kt h C H locs la hR hL hl) (fun h => kf h C H locs la hR hL hl)
theorem V_icmp_ge {x y : Int32} {off : Int} {tgt : Nat} (hd : decode cc pc = .ok (.if_icmp .ge off, 3)) (ht : (pc : Int) + off = (tgt : Int)) (kt : (y ≤ x) → V X B own cc G nc ns nx sh I P tgt ls st) (kf : (¬ y ≤ x) → V X B own cc G nc ns nx sh I P (pc + 3) ls st) : V X B own cc G nc ns nx sh I P pc ls (.int y :: .int x :: st) := by
  obtain ⟨p, e, R, s, m, args, below, meth, c, Q⟩ := G
  intro C H locs la hR hL hl
  exact lv_icmp_ge C.1 C.2.1 hd ht (fun h => kt h C H locs la hR hL hl) (fun h => kf h C H locs la hR hL hl)
theorem V_if_gt {x : Int32} {off : Int} {tgt : Nat} (hd : decode cc pc = .ok (.ifCond .gt off, 3)) (ht : (pc : Int) + off = (tgt : Int)) (kt : (0 < x) → V X B own cc G nc ns nx sh I P tgt ls st) (kf : (¬ 0 < x) → V X B own cc G nc ns nx sh I P (pc + 3) ls st) : V X B own cc G nc ns nx sh I P pc ls (.int x :: st) := by
  obtain ⟨p, e, R, s, m, args, below, meth, c, Q⟩ := G
  intro C H locs la hR hL hl
  exact lv_if_gt C.1 C.2.1 hd ht (fun h => kt h C H locs la hR hL hl) (fun h => kf h C H locs la hR hL hl)
theorem V_icmp_gt {x y : Int32} {off : Int} {tgt : Nat} (hd : decode cc pc = .ok (.if_icmp .gt off, 3)) (ht : (pc : Int) + off = (tgt : Int)) (kt : (y < x) → V X B own cc G nc ns nx sh I P tgt ls st) (kf : (¬ y < x) → V X B own cc G nc ns nx sh I P (pc + 3) ls st) : V X B own cc G nc ns nx sh I P pc ls (.int y :: .int x :: st) := by
  obtain ⟨p, e, R, s, m, args, below, meth, c, Q⟩ := G
  intro C H locs la hR hL hl
  exact lv_icmp_gt C.1 C.2.1 hd ht (fun h => kt h C H locs la hR hL hl) (fun h => kf h C H locs la hR hL hl)
theorem V_if_le {x : Int32} {off : Int} {tgt : Nat} (hd : decode cc pc = .ok (.ifCond .le off, 3)) (ht : (pc : Int) + off = (tgt : Int)) (kt : (x ≤ 0) → V X B own cc G nc ns nx sh I P tgt ls st) (kf : (¬ x ≤ 0) → V X B own cc G nc ns nx sh I P (pc + 3) ls st) : V X B own cc G nc ns nx sh I P pc ls (.int x :: st) := by
  obtain ⟨p, e, R, s, m, args, below, meth, c, Q⟩ := G
  intro C H locs la hR hL hl
  exact lv_if_le C.1 C.2.1 hd ht (fun h => kt h C H locs la hR hL hl) (fun h => kf h C H locs la hR hL hl)
theorem V_icmp_le {x y : Int32} {off : Int} {tgt : Nat} (hd : decode cc pc = .ok (.if_icmp .le off, 3)) (ht : (pc : Int) + off = (tgt : Int)) (kt : (x ≤ y) → V X B own cc G nc ns nx sh I P tgt ls st) (kf : (¬ x ≤ y) → V X B own cc G nc ns nx sh I P (pc + 3) ls st) : V X B own cc G nc ns nx sh I P pc ls (.int y :: .int x :: st) := by
  obtain ⟨p, e, R, s, m, args, below, meth, c, Q⟩ := G
  intro C H locs la hR hL hl
  exact lv_icmp_le C.1 C.2.1 hd ht (fun h => kt h C H locs la hR hL hl) (fun h => kf h C H locs la hR hL hl)
theorem V_goto {off : Int} {tgt : Nat} (hd : decode cc pc = .ok (.goto off, 3)) (ht : (pc : Int) + off = (tgt : Int)) (k : V X B own cc G nc ns nx sh I P tgt ls st) : V X B own cc G nc ns nx sh I P pc ls st := by
  obtain ⟨p, e, R, s, m, args, below, meth, c, Q⟩ := G
  intro C H locs la hR hL hl
  exact lv_goto C.1 C.2.1 hd ht (k C H locs la hR hL hl)
theorem V_ifnull {a : Nat} {off : Int} (hd : decode cc pc = .ok (.ifnull off, 3)) (k : V X B own cc G nc ns nx sh I P (pc + 3) ls st) : V X B own cc G nc ns nx sh I P pc ls (.ref a :: st) := by
  obtain ⟨p, e, R, s, m, args, below, meth, c, Q⟩ := G
  intro C H locs la hR hL hl
  exact lv_ifnull C.1 C.2.1 hd (k C H locs la hR hL hl)
theorem V_ifnonnull {a : Nat} {off : Int} {tgt : Nat} (hd : decode cc pc = .ok (.ifnonnull off, 3)) (ht : (pc : Int) + off = (tgt : Int)) (k : V X B own cc G nc ns nx sh I P tgt ls st) : V X B own cc G nc ns nx sh I P pc ls (.ref a :: st) := by
  obtain ⟨p, e, R, s, m, args, below, meth, c, Q⟩ := G
  intro C H locs la hR hL hl
  exact lv_ifnonnull C.1 C.2.1 hd ht (k C H locs la hR hL hl)
theorem V_ifnullN {off : Int} {tgt : Nat} (hd : decode cc pc = .ok (.ifnull off, 3)) (ht : (pc : Int) + off = (tgt : Int)) (k : V X B own cc G nc ns nx sh I P tgt ls st) : V X B own cc G nc ns nx sh I P pc ls (.null :: st) := by
  obtain ⟨p, e, R, s, m, args, below, meth, c, Q⟩ := G
  intro C H locs la hR hL hl
  exact lv_ifnullN C.1 C.2.1 hd ht (k C H locs la hR hL hl)
theorem V_ifnonnullN {off : Int} (hd : decode cc pc = .ok (.ifnonnull off, 3)) (k : V X B own cc G nc ns nx sh I P (pc + 3) ls st) : V X B own cc G nc ns nx sh I P pc ls (.null :: st) := by
  obtain ⟨p, e, R, s, m, args, below, meth, c, Q⟩ := G
  intro C H locs la hR hL hl
  exact lv_ifnonnullN C.1 C.2.1 hd (k C H locs la hR hL hl)
theorem V_tableOut {dflt lo hi : Int} {offs : Array Int} {len : Nat} {x : Int32} {tgt : Nat} (hd : decode cc pc = .ok (.tableswitch dflt lo hi offs, len)) (h : x.toInt < lo ∨ hi < x.toInt) (ht : (pc : Int) + dflt = (tgt : Int)) (k : V X B own cc G nc ns nx sh I P tgt ls st) : V X B own cc G nc ns nx sh I P pc ls (.int x :: st) := by
  obtain ⟨p, e, R, s, m, args, below, meth, c, Q⟩ := G
  intro C H locs la hR hL hl
  exact lv_tableOut C.1 C.2.1 hd h ht (k C H locs la hR hL hl)
theorem V_tableIn {dflt lo hi : Int} {offs : Array Int} {len : Nat} {x : Int32} {off : Int} {tgt : Nat} (hd : decode cc pc = .ok (.tableswitch dflt lo hi offs, len)) (h1 : ¬ x.toInt < lo) (h2 : ¬ hi < x.toInt) (ho : offs[(x.toInt - lo).toNat]? = some off) (ht : (pc : Int) + off = (tgt : Int)) (k : V X B own cc G nc ns nx sh I P tgt ls st) : V X B own cc G nc ns nx sh I P pc ls (.int x :: st) := by
  obtain ⟨p, e, R, s, m, args, below, meth, c, Q⟩ := G
  intro C H locs la hR hL hl
  exact lv_tableIn C.1 C.2.1 hd h1 h2 ho ht (k C H locs la hR hL hl)
theorem V_lookup {dflt : Int} {ps : Array (Int × Int)} {len : Nat} {x : Int32} {off : Int} {tgt : Nat} (hd : decode cc pc = .ok (.lookupswitch dflt ps, len)) (hp : (ps.toList.zip (ps.toList.drop 1)).all (fun (a, next) => a.1 < next.1) = true) (ho : Op.lookupswitch.offset ps.toList dflt x.toInt = off) (ht : (pc : Int) + off = (tgt : Int)) (k : V X B own cc G nc ns nx sh I P tgt ls st) : V X B own cc G nc ns nx sh I P pc ls (.int x :: st) := by
  obtain ⟨p, e, R, s, m, args, below, meth, c, Q⟩ := G
  intro C H locs la hR hL hl
  exact lv_lookup C.1 C.2.1 hd hp ho ht (k C H locs la hR hL hl)
theorem V_ldc2 {index : Nat} {v : Int64} (hw : Cond.constantLong own index v ∈ mW) (hd : decode cc pc = .ok (.ldc2_w index, 3)) (k : V X B own cc G nc ns nx sh I P (pc + 3) ls (.long v :: st)) : V X B own cc G nc ns nx sh I P pc ls st := by
  obtain ⟨p, e, R, s, m, args, below, meth, c, Q⟩ := G
  intro C H locs la hR hL hl
  exact lv_ldc2 C.1 C.2.1 C.2.2.1 (C.2.2.2.1 _ hw) hd (k C H locs la hR hL hl)
theorem V_lcmp {x y : Int64} (hd : decode cc pc = .ok (.lcmp, 1)) (k : V X B own cc G nc ns nx sh I P (pc + 1) ls (.int (lg_cmp x y) :: st)) : V X B own cc G nc ns nx sh I P pc ls (.long y :: .long x :: st) := by
  obtain ⟨p, e, R, s, m, args, below, meth, c, Q⟩ := G
  intro C H locs la hR hL hl
  exact W.lcmp C.1 C.2.1 hd (k C H locs la hR hL hl)
theorem V_iln {k : Fin 4} {x : Int32} (hd : decode cc pc = .ok (.iload_n k, 1)) (hi : ls[(k : Nat)]? = some (some (.int x))) (kk : V X B own cc G nc ns nx sh I P (pc + 1) ls (.int x :: st)) : V X B own cc G nc ns nx sh I P pc ls st := by
  obtain ⟨p, e, R, s, m, args, below, meth, c, Q⟩ := G
  intro C H locs la hR hL hl
  exact lv_iload_n C.1 C.2.1 hd rfl (hl.at hi) (kk C H locs la hR hL hl)
theorem V_il {i : Nat} {x : Int32} (hd : decode cc pc = .ok (.iload i, 2)) (hi : ls[i]? = some (some (.int x))) (kk : V X B own cc G nc ns nx sh I P (pc + 2) ls (.int x :: st)) : V X B own cc G nc ns nx sh I P pc ls st := by
  obtain ⟨p, e, R, s, m, args, below, meth, c, Q⟩ := G
  intro C H locs la hR hL hl
  exact lv_iload C.1 C.2.1 hd (hl.at hi) (kk C H locs la hR hL hl)
theorem V_aln {k : Fin 4} {a : Nat} (hd : decode cc pc = .ok (.aload_n k, 1)) (hi : ls[(k : Nat)]? = some (some (.ref a))) (kk : V X B own cc G nc ns nx sh I P (pc + 1) ls (.ref a :: st)) : V X B own cc G nc ns nx sh I P pc ls st := by
  obtain ⟨p, e, R, s, m, args, below, meth, c, Q⟩ := G
  intro C H locs la hR hL hl
  exact lv_aload_n C.1 C.2.1 hd rfl (hl.at hi) (kk C H locs la hR hL hl)
theorem V_al {i a : Nat} (hd : decode cc pc = .ok (.aload i, 2)) (hi : ls[i]? = some (some (.ref a))) (kk : V X B own cc G nc ns nx sh I P (pc + 2) ls (.ref a :: st)) : V X B own cc G nc ns nx sh I P pc ls st := by
  obtain ⟨p, e, R, s, m, args, below, meth, c, Q⟩ := G
  intro C H locs la hR hL hl
  exact lv_aload C.1 C.2.1 hd (hl.at hi) (kk C H locs la hR hL hl)
theorem V_alnN {k : Fin 4} (hd : decode cc pc = .ok (.aload_n k, 1)) (hi : ls[(k : Nat)]? = some (some .null)) (kk : V X B own cc G nc ns nx sh I P (pc + 1) ls (.null :: st)) : V X B own cc G nc ns nx sh I P pc ls st := by
  obtain ⟨p, e, R, s, m, args, below, meth, c, Q⟩ := G
  intro C H locs la hR hL hl
  exact lv_aload_nN C.1 C.2.1 hd rfl (hl.at hi) (kk C H locs la hR hL hl)
theorem V_alN {i : Nat} (hd : decode cc pc = .ok (.aload i, 2)) (hi : ls[i]? = some (some .null)) (kk : V X B own cc G nc ns nx sh I P (pc + 2) ls (.null :: st)) : V X B own cc G nc ns nx sh I P pc ls st := by
  obtain ⟨p, e, R, s, m, args, below, meth, c, Q⟩ := G
  intro C H locs la hR hL hl
  exact lv_aloadN C.1 C.2.1 hd (hl.at hi) (kk C H locs la hR hL hl)
/-- a store, whatever the instruction: its effect on the machine's locals -/
theorem V_stI {i ln : Nat} {x : Int32} (hd : (∃ k : Fin 4, (k : Nat) = i ∧ ln = 1 ∧ decode cc pc = .ok (.istore_n k, 1)) ∨ (ln = 2 ∧ decode cc pc = .ok (.istore i, 2))) (hi : i < ls.length) (kk : V X B own cc G nc ns nx sh I P (pc + ln) (ls.set i (some (.int x))) st) : V X B own cc G nc ns nx sh I P pc ls (.int x :: st) := by
  obtain ⟨p, e, R, s, m, args, below, meth, c, Q⟩ := G
  intro C H locs la hR hL hl T hT Xx
  obtain ⟨la', e', h'⟩ := hl.store (v := .int x) hi rfl
  obtain ⟨t, a, b⟩ := kk C H locs la' hR hL h' T hT Xx
  obtain ⟨hexec, hb, -⟩ := C
  refine ⟨t, ?_, b⟩
  rcases hd with ⟨k, hk, rfl, hdg⟩ | ⟨rfl, hdg⟩
  · subst hk
    jvm_step Xx.here [Xx.here.top, ↓top_set Xx.here.top, hexec, hb, hdg, e']
    exact a
  · jvm_step Xx.here [Xx.here.top, ↓top_set Xx.here.top, hexec, hb, hdg, e']
    exact a
theorem V_stA {i ln : Nat} {v : Value} (hv : v = .null ∨ ∃ a, v = .ref a) (hd : (∃ k : Fin 4, (k : Nat) = i ∧ ln = 1 ∧ decode cc pc = .ok (.astore_n k, 1)) ∨ (ln = 2 ∧ decode cc pc = .ok (.astore i, 2))) (hi : i < ls.length) (kk : V X B own cc G nc ns nx sh I P (pc + ln) (ls.set i (some v)) st) : V X B own cc G nc ns nx sh I P pc ls (v :: st) := by
  obtain ⟨p, e, R, s, m, args, below, meth, c, Q⟩ := G
  intro C H locs la hR hL hl T hT Xx
  have hcat : v.category = 1 := by rcases hv with rfl | ⟨a, rfl⟩ <;> rfl
  obtain ⟨la', e', h'⟩ := hl.store (v := v) hi hcat
  obtain ⟨t, a, b⟩ := kk C H locs la' hR hL h' T hT Xx
  obtain ⟨hexec, hb, -⟩ := C
  refine ⟨t, ?_, b⟩
  rcases hd with ⟨k, hk, rfl, hdg⟩ | ⟨rfl, hdg⟩
  · subst hk
    rcases hv with rfl | ⟨q, rfl⟩
    · jvm_step Xx.here [Xx.here.top, ↓top_set Xx.here.top, hexec, hb, hdg, e', Value.isRef]
      exact a
    · jvm_step Xx.here [Xx.here.top, ↓top_set Xx.here.top, hexec, hb, hdg, e', Value.isRef]
      exact a
  · rcases hv with rfl | ⟨q, rfl⟩
    · jvm_step Xx.here [Xx.here.top, ↓top_set Xx.here.top, hexec, hb, hdg, e', Value.isRef]
      exact a
    · jvm_step Xx.here [Xx.here.top, ↓top_set Xx.here.top, hexec, hb, hdg, e', Value.isRef]
      exact a
theorem V_incG {i : Nat} {n : Int} {x : Int32} (hd : decode cc pc = .ok (.iinc i n, 3)) (hi : ls[i]? = some (some (.int x))) (kk : V X B own cc G nc ns nx sh I P (pc + 3) (ls.set i (some (.int (x + Int32.ofInt n)))) st) : V X B own cc G nc ns nx sh I P pc ls st := by
  obtain ⟨p, e, R, s, m, args, below, meth, c, Q⟩ := G
  intro C H locs la hR hL hl T hT Xx
  have hg := hl.at hi
  obtain ⟨la', e', h'⟩ := hl.store (v := .int (x + Int32.ofInt n)) ((List.getElem?_eq_some_iff.mp hi).1) rfl
  obtain ⟨t, a, b⟩ := kk C H locs la' hR hL h' T hT Xx
  obtain ⟨hexec, hb, -⟩ := C
  refine ⟨t, ?_, b⟩
  jvm_step Xx.here [Xx.here.top, ↓top_set Xx.here.top, hexec, hb, hd, hg, e']
  exact a
theorem V_is0 {z : Option Value} {r : List (Option Value)} {x : Int32} (hd : decode cc pc = .ok (.istore_n 0, 1)) (kk : V X B own cc G nc ns nx sh I P (pc + 1) (some (.int x) :: r) st) : V X B own cc G nc ns nx sh I P pc (z :: r) (.int x :: st) := V_stI (i := 0) (Or.inl ⟨0, rfl, rfl, hd⟩) (by simp) kk
theorem V_as0 {z : Option Value} {r : List (Option Value)} {a : Nat} (hd : decode cc pc = .ok (.astore_n 0, 1)) (kk : V X B own cc G nc ns nx sh I P (pc + 1) (some (.ref a) :: r) st) : V X B own cc G nc ns nx sh I P pc (z :: r) (.ref a :: st) := V_stA (i := 0) (Or.inr ⟨a, rfl⟩) (Or.inl ⟨0, rfl, rfl, hd⟩) (by simp) kk
theorem V_an0 {z : Option Value} {r : List (Option Value)} (hd : decode cc pc = .ok (.astore_n 0, 1)) (kk : V X B own cc G nc ns nx sh I P (pc + 1) (some .null :: r) st) : V X B own cc G nc ns nx sh I P pc (z :: r) (.null :: st) := V_stA (i := 0) (Or.inl rfl) (Or.inl ⟨0, rfl, rfl, hd⟩) (by simp) kk
theorem V_inc0 {r : List (Option Value)} {x : Int32} {n : Int} (hd : decode cc pc = .ok (.iinc 0 n, 3)) (kk : V X B own cc G nc ns nx sh I P (pc + 3) (some (.int (x + Int32.ofInt n)) :: r) st) : V X B own cc G nc ns nx sh I P pc (some (.int x) :: r) st := V_incG (i := 0) hd (by simp) kk
theorem V_is1 {o0 : Option Value} {z : Option Value} {r : List (Option Value)} {x : Int32} (hd : decode cc pc = .ok (.istore_n 1, 1)) (kk : V X B own cc G nc ns nx sh I P (pc + 1) (o0 :: some (.int x) :: r) st) : V X B own cc G nc ns nx sh I P pc (o0 :: z :: r) (.int x :: st) := V_stI (i := 1) (Or.inl ⟨1, rfl, rfl, hd⟩) (by simp) kk
theorem V_as1 {o0 : Option Value} {z : Option Value} {r : List (Option Value)} {a : Nat} (hd : decode cc pc = .ok (.astore_n 1, 1)) (kk : V X B own cc G nc ns nx sh I P (pc + 1) (o0 :: some (.ref a) :: r) st) : V X B own cc G nc ns nx sh I P pc (o0 :: z :: r) (.ref a :: st) := V_stA (i := 1) (Or.inr ⟨a, rfl⟩) (Or.inl ⟨1, rfl, rfl, hd⟩) (by simp) kk
theorem V_an1 {o0 : Option Value} {z : Option Value} {r : List (Option Value)} (hd : decode cc pc = .ok (.astore_n 1, 1)) (kk : V X B own cc G nc ns nx sh I P (pc + 1) (o0 :: some .null :: r) st) : V X B own cc G nc ns nx sh I P pc (o0 :: z :: r) (.null :: st) := V_stA (i := 1) (Or.inl rfl) (Or.inl ⟨1, rfl, rfl, hd⟩) (by simp) kk
theorem V_inc1 {o0 : Option Value} {r : List (Option Value)} {x : Int32} {n : Int} (hd : decode cc pc = .ok (.iinc 1 n, 3)) (kk : V X B own cc G nc ns nx sh I P (pc + 3) (o0 :: some (.int (x + Int32.ofInt n)) :: r) st) : V X B own cc G nc ns nx sh I P pc (o0 :: some (.int x) :: r) st := V_incG (i := 1) hd (by simp) kk
theorem V_is2 {o0 o1 : Option Value} {z : Option Value} {r : List (Option Value)} {x : Int32} (hd : decode cc pc = .ok (.istore_n 2, 1)) (kk : V X B own cc G nc ns nx sh I P (pc + 1) (o0 :: o1 :: some (.int x) :: r) st) : V X B own cc G nc ns nx sh I P pc (o0 :: o1 :: z :: r) (.int x :: st) := V_stI (i := 2) (Or.inl ⟨2, rfl, rfl, hd⟩) (by simp) kk
theorem V_as2 {o0 o1 : Option Value} {z : Option Value} {r : List (Option Value)} {a : Nat} (hd : decode cc pc = .ok (.astore_n 2, 1)) (kk : V X B own cc G nc ns nx sh I P (pc + 1) (o0 :: o1 :: some (.ref a) :: r) st) : V X B own cc G nc ns nx sh I P pc (o0 :: o1 :: z :: r) (.ref a :: st) := V_stA (i := 2) (Or.inr ⟨a, rfl⟩) (Or.inl ⟨2, rfl, rfl, hd⟩) (by simp) kk
theorem V_an2 {o0 o1 : Option Value} {z : Option Value} {r : List (Option Value)} (hd : decode cc pc = .ok (.astore_n 2, 1)) (kk : V X B own cc G nc ns nx sh I P (pc + 1) (o0 :: o1 :: some .null :: r) st) : V X B own cc G nc ns nx sh I P pc (o0 :: o1 :: z :: r) (.null :: st) := V_stA (i := 2) (Or.inl rfl) (Or.inl ⟨2, rfl, rfl, hd⟩) (by simp) kk
theorem V_inc2 {o0 o1 : Option Value} {r : List (Option Value)} {x : Int32} {n : Int} (hd : decode cc pc = .ok (.iinc 2 n, 3)) (kk : V X B own cc G nc ns nx sh I P (pc + 3) (o0 :: o1 :: some (.int (x + Int32.ofInt n)) :: r) st) : V X B own cc G nc ns nx sh I P pc (o0 :: o1 :: some (.int x) :: r) st := V_incG (i := 2) hd (by simp) kk
theorem V_is3 {o0 o1 o2 : Option Value} {z : Option Value} {r : List (Option Value)} {x : Int32} (hd : decode cc pc = .ok (.istore_n 3, 1)) (kk : V X B own cc G nc ns nx sh I P (pc + 1) (o0 :: o1 :: o2 :: some (.int x) :: r) st) : V X B own cc G nc ns nx sh I P pc (o0 :: o1 :: o2 :: z :: r) (.int x :: st) := V_stI (i := 3) (Or.inl ⟨3, rfl, rfl, hd⟩) (by simp) kk
theorem V_as3 {o0 o1 o2 : Option Value} {z : Option Value} {r : List (Option Value)} {a : Nat} (hd : decode cc pc = .ok (.astore_n 3, 1)) (kk : V X B own cc G nc ns nx sh I P (pc + 1) (o0 :: o1 :: o2 :: some (.ref a) :: r) st) : V X B own cc G nc ns nx sh I P pc (o0 :: o1 :: o2 :: z :: r) (.ref a :: st) := V_stA (i := 3) (Or.inr ⟨a, rfl⟩) (Or.inl ⟨3, rfl, rfl, hd⟩) (by simp) kk
theorem V_an3 {o0 o1 o2 : Option Value} {z : Option Value} {r : List (Option Value)} (hd : decode cc pc = .ok (.astore_n 3, 1)) (kk : V X B own cc G nc ns nx sh I P (pc + 1) (o0 :: o1 :: o2 :: some .null :: r) st) : V X B own cc G nc ns nx sh I P pc (o0 :: o1 :: o2 :: z :: r) (.null :: st) := V_stA (i := 3) (Or.inl rfl) (Or.inl ⟨3, rfl, rfl, hd⟩) (by simp) kk
theorem V_inc3 {o0 o1 o2 : Option Value} {r : List (Option Value)} {x : Int32} {n : Int} (hd : decode cc pc = .ok (.iinc 3 n, 3)) (kk : V X B own cc G nc ns nx sh I P (pc + 3) (o0 :: o1 :: o2 :: some (.int (x + Int32.ofInt n)) :: r) st) : V X B own cc G nc ns nx sh I P pc (o0 :: o1 :: o2 :: some (.int x) :: r) st := V_incG (i := 3) hd (by simp) kk
theorem V_is4 {o0 o1 o2 o3 : Option Value} {z : Option Value} {r : List (Option Value)} {x : Int32} (hd : decode cc pc = .ok (.istore 4, 2)) (kk : V X B own cc G nc ns nx sh I P (pc + 2) (o0 :: o1 :: o2 :: o3 :: some (.int x) :: r) st) : V X B own cc G nc ns nx sh I P pc (o0 :: o1 :: o2 :: o3 :: z :: r) (.int x :: st) := V_stI (i := 4) (Or.inr ⟨rfl, hd⟩) (by simp) kk
theorem V_as4 {o0 o1 o2 o3 : Option Value} {z : Option Value} {r : List (Option Value)} {a : Nat} (hd : decode cc pc = .ok (.astore 4, 2)) (kk : V X B own cc G nc ns nx sh I P (pc + 2) (o0 :: o1 :: o2 :: o3 :: some (.ref a) :: r) st) : V X B own cc G nc ns nx sh I P pc (o0 :: o1 :: o2 :: o3 :: z :: r) (.ref a :: st) := V_stA (i := 4) (Or.inr ⟨a, rfl⟩) (Or.inr ⟨rfl, hd⟩) (by simp) kk
theorem V_an4 {o0 o1 o2 o3 : Option Value} {z : Option Value} {r : List (Option Value)} (hd : decode cc pc = .ok (.astore 4, 2)) (kk : V X B own cc G nc ns nx sh I P (pc + 2) (o0 :: o1 :: o2 :: o3 :: some .null :: r) st) : V X B own cc G nc ns nx sh I P pc (o0 :: o1 :: o2 :: o3 :: z :: r) (.null :: st) := V_stA (i := 4) (Or.inl rfl) (Or.inr ⟨rfl, hd⟩) (by simp) kk
theorem V_inc4 {o0 o1 o2 o3 : Option Value} {r : List (Option Value)} {x : Int32} {n : Int} (hd : decode cc pc = .ok (.iinc 4 n, 3)) (kk : V X B own cc G nc ns nx sh I P (pc + 3) (o0 :: o1 :: o2 :: o3 :: some (.int (x + Int32.ofInt n)) :: r) st) : V X B own cc G nc ns nx sh I P pc (o0 :: o1 :: o2 :: o3 :: some (.int x) :: r) st := V_incG (i := 4) hd (by simp) kk
theorem V_is5 {o0 o1 o2 o3 o4 : Option Value} {z : Option Value} {r : List (Option Value)} {x : Int32} (hd : decode cc pc = .ok (.istore 5, 2)) (kk : V X B own cc G nc ns nx sh I P (pc + 2) (o0 :: o1 :: o2 :: o3 :: o4 :: some (.int x) :: r) st) : V X B own cc G nc ns nx sh I P pc (o0 :: o1 :: o2 :: o3 :: o4 :: z :: r) (.int x :: st) := V_stI (i := 5) (Or.inr ⟨rfl, hd⟩) (by simp) kk
theorem V_as5 {o0 o1 o2 o3 o4 : Option Value} {z : Option Value} {r : List (Option Value)} {a : Nat} (hd : decode cc pc = .ok (.astore 5, 2)) (kk : V X B own cc G nc ns nx sh I P (pc + 2) (o0 :: o1 :: o2 :: o3 :: o4 :: some (.ref a) :: r) st) : V X B own cc G nc ns nx sh I P pc (o0 :: o1 :: o2 :: o3 :: o4 :: z :: r) (.ref a :: st) := V_stA (i := 5) (Or.inr ⟨a, rfl⟩) (Or.inr ⟨rfl, hd⟩) (by simp) kk
theorem V_an5 {o0 o1 o2 o3 o4 : Option Value} {z : Option Value} {r : List (Option Value)} (hd : decode cc pc = .ok (.astore 5, 2)) (kk : V X B own cc G nc ns nx sh I P (pc + 2) (o0 :: o1 :: o2 :: o3 :: o4 :: some .null :: r) st) : V X B own cc G nc ns nx sh I P pc (o0 :: o1 :: o2 :: o3 :: o4 :: z :: r) (.null :: st) := V_stA (i := 5) (Or.inl rfl) (Or.inr ⟨rfl, hd⟩) (by simp) kk
theorem V_inc5 {o0 o1 o2 o3 o4 : Option Value} {r : List (Option Value)} {x : Int32} {n : Int} (hd : decode cc pc = .ok (.iinc 5 n, 3)) (kk : V X B own cc G nc ns nx sh I P (pc + 3) (o0 :: o1 :: o2 :: o3 :: o4 :: some (.int (x + Int32.ofInt n)) :: r) st) : V X B own cc G nc ns nx sh I P pc (o0 :: o1 :: o2 :: o3 :: o4 :: some (.int x) :: r) st := V_incG (i := 5) hd (by simp) kk
theorem V_is6 {o0 o1 o2 o3 o4 o5 : Option Value} {z : Option Value} {r : List (Option Value)} {x : Int32} (hd : decode cc pc = .ok (.istore 6, 2)) (kk : V X B own cc G nc ns nx sh I P (pc + 2) (o0 :: o1 :: o2 :: o3 :: o4 :: o5 :: some (.int x) :: r) st) : V X B own cc G nc ns nx sh I P pc (o0 :: o1 :: o2 :: o3 :: o4 :: o5 :: z :: r) (.int x :: st) := V_stI (i := 6) (Or.inr ⟨rfl, hd⟩) (by simp) kk
theorem V_as6 {o0 o1 o2 o3 o4 o5 : Option Value} {z : Option Value} {r : List (Option Value)} {a : Nat} (hd : decode cc pc = .ok (.astore 6, 2)) (kk : V X B own cc G nc ns nx sh I P (pc + 2) (o0 :: o1 :: o2 :: o3 :: o4 :: o5 :: some (.ref a) :: r) st) : V X B own cc G nc ns nx sh I P pc (o0 :: o1 :: o2 :: o3 :: o4 :: o5 :: z :: r) (.ref a :: st) := V_stA (i := 6) (Or.inr ⟨a, rfl⟩) (Or.inr ⟨rfl, hd⟩) (by simp) kk
theorem V_an6 {o0 o1 o2 o3 o4 o5 : Option Value} {z : Option Value} {r : List (Option Value)} (hd : decode cc pc = .ok (.astore 6, 2)) (kk : V X B own cc G nc ns nx sh I P (pc + 2) (o0 :: o1 :: o2 :: o3 :: o4 :: o5 :: some .null :: r) st) : V X B own cc G nc ns nx sh I P pc (o0 :: o1 :: o2 :: o3 :: o4 :: o5 :: z :: r) (.null :: st) := V_stA (i := 6) (Or.inl rfl) (Or.inr ⟨rfl, hd⟩) (by simp) kk
theorem V_inc6 {o0 o1 o2 o3 o4 o5 : Option Value} {r : List (Option Value)} {x : Int32} {n : Int} (hd : decode cc pc = .ok (.iinc 6 n, 3)) (kk : V X B own cc G nc ns nx sh I P (pc + 3) (o0 :: o1 :: o2 :: o3 :: o4 :: o5 :: some (.int (x + Int32.ofInt n)) :: r) st) : V X B own cc G nc ns nx sh I P pc (o0 :: o1 :: o2 :: o3 :: o4 :: o5 :: some (.int x) :: r) st := V_incG (i := 6) hd (by simp) kk
theorem V_is7 {o0 o1 o2 o3 o4 o5 o6 : Option Value} {z : Option Value} {r : List (Option Value)} {x : Int32} (hd : decode cc pc = .ok (.istore 7, 2)) (kk : V X B own cc G nc ns nx sh I P (pc + 2) (o0 :: o1 :: o2 :: o3 :: o4 :: o5 :: o6 :: some (.int x) :: r) st) : V X B own cc G nc ns nx sh I P pc (o0 :: o1 :: o2 :: o3 :: o4 :: o5 :: o6 :: z :: r) (.int x :: st) := V_stI (i := 7) (Or.inr ⟨rfl, hd⟩) (by simp) kk
theorem V_as7 {o0 o1 o2 o3 o4 o5 o6 : Option Value} {z : Option Value} {r : List (Option Value)} {a : Nat} (hd : decode cc pc = .ok (.astore 7, 2)) (kk : V X B own cc G nc ns nx sh I P (pc + 2) (o0 :: o1 :: o2 :: o3 :: o4 :: o5 :: o6 :: some (.ref a) :: r) st) : V X B own cc G nc ns nx sh I P pc (o0 :: o1 :: o2 :: o3 :: o4 :: o5 :: o6 :: z :: r) (.ref a :: st) := V_stA (i := 7) (Or.inr ⟨a, rfl⟩) (Or.inr ⟨rfl, hd⟩) (by simp) kk
theorem V_an7 {o0 o1 o2 o3 o4 o5 o6 : Option Value} {z : Option Value} {r : List (Option Value)} (hd : decode cc pc = .ok (.astore 7, 2)) (kk : V X B own cc G nc ns nx sh I P (pc + 2) (o0 :: o1 :: o2 :: o3 :: o4 :: o5 :: o6 :: some .null :: r) st) : V X B own cc G nc ns nx sh I P pc (o0 :: o1 :: o2 :: o3 :: o4 :: o5 :: o6 :: z :: r) (.null :: st) := V_stA (i := 7) (Or.inl rfl) (Or.inr ⟨rfl, hd⟩) (by simp) kk
theorem V_inc7 {o0 o1 o2 o3 o4 o5 o6 : Option Value} {r : List (Option Value)} {x : Int32} {n : Int} (hd : decode cc pc = .ok (.iinc 7 n, 3)) (kk : V X B own cc G nc ns nx sh I P (pc + 3) (o0 :: o1 :: o2 :: o3 :: o4 :: o5 :: o6 :: some (.int (x + Int32.ofInt n)) :: r) st) : V X B own cc G nc ns nx sh I P pc (o0 :: o1 :: o2 :: o3 :: o4 :: o5 :: o6 :: some (.int x) :: r) st := V_incG (i := 7) hd (by simp) kk
theorem V_is8 {o0 o1 o2 o3 o4 o5 o6 o7 : Option Value} {z : Option Value} {r : List (Option Value)} {x : Int32} (hd : decode cc pc = .ok (.istore 8, 2)) (kk : V X B own cc G nc ns nx sh I P (pc + 2) (o0 :: o1 :: o2 :: o3 :: o4 :: o5 :: o6 :: o7 :: some (.int x) :: r) st) : V X B own cc G nc ns nx sh I P pc (o0 :: o1 :: o2 :: o3 :: o4 :: o5 :: o6 :: o7 :: z :: r) (.int x :: st) := V_stI (i := 8) (Or.inr ⟨rfl, hd⟩) (by simp) kk
theorem V_as8 {o0 o1 o2 o3 o4 o5 o6 o7 : Option Value} {z : Option Value} {r : List (Option Value)} {a : Nat} (hd : decode cc pc = .ok (.astore 8, 2)) (kk : V X B own cc G nc ns nx sh I P (pc + 2) (o0 :: o1 :: o2 :: o3 :: o4 :: o5 :: o6 :: o7 :: some (.ref a) :: r) st) : V X B own cc G nc ns nx sh I P pc (o0 :: o1 :: o2 :: o3 :: o4 :: o5 :: o6 :: o7 :: z :: r) (.ref a :: st) := V_stA (i := 8) (Or.inr ⟨a, rfl⟩) (Or.inr ⟨rfl, hd⟩) (by simp) kk
theorem V_an8 {o0 o1 o2 o3 o4 o5 o6 o7 : Option Value} {z : Option Value} {r : List (Option Value)} (hd : decode cc pc = .ok (.astore 8, 2)) (kk : V X B own cc G nc ns nx sh I P (pc + 2) (o0 :: o1 :: o2 :: o3 :: o4 :: o5 :: o6 :: o7 :: some .null :: r) st) : V X B own cc G nc ns nx sh I P pc (o0 :: o1 :: o2 :: o3 :: o4 :: o5 :: o6 :: o7 :: z :: r) (.null :: st) := V_stA (i := 8) (Or.inl rfl) (Or.inr ⟨rfl, hd⟩) (by simp) kk
theorem V_inc8 {o0 o1 o2 o3 o4 o5 o6 o7 : Option Value} {r : List (Option Value)} {x : Int32} {n : Int} (hd : decode cc pc = .ok (.iinc 8 n, 3)) (kk : V X B own cc G nc ns nx sh I P (pc + 3) (o0 :: o1 :: o2 :: o3 :: o4 :: o5 :: o6 :: o7 :: some (.int (x + Int32.ofInt n)) :: r) st) : V X B own cc G nc ns nx sh I P pc (o0 :: o1 :: o2 :: o3 :: o4 :: o5 :: o6 :: o7 :: some (.int x) :: r) st := V_incG (i := 8) hd (by simp) kk
theorem V_is9 {o0 o1 o2 o3 o4 o5 o6 o7 o8 : Option Value} {z : Option Value} {r : List (Option Value)} {x : Int32} (hd : decode cc pc = .ok (.istore 9, 2)) (kk : V X B own cc G nc ns nx sh I P (pc + 2) (o0 :: o1 :: o2 :: o3 :: o4 :: o5 :: o6 :: o7 :: o8 :: some (.int x) :: r) st) : V X B own cc G nc ns nx sh I P pc (o0 :: o1 :: o2 :: o3 :: o4 :: o5 :: o6 :: o7 :: o8 :: z :: r) (.int x :: st) := V_stI (i := 9) (Or.inr ⟨rfl, hd⟩) (by simp) kk
theorem V_as9 {o0 o1 o2 o3 o4 o5 o6 o7 o8 : Option Value} {z : Option Value} {r : List (Option Value)} {a : Nat} (hd : decode cc pc = .ok (.astore 9, 2)) (kk : V X B own cc G nc ns nx sh I P (pc + 2) (o0 :: o1 :: o2 :: o3 :: o4 :: o5 :: o6 :: o7 :: o8 :: some (.ref a) :: r) st) : V X B own cc G nc ns nx sh I P pc (o0 :: o1 :: o2 :: o3 :: o4 :: o5 :: o6 :: o7 :: o8 :: z :: r) (.ref a :: st) := V_stA (i := 9) (Or.inr ⟨a, rfl⟩) (Or.inr ⟨rfl, hd⟩) (by simp) kk
theorem V_an9 {o0 o1 o2 o3 o4 o5 o6 o7 o8 : Option Value} {z : Option Value} {r : List (Option Value)} (hd : decode cc pc = .ok (.astore 9, 2)) (kk : V X B own cc G nc ns nx sh I P (pc + 2) (o0 :: o1 :: o2 :: o3 :: o4 :: o5 :: o6 :: o7 :: o8 :: some .null :: r) st) : V X B own cc G nc ns nx sh I P pc (o0 :: o1 :: o2 :: o3 :: o4 :: o5 :: o6 :: o7 :: o8 :: z :: r) (.null :: st) := V_stA (i := 9) (Or.inl rfl) (Or.inr ⟨rfl, hd⟩) (by simp) kk
theorem V_inc9 {o0 o1 o2 o3 o4 o5 o6 o7 o8 : Option Value} {r : List (Option Value)} {x : Int32} {n : Int} (hd : decode cc pc = .ok (.iinc 9 n, 3)) (kk : V X B own cc G nc ns nx sh I P (pc + 3) (o0 :: o1 :: o2 :: o3 :: o4 :: o5 :: o6 :: o7 :: o8 :: some (.int (x + Int32.ofInt n)) :: r) st) : V X B own cc G nc ns nx sh I P pc (o0 :: o1 :: o2 :: o3 :: o4 :: o5 :: o6 :: o7 :: o8 :: some (.int x) :: r) st := V_incG (i := 9) hd (by simp) kk
theorem V_is10 {o0 o1 o2 o3 o4 o5 o6 o7 o8 o9 : Option Value} {z : Option Value} {r : List (Option Value)} {x : Int32} (hd : decode cc pc = .ok (.istore 10, 2)) (kk : V X B own cc G nc ns nx sh I P (pc + 2) (o0 :: o1 :: o2 :: o3 :: o4 :: o5 :: o6 :: o7 :: o8 :: o9 :: some (.int x) :: r) st) : V X B own cc G nc ns nx sh I P pc (o0 :: o1 :: o2 :: o3 :: o4 :: o5 :: o6 :: o7 :: o8 :: o9 :: z :: r) (.int x :: st) := V_stI (i := 10) (Or.inr ⟨rfl, hd⟩) (by simp) kk
theorem V_as10 {o0 o1 o2 o3 o4 o5 o6 o7 o8 o9 : Option Value} {z : Option Value} {r : List (Option Value)} {a : Nat} (hd : decode cc pc = .ok (.astore 10, 2)) (kk : V X B own cc G nc ns nx sh I P (pc + 2) (o0 :: o1 :: o2 :: o3 :: o4 :: o5 :: o6 :: o7 :: o8 :: o9 :: some (.ref a) :: r) st) : V X B own cc G nc ns nx sh I P pc (o0 :: o1 :: o2 :: o3 :: o4 :: o5 :: o6 :: o7 :: o8 :: o9 :: z :: r) (.ref a :: st) := V_stA (i := 10) (Or.inr ⟨a, rfl⟩) (Or.inr ⟨rfl, hd⟩) (by simp) kk
theorem V_an10 {o0 o1 o2 o3 o4 o5 o6 o7 o8 o9 : Option Value} {z : Option Value} {r : List (Option Value)} (hd : decode cc pc = .ok (.astore 10, 2)) (kk : V X B own cc G nc ns nx sh I P (pc + 2) (o0 :: o1 :: o2 :: o3 :: o4 :: o5 :: o6 :: o7 :: o8 :: o9 :: some .null :: r) st) : V X B own cc G nc ns nx sh I P pc (o0 :: o1 :: o2 :: o3 :: o4 :: o5 :: o6 :: o7 :: o8 :: o9 :: z :: r) (.null :: st) := V_stA (i := 10) (Or.inl rfl) (Or.inr ⟨rfl, hd⟩) (by simp) kk
theorem V_inc10 {o0 o1 o2 o3 o4 o5 o6 o7 o8 o9 : Option Value} {r : List (Option Value)} {x : Int32} {n : Int} (hd : decode cc pc = .ok (.iinc 10 n, 3)) (kk : V X B own cc G nc ns nx sh I P (pc + 3) (o0 :: o1 :: o2 :: o3 :: o4 :: o5 :: o6 :: o7 :: o8 :: o9 :: some (.int (x + Int32.ofInt n)) :: r) st) : V X B own cc G nc ns nx sh I P pc (o0 :: o1 :: o2 :: o3 :: o4 :: o5 :: o6 :: o7 :: o8 :: o9 :: some (.int x) :: r) st := V_incG (i := 10) hd (by simp) kk
theorem V_is11 {o0 o1 o2 o3 o4 o5 o6 o7 o8 o9 o10 : Option Value} {z : Option Value} {r : List (Option Value)} {x : Int32} (hd : decode cc pc = .ok (.istore 11, 2)) (kk : V X B own cc G nc ns nx sh I P (pc + 2) (o0 :: o1 :: o2 :: o3 :: o4 :: o5 :: o6 :: o7 :: o8 :: o9 :: o10 :: some (.int x) :: r) st) : V X B own cc G nc ns nx sh I P pc (o0 :: o1 :: o2 :: o3 :: o4 :: o5 :: o6 :: o7 :: o8 :: o9 :: o10 :: z :: r) (.int x :: st) := V_stI (i := 11) (Or.inr ⟨rfl, hd⟩) (by simp) kk
theorem V_as11 {o0 o1 o2 o3 o4 o5 o6 o7 o8 o9 o10 : Option Value} {z : Option Value} {r : List (Option Value)} {a : Nat} (hd : decode cc pc = .ok (.astore 11, 2)) (kk : V X B own cc G nc ns nx sh I P (pc + 2) (o0 :: o1 :: o2 :: o3 :: o4 :: o5 :: o6 :: o7 :: o8 :: o9 :: o10 :: some (.ref a) :: r) st) : V X B own cc G nc ns nx sh I P pc (o0 :: o1 :: o2 :: o3 :: o4 :: o5 :: o6 :: o7 :: o8 :: o9 :: o10 :: z :: r) (.ref a :: st) := V_stA (i := 11) (Or.inr ⟨a, rfl⟩) (Or.inr ⟨rfl, hd⟩) (by simp) kk
theorem V_an11 {o0 o1 o2 o3 o4 o5 o6 o7 o8 o9 o10 : Option Value} {z : Option Value} {r : List (Option Value)} (hd : decode cc pc = .ok (.astore 11, 2)) (kk : V X B own cc G nc ns nx sh I P (pc + 2) (o0 :: o1 :: o2 :: o3 :: o4 :: o5 :: o6 :: o7 :: o8 :: o9 :: o10 :: some .null :: r) st) : V X B own cc G nc ns nx sh I P pc (o0 :: o1 :: o2 :: o3 :: o4 :: o5 :: o6 :: o7 :: o8 :: o9 :: o10 :: z :: r) (.null :: st) := V_stA (i := 11) (Or.inl rfl) (Or.inr ⟨rfl, hd⟩) (by simp) kk
theorem V_inc11 {o0 o1 o2 o3 o4 o5 o6 o7 o8 o9 o10 : Option Value} {r : List (Option Value)} {x : Int32} {n : Int} (hd : decode cc pc = .ok (.iinc 11 n, 3)) (kk : V X B own cc G nc ns nx sh I P (pc + 3) (o0 :: o1 :: o2 :: o3 :: o4 :: o5 :: o6 :: o7 :: o8 :: o9 :: o10 :: some (.int (x + Int32.ofInt n)) :: r) st) : V X B own cc G nc ns nx sh I P pc (o0 :: o1 :: o2 :: o3 :: o4 :: o5 :: o6 :: o7 :: o8 :: o9 :: o10 :: some (.int x) :: r) st := V_incG (i := 11) hd (by simp) kk
end VR
end
section
/-! ===== rows of V that touch the memory ===== -/
abbrev mDf : vw_C := (RX0, TX0, 0)
def mDesc (ci k : Nat) : String := ((vwCl.getD ci mDf).2.1 k).2.2.1
def mFin (ci k : Nat) : Bool := ((vwCl.getD ci mDf).2.1 k).2.2.2
def mNf (ci : Nat) : Nat := (vwCl.getD ci mDf).2.2
def mFc (ci k : Nat) : String := ((vwCl.getD ci mDf).2.1 k).1
def mFn (ci k : Nat) : String := ((vwCl.getD ci mDf).2.1 k).2.1
def mCn (ci : Nat) : String := (vwCl.getD ci mDf).1
/-- pool entry idx of own is field k of class ci -/
def mFl (own : String) (idx ci k : Nat) : Prop := k < mNf ci ∧ ci < 13 ∧ (Cond.fieldLink own idx (mFc ci k) (mFn ci k) (mDesc ci k) ∈ mW ∨ ∃ host, Cond.fieldLinkNest own idx (mFc ci k) (mFn ci k) (mDesc ci k) host ∈ mN)
theorem mCl_at {ci : Nat} (h : ci < 13) : vwCl[ci]? = some (vwCl.getD ci mDf) := by
  rcases (show ci = 0 ∨ ci = 1 ∨ ci = 2 ∨ ci = 3 ∨ ci = 4 ∨ ci = 5 ∨ ci = 6 ∨ ci = 7 ∨ ci = 8 ∨ ci = 9 ∨ ci = 10 ∨ ci = 11 ∨ ci = 12 by omega) with rfl | rfl | rfl | rfl | rfl | rfl | rfl | rfl | rfl | rfl | rfl | rfl | rfl <;> rfl
theorem mIn0 : ∀ w ∈ u_ws RX0 TX0 6, w ∈ mW := by
  have h : u_ws RX0 TX0 6 = ([75, 77, 79, 81, 83, 85] : List Nat).filterMap (fun i => tables_1[i]?) := by decide +kernel
  have g : (u_ws RX0 TX0 6).all goodWord = true := by decide +kernel
  intro w hw
  have g1 := List.all_eq_true.mp g w hw
  rw [h] at hw
  obtain ⟨i, -, hi⟩ := List.mem_filterMap.mp hw
  exact mW_at i hi g1
theorem mIn1 : ∀ w ∈ u_ws RX1 TX1 3, w ∈ mW := by
  have h : u_ws RX1 TX1 3 = ([238, 240, 242] : List Nat).filterMap (fun i => tables_1[i]?) := by decide +kernel
  have g : (u_ws RX1 TX1 3).all goodWord = true := by decide +kernel
  intro w hw
  have g1 := List.all_eq_true.mp g w hw
  rw [h] at hw
  obtain ⟨i, -, hi⟩ := List.mem_filterMap.mp hw
  exact mW_at i hi g1
theorem mIn2 : ∀ w ∈ u_ws RX2 TX2 2, w ∈ mW := by
  have h : u_ws RX2 TX2 2 = ([144, 146] : List Nat).filterMap (fun i => tables_1[i]?) := by decide +kernel
  have g : (u_ws RX2 TX2 2).all goodWord = true := by decide +kernel
  intro w hw
  have g1 := List.all_eq_true.mp g w hw
  rw [h] at hw
  obtain ⟨i, -, hi⟩ := List.mem_filterMap.mp hw
  exact mW_at i hi g1
theorem mIn3 : ∀ w ∈ u_ws RX3 TX3 4, w ∈ mW := by
  have h : u_ws RX3 TX3 4 = ([194, 196, 198, 200] : List Nat).filterMap (fun i => tables_1[i]?) := by decide +kernel
  have g : (u_ws RX3 TX3 4).all goodWord = true := by decide +kernel
  intro w hw
  have g1 := List.all_eq_true.mp g w hw
  rw [h] at hw
  obtain ⟨i, -, hi⟩ := List.mem_filterMap.mp hw
  exact mW_at i hi g1
theorem mIn4 : ∀ w ∈ u_ws RX4 TX4 7, w ∈ mW := by
  have h : u_ws RX4 TX4 7 = ([770, 772, 774, 776, 778, 780, 782] : List Nat).filterMap (fun i => tables_1[i]?) := by decide +kernel
  have g : (u_ws RX4 TX4 7).all goodWord = true := by decide +kernel
  intro w hw
  have g1 := List.all_eq_true.mp g w hw
  rw [h] at hw
  obtain ⟨i, -, hi⟩ := List.mem_filterMap.mp hw
  exact mW_at i hi g1
theorem mIn5 : ∀ w ∈ u_ws RX5 TX5 15, w ∈ mW := by
  have h : u_ws RX5 TX5 15 = ([103, 105, 107, 109, 111, 113, 115, 117, 119, 121, 123, 125, 127, 129, 131] : List Nat).filterMap (fun i => tables_1[i]?) := by decide +kernel
  have g : (u_ws RX5 TX5 15).all goodWord = true := by decide +kernel
  intro w hw
  have g1 := List.all_eq_true.mp g w hw
  rw [h] at hw
  obtain ⟨i, -, hi⟩ := List.mem_filterMap.mp hw
  exact mW_at i hi g1
theorem mIn6 : ∀ w ∈ u_ws RX6 TX6 4, w ∈ mW := by
  have h : u_ws RX6 TX6 4 = ([159, 161, 163, 165] : List Nat).filterMap (fun i => tables_1[i]?) := by decide +kernel
  have g : (u_ws RX6 TX6 4).all goodWord = true := by decide +kernel
  intro w hw
  have g1 := List.all_eq_true.mp g w hw
  rw [h] at hw
  obtain ⟨i, -, hi⟩ := List.mem_filterMap.mp hw
  exact mW_at i hi g1
theorem mIn7 : ∀ w ∈ u_ws RX7 TX7 6, w ∈ mW := by
  have h : u_ws RX7 TX7 6 = ([611, 613, 615, 617, 619, 621] : List Nat).filterMap (fun i => tables_1[i]?) := by decide +kernel
  have g : (u_ws RX7 TX7 6).all goodWord = true := by decide +kernel
  intro w hw
  have g1 := List.all_eq_true.mp g w hw
  rw [h] at hw
  obtain ⟨i, -, hi⟩ := List.mem_filterMap.mp hw
  exact mW_at i hi g1
theorem mIn8 : ∀ w ∈ u_ws RX8 TX8 2, w ∈ mW := by
  have h : u_ws RX8 TX8 2 = ([38, 40] : List Nat).filterMap (fun i => tables_1[i]?) := by decide +kernel
  have g : (u_ws RX8 TX8 2).all goodWord = true := by decide +kernel
  intro w hw
  have g1 := List.all_eq_true.mp g w hw
  rw [h] at hw
  obtain ⟨i, -, hi⟩ := List.mem_filterMap.mp hw
  exact mW_at i hi g1
theorem mIn9 : ∀ w ∈ u_ws RX9 TX9 5, w ∈ mW := by
  have h : u_ws RX9 TX9 5 = ([218, 220, 222, 224, 226] : List Nat).filterMap (fun i => tables_1[i]?) := by decide +kernel
  have g : (u_ws RX9 TX9 5).all goodWord = true := by decide +kernel
  intro w hw
  have g1 := List.all_eq_true.mp g w hw
  rw [h] at hw
  obtain ⟨i, -, hi⟩ := List.mem_filterMap.mp hw
  exact mW_at i hi g1
theorem mIn10 : ∀ w ∈ u_ws RX10 TX10 18, w ∈ mW := by
  have h : u_ws RX10 TX10 18 = ([266, 268, 270, 272, 274, 276, 278, 280, 282, 284, 286, 288, 290, 292, 294, 296, 298, 300] : List Nat).filterMap (fun i => tables_1[i]?) := by decide +kernel
  have g : (u_ws RX10 TX10 18).all goodWord = true := by decide +kernel
  intro w hw
  have g1 := List.all_eq_true.mp g w hw
  rw [h] at hw
  obtain ⟨i, -, hi⟩ := List.mem_filterMap.mp hw
  exact mW_at i hi g1
theorem mIn11 : ∀ w ∈ u_ws RX11 TX11 6, w ∈ mW := by
  have h : u_ws RX11 TX11 6 = ([908, 910, 912, 914, 916, 954] : List Nat).filterMap (fun i => tables_1[i]?) := by decide +kernel
  have g : (u_ws RX11 TX11 6).all goodWord = true := by decide +kernel
  intro w hw
  have g1 := List.all_eq_true.mp g w hw
  rw [h] at hw
  obtain ⟨i, -, hi⟩ := List.mem_filterMap.mp hw
  exact mW_at i hi g1
theorem mIn12 : ∀ w ∈ u_ws RX12 TX12 57, w ∈ mW := by
  have h : u_ws RX12 TX12 57 = ([1015, 1017, 1019, 1021, 1023, 1025, 1027, 1029, 1031, 1033, 1035, 1037, 1039, 1041, 1043, 1045, 1047, 1049, 1051, 1053, 1055, 1057, 1059, 1061, 1063, 1065, 1067, 1069, 1071, 1073, 1075, 1077, 1079, 1081, 1083, 1085, 1087, 1089, 1091, 1093, 1095, 1097, 1099, 1101, 1103, 1105, 1107, 1109, 1111, 1113, 1115, 1117, 1119, 1121, 1123, 1125, 1127] : List Nat).filterMap (fun i => tables_1[i]?) := by decide +kernel
  have g : (u_ws RX12 TX12 57).all goodWord = true := by decide +kernel
  intro w hw
  have g1 := List.all_eq_true.mp g w hw
  rw [h] at hw
  obtain ⟨i, -, hi⟩ := List.mem_filterMap.mp hw
  exact mW_at i hi g1
theorem mCls {ci : Nat} (h : ci < 13) : (∀ w ∈ u_ws (vwCl.getD ci mDf).1 (vwCl.getD ci mDf).2.1 (vwCl.getD ci mDf).2.2, w ∈ mW) ∧ (∃ ty : Nat → FieldType, ∀ k, k < mNf ci → parseFieldDescriptor (mDesc ci k) = some (ty k)) ∧ (∀ a, a < mNf ci → ∀ b, b < mNf ci → a ≠ b → mFn ci a ≠ mFn ci b) := by
  rcases (show ci = 0 ∨ ci = 1 ∨ ci = 2 ∨ ci = 3 ∨ ci = 4 ∨ ci = 5 ∨ ci = 6 ∨ ci = 7 ∨ ci = 8 ∨ ci = 9 ∨ ci = 10 ∨ ci = 11 ∨ ci = 12 by omega) with rfl | rfl | rfl | rfl | rfl | rfl | rfl | rfl | rfl | rfl | rfl | rfl | rfl
  · exact ⟨mIn0, ⟨tyX0, tyX0_ok⟩, nmX0⟩
  · exact ⟨mIn1, ⟨tyX1, tyX1_ok⟩, nmX1⟩
  · exact ⟨mIn2, ⟨tyX2, tyX2_ok⟩, nmX2⟩
  · exact ⟨mIn3, ⟨tyX3, tyX3_ok⟩, nmX3⟩
  · exact ⟨mIn4, ⟨tyX4, tyX4_ok⟩, nmX4⟩
  · exact ⟨mIn5, ⟨tyX5, tyX5_ok⟩, nmX5⟩
  · exact ⟨mIn6, ⟨tyX6, tyX6_ok⟩, nmX6⟩
  · exact ⟨mIn7, ⟨tyX7, tyX7_ok⟩, nmX7⟩
  · exact ⟨mIn8, ⟨tyX8, tyX8_ok⟩, nmX8⟩
  · exact ⟨mIn9, ⟨tyX9, tyX9_ok⟩, nmX9⟩
  · exact ⟨mIn10, ⟨tyX10, tyX10_ok⟩, nmX10⟩
  · exact ⟨mIn11, ⟨tyX11, tyX11_ok⟩, nmX11⟩
  · exact ⟨mIn12, ⟨tyX12, tyX12_ok⟩, nmX12⟩
section VH
variable {X : mX} {B : Nat} {own : String} {cc : ByteArray} {G : mG} {nc ns nx : Nat} {sh : Nat → Option mSh} {I : mI} {P : mP} {pc : Nat} {ls : List (Option Value)} {st : List Value}
/-- an object cell, opened -/
theorem mOk.obj {H : Heap} {c ci : Nat} (h : mOk X B I P H c (.inl ci)) : ci < 13 ∧ ∃ (V : Nat → Value) (cell : Cell), H[B + c]? = some cell ∧ cell.cls = X.1.1 ci ∧ cell.vm = .none ∧ (∀ k, k < mNf ci → cell.slots[X.1.2 ci k]? = some (V k)) ∧ (ci ≠ 11 → ∀ k, k < mNf ci → V k = mF ci B I P c k) := by
  obtain ⟨r, V, h1, ⟨cell, q1, q2, q3, q4⟩, h3⟩ := h
  have hl : ci < 13 := (List.getElem?_eq_some_iff.mp h1).1
  have hr : r = vwCl.getD ci mDf := Option.some.inj (h1.symm.trans (mCl_at hl))
  subst hr
  exact ⟨hl, V, cell, q1, q2, q3, q4, h3⟩
/-- what the tables say of a field -/
theorem mK.field {s : State} {args : Array Value} {ci k : Nat} (hts : ∀ w ∈ mW, w.before args s = true) (hK : mK X B s) (hc : ci < 13) (hk : k < mNf ci) : ∃ (cf : Nat) (kf : Class) (fi : Nat) (f : Field) (kC : Class), s.fieldFound? (mFc ci k) (mFn ci k) (mDesc ci k) = some (cf, kf, fi, f) ∧ f.slot = X.1.2 ci k ∧ f.isStatic = false ∧ s.vm.findClass (mCn ci) = some (X.1.1 ci) ∧ s.vm.classes[X.1.1 ci]? = some kC ∧ kC.kind = .ordinary := by
  obtain ⟨hS, hfc, kC, hkC, hkind⟩ := hK.1.1 ci _ (mCl_at hc)
  obtain ⟨cf, kf, fi, f, hi, hsl⟩ := hS k hk
  exact ⟨cf, kf, fi, f, kC, hi, hsl, (u_facts hfc hkC (u_lays hts (mCls hc).1 hk) hi).1, hfc, hkC, hkind⟩
theorem mGet {p : Program} {e : Env} {R : Room} {s : State} {m : MethodId} {args : Array Value} {below : List Frame} {meth : Method} {c : Code} {Q : State → Prop} {H : Heap} {locs : List Loc} {la : Array Slot} {l : Launch} {idx ci k a : Nat} (C : mCx X B own cc p s m args meth c) (hR : mRel X B nx sh I P H) (hd : decode cc pc = .ok (.getfield idx, 3)) (hf : mFl own idx ci k) (hs : sh a = some (.inl ci)) (h11 : ci ≠ 11)
    (kk : W p l e R s m args below meth c H locs nc ns Q (F0 m (pc + 3) la (mF ci B I P a k :: st))) : W p l e R s m args below meth c H locs nc ns Q (F0 m pc la (.ref (B + a) :: st)) := by
  obtain ⟨hx, hb, hown, hts, hK, -⟩ := C
  obtain ⟨hc, V, cell, q1, q2, q3, q4, q5⟩ := (hR.2.2 a _ hs).obj
  obtain ⟨cf, kf, fi, f, kC, hi, hsl, hst, -⟩ := hK.field hts hc hf.1
  have hv : cell.slots[f.slot]? = some (mF ci B I P a k) := by rw [hsl, q4 k hf.1, q5 h11 k hf.1]
  rcases hf.2.2 with hw | ⟨host, hw⟩
  · exact W.getf hx hb hown (hts _ hw) hi hst q1 (by rw [q3]; exact fun h => by cases h) hv rfl rfl hd kk
  · exact va_Wgetf hx hb hown (va_Nw.use (by rfl) (hK.2.1 _ hw)) hi hst q1 (by rw [q3]; exact fun h => by cases h) hv rfl rfl hd kk
theorem V_getI {idx ci k a : Nat} (hd : decode cc pc = .ok (.getfield idx, 3)) (hf : mFl own idx ci k) (hs : sh a = some (.inl ci)) (h11 : (ci == 11 || mIsR ci k) = false) (kk : V X B own cc G nc ns nx sh I P (pc + 3) ls (.int (I a k) :: st)) : V X B own cc G nc ns nx sh I P pc ls (.ref (B + a) :: st) := by
  obtain ⟨p, e, R, s, m, args, below, meth, c, Q⟩ := G
  intro C H locs la hR hL hl
  simp only [Bool.or_eq_false_iff, beq_eq_false_iff_ne] at h11
  refine mGet C hR hd hf hs h11.1 ?_
  rw [mF, h11.2]
  exact kk C H locs la hR hL hl
theorem V_getP {idx ci k a : Nat} (hd : decode cc pc = .ok (.getfield idx, 3)) (hf : mFl own idx ci k) (hs : sh a = some (.inl ci)) (h11 : (ci == 11 || !mIsR ci k) = false) (kk : V X B own cc G nc ns nx sh I P (pc + 3) ls (mRf B (P a k) :: st)) : V X B own cc G nc ns nx sh I P pc ls (.ref (B + a) :: st) := by
  obtain ⟨p, e, R, s, m, args, below, meth, c, Q⟩ := G
  intro C H locs la hR hL hl
  simp only [Bool.or_eq_false_iff, beq_eq_false_iff_ne, Bool.not_eq_false'] at h11
  refine mGet C hR hd hf hs h11.1 ?_
  rw [mF, h11.2]
  exact kk C H locs la hR hL hl
/-- a reference that is known -/
theorem V_getR {idx ci k a b : Nat} (hd : decode cc pc = .ok (.getfield idx, 3)) (hf : mFl own idx ci k) (hs : sh a = some (.inl ci)) (h11 : (ci == 11 || !mIsR ci k) = false) (hp : P a k = some b) (kk : V X B own cc G nc ns nx sh I P (pc + 3) ls (.ref (B + b) :: st)) : V X B own cc G nc ns nx sh I P pc ls (.ref (B + a) :: st) := by
  refine V_getP hd hf hs h11 ?_
  rw [hp]
  exact kk
theorem V_getN {idx ci k a : Nat} (hd : decode cc pc = .ok (.getfield idx, 3)) (hf : mFl own idx ci k) (hs : sh a = some (.inl ci)) (h11 : (ci == 11 || !mIsR ci k) = false) (hp : P a k = none) (kk : V X B own cc G nc ns nx sh I P (pc + 3) ls (.null :: st)) : V X B own cc G nc ns nx sh I P pc ls (.ref (B + a) :: st) := by
  refine V_getP hd hf hs h11 ?_
  rw [hp]
  exact kk
/-- what may be stored into field k of class ci: an int that fits, a reference -/
def mFit (ci k : Nat) (v : Value) : Prop := ∃ ty, parseFieldDescriptor (mDesc ci k) = some ty ∧ narrow ty v = v ∧ fits ty v = true
theorem mPut {p : Program} {e : Env} {R : Room} {s : State} {m : MethodId} {args : Array Value} {below : List Frame} {meth : Method} {c : Code} {Q : State → Prop} {H : Heap} {locs : List Loc} {la : Array Slot} {l : Launch} {idx ci k a : Nat} {v : Value} {I' : mI} {P' : mP} (C : mCx X B own cc p s m args meth c) (hR : mRel X B nx sh I P H) (hL : ∀ q ∈ locs, B ≤ q.base) (hd : decode cc pc = .ok (.putfield idx, 3)) (hf : mFl own idx ci k) (hs : sh a = some (.inl ci))
    (hfin : mFin ci k = false ∨ (mFin ci k = true ∧ meth.name = "<init>" ∧ mFc ci k = own)) (hft : mFit ci k v) (hI : ∀ c' j, c' ≠ a → I' c' j = I c' j) (hP : ∀ c' j, c' ≠ a → P' c' j = P c' j) (hv : ci ≠ 11 → ∀ j, j < mNf ci → mF ci B I' P' a j = if j = k then v else mF ci B I P a j)
    (kk : ∀ (H' : Heap) (locs' : List Loc), mRel X B nx sh I' P' H' → (∀ q ∈ locs', B ≤ q.base) → W p l e R s m args below meth c H' locs' nc ns Q (F0 m (pc + 3) la st)) : W p l e R s m args below meth c H locs nc ns Q (F0 m pc la (v :: .ref (B + a) :: st)) := by
  obtain ⟨hx, hb, hown, hts, hK, -⟩ := C
  obtain ⟨hc, V, cell, q1, q2, q3, q4, q5⟩ := (hR.2.2 a _ hs).obj
  obtain ⟨cf, kf, fi, f, kC, hi, hsl, hst, hfc, hkC, hkind⟩ := hK.field hts hc hf.1
  obtain ⟨ty, t1, t2, t3⟩ := hft
  have hlt : f.slot < cell.slots.size := by rw [hsl]; exact k2_hasslot (q4 k hf.1)
  have hap : ∀ x y, x < mNf ci → y < mNf ci → x ≠ y → X.1.2 ci x ≠ X.1.2 ci y := by
    obtain ⟨ty0, hty0⟩ := (mCls hc).2.1
    exact va_apart (own := own) hts (mCls hc).1 ty0 hty0 (mCls hc).2.2 hK.1 (mCl_at hc)
  have hlay := hts _ ((mCls hc).1 _ (u_in_lay hf.1))
  unfold u_lay at hlay
  have fin : ∀ (H' : Heap), H'[B + a]? = some (cell.setSlot f.slot v) → H'.size = H.size → (∀ q, q ≠ B + a → H'[q]? = H[q]?) → W p l e R s m args below meth c H' (locs ++ [⟨B + a, f.slot⟩]) nc ns Q (F0 m (pc + 3) la st) := by
    intro H' e1 e2 e3
    refine kk H' _ (hR.put (c := a) e2 e3 hI hP (fun z hz => ?_)) (fun q hq => ?_)
    · cases hs.symm.trans hz
      rw [hsl] at e1
      refine ⟨_, updV V k v, mCl_at hc, ⟨_, e1, q2, q3, t_set q4 hap hf.1 v⟩, fun h11 j hj => ?_⟩
      rw [hv h11 j hj]
      by_cases hjk : j = k
      · simp [updV, hjk]
      · simp [updV, hjk, q5 h11 j hj]
    · rcases List.mem_append.mp hq with h | h
      · exact hL q h
      · rw [List.mem_singleton.mp h]; exact Nat.le_add_right _ _
  rcases hfin with hfin | ⟨hfin, hin, hdecl⟩
  · rw [if_neg (by show ¬ mFin ci k = true; rw [hfin]; decide)] at hlay
    have h6 := u_store hfc hkC hkind hlay hi t1 t2 t3
    rcases hf.2.2 with hw | ⟨host, hw⟩
    · exact W.putK hx hb (f := f) ⟨hown, hts _ hw, ⟨_, _, _, hi⟩, hst⟩ (by rw [q2]; exact h6) q1 q3 hlt rfl rfl hd fin
    · exact va_WputK hx hb (f := f) hown (va_Nw.use (by rfl) (hK.2.1 _ hw)) hi hst (by rw [q2]; exact h6) q1 q3 hlt rfl rfl hd fin
  · rw [if_pos (show ((vwCl.getD ci mDf).2.1 k).2.2.2 = true from hfin)] at hlay
    have hcf : m.cls = cf := by
      obtain ⟨_, _, c', _, _, _, -, -, hf', -, -, -, hown2, -⟩ := Cond.laysFinal_spec hlay
      have e1 : c' = cf := by
        have h9 := hi.symm.trans hf'
        simp at h9
        exact h9.1.symm
      have h8 : s.vm.findClass own = some c' := by rw [← hdecl]; exact hown2
      rw [← e1]
      exact Option.some.inj (hown.symm.trans h8)
    have h6 := u_fits hfc hkC hkind (Or.inr hlay) hi t1 t2 t3
    rcases hf.2.2 with hw | ⟨host, hw⟩
    · exact W.putFinK hx hb hown (hts _ hw) hi hst hcf hin (by rw [q2]; exact h6) q1 q3 hlt rfl rfl hd fin
    · have ha : B + a < H.size := (Array.getElem?_eq_some_iff.mp q1).1
      refine va_Wputf hx hb hown (va_Nw.use (by rfl) (hK.2.1 _ hw)) hi hst (Or.inr ⟨hcf, hin⟩) q1 (by rw [q3]; exact fun h => by cases h) hlt h6.1 (by rw [q2, q3]; exact h6.2) rfl rfl hd (fin _ ?_ ?_ ?_)
      · simp [Array.getElem?_setIfInBounds, ha]
      · simp
      · intro q hq
        simp [Array.getElem?_setIfInBounds, Ne.symm hq]
theorem mF_upI {ci k a j : Nat} {x : Int32} (h : mIsR ci k = false) : mF ci B (mUp I a k x) P a j = if j = k then .int x else mF ci B I P a j := by
  by_cases hj : j = k
  · subst hj
    simp [mF, h, mUp]
  · simp [mF, mUp, hj]
theorem mF_upP {ci k a j : Nat} {o : Option Nat} (h : mIsR ci k = true) : mF ci B I (mUp P a k o) a j = if j = k then mRf B o else mF ci B I P a j := by
  by_cases hj : j = k
  · subst hj
    simp [mF, h, mUp]
  · simp [mF, mUp, hj]
/-- putfield of an int into a field that isn't final -/
theorem V_putI {idx ci k a : Nat} {x : Int32} (hd : decode cc pc = .ok (.putfield idx, 3)) (hf : mFl own idx ci k) (hs : sh a = some (.inl ci)) (hr : (ci == 11 || mIsR ci k || mFin ci k) = false) (hde : mDesc ci k = "I") (kk : V X B own cc G nc ns nx sh (mUp I a k x) P (pc + 3) ls st) : V X B own cc G nc ns nx sh I P pc ls (.int x :: .ref (B + a) :: st) := by
  obtain ⟨p, e, R, s, m, args, below, meth, c, Q⟩ := G
  intro C H locs la hR hL hl
  simp only [Bool.or_eq_false_iff] at hr
  exact mPut C hR hL hd hf hs (Or.inl hr.2) ⟨.int, by rw [hde]; rfl, rfl, rfl⟩ (fun c' j h => mUp_c h) (fun _ _ _ => rfl) (fun _ j _ => mF_upI hr.1.2) (fun H' locs' hR' hL' => kk C H' locs' la hR' hL' hl)
/-- of 0 or 1 into a boolean one -/
theorem V_putZ {idx ci k a : Nat} {x : Int32} (hd : decode cc pc = .ok (.putfield idx, 3)) (hf : mFl own idx ci k) (hs : sh a = some (.inl ci)) (hr : (ci == 11 || mIsR ci k || mFin ci k) = false) (hde : mDesc ci k = "Z") (h01 : x = 0 ∨ x = 1) (kk : V X B own cc G nc ns nx sh (mUp I a k x) P (pc + 3) ls st) : V X B own cc G nc ns nx sh I P pc ls (.int x :: .ref (B + a) :: st) := by
  obtain ⟨p, e, R, s, m, args, below, meth, c, Q⟩ := G
  intro C H locs la hR hL hl
  simp only [Bool.or_eq_false_iff] at hr
  exact mPut C hR hL hd hf hs (Or.inl hr.2) ⟨.boolean, by rw [hde]; rfl, by rcases h01 with rfl | rfl <;> rfl, by rcases h01 with rfl | rfl <;> rfl⟩ (fun c' j h => mUp_c h) (fun _ _ _ => rfl) (fun _ j _ => mF_upI hr.1.2) (fun H' locs' hR' hL' => kk C H' locs' la hR' hL' hl)
/-- of an int into a final field, in the class's own constructor -/
theorem V_putIF {idx ci k a : Nat} {x : Int32} {ret : Option FieldType} {fr lo mc ms : Nat} {Po : mPo} (hM : mM X B "<init>" ret fr lo mc ms Po G) (hd : decode cc pc = .ok (.putfield idx, 3)) (hf : mFl own idx ci k) (hs : sh a = some (.inl ci)) (hr : (ci == 11 || mIsR ci k || !mFin ci k) = false) (hde : mDesc ci k = "I") (hdc : mFc ci k = own) (kk : V X B own cc G nc ns nx sh (mUp I a k x) P (pc + 3) ls st) : V X B own cc G nc ns nx sh I P pc ls (.int x :: .ref (B + a) :: st) := by
  obtain ⟨p, e, R, s, m, args, below, meth, c, Q⟩ := G
  intro C H locs la hR hL hl
  simp only [Bool.or_eq_false_iff, Bool.not_eq_false'] at hr
  obtain ⟨-, -, -, -, -, hnm, -⟩ := hM
  exact mPut C hR hL hd hf hs (Or.inr ⟨hr.2, hnm, hdc⟩) ⟨.int, by rw [hde]; rfl, rfl, rfl⟩ (fun c' j h => mUp_c h) (fun _ _ _ => rfl) (fun _ j _ => mF_upI hr.1.2) (fun H' locs' hR' hL' => kk C H' locs' la hR' hL' hl)
theorem mRf_fit {ty : FieldType} {o : Option Nat} (h : (∃ n, ty = .object n) ∨ ∃ t, ty = .array t) : narrow ty (mRf B o) = mRf B o ∧ fits ty (mRf B o) = true := by
  cases o <;> rcases h with ⟨n, rfl⟩ | ⟨t, rfl⟩ <;> exact ⟨rfl, rfl⟩
/-- of a reference -/
theorem V_putP {idx ci k a : Nat} {o : Option Nat} {ty : FieldType} (hd : decode cc pc = .ok (.putfield idx, 3)) (hf : mFl own idx ci k) (hs : sh a = some (.inl ci)) (hr : (ci == 11 || !mIsR ci k || mFin ci k) = false) (hde : parseFieldDescriptor (mDesc ci k) = some ty) (hty : (∃ n, ty = .object n) ∨ ∃ t, ty = .array t) (kk : V X B own cc G nc ns nx sh I (mUp P a k o) (pc + 3) ls st) : V X B own cc G nc ns nx sh I P pc ls (mRf B o :: .ref (B + a) :: st) := by
  obtain ⟨p, e, R, s, m, args, below, meth, c, Q⟩ := G
  intro C H locs la hR hL hl
  simp only [Bool.or_eq_false_iff, Bool.not_eq_false'] at hr
  exact mPut C hR hL hd hf hs (Or.inl hr.2) ⟨ty, hde, (mRf_fit hty).1, (mRf_fit hty).2⟩ (fun _ _ _ => rfl) (fun c' j h => mUp_c h) (fun _ j _ => mF_upP hr.1.2) (fun H' locs' hR' hL' => kk C H' locs' la hR' hL' hl)
theorem V_putPF {idx ci k a : Nat} {o : Option Nat} {ty : FieldType} {ret : Option FieldType} {fr lo mc ms : Nat} {Po : mPo} (hM : mM X B "<init>" ret fr lo mc ms Po G) (hd : decode cc pc = .ok (.putfield idx, 3)) (hf : mFl own idx ci k) (hs : sh a = some (.inl ci)) (hr : (ci == 11 || !mIsR ci k || !mFin ci k) = false) (hde : parseFieldDescriptor (mDesc ci k) = some ty) (hty : (∃ n, ty = .object n) ∨ ∃ t, ty = .array t) (hdc : mFc ci k = own) (kk : V X B own cc G nc ns nx sh I (mUp P a k o) (pc + 3) ls st) : V X B own cc G nc ns nx sh I P pc ls (mRf B o :: .ref (B + a) :: st) := by
  obtain ⟨p, e, R, s, m, args, below, meth, c, Q⟩ := G
  intro C H locs la hR hL hl
  simp only [Bool.or_eq_false_iff, Bool.not_eq_false'] at hr
  obtain ⟨-, -, -, -, -, hnm, -⟩ := hM
  exact mPut C hR hL hd hf hs (Or.inr ⟨hr.2, hnm, hdc⟩) ⟨ty, hde, (mRf_fit hty).1, (mRf_fit hty).2⟩ (fun _ _ _ => rfl) (fun c' j h => mUp_c h) (fun _ j _ => mF_upP hr.1.2) (fun H' locs' hR' hL' => kk C H' locs' la hR' hL' hl)
/-! arrays -/
theorem mK.arr {s : State} (hK : mK X B s) {t : Nat} (ht : t < 6) : ArrOfT s (X.2.1 t) (mTyOf t) ∧ va_RA s (X.2.1 t) (mTyOf t) := by
  rcases (show t = 0 ∨ t = 1 ∨ t = 2 ∨ t = 3 ∨ t = 4 ∨ t = 5 by omega) with rfl | rfl | rfl | rfl | rfl | rfl
  · exact hK.1.2 0 _ rfl
  · exact hK.1.2 1 _ rfl
  · exact hK.1.2 2 _ rfl
  · exact hK.1.2 3 _ rfl
  · exact hK.1.2 4 _ rfl
  · exact hK.1.2 5 _ rfl
theorem V_alen {a t n : Nat} {v : Int32} (hd : decode cc pc = .ok (.arraylength, 1)) (hs : sh a = some (.inr (t, n))) (hv : Int32.ofNat n = v) (kk : V X B own cc G nc ns nx sh I P (pc + 1) ls (.int v :: st)) : V X B own cc G nc ns nx sh I P pc ls (.ref (B + a) :: st) := by
  obtain ⟨p, e, R, s, m, args, below, meth, c, Q⟩ := G
  intro C H locs la hR hL hl
  subst hv
  obtain ⟨h6, h⟩ := hR.2.2 a _ hs
  exact W.alen (n := Int32.ofNat n) C.1 C.2.1 h ((mK.arr C.2.2.2.2.1 h6).1 n _) (by rw [arrV_size] <;> rfl) rfl rfl hd (kk C H locs la hR hL hl)
theorem V_iald {a n : Nat} {i : Int32} (hd : decode cc pc = .ok (.iaload, 1)) (hs : sh a = some (.inr (0, n))) (hin : vp_in i n) (kk : V X B own cc G nc ns nx sh I P (pc + 1) ls (.int (I a i.toNatClampNeg) :: st)) : V X B own cc G nc ns nx sh I P pc ls (.int i :: .ref (B + a) :: st) := by
  obtain ⟨p, e, R, s, m, args, below, meth, c, Q⟩ := G
  intro C H locs la hR hL hl
  obtain ⟨h6, h⟩ := hR.2.2 a _ hs
  have hlt : i.toNatClampNeg < n := Nat.not_le.mp fun q => hin (Or.inr q)
  exact W.iald (v := .int (I a i.toNatClampNeg)) C.1 C.2.1 h ((mK.arr C.2.2.2.2.1 h6).1 n _) (fun q => by cases q) (by rw [arrV_size]; exact hin) (by rw [arrV_read _ _ hlt]; rfl) rfl rfl hd (kk C H locs la hR hL hl)
theorem V_bald {a n : Nat} {i : Int32} (hd : decode cc pc = .ok (.baload, 1)) (hs : sh a = some (.inr (1, n))) (hin : vp_in i n) (kk : V X B own cc G nc ns nx sh I P (pc + 1) ls (.int (I a i.toNatClampNeg) :: st)) : V X B own cc G nc ns nx sh I P pc ls (.int i :: .ref (B + a) :: st) := by
  obtain ⟨p, e, R, s, m, args, below, meth, c, Q⟩ := G
  intro C H locs la hR hL hl
  obtain ⟨h6, h⟩ := hR.2.2 a _ hs
  have hlt : i.toNatClampNeg < n := Nat.not_le.mp fun q => hin (Or.inr q)
  exact W.bald (v := .int (I a i.toNatClampNeg)) C.1 C.2.1 h ((mK.arr C.2.2.2.2.1 h6).1 n _) (fun q => by cases q) (by rw [arrV_size]; exact hin) (by rw [arrV_read _ _ hlt]; rfl) rfl rfl hd (kk C H locs la hR hL hl)
theorem V_aald {a t n : Nat} {i : Int32} (hd : decode cc pc = .ok (.aaload, 1)) (hs : sh a = some (.inr (t, n))) (ht : 2 ≤ t) (hin : vp_in i n) (kk : V X B own cc G nc ns nx sh I P (pc + 1) ls (mRf B (P a i.toNatClampNeg) :: st)) : V X B own cc G nc ns nx sh I P pc ls (.int i :: .ref (B + a) :: st) := by
  obtain ⟨p, e, R, s, m, args, below, meth, c, Q⟩ := G
  intro C H locs la hR hL hl
  obtain ⟨h6, h⟩ := hR.2.2 a _ hs
  have h6 : t < 6 := h6
  have hlt : i.toNatClampNeg < n := Nat.not_le.mp fun q => hin (Or.inr q)
  have hrf : (mTyOf t).isReference = true := by rcases (show t = 2 ∨ t = 3 ∨ t = 4 ∨ t = 5 by omega) with rfl | rfl | rfl | rfl <;> rfl
  have hb : Nat.blt t 2 = false := by rcases (show t = 2 ∨ t = 3 ∨ t = 4 ∨ t = 5 by omega) with rfl | rfl | rfl | rfl <;> rfl
  exact W.aald (v := mRf B (P a i.toNatClampNeg)) (ty := mTyOf t) C.1 C.2.1 h ((mK.arr C.2.2.2.2.1 h6).1 n _) hrf (fun q => by cases q) (by rw [arrV_size]; exact hin) (by rw [arrV_read _ _ hlt, mA, hb]; rfl) rfl rfl hd (kk C H locs la hR hL hl)
theorem mL_put {locs : List Loc} {a k : Nat} (hL : ∀ q ∈ locs, B ≤ q.base) : ∀ q ∈ locs ++ [⟨B + a, k⟩], B ≤ q.base := by
  intro q hq
  rcases List.mem_append.mp hq with h | h
  · exact hL q h
  · rw [List.mem_singleton.mp h]; exact Nat.le_add_right _ _
theorem V_iast {a n : Nat} {i x : Int32} (hd : decode cc pc = .ok (.iastore, 1)) (hs : sh a = some (.inr (0, n))) (hin : vp_in i n) (kk : V X B own cc G nc ns nx sh (mUp I a i.toNatClampNeg x) P (pc + 1) ls st) : V X B own cc G nc ns nx sh I P pc ls (.int x :: .int i :: .ref (B + a) :: st) := by
  obtain ⟨p, e, R, s, m, args, below, meth, c, Q⟩ := G
  intro C H locs la hR hL hl
  obtain ⟨h6, h⟩ := hR.2.2 a _ hs
  refine W.iast C.1 C.2.1 h ((mK.arr C.2.2.2.2.1 h6).1 n _) (fun q => by cases q) (by rw [arrV_size]; exact hin) rfl rfl hd fun H1 e1 z oq => ?_
  refine kk C H1 _ la (hR.put (c := a) z oq (fun c' j h => mUp_c h) (fun _ _ _ => rfl) (fun z' hz' => ?_)) (mL_put hL) hl
  cases hs.symm.trans hz'
  refine ⟨h6, ?_⟩
  rw [e1, arrV_store]
  congr 2
  funext q
  by_cases hq : q = i.toNatClampNeg
  · subst hq
    simp [updV, mA, mUp]
    rfl
  · simp [updV, mA, mUp, hq]
theorem V_bast {a n : Nat} {i x : Int32} (hd : decode cc pc = .ok (.bastore, 1)) (hs : sh a = some (.inr (1, n))) (hin : vp_in i n) (kk : V X B own cc G nc ns nx sh (mUp I a i.toNatClampNeg (x.toInt8.toInt32)) P (pc + 1) ls st) : V X B own cc G nc ns nx sh I P pc ls (.int x :: .int i :: .ref (B + a) :: st) := by
  obtain ⟨p, e, R, s, m, args, below, meth, c, Q⟩ := G
  intro C H locs la hR hL hl
  obtain ⟨h6, h⟩ := hR.2.2 a _ hs
  refine W.bast C.1 C.2.1 h ((mK.arr C.2.2.2.2.1 h6).1 n _) (fun q => by cases q) (by rw [arrV_size]; exact hin) rfl rfl hd fun H1 e1 z oq => ?_
  refine kk C H1 _ la (hR.put (c := a) z oq (fun c' j h => mUp_c h) (fun _ _ _ => rfl) (fun z' hz' => ?_)) (mL_put hL) hl
  cases hs.symm.trans hz'
  refine ⟨h6, ?_⟩
  rw [e1, arrV_store]
  congr 2
  funext q
  by_cases hq : q = i.toNatClampNeg
  · subst hq
    simp [updV, mA, mUp, narrow_byte]
    rfl
  · simp [updV, mA, mUp, hq]
/-- an object of the array's class into a row of references -/
theorem V_aast {a b t n : Nat} {i : Int32} (hd : decode cc pc = .ok (.aastore, 1)) (hs : sh a = some (.inr (t, n))) (ht : 2 ≤ t) (hb : sh b = some (.inl (mElem t))) (hin : vp_in i n) (kk : V X B own cc G nc ns nx sh I (mUp P a i.toNatClampNeg (some b)) (pc + 1) ls st) : V X B own cc G nc ns nx sh I P pc ls (.ref (B + b) :: .int i :: .ref (B + a) :: st) := by
  obtain ⟨p, e, R, s, m, args, below, meth, c, Q⟩ := G
  intro C H locs la hR hL hl
  obtain ⟨h6, h⟩ := hR.2.2 a _ hs
  have h6 : t < 6 := h6
  have hlt : i.toNatClampNeg < n := Nat.not_le.mp fun q => hin (Or.inr q)
  have h0 : ¬ i < 0 := fun q => hin (Or.inl q)
  obtain ⟨hc, V, cell, g1, g2, g3, -⟩ := (hR.2.2 b _ hb).obj
  have hK := C.2.2.2.2.1
  have hcls := (hK.1.1 _ _ (mCl_at hc)).2
  have hra := (mK.arr hK h6).2
  have hty : mTyOf t = .object (vwCl.getD (mElem t) mDf).1 := by rcases (show t = 2 ∨ t = 3 ∨ t = 4 ∨ t = 5 by omega) with rfl | rfl | rfl | rfl <;> rfl
  rw [hty] at hra
  obtain ⟨kA, comp, k1, k2, k3, -⟩ := hra
  have hcomp : comp = X.1.1 (mElem t) := Option.some.inj (k3.symm.trans hcls.1)
  subst hcomp
  obtain ⟨kC, hkC, -⟩ := id hcls.2
  have hbt : Nat.blt t 2 = false := by rcases (show t = 2 ∨ t = 3 ∨ t = 4 ∨ t = 5 by omega) with rfl | rfl | rfl | rfl <;> rfl
  refine W.aast C.1 C.2.1 h (fun q h => by cases h) (fun h => by cases h) k1 k2 rfl hkC ⟨h0, by rw [arrV_size]; exact hlt⟩ g1 (fun q h => by rw [g3] at h; cases h) (by rw [g2]; exact hkC) (by rw [g2]; exact va_assign hcls) rfl rfl hd fun H1 e1 z oq => ?_
  refine kk C H1 _ la (hR.put (c := a) z oq (fun _ _ _ => rfl) (fun c' j h => mUp_c h) (fun z' hz' => ?_)) (mL_put hL) hl
  cases hs.symm.trans hz'
  refine ⟨h6, ?_⟩
  rw [e1, arrV_store]
  congr 2
  funext q
  by_cases hq : q = i.toNatClampNeg
  · subst hq
    simp [updV, mA, hbt, mUp, mRf]
  · simp [updV, mA, hbt, mUp, hq]
/-! new cells -/
theorem mDv_int : defaultValue .int = .int 0 := rfl
/-- newarray of ints, of bytes -/
theorem V_newa {at0 : ArrayType} {t : Nat} {n : Int32} {N : Nat} {ret : Option FieldType} {fr lo mc ms : Nat} {nm : String} {Po : mPo} (hM : mM X B nm ret fr lo mc ms Po G) (hw : Cond.arrayClass (newarray.typeOf at0) ∈ mW) (hty : newarray.typeOf at0 = mTyOf t) (ht : t < 2) (hn : ¬ n < 0) (hN : n.toNatClampNeg = N) (hN2 : N ≤ 1000) (h1 : nc + 1 ≤ mc) (h2 : ns + N ≤ ms) (hd : decode cc pc = .ok (.newarray at0, 2))
    (kk : V X B own cc G (nc + 1) (ns + N) (nx + 1) (mUs sh nx (.inr (t, N))) (mNI I nx) P (pc + 2) ls (.ref (B + nx) :: st)) : V X B own cc G nc ns nx sh I P pc ls (.int n :: st) := by
  obtain ⟨p, e, R, s, m, args, below, meth, c, Q⟩ := G
  intro C H locs la hR hL hl
  obtain ⟨-, -, -, hc1, hc2, -⟩ := hM
  have hK := C.2.2.2.2.1
  have hz : H.size = B + nx := hR.1
  refine va_newaK C.1 C.2.1 (C.2.2.2.1 _ hw) rfl hd rfl hn hN (by rw [hty]; rcases (show t = 0 ∨ t = 1 by omega) with rfl | rfl <;> simp [mTyOf, componentBytes] <;> omega) (by rw [hc1]; exact h1) (by rw [hc2]; exact h2) hz fun H1 cA e1 z1 o1 hAr hNm => ?_
  have hra := (mK.arr hK (show t < 6 by omega)).2
  have hcA : cA = X.2.1 t := by
    have h9 : s.vm.findClass ("[" ++ (mTyOf t).toString) = some (X.2.1 t) := by rcases (show t = 0 ∨ t = 1 by omega) with rfl | rfl <;> exact hra
    rw [hty] at hNm
    exact Option.some.inj (hNm.symm.trans h9)
  subst hcA
  refine kk C H1 locs la (hR.new (by rw [z1, hz]) (fun q hq => o1 q (by rw [← hz]; exact hq)) (fun c' k h => by simp [mNI, h]) (fun _ _ _ => rfl) ⟨by show t < 6; omega, ?_⟩) hL hl
  rw [e1]
  congr 2
  funext j
  rw [hty]
  rcases (show t = 0 ∨ t = 1 by omega) with rfl | rfl <;> simp [mA, mNI] <;> rfl
theorem V_anewa {idx t : Nat} {n : Int32} {N : Nat} {ret : Option FieldType} {fr lo mc ms : Nat} {nm : String} {Po : mPo} (hM : mM X B nm ret fr lo mc ms Po G) (ht : 2 ≤ t) (ht6 : t < 6) (hw : Cond.classLink own idx (mCn (mElem t)) ∈ mW) (hn : ¬ n < 0) (hN : n.toNatClampNeg = N) (hN2 : N ≤ 1000) (h1 : nc + 1 ≤ mc) (h2 : ns + N ≤ ms) (hd : decode cc pc = .ok (.anewarray idx, 3))
    (kk : V X B own cc G (nc + 1) (ns + N) (nx + 1) (mUs sh nx (.inr (t, N))) I (mNP P nx) (pc + 3) ls (.ref (B + nx) :: st)) : V X B own cc G nc ns nx sh I P pc ls (.int n :: st) := by
  obtain ⟨p, e, R, s, m, args, below, meth, c, Q⟩ := G
  intro C H locs la hR hL hl
  obtain ⟨-, -, -, hc1, hc2, -⟩ := hM
  subst hN
  have hK := C.2.2.2.2.1
  have hz : H.size = B + nx := hR.1
  have hbt : Nat.blt t 2 = false := by rcases (show t = 2 ∨ t = 3 ∨ t = 4 ∨ t = 5 by omega) with rfl | rfl | rfl | rfl <;> rfl
  have hty : mTyOf t = .object (mCn (mElem t)) := by rcases (show t = 2 ∨ t = 3 ∨ t = 4 ∨ t = 5 by omega) with rfl | rfl | rfl | rfl <;> rfl
  refine W.anew C.1 C.2.1 C.2.2.1 (C.2.2.2.1 _ hw) (va_AO.use (hK.2.2.2.2.2.2.1 t ht ht6)) rfl hd rfl hn (by omega) (by rw [hc1]; exact h1) (by rw [hc2]; exact h2) fun cA kA comp f1 f2 f3 f4 => ?_
  have hra := (mK.arr hK ht6).2
  rw [hty] at hra
  obtain ⟨kA', comp', -, -, -, k4⟩ := hra
  have hcA : cA = X.2.1 t := Option.some.inj (f1.symm.trans k4)
  subst hcA
  refine W.eq (g2 := F0 m (pc + 3) la (.ref (B + nx) :: st)) (by rw [← hz]) ?_
  refine kk C _ locs la (hR.new (by rw [Array.size_push]) (fun q hq => by rw [Array.getElem?_push, if_neg (Nat.ne_of_lt hq)]) (fun _ _ _ => rfl) (fun c' k h => by simp [mNP, h]) ⟨ht6, ?_⟩) hL hl
  rw [← hz, Array.getElem?_push_size, arrV_new]
  congr 2
  funext j
  simp [mA, hbt, mNP, mRf]
/-- new: an object of class ci, its fields 0 and null -/
theorem V_new {idx ci : Nat} {ret : Option FieldType} {fr lo mc ms : Nat} {nm : String} {Po : mPo} (hM : mM X B nm ret fr lo mc ms Po G) (hci : ci < 13) (hw : Cond.classLink own idx (mCn ci) ∈ mW) (hw2 : Cond.instantiable (mCn ci) (mNf ci) ∈ mW) (hw3 : Cond.initialized (mCn ci) ∈ mW) (hdef : ci ≠ 11 → ∀ k, k < mNf ci → (∃ ty, parseFieldDescriptor (mDesc ci k) = some ty ∧ defaultValue ty = bif mIsR ci k then .null else .int 0)) (h1 : nc + 1 ≤ mc) (h2 : ns + mNf ci ≤ ms) (hd : decode cc pc = .ok (.new idx, 3))
    (kk : V X B own cc G (nc + 1) (ns + mNf ci) (nx + 1) (mUs sh nx (.inl ci)) (mNI I nx) (mNP P nx) (pc + 3) ls (.ref (B + nx) :: st)) : V X B own cc G nc ns nx sh I P pc ls st := by
  obtain ⟨p, e, R, s, m, args, below, meth, c, Q⟩ := G
  intro C H locs la hR hL hl
  obtain ⟨-, -, -, hc1, hc2, -⟩ := hM
  have hK := C.2.2.2.2.1
  have hts := C.2.2.2.1
  have hz : H.size = B + nx := hR.1
  have hKn := hK.1.1 ci _ (mCl_at hci)
  obtain ⟨ty0, hty0⟩ := (mCls hci).2.1
  refine W.newcK C.1 C.2.1 C.2.2.1 (hts _ hw) (hts _ hw2) (hts _ hw3) rfl hd (by rw [hc1]; exact h1) (by rw [hc2]; exact h2) hKn.2.1 rfl fun H1 kC hkC e1 z1 o1 => ?_
  refine W.eq (g2 := F0 m (pc + 3) la (.ref (B + nx) :: st)) (by rw [← hz]) ?_
  refine kk C H1 locs la (hR.new z1 o1 (fun c' k h => by simp [mNI, h]) (fun c' k h => by simp [mNP, h]) ?_) hL hl
  rw [hz] at e1
  refine ⟨_, fun k => defaultValue (ty0 k), mCl_at hci, u_born ty0 hts (mCls hci).1 hKn hkC e1 hty0, fun h11 k hk => ?_⟩
  obtain ⟨ty, t1, t2⟩ := hdef h11 k hk
  have h9 : ty0 k = ty := Option.some.inj ((hty0 k hk).symm.trans t1)
  show defaultValue (ty0 k) = _
  rw [h9, t2]
  cases hb : mIsR ci k <;> simp [mF, hb, mNI, mNP, mRf]
/-! ends -/
theorem V_iret {v : Int32} {fr lo : Nat} {nm : String} {Po : mPo} (hM : mM X B nm (some .int) fr lo nc ns Po G) (hd : decode cc pc = .ok (.ireturn, 1)) (hp : Po (some (.int v)) nx sh I P) : V X B own cc G nc ns nx sh I P pc ls [.int v] := by
  obtain ⟨p, e, R, s, m, args, below, meth, c, Q⟩ := G
  intro C H locs la hR hL hl
  obtain ⟨hr, -, -, -, -, -, rfl⟩ := hM
  exact W.iret C.1 C.2.1 hr (fun t ht hW => ⟨_, _, _, _, _, rfl, hp, by rw [ht]; exact hR⟩) hL hd C.2.2.2.2.2
theorem V_zret {v : Int32} {fr lo : Nat} {nm : String} {Po : mPo} (hM : mM X B nm (some .boolean) fr lo nc ns Po G) (hv : v = 0 ∨ v = 1) (hd : decode cc pc = .ok (.ireturn, 1)) (hp : Po (some (.int v)) nx sh I P) : V X B own cc G nc ns nx sh I P pc ls [.int v] := by
  obtain ⟨p, e, R, s, m, args, below, meth, c, Q⟩ := G
  intro C H locs la hR hL hl
  obtain ⟨hr, -, -, -, -, -, rfl⟩ := hM
  exact W.zret C.1 C.2.1 hr (by rcases hv with rfl | rfl <;> rfl) (fun t ht hW => ⟨_, _, _, _, _, rfl, hp, by rw [ht]; exact hR⟩) hL hd C.2.2.2.2.2
theorem V_vret {fr lo : Nat} {nm : String} {Po : mPo} (hM : mM X B nm none fr lo nc ns Po G) (hd : decode cc pc = .ok (.return_, 1)) (hp : Po none nx sh I P) : V X B own cc G nc ns nx sh I P pc ls [] := by
  obtain ⟨p, e, R, s, m, args, below, meth, c, Q⟩ := G
  intro C H locs la hR hL hl
  obtain ⟨hr, -, -, -, -, -, rfl⟩ := hM
  exact W.vret C.1 C.2.1 hr (fun t ht hW => ⟨_, _, _, _, _, rfl, hp, by rw [ht]; exact hR⟩) hL hd C.2.2.2.2.2
theorem V_aret {v : Value} {rt : FieldType} {fr lo : Nat} {nm : String} {Po : mPo} (hM : mM X B nm (some rt) fr lo nc ns Po G) (hrt : (∃ n, rt = .object n) ∨ ∃ t, rt = .array t) (hv : v = .null ∨ ∃ a, v = .ref a) (hd : decode cc pc = .ok (.areturn, 1)) (hp : Po (some v) nx sh I P) : V X B own cc G nc ns nx sh I P pc ls [v] := by
  obtain ⟨p, e, R, s, m, args, below, meth, c, Q⟩ := G
  intro C H locs la hR hL hl
  obtain ⟨hr, -, -, -, -, -, rfl⟩ := hM
  exact W.aret C.1 C.2.1 hr hrt hv (fun t ht hW => ⟨_, _, _, _, _, rfl, hp, by rw [ht]; exact hR⟩) hL hd C.2.2.2.2.2
end VH
end
section
/-! ===== calls ===== -/
abbrev mNoMH (d : mMd) (n : Nat) : Prop := d.1.cls ≠ "java/lang/invoke/MethodHandle" ∧ d.1.cls ≠ "java/lang/invoke/VarHandle" ∧ (parseMethodDescriptor d.1.desc).map (fun q => q.parameters.length) = some n
/-- pool entry idx of own is the method d, of n parameters: words for invokevirtual, invokestatic, invokespecial -/
def mCv (own : String) (idx : Nat) (d : mMd) (n : Nat) : Prop := Cond.methodLink own idx d.1 ∈ mW ∧ Cond.instanceMethod d.1 ∈ mW ∧ Cond.selects d.1.cls d.1 d.1 ∈ mW ∧ Cond.code d.1 d.2.1 d.2.2.1 d.2.2.2.1 ∈ mW ∧ Cond.initialized d.1.cls ∈ mW ∧ mNoMH d n
def mCs (own : String) (idx : Nat) (d : mMd) (n : Nat) : Prop := Cond.methodLink own idx d.1 ∈ mW ∧ Cond.static d.1 ∈ mW ∧ Cond.code d.1 d.2.1 d.2.2.1 d.2.2.2.1 ∈ mW ∧ Cond.initialized d.1.cls ∈ mW ∧ mNoMH d n
def mCi (own : String) (idx : Nat) (d : mMd) (n : Nat) : Prop := (Cond.methodLink own idx d.1 ∈ mW ∨ ∃ host, Cond.methodLinkNest own idx d.1 host ∈ mN) ∧ Cond.instanceMethod d.1 ∈ mW ∧ Cond.code d.1 d.2.1 d.2.2.1 d.2.2.2.1 ∈ mW ∧ Cond.initialized d.1.cls ∈ mW ∧ mNoMH d n ∧ d.1.name = "<init>" ∧ d.2.2.2.1 = none
/-- an end that is told whole -/
def mDet (r : Option Value) (nx : Nat) (sh : Nat → Option mSh) (I : mI) (P : mP) : mPo := fun v nx' sh' I' P' => v = r ∧ nx' = nx ∧ sh' = sh ∧ I' = I ∧ P' = P
theorem mDet.rf {r : Option Value} {nx : Nat} {sh : Nat → Option mSh} {I : mI} {P : mP} : mDet r nx sh I P r nx sh I P := ⟨rfl, rfl, rfl, rfl, rfl⟩
section VC
variable {X : mX} {B : Nat} {own : String} {cc : ByteArray} {G : mG} {nc ns nx : Nat} {sh : Nat → Option mSh} {I : mI} {P : mP} {pc : Nat} {ls : List (Option Value)} {st : List Value}
variable {nm : String} {ret : Option FieldType} {fr lo mc ms : Nat} {Po Po0 : mPo} {d : mMd} {mc0 ms0 idx n : Nat} {r0 : Option Value} {z0 : Value} {nx1 : Nat} {sh1 : Nat → Option mSh} {I1 : mI} {P1 : mP}
theorem mPc_blind {av : List Value} : FrameBlind (mPc X B av nx sh I P) := fun a U g mk q => ⟨q.1, q.2.1, mK.same (s := U) rfl q.2.2⟩
abbrev mRoom (d : mMd) (nc ns fr lo mc ms mc0 ms0 : Nat) : Prop := d.2.2.2.2.1 + 1 ≤ fr ∧ 8 + (d.2.2.1 + 11) + d.2.2.2.2.2 ≤ lo ∧ nc + mc0 ≤ mc ∧ ns + ms0 ≤ ms
/-- behind a call -/
theorem V_run {st0 rest : List Value} {a : Array Value}
    (hr : ∀ p e R s m args below meth c Q, G = (p, e, R, s, m, args, below, meth, c, Q) → mCx X B own cc p s m args meth c → ∀ (H : Heap) (locs : List Loc) (la : Array Slot), mRel X B nx sh I P H → mLs c la ls → va_Run p X.2.2.2.2.2 e R s m args below meth c H locs nc ns mc0 ms0 (F0 m pc la st0) rest (mQc X B Po0 a) (fun q => B ≤ q))
    (kk : ∀ (v : Option Value) (nx' : Nat) (sh' : Nat → Option mSh) (I' : mI) (P' : mP), Po0 v nx' sh' I' P' → V X B own cc G (nc + mc0) (ns + ms0) nx' sh' I' P' (pc + 3) ls (v.toList ++ rest)) : V X B own cc G nc ns nx sh I P pc ls st0 := by
  obtain ⟨p, e, R, s, m, args, below, meth, c, Q⟩ := G
  intro C H locs la hR hL hl T hT Xx
  obtain ⟨v, st₀, t, T', L, h0, X', hL', e1, e2, ⟨v', nx', sh', I', P', hv, hp, hR'⟩, go⟩ := hr p e R s m args below meth c Q rfl C H locs la hR hl T hT Xx
  cases hv
  have hL2 : ∀ q ∈ locs ++ L, B ≤ q.base := fun q hq => by
    rcases List.mem_append.mp hq with h | h
    · exact hL q h
    · exact hL' q h
  obtain ⟨t2, a1, b1⟩ := kk v nx' sh' I' P' hp C T'.heap (locs ++ L) la (by rw [e1]; exact hR') hL2 hl T' rfl X'
  exact ⟨t2, go t2 a1, b1⟩
theorem V_callV {ci a : Nat} {As rest : List Value} (hM : mM X B nm ret fr lo mc ms Po G) (hc : mCv own idx d n) (hs : sh a = some (.inl ci)) (hcn : mCn ci = d.1.cls) (hE : Ev X B d mc0 ms0 (.ref (B + a) :: As) nx sh I P Po0) (hn : As.length = n) (hr : mRoom d nc ns fr lo mc ms mc0 ms0) (hst : (rest.map fun v => v.category).sum ≤ 8) (hd : decode cc pc = .ok (.invokevirtual idx, 3)) (hstk : st = As.reverse ++ .ref (B + a) :: rest)
    (kk : ∀ (v : Option Value) (nx' : Nat) (sh' : Nat → Option mSh) (I' : mI) (P' : mP), Po0 v nx' sh' I' P' → V X B own cc G (nc + mc0) (ns + ms0) nx' sh' I' P' (pc + 3) ls (v.toList ++ rest)) : V X B own cc G nc ns nx sh I P pc ls st := by
  subst hstk
  refine V_run (a := (Value.ref (B + a) :: As).toArray) (fun p e R s m args below meth c Q hG C H locs la hR hl => ?_) kk
  subst hG
  obtain ⟨-, rfl, rfl, rfl, rfl, -, -⟩ := hM
  obtain ⟨hx, hb, hown, hts, hK, -⟩ := C
  obtain ⟨hci, V0, cell, q1, q2, q3, -⟩ := (hR.2.2 a _ hs).obj
  have hcls := (hK.1.1 _ _ (mCl_at hci)).2
  obtain ⟨w1, w2, w3, w4, w5, w6⟩ := hc
  exact va_runV (nL := c.maxLocals) ⟨hx, hb, rfl, hown, hts⟩ hE ⟨⟨rfl, rfl, hr.1, hr.2.1, fun w hw a' U hW => (List.mem_cons.mp hw).elim (fun h => by rw [h]; exact pay_in hts mW_good _ w4 a' U hW) (fun h => pay_in hts mW_good _ h a' U hW), List.mem_cons_self, hts _ w4, hts _ w5, ⟨w6.1, w6.2.1⟩, fun sig h => by have h2 := w6.2.2; rw [h] at h2; exact (Option.some.inj h2).symm, hts _ w1⟩, hts _ w2, hts _ w3⟩
    ⟨mPc_blind, ⟨cell, q1, by rw [q3]; rfl, by rw [q2, ← hcn]; exact hcls.1⟩, fun U hU hW => ⟨rfl, by rw [hU]; exact hR, hK.warm hW⟩⟩ rfl hn hl.1 rfl (lv_room hst) hd ⟨hr.2.2.1, hr.2.2.2⟩
theorem V_callS {As rest : List Value} (hM : mM X B nm ret fr lo mc ms Po G) (hc : mCs own idx d n) (hE : Ev X B d mc0 ms0 As nx sh I P Po0) (hn : As.length = n) (hr : mRoom d nc ns fr lo mc ms mc0 ms0) (hst : (rest.map fun v => v.category).sum ≤ 8) (hd : decode cc pc = .ok (.invokestatic idx, 3)) (hstk : st = As.reverse ++ rest)
    (kk : ∀ (v : Option Value) (nx' : Nat) (sh' : Nat → Option mSh) (I' : mI) (P' : mP), Po0 v nx' sh' I' P' → V X B own cc G (nc + mc0) (ns + ms0) nx' sh' I' P' (pc + 3) ls (v.toList ++ rest)) : V X B own cc G nc ns nx sh I P pc ls st := by
  subst hstk
  refine V_run (a := As.toArray) (fun p e R s m args below meth c Q hG C H locs la hR hl => ?_) kk
  subst hG
  obtain ⟨-, rfl, rfl, rfl, rfl, -, -⟩ := hM
  obtain ⟨hx, hb, hown, hts, hK, -⟩ := C
  obtain ⟨w1, w2, w4, w5, w6⟩ := hc
  exact va_runS (nL := c.maxLocals) ⟨hx, hb, rfl, hown, hts⟩ hE ⟨⟨rfl, rfl, hr.1, hr.2.1, fun w hw a' U hW => (List.mem_cons.mp hw).elim (fun h => by rw [h]; exact pay_in hts mW_good _ w4 a' U hW) (fun h => pay_in hts mW_good _ h a' U hW), List.mem_cons_self, hts _ w4, hts _ w5, ⟨w6.1, w6.2.1⟩, fun sig h => by have h2 := w6.2.2; rw [h] at h2; exact (Option.some.inj h2).symm, hts _ w1⟩, hts _ w2⟩
    ⟨mPc_blind, fun U hU hW => ⟨rfl, by rw [hU]; exact hR, hK.warm hW⟩⟩ rfl hn hl.1 rfl (lv_room hst) hd ⟨hr.2.2.1, hr.2.2.2⟩
theorem V_callI {b : Nat} {As rest : List Value} (hM : mM X B nm ret fr lo mc ms Po G) (hc : mCi own idx d n) (hE : Ev X B d mc0 ms0 (.ref b :: As) nx sh I P Po0) (hn : As.length = n) (hr : mRoom d nc ns fr lo mc ms mc0 ms0) (hst : (rest.map fun v => v.category).sum ≤ 8) (hd : decode cc pc = .ok (.invokespecial idx, 3)) (hstk : st = As.reverse ++ .ref b :: rest)
    (kk : ∀ (v : Option Value) (nx' : Nat) (sh' : Nat → Option mSh) (I' : mI) (P' : mP), Po0 v nx' sh' I' P' → V X B own cc G (nc + mc0) (ns + ms0) nx' sh' I' P' (pc + 3) ls (v.toList ++ rest)) : V X B own cc G nc ns nx sh I P pc ls st := by
  subst hstk
  refine V_run (a := (Value.ref b :: As).toArray) (fun p e R s m args below meth c Q hG C H locs la hR hl => ?_) kk
  subst hG
  obtain ⟨-, rfl, rfl, rfl, rfl, -, -⟩ := hM
  obtain ⟨hx, hb, hown, hts, hK, -⟩ := C
  obtain ⟨y, cy, maxL, rt, fr0, lo0⟩ := d
  obtain ⟨w1, w2, w4, w5, w6, w7, w8⟩ := hc
  have w8 : rt = none := w8
  subst w8
  have hws : ∀ w ∈ (Cond.code y cy maxL none :: mW), ∀ (a' : Array Value) (U : State), s.WarmedH U.vm → w.before a' U = true := fun w hw a' U hW => (List.mem_cons.mp hw).elim (fun h => by rw [h]; exact pay_in hts mW_good _ w4 a' U hW) (fun h => pay_in hts mW_good _ h a' U hW)
  have hpar : ∀ sig, parseMethodDescriptor y.desc = some sig → n = sig.parameters.length := fun sig h => by have h2 := w6.2.2; rw [h] at h2; exact (Option.some.inj h2).symm
  rcases w1 with w1 | ⟨host, w1⟩
  · exact va_runI (nL := c.maxLocals) ⟨hx, hb, rfl, hown, hts⟩ hE ⟨⟨rfl, rfl, hr.1, hr.2.1, hws, List.mem_cons_self, hts _ w4, hts _ w5, ⟨w6.1, w6.2.1⟩, hpar, hts _ w1⟩, w7, hts _ w2⟩
      ⟨mPc_blind, fun U hU hW => ⟨rfl, by rw [hU]; exact hR, hK.warm hW⟩⟩ rfl hn hl.1 rfl (lv_room hst) hd ⟨hr.2.2.1, hr.2.2.2⟩
  · exact va_runIN (nL := c.maxLocals) ⟨hx, hb, rfl, hown, hts⟩ hE ⟨⟨⟨rfl, rfl, hr.1, hr.2.1, hws, List.mem_cons_self⟩, hts _ w4, hts _ w5, ⟨w6.1, w6.2.1⟩, hpar, va_Nw.use (by rfl) (hK.2.1 _ w1)⟩, w7, hts _ w2⟩
      ⟨mPc_blind, fun U hU hW => ⟨rfl, by rw [hU]; exact hR, hK.warm hW⟩⟩ rfl hn hl.1 rfl (lv_room hst) hd ⟨hr.2.2.1, hr.2.2.2⟩
/-- Object's constructor -/
theorem V_obj {a : Nat} (hM : mM X B nm ret fr lo mc ms Po G) (hw : Cond.methodLink own idx Lib.objectInit ∈ mW) (hw2 : Cond.instanceMethod Lib.objectInit ∈ mW) (hw3 : Cond.code Lib.objectInit ⟨#[0xb1]⟩ 1 none ∈ mW) (hf : 1 ≤ fr) (hlo : (st.map fun v => v.category).sum + 12 ≤ lo) (hd : decode cc pc = .ok (.invokespecial idx, 3)) (kk : V X B own cc G nc ns nx sh I P (pc + 3) ls st) : V X B own cc G nc ns nx sh I P pc ls (.ref a :: st) := by
  obtain ⟨p, e, R, s, m, args, below, meth, c, Q⟩ := G
  intro C H locs la hR hL hl
  obtain ⟨-, rfl, rfl, rfl, rfl, -, -⟩ := hM
  exact W.objInit C.1 C.2.1 C.2.2.1 (C.2.2.2.1 _ hw) (C.2.2.2.1 _ hw2) (C.2.2.2.1 _ hw3) rfl hl.1 rfl hd hf (by show 2 * 0 + _ + 12 ≤ _; omega) (kk C H locs la hR hL hl)
theorem V_max {x y : Int32} (hM : mM X B nm ret fr lo mc ms Po G) (hw : Cond.methodLink own idx Lib.Math.max.name ∈ mW) (hw2 : Cond.static Lib.Math.max.name ∈ mW) (hw3 : Cond.initialized "java/lang/Math" ∈ mW) (hw4 : Cond.code Lib.Math.max.name Lib.Math.max.code 2 (some .int) ∈ mW) (hf : 1 ≤ fr) (hlo : (st.map fun v => v.category).sum + 13 ≤ lo) (h1 : nc ≤ mc) (h2 : ns ≤ ms) (hd : decode cc pc = .ok (.invokestatic idx, 3)) (kk : V X B own cc G nc ns nx sh I P (pc + 3) ls (.int (if x < y then y else x) :: st)) : V X B own cc G nc ns nx sh I P pc ls (.int y :: .int x :: st) := by
  obtain ⟨p, e, R, s, m, args, below, meth, c, Q⟩ := G
  intro C H locs la hR hL hl
  obtain ⟨-, rfl, rfl, rfl, rfl, -, -⟩ := hM
  exact va_mmax C.1 C.2.1 hl.1.symm C.2.2.1 (C.2.2.2.1 _ hw) (C.2.2.2.1 _ hw2) (C.2.2.2.1 _ hw3) (C.2.2.2.1 _ hw4) hf hlo h1 h2 hd (kk C H locs la hR hL hl)
theorem V_min {x y : Int32} (hM : mM X B nm ret fr lo mc ms Po G) (hw : Cond.methodLink own idx Lib.Math.min.name ∈ mW) (hw2 : Cond.static Lib.Math.min.name ∈ mW) (hw3 : Cond.initialized "java/lang/Math" ∈ mW) (hw4 : Cond.code Lib.Math.min.name Lib.Math.min.code 2 (some .int) ∈ mW) (hf : 1 ≤ fr) (hlo : (st.map fun v => v.category).sum + 13 ≤ lo) (h1 : nc ≤ mc) (h2 : ns ≤ ms) (hd : decode cc pc = .ok (.invokestatic idx, 3)) (kk : V X B own cc G nc ns nx sh I P (pc + 3) ls (.int (if y < x then y else x) :: st)) : V X B own cc G nc ns nx sh I P pc ls (.int y :: .int x :: st) := by
  obtain ⟨p, e, R, s, m, args, below, meth, c, Q⟩ := G
  intro C H locs la hR hL hl
  obtain ⟨-, rfl, rfl, rfl, rfl, -, -⟩ := hM
  exact va_mmin C.1 C.2.1 hl.1.symm C.2.2.1 (C.2.2.2.1 _ hw) (C.2.2.2.1 _ hw2) (C.2.2.2.1 _ hw3) (C.2.2.2.1 _ hw4) hf hlo h1 h2 hd (kk C H locs la hR hL hl)
/-- a String constant -/
theorem V_ldcS {i : Nat} {tx : String} (hi : mSr[i]? = some (own, idx, tx)) (hd : decode cc pc = .ok (.ldc idx, 2)) (kk : V X B own cc G nc ns nx sh I P (pc + 2) ls (.ref (X.2.2.2.1 i) :: st)) : V X B own cc G nc ns nx sh I P pc ls st := by
  obtain ⟨p, e, R, s, m, args, below, meth, c, Q⟩ := G
  intro C H locs la hR hL hl
  exact va_ldcS C.1 C.2.1 C.2.2.1 (C.2.2.2.2.1.2.2.2.1 i _ hi) hd (kk C H locs la hR hL hl)
theorem V_cV0 {ci a : Nat} (hM : mM X B nm ret fr lo mc ms Po G) (hc : mCv own idx d 0) (hs : sh a = some (.inl ci)) (hcn : mCn ci = d.1.cls) (hE : Ev X B d mc0 ms0 (.ref (B + a) :: []) nx sh I P Po0) (hr : mRoom d nc ns fr lo mc ms mc0 ms0) (hst : (st.map fun v => v.category).sum ≤ 8) (hd : decode cc pc = .ok (.invokevirtual idx, 3)) (kk : ∀ (v : Option Value) (nx1 : Nat) (sh1 : Nat → Option mSh) (I1 : mI) (P1 : mP), Po0 v nx1 sh1 I1 P1 → V X B own cc G (nc + mc0) (ns + ms0) nx1 sh1 I1 P1 (pc + 3) ls (v.toList ++ st)) : V X B own cc G nc ns nx sh I P pc ls (.ref (B + a) :: st) := V_callV hM hc hs hcn hE rfl hr hst hd rfl kk
theorem V_cV0d {ci a : Nat} (hM : mM X B nm ret fr lo mc ms Po G) (hc : mCv own idx d 0) (hs : sh a = some (.inl ci)) (hcn : mCn ci = d.1.cls) (hE : Ev X B d mc0 ms0 (.ref (B + a) :: []) nx sh I P (mDet (some z0) nx1 sh1 I1 P1)) (hr : mRoom d nc ns fr lo mc ms mc0 ms0) (hst : (st.map fun v => v.category).sum ≤ 8) (hd : decode cc pc = .ok (.invokevirtual idx, 3)) (kk : V X B own cc G (nc + mc0) (ns + ms0) nx1 sh1 I1 P1 (pc + 3) ls (z0 :: st)) : V X B own cc G nc ns nx sh I P pc ls (.ref (B + a) :: st) := V_callV hM hc hs hcn hE rfl hr hst hd rfl (fun v nx2 sh2 I2 P2 h => by obtain ⟨rfl, rfl, rfl, rfl, rfl⟩ := h; exact kk)
theorem V_cV0n {ci a : Nat} (hM : mM X B nm ret fr lo mc ms Po G) (hc : mCv own idx d 0) (hs : sh a = some (.inl ci)) (hcn : mCn ci = d.1.cls) (hE : Ev X B d mc0 ms0 (.ref (B + a) :: []) nx sh I P (mDet none nx1 sh1 I1 P1)) (hr : mRoom d nc ns fr lo mc ms mc0 ms0) (hst : (st.map fun v => v.category).sum ≤ 8) (hd : decode cc pc = .ok (.invokevirtual idx, 3)) (kk : V X B own cc G (nc + mc0) (ns + ms0) nx1 sh1 I1 P1 (pc + 3) ls st) : V X B own cc G nc ns nx sh I P pc ls (.ref (B + a) :: st) := V_callV hM hc hs hcn hE rfl hr hst hd rfl (fun v nx2 sh2 I2 P2 h => by obtain ⟨rfl, rfl, rfl, rfl, rfl⟩ := h; exact kk)
theorem V_cV1 {ci a : Nat} {z1 : Value} (hM : mM X B nm ret fr lo mc ms Po G) (hc : mCv own idx d 1) (hs : sh a = some (.inl ci)) (hcn : mCn ci = d.1.cls) (hE : Ev X B d mc0 ms0 (.ref (B + a) :: [z1]) nx sh I P Po0) (hr : mRoom d nc ns fr lo mc ms mc0 ms0) (hst : (st.map fun v => v.category).sum ≤ 8) (hd : decode cc pc = .ok (.invokevirtual idx, 3)) (kk : ∀ (v : Option Value) (nx1 : Nat) (sh1 : Nat → Option mSh) (I1 : mI) (P1 : mP), Po0 v nx1 sh1 I1 P1 → V X B own cc G (nc + mc0) (ns + ms0) nx1 sh1 I1 P1 (pc + 3) ls (v.toList ++ st)) : V X B own cc G nc ns nx sh I P pc ls (z1 :: .ref (B + a) :: st) := V_callV hM hc hs hcn hE rfl hr hst hd rfl kk
theorem V_cV1d {ci a : Nat} {z1 : Value} (hM : mM X B nm ret fr lo mc ms Po G) (hc : mCv own idx d 1) (hs : sh a = some (.inl ci)) (hcn : mCn ci = d.1.cls) (hE : Ev X B d mc0 ms0 (.ref (B + a) :: [z1]) nx sh I P (mDet (some z0) nx1 sh1 I1 P1)) (hr : mRoom d nc ns fr lo mc ms mc0 ms0) (hst : (st.map fun v => v.category).sum ≤ 8) (hd : decode cc pc = .ok (.invokevirtual idx, 3)) (kk : V X B own cc G (nc + mc0) (ns + ms0) nx1 sh1 I1 P1 (pc + 3) ls (z0 :: st)) : V X B own cc G nc ns nx sh I P pc ls (z1 :: .ref (B + a) :: st) := V_callV hM hc hs hcn hE rfl hr hst hd rfl (fun v nx2 sh2 I2 P2 h => by obtain ⟨rfl, rfl, rfl, rfl, rfl⟩ := h; exact kk)
theorem V_cV1n {ci a : Nat} {z1 : Value} (hM : mM X B nm ret fr lo mc ms Po G) (hc : mCv own idx d 1) (hs : sh a = some (.inl ci)) (hcn : mCn ci = d.1.cls) (hE : Ev X B d mc0 ms0 (.ref (B + a) :: [z1]) nx sh I P (mDet none nx1 sh1 I1 P1)) (hr : mRoom d nc ns fr lo mc ms mc0 ms0) (hst : (st.map fun v => v.category).sum ≤ 8) (hd : decode cc pc = .ok (.invokevirtual idx, 3)) (kk : V X B own cc G (nc + mc0) (ns + ms0) nx1 sh1 I1 P1 (pc + 3) ls st) : V X B own cc G nc ns nx sh I P pc ls (z1 :: .ref (B + a) :: st) := V_callV hM hc hs hcn hE rfl hr hst hd rfl (fun v nx2 sh2 I2 P2 h => by obtain ⟨rfl, rfl, rfl, rfl, rfl⟩ := h; exact kk)
theorem V_cV2 {ci a : Nat} {z1 z2 : Value} (hM : mM X B nm ret fr lo mc ms Po G) (hc : mCv own idx d 2) (hs : sh a = some (.inl ci)) (hcn : mCn ci = d.1.cls) (hE : Ev X B d mc0 ms0 (.ref (B + a) :: [z1, z2]) nx sh I P Po0) (hr : mRoom d nc ns fr lo mc ms mc0 ms0) (hst : (st.map fun v => v.category).sum ≤ 8) (hd : decode cc pc = .ok (.invokevirtual idx, 3)) (kk : ∀ (v : Option Value) (nx1 : Nat) (sh1 : Nat → Option mSh) (I1 : mI) (P1 : mP), Po0 v nx1 sh1 I1 P1 → V X B own cc G (nc + mc0) (ns + ms0) nx1 sh1 I1 P1 (pc + 3) ls (v.toList ++ st)) : V X B own cc G nc ns nx sh I P pc ls (z2 :: z1 :: .ref (B + a) :: st) := V_callV hM hc hs hcn hE rfl hr hst hd rfl kk
theorem V_cV2d {ci a : Nat} {z1 z2 : Value} (hM : mM X B nm ret fr lo mc ms Po G) (hc : mCv own idx d 2) (hs : sh a = some (.inl ci)) (hcn : mCn ci = d.1.cls) (hE : Ev X B d mc0 ms0 (.ref (B + a) :: [z1, z2]) nx sh I P (mDet (some z0) nx1 sh1 I1 P1)) (hr : mRoom d nc ns fr lo mc ms mc0 ms0) (hst : (st.map fun v => v.category).sum ≤ 8) (hd : decode cc pc = .ok (.invokevirtual idx, 3)) (kk : V X B own cc G (nc + mc0) (ns + ms0) nx1 sh1 I1 P1 (pc + 3) ls (z0 :: st)) : V X B own cc G nc ns nx sh I P pc ls (z2 :: z1 :: .ref (B + a) :: st) := V_callV hM hc hs hcn hE rfl hr hst hd rfl (fun v nx2 sh2 I2 P2 h => by obtain ⟨rfl, rfl, rfl, rfl, rfl⟩ := h; exact kk)
theorem V_cV2n {ci a : Nat} {z1 z2 : Value} (hM : mM X B nm ret fr lo mc ms Po G) (hc : mCv own idx d 2) (hs : sh a = some (.inl ci)) (hcn : mCn ci = d.1.cls) (hE : Ev X B d mc0 ms0 (.ref (B + a) :: [z1, z2]) nx sh I P (mDet none nx1 sh1 I1 P1)) (hr : mRoom d nc ns fr lo mc ms mc0 ms0) (hst : (st.map fun v => v.category).sum ≤ 8) (hd : decode cc pc = .ok (.invokevirtual idx, 3)) (kk : V X B own cc G (nc + mc0) (ns + ms0) nx1 sh1 I1 P1 (pc + 3) ls st) : V X B own cc G nc ns nx sh I P pc ls (z2 :: z1 :: .ref (B + a) :: st) := V_callV hM hc hs hcn hE rfl hr hst hd rfl (fun v nx2 sh2 I2 P2 h => by obtain ⟨rfl, rfl, rfl, rfl, rfl⟩ := h; exact kk)
theorem V_cV3 {ci a : Nat} {z1 z2 z3 : Value} (hM : mM X B nm ret fr lo mc ms Po G) (hc : mCv own idx d 3) (hs : sh a = some (.inl ci)) (hcn : mCn ci = d.1.cls) (hE : Ev X B d mc0 ms0 (.ref (B + a) :: [z1, z2, z3]) nx sh I P Po0) (hr : mRoom d nc ns fr lo mc ms mc0 ms0) (hst : (st.map fun v => v.category).sum ≤ 8) (hd : decode cc pc = .ok (.invokevirtual idx, 3)) (kk : ∀ (v : Option Value) (nx1 : Nat) (sh1 : Nat → Option mSh) (I1 : mI) (P1 : mP), Po0 v nx1 sh1 I1 P1 → V X B own cc G (nc + mc0) (ns + ms0) nx1 sh1 I1 P1 (pc + 3) ls (v.toList ++ st)) : V X B own cc G nc ns nx sh I P pc ls (z3 :: z2 :: z1 :: .ref (B + a) :: st) := V_callV hM hc hs hcn hE rfl hr hst hd rfl kk
theorem V_cV3d {ci a : Nat} {z1 z2 z3 : Value} (hM : mM X B nm ret fr lo mc ms Po G) (hc : mCv own idx d 3) (hs : sh a = some (.inl ci)) (hcn : mCn ci = d.1.cls) (hE : Ev X B d mc0 ms0 (.ref (B + a) :: [z1, z2, z3]) nx sh I P (mDet (some z0) nx1 sh1 I1 P1)) (hr : mRoom d nc ns fr lo mc ms mc0 ms0) (hst : (st.map fun v => v.category).sum ≤ 8) (hd : decode cc pc = .ok (.invokevirtual idx, 3)) (kk : V X B own cc G (nc + mc0) (ns + ms0) nx1 sh1 I1 P1 (pc + 3) ls (z0 :: st)) : V X B own cc G nc ns nx sh I P pc ls (z3 :: z2 :: z1 :: .ref (B + a) :: st) := V_callV hM hc hs hcn hE rfl hr hst hd rfl (fun v nx2 sh2 I2 P2 h => by obtain ⟨rfl, rfl, rfl, rfl, rfl⟩ := h; exact kk)
theorem V_cV3n {ci a : Nat} {z1 z2 z3 : Value} (hM : mM X B nm ret fr lo mc ms Po G) (hc : mCv own idx d 3) (hs : sh a = some (.inl ci)) (hcn : mCn ci = d.1.cls) (hE : Ev X B d mc0 ms0 (.ref (B + a) :: [z1, z2, z3]) nx sh I P (mDet none nx1 sh1 I1 P1)) (hr : mRoom d nc ns fr lo mc ms mc0 ms0) (hst : (st.map fun v => v.category).sum ≤ 8) (hd : decode cc pc = .ok (.invokevirtual idx, 3)) (kk : V X B own cc G (nc + mc0) (ns + ms0) nx1 sh1 I1 P1 (pc + 3) ls st) : V X B own cc G nc ns nx sh I P pc ls (z3 :: z2 :: z1 :: .ref (B + a) :: st) := V_callV hM hc hs hcn hE rfl hr hst hd rfl (fun v nx2 sh2 I2 P2 h => by obtain ⟨rfl, rfl, rfl, rfl, rfl⟩ := h; exact kk)
theorem V_cV4 {ci a : Nat} {z1 z2 z3 z4 : Value} (hM : mM X B nm ret fr lo mc ms Po G) (hc : mCv own idx d 4) (hs : sh a = some (.inl ci)) (hcn : mCn ci = d.1.cls) (hE : Ev X B d mc0 ms0 (.ref (B + a) :: [z1, z2, z3, z4]) nx sh I P Po0) (hr : mRoom d nc ns fr lo mc ms mc0 ms0) (hst : (st.map fun v => v.category).sum ≤ 8) (hd : decode cc pc = .ok (.invokevirtual idx, 3)) (kk : ∀ (v : Option Value) (nx1 : Nat) (sh1 : Nat → Option mSh) (I1 : mI) (P1 : mP), Po0 v nx1 sh1 I1 P1 → V X B own cc G (nc + mc0) (ns + ms0) nx1 sh1 I1 P1 (pc + 3) ls (v.toList ++ st)) : V X B own cc G nc ns nx sh I P pc ls (z4 :: z3 :: z2 :: z1 :: .ref (B + a) :: st) := V_callV hM hc hs hcn hE rfl hr hst hd rfl kk
theorem V_cV4d {ci a : Nat} {z1 z2 z3 z4 : Value} (hM : mM X B nm ret fr lo mc ms Po G) (hc : mCv own idx d 4) (hs : sh a = some (.inl ci)) (hcn : mCn ci = d.1.cls) (hE : Ev X B d mc0 ms0 (.ref (B + a) :: [z1, z2, z3, z4]) nx sh I P (mDet (some z0) nx1 sh1 I1 P1)) (hr : mRoom d nc ns fr lo mc ms mc0 ms0) (hst : (st.map fun v => v.category).sum ≤ 8) (hd : decode cc pc = .ok (.invokevirtual idx, 3)) (kk : V X B own cc G (nc + mc0) (ns + ms0) nx1 sh1 I1 P1 (pc + 3) ls (z0 :: st)) : V X B own cc G nc ns nx sh I P pc ls (z4 :: z3 :: z2 :: z1 :: .ref (B + a) :: st) := V_callV hM hc hs hcn hE rfl hr hst hd rfl (fun v nx2 sh2 I2 P2 h => by obtain ⟨rfl, rfl, rfl, rfl, rfl⟩ := h; exact kk)
theorem V_cV4n {ci a : Nat} {z1 z2 z3 z4 : Value} (hM : mM X B nm ret fr lo mc ms Po G) (hc : mCv own idx d 4) (hs : sh a = some (.inl ci)) (hcn : mCn ci = d.1.cls) (hE : Ev X B d mc0 ms0 (.ref (B + a) :: [z1, z2, z3, z4]) nx sh I P (mDet none nx1 sh1 I1 P1)) (hr : mRoom d nc ns fr lo mc ms mc0 ms0) (hst : (st.map fun v => v.category).sum ≤ 8) (hd : decode cc pc = .ok (.invokevirtual idx, 3)) (kk : V X B own cc G (nc + mc0) (ns + ms0) nx1 sh1 I1 P1 (pc + 3) ls st) : V X B own cc G nc ns nx sh I P pc ls (z4 :: z3 :: z2 :: z1 :: .ref (B + a) :: st) := V_callV hM hc hs hcn hE rfl hr hst hd rfl (fun v nx2 sh2 I2 P2 h => by obtain ⟨rfl, rfl, rfl, rfl, rfl⟩ := h; exact kk)
theorem V_cV5 {ci a : Nat} {z1 z2 z3 z4 z5 : Value} (hM : mM X B nm ret fr lo mc ms Po G) (hc : mCv own idx d 5) (hs : sh a = some (.inl ci)) (hcn : mCn ci = d.1.cls) (hE : Ev X B d mc0 ms0 (.ref (B + a) :: [z1, z2, z3, z4, z5]) nx sh I P Po0) (hr : mRoom d nc ns fr lo mc ms mc0 ms0) (hst : (st.map fun v => v.category).sum ≤ 8) (hd : decode cc pc = .ok (.invokevirtual idx, 3)) (kk : ∀ (v : Option Value) (nx1 : Nat) (sh1 : Nat → Option mSh) (I1 : mI) (P1 : mP), Po0 v nx1 sh1 I1 P1 → V X B own cc G (nc + mc0) (ns + ms0) nx1 sh1 I1 P1 (pc + 3) ls (v.toList ++ st)) : V X B own cc G nc ns nx sh I P pc ls (z5 :: z4 :: z3 :: z2 :: z1 :: .ref (B + a) :: st) := V_callV hM hc hs hcn hE rfl hr hst hd rfl kk
theorem V_cV5d {ci a : Nat} {z1 z2 z3 z4 z5 : Value} (hM : mM X B nm ret fr lo mc ms Po G) (hc : mCv own idx d 5) (hs : sh a = some (.inl ci)) (hcn : mCn ci = d.1.cls) (hE : Ev X B d mc0 ms0 (.ref (B + a) :: [z1, z2, z3, z4, z5]) nx sh I P (mDet (some z0) nx1 sh1 I1 P1)) (hr : mRoom d nc ns fr lo mc ms mc0 ms0) (hst : (st.map fun v => v.category).sum ≤ 8) (hd : decode cc pc = .ok (.invokevirtual idx, 3)) (kk : V X B own cc G (nc + mc0) (ns + ms0) nx1 sh1 I1 P1 (pc + 3) ls (z0 :: st)) : V X B own cc G nc ns nx sh I P pc ls (z5 :: z4 :: z3 :: z2 :: z1 :: .ref (B + a) :: st) := V_callV hM hc hs hcn hE rfl hr hst hd rfl (fun v nx2 sh2 I2 P2 h => by obtain ⟨rfl, rfl, rfl, rfl, rfl⟩ := h; exact kk)
theorem V_cV5n {ci a : Nat} {z1 z2 z3 z4 z5 : Value} (hM : mM X B nm ret fr lo mc ms Po G) (hc : mCv own idx d 5) (hs : sh a = some (.inl ci)) (hcn : mCn ci = d.1.cls) (hE : Ev X B d mc0 ms0 (.ref (B + a) :: [z1, z2, z3, z4, z5]) nx sh I P (mDet none nx1 sh1 I1 P1)) (hr : mRoom d nc ns fr lo mc ms mc0 ms0) (hst : (st.map fun v => v.category).sum ≤ 8) (hd : decode cc pc = .ok (.invokevirtual idx, 3)) (kk : V X B own cc G (nc + mc0) (ns + ms0) nx1 sh1 I1 P1 (pc + 3) ls st) : V X B own cc G nc ns nx sh I P pc ls (z5 :: z4 :: z3 :: z2 :: z1 :: .ref (B + a) :: st) := V_callV hM hc hs hcn hE rfl hr hst hd rfl (fun v nx2 sh2 I2 P2 h => by obtain ⟨rfl, rfl, rfl, rfl, rfl⟩ := h; exact kk)
theorem V_cV6 {ci a : Nat} {z1 z2 z3 z4 z5 z6 : Value} (hM : mM X B nm ret fr lo mc ms Po G) (hc : mCv own idx d 6) (hs : sh a = some (.inl ci)) (hcn : mCn ci = d.1.cls) (hE : Ev X B d mc0 ms0 (.ref (B + a) :: [z1, z2, z3, z4, z5, z6]) nx sh I P Po0) (hr : mRoom d nc ns fr lo mc ms mc0 ms0) (hst : (st.map fun v => v.category).sum ≤ 8) (hd : decode cc pc = .ok (.invokevirtual idx, 3)) (kk : ∀ (v : Option Value) (nx1 : Nat) (sh1 : Nat → Option mSh) (I1 : mI) (P1 : mP), Po0 v nx1 sh1 I1 P1 → V X B own cc G (nc + mc0) (ns + ms0) nx1 sh1 I1 P1 (pc + 3) ls (v.toList ++ st)) : V X B own cc G nc ns nx sh I P pc ls (z6 :: z5 :: z4 :: z3 :: z2 :: z1 :: .ref (B + a) :: st) := V_callV hM hc hs hcn hE rfl hr hst hd rfl kk
theorem V_cV6d {ci a : Nat} {z1 z2 z3 z4 z5 z6 : Value} (hM : mM X B nm ret fr lo mc ms Po G) (hc : mCv own idx d 6) (hs : sh a = some (.inl ci)) (hcn : mCn ci = d.1.cls) (hE : Ev X B d mc0 ms0 (.ref (B + a) :: [z1, z2, z3, z4, z5, z6]) nx sh I P (mDet (some z0) nx1 sh1 I1 P1)) (hr : mRoom d nc ns fr lo mc ms mc0 ms0) (hst : (st.map fun v => v.category).sum ≤ 8) (hd : decode cc pc = .ok (.invokevirtual idx, 3)) (kk : V X B own cc G (nc + mc0) (ns + ms0) nx1 sh1 I1 P1 (pc + 3) ls (z0 :: st)) : V X B own cc G nc ns nx sh I P pc ls (z6 :: z5 :: z4 :: z3 :: z2 :: z1 :: .ref (B + a) :: st) := V_callV hM hc hs hcn hE rfl hr hst hd rfl (fun v nx2 sh2 I2 P2 h => by obtain ⟨rfl, rfl, rfl, rfl, rfl⟩ := h; exact kk)
theorem V_cV6n {ci a : Nat} {z1 z2 z3 z4 z5 z6 : Value} (hM : mM X B nm ret fr lo mc ms Po G) (hc : mCv own idx d 6) (hs : sh a = some (.inl ci)) (hcn : mCn ci = d.1.cls) (hE : Ev X B d mc0 ms0 (.ref (B + a) :: [z1, z2, z3, z4, z5, z6]) nx sh I P (mDet none nx1 sh1 I1 P1)) (hr : mRoom d nc ns fr lo mc ms mc0 ms0) (hst : (st.map fun v => v.category).sum ≤ 8) (hd : decode cc pc = .ok (.invokevirtual idx, 3)) (kk : V X B own cc G (nc + mc0) (ns + ms0) nx1 sh1 I1 P1 (pc + 3) ls st) : V X B own cc G nc ns nx sh I P pc ls (z6 :: z5 :: z4 :: z3 :: z2 :: z1 :: .ref (B + a) :: st) := V_callV hM hc hs hcn hE rfl hr hst hd rfl (fun v nx2 sh2 I2 P2 h => by obtain ⟨rfl, rfl, rfl, rfl, rfl⟩ := h; exact kk)
theorem V_cV7 {ci a : Nat} {z1 z2 z3 z4 z5 z6 z7 : Value} (hM : mM X B nm ret fr lo mc ms Po G) (hc : mCv own idx d 7) (hs : sh a = some (.inl ci)) (hcn : mCn ci = d.1.cls) (hE : Ev X B d mc0 ms0 (.ref (B + a) :: [z1, z2, z3, z4, z5, z6, z7]) nx sh I P Po0) (hr : mRoom d nc ns fr lo mc ms mc0 ms0) (hst : (st.map fun v => v.category).sum ≤ 8) (hd : decode cc pc = .ok (.invokevirtual idx, 3)) (kk : ∀ (v : Option Value) (nx1 : Nat) (sh1 : Nat → Option mSh) (I1 : mI) (P1 : mP), Po0 v nx1 sh1 I1 P1 → V X B own cc G (nc + mc0) (ns + ms0) nx1 sh1 I1 P1 (pc + 3) ls (v.toList ++ st)) : V X B own cc G nc ns nx sh I P pc ls (z7 :: z6 :: z5 :: z4 :: z3 :: z2 :: z1 :: .ref (B + a) :: st) := V_callV hM hc hs hcn hE rfl hr hst hd rfl kk
theorem V_cV7d {ci a : Nat} {z1 z2 z3 z4 z5 z6 z7 : Value} (hM : mM X B nm ret fr lo mc ms Po G) (hc : mCv own idx d 7) (hs : sh a = some (.inl ci)) (hcn : mCn ci = d.1.cls) (hE : Ev X B d mc0 ms0 (.ref (B + a) :: [z1, z2, z3, z4, z5, z6, z7]) nx sh I P (mDet (some z0) nx1 sh1 I1 P1)) (hr : mRoom d nc ns fr lo mc ms mc0 ms0) (hst : (st.map fun v => v.category).sum ≤ 8) (hd : decode cc pc = .ok (.invokevirtual idx, 3)) (kk : V X B own cc G (nc + mc0) (ns + ms0) nx1 sh1 I1 P1 (pc + 3) ls (z0 :: st)) : V X B own cc G nc ns nx sh I P pc ls (z7 :: z6 :: z5 :: z4 :: z3 :: z2 :: z1 :: .ref (B + a) :: st) := V_callV hM hc hs hcn hE rfl hr hst hd rfl (fun v nx2 sh2 I2 P2 h => by obtain ⟨rfl, rfl, rfl, rfl, rfl⟩ := h; exact kk)
theorem V_cV7n {ci a : Nat} {z1 z2 z3 z4 z5 z6 z7 : Value} (hM : mM X B nm ret fr lo mc ms Po G) (hc : mCv own idx d 7) (hs : sh a = some (.inl ci)) (hcn : mCn ci = d.1.cls) (hE : Ev X B d mc0 ms0 (.ref (B + a) :: [z1, z2, z3, z4, z5, z6, z7]) nx sh I P (mDet none nx1 sh1 I1 P1)) (hr : mRoom d nc ns fr lo mc ms mc0 ms0) (hst : (st.map fun v => v.category).sum ≤ 8) (hd : decode cc pc = .ok (.invokevirtual idx, 3)) (kk : V X B own cc G (nc + mc0) (ns + ms0) nx1 sh1 I1 P1 (pc + 3) ls st) : V X B own cc G nc ns nx sh I P pc ls (z7 :: z6 :: z5 :: z4 :: z3 :: z2 :: z1 :: .ref (B + a) :: st) := V_callV hM hc hs hcn hE rfl hr hst hd rfl (fun v nx2 sh2 I2 P2 h => by obtain ⟨rfl, rfl, rfl, rfl, rfl⟩ := h; exact kk)
theorem V_cS0 (hM : mM X B nm ret fr lo mc ms Po G) (hc : mCs own idx d 0) (hE : Ev X B d mc0 ms0 [] nx sh I P Po0) (hr : mRoom d nc ns fr lo mc ms mc0 ms0) (hst : (st.map fun v => v.category).sum ≤ 8) (hd : decode cc pc = .ok (.invokestatic idx, 3)) (kk : ∀ (v : Option Value) (nx1 : Nat) (sh1 : Nat → Option mSh) (I1 : mI) (P1 : mP), Po0 v nx1 sh1 I1 P1 → V X B own cc G (nc + mc0) (ns + ms0) nx1 sh1 I1 P1 (pc + 3) ls (v.toList ++ st)) : V X B own cc G nc ns nx sh I P pc ls (st) := V_callS hM hc hE rfl hr hst hd rfl kk
theorem V_cS0d (hM : mM X B nm ret fr lo mc ms Po G) (hc : mCs own idx d 0) (hE : Ev X B d mc0 ms0 [] nx sh I P (mDet (some z0) nx1 sh1 I1 P1)) (hr : mRoom d nc ns fr lo mc ms mc0 ms0) (hst : (st.map fun v => v.category).sum ≤ 8) (hd : decode cc pc = .ok (.invokestatic idx, 3)) (kk : V X B own cc G (nc + mc0) (ns + ms0) nx1 sh1 I1 P1 (pc + 3) ls (z0 :: st)) : V X B own cc G nc ns nx sh I P pc ls (st) := V_callS hM hc hE rfl hr hst hd rfl (fun v nx2 sh2 I2 P2 h => by obtain ⟨rfl, rfl, rfl, rfl, rfl⟩ := h; exact kk)
theorem V_cS1 {z1 : Value} (hM : mM X B nm ret fr lo mc ms Po G) (hc : mCs own idx d 1) (hE : Ev X B d mc0 ms0 [z1] nx sh I P Po0) (hr : mRoom d nc ns fr lo mc ms mc0 ms0) (hst : (st.map fun v => v.category).sum ≤ 8) (hd : decode cc pc = .ok (.invokestatic idx, 3)) (kk : ∀ (v : Option Value) (nx1 : Nat) (sh1 : Nat → Option mSh) (I1 : mI) (P1 : mP), Po0 v nx1 sh1 I1 P1 → V X B own cc G (nc + mc0) (ns + ms0) nx1 sh1 I1 P1 (pc + 3) ls (v.toList ++ st)) : V X B own cc G nc ns nx sh I P pc ls (z1 :: st) := V_callS hM hc hE rfl hr hst hd rfl kk
theorem V_cS1d {z1 : Value} (hM : mM X B nm ret fr lo mc ms Po G) (hc : mCs own idx d 1) (hE : Ev X B d mc0 ms0 [z1] nx sh I P (mDet (some z0) nx1 sh1 I1 P1)) (hr : mRoom d nc ns fr lo mc ms mc0 ms0) (hst : (st.map fun v => v.category).sum ≤ 8) (hd : decode cc pc = .ok (.invokestatic idx, 3)) (kk : V X B own cc G (nc + mc0) (ns + ms0) nx1 sh1 I1 P1 (pc + 3) ls (z0 :: st)) : V X B own cc G nc ns nx sh I P pc ls (z1 :: st) := V_callS hM hc hE rfl hr hst hd rfl (fun v nx2 sh2 I2 P2 h => by obtain ⟨rfl, rfl, rfl, rfl, rfl⟩ := h; exact kk)
theorem V_cS2 {z1 z2 : Value} (hM : mM X B nm ret fr lo mc ms Po G) (hc : mCs own idx d 2) (hE : Ev X B d mc0 ms0 [z1, z2] nx sh I P Po0) (hr : mRoom d nc ns fr lo mc ms mc0 ms0) (hst : (st.map fun v => v.category).sum ≤ 8) (hd : decode cc pc = .ok (.invokestatic idx, 3)) (kk : ∀ (v : Option Value) (nx1 : Nat) (sh1 : Nat → Option mSh) (I1 : mI) (P1 : mP), Po0 v nx1 sh1 I1 P1 → V X B own cc G (nc + mc0) (ns + ms0) nx1 sh1 I1 P1 (pc + 3) ls (v.toList ++ st)) : V X B own cc G nc ns nx sh I P pc ls (z2 :: z1 :: st) := V_callS hM hc hE rfl hr hst hd rfl kk
theorem V_cS2d {z1 z2 : Value} (hM : mM X B nm ret fr lo mc ms Po G) (hc : mCs own idx d 2) (hE : Ev X B d mc0 ms0 [z1, z2] nx sh I P (mDet (some z0) nx1 sh1 I1 P1)) (hr : mRoom d nc ns fr lo mc ms mc0 ms0) (hst : (st.map fun v => v.category).sum ≤ 8) (hd : decode cc pc = .ok (.invokestatic idx, 3)) (kk : V X B own cc G (nc + mc0) (ns + ms0) nx1 sh1 I1 P1 (pc + 3) ls (z0 :: st)) : V X B own cc G nc ns nx sh I P pc ls (z2 :: z1 :: st) := V_callS hM hc hE rfl hr hst hd rfl (fun v nx2 sh2 I2 P2 h => by obtain ⟨rfl, rfl, rfl, rfl, rfl⟩ := h; exact kk)
theorem V_cS3 {z1 z2 z3 : Value} (hM : mM X B nm ret fr lo mc ms Po G) (hc : mCs own idx d 3) (hE : Ev X B d mc0 ms0 [z1, z2, z3] nx sh I P Po0) (hr : mRoom d nc ns fr lo mc ms mc0 ms0) (hst : (st.map fun v => v.category).sum ≤ 8) (hd : decode cc pc = .ok (.invokestatic idx, 3)) (kk : ∀ (v : Option Value) (nx1 : Nat) (sh1 : Nat → Option mSh) (I1 : mI) (P1 : mP), Po0 v nx1 sh1 I1 P1 → V X B own cc G (nc + mc0) (ns + ms0) nx1 sh1 I1 P1 (pc + 3) ls (v.toList ++ st)) : V X B own cc G nc ns nx sh I P pc ls (z3 :: z2 :: z1 :: st) := V_callS hM hc hE rfl hr hst hd rfl kk
theorem V_cS3d {z1 z2 z3 : Value} (hM : mM X B nm ret fr lo mc ms Po G) (hc : mCs own idx d 3) (hE : Ev X B d mc0 ms0 [z1, z2, z3] nx sh I P (mDet (some z0) nx1 sh1 I1 P1)) (hr : mRoom d nc ns fr lo mc ms mc0 ms0) (hst : (st.map fun v => v.category).sum ≤ 8) (hd : decode cc pc = .ok (.invokestatic idx, 3)) (kk : V X B own cc G (nc + mc0) (ns + ms0) nx1 sh1 I1 P1 (pc + 3) ls (z0 :: st)) : V X B own cc G nc ns nx sh I P pc ls (z3 :: z2 :: z1 :: st) := V_callS hM hc hE rfl hr hst hd rfl (fun v nx2 sh2 I2 P2 h => by obtain ⟨rfl, rfl, rfl, rfl, rfl⟩ := h; exact kk)
theorem V_cS4 {z1 z2 z3 z4 : Value} (hM : mM X B nm ret fr lo mc ms Po G) (hc : mCs own idx d 4) (hE : Ev X B d mc0 ms0 [z1, z2, z3, z4] nx sh I P Po0) (hr : mRoom d nc ns fr lo mc ms mc0 ms0) (hst : (st.map fun v => v.category).sum ≤ 8) (hd : decode cc pc = .ok (.invokestatic idx, 3)) (kk : ∀ (v : Option Value) (nx1 : Nat) (sh1 : Nat → Option mSh) (I1 : mI) (P1 : mP), Po0 v nx1 sh1 I1 P1 → V X B own cc G (nc + mc0) (ns + ms0) nx1 sh1 I1 P1 (pc + 3) ls (v.toList ++ st)) : V X B own cc G nc ns nx sh I P pc ls (z4 :: z3 :: z2 :: z1 :: st) := V_callS hM hc hE rfl hr hst hd rfl kk
theorem V_cS4d {z1 z2 z3 z4 : Value} (hM : mM X B nm ret fr lo mc ms Po G) (hc : mCs own idx d 4) (hE : Ev X B d mc0 ms0 [z1, z2, z3, z4] nx sh I P (mDet (some z0) nx1 sh1 I1 P1)) (hr : mRoom d nc ns fr lo mc ms mc0 ms0) (hst : (st.map fun v => v.category).sum ≤ 8) (hd : decode cc pc = .ok (.invokestatic idx, 3)) (kk : V X B own cc G (nc + mc0) (ns + ms0) nx1 sh1 I1 P1 (pc + 3) ls (z0 :: st)) : V X B own cc G nc ns nx sh I P pc ls (z4 :: z3 :: z2 :: z1 :: st) := V_callS hM hc hE rfl hr hst hd rfl (fun v nx2 sh2 I2 P2 h => by obtain ⟨rfl, rfl, rfl, rfl, rfl⟩ := h; exact kk)
theorem V_cS5 {z1 z2 z3 z4 z5 : Value} (hM : mM X B nm ret fr lo mc ms Po G) (hc : mCs own idx d 5) (hE : Ev X B d mc0 ms0 [z1, z2, z3, z4, z5] nx sh I P Po0) (hr : mRoom d nc ns fr lo mc ms mc0 ms0) (hst : (st.map fun v => v.category).sum ≤ 8) (hd : decode cc pc = .ok (.invokestatic idx, 3)) (kk : ∀ (v : Option Value) (nx1 : Nat) (sh1 : Nat → Option mSh) (I1 : mI) (P1 : mP), Po0 v nx1 sh1 I1 P1 → V X B own cc G (nc + mc0) (ns + ms0) nx1 sh1 I1 P1 (pc + 3) ls (v.toList ++ st)) : V X B own cc G nc ns nx sh I P pc ls (z5 :: z4 :: z3 :: z2 :: z1 :: st) := V_callS hM hc hE rfl hr hst hd rfl kk
theorem V_cS5d {z1 z2 z3 z4 z5 : Value} (hM : mM X B nm ret fr lo mc ms Po G) (hc : mCs own idx d 5) (hE : Ev X B d mc0 ms0 [z1, z2, z3, z4, z5] nx sh I P (mDet (some z0) nx1 sh1 I1 P1)) (hr : mRoom d nc ns fr lo mc ms mc0 ms0) (hst : (st.map fun v => v.category).sum ≤ 8) (hd : decode cc pc = .ok (.invokestatic idx, 3)) (kk : V X B own cc G (nc + mc0) (ns + ms0) nx1 sh1 I1 P1 (pc + 3) ls (z0 :: st)) : V X B own cc G nc ns nx sh I P pc ls (z5 :: z4 :: z3 :: z2 :: z1 :: st) := V_callS hM hc hE rfl hr hst hd rfl (fun v nx2 sh2 I2 P2 h => by obtain ⟨rfl, rfl, rfl, rfl, rfl⟩ := h; exact kk)
theorem V_cS6 {z1 z2 z3 z4 z5 z6 : Value} (hM : mM X B nm ret fr lo mc ms Po G) (hc : mCs own idx d 6) (hE : Ev X B d mc0 ms0 [z1, z2, z3, z4, z5, z6] nx sh I P Po0) (hr : mRoom d nc ns fr lo mc ms mc0 ms0) (hst : (st.map fun v => v.category).sum ≤ 8) (hd : decode cc pc = .ok (.invokestatic idx, 3)) (kk : ∀ (v : Option Value) (nx1 : Nat) (sh1 : Nat → Option mSh) (I1 : mI) (P1 : mP), Po0 v nx1 sh1 I1 P1 → V X B own cc G (nc + mc0) (ns + ms0) nx1 sh1 I1 P1 (pc + 3) ls (v.toList ++ st)) : V X B own cc G nc ns nx sh I P pc ls (z6 :: z5 :: z4 :: z3 :: z2 :: z1 :: st) := V_callS hM hc hE rfl hr hst hd rfl kk
theorem V_cS6d {z1 z2 z3 z4 z5 z6 : Value} (hM : mM X B nm ret fr lo mc ms Po G) (hc : mCs own idx d 6) (hE : Ev X B d mc0 ms0 [z1, z2, z3, z4, z5, z6] nx sh I P (mDet (some z0) nx1 sh1 I1 P1)) (hr : mRoom d nc ns fr lo mc ms mc0 ms0) (hst : (st.map fun v => v.category).sum ≤ 8) (hd : decode cc pc = .ok (.invokestatic idx, 3)) (kk : V X B own cc G (nc + mc0) (ns + ms0) nx1 sh1 I1 P1 (pc + 3) ls (z0 :: st)) : V X B own cc G nc ns nx sh I P pc ls (z6 :: z5 :: z4 :: z3 :: z2 :: z1 :: st) := V_callS hM hc hE rfl hr hst hd rfl (fun v nx2 sh2 I2 P2 h => by obtain ⟨rfl, rfl, rfl, rfl, rfl⟩ := h; exact kk)
theorem V_cS7 {z1 z2 z3 z4 z5 z6 z7 : Value} (hM : mM X B nm ret fr lo mc ms Po G) (hc : mCs own idx d 7) (hE : Ev X B d mc0 ms0 [z1, z2, z3, z4, z5, z6, z7] nx sh I P Po0) (hr : mRoom d nc ns fr lo mc ms mc0 ms0) (hst : (st.map fun v => v.category).sum ≤ 8) (hd : decode cc pc = .ok (.invokestatic idx, 3)) (kk : ∀ (v : Option Value) (nx1 : Nat) (sh1 : Nat → Option mSh) (I1 : mI) (P1 : mP), Po0 v nx1 sh1 I1 P1 → V X B own cc G (nc + mc0) (ns + ms0) nx1 sh1 I1 P1 (pc + 3) ls (v.toList ++ st)) : V X B own cc G nc ns nx sh I P pc ls (z7 :: z6 :: z5 :: z4 :: z3 :: z2 :: z1 :: st) := V_callS hM hc hE rfl hr hst hd rfl kk
theorem V_cS7d {z1 z2 z3 z4 z5 z6 z7 : Value} (hM : mM X B nm ret fr lo mc ms Po G) (hc : mCs own idx d 7) (hE : Ev X B d mc0 ms0 [z1, z2, z3, z4, z5, z6, z7] nx sh I P (mDet (some z0) nx1 sh1 I1 P1)) (hr : mRoom d nc ns fr lo mc ms mc0 ms0) (hst : (st.map fun v => v.category).sum ≤ 8) (hd : decode cc pc = .ok (.invokestatic idx, 3)) (kk : V X B own cc G (nc + mc0) (ns + ms0) nx1 sh1 I1 P1 (pc + 3) ls (z0 :: st)) : V X B own cc G nc ns nx sh I P pc ls (z7 :: z6 :: z5 :: z4 :: z3 :: z2 :: z1 :: st) := V_callS hM hc hE rfl hr hst hd rfl (fun v nx2 sh2 I2 P2 h => by obtain ⟨rfl, rfl, rfl, rfl, rfl⟩ := h; exact kk)
theorem V_cI0 {a : Nat} (hM : mM X B nm ret fr lo mc ms Po G) (hc : mCi own idx d 0) (hE : Ev X B d mc0 ms0 (.ref a :: []) nx sh I P Po0) (hr : mRoom d nc ns fr lo mc ms mc0 ms0) (hst : (st.map fun v => v.category).sum ≤ 8) (hd : decode cc pc = .ok (.invokespecial idx, 3)) (kk : ∀ (v : Option Value) (nx1 : Nat) (sh1 : Nat → Option mSh) (I1 : mI) (P1 : mP), Po0 v nx1 sh1 I1 P1 → V X B own cc G (nc + mc0) (ns + ms0) nx1 sh1 I1 P1 (pc + 3) ls (v.toList ++ st)) : V X B own cc G nc ns nx sh I P pc ls (.ref a :: st) := V_callI hM hc hE rfl hr hst hd rfl kk
theorem V_cI0n {a : Nat} (hM : mM X B nm ret fr lo mc ms Po G) (hc : mCi own idx d 0) (hE : Ev X B d mc0 ms0 (.ref a :: []) nx sh I P (mDet none nx1 sh1 I1 P1)) (hr : mRoom d nc ns fr lo mc ms mc0 ms0) (hst : (st.map fun v => v.category).sum ≤ 8) (hd : decode cc pc = .ok (.invokespecial idx, 3)) (kk : V X B own cc G (nc + mc0) (ns + ms0) nx1 sh1 I1 P1 (pc + 3) ls st) : V X B own cc G nc ns nx sh I P pc ls (.ref a :: st) := V_callI hM hc hE rfl hr hst hd rfl (fun v nx2 sh2 I2 P2 h => by obtain ⟨rfl, rfl, rfl, rfl, rfl⟩ := h; exact kk)
theorem V_cI1 {a : Nat} {z1 : Value} (hM : mM X B nm ret fr lo mc ms Po G) (hc : mCi own idx d 1) (hE : Ev X B d mc0 ms0 (.ref a :: [z1]) nx sh I P Po0) (hr : mRoom d nc ns fr lo mc ms mc0 ms0) (hst : (st.map fun v => v.category).sum ≤ 8) (hd : decode cc pc = .ok (.invokespecial idx, 3)) (kk : ∀ (v : Option Value) (nx1 : Nat) (sh1 : Nat → Option mSh) (I1 : mI) (P1 : mP), Po0 v nx1 sh1 I1 P1 → V X B own cc G (nc + mc0) (ns + ms0) nx1 sh1 I1 P1 (pc + 3) ls (v.toList ++ st)) : V X B own cc G nc ns nx sh I P pc ls (z1 :: .ref a :: st) := V_callI hM hc hE rfl hr hst hd rfl kk
theorem V_cI1n {a : Nat} {z1 : Value} (hM : mM X B nm ret fr lo mc ms Po G) (hc : mCi own idx d 1) (hE : Ev X B d mc0 ms0 (.ref a :: [z1]) nx sh I P (mDet none nx1 sh1 I1 P1)) (hr : mRoom d nc ns fr lo mc ms mc0 ms0) (hst : (st.map fun v => v.category).sum ≤ 8) (hd : decode cc pc = .ok (.invokespecial idx, 3)) (kk : V X B own cc G (nc + mc0) (ns + ms0) nx1 sh1 I1 P1 (pc + 3) ls st) : V X B own cc G nc ns nx sh I P pc ls (z1 :: .ref a :: st) := V_callI hM hc hE rfl hr hst hd rfl (fun v nx2 sh2 I2 P2 h => by obtain ⟨rfl, rfl, rfl, rfl, rfl⟩ := h; exact kk)
theorem V_cI2 {a : Nat} {z1 z2 : Value} (hM : mM X B nm ret fr lo mc ms Po G) (hc : mCi own idx d 2) (hE : Ev X B d mc0 ms0 (.ref a :: [z1, z2]) nx sh I P Po0) (hr : mRoom d nc ns fr lo mc ms mc0 ms0) (hst : (st.map fun v => v.category).sum ≤ 8) (hd : decode cc pc = .ok (.invokespecial idx, 3)) (kk : ∀ (v : Option Value) (nx1 : Nat) (sh1 : Nat → Option mSh) (I1 : mI) (P1 : mP), Po0 v nx1 sh1 I1 P1 → V X B own cc G (nc + mc0) (ns + ms0) nx1 sh1 I1 P1 (pc + 3) ls (v.toList ++ st)) : V X B own cc G nc ns nx sh I P pc ls (z2 :: z1 :: .ref a :: st) := V_callI hM hc hE rfl hr hst hd rfl kk
theorem V_cI2n {a : Nat} {z1 z2 : Value} (hM : mM X B nm ret fr lo mc ms Po G) (hc : mCi own idx d 2) (hE : Ev X B d mc0 ms0 (.ref a :: [z1, z2]) nx sh I P (mDet none nx1 sh1 I1 P1)) (hr : mRoom d nc ns fr lo mc ms mc0 ms0) (hst : (st.map fun v => v.category).sum ≤ 8) (hd : decode cc pc = .ok (.invokespecial idx, 3)) (kk : V X B own cc G (nc + mc0) (ns + ms0) nx1 sh1 I1 P1 (pc + 3) ls st) : V X B own cc G nc ns nx sh I P pc ls (z2 :: z1 :: .ref a :: st) := V_callI hM hc hE rfl hr hst hd rfl (fun v nx2 sh2 I2 P2 h => by obtain ⟨rfl, rfl, rfl, rfl, rfl⟩ := h; exact kk)
theorem V_cI3 {a : Nat} {z1 z2 z3 : Value} (hM : mM X B nm ret fr lo mc ms Po G) (hc : mCi own idx d 3) (hE : Ev X B d mc0 ms0 (.ref a :: [z1, z2, z3]) nx sh I P Po0) (hr : mRoom d nc ns fr lo mc ms mc0 ms0) (hst : (st.map fun v => v.category).sum ≤ 8) (hd : decode cc pc = .ok (.invokespecial idx, 3)) (kk : ∀ (v : Option Value) (nx1 : Nat) (sh1 : Nat → Option mSh) (I1 : mI) (P1 : mP), Po0 v nx1 sh1 I1 P1 → V X B own cc G (nc + mc0) (ns + ms0) nx1 sh1 I1 P1 (pc + 3) ls (v.toList ++ st)) : V X B own cc G nc ns nx sh I P pc ls (z3 :: z2 :: z1 :: .ref a :: st) := V_callI hM hc hE rfl hr hst hd rfl kk
theorem V_cI3n {a : Nat} {z1 z2 z3 : Value} (hM : mM X B nm ret fr lo mc ms Po G) (hc : mCi own idx d 3) (hE : Ev X B d mc0 ms0 (.ref a :: [z1, z2, z3]) nx sh I P (mDet none nx1 sh1 I1 P1)) (hr : mRoom d nc ns fr lo mc ms mc0 ms0) (hst : (st.map fun v => v.category).sum ≤ 8) (hd : decode cc pc = .ok (.invokespecial idx, 3)) (kk : V X B own cc G (nc + mc0) (ns + ms0) nx1 sh1 I1 P1 (pc + 3) ls st) : V X B own cc G nc ns nx sh I P pc ls (z3 :: z2 :: z1 :: .ref a :: st) := V_callI hM hc hE rfl hr hst hd rfl (fun v nx2 sh2 I2 P2 h => by obtain ⟨rfl, rfl, rfl, rfl, rfl⟩ := h; exact kk)
theorem V_cI4 {a : Nat} {z1 z2 z3 z4 : Value} (hM : mM X B nm ret fr lo mc ms Po G) (hc : mCi own idx d 4) (hE : Ev X B d mc0 ms0 (.ref a :: [z1, z2, z3, z4]) nx sh I P Po0) (hr : mRoom d nc ns fr lo mc ms mc0 ms0) (hst : (st.map fun v => v.category).sum ≤ 8) (hd : decode cc pc = .ok (.invokespecial idx, 3)) (kk : ∀ (v : Option Value) (nx1 : Nat) (sh1 : Nat → Option mSh) (I1 : mI) (P1 : mP), Po0 v nx1 sh1 I1 P1 → V X B own cc G (nc + mc0) (ns + ms0) nx1 sh1 I1 P1 (pc + 3) ls (v.toList ++ st)) : V X B own cc G nc ns nx sh I P pc ls (z4 :: z3 :: z2 :: z1 :: .ref a :: st) := V_callI hM hc hE rfl hr hst hd rfl kk
theorem V_cI4n {a : Nat} {z1 z2 z3 z4 : Value} (hM : mM X B nm ret fr lo mc ms Po G) (hc : mCi own idx d 4) (hE : Ev X B d mc0 ms0 (.ref a :: [z1, z2, z3, z4]) nx sh I P (mDet none nx1 sh1 I1 P1)) (hr : mRoom d nc ns fr lo mc ms mc0 ms0) (hst : (st.map fun v => v.category).sum ≤ 8) (hd : decode cc pc = .ok (.invokespecial idx, 3)) (kk : V X B own cc G (nc + mc0) (ns + ms0) nx1 sh1 I1 P1 (pc + 3) ls st) : V X B own cc G nc ns nx sh I P pc ls (z4 :: z3 :: z2 :: z1 :: .ref a :: st) := V_callI hM hc hE rfl hr hst hd rfl (fun v nx2 sh2 I2 P2 h => by obtain ⟨rfl, rfl, rfl, rfl, rfl⟩ := h; exact kk)
theorem V_cI5 {a : Nat} {z1 z2 z3 z4 z5 : Value} (hM : mM X B nm ret fr lo mc ms Po G) (hc : mCi own idx d 5) (hE : Ev X B d mc0 ms0 (.ref a :: [z1, z2, z3, z4, z5]) nx sh I P Po0) (hr : mRoom d nc ns fr lo mc ms mc0 ms0) (hst : (st.map fun v => v.category).sum ≤ 8) (hd : decode cc pc = .ok (.invokespecial idx, 3)) (kk : ∀ (v : Option Value) (nx1 : Nat) (sh1 : Nat → Option mSh) (I1 : mI) (P1 : mP), Po0 v nx1 sh1 I1 P1 → V X B own cc G (nc + mc0) (ns + ms0) nx1 sh1 I1 P1 (pc + 3) ls (v.toList ++ st)) : V X B own cc G nc ns nx sh I P pc ls (z5 :: z4 :: z3 :: z2 :: z1 :: .ref a :: st) := V_callI hM hc hE rfl hr hst hd rfl kk
theorem V_cI5n {a : Nat} {z1 z2 z3 z4 z5 : Value} (hM : mM X B nm ret fr lo mc ms Po G) (hc : mCi own idx d 5) (hE : Ev X B d mc0 ms0 (.ref a :: [z1, z2, z3, z4, z5]) nx sh I P (mDet none nx1 sh1 I1 P1)) (hr : mRoom d nc ns fr lo mc ms mc0 ms0) (hst : (st.map fun v => v.category).sum ≤ 8) (hd : decode cc pc = .ok (.invokespecial idx, 3)) (kk : V X B own cc G (nc + mc0) (ns + ms0) nx1 sh1 I1 P1 (pc + 3) ls st) : V X B own cc G nc ns nx sh I P pc ls (z5 :: z4 :: z3 :: z2 :: z1 :: .ref a :: st) := V_callI hM hc hE rfl hr hst hd rfl (fun v nx2 sh2 I2 P2 h => by obtain ⟨rfl, rfl, rfl, rfl, rfl⟩ := h; exact kk)
theorem V_cI6 {a : Nat} {z1 z2 z3 z4 z5 z6 : Value} (hM : mM X B nm ret fr lo mc ms Po G) (hc : mCi own idx d 6) (hE : Ev X B d mc0 ms0 (.ref a :: [z1, z2, z3, z4, z5, z6]) nx sh I P Po0) (hr : mRoom d nc ns fr lo mc ms mc0 ms0) (hst : (st.map fun v => v.category).sum ≤ 8) (hd : decode cc pc = .ok (.invokespecial idx, 3)) (kk : ∀ (v : Option Value) (nx1 : Nat) (sh1 : Nat → Option mSh) (I1 : mI) (P1 : mP), Po0 v nx1 sh1 I1 P1 → V X B own cc G (nc + mc0) (ns + ms0) nx1 sh1 I1 P1 (pc + 3) ls (v.toList ++ st)) : V X B own cc G nc ns nx sh I P pc ls (z6 :: z5 :: z4 :: z3 :: z2 :: z1 :: .ref a :: st) := V_callI hM hc hE rfl hr hst hd rfl kk
theorem V_cI6n {a : Nat} {z1 z2 z3 z4 z5 z6 : Value} (hM : mM X B nm ret fr lo mc ms Po G) (hc : mCi own idx d 6) (hE : Ev X B d mc0 ms0 (.ref a :: [z1, z2, z3, z4, z5, z6]) nx sh I P (mDet none nx1 sh1 I1 P1)) (hr : mRoom d nc ns fr lo mc ms mc0 ms0) (hst : (st.map fun v => v.category).sum ≤ 8) (hd : decode cc pc = .ok (.invokespecial idx, 3)) (kk : V X B own cc G (nc + mc0) (ns + ms0) nx1 sh1 I1 P1 (pc + 3) ls st) : V X B own cc G nc ns nx sh I P pc ls (z6 :: z5 :: z4 :: z3 :: z2 :: z1 :: .ref a :: st) := V_callI hM hc hE rfl hr hst hd rfl (fun v nx2 sh2 I2 P2 h => by obtain ⟨rfl, rfl, rfl, rfl, rfl⟩ := h; exact kk)
theorem V_cI7 {a : Nat} {z1 z2 z3 z4 z5 z6 z7 : Value} (hM : mM X B nm ret fr lo mc ms Po G) (hc : mCi own idx d 7) (hE : Ev X B d mc0 ms0 (.ref a :: [z1, z2, z3, z4, z5, z6, z7]) nx sh I P Po0) (hr : mRoom d nc ns fr lo mc ms mc0 ms0) (hst : (st.map fun v => v.category).sum ≤ 8) (hd : decode cc pc = .ok (.invokespecial idx, 3)) (kk : ∀ (v : Option Value) (nx1 : Nat) (sh1 : Nat → Option mSh) (I1 : mI) (P1 : mP), Po0 v nx1 sh1 I1 P1 → V X B own cc G (nc + mc0) (ns + ms0) nx1 sh1 I1 P1 (pc + 3) ls (v.toList ++ st)) : V X B own cc G nc ns nx sh I P pc ls (z7 :: z6 :: z5 :: z4 :: z3 :: z2 :: z1 :: .ref a :: st) := V_callI hM hc hE rfl hr hst hd rfl kk
theorem V_cI7n {a : Nat} {z1 z2 z3 z4 z5 z6 z7 : Value} (hM : mM X B nm ret fr lo mc ms Po G) (hc : mCi own idx d 7) (hE : Ev X B d mc0 ms0 (.ref a :: [z1, z2, z3, z4, z5, z6, z7]) nx sh I P (mDet none nx1 sh1 I1 P1)) (hr : mRoom d nc ns fr lo mc ms mc0 ms0) (hst : (st.map fun v => v.category).sum ≤ 8) (hd : decode cc pc = .ok (.invokespecial idx, 3)) (kk : V X B own cc G (nc + mc0) (ns + ms0) nx1 sh1 I1 P1 (pc + 3) ls st) : V X B own cc G nc ns nx sh I P pc ls (z7 :: z6 :: z5 :: z4 :: z3 :: z2 :: z1 :: .ref a :: st) := V_callI hM hc hE rfl hr hst hd rfl (fun v nx2 sh2 I2 P2 h => by obtain ⟨rfl, rfl, rfl, rfl, rfl⟩ := h; exact kk)
end VC
end
section
/-! ===== methods, and what pool entries are: printed by a program out of the tables ===== -/
abbrev mdX10_init : mMd := (yX10_init, cX10_init, 1, none, 3, 67)
abbrev mdX8_init : mMd := (yX8_init, cX8_init, 1, none, 1, 20)
abbrev mdX5_init : mMd := (yX5_init, cX5_init, 2, none, 2, 40)
abbrev mdX0_init : mMd := (yX0_init, cX0_init, 1, none, 1, 20)
abbrev mdX2_init : mMd := (yX2_init, cX2_init, 1, none, 1, 20)
abbrev mdX6_init : mMd := (yX6_init, cX6_init, 2, none, 1, 20)
abbrev mdX9_init : mMd := (yX9_init, cX9_init, 1, none, 2, 47)
abbrev mdX3_init : mMd := (yX3_init, cX3_init, 8, none, 1, 20)
abbrev mdX1_init : mMd := (yX1_init, cX1_init, 1, none, 1, 20)
abbrev mdJ7_fill_53178 : mMd := (yJ7_fill_53178, cJ7_fill_53178, 4, none, 0, 0)
abbrev mdX10_feed : mMd := (yX10_feed, cX10_feed, 6, (some FieldType.int), 1, 22)
abbrev mdX8_size : mMd := (yX8_size, cX8_size, 1, (some FieldType.int), 0, 0)
abbrev mdX8_put : mMd := (yX8_put, cX8_put, 3, none, 0, 0)
abbrev mdX10_end : mMd := (yX10_end, cX10_end, 2, (some FieldType.int), 1, 21)
abbrev mdX8_cutTo : mMd := (yX8_cutTo, cX8_cutTo, 2, none, 0, 0)
abbrev mdX10_rank : mMd := (yX10_rank, cX10_rank, 4, (some FieldType.int), 1, 23)
abbrev mdX10_isPerson : mMd := (yX10_isPerson, cX10_isPerson, 1, (some FieldType.boolean), 0, 0)
abbrev mdX10_isDay : mMd := (yX10_isDay, cX10_isDay, 1, (some FieldType.boolean), 0, 0)
abbrev mdX10_isRank : mMd := (yX10_isRank, cX10_isRank, 1, (some FieldType.boolean), 0, 0)
abbrev mdX6_countOf : mMd := (yX6_countOf, cX6_countOf, 4, (some FieldType.int), 0, 0)
abbrev mdX6_add : mMd := (yX6_add, cX6_add, 4, none, 0, 0)
abbrev mdX10_feast : mMd := (yX10_feast, cX10_feast, 3, (some FieldType.int), 2, 41)
abbrev mdX10_isSpan : mMd := (yX10_isSpan, cX10_isSpan, 2, (some FieldType.boolean), 1, 20)
abbrev mdX6_size : mMd := (yX6_size, cX6_size, 1, (some FieldType.int), 0, 0)
abbrev mdX10_wedding : mMd := (yX10_wedding, cX10_wedding, 4, (some FieldType.int), 2, 41)
abbrev mdX10_on : mMd := (yX10_on, cX10_on, 4, (some FieldType.int), 2, 48)
abbrev mdX10_rankOn : mMd := (yX10_rankOn, cX10_rankOn, 3, (some FieldType.int), 1, 26)
abbrev mdX6_heldOn : mMd := (yX6_heldOn, cX6_heldOn, 7, (some FieldType.int), 0, 0)
abbrev mdX10_occasionOn : mMd := (yX10_occasionOn, cX10_occasionOn, 3, (some FieldType.int), 1, 23)
abbrev mdX6_spanOver : mMd := (yX6_spanOver, cX6_spanOver, 4, (some FieldType.boolean), 0, 0)
abbrev mdX10_gown : mMd := (yX10_gown, cX10_gown, 9, (some FieldType.int), 2, 47)
abbrev mdX10_isMeasure : mMd := (yX10_isMeasure, cX10_isMeasure, 1, (some FieldType.boolean), 0, 0)
abbrev mdX10_isStuff : mMd := (yX10_isStuff, cX10_isStuff, 1, (some FieldType.boolean), 0, 0)
abbrev mdX10_isColour : mMd := (yX10_isColour, cX10_isColour, 1, (some FieldType.boolean), 0, 0)
abbrev mdX10_seal : mMd := (yX10_seal, cX10_seal, 4, (some FieldType.int), 1, 21)
abbrev mdX10_findGown : mMd := (yX10_findGown, cX10_findGown, 2, (some (FieldType.object "GownCourt$Gown")), 0, 0)
abbrev mdX10_about : mMd := (yX10_about, cX10_about, 4, (some FieldType.int), 1, 21)
abbrev mdX3_measure : mMd := (yX3_measure, cX3_measure, 2, (some FieldType.int), 0, 0)
abbrev mdX10_like : mMd := (yX10_like, cX10_like, 4, (some FieldType.int), 1, 23)
abbrev mdX10_counts : mMd := (yX10_counts, cX10_counts, 3, (some FieldType.int), 2, 51)
abbrev mdX10_countsAs : mMd := (yX10_countsAs, cX10_countsAs, 6, (some FieldType.int), 1, 26)
abbrev mdX10_act : mMd := (yX10_act, cX10_act, 3, (some FieldType.int), 10, 212)
abbrev mdX2_latestFirstDay : mMd := (yX2_latestFirstDay, cX2_latestFirstDay, 2, (some FieldType.int), 1, 21)
abbrev mdX2_find : mMd := (yX2_find, cX2_find, 2, (some (FieldType.object "GownCourt$Act")), 0, 0)
abbrev mdX2_size : mMd := (yX2_size, cX2_size, 1, (some FieldType.int), 0, 0)
abbrev mdX5_read : mMd := (yX5_read, cX5_read, 3, none, 9, 190)
abbrev mdX0_wipe : mMd := (yX0_wipe, cX0_wipe, 1, none, 0, 0)
abbrev mdX5_scan : mMd := (yX5_scan, cX5_scan, 2, none, 2, 42)
abbrev mdX8_byteAt : mMd := (yX8_byteAt, cX8_byteAt, 2, (some FieldType.int), 0, 0)
abbrev mdX5_isBlank : mMd := (yX5_isBlank, cX5_isBlank, 1, (some FieldType.boolean), 0, 0)
abbrev mdX5_isLetter : mMd := (yX5_isLetter, cX5_isLetter, 1, (some FieldType.boolean), 0, 0)
abbrev mdX5_scanWord : mMd := (yX5_scanWord, cX5_scanWord, 1, none, 1, 21)
abbrev mdX5_isDigit : mMd := (yX5_isDigit, cX5_isDigit, 1, (some FieldType.boolean), 0, 0)
abbrev mdX5_scanNumber : mMd := (yX5_scanNumber, cX5_scanNumber, 2, none, 1, 21)
abbrev mdX5_step : mMd := (yX5_step, cX5_step, 1, none, 8, 170)
abbrev mdX5_startLine : mMd := (yX5_startLine, cX5_startLine, 2, none, 7, 148)
abbrev mdX5_ruleKind : mMd := (yX5_ruleKind, cX5_ruleKind, 1, (some FieldType.int), 6, 128)
abbrev mdX5_isWord : mMd := (yX5_isWord, cX5_isWord, 3, (some FieldType.boolean), 5, 106)
abbrev mdJ0_length_8abf5 : mMd := (yJ0_length_8abf5, cJ0_length_8abf5, 1, (some FieldType.int), 1, 20)
abbrev mdJ0_coder_7d493 : mMd := (yJ0_coder_7d493, cJ0_coder_7d493, 1, (some FieldType.byte), 0, 0)
abbrev mdJ0_charAt_5068e : mMd := (yJ0_charAt_5068e, cJ0_charAt_5068e, 2, (some FieldType.char), 4, 85)
abbrev mdJ0_isLatin1_aae02 : mMd := (yJ0_isLatin1_aae02, cJ0_isLatin1_aae02, 1, (some FieldType.boolean), 0, 0)
abbrev mdJ1_charAt_3b067 : mMd := (yJ1_charAt_3b067, cJ1_charAt_3b067, 2, (some FieldType.char), 2, 43)
abbrev mdJ0_checkIndex_df160 : mMd := (yJ0_checkIndex_df160, cJ0_checkIndex_df160, 2, none, 1, 22)
abbrev mdJ3_checkIndex_8e157 : mMd := (yJ3_checkIndex_8e157, cJ3_checkIndex_8e157, 3, (some FieldType.int), 0, 0)
abbrev mdJ2_charAt_3b067 : mMd := (yJ2_charAt_3b067, cJ2_charAt_3b067, 2, (some FieldType.char), 3, 64)
abbrev mdJ2_checkIndex_2214a : mMd := (yJ2_checkIndex_2214a, cJ2_checkIndex_2214a, 2, none, 2, 43)
abbrev mdJ2_length_9d52b : mMd := (yJ2_length_9d52b, cJ2_length_9d52b, 1, (some FieldType.int), 0, 0)
abbrev mdJ2_getChar_3b067 : mMd := (yJ2_getChar_3b067, cJ2_getChar_3b067, 2, (some FieldType.char), 1, 20)
abbrev mdX5_goOn : mMd := (yX5_goOn, cX5_goOn, 3, none, 1, 21)
abbrev mdX5_blame : mMd := (yX5_blame, cX5_blame, 2, none, 0, 0)
abbrev mdX5_topLimit : mMd := (yX5_topLimit, cX5_topLimit, 1, (some FieldType.int), 0, 0)
abbrev mdX5_takeNumber : mMd := (yX5_takeNumber, cX5_takeNumber, 4, (some FieldType.int), 1, 21)
abbrev mdX5_readWho : mMd := (yX5_readWho, cX5_readWho, 1, none, 7, 150)
abbrev mdX5_takeWord : mMd := (yX5_takeWord, cX5_takeWord, 3, none, 6, 128)
abbrev mdX5_readWhen : mMd := (yX5_readWhen, cX5_readWhen, 1, none, 7, 148)
abbrev mdX5_whenWord : mMd := (yX5_whenWord, cX5_whenWord, 1, (some FieldType.int), 6, 128)
abbrev mdX5_finishRule : mMd := (yX5_finishRule, cX5_finishRule, 2, none, 2, 46)
abbrev mdX7_init : mMd := (yX7_init, cX7_init, 7, none, 1, 20)
abbrev mdX0_add : mMd := (yX0_add, cX0_add, 2, none, 0, 0)
abbrev mdX5_readRepeal : mMd := (yX5_readRepeal, cX5_readRepeal, 2, none, 2, 44)
abbrev mdX5_endLine : mMd := (yX5_endLine, cX5_endLine, 1, none, 2, 43)
abbrev mdX5_faultKind : mMd := (yX5_faultKind, cX5_faultKind, 1, (some FieldType.int), 0, 0)
abbrev mdX5_takeDraft : mMd := (yX5_takeDraft, cX5_takeDraft, 2, (some (FieldType.object "GownCourt$Act")), 2, 40)
abbrev mdX2_add : mMd := (yX2_add, cX2_add, 3, none, 0, 0)
abbrev mdX10_fault : mMd := (yX10_fault, cX10_fault, 2, (some FieldType.int), 1, 20)
abbrev mdX5_faultPlace : mMd := (yX5_faultPlace, cX5_faultPlace, 1, (some FieldType.int), 0, 0)
abbrev mdX10_told : mMd := (yX10_told, cX10_told, 4, (some FieldType.int), 2, 41)
abbrev mdX0_sealDays : mMd := (yX0_sealDays, cX0_sealDays, 1, (some FieldType.int), 1, 21)
abbrev mdJ9_max_7cf53 : mMd := (yJ9_max_7cf53, cJ9_max_7cf53, 2, (some FieldType.int), 0, 0)
abbrev mdX10_rule : mMd := (yX10_rule, cX10_rule, 6, (some FieldType.int), 1, 21)
abbrev mdX0_findRule : mMd := (yX0_findRule, cX0_findRule, 2, (some (FieldType.object "GownCourt$Rule")), 0, 0)
abbrev mdX10_force : mMd := (yX10_force, cX10_force, 2, (some FieldType.int), 2, 46)
abbrev mdX2_inForce : mMd := (yX2_inForce, cX2_inForce, 6, (some FieldType.int), 1, 21)
abbrev mdX10_fine : mMd := (yX10_fine, cX10_fine, 4, (some FieldType.int), 6, 134)
abbrev mdX10_putOn : mMd := (yX10_putOn, cX10_putOn, 5, (some FieldType.boolean), 2, 51)
abbrev mdX9_take : mMd := (yX9_take, cX9_take, 6, none, 0, 0)
abbrev mdX10_fineOfWearing : mMd := (yX10_fineOfWearing, cX10_fineOfWearing, 3, (some FieldType.int), 5, 112)
abbrev mdJ9_min_7cf53 : mMd := (yJ9_min_7cf53, cJ9_min_7cf53, 2, (some FieldType.int), 0, 0)
abbrev mdX2_penceOfBroken : mMd := (yX2_penceOfBroken, cX2_penceOfBroken, 6, (some FieldType.int), 4, 87)
abbrev mdX2_reaching : mMd := (yX2_reaching, cX2_reaching, 5, (some FieldType.int), 3, 63)
abbrev mdX0_lets : mMd := (yX0_lets, cX0_lets, 3, (some FieldType.boolean), 2, 41)
abbrev mdX2_among : mMd := (yX2_among, cX2_among, 3, (some (FieldType.object "GownCourt$Act")), 1, 21)
abbrev mdX0_brokenBits : mMd := (yX0_brokenBits, cX0_brokenBits, 5, (some FieldType.int), 2, 42)
abbrev mdX7_concerns : mMd := (yX7_concerns, cX7_concerns, 3, (some FieldType.boolean), 0, 0)
abbrev mdX7_isOffended : mMd := (yX7_isOffended, cX7_isOffended, 2, (some FieldType.boolean), 1, 21)
abbrev mdX0_penceOf : mMd := (yX0_penceOf, cX0_penceOf, 5, (some FieldType.int), 1, 21)
abbrev mdX10_broken : mMd := (yX10_broken, cX10_broken, 5, (some FieldType.int), 5, 110)
abbrev mdX2_brokenRules : mMd := (yX2_brokenRules, cX2_brokenRules, 4, (some FieldType.int), 4, 87)
abbrev mdX10_letter : mMd := (yX10_letter, cX10_letter, 5, (some FieldType.int), 2, 44)
abbrev mdX4_init : mMd := (yX4_init, cX4_init, 5, none, 1, 20)
abbrev mdX10_judge : mMd := (yX10_judge, cX10_judge, 4, (some FieldType.int), 6, 134)
abbrev mdX10_findLetter : mMd := (yX10_findLetter, cX10_findLetter, 2, (some (FieldType.object "GownCourt$Letter")), 0, 0)
abbrev mdX10_wasConvicted : mMd := (yX10_wasConvicted, cX10_wasConvicted, 4, (some FieldType.boolean), 1, 21)
abbrev mdX4_isOfSameCase : mMd := (yX4_isOfSameCase, cX4_isOfSameCase, 2, (some FieldType.boolean), 0, 0)
abbrev mdX10_convict : mMd := (yX10_convict, cX10_convict, 4, none, 3, 70)
abbrev mdX2_partOn : mMd := (yX2_partOn, cX2_partOn, 5, (some FieldType.int), 2, 46)
abbrev mdX10_punishFalse : mMd := (yX10_punishFalse, cX10_punishFalse, 2, none, 1, 20)
abbrev mdX10_lettered : mMd := (yX10_lettered, cX10_lettered, 4, (some FieldType.int), 1, 21)
abbrev mdX10_person : mMd := (yX10_person, cX10_person, 3, (some FieldType.int), 1, 20)
abbrev mdX10_price : mMd := (yX10_price, cX10_price, 4, (some FieldType.int), 0, 0)
abbrev mdX10_alter : mMd := (yX10_alter, cX10_alter, 4, (some FieldType.int), 6, 137)
abbrev mdX10_cheapestChange : mMd := (yX10_cheapestChange, cX10_cheapestChange, 5, (some FieldType.int), 5, 113)
abbrev mdX2_bound : mMd := (yX2_bound, cX2_bound, 6, none, 4, 88)
abbrev mdX1_open : mMd := (yX1_open, cX1_open, 1, none, 1, 23)
abbrev mdX0_narrow : mMd := (yX0_narrow, cX0_narrow, 5, none, 3, 64)
abbrev mdX1_narrow : mMd := (yX1_narrow, cX1_narrow, 2, none, 2, 43)
abbrev mdX1_lower : mMd := (yX1_lower, cX1_lower, 3, none, 1, 21)
abbrev mdX10_stuffChange : mMd := (yX10_stuffChange, cX10_stuffChange, 2, (some FieldType.int), 2, 51)
abbrev mdX1_leavesStuff : mMd := (yX1_leavesStuff, cX1_leavesStuff, 2, (some FieldType.boolean), 0, 0)
abbrev mdX10_colourChange : mMd := (yX10_colourChange, cX10_colourChange, 2, (some FieldType.int), 1, 21)
abbrev mdX1_leavesColour : mMd := (yX1_leavesColour, cX1_leavesColour, 2, (some FieldType.boolean), 0, 0)
abbrev mdX1_limitOf : mMd := (yX1_limitOf, cX1_limitOf, 2, (some FieldType.int), 0, 0)
abbrev mdX10_best : mMd := (yX10_best, cX10_best, 6, (some FieldType.int), 6, 137)
abbrev mdX10_worn : mMd := (yX10_worn, cX10_worn, 11, (some FieldType.int), 5, 111)
abbrev mdX2_breaksAny : mMd := (yX2_breaksAny, cX2_breaksAny, 5, (some FieldType.boolean), 4, 87)
abbrev mdX10_count : mMd := (yX10_count, cX10_count, 2, (some FieldType.int), 1, 20)
abbrev mdX12_init : mMd := (yX12_init, cX12_init, 2, none, 4, 100)
abbrev mdX11_init : mMd := (yX11_init, cX11_init, 1, none, 3, 80)
abbrev mdX12_feed : mMd := (yX12_feed, cX12_feed, 6, (some FieldType.int), 1, 22)
abbrev mdX12_lay : mMd := (yX12_lay, cX12_lay, 3, none, 0, 0)
abbrev mdX12_end : mMd := (yX12_end, cX12_end, 2, (some FieldType.int), 1, 25)
abbrev mdX12_in : mMd := (yX12_in, cX12_in, 6, (some FieldType.boolean), 0, 0)
abbrev mdX12_act : mMd := (yX12_act, cX12_act, 3, (some FieldType.int), 9, 195)
abbrev mdX12_isDay : mMd := (yX12_isDay, cX12_isDay, 1, (some FieldType.boolean), 1, 25)
abbrev mdX12_scan : mMd := (yX12_scan, cX12_scan, 2, none, 1, 21)
abbrev mdX12_byteAt : mMd := (yX12_byteAt, cX12_byteAt, 2, (some FieldType.int), 0, 0)
abbrev mdX12_isLetter : mMd := (yX12_isLetter, cX12_isLetter, 1, (some FieldType.boolean), 0, 0)
abbrev mdX12_isDigit : mMd := (yX12_isDigit, cX12_isDigit, 1, (some FieldType.boolean), 0, 0)
abbrev mdX12_readAct : mMd := (yX12_readAct, cX12_readAct, 3, none, 8, 173)
abbrev mdX12_kindAtHand : mMd := (yX12_kindAtHand, cX12_kindAtHand, 1, (some FieldType.int), 6, 129)
abbrev mdX12_is : mMd := (yX12_is, cX12_is, 4, (some FieldType.boolean), 5, 106)
abbrev mdX12_readRule : mMd := (yX12_readRule, cX12_readRule, 4, none, 7, 150)
abbrev mdX12_wrong : mMd := (yX12_wrong, cX12_wrong, 2, (some (FieldType.object "GownCourtModel$Stop")), 0, 0)
abbrev mdX12_number : mMd := (yX12_number, cX12_number, 4, (some FieldType.int), 2, 42)
abbrev mdX12_need : mMd := (yX12_need, cX12_need, 2, none, 6, 129)
abbrev mdX12_readOther : mMd := (yX12_readOther, cX12_readOther, 3, none, 6, 129)
abbrev mdX12_fault : mMd := (yX12_fault, cX12_fault, 2, (some FieldType.int), 0, 0)
abbrev mdX12_told : mMd := (yX12_told, cX12_told, 3, (some FieldType.int), 2, 46)
abbrev mdX12_isAct : mMd := (yX12_isAct, cX12_isAct, 2, (some FieldType.boolean), 1, 25)
abbrev mdX12_rule : mMd := (yX12_rule, cX12_rule, 5, (some FieldType.int), 2, 46)
abbrev mdX12_force : mMd := (yX12_force, cX12_force, 4, (some FieldType.int), 2, 45)
abbrev mdX12_isInForce : mMd := (yX12_isInForce, cX12_isInForce, 4, (some FieldType.boolean), 0, 0)
abbrev mdX12_rank : mMd := (yX12_rank, cX12_rank, 4, (some FieldType.int), 2, 45)
abbrev mdX12_isPerson : mMd := (yX12_isPerson, cX12_isPerson, 1, (some FieldType.boolean), 1, 25)
abbrev mdX12_feast : mMd := (yX12_feast, cX12_feast, 3, (some FieldType.int), 3, 66)
abbrev mdX12_areDays : mMd := (yX12_areDays, cX12_areDays, 2, (some FieldType.boolean), 2, 45)
abbrev mdX12_wedding : mMd := (yX12_wedding, cX12_wedding, 4, (some FieldType.int), 3, 66)
abbrev mdX12_on : mMd := (yX12_on, cX12_on, 4, (some FieldType.int), 2, 48)
abbrev mdX12_rankOf : mMd := (yX12_rankOf, cX12_rankOf, 5, (some FieldType.int), 0, 0)
abbrev mdX12_occasionOf : mMd := (yX12_occasionOf, cX12_occasionOf, 4, (some FieldType.int), 1, 25)
abbrev mdX12_gown : mMd := (yX12_gown, cX12_gown, 10, (some FieldType.int), 1, 25)
abbrev mdX12_seal : mMd := (yX12_seal, cX12_seal, 3, (some FieldType.int), 2, 46)
abbrev mdX12_isGown : mMd := (yX12_isGown, cX12_isGown, 2, (some FieldType.boolean), 1, 25)
abbrev mdX12_about : mMd := (yX12_about, cX12_about, 3, (some FieldType.int), 2, 46)
abbrev mdX12_like : mMd := (yX12_like, cX12_like, 4, (some FieldType.int), 2, 45)
abbrev mdX12_isStuff : mMd := (yX12_isStuff, cX12_isStuff, 1, (some FieldType.boolean), 1, 25)
abbrev mdX12_counts : mMd := (yX12_counts, cX12_counts, 3, (some FieldType.int), 2, 45)
abbrev mdX12_countsAs : mMd := (yX12_countsAs, cX12_countsAs, 6, (some FieldType.int), 0, 0)
abbrev mdX12_fine : mMd := (yX12_fine, cX12_fine, 4, (some FieldType.int), 4, 106)
abbrev mdX12_isCase : mMd := (yX12_isCase, cX12_isCase, 4, (some FieldType.boolean), 2, 46)
abbrev mdX12_fineOf : mMd := (yX12_fineOf, cX12_fineOf, 8, (some FieldType.int), 3, 79)
abbrev mdX12_brokenOf : mMd := (yX12_brokenOf, cX12_brokenOf, 8, (some FieldType.int), 2, 52)
abbrev mdX12_binds : mMd := (yX12_binds, cX12_binds, 8, (some FieldType.boolean), 1, 25)
abbrev mdX12_isBroken : mMd := (yX12_isBroken, cX12_isBroken, 6, (some FieldType.boolean), 1, 25)
abbrev mdX12_broken : mMd := (yX12_broken, cX12_broken, 5, (some FieldType.int), 3, 79)
abbrev mdX12_letter : mMd := (yX12_letter, cX12_letter, 5, (some FieldType.int), 3, 69)
abbrev mdX12_judge : mMd := (yX12_judge, cX12_judge, 5, (some FieldType.int), 4, 106)
abbrev mdX12_isLetterOf : mMd := (yX12_isLetterOf, cX12_isLetterOf, 2, (some FieldType.boolean), 1, 25)
abbrev mdX12_partOn : mMd := (yX12_partOn, cX12_partOn, 4, (some FieldType.int), 1, 23)
abbrev mdX12_lettered : mMd := (yX12_lettered, cX12_lettered, 3, (some FieldType.int), 2, 46)
abbrev mdX12_person : mMd := (yX12_person, cX12_person, 3, (some FieldType.int), 2, 45)
abbrev mdX12_price : mMd := (yX12_price, cX12_price, 4, (some FieldType.int), 1, 25)
abbrev mdX12_alter : mMd := (yX12_alter, cX12_alter, 4, (some FieldType.int), 4, 104)
abbrev mdX12_alterOf : mMd := (yX12_alterOf, cX12_alterOf, 7, (some FieldType.int), 3, 78)
abbrev mdX12_gather : mMd := (yX12_gather, cX12_gather, 7, none, 2, 52)
abbrev mdX12_best : mMd := (yX12_best, cX12_best, 6, (some FieldType.int), 4, 106)
abbrev mdX12_worn : mMd := (yX12_worn, cX12_worn, 12, (some FieldType.int), 3, 79)
abbrev mdX12_count : mMd := (yX12_count, cX12_count, 2, (some FieldType.int), 0, 0)
theorem flX10_10 : mFl RX10 10 10 0 := ⟨by decide, by decide, Or.inl (mW_at 248 (by decide +kernel) (by decide))⟩
theorem flX10_21 : mFl RX10 21 10 1 := ⟨by decide, by decide, Or.inl (mW_at 249 (by decide +kernel) (by decide))⟩
theorem flX10_28 : mFl RX10 28 10 2 := ⟨by decide, by decide, Or.inl (mW_at 250 (by decide +kernel) (by decide))⟩
theorem flX10_37 : mFl RX10 37 10 3 := ⟨by decide, by decide, Or.inl (mW_at 251 (by decide +kernel) (by decide))⟩
theorem flX10_41 : mFl RX10 41 10 4 := ⟨by decide, by decide, Or.inl (mW_at 252 (by decide +kernel) (by decide))⟩
theorem flX10_44 : mFl RX10 44 10 5 := ⟨by decide, by decide, Or.inl (mW_at 253 (by decide +kernel) (by decide))⟩
theorem flX10_47 : mFl RX10 47 10 6 := ⟨by decide, by decide, Or.inl (mW_at 254 (by decide +kernel) (by decide))⟩
theorem flX10_52 : mFl RX10 52 10 7 := ⟨by decide, by decide, Or.inl (mW_at 255 (by decide +kernel) (by decide))⟩
theorem flX10_56 : mFl RX10 56 10 8 := ⟨by decide, by decide, Or.inl (mW_at 256 (by decide +kernel) (by decide))⟩
theorem flX10_62 : mFl RX10 62 10 9 := ⟨by decide, by decide, Or.inl (mW_at 257 (by decide +kernel) (by decide))⟩
theorem flX10_66 : mFl RX10 66 10 10 := ⟨by decide, by decide, Or.inl (mW_at 258 (by decide +kernel) (by decide))⟩
theorem flX10_69 : mFl RX10 69 10 11 := ⟨by decide, by decide, Or.inl (mW_at 259 (by decide +kernel) (by decide))⟩
theorem flX10_73 : mFl RX10 73 10 12 := ⟨by decide, by decide, Or.inl (mW_at 260 (by decide +kernel) (by decide))⟩
theorem flX10_76 : mFl RX10 76 10 13 := ⟨by decide, by decide, Or.inl (mW_at 261 (by decide +kernel) (by decide))⟩
theorem flX10_79 : mFl RX10 79 10 14 := ⟨by decide, by decide, Or.inl (mW_at 262 (by decide +kernel) (by decide))⟩
theorem flX10_82 : mFl RX10 82 10 15 := ⟨by decide, by decide, Or.inl (mW_at 263 (by decide +kernel) (by decide))⟩
theorem flX10_88 : mFl RX10 88 10 16 := ⟨by decide, by decide, Or.inl (mW_at 264 (by decide +kernel) (by decide))⟩
theorem flX10_95 : mFl RX10 95 10 17 := ⟨by decide, by decide, Or.inl (mW_at 265 (by decide +kernel) (by decide))⟩
theorem flX10_161 : mFl RX10 161 3 3 := ⟨by decide, by decide, Or.inr ⟨"GownCourt", mN_at 193 (by decide +kernel) (by decide)⟩⟩
theorem flX10_164 : mFl RX10 164 3 1 := ⟨by decide, by decide, Or.inr ⟨"GownCourt", mN_at 187 (by decide +kernel) (by decide)⟩⟩
theorem flX10_167 : mFl RX10 167 3 2 := ⟨by decide, by decide, Or.inr ⟨"GownCourt", mN_at 190 (by decide +kernel) (by decide)⟩⟩
theorem flX10_200 : mFl RX10 200 0 0 := ⟨by decide, by decide, Or.inr ⟨"GownCourt", mN_at 60 (by decide +kernel) (by decide)⟩⟩
theorem flX10_205 : mFl RX10 205 0 2 := ⟨by decide, by decide, Or.inr ⟨"GownCourt", mN_at 64 (by decide +kernel) (by decide)⟩⟩
theorem flX10_211 : mFl RX10 211 0 4 := ⟨by decide, by decide, Or.inr ⟨"GownCourt", mN_at 70 (by decide +kernel) (by decide)⟩⟩
theorem flX10_214 : mFl RX10 214 0 5 := ⟨by decide, by decide, Or.inr ⟨"GownCourt", mN_at 73 (by decide +kernel) (by decide)⟩⟩
theorem flX10_221 : mFl RX10 221 7 0 := ⟨by decide, by decide, Or.inr ⟨"GownCourt", mN_at 598 (by decide +kernel) (by decide)⟩⟩
theorem flX10_226 : mFl RX10 226 7 1 := ⟨by decide, by decide, Or.inr ⟨"GownCourt", mN_at 601 (by decide +kernel) (by decide)⟩⟩
theorem flX10_229 : mFl RX10 229 7 2 := ⟨by decide, by decide, Or.inr ⟨"GownCourt", mN_at 603 (by decide +kernel) (by decide)⟩⟩
theorem flX10_232 : mFl RX10 232 7 3 := ⟨by decide, by decide, Or.inr ⟨"GownCourt", mN_at 605 (by decide +kernel) (by decide)⟩⟩
theorem flX10_235 : mFl RX10 235 7 4 := ⟨by decide, by decide, Or.inr ⟨"GownCourt", mN_at 607 (by decide +kernel) (by decide)⟩⟩
theorem flX10_238 : mFl RX10 238 7 5 := ⟨by decide, by decide, Or.inr ⟨"GownCourt", mN_at 610 (by decide +kernel) (by decide)⟩⟩
theorem flX10_262 : mFl RX10 262 4 4 := ⟨by decide, by decide, Or.inr ⟨"GownCourt", mN_at 765 (by decide +kernel) (by decide)⟩⟩
theorem flX10_269 : mFl RX10 269 4 1 := ⟨by decide, by decide, Or.inr ⟨"GownCourt", mN_at 759 (by decide +kernel) (by decide)⟩⟩
theorem flX10_272 : mFl RX10 272 4 2 := ⟨by decide, by decide, Or.inr ⟨"GownCourt", mN_at 761 (by decide +kernel) (by decide)⟩⟩
theorem flX10_275 : mFl RX10 275 4 3 := ⟨by decide, by decide, Or.inr ⟨"GownCourt", mN_at 763 (by decide +kernel) (by decide)⟩⟩
theorem flX10_286 : mFl RX10 286 4 0 := ⟨by decide, by decide, Or.inr ⟨"GownCourt", mN_at 757 (by decide +kernel) (by decide)⟩⟩
theorem flX10_289 : mFl RX10 289 4 5 := ⟨by decide, by decide, Or.inr ⟨"GownCourt", mN_at 767 (by decide +kernel) (by decide)⟩⟩
theorem flX10_290 : mFl RX10 290 4 6 := ⟨by decide, by decide, Or.inr ⟨"GownCourt", mN_at 769 (by decide +kernel) (by decide)⟩⟩
theorem flX10_338 : mFl RX10 338 9 2 := ⟨by decide, by decide, Or.inr ⟨"GownCourt", mN_at 210 (by decide +kernel) (by decide)⟩⟩
theorem flX10_347 : mFl RX10 347 9 4 := ⟨by decide, by decide, Or.inr ⟨"GownCourt", mN_at 217 (by decide +kernel) (by decide)⟩⟩
theorem flX10_353 : mFl RX10 353 9 3 := ⟨by decide, by decide, Or.inr ⟨"GownCourt", mN_at 214 (by decide +kernel) (by decide)⟩⟩
theorem flX0_9 : mFl RX0 9 0 0 := ⟨by decide, by decide, Or.inl (mW_at 58 (by decide +kernel) (by decide))⟩
theorem flX0_17 : mFl RX0 17 0 1 := ⟨by decide, by decide, Or.inl (mW_at 61 (by decide +kernel) (by decide))⟩
theorem flX0_21 : mFl RX0 21 0 2 := ⟨by decide, by decide, Or.inl (mW_at 62 (by decide +kernel) (by decide))⟩
theorem flX0_24 : mFl RX0 24 0 3 := ⟨by decide, by decide, Or.inl (mW_at 65 (by decide +kernel) (by decide))⟩
theorem flX0_27 : mFl RX0 27 0 4 := ⟨by decide, by decide, Or.inl (mW_at 67 (by decide +kernel) (by decide))⟩
theorem flX0_30 : mFl RX0 30 0 5 := ⟨by decide, by decide, Or.inl (mW_at 71 (by decide +kernel) (by decide))⟩
theorem flX0_39 : mFl RX0 39 9 2 := ⟨by decide, by decide, Or.inr ⟨"GownCourt", mN_at 209 (by decide +kernel) (by decide)⟩⟩
theorem flX0_45 : mFl RX0 45 3 3 := ⟨by decide, by decide, Or.inr ⟨"GownCourt", mN_at 192 (by decide +kernel) (by decide)⟩⟩
theorem flX0_50 : mFl RX0 50 9 3 := ⟨by decide, by decide, Or.inr ⟨"GownCourt", mN_at 212 (by decide +kernel) (by decide)⟩⟩
theorem flX0_68 : mFl RX0 68 7 5 := ⟨by decide, by decide, Or.inr ⟨"GownCourt", mN_at 609 (by decide +kernel) (by decide)⟩⟩
theorem flX1_9 : mFl RX1 9 1 0 := ⟨by decide, by decide, Or.inl (mW_at 235 (by decide +kernel) (by decide))⟩
theorem flX1_15 : mFl RX1 15 1 1 := ⟨by decide, by decide, Or.inl (mW_at 236 (by decide +kernel) (by decide))⟩
theorem flX1_19 : mFl RX1 19 1 2 := ⟨by decide, by decide, Or.inl (mW_at 237 (by decide +kernel) (by decide))⟩
theorem flX1_28 : mFl RX1 28 7 0 := ⟨by decide, by decide, Or.inr ⟨"GownCourt", mN_at 597 (by decide +kernel) (by decide)⟩⟩
theorem flX1_33 : mFl RX1 33 7 1 := ⟨by decide, by decide, Or.inr ⟨"GownCourt", mN_at 600 (by decide +kernel) (by decide)⟩⟩
theorem flX2_11 : mFl RX2 11 2 0 := ⟨by decide, by decide, Or.inl (mW_at 142 (by decide +kernel) (by decide))⟩
theorem flX2_17 : mFl RX2 17 2 1 := ⟨by decide, by decide, Or.inl (mW_at 143 (by decide +kernel) (by decide))⟩
theorem flX2_25 : mFl RX2 25 0 0 := ⟨by decide, by decide, Or.inr ⟨"GownCourt", mN_at 59 (by decide +kernel) (by decide)⟩⟩
theorem flX2_28 : mFl RX2 28 0 5 := ⟨by decide, by decide, Or.inr ⟨"GownCourt", mN_at 72 (by decide +kernel) (by decide)⟩⟩
theorem flX2_39 : mFl RX2 39 0 4 := ⟨by decide, by decide, Or.inr ⟨"GownCourt", mN_at 68 (by decide +kernel) (by decide)⟩⟩
theorem flX2_42 : mFl RX2 42 9 3 := ⟨by decide, by decide, Or.inr ⟨"GownCourt", mN_at 213 (by decide +kernel) (by decide)⟩⟩
theorem flX3_9 : mFl RX3 9 3 0 := ⟨by decide, by decide, Or.inl (mW_at 185 (by decide +kernel) (by decide))⟩
theorem flX3_15 : mFl RX3 15 3 3 := ⟨by decide, by decide, Or.inl (mW_at 191 (by decide +kernel) (by decide))⟩
theorem flX3_19 : mFl RX3 19 3 1 := ⟨by decide, by decide, Or.inl (mW_at 186 (by decide +kernel) (by decide))⟩
theorem flX3_22 : mFl RX3 22 3 2 := ⟨by decide, by decide, Or.inl (mW_at 188 (by decide +kernel) (by decide))⟩
theorem flX4_9 : mFl RX4 9 4 4 := ⟨by decide, by decide, Or.inl (mW_at 764 (by decide +kernel) (by decide))⟩
theorem flX4_15 : mFl RX4 15 4 5 := ⟨by decide, by decide, Or.inl (mW_at 766 (by decide +kernel) (by decide))⟩
theorem flX4_18 : mFl RX4 18 4 6 := ⟨by decide, by decide, Or.inl (mW_at 768 (by decide +kernel) (by decide))⟩
theorem flX4_21 : mFl RX4 21 4 0 := ⟨by decide, by decide, Or.inl (mW_at 756 (by decide +kernel) (by decide))⟩
theorem flX4_24 : mFl RX4 24 4 1 := ⟨by decide, by decide, Or.inl (mW_at 758 (by decide +kernel) (by decide))⟩
theorem flX4_27 : mFl RX4 27 4 2 := ⟨by decide, by decide, Or.inl (mW_at 760 (by decide +kernel) (by decide))⟩
theorem flX4_30 : mFl RX4 30 4 3 := ⟨by decide, by decide, Or.inl (mW_at 762 (by decide +kernel) (by decide))⟩
theorem flX5_12 : mFl RX5 12 5 1 := ⟨by decide, by decide, Or.inl (mW_at 89 (by decide +kernel) (by decide))⟩
theorem flX5_18 : mFl RX5 18 5 2 := ⟨by decide, by decide, Or.inl (mW_at 90 (by decide +kernel) (by decide))⟩
theorem flX5_22 : mFl RX5 22 5 3 := ⟨by decide, by decide, Or.inl (mW_at 91 (by decide +kernel) (by decide))⟩
theorem flX5_25 : mFl RX5 25 5 4 := ⟨by decide, by decide, Or.inl (mW_at 92 (by decide +kernel) (by decide))⟩
theorem flX5_28 : mFl RX5 28 5 5 := ⟨by decide, by decide, Or.inl (mW_at 93 (by decide +kernel) (by decide))⟩
theorem flX5_31 : mFl RX5 31 5 6 := ⟨by decide, by decide, Or.inl (mW_at 94 (by decide +kernel) (by decide))⟩
theorem flX5_34 : mFl RX5 34 5 7 := ⟨by decide, by decide, Or.inl (mW_at 95 (by decide +kernel) (by decide))⟩
theorem flX5_37 : mFl RX5 37 5 8 := ⟨by decide, by decide, Or.inl (mW_at 96 (by decide +kernel) (by decide))⟩
theorem flX5_40 : mFl RX5 40 5 9 := ⟨by decide, by decide, Or.inl (mW_at 97 (by decide +kernel) (by decide))⟩
theorem flX5_43 : mFl RX5 43 5 10 := ⟨by decide, by decide, Or.inl (mW_at 98 (by decide +kernel) (by decide))⟩
theorem flX5_46 : mFl RX5 46 5 11 := ⟨by decide, by decide, Or.inl (mW_at 99 (by decide +kernel) (by decide))⟩
theorem flX5_49 : mFl RX5 49 5 12 := ⟨by decide, by decide, Or.inl (mW_at 100 (by decide +kernel) (by decide))⟩
theorem flX5_52 : mFl RX5 52 5 13 := ⟨by decide, by decide, Or.inl (mW_at 101 (by decide +kernel) (by decide))⟩
theorem flX5_55 : mFl RX5 55 5 14 := ⟨by decide, by decide, Or.inl (mW_at 102 (by decide +kernel) (by decide))⟩
theorem flX5_58 : mFl RX5 58 5 0 := ⟨by decide, by decide, Or.inl (mW_at 88 (by decide +kernel) (by decide))⟩
theorem flX5_128 : mFl RX5 128 0 3 := ⟨by decide, by decide, Or.inr ⟨"GownCourt", mN_at 66 (by decide +kernel) (by decide)⟩⟩
theorem flX5_131 : mFl RX5 131 0 4 := ⟨by decide, by decide, Or.inr ⟨"GownCourt", mN_at 69 (by decide +kernel) (by decide)⟩⟩
theorem flX5_140 : mFl RX5 140 0 2 := ⟨by decide, by decide, Or.inr ⟨"GownCourt", mN_at 63 (by decide +kernel) (by decide)⟩⟩
theorem flX5_198 : mFl RX5 198 0 5 := ⟨by decide, by decide, Or.inr ⟨"GownCourt", mN_at 74 (by decide +kernel) (by decide)⟩⟩
theorem flX6_9 : mFl RX6 9 6 3 := ⟨by decide, by decide, Or.inl (mW_at 158 (by decide +kernel) (by decide))⟩
theorem flX6_15 : mFl RX6 15 6 0 := ⟨by decide, by decide, Or.inl (mW_at 155 (by decide +kernel) (by decide))⟩
theorem flX6_19 : mFl RX6 19 6 1 := ⟨by decide, by decide, Or.inl (mW_at 156 (by decide +kernel) (by decide))⟩
theorem flX6_22 : mFl RX6 22 6 2 := ⟨by decide, by decide, Or.inl (mW_at 157 (by decide +kernel) (by decide))⟩
theorem flX7_9 : mFl RX7 9 7 0 := ⟨by decide, by decide, Or.inl (mW_at 596 (by decide +kernel) (by decide))⟩
theorem flX7_15 : mFl RX7 15 7 1 := ⟨by decide, by decide, Or.inl (mW_at 599 (by decide +kernel) (by decide))⟩
theorem flX7_18 : mFl RX7 18 7 2 := ⟨by decide, by decide, Or.inl (mW_at 602 (by decide +kernel) (by decide))⟩
theorem flX7_21 : mFl RX7 21 7 3 := ⟨by decide, by decide, Or.inl (mW_at 604 (by decide +kernel) (by decide))⟩
theorem flX7_24 : mFl RX7 24 7 4 := ⟨by decide, by decide, Or.inl (mW_at 606 (by decide +kernel) (by decide))⟩
theorem flX7_27 : mFl RX7 27 7 5 := ⟨by decide, by decide, Or.inl (mW_at 608 (by decide +kernel) (by decide))⟩
theorem flX7_30 : mFl RX7 30 9 0 := ⟨by decide, by decide, Or.inr ⟨"GownCourt", mN_at 204 (by decide +kernel) (by decide)⟩⟩
theorem flX7_35 : mFl RX7 35 9 1 := ⟨by decide, by decide, Or.inr ⟨"GownCourt", mN_at 206 (by decide +kernel) (by decide)⟩⟩
theorem flX7_38 : mFl RX7 38 9 4 := ⟨by decide, by decide, Or.inr ⟨"GownCourt", mN_at 216 (by decide +kernel) (by decide)⟩⟩
theorem flX7_41 : mFl RX7 41 9 2 := ⟨by decide, by decide, Or.inr ⟨"GownCourt", mN_at 208 (by decide +kernel) (by decide)⟩⟩
theorem flX7_45 : mFl RX7 45 3 2 := ⟨by decide, by decide, Or.inr ⟨"GownCourt", mN_at 189 (by decide +kernel) (by decide)⟩⟩
theorem flX8_9 : mFl RX8 9 8 0 := ⟨by decide, by decide, Or.inl (mW_at 36 (by decide +kernel) (by decide))⟩
theorem flX8_15 : mFl RX8 15 8 1 := ⟨by decide, by decide, Or.inl (mW_at 37 (by decide +kernel) (by decide))⟩
theorem flX9_9 : mFl RX9 9 9 0 := ⟨by decide, by decide, Or.inl (mW_at 203 (by decide +kernel) (by decide))⟩
theorem flX9_15 : mFl RX9 15 9 1 := ⟨by decide, by decide, Or.inl (mW_at 205 (by decide +kernel) (by decide))⟩
theorem flX9_23 : mFl RX9 23 9 2 := ⟨by decide, by decide, Or.inl (mW_at 207 (by decide +kernel) (by decide))⟩
theorem flX9_27 : mFl RX9 27 9 3 := ⟨by decide, by decide, Or.inl (mW_at 211 (by decide +kernel) (by decide))⟩
theorem flX9_30 : mFl RX9 30 9 4 := ⟨by decide, by decide, Or.inl (mW_at 215 (by decide +kernel) (by decide))⟩
theorem flX12_9 : mFl RX12 9 12 20 := ⟨by decide, by decide, Or.inl (mW_at 978 (by decide +kernel) (by decide))⟩
theorem flX12_13 : mFl RX12 13 12 16 := ⟨by decide, by decide, Or.inl (mW_at 974 (by decide +kernel) (by decide))⟩
theorem flX12_16 : mFl RX12 16 12 21 := ⟨by decide, by decide, Or.inl (mW_at 979 (by decide +kernel) (by decide))⟩
theorem flX12_19 : mFl RX12 19 12 12 := ⟨by decide, by decide, Or.inl (mW_at 970 (by decide +kernel) (by decide))⟩
theorem flX12_23 : mFl RX12 23 12 15 := ⟨by decide, by decide, Or.inl (mW_at 973 (by decide +kernel) (by decide))⟩
theorem flX12_26 : mFl RX12 26 12 13 := ⟨by decide, by decide, Or.inl (mW_at 971 (by decide +kernel) (by decide))⟩
theorem flX12_30 : mFl RX12 30 12 17 := ⟨by decide, by decide, Or.inl (mW_at 975 (by decide +kernel) (by decide))⟩
theorem flX12_37 : mFl RX12 37 12 18 := ⟨by decide, by decide, Or.inl (mW_at 976 (by decide +kernel) (by decide))⟩
theorem flX12_47 : mFl RX12 47 12 19 := ⟨by decide, by decide, Or.inl (mW_at 977 (by decide +kernel) (by decide))⟩
theorem flX12_88 : mFl RX12 88 12 2 := ⟨by decide, by decide, Or.inl (mW_at 960 (by decide +kernel) (by decide))⟩
theorem flX12_92 : mFl RX12 92 12 3 := ⟨by decide, by decide, Or.inl (mW_at 961 (by decide +kernel) (by decide))⟩
theorem flX12_95 : mFl RX12 95 12 4 := ⟨by decide, by decide, Or.inl (mW_at 962 (by decide +kernel) (by decide))⟩
theorem flX12_98 : mFl RX12 98 12 5 := ⟨by decide, by decide, Or.inl (mW_at 963 (by decide +kernel) (by decide))⟩
theorem flX12_101 : mFl RX12 101 12 22 := ⟨by decide, by decide, Or.inl (mW_at 980 (by decide +kernel) (by decide))⟩
theorem flX12_118 : mFl RX12 118 12 0 := ⟨by decide, by decide, Or.inl (mW_at 958 (by decide +kernel) (by decide))⟩
theorem flX12_127 : mFl RX12 127 12 6 := ⟨by decide, by decide, Or.inl (mW_at 964 (by decide +kernel) (by decide))⟩
theorem flX12_130 : mFl RX12 130 12 7 := ⟨by decide, by decide, Or.inl (mW_at 965 (by decide +kernel) (by decide))⟩
theorem flX12_132 : mFl RX12 132 12 8 := ⟨by decide, by decide, Or.inl (mW_at 966 (by decide +kernel) (by decide))⟩
theorem flX12_135 : mFl RX12 135 12 9 := ⟨by decide, by decide, Or.inl (mW_at 967 (by decide +kernel) (by decide))⟩
theorem flX12_148 : mFl RX12 148 12 10 := ⟨by decide, by decide, Or.inl (mW_at 968 (by decide +kernel) (by decide))⟩
theorem flX12_161 : mFl RX12 161 12 11 := ⟨by decide, by decide, Or.inl (mW_at 969 (by decide +kernel) (by decide))⟩
theorem flX12_168 : mFl RX12 168 12 1 := ⟨by decide, by decide, Or.inl (mW_at 959 (by decide +kernel) (by decide))⟩
theorem flX12_174 : mFl RX12 174 12 23 := ⟨by decide, by decide, Or.inl (mW_at 981 (by decide +kernel) (by decide))⟩
theorem flX12_177 : mFl RX12 177 12 24 := ⟨by decide, by decide, Or.inl (mW_at 982 (by decide +kernel) (by decide))⟩
theorem flX12_180 : mFl RX12 180 12 25 := ⟨by decide, by decide, Or.inl (mW_at 983 (by decide +kernel) (by decide))⟩
theorem flX12_183 : mFl RX12 183 12 26 := ⟨by decide, by decide, Or.inl (mW_at 984 (by decide +kernel) (by decide))⟩
theorem flX12_186 : mFl RX12 186 12 27 := ⟨by decide, by decide, Or.inl (mW_at 985 (by decide +kernel) (by decide))⟩
theorem flX12_189 : mFl RX12 189 12 28 := ⟨by decide, by decide, Or.inl (mW_at 986 (by decide +kernel) (by decide))⟩
theorem flX12_192 : mFl RX12 192 12 29 := ⟨by decide, by decide, Or.inl (mW_at 987 (by decide +kernel) (by decide))⟩
theorem flX12_195 : mFl RX12 195 12 30 := ⟨by decide, by decide, Or.inl (mW_at 988 (by decide +kernel) (by decide))⟩
theorem flX12_198 : mFl RX12 198 12 34 := ⟨by decide, by decide, Or.inl (mW_at 992 (by decide +kernel) (by decide))⟩
theorem flX12_201 : mFl RX12 201 12 35 := ⟨by decide, by decide, Or.inl (mW_at 993 (by decide +kernel) (by decide))⟩
theorem flX12_203 : mFl RX12 203 12 36 := ⟨by decide, by decide, Or.inl (mW_at 994 (by decide +kernel) (by decide))⟩
theorem flX12_205 : mFl RX12 205 12 37 := ⟨by decide, by decide, Or.inl (mW_at 995 (by decide +kernel) (by decide))⟩
theorem flX12_208 : mFl RX12 208 12 38 := ⟨by decide, by decide, Or.inl (mW_at 996 (by decide +kernel) (by decide))⟩
theorem flX12_211 : mFl RX12 211 12 39 := ⟨by decide, by decide, Or.inl (mW_at 997 (by decide +kernel) (by decide))⟩
theorem flX12_214 : mFl RX12 214 12 40 := ⟨by decide, by decide, Or.inl (mW_at 998 (by decide +kernel) (by decide))⟩
theorem flX12_217 : mFl RX12 217 12 41 := ⟨by decide, by decide, Or.inl (mW_at 999 (by decide +kernel) (by decide))⟩
theorem flX12_220 : mFl RX12 220 12 42 := ⟨by decide, by decide, Or.inl (mW_at 1000 (by decide +kernel) (by decide))⟩
theorem flX12_223 : mFl RX12 223 12 43 := ⟨by decide, by decide, Or.inl (mW_at 1001 (by decide +kernel) (by decide))⟩
theorem flX12_226 : mFl RX12 226 12 44 := ⟨by decide, by decide, Or.inl (mW_at 1002 (by decide +kernel) (by decide))⟩
theorem flX12_229 : mFl RX12 229 12 47 := ⟨by decide, by decide, Or.inl (mW_at 1005 (by decide +kernel) (by decide))⟩
theorem flX12_232 : mFl RX12 232 12 48 := ⟨by decide, by decide, Or.inl (mW_at 1006 (by decide +kernel) (by decide))⟩
theorem flX12_235 : mFl RX12 235 12 49 := ⟨by decide, by decide, Or.inl (mW_at 1007 (by decide +kernel) (by decide))⟩
theorem flX12_238 : mFl RX12 238 12 50 := ⟨by decide, by decide, Or.inl (mW_at 1008 (by decide +kernel) (by decide))⟩
theorem flX12_241 : mFl RX12 241 12 51 := ⟨by decide, by decide, Or.inl (mW_at 1009 (by decide +kernel) (by decide))⟩
theorem flX12_244 : mFl RX12 244 12 52 := ⟨by decide, by decide, Or.inl (mW_at 1010 (by decide +kernel) (by decide))⟩
theorem flX12_247 : mFl RX12 247 12 53 := ⟨by decide, by decide, Or.inl (mW_at 1011 (by decide +kernel) (by decide))⟩
theorem flX12_250 : mFl RX12 250 12 54 := ⟨by decide, by decide, Or.inl (mW_at 1012 (by decide +kernel) (by decide))⟩
theorem flX12_253 : mFl RX12 253 12 14 := ⟨by decide, by decide, Or.inl (mW_at 972 (by decide +kernel) (by decide))⟩
theorem flX12_282 : mFl RX12 282 12 31 := ⟨by decide, by decide, Or.inl (mW_at 989 (by decide +kernel) (by decide))⟩
theorem flX12_295 : mFl RX12 295 12 32 := ⟨by decide, by decide, Or.inl (mW_at 990 (by decide +kernel) (by decide))⟩
theorem flX12_306 : mFl RX12 306 12 33 := ⟨by decide, by decide, Or.inl (mW_at 991 (by decide +kernel) (by decide))⟩
theorem flX12_337 : mFl RX12 337 12 45 := ⟨by decide, by decide, Or.inl (mW_at 1003 (by decide +kernel) (by decide))⟩
theorem flX12_343 : mFl RX12 343 12 46 := ⟨by decide, by decide, Or.inl (mW_at 1004 (by decide +kernel) (by decide))⟩
theorem flX12_357 : mFl RX12 357 12 55 := ⟨by decide, by decide, Or.inl (mW_at 1013 (by decide +kernel) (by decide))⟩
theorem flX12_360 : mFl RX12 360 12 56 := ⟨by decide, by decide, Or.inl (mW_at 1014 (by decide +kernel) (by decide))⟩
theorem wcX10_init : Cond.code mdX10_init.1 mdX10_init.2.1 mdX10_init.2.2.1 mdX10_init.2.2.2.1 ∈ mW := mW_at 26 (by decide +kernel) (by decide)
theorem wiRX10 : Cond.initialized RX10 ∈ mW := mW_at 1 (by decide +kernel) (by decide)
theorem wmX10_init : Cond.instanceMethod yX10_init ∈ mW := mW_at 25 (by decide +kernel) (by decide)
theorem wcX8_init : Cond.code mdX8_init.1 mdX8_init.2.1 mdX8_init.2.2.1 mdX8_init.2.2.2.1 ∈ mW := mW_at 34 (by decide +kernel) (by decide)
theorem wiRX8 : Cond.initialized RX8 ∈ mW := mW_at 2 (by decide +kernel) (by decide)
theorem wmX8_init : Cond.instanceMethod yX8_init ∈ mW := mW_at 33 (by decide +kernel) (by decide)
theorem wcX5_init : Cond.code mdX5_init.1 mdX5_init.2.1 mdX5_init.2.2.1 mdX5_init.2.2.2.1 ∈ mW := mW_at 48 (by decide +kernel) (by decide)
theorem wiRX5 : Cond.initialized RX5 ∈ mW := mW_at 3 (by decide +kernel) (by decide)
theorem wmX5_init : Cond.instanceMethod yX5_init ∈ mW := mW_at 47 (by decide +kernel) (by decide)
theorem wcX0_init : Cond.code mdX0_init.1 mdX0_init.2.1 mdX0_init.2.2.1 mdX0_init.2.2.2.1 ∈ mW := mW_at 54 (by decide +kernel) (by decide)
theorem wiRX0 : Cond.initialized RX0 ∈ mW := mW_at 4 (by decide +kernel) (by decide)
theorem wmX0_init : Cond.instanceMethod yX0_init ∈ mW := mW_at 53 (by decide +kernel) (by decide)
theorem wcX2_init : Cond.code mdX2_init.1 mdX2_init.2.1 mdX2_init.2.2.1 mdX2_init.2.2.2.1 ∈ mW := mW_at 138 (by decide +kernel) (by decide)
theorem wiRX2 : Cond.initialized RX2 ∈ mW := mW_at 5 (by decide +kernel) (by decide)
theorem wmX2_init : Cond.instanceMethod yX2_init ∈ mW := mW_at 137 (by decide +kernel) (by decide)
theorem wcX6_init : Cond.code mdX6_init.1 mdX6_init.2.1 mdX6_init.2.2.1 mdX6_init.2.2.2.1 ∈ mW := mW_at 153 (by decide +kernel) (by decide)
theorem wiRX6 : Cond.initialized RX6 ∈ mW := mW_at 6 (by decide +kernel) (by decide)
theorem wmX6_init : Cond.instanceMethod yX6_init ∈ mW := mW_at 152 (by decide +kernel) (by decide)
theorem wcX9_init : Cond.code mdX9_init.1 mdX9_init.2.1 mdX9_init.2.2.1 mdX9_init.2.2.2.1 ∈ mW := mW_at 177 (by decide +kernel) (by decide)
theorem wiRX9 : Cond.initialized RX9 ∈ mW := mW_at 7 (by decide +kernel) (by decide)
theorem wmX9_init : Cond.instanceMethod yX9_init ∈ mW := mW_at 176 (by decide +kernel) (by decide)
theorem wcX3_init : Cond.code mdX3_init.1 mdX3_init.2.1 mdX3_init.2.2.1 mdX3_init.2.2.2.1 ∈ mW := mW_at 183 (by decide +kernel) (by decide)
theorem wiRX3 : Cond.initialized RX3 ∈ mW := mW_at 8 (by decide +kernel) (by decide)
theorem wmX3_init : Cond.instanceMethod yX3_init ∈ mW := mW_at 182 (by decide +kernel) (by decide)
theorem wcX1_init : Cond.code mdX1_init.1 mdX1_init.2.1 mdX1_init.2.2.1 mdX1_init.2.2.2.1 ∈ mW := mW_at 233 (by decide +kernel) (by decide)
theorem wiRX1 : Cond.initialized RX1 ∈ mW := mW_at 9 (by decide +kernel) (by decide)
theorem wmX1_init : Cond.instanceMethod yX1_init ∈ mW := mW_at 232 (by decide +kernel) (by decide)
theorem wcJ7_fill_53178 : Cond.code mdJ7_fill_53178.1 mdJ7_fill_53178.2.1 mdJ7_fill_53178.2.2.1 mdJ7_fill_53178.2.2.2.1 ∈ mW := mW_at 247 (by decide +kernel) (by decide)
theorem wiRJ7 : Cond.initialized RJ7 ∈ mW := mW_at 10 (by decide +kernel) (by decide)
theorem wtJ7_fill_53178 : Cond.static yJ7_fill_53178 ∈ mW := mW_at 246 (by decide +kernel) (by decide)
theorem wcX10_feed : Cond.code mdX10_feed.1 mdX10_feed.2.1 mdX10_feed.2.2.1 mdX10_feed.2.2.2.1 ∈ mW := mW_at 306 (by decide +kernel) (by decide)
theorem wmX10_feed : Cond.instanceMethod yX10_feed ∈ mW := mW_at 304 (by decide +kernel) (by decide)
theorem wlX10_feed : Cond.selects RX10 yX10_feed yX10_feed ∈ mW := mW_at 305 (by decide +kernel) (by decide)
theorem wcX8_size : Cond.code mdX8_size.1 mdX8_size.2.1 mdX8_size.2.2.1 mdX8_size.2.2.2.1 ∈ mW := mW_at 310 (by decide +kernel) (by decide)
theorem wmX8_size : Cond.instanceMethod yX8_size ∈ mW := mW_at 308 (by decide +kernel) (by decide)
theorem wlX8_size : Cond.selects RX8 yX8_size yX8_size ∈ mW := mW_at 309 (by decide +kernel) (by decide)
theorem wcX8_put : Cond.code mdX8_put.1 mdX8_put.2.1 mdX8_put.2.2.1 mdX8_put.2.2.2.1 ∈ mW := mW_at 314 (by decide +kernel) (by decide)
theorem wmX8_put : Cond.instanceMethod yX8_put ∈ mW := mW_at 312 (by decide +kernel) (by decide)
theorem wlX8_put : Cond.selects RX8 yX8_put yX8_put ∈ mW := mW_at 313 (by decide +kernel) (by decide)
theorem wcX10_end : Cond.code mdX10_end.1 mdX10_end.2.1 mdX10_end.2.2.1 mdX10_end.2.2.2.1 ∈ mW := mW_at 318 (by decide +kernel) (by decide)
theorem wmX10_end : Cond.instanceMethod yX10_end ∈ mW := mW_at 316 (by decide +kernel) (by decide)
theorem wlX10_end : Cond.selects RX10 yX10_end yX10_end ∈ mW := mW_at 317 (by decide +kernel) (by decide)
theorem wcX8_cutTo : Cond.code mdX8_cutTo.1 mdX8_cutTo.2.1 mdX8_cutTo.2.2.1 mdX8_cutTo.2.2.2.1 ∈ mW := mW_at 322 (by decide +kernel) (by decide)
theorem wmX8_cutTo : Cond.instanceMethod yX8_cutTo ∈ mW := mW_at 320 (by decide +kernel) (by decide)
theorem wlX8_cutTo : Cond.selects RX8 yX8_cutTo yX8_cutTo ∈ mW := mW_at 321 (by decide +kernel) (by decide)
theorem wcX10_rank : Cond.code mdX10_rank.1 mdX10_rank.2.1 mdX10_rank.2.2.1 mdX10_rank.2.2.2.1 ∈ mW := mW_at 326 (by decide +kernel) (by decide)
theorem wmX10_rank : Cond.instanceMethod yX10_rank ∈ mW := mW_at 324 (by decide +kernel) (by decide)
theorem wlX10_rank : Cond.selects RX10 yX10_rank yX10_rank ∈ mW := mW_at 325 (by decide +kernel) (by decide)
theorem wcX10_isPerson : Cond.code mdX10_isPerson.1 mdX10_isPerson.2.1 mdX10_isPerson.2.2.1 mdX10_isPerson.2.2.2.1 ∈ mW := mW_at 329 (by decide +kernel) (by decide)
theorem wtX10_isPerson : Cond.static yX10_isPerson ∈ mW := mW_at 328 (by decide +kernel) (by decide)
theorem wcX10_isDay : Cond.code mdX10_isDay.1 mdX10_isDay.2.1 mdX10_isDay.2.2.1 mdX10_isDay.2.2.2.1 ∈ mW := mW_at 332 (by decide +kernel) (by decide)
theorem wtX10_isDay : Cond.static yX10_isDay ∈ mW := mW_at 331 (by decide +kernel) (by decide)
theorem wcX10_isRank : Cond.code mdX10_isRank.1 mdX10_isRank.2.1 mdX10_isRank.2.2.1 mdX10_isRank.2.2.2.1 ∈ mW := mW_at 335 (by decide +kernel) (by decide)
theorem wtX10_isRank : Cond.static yX10_isRank ∈ mW := mW_at 334 (by decide +kernel) (by decide)
theorem wcX6_countOf : Cond.code mdX6_countOf.1 mdX6_countOf.2.1 mdX6_countOf.2.2.1 mdX6_countOf.2.2.2.1 ∈ mW := mW_at 339 (by decide +kernel) (by decide)
theorem wmX6_countOf : Cond.instanceMethod yX6_countOf ∈ mW := mW_at 337 (by decide +kernel) (by decide)
theorem wlX6_countOf : Cond.selects RX6 yX6_countOf yX6_countOf ∈ mW := mW_at 338 (by decide +kernel) (by decide)
theorem wcX6_add : Cond.code mdX6_add.1 mdX6_add.2.1 mdX6_add.2.2.1 mdX6_add.2.2.2.1 ∈ mW := mW_at 343 (by decide +kernel) (by decide)
theorem wmX6_add : Cond.instanceMethod yX6_add ∈ mW := mW_at 341 (by decide +kernel) (by decide)
theorem wlX6_add : Cond.selects RX6 yX6_add yX6_add ∈ mW := mW_at 342 (by decide +kernel) (by decide)
theorem wcX10_feast : Cond.code mdX10_feast.1 mdX10_feast.2.1 mdX10_feast.2.2.1 mdX10_feast.2.2.2.1 ∈ mW := mW_at 347 (by decide +kernel) (by decide)
theorem wmX10_feast : Cond.instanceMethod yX10_feast ∈ mW := mW_at 345 (by decide +kernel) (by decide)
theorem wlX10_feast : Cond.selects RX10 yX10_feast yX10_feast ∈ mW := mW_at 346 (by decide +kernel) (by decide)
theorem wcX10_isSpan : Cond.code mdX10_isSpan.1 mdX10_isSpan.2.1 mdX10_isSpan.2.2.1 mdX10_isSpan.2.2.2.1 ∈ mW := mW_at 350 (by decide +kernel) (by decide)
theorem wtX10_isSpan : Cond.static yX10_isSpan ∈ mW := mW_at 349 (by decide +kernel) (by decide)
theorem wcX6_size : Cond.code mdX6_size.1 mdX6_size.2.1 mdX6_size.2.2.1 mdX6_size.2.2.2.1 ∈ mW := mW_at 354 (by decide +kernel) (by decide)
theorem wmX6_size : Cond.instanceMethod yX6_size ∈ mW := mW_at 352 (by decide +kernel) (by decide)
theorem wlX6_size : Cond.selects RX6 yX6_size yX6_size ∈ mW := mW_at 353 (by decide +kernel) (by decide)
theorem wcX10_wedding : Cond.code mdX10_wedding.1 mdX10_wedding.2.1 mdX10_wedding.2.2.1 mdX10_wedding.2.2.2.1 ∈ mW := mW_at 358 (by decide +kernel) (by decide)
theorem wmX10_wedding : Cond.instanceMethod yX10_wedding ∈ mW := mW_at 356 (by decide +kernel) (by decide)
theorem wlX10_wedding : Cond.selects RX10 yX10_wedding yX10_wedding ∈ mW := mW_at 357 (by decide +kernel) (by decide)
theorem wcX10_on : Cond.code mdX10_on.1 mdX10_on.2.1 mdX10_on.2.2.1 mdX10_on.2.2.2.1 ∈ mW := mW_at 362 (by decide +kernel) (by decide)
theorem wmX10_on : Cond.instanceMethod yX10_on ∈ mW := mW_at 360 (by decide +kernel) (by decide)
theorem wlX10_on : Cond.selects RX10 yX10_on yX10_on ∈ mW := mW_at 361 (by decide +kernel) (by decide)
theorem wcX10_rankOn : Cond.code mdX10_rankOn.1 mdX10_rankOn.2.1 mdX10_rankOn.2.2.1 mdX10_rankOn.2.2.2.1 ∈ mW := mW_at 366 (by decide +kernel) (by decide)
theorem wmX10_rankOn : Cond.instanceMethod yX10_rankOn ∈ mW := mW_at 365 (by decide +kernel) (by decide)
theorem wlX10_rankOn : Cond.selects RX10 yX10_rankOn yX10_rankOn ∈ mW := mW_sel 0 (by decide +kernel) (by decide)
theorem wcX6_heldOn : Cond.code mdX6_heldOn.1 mdX6_heldOn.2.1 mdX6_heldOn.2.2.1 mdX6_heldOn.2.2.2.1 ∈ mW := mW_at 370 (by decide +kernel) (by decide)
theorem wmX6_heldOn : Cond.instanceMethod yX6_heldOn ∈ mW := mW_at 368 (by decide +kernel) (by decide)
theorem wlX6_heldOn : Cond.selects RX6 yX6_heldOn yX6_heldOn ∈ mW := mW_at 369 (by decide +kernel) (by decide)
theorem wcX10_occasionOn : Cond.code mdX10_occasionOn.1 mdX10_occasionOn.2.1 mdX10_occasionOn.2.2.1 mdX10_occasionOn.2.2.2.1 ∈ mW := mW_at 374 (by decide +kernel) (by decide)
theorem wmX10_occasionOn : Cond.instanceMethod yX10_occasionOn ∈ mW := mW_at 373 (by decide +kernel) (by decide)
theorem wlX10_occasionOn : Cond.selects RX10 yX10_occasionOn yX10_occasionOn ∈ mW := mW_sel 1 (by decide +kernel) (by decide)
theorem wcX6_spanOver : Cond.code mdX6_spanOver.1 mdX6_spanOver.2.1 mdX6_spanOver.2.2.1 mdX6_spanOver.2.2.2.1 ∈ mW := mW_at 378 (by decide +kernel) (by decide)
theorem wmX6_spanOver : Cond.instanceMethod yX6_spanOver ∈ mW := mW_at 376 (by decide +kernel) (by decide)
theorem wlX6_spanOver : Cond.selects RX6 yX6_spanOver yX6_spanOver ∈ mW := mW_at 377 (by decide +kernel) (by decide)
theorem wcX10_gown : Cond.code mdX10_gown.1 mdX10_gown.2.1 mdX10_gown.2.2.1 mdX10_gown.2.2.2.1 ∈ mW := mW_at 382 (by decide +kernel) (by decide)
theorem wmX10_gown : Cond.instanceMethod yX10_gown ∈ mW := mW_at 380 (by decide +kernel) (by decide)
theorem wlX10_gown : Cond.selects RX10 yX10_gown yX10_gown ∈ mW := mW_at 381 (by decide +kernel) (by decide)
theorem wcX10_isMeasure : Cond.code mdX10_isMeasure.1 mdX10_isMeasure.2.1 mdX10_isMeasure.2.2.1 mdX10_isMeasure.2.2.2.1 ∈ mW := mW_at 385 (by decide +kernel) (by decide)
theorem wtX10_isMeasure : Cond.static yX10_isMeasure ∈ mW := mW_at 384 (by decide +kernel) (by decide)
theorem wcX10_isStuff : Cond.code mdX10_isStuff.1 mdX10_isStuff.2.1 mdX10_isStuff.2.2.1 mdX10_isStuff.2.2.2.1 ∈ mW := mW_at 388 (by decide +kernel) (by decide)
theorem wtX10_isStuff : Cond.static yX10_isStuff ∈ mW := mW_at 387 (by decide +kernel) (by decide)
theorem wcX10_isColour : Cond.code mdX10_isColour.1 mdX10_isColour.2.1 mdX10_isColour.2.2.1 mdX10_isColour.2.2.2.1 ∈ mW := mW_at 391 (by decide +kernel) (by decide)
theorem wtX10_isColour : Cond.static yX10_isColour ∈ mW := mW_at 390 (by decide +kernel) (by decide)
theorem wcX10_seal : Cond.code mdX10_seal.1 mdX10_seal.2.1 mdX10_seal.2.2.1 mdX10_seal.2.2.2.1 ∈ mW := mW_at 396 (by decide +kernel) (by decide)
theorem wmX10_seal : Cond.instanceMethod yX10_seal ∈ mW := mW_at 394 (by decide +kernel) (by decide)
theorem wlX10_seal : Cond.selects RX10 yX10_seal yX10_seal ∈ mW := mW_at 395 (by decide +kernel) (by decide)
theorem wcX10_findGown : Cond.code mdX10_findGown.1 mdX10_findGown.2.1 mdX10_findGown.2.2.1 mdX10_findGown.2.2.2.1 ∈ mW := mW_at 400 (by decide +kernel) (by decide)
theorem wmX10_findGown : Cond.instanceMethod yX10_findGown ∈ mW := mW_at 399 (by decide +kernel) (by decide)
theorem wlX10_findGown : Cond.selects RX10 yX10_findGown yX10_findGown ∈ mW := mW_sel 2 (by decide +kernel) (by decide)
theorem wcX10_about : Cond.code mdX10_about.1 mdX10_about.2.1 mdX10_about.2.2.1 mdX10_about.2.2.2.1 ∈ mW := mW_at 404 (by decide +kernel) (by decide)
theorem wmX10_about : Cond.instanceMethod yX10_about ∈ mW := mW_at 402 (by decide +kernel) (by decide)
theorem wlX10_about : Cond.selects RX10 yX10_about yX10_about ∈ mW := mW_at 403 (by decide +kernel) (by decide)
theorem wcX3_measure : Cond.code mdX3_measure.1 mdX3_measure.2.1 mdX3_measure.2.2.1 mdX3_measure.2.2.2.1 ∈ mW := mW_at 408 (by decide +kernel) (by decide)
theorem wmX3_measure : Cond.instanceMethod yX3_measure ∈ mW := mW_at 406 (by decide +kernel) (by decide)
theorem wlX3_measure : Cond.selects RX3 yX3_measure yX3_measure ∈ mW := mW_at 407 (by decide +kernel) (by decide)
theorem wcX10_like : Cond.code mdX10_like.1 mdX10_like.2.1 mdX10_like.2.2.1 mdX10_like.2.2.2.1 ∈ mW := mW_at 412 (by decide +kernel) (by decide)
theorem wmX10_like : Cond.instanceMethod yX10_like ∈ mW := mW_at 410 (by decide +kernel) (by decide)
theorem wlX10_like : Cond.selects RX10 yX10_like yX10_like ∈ mW := mW_at 411 (by decide +kernel) (by decide)
theorem wcX10_counts : Cond.code mdX10_counts.1 mdX10_counts.2.1 mdX10_counts.2.2.1 mdX10_counts.2.2.2.1 ∈ mW := mW_at 416 (by decide +kernel) (by decide)
theorem wmX10_counts : Cond.instanceMethod yX10_counts ∈ mW := mW_at 414 (by decide +kernel) (by decide)
theorem wlX10_counts : Cond.selects RX10 yX10_counts yX10_counts ∈ mW := mW_at 415 (by decide +kernel) (by decide)
theorem wcX10_countsAs : Cond.code mdX10_countsAs.1 mdX10_countsAs.2.1 mdX10_countsAs.2.2.1 mdX10_countsAs.2.2.2.1 ∈ mW := mW_at 420 (by decide +kernel) (by decide)
theorem wmX10_countsAs : Cond.instanceMethod yX10_countsAs ∈ mW := mW_at 419 (by decide +kernel) (by decide)
theorem wlX10_countsAs : Cond.selects RX10 yX10_countsAs yX10_countsAs ∈ mW := mW_sel 3 (by decide +kernel) (by decide)
theorem wcX10_act : Cond.code mdX10_act.1 mdX10_act.2.1 mdX10_act.2.2.1 mdX10_act.2.2.2.1 ∈ mW := mW_at 424 (by decide +kernel) (by decide)
theorem wmX10_act : Cond.instanceMethod yX10_act ∈ mW := mW_at 422 (by decide +kernel) (by decide)
theorem wlX10_act : Cond.selects RX10 yX10_act yX10_act ∈ mW := mW_at 423 (by decide +kernel) (by decide)
theorem wcX2_latestFirstDay : Cond.code mdX2_latestFirstDay.1 mdX2_latestFirstDay.2.1 mdX2_latestFirstDay.2.2.1 mdX2_latestFirstDay.2.2.2.1 ∈ mW := mW_at 428 (by decide +kernel) (by decide)
theorem wmX2_latestFirstDay : Cond.instanceMethod yX2_latestFirstDay ∈ mW := mW_at 426 (by decide +kernel) (by decide)
theorem wlX2_latestFirstDay : Cond.selects RX2 yX2_latestFirstDay yX2_latestFirstDay ∈ mW := mW_at 427 (by decide +kernel) (by decide)
theorem wcX2_find : Cond.code mdX2_find.1 mdX2_find.2.1 mdX2_find.2.2.1 mdX2_find.2.2.2.1 ∈ mW := mW_at 432 (by decide +kernel) (by decide)
theorem wmX2_find : Cond.instanceMethod yX2_find ∈ mW := mW_at 430 (by decide +kernel) (by decide)
theorem wlX2_find : Cond.selects RX2 yX2_find yX2_find ∈ mW := mW_at 431 (by decide +kernel) (by decide)
theorem wcX2_size : Cond.code mdX2_size.1 mdX2_size.2.1 mdX2_size.2.2.1 mdX2_size.2.2.2.1 ∈ mW := mW_at 436 (by decide +kernel) (by decide)
theorem wmX2_size : Cond.instanceMethod yX2_size ∈ mW := mW_at 434 (by decide +kernel) (by decide)
theorem wlX2_size : Cond.selects RX2 yX2_size yX2_size ∈ mW := mW_at 435 (by decide +kernel) (by decide)
theorem wcX5_read : Cond.code mdX5_read.1 mdX5_read.2.1 mdX5_read.2.2.1 mdX5_read.2.2.2.1 ∈ mW := mW_at 440 (by decide +kernel) (by decide)
theorem wmX5_read : Cond.instanceMethod yX5_read ∈ mW := mW_at 438 (by decide +kernel) (by decide)
theorem wlX5_read : Cond.selects RX5 yX5_read yX5_read ∈ mW := mW_at 439 (by decide +kernel) (by decide)
theorem wcX0_wipe : Cond.code mdX0_wipe.1 mdX0_wipe.2.1 mdX0_wipe.2.2.1 mdX0_wipe.2.2.2.1 ∈ mW := mW_at 444 (by decide +kernel) (by decide)
theorem wmX0_wipe : Cond.instanceMethod yX0_wipe ∈ mW := mW_at 442 (by decide +kernel) (by decide)
theorem wlX0_wipe : Cond.selects RX0 yX0_wipe yX0_wipe ∈ mW := mW_at 443 (by decide +kernel) (by decide)
theorem wcX5_scan : Cond.code mdX5_scan.1 mdX5_scan.2.1 mdX5_scan.2.2.1 mdX5_scan.2.2.2.1 ∈ mW := mW_at 448 (by decide +kernel) (by decide)
theorem wmX5_scan : Cond.instanceMethod yX5_scan ∈ mW := mW_at 447 (by decide +kernel) (by decide)
theorem wlX5_scan : Cond.selects RX5 yX5_scan yX5_scan ∈ mW := mW_sel 4 (by decide +kernel) (by decide)
theorem wcX8_byteAt : Cond.code mdX8_byteAt.1 mdX8_byteAt.2.1 mdX8_byteAt.2.2.1 mdX8_byteAt.2.2.2.1 ∈ mW := mW_at 453 (by decide +kernel) (by decide)
theorem wmX8_byteAt : Cond.instanceMethod yX8_byteAt ∈ mW := mW_at 451 (by decide +kernel) (by decide)
theorem wlX8_byteAt : Cond.selects RX8 yX8_byteAt yX8_byteAt ∈ mW := mW_at 452 (by decide +kernel) (by decide)
theorem wcX5_isBlank : Cond.code mdX5_isBlank.1 mdX5_isBlank.2.1 mdX5_isBlank.2.2.1 mdX5_isBlank.2.2.2.1 ∈ mW := mW_at 456 (by decide +kernel) (by decide)
theorem wtX5_isBlank : Cond.static yX5_isBlank ∈ mW := mW_at 455 (by decide +kernel) (by decide)
theorem wcX5_isLetter : Cond.code mdX5_isLetter.1 mdX5_isLetter.2.1 mdX5_isLetter.2.2.1 mdX5_isLetter.2.2.2.1 ∈ mW := mW_at 459 (by decide +kernel) (by decide)
theorem wtX5_isLetter : Cond.static yX5_isLetter ∈ mW := mW_at 458 (by decide +kernel) (by decide)
theorem wcX5_scanWord : Cond.code mdX5_scanWord.1 mdX5_scanWord.2.1 mdX5_scanWord.2.2.1 mdX5_scanWord.2.2.2.1 ∈ mW := mW_at 463 (by decide +kernel) (by decide)
theorem wmX5_scanWord : Cond.instanceMethod yX5_scanWord ∈ mW := mW_at 462 (by decide +kernel) (by decide)
theorem wlX5_scanWord : Cond.selects RX5 yX5_scanWord yX5_scanWord ∈ mW := mW_sel 5 (by decide +kernel) (by decide)
theorem wcX5_isDigit : Cond.code mdX5_isDigit.1 mdX5_isDigit.2.1 mdX5_isDigit.2.2.1 mdX5_isDigit.2.2.2.1 ∈ mW := mW_at 466 (by decide +kernel) (by decide)
theorem wtX5_isDigit : Cond.static yX5_isDigit ∈ mW := mW_at 465 (by decide +kernel) (by decide)
theorem wcX5_scanNumber : Cond.code mdX5_scanNumber.1 mdX5_scanNumber.2.1 mdX5_scanNumber.2.2.1 mdX5_scanNumber.2.2.2.1 ∈ mW := mW_at 470 (by decide +kernel) (by decide)
theorem wmX5_scanNumber : Cond.instanceMethod yX5_scanNumber ∈ mW := mW_at 469 (by decide +kernel) (by decide)
theorem wlX5_scanNumber : Cond.selects RX5 yX5_scanNumber yX5_scanNumber ∈ mW := mW_sel 6 (by decide +kernel) (by decide)
theorem wcX5_step : Cond.code mdX5_step.1 mdX5_step.2.1 mdX5_step.2.2.1 mdX5_step.2.2.2.1 ∈ mW := mW_at 474 (by decide +kernel) (by decide)
theorem wmX5_step : Cond.instanceMethod yX5_step ∈ mW := mW_at 473 (by decide +kernel) (by decide)
theorem wlX5_step : Cond.selects RX5 yX5_step yX5_step ∈ mW := mW_sel 7 (by decide +kernel) (by decide)
theorem wcX5_startLine : Cond.code mdX5_startLine.1 mdX5_startLine.2.1 mdX5_startLine.2.2.1 mdX5_startLine.2.2.2.1 ∈ mW := mW_at 478 (by decide +kernel) (by decide)
theorem wmX5_startLine : Cond.instanceMethod yX5_startLine ∈ mW := mW_at 477 (by decide +kernel) (by decide)
theorem wlX5_startLine : Cond.selects RX5 yX5_startLine yX5_startLine ∈ mW := mW_sel 8 (by decide +kernel) (by decide)
theorem wcX5_ruleKind : Cond.code mdX5_ruleKind.1 mdX5_ruleKind.2.1 mdX5_ruleKind.2.2.1 mdX5_ruleKind.2.2.2.1 ∈ mW := mW_at 482 (by decide +kernel) (by decide)
theorem wmX5_ruleKind : Cond.instanceMethod yX5_ruleKind ∈ mW := mW_at 481 (by decide +kernel) (by decide)
theorem wlX5_ruleKind : Cond.selects RX5 yX5_ruleKind yX5_ruleKind ∈ mW := mW_sel 9 (by decide +kernel) (by decide)
theorem wcX5_isWord : Cond.code mdX5_isWord.1 mdX5_isWord.2.1 mdX5_isWord.2.2.1 mdX5_isWord.2.2.2.1 ∈ mW := mW_at 487 (by decide +kernel) (by decide)
theorem wmX5_isWord : Cond.instanceMethod yX5_isWord ∈ mW := mW_at 486 (by decide +kernel) (by decide)
theorem wlX5_isWord : Cond.selects RX5 yX5_isWord yX5_isWord ∈ mW := mW_sel 10 (by decide +kernel) (by decide)
theorem wcJ0_length_8abf5 : Cond.code mdJ0_length_8abf5.1 mdJ0_length_8abf5.2.1 mdJ0_length_8abf5.2.2.1 mdJ0_length_8abf5.2.2.2.1 ∈ mW := mW_at 491 (by decide +kernel) (by decide)
theorem wiRJ0 : Cond.initialized RJ0 ∈ mW := mW_at 15 (by decide +kernel) (by decide)
theorem wmJ0_length_8abf5 : Cond.instanceMethod yJ0_length_8abf5 ∈ mW := mW_at 489 (by decide +kernel) (by decide)
theorem wlJ0_length_8abf5 : Cond.selects RJ0 yJ0_length_8abf5 yJ0_length_8abf5 ∈ mW := mW_at 490 (by decide +kernel) (by decide)
theorem wcJ0_coder_7d493 : Cond.code mdJ0_coder_7d493.1 mdJ0_coder_7d493.2.1 mdJ0_coder_7d493.2.2.1 mdJ0_coder_7d493.2.2.2.1 ∈ mW := mW_at 495 (by decide +kernel) (by decide)
theorem wmJ0_coder_7d493 : Cond.instanceMethod yJ0_coder_7d493 ∈ mW := mW_at 493 (by decide +kernel) (by decide)
theorem wlJ0_coder_7d493 : Cond.selects RJ0 yJ0_coder_7d493 yJ0_coder_7d493 ∈ mW := mW_at 494 (by decide +kernel) (by decide)
theorem wcJ0_charAt_5068e : Cond.code mdJ0_charAt_5068e.1 mdJ0_charAt_5068e.2.1 mdJ0_charAt_5068e.2.2.1 mdJ0_charAt_5068e.2.2.2.1 ∈ mW := mW_at 501 (by decide +kernel) (by decide)
theorem wmJ0_charAt_5068e : Cond.instanceMethod yJ0_charAt_5068e ∈ mW := mW_at 499 (by decide +kernel) (by decide)
theorem wlJ0_charAt_5068e : Cond.selects RJ0 yJ0_charAt_5068e yJ0_charAt_5068e ∈ mW := mW_at 500 (by decide +kernel) (by decide)
theorem wcJ0_isLatin1_aae02 : Cond.code mdJ0_isLatin1_aae02.1 mdJ0_isLatin1_aae02.2.1 mdJ0_isLatin1_aae02.2.2.1 mdJ0_isLatin1_aae02.2.2.2.1 ∈ mW := mW_at 505 (by decide +kernel) (by decide)
theorem wmJ0_isLatin1_aae02 : Cond.instanceMethod yJ0_isLatin1_aae02 ∈ mW := mW_at 503 (by decide +kernel) (by decide)
theorem wlJ0_isLatin1_aae02 : Cond.selects RJ0 yJ0_isLatin1_aae02 yJ0_isLatin1_aae02 ∈ mW := mW_at 504 (by decide +kernel) (by decide)
theorem wcJ1_charAt_3b067 : Cond.code mdJ1_charAt_3b067.1 mdJ1_charAt_3b067.2.1 mdJ1_charAt_3b067.2.2.1 mdJ1_charAt_3b067.2.2.2.1 ∈ mW := mW_at 508 (by decide +kernel) (by decide)
theorem wiRJ1 : Cond.initialized RJ1 ∈ mW := mW_at 16 (by decide +kernel) (by decide)
theorem wtJ1_charAt_3b067 : Cond.static yJ1_charAt_3b067 ∈ mW := mW_at 507 (by decide +kernel) (by decide)
theorem wcJ0_checkIndex_df160 : Cond.code mdJ0_checkIndex_df160.1 mdJ0_checkIndex_df160.2.1 mdJ0_checkIndex_df160.2.2.1 mdJ0_checkIndex_df160.2.2.2.1 ∈ mW := mW_at 511 (by decide +kernel) (by decide)
theorem wtJ0_checkIndex_df160 : Cond.static yJ0_checkIndex_df160 ∈ mW := mW_at 510 (by decide +kernel) (by decide)
theorem wcJ3_checkIndex_8e157 : Cond.code mdJ3_checkIndex_8e157.1 mdJ3_checkIndex_8e157.2.1 mdJ3_checkIndex_8e157.2.2.1 mdJ3_checkIndex_8e157.2.2.2.1 ∈ mW := mW_at 516 (by decide +kernel) (by decide)
theorem wiRJ3 : Cond.initialized RJ3 ∈ mW := mW_at 17 (by decide +kernel) (by decide)
theorem wtJ3_checkIndex_8e157 : Cond.static yJ3_checkIndex_8e157 ∈ mW := mW_at 515 (by decide +kernel) (by decide)
theorem wcJ2_charAt_3b067 : Cond.code mdJ2_charAt_3b067.1 mdJ2_charAt_3b067.2.1 mdJ2_charAt_3b067.2.2.1 mdJ2_charAt_3b067.2.2.2.1 ∈ mW := mW_at 519 (by decide +kernel) (by decide)
theorem wiRJ2 : Cond.initialized RJ2 ∈ mW := mW_at 18 (by decide +kernel) (by decide)
theorem wtJ2_charAt_3b067 : Cond.static yJ2_charAt_3b067 ∈ mW := mW_at 518 (by decide +kernel) (by decide)
theorem wcJ2_checkIndex_2214a : Cond.code mdJ2_checkIndex_2214a.1 mdJ2_checkIndex_2214a.2.1 mdJ2_checkIndex_2214a.2.2.1 mdJ2_checkIndex_2214a.2.2.2.1 ∈ mW := mW_at 522 (by decide +kernel) (by decide)
theorem wtJ2_checkIndex_2214a : Cond.static yJ2_checkIndex_2214a ∈ mW := mW_at 521 (by decide +kernel) (by decide)
theorem wcJ2_length_9d52b : Cond.code mdJ2_length_9d52b.1 mdJ2_length_9d52b.2.1 mdJ2_length_9d52b.2.2.1 mdJ2_length_9d52b.2.2.2.1 ∈ mW := mW_at 525 (by decide +kernel) (by decide)
theorem wtJ2_length_9d52b : Cond.static yJ2_length_9d52b ∈ mW := mW_at 524 (by decide +kernel) (by decide)
theorem wcJ2_getChar_3b067 : Cond.code mdJ2_getChar_3b067.1 mdJ2_getChar_3b067.2.1 mdJ2_getChar_3b067.2.2.1 mdJ2_getChar_3b067.2.2.2.1 ∈ mW := mW_at 529 (by decide +kernel) (by decide)
theorem wtJ2_getChar_3b067 : Cond.static yJ2_getChar_3b067 ∈ mW := mW_at 528 (by decide +kernel) (by decide)
theorem wcX5_goOn : Cond.code mdX5_goOn.1 mdX5_goOn.2.1 mdX5_goOn.2.2.1 mdX5_goOn.2.2.2.1 ∈ mW := mW_at 546 (by decide +kernel) (by decide)
theorem wmX5_goOn : Cond.instanceMethod yX5_goOn ∈ mW := mW_at 545 (by decide +kernel) (by decide)
theorem wlX5_goOn : Cond.selects RX5 yX5_goOn yX5_goOn ∈ mW := mW_sel 11 (by decide +kernel) (by decide)
theorem wcX5_blame : Cond.code mdX5_blame.1 mdX5_blame.2.1 mdX5_blame.2.2.1 mdX5_blame.2.2.2.1 ∈ mW := mW_at 550 (by decide +kernel) (by decide)
theorem wmX5_blame : Cond.instanceMethod yX5_blame ∈ mW := mW_at 549 (by decide +kernel) (by decide)
theorem wlX5_blame : Cond.selects RX5 yX5_blame yX5_blame ∈ mW := mW_sel 12 (by decide +kernel) (by decide)
theorem wcX5_topLimit : Cond.code mdX5_topLimit.1 mdX5_topLimit.2.1 mdX5_topLimit.2.2.1 mdX5_topLimit.2.2.2.1 ∈ mW := mW_at 557 (by decide +kernel) (by decide)
theorem wmX5_topLimit : Cond.instanceMethod yX5_topLimit ∈ mW := mW_at 556 (by decide +kernel) (by decide)
theorem wlX5_topLimit : Cond.selects RX5 yX5_topLimit yX5_topLimit ∈ mW := mW_sel 13 (by decide +kernel) (by decide)
theorem wcX5_takeNumber : Cond.code mdX5_takeNumber.1 mdX5_takeNumber.2.1 mdX5_takeNumber.2.2.1 mdX5_takeNumber.2.2.2.1 ∈ mW := mW_at 561 (by decide +kernel) (by decide)
theorem wmX5_takeNumber : Cond.instanceMethod yX5_takeNumber ∈ mW := mW_at 560 (by decide +kernel) (by decide)
theorem wlX5_takeNumber : Cond.selects RX5 yX5_takeNumber yX5_takeNumber ∈ mW := mW_sel 14 (by decide +kernel) (by decide)
theorem wcX5_readWho : Cond.code mdX5_readWho.1 mdX5_readWho.2.1 mdX5_readWho.2.2.1 mdX5_readWho.2.2.2.1 ∈ mW := mW_at 565 (by decide +kernel) (by decide)
theorem wmX5_readWho : Cond.instanceMethod yX5_readWho ∈ mW := mW_at 564 (by decide +kernel) (by decide)
theorem wlX5_readWho : Cond.selects RX5 yX5_readWho yX5_readWho ∈ mW := mW_sel 15 (by decide +kernel) (by decide)
theorem wcX5_takeWord : Cond.code mdX5_takeWord.1 mdX5_takeWord.2.1 mdX5_takeWord.2.2.1 mdX5_takeWord.2.2.2.1 ∈ mW := mW_at 571 (by decide +kernel) (by decide)
theorem wmX5_takeWord : Cond.instanceMethod yX5_takeWord ∈ mW := mW_at 570 (by decide +kernel) (by decide)
theorem wlX5_takeWord : Cond.selects RX5 yX5_takeWord yX5_takeWord ∈ mW := mW_sel 16 (by decide +kernel) (by decide)
theorem wcX5_readWhen : Cond.code mdX5_readWhen.1 mdX5_readWhen.2.1 mdX5_readWhen.2.2.1 mdX5_readWhen.2.2.2.1 ∈ mW := mW_at 576 (by decide +kernel) (by decide)
theorem wmX5_readWhen : Cond.instanceMethod yX5_readWhen ∈ mW := mW_at 575 (by decide +kernel) (by decide)
theorem wlX5_readWhen : Cond.selects RX5 yX5_readWhen yX5_readWhen ∈ mW := mW_sel 17 (by decide +kernel) (by decide)
theorem wcX5_whenWord : Cond.code mdX5_whenWord.1 mdX5_whenWord.2.1 mdX5_whenWord.2.2.1 mdX5_whenWord.2.2.2.1 ∈ mW := mW_at 580 (by decide +kernel) (by decide)
theorem wmX5_whenWord : Cond.instanceMethod yX5_whenWord ∈ mW := mW_at 579 (by decide +kernel) (by decide)
theorem wlX5_whenWord : Cond.selects RX5 yX5_whenWord yX5_whenWord ∈ mW := mW_sel 18 (by decide +kernel) (by decide)
theorem wcX5_finishRule : Cond.code mdX5_finishRule.1 mdX5_finishRule.2.1 mdX5_finishRule.2.2.1 mdX5_finishRule.2.2.2.1 ∈ mW := mW_at 589 (by decide +kernel) (by decide)
theorem wmX5_finishRule : Cond.instanceMethod yX5_finishRule ∈ mW := mW_at 588 (by decide +kernel) (by decide)
theorem wlX5_finishRule : Cond.selects RX5 yX5_finishRule yX5_finishRule ∈ mW := mW_sel 19 (by decide +kernel) (by decide)
theorem wcX7_init : Cond.code mdX7_init.1 mdX7_init.2.1 mdX7_init.2.2.1 mdX7_init.2.2.2.1 ∈ mW := mW_at 594 (by decide +kernel) (by decide)
theorem wiRX7 : Cond.initialized RX7 ∈ mW := mW_at 19 (by decide +kernel) (by decide)
theorem wmX7_init : Cond.instanceMethod yX7_init ∈ mW := mW_at 593 (by decide +kernel) (by decide)
theorem wcX0_add : Cond.code mdX0_add.1 mdX0_add.2.1 mdX0_add.2.2.1 mdX0_add.2.2.2.1 ∈ mW := mW_at 627 (by decide +kernel) (by decide)
theorem wmX0_add : Cond.instanceMethod yX0_add ∈ mW := mW_at 625 (by decide +kernel) (by decide)
theorem wlX0_add : Cond.selects RX0 yX0_add yX0_add ∈ mW := mW_at 626 (by decide +kernel) (by decide)
theorem wcX5_readRepeal : Cond.code mdX5_readRepeal.1 mdX5_readRepeal.2.1 mdX5_readRepeal.2.2.1 mdX5_readRepeal.2.2.2.1 ∈ mW := mW_at 631 (by decide +kernel) (by decide)
theorem wmX5_readRepeal : Cond.instanceMethod yX5_readRepeal ∈ mW := mW_at 630 (by decide +kernel) (by decide)
theorem wlX5_readRepeal : Cond.selects RX5 yX5_readRepeal yX5_readRepeal ∈ mW := mW_sel 20 (by decide +kernel) (by decide)
theorem wcX5_endLine : Cond.code mdX5_endLine.1 mdX5_endLine.2.1 mdX5_endLine.2.2.1 mdX5_endLine.2.2.2.1 ∈ mW := mW_at 635 (by decide +kernel) (by decide)
theorem wmX5_endLine : Cond.instanceMethod yX5_endLine ∈ mW := mW_at 634 (by decide +kernel) (by decide)
theorem wlX5_endLine : Cond.selects RX5 yX5_endLine yX5_endLine ∈ mW := mW_sel 21 (by decide +kernel) (by decide)
theorem wcX5_faultKind : Cond.code mdX5_faultKind.1 mdX5_faultKind.2.1 mdX5_faultKind.2.2.1 mdX5_faultKind.2.2.2.1 ∈ mW := mW_at 639 (by decide +kernel) (by decide)
theorem wmX5_faultKind : Cond.instanceMethod yX5_faultKind ∈ mW := mW_at 637 (by decide +kernel) (by decide)
theorem wlX5_faultKind : Cond.selects RX5 yX5_faultKind yX5_faultKind ∈ mW := mW_at 638 (by decide +kernel) (by decide)
theorem wcX5_takeDraft : Cond.code mdX5_takeDraft.1 mdX5_takeDraft.2.1 mdX5_takeDraft.2.2.1 mdX5_takeDraft.2.2.2.1 ∈ mW := mW_at 643 (by decide +kernel) (by decide)
theorem wmX5_takeDraft : Cond.instanceMethod yX5_takeDraft ∈ mW := mW_at 641 (by decide +kernel) (by decide)
theorem wlX5_takeDraft : Cond.selects RX5 yX5_takeDraft yX5_takeDraft ∈ mW := mW_at 642 (by decide +kernel) (by decide)
theorem wcX2_add : Cond.code mdX2_add.1 mdX2_add.2.1 mdX2_add.2.2.1 mdX2_add.2.2.2.1 ∈ mW := mW_at 647 (by decide +kernel) (by decide)
theorem wmX2_add : Cond.instanceMethod yX2_add ∈ mW := mW_at 645 (by decide +kernel) (by decide)
theorem wlX2_add : Cond.selects RX2 yX2_add yX2_add ∈ mW := mW_at 646 (by decide +kernel) (by decide)
theorem wcX10_fault : Cond.code mdX10_fault.1 mdX10_fault.2.1 mdX10_fault.2.2.1 mdX10_fault.2.2.2.1 ∈ mW := mW_at 651 (by decide +kernel) (by decide)
theorem wmX10_fault : Cond.instanceMethod yX10_fault ∈ mW := mW_at 649 (by decide +kernel) (by decide)
theorem wlX10_fault : Cond.selects RX10 yX10_fault yX10_fault ∈ mW := mW_at 650 (by decide +kernel) (by decide)
theorem wcX5_faultPlace : Cond.code mdX5_faultPlace.1 mdX5_faultPlace.2.1 mdX5_faultPlace.2.2.1 mdX5_faultPlace.2.2.2.1 ∈ mW := mW_at 655 (by decide +kernel) (by decide)
theorem wmX5_faultPlace : Cond.instanceMethod yX5_faultPlace ∈ mW := mW_at 653 (by decide +kernel) (by decide)
theorem wlX5_faultPlace : Cond.selects RX5 yX5_faultPlace yX5_faultPlace ∈ mW := mW_at 654 (by decide +kernel) (by decide)
theorem wcX10_told : Cond.code mdX10_told.1 mdX10_told.2.1 mdX10_told.2.2.1 mdX10_told.2.2.2.1 ∈ mW := mW_at 659 (by decide +kernel) (by decide)
theorem wmX10_told : Cond.instanceMethod yX10_told ∈ mW := mW_at 657 (by decide +kernel) (by decide)
theorem wlX10_told : Cond.selects RX10 yX10_told yX10_told ∈ mW := mW_at 658 (by decide +kernel) (by decide)
theorem wcX0_sealDays : Cond.code mdX0_sealDays.1 mdX0_sealDays.2.1 mdX0_sealDays.2.2.1 mdX0_sealDays.2.2.2.1 ∈ mW := mW_at 664 (by decide +kernel) (by decide)
theorem wmX0_sealDays : Cond.instanceMethod yX0_sealDays ∈ mW := mW_at 662 (by decide +kernel) (by decide)
theorem wlX0_sealDays : Cond.selects RX0 yX0_sealDays yX0_sealDays ∈ mW := mW_at 663 (by decide +kernel) (by decide)
theorem wcJ9_max_7cf53 : Cond.code mdJ9_max_7cf53.1 mdJ9_max_7cf53.2.1 mdJ9_max_7cf53.2.2.1 mdJ9_max_7cf53.2.2.2.1 ∈ mW := mW_at 667 (by decide +kernel) (by decide)
theorem wiRJ9 : Cond.initialized RJ9 ∈ mW := mW_at 20 (by decide +kernel) (by decide)
theorem wtJ9_max_7cf53 : Cond.static yJ9_max_7cf53 ∈ mW := mW_at 666 (by decide +kernel) (by decide)
theorem wcX10_rule : Cond.code mdX10_rule.1 mdX10_rule.2.1 mdX10_rule.2.2.1 mdX10_rule.2.2.2.1 ∈ mW := mW_at 671 (by decide +kernel) (by decide)
theorem wmX10_rule : Cond.instanceMethod yX10_rule ∈ mW := mW_at 669 (by decide +kernel) (by decide)
theorem wlX10_rule : Cond.selects RX10 yX10_rule yX10_rule ∈ mW := mW_at 670 (by decide +kernel) (by decide)
theorem wcX0_findRule : Cond.code mdX0_findRule.1 mdX0_findRule.2.1 mdX0_findRule.2.2.1 mdX0_findRule.2.2.2.1 ∈ mW := mW_at 675 (by decide +kernel) (by decide)
theorem wmX0_findRule : Cond.instanceMethod yX0_findRule ∈ mW := mW_at 673 (by decide +kernel) (by decide)
theorem wlX0_findRule : Cond.selects RX0 yX0_findRule yX0_findRule ∈ mW := mW_at 674 (by decide +kernel) (by decide)
theorem wcX10_force : Cond.code mdX10_force.1 mdX10_force.2.1 mdX10_force.2.2.1 mdX10_force.2.2.2.1 ∈ mW := mW_at 679 (by decide +kernel) (by decide)
theorem wmX10_force : Cond.instanceMethod yX10_force ∈ mW := mW_at 677 (by decide +kernel) (by decide)
theorem wlX10_force : Cond.selects RX10 yX10_force yX10_force ∈ mW := mW_at 678 (by decide +kernel) (by decide)
theorem wcX2_inForce : Cond.code mdX2_inForce.1 mdX2_inForce.2.1 mdX2_inForce.2.2.1 mdX2_inForce.2.2.2.1 ∈ mW := mW_at 683 (by decide +kernel) (by decide)
theorem wmX2_inForce : Cond.instanceMethod yX2_inForce ∈ mW := mW_at 681 (by decide +kernel) (by decide)
theorem wlX2_inForce : Cond.selects RX2 yX2_inForce yX2_inForce ∈ mW := mW_at 682 (by decide +kernel) (by decide)
theorem wcX10_fine : Cond.code mdX10_fine.1 mdX10_fine.2.1 mdX10_fine.2.2.1 mdX10_fine.2.2.2.1 ∈ mW := mW_at 687 (by decide +kernel) (by decide)
theorem wmX10_fine : Cond.instanceMethod yX10_fine ∈ mW := mW_at 685 (by decide +kernel) (by decide)
theorem wlX10_fine : Cond.selects RX10 yX10_fine yX10_fine ∈ mW := mW_at 686 (by decide +kernel) (by decide)
theorem wcX10_putOn : Cond.code mdX10_putOn.1 mdX10_putOn.2.1 mdX10_putOn.2.2.1 mdX10_putOn.2.2.2.1 ∈ mW := mW_at 691 (by decide +kernel) (by decide)
theorem wmX10_putOn : Cond.instanceMethod yX10_putOn ∈ mW := mW_at 690 (by decide +kernel) (by decide)
theorem wlX10_putOn : Cond.selects RX10 yX10_putOn yX10_putOn ∈ mW := mW_sel 22 (by decide +kernel) (by decide)
theorem wcX9_take : Cond.code mdX9_take.1 mdX9_take.2.1 mdX9_take.2.2.1 mdX9_take.2.2.2.1 ∈ mW := mW_at 695 (by decide +kernel) (by decide)
theorem wmX9_take : Cond.instanceMethod yX9_take ∈ mW := mW_at 693 (by decide +kernel) (by decide)
theorem wlX9_take : Cond.selects RX9 yX9_take yX9_take ∈ mW := mW_at 694 (by decide +kernel) (by decide)
theorem wcX10_fineOfWearing : Cond.code mdX10_fineOfWearing.1 mdX10_fineOfWearing.2.1 mdX10_fineOfWearing.2.2.1 mdX10_fineOfWearing.2.2.2.1 ∈ mW := mW_at 699 (by decide +kernel) (by decide)
theorem wmX10_fineOfWearing : Cond.instanceMethod yX10_fineOfWearing ∈ mW := mW_at 698 (by decide +kernel) (by decide)
theorem wlX10_fineOfWearing : Cond.selects RX10 yX10_fineOfWearing yX10_fineOfWearing ∈ mW := mW_sel 23 (by decide +kernel) (by decide)
theorem wcJ9_min_7cf53 : Cond.code mdJ9_min_7cf53.1 mdJ9_min_7cf53.2.1 mdJ9_min_7cf53.2.2.1 mdJ9_min_7cf53.2.2.2.1 ∈ mW := mW_at 702 (by decide +kernel) (by decide)
theorem wtJ9_min_7cf53 : Cond.static yJ9_min_7cf53 ∈ mW := mW_at 701 (by decide +kernel) (by decide)
theorem wcX2_penceOfBroken : Cond.code mdX2_penceOfBroken.1 mdX2_penceOfBroken.2.1 mdX2_penceOfBroken.2.2.1 mdX2_penceOfBroken.2.2.2.1 ∈ mW := mW_at 706 (by decide +kernel) (by decide)
theorem wmX2_penceOfBroken : Cond.instanceMethod yX2_penceOfBroken ∈ mW := mW_at 704 (by decide +kernel) (by decide)
theorem wlX2_penceOfBroken : Cond.selects RX2 yX2_penceOfBroken yX2_penceOfBroken ∈ mW := mW_at 705 (by decide +kernel) (by decide)
theorem wcX2_reaching : Cond.code mdX2_reaching.1 mdX2_reaching.2.1 mdX2_reaching.2.2.1 mdX2_reaching.2.2.2.1 ∈ mW := mW_at 710 (by decide +kernel) (by decide)
theorem wmX2_reaching : Cond.instanceMethod yX2_reaching ∈ mW := mW_at 709 (by decide +kernel) (by decide)
theorem wlX2_reaching : Cond.selects RX2 yX2_reaching yX2_reaching ∈ mW := mW_sel 24 (by decide +kernel) (by decide)
theorem wcX0_lets : Cond.code mdX0_lets.1 mdX0_lets.2.1 mdX0_lets.2.2.1 mdX0_lets.2.2.2.1 ∈ mW := mW_at 715 (by decide +kernel) (by decide)
theorem wmX0_lets : Cond.instanceMethod yX0_lets ∈ mW := mW_at 713 (by decide +kernel) (by decide)
theorem wlX0_lets : Cond.selects RX0 yX0_lets yX0_lets ∈ mW := mW_at 714 (by decide +kernel) (by decide)
theorem wcX2_among : Cond.code mdX2_among.1 mdX2_among.2.1 mdX2_among.2.2.1 mdX2_among.2.2.2.1 ∈ mW := mW_at 720 (by decide +kernel) (by decide)
theorem wmX2_among : Cond.instanceMethod yX2_among ∈ mW := mW_at 719 (by decide +kernel) (by decide)
theorem wlX2_among : Cond.selects RX2 yX2_among yX2_among ∈ mW := mW_sel 25 (by decide +kernel) (by decide)
theorem wcX0_brokenBits : Cond.code mdX0_brokenBits.1 mdX0_brokenBits.2.1 mdX0_brokenBits.2.2.1 mdX0_brokenBits.2.2.2.1 ∈ mW := mW_at 724 (by decide +kernel) (by decide)
theorem wmX0_brokenBits : Cond.instanceMethod yX0_brokenBits ∈ mW := mW_at 722 (by decide +kernel) (by decide)
theorem wlX0_brokenBits : Cond.selects RX0 yX0_brokenBits yX0_brokenBits ∈ mW := mW_at 723 (by decide +kernel) (by decide)
theorem wcX7_concerns : Cond.code mdX7_concerns.1 mdX7_concerns.2.1 mdX7_concerns.2.2.1 mdX7_concerns.2.2.2.1 ∈ mW := mW_at 729 (by decide +kernel) (by decide)
theorem wmX7_concerns : Cond.instanceMethod yX7_concerns ∈ mW := mW_at 727 (by decide +kernel) (by decide)
theorem wlX7_concerns : Cond.selects RX7 yX7_concerns yX7_concerns ∈ mW := mW_at 728 (by decide +kernel) (by decide)
theorem wcX7_isOffended : Cond.code mdX7_isOffended.1 mdX7_isOffended.2.1 mdX7_isOffended.2.2.1 mdX7_isOffended.2.2.2.1 ∈ mW := mW_at 733 (by decide +kernel) (by decide)
theorem wmX7_isOffended : Cond.instanceMethod yX7_isOffended ∈ mW := mW_at 731 (by decide +kernel) (by decide)
theorem wlX7_isOffended : Cond.selects RX7 yX7_isOffended yX7_isOffended ∈ mW := mW_at 732 (by decide +kernel) (by decide)
theorem wcX0_penceOf : Cond.code mdX0_penceOf.1 mdX0_penceOf.2.1 mdX0_penceOf.2.2.1 mdX0_penceOf.2.2.2.1 ∈ mW := mW_at 738 (by decide +kernel) (by decide)
theorem wmX0_penceOf : Cond.instanceMethod yX0_penceOf ∈ mW := mW_at 736 (by decide +kernel) (by decide)
theorem wlX0_penceOf : Cond.selects RX0 yX0_penceOf yX0_penceOf ∈ mW := mW_at 737 (by decide +kernel) (by decide)
theorem wcX10_broken : Cond.code mdX10_broken.1 mdX10_broken.2.1 mdX10_broken.2.2.1 mdX10_broken.2.2.2.1 ∈ mW := mW_at 742 (by decide +kernel) (by decide)
theorem wmX10_broken : Cond.instanceMethod yX10_broken ∈ mW := mW_at 740 (by decide +kernel) (by decide)
theorem wlX10_broken : Cond.selects RX10 yX10_broken yX10_broken ∈ mW := mW_at 741 (by decide +kernel) (by decide)
theorem wcX2_brokenRules : Cond.code mdX2_brokenRules.1 mdX2_brokenRules.2.1 mdX2_brokenRules.2.2.1 mdX2_brokenRules.2.2.2.1 ∈ mW := mW_at 746 (by decide +kernel) (by decide)
theorem wmX2_brokenRules : Cond.instanceMethod yX2_brokenRules ∈ mW := mW_at 744 (by decide +kernel) (by decide)
theorem wlX2_brokenRules : Cond.selects RX2 yX2_brokenRules yX2_brokenRules ∈ mW := mW_at 745 (by decide +kernel) (by decide)
theorem wcX10_letter : Cond.code mdX10_letter.1 mdX10_letter.2.1 mdX10_letter.2.2.1 mdX10_letter.2.2.2.1 ∈ mW := mW_at 750 (by decide +kernel) (by decide)
theorem wmX10_letter : Cond.instanceMethod yX10_letter ∈ mW := mW_at 748 (by decide +kernel) (by decide)
theorem wlX10_letter : Cond.selects RX10 yX10_letter yX10_letter ∈ mW := mW_at 749 (by decide +kernel) (by decide)
theorem wcX4_init : Cond.code mdX4_init.1 mdX4_init.2.1 mdX4_init.2.2.1 mdX4_init.2.2.2.1 ∈ mW := mW_at 754 (by decide +kernel) (by decide)
theorem wiRX4 : Cond.initialized RX4 ∈ mW := mW_at 21 (by decide +kernel) (by decide)
theorem wmX4_init : Cond.instanceMethod yX4_init ∈ mW := mW_at 753 (by decide +kernel) (by decide)
theorem wcX10_judge : Cond.code mdX10_judge.1 mdX10_judge.2.1 mdX10_judge.2.2.1 mdX10_judge.2.2.2.1 ∈ mW := mW_at 788 (by decide +kernel) (by decide)
theorem wmX10_judge : Cond.instanceMethod yX10_judge ∈ mW := mW_at 786 (by decide +kernel) (by decide)
theorem wlX10_judge : Cond.selects RX10 yX10_judge yX10_judge ∈ mW := mW_at 787 (by decide +kernel) (by decide)
theorem wcX10_findLetter : Cond.code mdX10_findLetter.1 mdX10_findLetter.2.1 mdX10_findLetter.2.2.1 mdX10_findLetter.2.2.2.1 ∈ mW := mW_at 792 (by decide +kernel) (by decide)
theorem wmX10_findLetter : Cond.instanceMethod yX10_findLetter ∈ mW := mW_at 791 (by decide +kernel) (by decide)
theorem wlX10_findLetter : Cond.selects RX10 yX10_findLetter yX10_findLetter ∈ mW := mW_sel 26 (by decide +kernel) (by decide)
theorem wcX10_wasConvicted : Cond.code mdX10_wasConvicted.1 mdX10_wasConvicted.2.1 mdX10_wasConvicted.2.2.1 mdX10_wasConvicted.2.2.2.1 ∈ mW := mW_at 796 (by decide +kernel) (by decide)
theorem wmX10_wasConvicted : Cond.instanceMethod yX10_wasConvicted ∈ mW := mW_at 795 (by decide +kernel) (by decide)
theorem wlX10_wasConvicted : Cond.selects RX10 yX10_wasConvicted yX10_wasConvicted ∈ mW := mW_sel 27 (by decide +kernel) (by decide)
theorem wcX4_isOfSameCase : Cond.code mdX4_isOfSameCase.1 mdX4_isOfSameCase.2.1 mdX4_isOfSameCase.2.2.1 mdX4_isOfSameCase.2.2.2.1 ∈ mW := mW_at 800 (by decide +kernel) (by decide)
theorem wmX4_isOfSameCase : Cond.instanceMethod yX4_isOfSameCase ∈ mW := mW_at 798 (by decide +kernel) (by decide)
theorem wlX4_isOfSameCase : Cond.selects RX4 yX4_isOfSameCase yX4_isOfSameCase ∈ mW := mW_at 799 (by decide +kernel) (by decide)
theorem wcX10_convict : Cond.code mdX10_convict.1 mdX10_convict.2.1 mdX10_convict.2.2.1 mdX10_convict.2.2.2.1 ∈ mW := mW_at 804 (by decide +kernel) (by decide)
theorem wmX10_convict : Cond.instanceMethod yX10_convict ∈ mW := mW_at 803 (by decide +kernel) (by decide)
theorem wlX10_convict : Cond.selects RX10 yX10_convict yX10_convict ∈ mW := mW_sel 28 (by decide +kernel) (by decide)
theorem wcX2_partOn : Cond.code mdX2_partOn.1 mdX2_partOn.2.1 mdX2_partOn.2.2.1 mdX2_partOn.2.2.2.1 ∈ mW := mW_at 808 (by decide +kernel) (by decide)
theorem wmX2_partOn : Cond.instanceMethod yX2_partOn ∈ mW := mW_at 806 (by decide +kernel) (by decide)
theorem wlX2_partOn : Cond.selects RX2 yX2_partOn yX2_partOn ∈ mW := mW_at 807 (by decide +kernel) (by decide)
theorem wcX10_punishFalse : Cond.code mdX10_punishFalse.1 mdX10_punishFalse.2.1 mdX10_punishFalse.2.2.1 mdX10_punishFalse.2.2.2.1 ∈ mW := mW_at 813 (by decide +kernel) (by decide)
theorem wmX10_punishFalse : Cond.instanceMethod yX10_punishFalse ∈ mW := mW_at 812 (by decide +kernel) (by decide)
theorem wlX10_punishFalse : Cond.selects RX10 yX10_punishFalse yX10_punishFalse ∈ mW := mW_sel 29 (by decide +kernel) (by decide)
theorem wcX10_lettered : Cond.code mdX10_lettered.1 mdX10_lettered.2.1 mdX10_lettered.2.2.1 mdX10_lettered.2.2.2.1 ∈ mW := mW_at 817 (by decide +kernel) (by decide)
theorem wmX10_lettered : Cond.instanceMethod yX10_lettered ∈ mW := mW_at 815 (by decide +kernel) (by decide)
theorem wlX10_lettered : Cond.selects RX10 yX10_lettered yX10_lettered ∈ mW := mW_at 816 (by decide +kernel) (by decide)
theorem wcX10_person : Cond.code mdX10_person.1 mdX10_person.2.1 mdX10_person.2.2.1 mdX10_person.2.2.2.1 ∈ mW := mW_at 821 (by decide +kernel) (by decide)
theorem wmX10_person : Cond.instanceMethod yX10_person ∈ mW := mW_at 819 (by decide +kernel) (by decide)
theorem wlX10_person : Cond.selects RX10 yX10_person yX10_person ∈ mW := mW_at 820 (by decide +kernel) (by decide)
theorem wcX10_price : Cond.code mdX10_price.1 mdX10_price.2.1 mdX10_price.2.2.1 mdX10_price.2.2.2.1 ∈ mW := mW_at 825 (by decide +kernel) (by decide)
theorem wmX10_price : Cond.instanceMethod yX10_price ∈ mW := mW_at 823 (by decide +kernel) (by decide)
theorem wlX10_price : Cond.selects RX10 yX10_price yX10_price ∈ mW := mW_at 824 (by decide +kernel) (by decide)
theorem wcX10_alter : Cond.code mdX10_alter.1 mdX10_alter.2.1 mdX10_alter.2.2.1 mdX10_alter.2.2.2.1 ∈ mW := mW_at 829 (by decide +kernel) (by decide)
theorem wmX10_alter : Cond.instanceMethod yX10_alter ∈ mW := mW_at 827 (by decide +kernel) (by decide)
theorem wlX10_alter : Cond.selects RX10 yX10_alter yX10_alter ∈ mW := mW_at 828 (by decide +kernel) (by decide)
theorem wcX10_cheapestChange : Cond.code mdX10_cheapestChange.1 mdX10_cheapestChange.2.1 mdX10_cheapestChange.2.2.1 mdX10_cheapestChange.2.2.2.1 ∈ mW := mW_at 833 (by decide +kernel) (by decide)
theorem wmX10_cheapestChange : Cond.instanceMethod yX10_cheapestChange ∈ mW := mW_at 832 (by decide +kernel) (by decide)
theorem wlX10_cheapestChange : Cond.selects RX10 yX10_cheapestChange yX10_cheapestChange ∈ mW := mW_sel 30 (by decide +kernel) (by decide)
theorem wcX2_bound : Cond.code mdX2_bound.1 mdX2_bound.2.1 mdX2_bound.2.2.1 mdX2_bound.2.2.2.1 ∈ mW := mW_at 837 (by decide +kernel) (by decide)
theorem wmX2_bound : Cond.instanceMethod yX2_bound ∈ mW := mW_at 835 (by decide +kernel) (by decide)
theorem wlX2_bound : Cond.selects RX2 yX2_bound yX2_bound ∈ mW := mW_at 836 (by decide +kernel) (by decide)
theorem wcX1_open : Cond.code mdX1_open.1 mdX1_open.2.1 mdX1_open.2.2.1 mdX1_open.2.2.2.1 ∈ mW := mW_at 841 (by decide +kernel) (by decide)
theorem wmX1_open : Cond.instanceMethod yX1_open ∈ mW := mW_at 839 (by decide +kernel) (by decide)
theorem wlX1_open : Cond.selects RX1 yX1_open yX1_open ∈ mW := mW_at 840 (by decide +kernel) (by decide)
theorem wcX0_narrow : Cond.code mdX0_narrow.1 mdX0_narrow.2.1 mdX0_narrow.2.2.1 mdX0_narrow.2.2.2.1 ∈ mW := mW_at 846 (by decide +kernel) (by decide)
theorem wmX0_narrow : Cond.instanceMethod yX0_narrow ∈ mW := mW_at 844 (by decide +kernel) (by decide)
theorem wlX0_narrow : Cond.selects RX0 yX0_narrow yX0_narrow ∈ mW := mW_at 845 (by decide +kernel) (by decide)
theorem wcX1_narrow : Cond.code mdX1_narrow.1 mdX1_narrow.2.1 mdX1_narrow.2.2.1 mdX1_narrow.2.2.2.1 ∈ mW := mW_at 850 (by decide +kernel) (by decide)
theorem wmX1_narrow : Cond.instanceMethod yX1_narrow ∈ mW := mW_at 848 (by decide +kernel) (by decide)
theorem wlX1_narrow : Cond.selects RX1 yX1_narrow yX1_narrow ∈ mW := mW_at 849 (by decide +kernel) (by decide)
theorem wcX1_lower : Cond.code mdX1_lower.1 mdX1_lower.2.1 mdX1_lower.2.2.1 mdX1_lower.2.2.2.1 ∈ mW := mW_at 854 (by decide +kernel) (by decide)
theorem wmX1_lower : Cond.instanceMethod yX1_lower ∈ mW := mW_at 853 (by decide +kernel) (by decide)
theorem wlX1_lower : Cond.selects RX1 yX1_lower yX1_lower ∈ mW := mW_sel 31 (by decide +kernel) (by decide)
theorem wcX10_stuffChange : Cond.code mdX10_stuffChange.1 mdX10_stuffChange.2.1 mdX10_stuffChange.2.2.1 mdX10_stuffChange.2.2.2.1 ∈ mW := mW_at 859 (by decide +kernel) (by decide)
theorem wmX10_stuffChange : Cond.instanceMethod yX10_stuffChange ∈ mW := mW_at 858 (by decide +kernel) (by decide)
theorem wlX10_stuffChange : Cond.selects RX10 yX10_stuffChange yX10_stuffChange ∈ mW := mW_sel 32 (by decide +kernel) (by decide)
theorem wcX1_leavesStuff : Cond.code mdX1_leavesStuff.1 mdX1_leavesStuff.2.1 mdX1_leavesStuff.2.2.1 mdX1_leavesStuff.2.2.2.1 ∈ mW := mW_at 863 (by decide +kernel) (by decide)
theorem wmX1_leavesStuff : Cond.instanceMethod yX1_leavesStuff ∈ mW := mW_at 861 (by decide +kernel) (by decide)
theorem wlX1_leavesStuff : Cond.selects RX1 yX1_leavesStuff yX1_leavesStuff ∈ mW := mW_at 862 (by decide +kernel) (by decide)
theorem wcX10_colourChange : Cond.code mdX10_colourChange.1 mdX10_colourChange.2.1 mdX10_colourChange.2.2.1 mdX10_colourChange.2.2.2.1 ∈ mW := mW_at 867 (by decide +kernel) (by decide)
theorem wmX10_colourChange : Cond.instanceMethod yX10_colourChange ∈ mW := mW_at 866 (by decide +kernel) (by decide)
theorem wlX10_colourChange : Cond.selects RX10 yX10_colourChange yX10_colourChange ∈ mW := mW_sel 33 (by decide +kernel) (by decide)
theorem wcX1_leavesColour : Cond.code mdX1_leavesColour.1 mdX1_leavesColour.2.1 mdX1_leavesColour.2.2.1 mdX1_leavesColour.2.2.2.1 ∈ mW := mW_at 871 (by decide +kernel) (by decide)
theorem wmX1_leavesColour : Cond.instanceMethod yX1_leavesColour ∈ mW := mW_at 869 (by decide +kernel) (by decide)
theorem wlX1_leavesColour : Cond.selects RX1 yX1_leavesColour yX1_leavesColour ∈ mW := mW_at 870 (by decide +kernel) (by decide)
theorem wcX1_limitOf : Cond.code mdX1_limitOf.1 mdX1_limitOf.2.1 mdX1_limitOf.2.2.1 mdX1_limitOf.2.2.2.1 ∈ mW := mW_at 875 (by decide +kernel) (by decide)
theorem wmX1_limitOf : Cond.instanceMethod yX1_limitOf ∈ mW := mW_at 873 (by decide +kernel) (by decide)
theorem wlX1_limitOf : Cond.selects RX1 yX1_limitOf yX1_limitOf ∈ mW := mW_at 874 (by decide +kernel) (by decide)
theorem wcX10_best : Cond.code mdX10_best.1 mdX10_best.2.1 mdX10_best.2.2.1 mdX10_best.2.2.2.1 ∈ mW := mW_at 880 (by decide +kernel) (by decide)
theorem wmX10_best : Cond.instanceMethod yX10_best ∈ mW := mW_at 878 (by decide +kernel) (by decide)
theorem wlX10_best : Cond.selects RX10 yX10_best yX10_best ∈ mW := mW_at 879 (by decide +kernel) (by decide)
theorem wcX10_worn : Cond.code mdX10_worn.1 mdX10_worn.2.1 mdX10_worn.2.2.1 mdX10_worn.2.2.2.1 ∈ mW := mW_at 884 (by decide +kernel) (by decide)
theorem wmX10_worn : Cond.instanceMethod yX10_worn ∈ mW := mW_at 882 (by decide +kernel) (by decide)
theorem wlX10_worn : Cond.selects RX10 yX10_worn yX10_worn ∈ mW := mW_at 883 (by decide +kernel) (by decide)
theorem wcX2_breaksAny : Cond.code mdX2_breaksAny.1 mdX2_breaksAny.2.1 mdX2_breaksAny.2.2.1 mdX2_breaksAny.2.2.2.1 ∈ mW := mW_at 888 (by decide +kernel) (by decide)
theorem wmX2_breaksAny : Cond.instanceMethod yX2_breaksAny ∈ mW := mW_at 886 (by decide +kernel) (by decide)
theorem wlX2_breaksAny : Cond.selects RX2 yX2_breaksAny yX2_breaksAny ∈ mW := mW_at 887 (by decide +kernel) (by decide)
theorem wcX10_count : Cond.code mdX10_count.1 mdX10_count.2.1 mdX10_count.2.2.1 mdX10_count.2.2.2.1 ∈ mW := mW_at 892 (by decide +kernel) (by decide)
theorem wmX10_count : Cond.instanceMethod yX10_count ∈ mW := mW_at 890 (by decide +kernel) (by decide)
theorem wlX10_count : Cond.selects RX10 yX10_count yX10_count ∈ mW := mW_at 891 (by decide +kernel) (by decide)
theorem wcX12_init : Cond.code mdX12_init.1 mdX12_init.2.1 mdX12_init.2.2.1 mdX12_init.2.2.2.1 ∈ mW := mW_at 897 (by decide +kernel) (by decide)
theorem wiRX12 : Cond.initialized RX12 ∈ mW := mW_at 11 (by decide +kernel) (by decide)
theorem wmX12_init : Cond.instanceMethod yX12_init ∈ mW := mW_at 896 (by decide +kernel) (by decide)
theorem wcX11_init : Cond.code mdX11_init.1 mdX11_init.2.1 mdX11_init.2.2.1 mdX11_init.2.2.2.1 ∈ mW := mW_at 938 (by decide +kernel) (by decide)
theorem wiRX11 : Cond.initialized RX11 ∈ mW := mW_at 14 (by decide +kernel) (by decide)
theorem wmX11_init : Cond.instanceMethod yX11_init ∈ mW := mW_at 937 (by decide +kernel) (by decide)
theorem wcX12_feed : Cond.code mdX12_feed.1 mdX12_feed.2.1 mdX12_feed.2.2.1 mdX12_feed.2.2.2.1 ∈ mW := mW_at 1133 (by decide +kernel) (by decide)
theorem wmX12_feed : Cond.instanceMethod yX12_feed ∈ mW := mW_at 1131 (by decide +kernel) (by decide)
theorem wlX12_feed : Cond.selects RX12 yX12_feed yX12_feed ∈ mW := mW_at 1132 (by decide +kernel) (by decide)
theorem wcX12_lay : Cond.code mdX12_lay.1 mdX12_lay.2.1 mdX12_lay.2.2.1 mdX12_lay.2.2.2.1 ∈ mW := mW_at 1137 (by decide +kernel) (by decide)
theorem wmX12_lay : Cond.instanceMethod yX12_lay ∈ mW := mW_at 1136 (by decide +kernel) (by decide)
theorem wlX12_lay : Cond.selects RX12 yX12_lay yX12_lay ∈ mW := mW_sel 35 (by decide +kernel) (by decide)
theorem wcX12_end : Cond.code mdX12_end.1 mdX12_end.2.1 mdX12_end.2.2.1 mdX12_end.2.2.2.1 ∈ mW := mW_at 1141 (by decide +kernel) (by decide)
theorem wmX12_end : Cond.instanceMethod yX12_end ∈ mW := mW_at 1139 (by decide +kernel) (by decide)
theorem wlX12_end : Cond.selects RX12 yX12_end yX12_end ∈ mW := mW_at 1140 (by decide +kernel) (by decide)
theorem wcX12_in : Cond.code mdX12_in.1 mdX12_in.2.1 mdX12_in.2.2.1 mdX12_in.2.2.2.1 ∈ mW := mW_at 1144 (by decide +kernel) (by decide)
theorem wtX12_in : Cond.static yX12_in ∈ mW := mW_at 1143 (by decide +kernel) (by decide)
theorem wcX12_isDay : Cond.code mdX12_isDay.1 mdX12_isDay.2.1 mdX12_isDay.2.2.1 mdX12_isDay.2.2.2.1 ∈ mW := mW_at 1151 (by decide +kernel) (by decide)
theorem wtX12_isDay : Cond.static yX12_isDay ∈ mW := mW_at 1150 (by decide +kernel) (by decide)
theorem wcX12_scan : Cond.code mdX12_scan.1 mdX12_scan.2.1 mdX12_scan.2.2.1 mdX12_scan.2.2.2.1 ∈ mW := mW_at 1156 (by decide +kernel) (by decide)
theorem wmX12_scan : Cond.instanceMethod yX12_scan ∈ mW := mW_at 1155 (by decide +kernel) (by decide)
theorem wlX12_scan : Cond.selects RX12 yX12_scan yX12_scan ∈ mW := mW_sel 36 (by decide +kernel) (by decide)
theorem wcX12_byteAt : Cond.code mdX12_byteAt.1 mdX12_byteAt.2.1 mdX12_byteAt.2.2.1 mdX12_byteAt.2.2.2.1 ∈ mW := mW_at 1160 (by decide +kernel) (by decide)
theorem wmX12_byteAt : Cond.instanceMethod yX12_byteAt ∈ mW := mW_at 1159 (by decide +kernel) (by decide)
theorem wlX12_byteAt : Cond.selects RX12 yX12_byteAt yX12_byteAt ∈ mW := mW_sel 37 (by decide +kernel) (by decide)
theorem wcX12_isLetter : Cond.code mdX12_isLetter.1 mdX12_isLetter.2.1 mdX12_isLetter.2.2.1 mdX12_isLetter.2.2.2.1 ∈ mW := mW_at 1163 (by decide +kernel) (by decide)
theorem wtX12_isLetter : Cond.static yX12_isLetter ∈ mW := mW_at 1162 (by decide +kernel) (by decide)
theorem wcX12_isDigit : Cond.code mdX12_isDigit.1 mdX12_isDigit.2.1 mdX12_isDigit.2.2.1 mdX12_isDigit.2.2.2.1 ∈ mW := mW_at 1166 (by decide +kernel) (by decide)
theorem wtX12_isDigit : Cond.static yX12_isDigit ∈ mW := mW_at 1165 (by decide +kernel) (by decide)
theorem wcX12_readAct : Cond.code mdX12_readAct.1 mdX12_readAct.2.1 mdX12_readAct.2.2.1 mdX12_readAct.2.2.2.1 ∈ mW := mW_at 1170 (by decide +kernel) (by decide)
theorem wmX12_readAct : Cond.instanceMethod yX12_readAct ∈ mW := mW_at 1169 (by decide +kernel) (by decide)
theorem wlX12_readAct : Cond.selects RX12 yX12_readAct yX12_readAct ∈ mW := mW_sel 38 (by decide +kernel) (by decide)
theorem wcX12_kindAtHand : Cond.code mdX12_kindAtHand.1 mdX12_kindAtHand.2.1 mdX12_kindAtHand.2.2.1 mdX12_kindAtHand.2.2.2.1 ∈ mW := mW_at 1174 (by decide +kernel) (by decide)
theorem wmX12_kindAtHand : Cond.instanceMethod yX12_kindAtHand ∈ mW := mW_at 1173 (by decide +kernel) (by decide)
theorem wlX12_kindAtHand : Cond.selects RX12 yX12_kindAtHand yX12_kindAtHand ∈ mW := mW_sel 39 (by decide +kernel) (by decide)
theorem wcX12_is : Cond.code mdX12_is.1 mdX12_is.2.1 mdX12_is.2.2.1 mdX12_is.2.2.2.1 ∈ mW := mW_at 1179 (by decide +kernel) (by decide)
theorem wmX12_is : Cond.instanceMethod yX12_is ∈ mW := mW_at 1178 (by decide +kernel) (by decide)
theorem wlX12_is : Cond.selects RX12 yX12_is yX12_is ∈ mW := mW_sel 40 (by decide +kernel) (by decide)
theorem wcX12_readRule : Cond.code mdX12_readRule.1 mdX12_readRule.2.1 mdX12_readRule.2.2.1 mdX12_readRule.2.2.2.1 ∈ mW := mW_at 1192 (by decide +kernel) (by decide)
theorem wmX12_readRule : Cond.instanceMethod yX12_readRule ∈ mW := mW_at 1191 (by decide +kernel) (by decide)
theorem wlX12_readRule : Cond.selects RX12 yX12_readRule yX12_readRule ∈ mW := mW_sel 41 (by decide +kernel) (by decide)
theorem wcX12_wrong : Cond.code mdX12_wrong.1 mdX12_wrong.2.1 mdX12_wrong.2.2.1 mdX12_wrong.2.2.2.1 ∈ mW := mW_at 1196 (by decide +kernel) (by decide)
theorem wmX12_wrong : Cond.instanceMethod yX12_wrong ∈ mW := mW_at 1195 (by decide +kernel) (by decide)
theorem wlX12_wrong : Cond.selects RX12 yX12_wrong yX12_wrong ∈ mW := mW_sel 42 (by decide +kernel) (by decide)
theorem wcX12_number : Cond.code mdX12_number.1 mdX12_number.2.1 mdX12_number.2.2.1 mdX12_number.2.2.2.1 ∈ mW := mW_at 1200 (by decide +kernel) (by decide)
theorem wmX12_number : Cond.instanceMethod yX12_number ∈ mW := mW_at 1199 (by decide +kernel) (by decide)
theorem wlX12_number : Cond.selects RX12 yX12_number yX12_number ∈ mW := mW_sel 43 (by decide +kernel) (by decide)
theorem wcX12_need : Cond.code mdX12_need.1 mdX12_need.2.1 mdX12_need.2.2.1 mdX12_need.2.2.2.1 ∈ mW := mW_at 1206 (by decide +kernel) (by decide)
theorem wmX12_need : Cond.instanceMethod yX12_need ∈ mW := mW_at 1205 (by decide +kernel) (by decide)
theorem wlX12_need : Cond.selects RX12 yX12_need yX12_need ∈ mW := mW_sel 44 (by decide +kernel) (by decide)
theorem wcX12_readOther : Cond.code mdX12_readOther.1 mdX12_readOther.2.1 mdX12_readOther.2.2.1 mdX12_readOther.2.2.2.1 ∈ mW := mW_at 1216 (by decide +kernel) (by decide)
theorem wmX12_readOther : Cond.instanceMethod yX12_readOther ∈ mW := mW_at 1215 (by decide +kernel) (by decide)
theorem wlX12_readOther : Cond.selects RX12 yX12_readOther yX12_readOther ∈ mW := mW_sel 45 (by decide +kernel) (by decide)
theorem wcX12_fault : Cond.code mdX12_fault.1 mdX12_fault.2.1 mdX12_fault.2.2.1 mdX12_fault.2.2.2.1 ∈ mW := mW_at 1223 (by decide +kernel) (by decide)
theorem wmX12_fault : Cond.instanceMethod yX12_fault ∈ mW := mW_at 1221 (by decide +kernel) (by decide)
theorem wlX12_fault : Cond.selects RX12 yX12_fault yX12_fault ∈ mW := mW_at 1222 (by decide +kernel) (by decide)
theorem wcX12_told : Cond.code mdX12_told.1 mdX12_told.2.1 mdX12_told.2.2.1 mdX12_told.2.2.2.1 ∈ mW := mW_at 1227 (by decide +kernel) (by decide)
theorem wmX12_told : Cond.instanceMethod yX12_told ∈ mW := mW_at 1225 (by decide +kernel) (by decide)
theorem wlX12_told : Cond.selects RX12 yX12_told yX12_told ∈ mW := mW_at 1226 (by decide +kernel) (by decide)
theorem wcX12_isAct : Cond.code mdX12_isAct.1 mdX12_isAct.2.1 mdX12_isAct.2.2.1 mdX12_isAct.2.2.2.1 ∈ mW := mW_at 1231 (by decide +kernel) (by decide)
theorem wmX12_isAct : Cond.instanceMethod yX12_isAct ∈ mW := mW_at 1230 (by decide +kernel) (by decide)
theorem wlX12_isAct : Cond.selects RX12 yX12_isAct yX12_isAct ∈ mW := mW_sel 46 (by decide +kernel) (by decide)
theorem wcX12_rule : Cond.code mdX12_rule.1 mdX12_rule.2.1 mdX12_rule.2.2.1 mdX12_rule.2.2.2.1 ∈ mW := mW_at 1235 (by decide +kernel) (by decide)
theorem wmX12_rule : Cond.instanceMethod yX12_rule ∈ mW := mW_at 1233 (by decide +kernel) (by decide)
theorem wlX12_rule : Cond.selects RX12 yX12_rule yX12_rule ∈ mW := mW_at 1234 (by decide +kernel) (by decide)
theorem wcX12_force : Cond.code mdX12_force.1 mdX12_force.2.1 mdX12_force.2.2.1 mdX12_force.2.2.2.1 ∈ mW := mW_at 1239 (by decide +kernel) (by decide)
theorem wmX12_force : Cond.instanceMethod yX12_force ∈ mW := mW_at 1237 (by decide +kernel) (by decide)
theorem wlX12_force : Cond.selects RX12 yX12_force yX12_force ∈ mW := mW_at 1238 (by decide +kernel) (by decide)
theorem wcX12_isInForce : Cond.code mdX12_isInForce.1 mdX12_isInForce.2.1 mdX12_isInForce.2.2.1 mdX12_isInForce.2.2.2.1 ∈ mW := mW_at 1243 (by decide +kernel) (by decide)
theorem wmX12_isInForce : Cond.instanceMethod yX12_isInForce ∈ mW := mW_at 1242 (by decide +kernel) (by decide)
theorem wlX12_isInForce : Cond.selects RX12 yX12_isInForce yX12_isInForce ∈ mW := mW_sel 47 (by decide +kernel) (by decide)
theorem wcX12_rank : Cond.code mdX12_rank.1 mdX12_rank.2.1 mdX12_rank.2.2.1 mdX12_rank.2.2.2.1 ∈ mW := mW_at 1247 (by decide +kernel) (by decide)
theorem wmX12_rank : Cond.instanceMethod yX12_rank ∈ mW := mW_at 1245 (by decide +kernel) (by decide)
theorem wlX12_rank : Cond.selects RX12 yX12_rank yX12_rank ∈ mW := mW_at 1246 (by decide +kernel) (by decide)
theorem wcX12_isPerson : Cond.code mdX12_isPerson.1 mdX12_isPerson.2.1 mdX12_isPerson.2.2.1 mdX12_isPerson.2.2.2.1 ∈ mW := mW_at 1250 (by decide +kernel) (by decide)
theorem wtX12_isPerson : Cond.static yX12_isPerson ∈ mW := mW_at 1249 (by decide +kernel) (by decide)
theorem wcX12_feast : Cond.code mdX12_feast.1 mdX12_feast.2.1 mdX12_feast.2.2.1 mdX12_feast.2.2.2.1 ∈ mW := mW_at 1256 (by decide +kernel) (by decide)
theorem wmX12_feast : Cond.instanceMethod yX12_feast ∈ mW := mW_at 1254 (by decide +kernel) (by decide)
theorem wlX12_feast : Cond.selects RX12 yX12_feast yX12_feast ∈ mW := mW_at 1255 (by decide +kernel) (by decide)
theorem wcX12_areDays : Cond.code mdX12_areDays.1 mdX12_areDays.2.1 mdX12_areDays.2.2.1 mdX12_areDays.2.2.2.1 ∈ mW := mW_at 1259 (by decide +kernel) (by decide)
theorem wtX12_areDays : Cond.static yX12_areDays ∈ mW := mW_at 1258 (by decide +kernel) (by decide)
theorem wcX12_wedding : Cond.code mdX12_wedding.1 mdX12_wedding.2.1 mdX12_wedding.2.2.1 mdX12_wedding.2.2.2.1 ∈ mW := mW_at 1263 (by decide +kernel) (by decide)
theorem wmX12_wedding : Cond.instanceMethod yX12_wedding ∈ mW := mW_at 1261 (by decide +kernel) (by decide)
theorem wlX12_wedding : Cond.selects RX12 yX12_wedding yX12_wedding ∈ mW := mW_at 1262 (by decide +kernel) (by decide)
theorem wcX12_on : Cond.code mdX12_on.1 mdX12_on.2.1 mdX12_on.2.2.1 mdX12_on.2.2.2.1 ∈ mW := mW_at 1267 (by decide +kernel) (by decide)
theorem wmX12_on : Cond.instanceMethod yX12_on ∈ mW := mW_at 1265 (by decide +kernel) (by decide)
theorem wlX12_on : Cond.selects RX12 yX12_on yX12_on ∈ mW := mW_at 1266 (by decide +kernel) (by decide)
theorem wcX12_rankOf : Cond.code mdX12_rankOf.1 mdX12_rankOf.2.1 mdX12_rankOf.2.2.1 mdX12_rankOf.2.2.2.1 ∈ mW := mW_at 1271 (by decide +kernel) (by decide)
theorem wmX12_rankOf : Cond.instanceMethod yX12_rankOf ∈ mW := mW_at 1270 (by decide +kernel) (by decide)
theorem wlX12_rankOf : Cond.selects RX12 yX12_rankOf yX12_rankOf ∈ mW := mW_sel 48 (by decide +kernel) (by decide)
theorem wcX12_occasionOf : Cond.code mdX12_occasionOf.1 mdX12_occasionOf.2.1 mdX12_occasionOf.2.2.1 mdX12_occasionOf.2.2.2.1 ∈ mW := mW_at 1275 (by decide +kernel) (by decide)
theorem wmX12_occasionOf : Cond.instanceMethod yX12_occasionOf ∈ mW := mW_at 1274 (by decide +kernel) (by decide)
theorem wlX12_occasionOf : Cond.selects RX12 yX12_occasionOf yX12_occasionOf ∈ mW := mW_sel 49 (by decide +kernel) (by decide)
theorem wcX12_gown : Cond.code mdX12_gown.1 mdX12_gown.2.1 mdX12_gown.2.2.1 mdX12_gown.2.2.2.1 ∈ mW := mW_at 1279 (by decide +kernel) (by decide)
theorem wmX12_gown : Cond.instanceMethod yX12_gown ∈ mW := mW_at 1277 (by decide +kernel) (by decide)
theorem wlX12_gown : Cond.selects RX12 yX12_gown yX12_gown ∈ mW := mW_at 1278 (by decide +kernel) (by decide)
theorem wcX12_seal : Cond.code mdX12_seal.1 mdX12_seal.2.1 mdX12_seal.2.2.1 mdX12_seal.2.2.2.1 ∈ mW := mW_at 1285 (by decide +kernel) (by decide)
theorem wmX12_seal : Cond.instanceMethod yX12_seal ∈ mW := mW_at 1283 (by decide +kernel) (by decide)
theorem wlX12_seal : Cond.selects RX12 yX12_seal yX12_seal ∈ mW := mW_at 1284 (by decide +kernel) (by decide)
theorem wcX12_isGown : Cond.code mdX12_isGown.1 mdX12_isGown.2.1 mdX12_isGown.2.2.1 mdX12_isGown.2.2.2.1 ∈ mW := mW_at 1289 (by decide +kernel) (by decide)
theorem wmX12_isGown : Cond.instanceMethod yX12_isGown ∈ mW := mW_at 1288 (by decide +kernel) (by decide)
theorem wlX12_isGown : Cond.selects RX12 yX12_isGown yX12_isGown ∈ mW := mW_sel 50 (by decide +kernel) (by decide)
theorem wcX12_about : Cond.code mdX12_about.1 mdX12_about.2.1 mdX12_about.2.2.1 mdX12_about.2.2.2.1 ∈ mW := mW_at 1293 (by decide +kernel) (by decide)
theorem wmX12_about : Cond.instanceMethod yX12_about ∈ mW := mW_at 1291 (by decide +kernel) (by decide)
theorem wlX12_about : Cond.selects RX12 yX12_about yX12_about ∈ mW := mW_at 1292 (by decide +kernel) (by decide)
theorem wcX12_like : Cond.code mdX12_like.1 mdX12_like.2.1 mdX12_like.2.2.1 mdX12_like.2.2.2.1 ∈ mW := mW_at 1298 (by decide +kernel) (by decide)
theorem wmX12_like : Cond.instanceMethod yX12_like ∈ mW := mW_at 1296 (by decide +kernel) (by decide)
theorem wlX12_like : Cond.selects RX12 yX12_like yX12_like ∈ mW := mW_at 1297 (by decide +kernel) (by decide)
theorem wcX12_isStuff : Cond.code mdX12_isStuff.1 mdX12_isStuff.2.1 mdX12_isStuff.2.2.1 mdX12_isStuff.2.2.2.1 ∈ mW := mW_at 1301 (by decide +kernel) (by decide)
theorem wtX12_isStuff : Cond.static yX12_isStuff ∈ mW := mW_at 1300 (by decide +kernel) (by decide)
theorem wcX12_counts : Cond.code mdX12_counts.1 mdX12_counts.2.1 mdX12_counts.2.2.1 mdX12_counts.2.2.2.1 ∈ mW := mW_at 1305 (by decide +kernel) (by decide)
theorem wmX12_counts : Cond.instanceMethod yX12_counts ∈ mW := mW_at 1303 (by decide +kernel) (by decide)
theorem wlX12_counts : Cond.selects RX12 yX12_counts yX12_counts ∈ mW := mW_at 1304 (by decide +kernel) (by decide)
theorem wcX12_countsAs : Cond.code mdX12_countsAs.1 mdX12_countsAs.2.1 mdX12_countsAs.2.2.1 mdX12_countsAs.2.2.2.1 ∈ mW := mW_at 1309 (by decide +kernel) (by decide)
theorem wmX12_countsAs : Cond.instanceMethod yX12_countsAs ∈ mW := mW_at 1308 (by decide +kernel) (by decide)
theorem wlX12_countsAs : Cond.selects RX12 yX12_countsAs yX12_countsAs ∈ mW := mW_sel 51 (by decide +kernel) (by decide)
theorem wcX12_fine : Cond.code mdX12_fine.1 mdX12_fine.2.1 mdX12_fine.2.2.1 mdX12_fine.2.2.2.1 ∈ mW := mW_at 1313 (by decide +kernel) (by decide)
theorem wmX12_fine : Cond.instanceMethod yX12_fine ∈ mW := mW_at 1311 (by decide +kernel) (by decide)
theorem wlX12_fine : Cond.selects RX12 yX12_fine yX12_fine ∈ mW := mW_at 1312 (by decide +kernel) (by decide)
theorem wcX12_isCase : Cond.code mdX12_isCase.1 mdX12_isCase.2.1 mdX12_isCase.2.2.1 mdX12_isCase.2.2.2.1 ∈ mW := mW_at 1317 (by decide +kernel) (by decide)
theorem wmX12_isCase : Cond.instanceMethod yX12_isCase ∈ mW := mW_at 1316 (by decide +kernel) (by decide)
theorem wlX12_isCase : Cond.selects RX12 yX12_isCase yX12_isCase ∈ mW := mW_sel 52 (by decide +kernel) (by decide)
theorem wcX12_fineOf : Cond.code mdX12_fineOf.1 mdX12_fineOf.2.1 mdX12_fineOf.2.2.1 mdX12_fineOf.2.2.2.1 ∈ mW := mW_at 1321 (by decide +kernel) (by decide)
theorem wmX12_fineOf : Cond.instanceMethod yX12_fineOf ∈ mW := mW_at 1320 (by decide +kernel) (by decide)
theorem wlX12_fineOf : Cond.selects RX12 yX12_fineOf yX12_fineOf ∈ mW := mW_sel 53 (by decide +kernel) (by decide)
theorem wcX12_brokenOf : Cond.code mdX12_brokenOf.1 mdX12_brokenOf.2.1 mdX12_brokenOf.2.2.1 mdX12_brokenOf.2.2.2.1 ∈ mW := mW_at 1325 (by decide +kernel) (by decide)
theorem wmX12_brokenOf : Cond.instanceMethod yX12_brokenOf ∈ mW := mW_at 1324 (by decide +kernel) (by decide)
theorem wlX12_brokenOf : Cond.selects RX12 yX12_brokenOf yX12_brokenOf ∈ mW := mW_sel 54 (by decide +kernel) (by decide)
theorem wcX12_binds : Cond.code mdX12_binds.1 mdX12_binds.2.1 mdX12_binds.2.2.1 mdX12_binds.2.2.2.1 ∈ mW := mW_at 1329 (by decide +kernel) (by decide)
theorem wmX12_binds : Cond.instanceMethod yX12_binds ∈ mW := mW_at 1328 (by decide +kernel) (by decide)
theorem wlX12_binds : Cond.selects RX12 yX12_binds yX12_binds ∈ mW := mW_sel 55 (by decide +kernel) (by decide)
theorem wcX12_isBroken : Cond.code mdX12_isBroken.1 mdX12_isBroken.2.1 mdX12_isBroken.2.2.1 mdX12_isBroken.2.2.2.1 ∈ mW := mW_at 1333 (by decide +kernel) (by decide)
theorem wmX12_isBroken : Cond.instanceMethod yX12_isBroken ∈ mW := mW_at 1332 (by decide +kernel) (by decide)
theorem wlX12_isBroken : Cond.selects RX12 yX12_isBroken yX12_isBroken ∈ mW := mW_sel 56 (by decide +kernel) (by decide)
theorem wcX12_broken : Cond.code mdX12_broken.1 mdX12_broken.2.1 mdX12_broken.2.2.1 mdX12_broken.2.2.2.1 ∈ mW := mW_at 1338 (by decide +kernel) (by decide)
theorem wmX12_broken : Cond.instanceMethod yX12_broken ∈ mW := mW_at 1336 (by decide +kernel) (by decide)
theorem wlX12_broken : Cond.selects RX12 yX12_broken yX12_broken ∈ mW := mW_at 1337 (by decide +kernel) (by decide)
theorem wcX12_letter : Cond.code mdX12_letter.1 mdX12_letter.2.1 mdX12_letter.2.2.1 mdX12_letter.2.2.2.1 ∈ mW := mW_at 1342 (by decide +kernel) (by decide)
theorem wmX12_letter : Cond.instanceMethod yX12_letter ∈ mW := mW_at 1340 (by decide +kernel) (by decide)
theorem wlX12_letter : Cond.selects RX12 yX12_letter yX12_letter ∈ mW := mW_at 1341 (by decide +kernel) (by decide)
theorem wcX12_judge : Cond.code mdX12_judge.1 mdX12_judge.2.1 mdX12_judge.2.2.1 mdX12_judge.2.2.2.1 ∈ mW := mW_at 1346 (by decide +kernel) (by decide)
theorem wmX12_judge : Cond.instanceMethod yX12_judge ∈ mW := mW_at 1344 (by decide +kernel) (by decide)
theorem wlX12_judge : Cond.selects RX12 yX12_judge yX12_judge ∈ mW := mW_at 1345 (by decide +kernel) (by decide)
theorem wcX12_isLetterOf : Cond.code mdX12_isLetterOf.1 mdX12_isLetterOf.2.1 mdX12_isLetterOf.2.2.1 mdX12_isLetterOf.2.2.2.1 ∈ mW := mW_at 1350 (by decide +kernel) (by decide)
theorem wmX12_isLetterOf : Cond.instanceMethod yX12_isLetterOf ∈ mW := mW_at 1349 (by decide +kernel) (by decide)
theorem wlX12_isLetterOf : Cond.selects RX12 yX12_isLetterOf yX12_isLetterOf ∈ mW := mW_sel 57 (by decide +kernel) (by decide)
theorem wcX12_partOn : Cond.code mdX12_partOn.1 mdX12_partOn.2.1 mdX12_partOn.2.2.1 mdX12_partOn.2.2.2.1 ∈ mW := mW_at 1354 (by decide +kernel) (by decide)
theorem wmX12_partOn : Cond.instanceMethod yX12_partOn ∈ mW := mW_at 1353 (by decide +kernel) (by decide)
theorem wlX12_partOn : Cond.selects RX12 yX12_partOn yX12_partOn ∈ mW := mW_sel 58 (by decide +kernel) (by decide)
theorem wcX12_lettered : Cond.code mdX12_lettered.1 mdX12_lettered.2.1 mdX12_lettered.2.2.1 mdX12_lettered.2.2.2.1 ∈ mW := mW_at 1359 (by decide +kernel) (by decide)
theorem wmX12_lettered : Cond.instanceMethod yX12_lettered ∈ mW := mW_at 1357 (by decide +kernel) (by decide)
theorem wlX12_lettered : Cond.selects RX12 yX12_lettered yX12_lettered ∈ mW := mW_at 1358 (by decide +kernel) (by decide)
theorem wcX12_person : Cond.code mdX12_person.1 mdX12_person.2.1 mdX12_person.2.2.1 mdX12_person.2.2.2.1 ∈ mW := mW_at 1363 (by decide +kernel) (by decide)
theorem wmX12_person : Cond.instanceMethod yX12_person ∈ mW := mW_at 1361 (by decide +kernel) (by decide)
theorem wlX12_person : Cond.selects RX12 yX12_person yX12_person ∈ mW := mW_at 1362 (by decide +kernel) (by decide)
theorem wcX12_price : Cond.code mdX12_price.1 mdX12_price.2.1 mdX12_price.2.2.1 mdX12_price.2.2.2.1 ∈ mW := mW_at 1368 (by decide +kernel) (by decide)
theorem wmX12_price : Cond.instanceMethod yX12_price ∈ mW := mW_at 1366 (by decide +kernel) (by decide)
theorem wlX12_price : Cond.selects RX12 yX12_price yX12_price ∈ mW := mW_at 1367 (by decide +kernel) (by decide)
theorem wcX12_alter : Cond.code mdX12_alter.1 mdX12_alter.2.1 mdX12_alter.2.2.1 mdX12_alter.2.2.2.1 ∈ mW := mW_at 1374 (by decide +kernel) (by decide)
theorem wmX12_alter : Cond.instanceMethod yX12_alter ∈ mW := mW_at 1372 (by decide +kernel) (by decide)
theorem wlX12_alter : Cond.selects RX12 yX12_alter yX12_alter ∈ mW := mW_at 1373 (by decide +kernel) (by decide)
theorem wcX12_alterOf : Cond.code mdX12_alterOf.1 mdX12_alterOf.2.1 mdX12_alterOf.2.2.1 mdX12_alterOf.2.2.2.1 ∈ mW := mW_at 1378 (by decide +kernel) (by decide)
theorem wmX12_alterOf : Cond.instanceMethod yX12_alterOf ∈ mW := mW_at 1377 (by decide +kernel) (by decide)
theorem wlX12_alterOf : Cond.selects RX12 yX12_alterOf yX12_alterOf ∈ mW := mW_sel 59 (by decide +kernel) (by decide)
theorem wcX12_gather : Cond.code mdX12_gather.1 mdX12_gather.2.1 mdX12_gather.2.2.1 mdX12_gather.2.2.2.1 ∈ mW := mW_at 1382 (by decide +kernel) (by decide)
theorem wmX12_gather : Cond.instanceMethod yX12_gather ∈ mW := mW_at 1381 (by decide +kernel) (by decide)
theorem wlX12_gather : Cond.selects RX12 yX12_gather yX12_gather ∈ mW := mW_sel 60 (by decide +kernel) (by decide)
theorem wcX12_best : Cond.code mdX12_best.1 mdX12_best.2.1 mdX12_best.2.2.1 mdX12_best.2.2.2.1 ∈ mW := mW_at 1387 (by decide +kernel) (by decide)
theorem wmX12_best : Cond.instanceMethod yX12_best ∈ mW := mW_at 1385 (by decide +kernel) (by decide)
theorem wlX12_best : Cond.selects RX12 yX12_best yX12_best ∈ mW := mW_at 1386 (by decide +kernel) (by decide)
theorem wcX12_worn : Cond.code mdX12_worn.1 mdX12_worn.2.1 mdX12_worn.2.2.1 mdX12_worn.2.2.2.1 ∈ mW := mW_at 1391 (by decide +kernel) (by decide)
theorem wmX12_worn : Cond.instanceMethod yX12_worn ∈ mW := mW_at 1389 (by decide +kernel) (by decide)
theorem wlX12_worn : Cond.selects RX12 yX12_worn yX12_worn ∈ mW := mW_at 1390 (by decide +kernel) (by decide)
theorem wcX12_count : Cond.code mdX12_count.1 mdX12_count.2.1 mdX12_count.2.2.1 mdX12_count.2.2.2.1 ∈ mW := mW_at 1395 (by decide +kernel) (by decide)
theorem wmX12_count : Cond.instanceMethod yX12_count ∈ mW := mW_at 1393 (by decide +kernel) (by decide)
theorem wlX12_count : Cond.selects RX12 yX12_count yX12_count ∈ mW := mW_at 1394 (by decide +kernel) (by decide)
theorem lkX10_1 : Cond.methodLink RX10 1 Lib.objectInit ∈ mW := mW_at 27 (by decide +kernel) (by decide)
theorem cvX10_9 : mCi RX10 9 mdX8_init 0 := ⟨Or.inr ⟨"GownCourt", mN_at 32 (by decide +kernel) (by decide)⟩, wmX8_init, wcX8_init, wiRX8, ⟨by decide, by decide, by decide +kernel⟩, rfl, rfl⟩
theorem cvX10_18 : mCi RX10 18 mdX5_init 1 := ⟨Or.inl (mW_at 46 (by decide +kernel) (by decide)), wmX5_init, wcX5_init, wiRX5, ⟨by decide, by decide, by decide +kernel⟩, rfl, rfl⟩
theorem cvX10_27 : mCi RX10 27 mdX2_init 0 := ⟨Or.inr ⟨"GownCourt", mN_at 136 (by decide +kernel) (by decide)⟩, wmX2_init, wcX2_init, wiRX2, ⟨by decide, by decide, by decide +kernel⟩, rfl, rfl⟩
theorem cvX10_34 : mCi RX10 34 mdX6_init 1 := ⟨Or.inl (mW_at 151 (by decide +kernel) (by decide)), wmX6_init, wcX6_init, wiRX6, ⟨by decide, by decide, by decide +kernel⟩, rfl, rfl⟩
theorem cvX10_87 : mCi RX10 87 mdX9_init 0 := ⟨Or.inr ⟨"GownCourt", mN_at 175 (by decide +kernel) (by decide)⟩, wmX9_init, wcX9_init, wiRX9, ⟨by decide, by decide, by decide +kernel⟩, rfl, rfl⟩
theorem cvX10_94 : mCi RX10 94 mdX1_init 0 := ⟨Or.inr ⟨"GownCourt", mN_at 231 (by decide +kernel) (by decide)⟩, wmX1_init, wcX1_init, wiRX1, ⟨by decide, by decide, by decide +kernel⟩, rfl, rfl⟩
theorem cvX10_99 : mCs RX10 99 mdJ7_fill_53178 2 := ⟨mW_at 245 (by decide +kernel) (by decide), wtJ7_fill_53178, wcJ7_fill_53178, wiRJ7, ⟨by decide, by decide, by decide +kernel⟩⟩
theorem cvX10_105 : mCv RX10 105 mdX8_size 0 := ⟨mW_at 307 (by decide +kernel) (by decide), wmX8_size, wlX8_size, wcX8_size, wiRX8, ⟨by decide, by decide, by decide +kernel⟩⟩
theorem cvX10_109 : mCv RX10 109 mdX8_put 1 := ⟨mW_at 311 (by decide +kernel) (by decide), wmX8_put, wlX8_put, wcX8_put, wiRX8, ⟨by decide, by decide, by decide +kernel⟩⟩
theorem cvX10_112 : mCv RX10 112 mdX8_cutTo 1 := ⟨mW_at 319 (by decide +kernel) (by decide), wmX8_cutTo, wlX8_cutTo, wcX8_cutTo, wiRX8, ⟨by decide, by decide, by decide +kernel⟩⟩
theorem cvX10_115 : mCs RX10 115 mdX10_isPerson 1 := ⟨mW_at 327 (by decide +kernel) (by decide), wtX10_isPerson, wcX10_isPerson, wiRX10, ⟨by decide, by decide, by decide +kernel⟩⟩
theorem cvX10_119 : mCs RX10 119 mdX10_isDay 1 := ⟨mW_at 330 (by decide +kernel) (by decide), wtX10_isDay, wcX10_isDay, wiRX10, ⟨by decide, by decide, by decide +kernel⟩⟩
theorem cvX10_122 : mCs RX10 122 mdX10_isRank 1 := ⟨mW_at 333 (by decide +kernel) (by decide), wtX10_isRank, wcX10_isRank, wiRX10, ⟨by decide, by decide, by decide +kernel⟩⟩
theorem cvX10_125 : mCv RX10 125 mdX6_countOf 1 := ⟨mW_at 336 (by decide +kernel) (by decide), wmX6_countOf, wlX6_countOf, wcX6_countOf, wiRX6, ⟨by decide, by decide, by decide +kernel⟩⟩
theorem cvX10_129 : mCv RX10 129 mdX6_add 3 := ⟨mW_at 340 (by decide +kernel) (by decide), wmX6_add, wlX6_add, wcX6_add, wiRX6, ⟨by decide, by decide, by decide +kernel⟩⟩
theorem cvX10_133 : mCs RX10 133 mdX10_isSpan 2 := ⟨mW_at 348 (by decide +kernel) (by decide), wtX10_isSpan, wcX10_isSpan, wiRX10, ⟨by decide, by decide, by decide +kernel⟩⟩
theorem cvX10_137 : mCv RX10 137 mdX6_size 0 := ⟨mW_at 351 (by decide +kernel) (by decide), wmX6_size, wlX6_size, wcX6_size, wiRX6, ⟨by decide, by decide, by decide +kernel⟩⟩
theorem cvX10_138 : mCv RX10 138 mdX10_rankOn 2 := ⟨mW_at 363 (by decide +kernel) (by decide), wmX10_rankOn, wlX10_rankOn, wcX10_rankOn, wiRX10, ⟨by decide, by decide, by decide +kernel⟩⟩
theorem cvX10_142 : mCv RX10 142 mdX10_occasionOn 2 := ⟨mW_at 371 (by decide +kernel) (by decide), wmX10_occasionOn, wlX10_occasionOn, wcX10_occasionOn, wiRX10, ⟨by decide, by decide, by decide +kernel⟩⟩
theorem cvX10_145 : mCs RX10 145 mdX10_isMeasure 1 := ⟨mW_at 383 (by decide +kernel) (by decide), wtX10_isMeasure, wcX10_isMeasure, wiRX10, ⟨by decide, by decide, by decide +kernel⟩⟩
theorem cvX10_148 : mCs RX10 148 mdX10_isStuff 1 := ⟨mW_at 386 (by decide +kernel) (by decide), wtX10_isStuff, wcX10_isStuff, wiRX10, ⟨by decide, by decide, by decide +kernel⟩⟩
theorem cvX10_151 : mCs RX10 151 mdX10_isColour 1 := ⟨mW_at 389 (by decide +kernel) (by decide), wtX10_isColour, wcX10_isColour, wiRX10, ⟨by decide, by decide, by decide +kernel⟩⟩
theorem cvX10_154 : mCi RX10 154 mdX3_init 7 := ⟨Or.inl (mW_at 392 (by decide +kernel) (by decide)), wmX3_init, wcX3_init, wiRX3, ⟨by decide, by decide, by decide +kernel⟩, rfl, rfl⟩
theorem cvX10_157 : mCv RX10 157 mdX10_findGown 1 := ⟨mW_at 397 (by decide +kernel) (by decide), wmX10_findGown, wlX10_findGown, wcX10_findGown, wiRX10, ⟨by decide, by decide, by decide +kernel⟩⟩
theorem cvX10_170 : mCv RX10 170 mdX3_measure 1 := ⟨mW_at 405 (by decide +kernel) (by decide), wmX3_measure, wlX3_measure, wcX3_measure, wiRX3, ⟨by decide, by decide, by decide +kernel⟩⟩
theorem cvX10_173 : mCv RX10 173 mdX10_countsAs 2 := ⟨mW_at 417 (by decide +kernel) (by decide), wmX10_countsAs, wlX10_countsAs, wcX10_countsAs, wiRX10, ⟨by decide, by decide, by decide +kernel⟩⟩
theorem cvX10_176 : mCv RX10 176 mdX2_latestFirstDay 0 := ⟨mW_at 425 (by decide +kernel) (by decide), wmX2_latestFirstDay, wlX2_latestFirstDay, wcX2_latestFirstDay, wiRX2, ⟨by decide, by decide, by decide +kernel⟩⟩
theorem cvX10_179 : mCv RX10 179 mdX2_size 0 := ⟨mW_at 433 (by decide +kernel) (by decide), wmX2_size, wlX2_size, wcX2_size, wiRX2, ⟨by decide, by decide, by decide +kernel⟩⟩
theorem cvX10_180 : mCv RX10 180 mdX5_read 1 := ⟨mW_at 437 (by decide +kernel) (by decide), wmX5_read, wlX5_read, wcX5_read, wiRX5, ⟨by decide, by decide, by decide +kernel⟩⟩
theorem cvX10_183 : mCv RX10 183 mdX5_faultKind 0 := ⟨mW_at 636 (by decide +kernel) (by decide), wmX5_faultKind, wlX5_faultKind, wcX5_faultKind, wiRX5, ⟨by decide, by decide, by decide +kernel⟩⟩
theorem cvX10_186 : mCv RX10 186 mdX5_takeDraft 0 := ⟨mW_at 640 (by decide +kernel) (by decide), wmX5_takeDraft, wlX5_takeDraft, wcX5_takeDraft, wiRX5, ⟨by decide, by decide, by decide +kernel⟩⟩
theorem cvX10_190 : mCv RX10 190 mdX2_add 2 := ⟨mW_at 644 (by decide +kernel) (by decide), wmX2_add, wlX2_add, wcX2_add, wiRX2, ⟨by decide, by decide, by decide +kernel⟩⟩
theorem cvX10_193 : mCv RX10 193 mdX5_faultPlace 0 := ⟨mW_at 652 (by decide +kernel) (by decide), wmX5_faultPlace, wlX5_faultPlace, wcX5_faultPlace, wiRX5, ⟨by decide, by decide, by decide +kernel⟩⟩
theorem cvX10_196 : mCv RX10 196 mdX2_find 1 := ⟨mW_at 660 (by decide +kernel) (by decide), wmX2_find, wlX2_find, wcX2_find, wiRX2, ⟨by decide, by decide, by decide +kernel⟩⟩
theorem cvX10_208 : mCv RX10 208 mdX0_sealDays 0 := ⟨mW_at 661 (by decide +kernel) (by decide), wmX0_sealDays, wlX0_sealDays, wcX0_sealDays, wiRX0, ⟨by decide, by decide, by decide +kernel⟩⟩
theorem cvX10_217 : mCv RX10 217 mdX0_findRule 1 := ⟨mW_at 672 (by decide +kernel) (by decide), wmX0_findRule, wlX0_findRule, wcX0_findRule, wiRX0, ⟨by decide, by decide, by decide +kernel⟩⟩
theorem cvX10_241 : mCv RX10 241 mdX2_inForce 1 := ⟨mW_at 680 (by decide +kernel) (by decide), wmX2_inForce, wlX2_inForce, wcX2_inForce, wiRX2, ⟨by decide, by decide, by decide +kernel⟩⟩
theorem cvX10_244 : mCv RX10 244 mdX10_putOn 3 := ⟨mW_at 688 (by decide +kernel) (by decide), wmX10_putOn, wlX10_putOn, wcX10_putOn, wiRX10, ⟨by decide, by decide, by decide +kernel⟩⟩
theorem cvX10_248 : mCv RX10 248 mdX10_fineOfWearing 1 := ⟨mW_at 696 (by decide +kernel) (by decide), wmX10_fineOfWearing, wlX10_fineOfWearing, wcX10_fineOfWearing, wiRX10, ⟨by decide, by decide, by decide +kernel⟩⟩
theorem cvX10_251 : mCv RX10 251 mdX2_brokenRules 2 := ⟨mW_at 743 (by decide +kernel) (by decide), wmX2_brokenRules, wlX2_brokenRules, wcX2_brokenRules, wiRX2, ⟨by decide, by decide, by decide +kernel⟩⟩
theorem cvX10_255 : mCi RX10 255 mdX4_init 4 := ⟨Or.inl (mW_at 752 (by decide +kernel) (by decide)), wmX4_init, wcX4_init, wiRX4, ⟨by decide, by decide, by decide +kernel⟩, rfl, rfl⟩
theorem cvX10_258 : mCv RX10 258 mdX10_findLetter 1 := ⟨mW_at 789 (by decide +kernel) (by decide), wmX10_findLetter, wlX10_findLetter, wcX10_findLetter, wiRX10, ⟨by decide, by decide, by decide +kernel⟩⟩
theorem cvX10_265 : mCv RX10 265 mdX10_wasConvicted 1 := ⟨mW_at 793 (by decide +kernel) (by decide), wmX10_wasConvicted, wlX10_wasConvicted, wcX10_wasConvicted, wiRX10, ⟨by decide, by decide, by decide +kernel⟩⟩
theorem cvX10_278 : mCv RX10 278 mdX10_convict 2 := ⟨mW_at 801 (by decide +kernel) (by decide), wmX10_convict, wlX10_convict, wcX10_convict, wiRX10, ⟨by decide, by decide, by decide +kernel⟩⟩
theorem cvX10_282 : mCv RX10 282 mdX10_punishFalse 1 := ⟨mW_at 810 (by decide +kernel) (by decide), wmX10_punishFalse, wlX10_punishFalse, wcX10_punishFalse, wiRX10, ⟨by decide, by decide, by decide +kernel⟩⟩
theorem cvX10_293 : mCv RX10 293 mdX10_cheapestChange 0 := ⟨mW_at 830 (by decide +kernel) (by decide), wmX10_cheapestChange, wlX10_cheapestChange, wcX10_cheapestChange, wiRX10, ⟨by decide, by decide, by decide +kernel⟩⟩
theorem cvX10_296 : mCv RX10 296 mdX9_take 5 := ⟨mW_at 692 (by decide +kernel) (by decide), wmX9_take, wlX9_take, wcX9_take, wiRX9, ⟨by decide, by decide, by decide +kernel⟩⟩
theorem cvX10_300 : mCv RX10 300 mdX2_breaksAny 1 := ⟨mW_at 885 (by decide +kernel) (by decide), wmX2_breaksAny, wlX2_breaksAny, wcX2_breaksAny, wiRX2, ⟨by decide, by decide, by decide +kernel⟩⟩
theorem cvX10_304 : mCv RX10 304 mdX6_heldOn 3 := ⟨mW_at 367 (by decide +kernel) (by decide), wmX6_heldOn, wlX6_heldOn, wcX6_heldOn, wiRX6, ⟨by decide, by decide, by decide +kernel⟩⟩
theorem cvX10_308 : mCv RX10 308 mdX6_spanOver 2 := ⟨mW_at 375 (by decide +kernel) (by decide), wmX6_spanOver, wlX6_spanOver, wcX6_spanOver, wiRX6, ⟨by decide, by decide, by decide +kernel⟩⟩
theorem lkX10_311 : Cond.methodLink RX10 311 Lib.Math.min.name ∈ mW := mW_at 700 (by decide +kernel) (by decide)
theorem cvX10_316 : mCv RX10 316 mdX2_penceOfBroken 1 := ⟨mW_at 703 (by decide +kernel) (by decide), wmX2_penceOfBroken, wlX2_penceOfBroken, wcX2_penceOfBroken, wiRX2, ⟨by decide, by decide, by decide +kernel⟩⟩
theorem cvX10_320 : mCv RX10 320 mdX4_isOfSameCase 1 := ⟨mW_at 797 (by decide +kernel) (by decide), wmX4_isOfSameCase, wlX4_isOfSameCase, wcX4_isOfSameCase, wiRX4, ⟨by decide, by decide, by decide +kernel⟩⟩
theorem cvX10_323 : mCv RX10 323 mdX2_partOn 1 := ⟨mW_at 805 (by decide +kernel) (by decide), wmX2_partOn, wlX2_partOn, wcX2_partOn, wiRX2, ⟨by decide, by decide, by decide +kernel⟩⟩
theorem cvX10_328 : mCv RX10 328 mdX2_bound 2 := ⟨mW_at 834 (by decide +kernel) (by decide), wmX2_bound, wlX2_bound, wcX2_bound, wiRX2, ⟨by decide, by decide, by decide +kernel⟩⟩
theorem cvX10_332 : mCv RX10 332 mdX10_stuffChange 0 := ⟨mW_at 856 (by decide +kernel) (by decide), wmX10_stuffChange, wlX10_stuffChange, wcX10_stuffChange, wiRX10, ⟨by decide, by decide, by decide +kernel⟩⟩
theorem cvX10_335 : mCv RX10 335 mdX10_colourChange 0 := ⟨mW_at 864 (by decide +kernel) (by decide), wmX10_colourChange, wlX10_colourChange, wcX10_colourChange, wiRX10, ⟨by decide, by decide, by decide +kernel⟩⟩
theorem cvX10_341 : mCv RX10 341 mdX1_limitOf 1 := ⟨mW_at 872 (by decide +kernel) (by decide), wmX1_limitOf, wlX1_limitOf, wcX1_limitOf, wiRX1, ⟨by decide, by decide, by decide +kernel⟩⟩
theorem lkX10_344 : Cond.methodLink RX10 344 Lib.Math.max.name ∈ mW := mW_at 876 (by decide +kernel) (by decide)
theorem cvX10_350 : mCv RX10 350 mdX1_leavesStuff 1 := ⟨mW_at 860 (by decide +kernel) (by decide), wmX1_leavesStuff, wlX1_leavesStuff, wcX1_leavesStuff, wiRX1, ⟨by decide, by decide, by decide +kernel⟩⟩
theorem cvX10_354 : mCv RX10 354 mdX1_leavesColour 1 := ⟨mW_at 868 (by decide +kernel) (by decide), wmX1_leavesColour, wlX1_leavesColour, wcX1_leavesColour, wiRX1, ⟨by decide, by decide, by decide +kernel⟩⟩
theorem lkX0_3 : Cond.methodLink RX0 3 Lib.objectInit ∈ mW := mW_at 55 (by decide +kernel) (by decide)
theorem lkX0_33 : Cond.methodLink RX0 33 Lib.Math.max.name ∈ mW := mW_at 665 (by decide +kernel) (by decide)
theorem cvX0_53 : mCv RX0 53 mdX0_sealDays 0 := ⟨mW_at 716 (by decide +kernel) (by decide), wmX0_sealDays, wlX0_sealDays, wcX0_sealDays, wiRX0, ⟨by decide, by decide, by decide +kernel⟩⟩
theorem cvX0_57 : mCv RX0 57 mdX0_findRule 1 := ⟨mW_at 725 (by decide +kernel) (by decide), wmX0_findRule, wlX0_findRule, wcX0_findRule, wiRX0, ⟨by decide, by decide, by decide +kernel⟩⟩
theorem cvX0_61 : mCv RX0 61 mdX7_concerns 1 := ⟨mW_at 726 (by decide +kernel) (by decide), wmX7_concerns, wlX7_concerns, wcX7_concerns, wiRX7, ⟨by decide, by decide, by decide +kernel⟩⟩
theorem cvX0_65 : mCv RX0 65 mdX7_isOffended 1 := ⟨mW_at 730 (by decide +kernel) (by decide), wmX7_isOffended, wlX7_isOffended, wcX7_isOffended, wiRX7, ⟨by decide, by decide, by decide +kernel⟩⟩
theorem cvX0_71 : mCv RX0 71 mdX1_narrow 1 := ⟨mW_at 847 (by decide +kernel) (by decide), wmX1_narrow, wlX1_narrow, wcX1_narrow, wiRX1, ⟨by decide, by decide, by decide +kernel⟩⟩
theorem lkX1_3 : Cond.methodLink RX1 3 Lib.objectInit ∈ mW := mW_at 234 (by decide +kernel) (by decide)
theorem cvX1_22 : mCs RX1 22 mdJ7_fill_53178 2 := ⟨mW_at 842 (by decide +kernel) (by decide), wtJ7_fill_53178, wcJ7_fill_53178, wiRJ7, ⟨by decide, by decide, by decide +kernel⟩⟩
theorem cvX1_36 : mCv RX1 36 mdX1_lower 2 := ⟨mW_at 851 (by decide +kernel) (by decide), wmX1_lower, wlX1_lower, wcX1_lower, wiRX1, ⟨by decide, by decide, by decide +kernel⟩⟩
theorem lkX1_40 : Cond.methodLink RX1 40 Lib.Math.min.name ∈ mW := mW_at 855 (by decide +kernel) (by decide)
theorem lkX2_3 : Cond.methodLink RX2 3 Lib.objectInit ∈ mW := mW_at 139 (by decide +kernel) (by decide)
theorem cvX2_21 : mCv RX2 21 mdX2_find 1 := ⟨mW_at 429 (by decide +kernel) (by decide), wmX2_find, wlX2_find, wcX2_find, wiRX2, ⟨by decide, by decide, by decide +kernel⟩⟩
theorem cvX2_31 : mCv RX2 31 mdX2_inForce 1 := ⟨mW_at 711 (by decide +kernel) (by decide), wmX2_inForce, wlX2_inForce, wcX2_inForce, wiRX2, ⟨by decide, by decide, by decide +kernel⟩⟩
theorem cvX2_35 : mCv RX2 35 mdX2_among 2 := ⟨mW_at 717 (by decide +kernel) (by decide), wmX2_among, wlX2_among, wcX2_among, wiRX2, ⟨by decide, by decide, by decide +kernel⟩⟩
theorem cvX2_47 : mCv RX2 47 mdX0_lets 1 := ⟨mW_at 712 (by decide +kernel) (by decide), wmX0_lets, wlX0_lets, wcX0_lets, wiRX0, ⟨by decide, by decide, by decide +kernel⟩⟩
theorem cvX2_51 : mCv RX2 51 mdX2_reaching 1 := ⟨mW_at 707 (by decide +kernel) (by decide), wmX2_reaching, wlX2_reaching, wcX2_reaching, wiRX2, ⟨by decide, by decide, by decide +kernel⟩⟩
theorem cvX2_55 : mCv RX2 55 mdX0_brokenBits 1 := ⟨mW_at 721 (by decide +kernel) (by decide), wmX0_brokenBits, wlX0_brokenBits, wcX0_brokenBits, wiRX0, ⟨by decide, by decide, by decide +kernel⟩⟩
theorem cvX2_58 : mCv RX2 58 mdX0_penceOf 1 := ⟨mW_at 735 (by decide +kernel) (by decide), wmX0_penceOf, wlX0_penceOf, wcX0_penceOf, wiRX0, ⟨by decide, by decide, by decide +kernel⟩⟩
theorem cvX2_61 : mCv RX2 61 mdX1_open 0 := ⟨mW_at 838 (by decide +kernel) (by decide), wmX1_open, wlX1_open, wcX1_open, wiRX1, ⟨by decide, by decide, by decide +kernel⟩⟩
theorem cvX2_66 : mCv RX2 66 mdX0_narrow 2 := ⟨mW_at 843 (by decide +kernel) (by decide), wmX0_narrow, wlX0_narrow, wcX0_narrow, wiRX0, ⟨by decide, by decide, by decide +kernel⟩⟩
theorem lkX3_3 : Cond.methodLink RX3 3 Lib.objectInit ∈ mW := mW_at 184 (by decide +kernel) (by decide)
theorem lkX4_3 : Cond.methodLink RX4 3 Lib.objectInit ∈ mW := mW_at 755 (by decide +kernel) (by decide)
theorem lkX5_3 : Cond.methodLink RX5 3 Lib.objectInit ∈ mW := mW_at 49 (by decide +kernel) (by decide)
theorem cvX5_11 : mCi RX5 11 mdX0_init 0 := ⟨Or.inr ⟨"GownCourt", mN_at 52 (by decide +kernel) (by decide)⟩, wmX0_init, wcX0_init, wiRX0, ⟨by decide, by decide, by decide +kernel⟩, rfl, rfl⟩
theorem cvX5_62 : mCv RX5 62 mdX0_wipe 0 := ⟨mW_at 441 (by decide +kernel) (by decide), wmX0_wipe, wlX0_wipe, wcX0_wipe, wiRX0, ⟨by decide, by decide, by decide +kernel⟩⟩
theorem cvX5_65 : mCv RX5 65 mdX5_scan 0 := ⟨mW_at 445 (by decide +kernel) (by decide), wmX5_scan, wlX5_scan, wcX5_scan, wiRX5, ⟨by decide, by decide, by decide +kernel⟩⟩
theorem cvX5_68 : mCv RX5 68 mdX5_step 0 := ⟨mW_at 471 (by decide +kernel) (by decide), wmX5_step, wlX5_step, wcX5_step, wiRX5, ⟨by decide, by decide, by decide +kernel⟩⟩
theorem cvX5_71 : mCv RX5 71 mdX8_size 0 := ⟨mW_at 449 (by decide +kernel) (by decide), wmX8_size, wlX8_size, wcX8_size, wiRX8, ⟨by decide, by decide, by decide +kernel⟩⟩
theorem cvX5_77 : mCv RX5 77 mdX8_byteAt 1 := ⟨mW_at 450 (by decide +kernel) (by decide), wmX8_byteAt, wlX8_byteAt, wcX8_byteAt, wiRX8, ⟨by decide, by decide, by decide +kernel⟩⟩
theorem cvX5_81 : mCs RX5 81 mdX5_isBlank 1 := ⟨mW_at 454 (by decide +kernel) (by decide), wtX5_isBlank, wcX5_isBlank, wiRX5, ⟨by decide, by decide, by decide +kernel⟩⟩
theorem cvX5_85 : mCs RX5 85 mdX5_isLetter 1 := ⟨mW_at 457 (by decide +kernel) (by decide), wtX5_isLetter, wcX5_isLetter, wiRX5, ⟨by decide, by decide, by decide +kernel⟩⟩
theorem cvX5_88 : mCv RX5 88 mdX5_scanWord 0 := ⟨mW_at 460 (by decide +kernel) (by decide), wmX5_scanWord, wlX5_scanWord, wcX5_scanWord, wiRX5, ⟨by decide, by decide, by decide +kernel⟩⟩
theorem cvX5_91 : mCs RX5 91 mdX5_isDigit 1 := ⟨mW_at 464 (by decide +kernel) (by decide), wtX5_isDigit, wcX5_isDigit, wiRX5, ⟨by decide, by decide, by decide +kernel⟩⟩
theorem cvX5_94 : mCv RX5 94 mdX5_scanNumber 0 := ⟨mW_at 467 (by decide +kernel) (by decide), wmX5_scanNumber, wlX5_scanNumber, wcX5_scanNumber, wiRX5, ⟨by decide, by decide, by decide +kernel⟩⟩
theorem cvX5_97 : mCv RX5 97 mdX5_startLine 0 := ⟨mW_at 475 (by decide +kernel) (by decide), wmX5_startLine, wlX5_startLine, wcX5_startLine, wiRX5, ⟨by decide, by decide, by decide +kernel⟩⟩
theorem cvX5_100 : mCv RX5 100 mdX5_topLimit 0 := ⟨mW_at 554 (by decide +kernel) (by decide), wmX5_topLimit, wlX5_topLimit, wcX5_topLimit, wiRX5, ⟨by decide, by decide, by decide +kernel⟩⟩
theorem cvX5_103 : mCv RX5 103 mdX5_takeNumber 3 := ⟨mW_at 558 (by decide +kernel) (by decide), wmX5_takeNumber, wlX5_takeNumber, wcX5_takeNumber, wiRX5, ⟨by decide, by decide, by decide +kernel⟩⟩
theorem cvX5_107 : mCv RX5 107 mdX5_readWho 0 := ⟨mW_at 562 (by decide +kernel) (by decide), wmX5_readWho, wlX5_readWho, wcX5_readWho, wiRX5, ⟨by decide, by decide, by decide +kernel⟩⟩
theorem cvX5_112 : mCv RX5 112 mdX5_takeWord 2 := ⟨mW_at 568 (by decide +kernel) (by decide), wmX5_takeWord, wlX5_takeWord, wcX5_takeWord, wiRX5, ⟨by decide, by decide, by decide +kernel⟩⟩
theorem cvX5_116 : mCv RX5 116 mdX5_readWhen 0 := ⟨mW_at 573 (by decide +kernel) (by decide), wmX5_readWhen, wlX5_readWhen, wcX5_readWhen, wiRX5, ⟨by decide, by decide, by decide +kernel⟩⟩
theorem cvX5_121 : mCv RX5 121 mdX5_finishRule 1 := ⟨mW_at 586 (by decide +kernel) (by decide), wmX5_finishRule, wlX5_finishRule, wcX5_finishRule, wiRX5, ⟨by decide, by decide, by decide +kernel⟩⟩
theorem cvX5_125 : mCv RX5 125 mdX5_readRepeal 0 := ⟨mW_at 628 (by decide +kernel) (by decide), wmX5_readRepeal, wlX5_readRepeal, wcX5_readRepeal, wiRX5, ⟨by decide, by decide, by decide +kernel⟩⟩
theorem cvX5_134 : mCv RX5 134 mdX5_endLine 0 := ⟨mW_at 632 (by decide +kernel) (by decide), wmX5_endLine, wlX5_endLine, wcX5_endLine, wiRX5, ⟨by decide, by decide, by decide +kernel⟩⟩
theorem cvX5_137 : mCv RX5 137 mdX5_ruleKind 0 := ⟨mW_at 479 (by decide +kernel) (by decide), wmX5_ruleKind, wlX5_ruleKind, wcX5_ruleKind, wiRX5, ⟨by decide, by decide, by decide +kernel⟩⟩
theorem cvX5_143 : mCv RX5 143 mdX5_goOn 2 := ⟨mW_at 543 (by decide +kernel) (by decide), wmX5_goOn, wlX5_goOn, wcX5_goOn, wiRX5, ⟨by decide, by decide, by decide +kernel⟩⟩
theorem cvX5_149 : mCv RX5 149 mdX5_isWord 1 := ⟨mW_at 484 (by decide +kernel) (by decide), wmX5_isWord, wlX5_isWord, wcX5_isWord, wiRX5, ⟨by decide, by decide, by decide +kernel⟩⟩
theorem cvX5_155 : mCv RX5 155 mdX5_blame 1 := ⟨mW_at 547 (by decide +kernel) (by decide), wmX5_blame, wlX5_blame, wcX5_blame, wiRX5, ⟨by decide, by decide, by decide +kernel⟩⟩
theorem cvX5_178 : mCv RX5 178 mdX5_whenWord 0 := ⟨mW_at 577 (by decide +kernel) (by decide), wmX5_whenWord, wlX5_whenWord, wcX5_whenWord, wiRX5, ⟨by decide, by decide, by decide +kernel⟩⟩
theorem cvX5_191 : mCi RX5 191 mdX7_init 6 := ⟨Or.inl (mW_at 592 (by decide +kernel) (by decide)), wmX7_init, wcX7_init, wiRX7, ⟨by decide, by decide, by decide +kernel⟩, rfl, rfl⟩
theorem cvX5_194 : mCv RX5 194 mdX0_add 1 := ⟨mW_at 624 (by decide +kernel) (by decide), wmX0_add, wlX0_add, wcX0_add, wiRX0, ⟨by decide, by decide, by decide +kernel⟩⟩
theorem cvX5_201 : mCv RX5 201 mdJ0_length_8abf5 0 := ⟨mW_at 488 (by decide +kernel) (by decide), wmJ0_length_8abf5, wlJ0_length_8abf5, wcJ0_length_8abf5, wiRJ0, ⟨by decide, by decide, by decide +kernel⟩⟩
theorem cvX5_206 : mCv RX5 206 mdJ0_charAt_5068e 1 := ⟨mW_at 498 (by decide +kernel) (by decide), wmJ0_charAt_5068e, wlJ0_charAt_5068e, wcJ0_charAt_5068e, wiRJ0, ⟨by decide, by decide, by decide +kernel⟩⟩
theorem lkX6_3 : Cond.methodLink RX6 3 Lib.objectInit ∈ mW := mW_at 154 (by decide +kernel) (by decide)
theorem lkX7_3 : Cond.methodLink RX7 3 Lib.objectInit ∈ mW := mW_at 595 (by decide +kernel) (by decide)
theorem cvX7_50 : mCv RX7 50 mdX3_measure 1 := ⟨mW_at 734 (by decide +kernel) (by decide), wmX3_measure, wlX3_measure, wcX3_measure, wiRX3, ⟨by decide, by decide, by decide +kernel⟩⟩
theorem lkX8_3 : Cond.methodLink RX8 3 Lib.objectInit ∈ mW := mW_at 35 (by decide +kernel) (by decide)
theorem lkX9_3 : Cond.methodLink RX9 3 Lib.objectInit ∈ mW := mW_at 178 (by decide +kernel) (by decide)
theorem cvX9_20 : mCi RX9 20 mdX3_init 7 := ⟨Or.inl (mW_at 181 (by decide +kernel) (by decide)), wmX3_init, wcX3_init, wiRX3, ⟨by decide, by decide, by decide +kernel⟩, rfl, rfl⟩
theorem cvL_9 : mCi RL 9 mdX10_init 0 := ⟨Or.inl (mW_at 24 (by decide +kernel) (by decide)), wmX10_init, wcX10_init, wiRX10, ⟨by decide, by decide, by decide +kernel⟩, rfl, rfl⟩
theorem cvL_12 : mCi RL 12 mdX12_init 0 := ⟨Or.inl (mW_at 895 (by decide +kernel) (by decide)), wmX12_init, wcX12_init, wiRX12, ⟨by decide, by decide, by decide +kernel⟩, rfl, rfl⟩
theorem cvL_13 : mCv RL 13 mdX10_feed 5 := ⟨mW_at 303 (by decide +kernel) (by decide), wmX10_feed, wlX10_feed, wcX10_feed, wiRX10, ⟨by decide, by decide, by decide +kernel⟩⟩
theorem cvL_17 : mCv RL 17 mdX12_feed 5 := ⟨mW_at 1130 (by decide +kernel) (by decide), wmX12_feed, wlX12_feed, wcX12_feed, wiRX12, ⟨by decide, by decide, by decide +kernel⟩⟩
theorem cvL_18 : mCv RL 18 mdX10_end 1 := ⟨mW_at 315 (by decide +kernel) (by decide), wmX10_end, wlX10_end, wcX10_end, wiRX10, ⟨by decide, by decide, by decide +kernel⟩⟩
theorem cvL_22 : mCv RL 22 mdX12_end 1 := ⟨mW_at 1138 (by decide +kernel) (by decide), wmX12_end, wlX12_end, wcX12_end, wiRX12, ⟨by decide, by decide, by decide +kernel⟩⟩
theorem cvL_23 : mCv RL 23 mdX10_rank 3 := ⟨mW_at 323 (by decide +kernel) (by decide), wmX10_rank, wlX10_rank, wcX10_rank, wiRX10, ⟨by decide, by decide, by decide +kernel⟩⟩
theorem cvL_27 : mCv RL 27 mdX12_rank 3 := ⟨mW_at 1244 (by decide +kernel) (by decide), wmX12_rank, wlX12_rank, wcX12_rank, wiRX12, ⟨by decide, by decide, by decide +kernel⟩⟩
theorem cvL_28 : mCv RL 28 mdX10_feast 2 := ⟨mW_at 344 (by decide +kernel) (by decide), wmX10_feast, wlX10_feast, wcX10_feast, wiRX10, ⟨by decide, by decide, by decide +kernel⟩⟩
theorem cvL_32 : mCv RL 32 mdX12_feast 2 := ⟨mW_at 1253 (by decide +kernel) (by decide), wmX12_feast, wlX12_feast, wcX12_feast, wiRX12, ⟨by decide, by decide, by decide +kernel⟩⟩
theorem cvL_33 : mCv RL 33 mdX10_wedding 3 := ⟨mW_at 355 (by decide +kernel) (by decide), wmX10_wedding, wlX10_wedding, wcX10_wedding, wiRX10, ⟨by decide, by decide, by decide +kernel⟩⟩
theorem cvL_36 : mCv RL 36 mdX12_wedding 3 := ⟨mW_at 1260 (by decide +kernel) (by decide), wmX12_wedding, wlX12_wedding, wcX12_wedding, wiRX12, ⟨by decide, by decide, by decide +kernel⟩⟩
theorem cvL_37 : mCv RL 37 mdX10_on 3 := ⟨mW_at 359 (by decide +kernel) (by decide), wmX10_on, wlX10_on, wcX10_on, wiRX10, ⟨by decide, by decide, by decide +kernel⟩⟩
theorem cvL_40 : mCv RL 40 mdX12_on 3 := ⟨mW_at 1264 (by decide +kernel) (by decide), wmX12_on, wlX12_on, wcX12_on, wiRX12, ⟨by decide, by decide, by decide +kernel⟩⟩
theorem cvL_41 : mCv RL 41 mdX10_gown 7 := ⟨mW_at 379 (by decide +kernel) (by decide), wmX10_gown, wlX10_gown, wcX10_gown, wiRX10, ⟨by decide, by decide, by decide +kernel⟩⟩
theorem cvL_45 : mCv RL 45 mdX12_gown 7 := ⟨mW_at 1276 (by decide +kernel) (by decide), wmX12_gown, wlX12_gown, wcX12_gown, wiRX12, ⟨by decide, by decide, by decide +kernel⟩⟩
theorem cvL_46 : mCv RL 46 mdX10_seal 2 := ⟨mW_at 393 (by decide +kernel) (by decide), wmX10_seal, wlX10_seal, wcX10_seal, wiRX10, ⟨by decide, by decide, by decide +kernel⟩⟩
theorem cvL_49 : mCv RL 49 mdX12_seal 2 := ⟨mW_at 1282 (by decide +kernel) (by decide), wmX12_seal, wlX12_seal, wcX12_seal, wiRX12, ⟨by decide, by decide, by decide +kernel⟩⟩
theorem cvL_50 : mCv RL 50 mdX10_about 2 := ⟨mW_at 401 (by decide +kernel) (by decide), wmX10_about, wlX10_about, wcX10_about, wiRX10, ⟨by decide, by decide, by decide +kernel⟩⟩
theorem cvL_53 : mCv RL 53 mdX12_about 2 := ⟨mW_at 1290 (by decide +kernel) (by decide), wmX12_about, wlX12_about, wcX12_about, wiRX12, ⟨by decide, by decide, by decide +kernel⟩⟩
theorem cvL_54 : mCv RL 54 mdX10_like 3 := ⟨mW_at 409 (by decide +kernel) (by decide), wmX10_like, wlX10_like, wcX10_like, wiRX10, ⟨by decide, by decide, by decide +kernel⟩⟩
theorem cvL_57 : mCv RL 57 mdX12_like 3 := ⟨mW_at 1295 (by decide +kernel) (by decide), wmX12_like, wlX12_like, wcX12_like, wiRX12, ⟨by decide, by decide, by decide +kernel⟩⟩
theorem cvL_58 : mCv RL 58 mdX10_counts 2 := ⟨mW_at 413 (by decide +kernel) (by decide), wmX10_counts, wlX10_counts, wcX10_counts, wiRX10, ⟨by decide, by decide, by decide +kernel⟩⟩
theorem cvL_61 : mCv RL 61 mdX12_counts 2 := ⟨mW_at 1302 (by decide +kernel) (by decide), wmX12_counts, wlX12_counts, wcX12_counts, wiRX12, ⟨by decide, by decide, by decide +kernel⟩⟩
theorem cvL_62 : mCv RL 62 mdX10_act 1 := ⟨mW_at 421 (by decide +kernel) (by decide), wmX10_act, wlX10_act, wcX10_act, wiRX10, ⟨by decide, by decide, by decide +kernel⟩⟩
theorem cvL_66 : mCv RL 66 mdX10_fault 1 := ⟨mW_at 648 (by decide +kernel) (by decide), wmX10_fault, wlX10_fault, wcX10_fault, wiRX10, ⟨by decide, by decide, by decide +kernel⟩⟩
theorem cvL_69 : mCv RL 69 mdX12_fault 1 := ⟨mW_at 1220 (by decide +kernel) (by decide), wmX12_fault, wlX12_fault, wcX12_fault, wiRX12, ⟨by decide, by decide, by decide +kernel⟩⟩
theorem cvL_70 : mCv RL 70 mdX10_told 2 := ⟨mW_at 656 (by decide +kernel) (by decide), wmX10_told, wlX10_told, wcX10_told, wiRX10, ⟨by decide, by decide, by decide +kernel⟩⟩
theorem cvL_73 : mCv RL 73 mdX12_told 2 := ⟨mW_at 1224 (by decide +kernel) (by decide), wmX12_told, wlX12_told, wcX12_told, wiRX12, ⟨by decide, by decide, by decide +kernel⟩⟩
theorem cvL_74 : mCv RL 74 mdX10_rule 3 := ⟨mW_at 668 (by decide +kernel) (by decide), wmX10_rule, wlX10_rule, wcX10_rule, wiRX10, ⟨by decide, by decide, by decide +kernel⟩⟩
theorem cvL_77 : mCv RL 77 mdX12_rule 3 := ⟨mW_at 1232 (by decide +kernel) (by decide), wmX12_rule, wlX12_rule, wcX12_rule, wiRX12, ⟨by decide, by decide, by decide +kernel⟩⟩
theorem cvL_78 : mCv RL 78 mdX10_force 1 := ⟨mW_at 676 (by decide +kernel) (by decide), wmX10_force, wlX10_force, wcX10_force, wiRX10, ⟨by decide, by decide, by decide +kernel⟩⟩
theorem cvL_81 : mCv RL 81 mdX12_force 1 := ⟨mW_at 1236 (by decide +kernel) (by decide), wmX12_force, wlX12_force, wcX12_force, wiRX12, ⟨by decide, by decide, by decide +kernel⟩⟩
theorem cvL_82 : mCv RL 82 mdX10_fine 3 := ⟨mW_at 684 (by decide +kernel) (by decide), wmX10_fine, wlX10_fine, wcX10_fine, wiRX10, ⟨by decide, by decide, by decide +kernel⟩⟩
theorem cvL_85 : mCv RL 85 mdX12_fine 3 := ⟨mW_at 1310 (by decide +kernel) (by decide), wmX12_fine, wlX12_fine, wcX12_fine, wiRX12, ⟨by decide, by decide, by decide +kernel⟩⟩
theorem cvL_86 : mCv RL 86 mdX10_broken 4 := ⟨mW_at 739 (by decide +kernel) (by decide), wmX10_broken, wlX10_broken, wcX10_broken, wiRX10, ⟨by decide, by decide, by decide +kernel⟩⟩
theorem cvL_90 : mCv RL 90 mdX12_broken 4 := ⟨mW_at 1335 (by decide +kernel) (by decide), wmX12_broken, wlX12_broken, wcX12_broken, wiRX12, ⟨by decide, by decide, by decide +kernel⟩⟩
theorem cvL_91 : mCv RL 91 mdX10_letter 4 := ⟨mW_at 747 (by decide +kernel) (by decide), wmX10_letter, wlX10_letter, wcX10_letter, wiRX10, ⟨by decide, by decide, by decide +kernel⟩⟩
theorem cvL_94 : mCv RL 94 mdX12_letter 4 := ⟨mW_at 1339 (by decide +kernel) (by decide), wmX12_letter, wlX12_letter, wcX12_letter, wiRX12, ⟨by decide, by decide, by decide +kernel⟩⟩
theorem cvL_95 : mCv RL 95 mdX10_judge 1 := ⟨mW_at 785 (by decide +kernel) (by decide), wmX10_judge, wlX10_judge, wcX10_judge, wiRX10, ⟨by decide, by decide, by decide +kernel⟩⟩
theorem cvL_98 : mCv RL 98 mdX12_judge 1 := ⟨mW_at 1343 (by decide +kernel) (by decide), wmX12_judge, wlX12_judge, wcX12_judge, wiRX12, ⟨by decide, by decide, by decide +kernel⟩⟩
theorem cvL_99 : mCv RL 99 mdX10_lettered 2 := ⟨mW_at 814 (by decide +kernel) (by decide), wmX10_lettered, wlX10_lettered, wcX10_lettered, wiRX10, ⟨by decide, by decide, by decide +kernel⟩⟩
theorem cvL_102 : mCv RL 102 mdX12_lettered 2 := ⟨mW_at 1356 (by decide +kernel) (by decide), wmX12_lettered, wlX12_lettered, wcX12_lettered, wiRX12, ⟨by decide, by decide, by decide +kernel⟩⟩
theorem cvL_103 : mCv RL 103 mdX10_person 2 := ⟨mW_at 818 (by decide +kernel) (by decide), wmX10_person, wlX10_person, wcX10_person, wiRX10, ⟨by decide, by decide, by decide +kernel⟩⟩
theorem cvL_106 : mCv RL 106 mdX12_person 2 := ⟨mW_at 1360 (by decide +kernel) (by decide), wmX12_person, wlX12_person, wcX12_person, wiRX12, ⟨by decide, by decide, by decide +kernel⟩⟩
theorem cvL_107 : mCv RL 107 mdX10_price 2 := ⟨mW_at 822 (by decide +kernel) (by decide), wmX10_price, wlX10_price, wcX10_price, wiRX10, ⟨by decide, by decide, by decide +kernel⟩⟩
theorem cvL_110 : mCv RL 110 mdX12_price 2 := ⟨mW_at 1365 (by decide +kernel) (by decide), wmX12_price, wlX12_price, wcX12_price, wiRX12, ⟨by decide, by decide, by decide +kernel⟩⟩
theorem cvL_111 : mCv RL 111 mdX10_alter 3 := ⟨mW_at 826 (by decide +kernel) (by decide), wmX10_alter, wlX10_alter, wcX10_alter, wiRX10, ⟨by decide, by decide, by decide +kernel⟩⟩
theorem cvL_114 : mCv RL 114 mdX12_alter 3 := ⟨mW_at 1371 (by decide +kernel) (by decide), wmX12_alter, wlX12_alter, wcX12_alter, wiRX12, ⟨by decide, by decide, by decide +kernel⟩⟩
theorem cvL_115 : mCv RL 115 mdX10_best 3 := ⟨mW_at 877 (by decide +kernel) (by decide), wmX10_best, wlX10_best, wcX10_best, wiRX10, ⟨by decide, by decide, by decide +kernel⟩⟩
theorem cvL_118 : mCv RL 118 mdX12_best 3 := ⟨mW_at 1384 (by decide +kernel) (by decide), wmX12_best, wlX12_best, wcX12_best, wiRX12, ⟨by decide, by decide, by decide +kernel⟩⟩
theorem cvL_119 : mCv RL 119 mdX10_worn 5 := ⟨mW_at 881 (by decide +kernel) (by decide), wmX10_worn, wlX10_worn, wcX10_worn, wiRX10, ⟨by decide, by decide, by decide +kernel⟩⟩
theorem cvL_122 : mCv RL 122 mdX12_worn 5 := ⟨mW_at 1388 (by decide +kernel) (by decide), wmX12_worn, wlX12_worn, wcX12_worn, wiRX12, ⟨by decide, by decide, by decide +kernel⟩⟩
theorem cvL_123 : mCv RL 123 mdX10_count 1 := ⟨mW_at 889 (by decide +kernel) (by decide), wmX10_count, wlX10_count, wcX10_count, wiRX10, ⟨by decide, by decide, by decide +kernel⟩⟩
theorem cvL_126 : mCv RL 126 mdX12_count 1 := ⟨mW_at 1392 (by decide +kernel) (by decide), wmX12_count, wlX12_count, wcX12_count, wiRX12, ⟨by decide, by decide, by decide +kernel⟩⟩
theorem cvX12_5 : mCs RX12 5 mdX12_in 3 := ⟨mW_at 1142 (by decide +kernel) (by decide), wtX12_in, wcX12_in, wiRX12, ⟨by decide, by decide, by decide +kernel⟩⟩
theorem cvX12_33 : mCv RX12 33 mdX12_byteAt 1 := ⟨mW_at 1157 (by decide +kernel) (by decide), wmX12_byteAt, wlX12_byteAt, wcX12_byteAt, wiRX12, ⟨by decide, by decide, by decide +kernel⟩⟩
theorem cvX12_40 : mCs RX12 40 mdX12_isLetter 1 := ⟨mW_at 1161 (by decide +kernel) (by decide), wtX12_isLetter, wcX12_isLetter, wiRX12, ⟨by decide, by decide, by decide +kernel⟩⟩
theorem cvX12_44 : mCs RX12 44 mdX12_isDigit 1 := ⟨mW_at 1164 (by decide +kernel) (by decide), wtX12_isDigit, wcX12_isDigit, wiRX12, ⟨by decide, by decide, by decide +kernel⟩⟩
theorem cvX12_50 : mCv RX12 50 mdJ0_length_8abf5 0 := ⟨mW_at 1180 (by decide +kernel) (by decide), wmJ0_length_8abf5, wlJ0_length_8abf5, wcJ0_length_8abf5, wiRJ0, ⟨by decide, by decide, by decide +kernel⟩⟩
theorem cvX12_56 : mCv RX12 56 mdJ0_charAt_5068e 1 := ⟨mW_at 1181 (by decide +kernel) (by decide), wmJ0_charAt_5068e, wlJ0_charAt_5068e, wcJ0_charAt_5068e, wiRJ0, ⟨by decide, by decide, by decide +kernel⟩⟩
theorem cvX12_60 : mCv RX12 60 mdX12_is 1 := ⟨mW_at 1176 (by decide +kernel) (by decide), wmX12_is, wlX12_is, wcX12_is, wiRX12, ⟨by decide, by decide, by decide +kernel⟩⟩
theorem cvX12_64 : mCv RX12 64 mdX12_wrong 1 := ⟨mW_at 1193 (by decide +kernel) (by decide), wmX12_wrong, wlX12_wrong, wcX12_wrong, wiRX12, ⟨by decide, by decide, by decide +kernel⟩⟩
theorem cvX12_68 : mCv RX12 68 mdX12_scan 0 := ⟨mW_at 1153 (by decide +kernel) (by decide), wmX12_scan, wlX12_scan, wcX12_scan, wiRX12, ⟨by decide, by decide, by decide +kernel⟩⟩
theorem cvX12_105 : mCv RX12 105 mdX12_kindAtHand 0 := ⟨mW_at 1171 (by decide +kernel) (by decide), wmX12_kindAtHand, wlX12_kindAtHand, wcX12_kindAtHand, wiRX12, ⟨by decide, by decide, by decide +kernel⟩⟩
theorem cvX12_108 : mCv RX12 108 mdX12_readRule 2 := ⟨mW_at 1189 (by decide +kernel) (by decide), wmX12_readRule, wlX12_readRule, wcX12_readRule, wiRX12, ⟨by decide, by decide, by decide +kernel⟩⟩
theorem cvX12_112 : mCv RX12 112 mdX12_readOther 1 := ⟨mW_at 1213 (by decide +kernel) (by decide), wmX12_readOther, wlX12_readOther, wcX12_readOther, wiRX12, ⟨by decide, by decide, by decide +kernel⟩⟩
theorem cvX12_121 : mCv RX12 121 mdX12_number 2 := ⟨mW_at 1197 (by decide +kernel) (by decide), wmX12_number, wlX12_number, wcX12_number, wiRX12, ⟨by decide, by decide, by decide +kernel⟩⟩
theorem cvX12_142 : mCv RX12 142 mdX12_need 1 := ⟨mW_at 1203 (by decide +kernel) (by decide), wmX12_need, wlX12_need, wcX12_need, wiRX12, ⟨by decide, by decide, by decide +kernel⟩⟩
theorem lkX12_163 : Cond.methodLink RX12 163 Lib.objectInit ∈ mW := mW_at 898 (by decide +kernel) (by decide)
theorem cvX12_173 : mCi RX12 173 mdX11_init 0 := ⟨Or.inl (mW_at 936 (by decide +kernel) (by decide)), wmX11_init, wcX11_init, wiRX11, ⟨by decide, by decide, by decide +kernel⟩, rfl, rfl⟩
theorem cvX12_256 : mCv RX12 256 mdX12_lay 1 := ⟨mW_at 1134 (by decide +kernel) (by decide), wmX12_lay, wlX12_lay, wcX12_lay, wiRX12, ⟨by decide, by decide, by decide +kernel⟩⟩
theorem cvX12_259 : mCs RX12 259 mdX12_isDay 1 := ⟨mW_at 1149 (by decide +kernel) (by decide), wtX12_isDay, wcX12_isDay, wiRX12, ⟨by decide, by decide, by decide +kernel⟩⟩
theorem cvX12_262 : mCv RX12 262 mdX12_readAct 1 := ⟨mW_at 1167 (by decide +kernel) (by decide), wmX12_readAct, wlX12_readAct, wcX12_readAct, wiRX12, ⟨by decide, by decide, by decide +kernel⟩⟩
theorem cvX12_265 : mCv RX12 265 mdX12_isAct 1 := ⟨mW_at 1228 (by decide +kernel) (by decide), wmX12_isAct, wlX12_isAct, wcX12_isAct, wiRX12, ⟨by decide, by decide, by decide +kernel⟩⟩
theorem cvX12_268 : mCv RX12 268 mdX12_isInForce 2 := ⟨mW_at 1240 (by decide +kernel) (by decide), wmX12_isInForce, wlX12_isInForce, wcX12_isInForce, wiRX12, ⟨by decide, by decide, by decide +kernel⟩⟩
theorem cvX12_274 : mCs RX12 274 mdX12_isPerson 1 := ⟨mW_at 1248 (by decide +kernel) (by decide), wtX12_isPerson, wcX12_isPerson, wiRX12, ⟨by decide, by decide, by decide +kernel⟩⟩
theorem cvX12_279 : mCs RX12 279 mdX12_areDays 2 := ⟨mW_at 1257 (by decide +kernel) (by decide), wtX12_areDays, wcX12_areDays, wiRX12, ⟨by decide, by decide, by decide +kernel⟩⟩
theorem cvX12_285 : mCv RX12 285 mdX12_rankOf 2 := ⟨mW_at 1268 (by decide +kernel) (by decide), wmX12_rankOf, wlX12_rankOf, wcX12_rankOf, wiRX12, ⟨by decide, by decide, by decide +kernel⟩⟩
theorem cvX12_288 : mCv RX12 288 mdX12_occasionOf 2 := ⟨mW_at 1272 (by decide +kernel) (by decide), wmX12_occasionOf, wlX12_occasionOf, wcX12_occasionOf, wiRX12, ⟨by decide, by decide, by decide +kernel⟩⟩
theorem cvX12_298 : mCv RX12 298 mdX12_isGown 1 := ⟨mW_at 1286 (by decide +kernel) (by decide), wmX12_isGown, wlX12_isGown, wcX12_isGown, wiRX12, ⟨by decide, by decide, by decide +kernel⟩⟩
theorem cvX12_303 : mCs RX12 303 mdX12_isStuff 1 := ⟨mW_at 1299 (by decide +kernel) (by decide), wtX12_isStuff, wcX12_isStuff, wiRX12, ⟨by decide, by decide, by decide +kernel⟩⟩
theorem cvX12_309 : mCv RX12 309 mdX12_countsAs 2 := ⟨mW_at 1306 (by decide +kernel) (by decide), wmX12_countsAs, wlX12_countsAs, wcX12_countsAs, wiRX12, ⟨by decide, by decide, by decide +kernel⟩⟩
theorem cvX12_312 : mCv RX12 312 mdX12_binds 6 := ⟨mW_at 1326 (by decide +kernel) (by decide), wmX12_binds, wlX12_binds, wcX12_binds, wiRX12, ⟨by decide, by decide, by decide +kernel⟩⟩
theorem cvX12_316 : mCv RX12 316 mdX12_isBroken 4 := ⟨mW_at 1330 (by decide +kernel) (by decide), wmX12_isBroken, wlX12_isBroken, wcX12_isBroken, wiRX12, ⟨by decide, by decide, by decide +kernel⟩⟩
theorem cvX12_320 : mCv RX12 320 mdX12_brokenOf 5 := ⟨mW_at 1322 (by decide +kernel) (by decide), wmX12_brokenOf, wlX12_brokenOf, wcX12_brokenOf, wiRX12, ⟨by decide, by decide, by decide +kernel⟩⟩
theorem lkX12_324 : Cond.methodLink RX12 324 Lib.Math.min.name ∈ mW := mW_at 1334 (by decide +kernel) (by decide)
theorem cvX12_329 : mCv RX12 329 mdX12_isCase 3 := ⟨mW_at 1314 (by decide +kernel) (by decide), wmX12_isCase, wlX12_isCase, wcX12_isCase, wiRX12, ⟨by decide, by decide, by decide +kernel⟩⟩
theorem cvX12_333 : mCv RX12 333 mdX12_fineOf 3 := ⟨mW_at 1318 (by decide +kernel) (by decide), wmX12_fineOf, wlX12_fineOf, wcX12_fineOf, wiRX12, ⟨by decide, by decide, by decide +kernel⟩⟩
theorem cvX12_340 : mCv RX12 340 mdX12_isLetterOf 1 := ⟨mW_at 1347 (by decide +kernel) (by decide), wmX12_isLetterOf, wlX12_isLetterOf, wcX12_isLetterOf, wiRX12, ⟨by decide, by decide, by decide +kernel⟩⟩
theorem cvX12_346 : mCv RX12 346 mdX12_partOn 1 := ⟨mW_at 1351 (by decide +kernel) (by decide), wmX12_partOn, wlX12_partOn, wcX12_partOn, wiRX12, ⟨by decide, by decide, by decide +kernel⟩⟩
theorem cvX12_363 : mCv RX12 363 mdX12_gather 3 := ⟨mW_at 1379 (by decide +kernel) (by decide), wmX12_gather, wlX12_gather, wcX12_gather, wiRX12, ⟨by decide, by decide, by decide +kernel⟩⟩
theorem lkX12_367 : Cond.methodLink RX12 367 Lib.Math.max.name ∈ mW := mW_at 1383 (by decide +kernel) (by decide)
theorem cvX12_370 : mCv RX12 370 mdX12_alterOf 3 := ⟨mW_at 1375 (by decide +kernel) (by decide), wmX12_alterOf, wlX12_alterOf, wcX12_alterOf, wiRX12, ⟨by decide, by decide, by decide +kernel⟩⟩
theorem cvJ0_335 : mCv RJ0 335 mdJ0_coder_7d493 0 := ⟨mW_at 492 (by decide +kernel) (by decide), wmJ0_coder_7d493, wlJ0_coder_7d493, wcJ0_coder_7d493, wiRJ0, ⟨by decide, by decide, by decide +kernel⟩⟩
theorem cvJ0_492 : mCv RJ0 492 mdJ0_isLatin1_aae02 0 := ⟨mW_at 502 (by decide +kernel) (by decide), wmJ0_isLatin1_aae02, wlJ0_isLatin1_aae02, wcJ0_isLatin1_aae02, wiRJ0, ⟨by decide, by decide, by decide +kernel⟩⟩
theorem cvJ0_495 : mCs RJ0 495 mdJ1_charAt_3b067 2 := ⟨mW_at 506 (by decide +kernel) (by decide), wtJ1_charAt_3b067, wcJ1_charAt_3b067, wiRJ1, ⟨by decide, by decide, by decide +kernel⟩⟩
theorem cvJ0_498 : mCs RJ0 498 mdJ2_charAt_3b067 2 := ⟨mW_at 517 (by decide +kernel) (by decide), wtJ2_charAt_3b067, wcJ2_charAt_3b067, wiRJ2, ⟨by decide, by decide, by decide +kernel⟩⟩
theorem cvJ0_1059 : mCs RJ0 1059 mdJ3_checkIndex_8e157 3 := ⟨mW_at 514 (by decide +kernel) (by decide), wtJ3_checkIndex_8e157, wcJ3_checkIndex_8e157, wiRJ3, ⟨by decide, by decide, by decide +kernel⟩⟩
theorem cvJ1_9 : mCs RJ1 9 mdJ0_checkIndex_df160 2 := ⟨mW_at 509 (by decide +kernel) (by decide), wtJ0_checkIndex_df160, wcJ0_checkIndex_df160, wiRJ0, ⟨by decide, by decide, by decide +kernel⟩⟩
theorem cvJ2_48 : mCs RJ2 48 mdJ2_length_9d52b 1 := ⟨mW_at 523 (by decide +kernel) (by decide), wtJ2_length_9d52b, wcJ2_length_9d52b, wiRJ2, ⟨by decide, by decide, by decide +kernel⟩⟩
theorem cvJ2_67 : mCs RJ2 67 mdJ2_checkIndex_2214a 2 := ⟨mW_at 520 (by decide +kernel) (by decide), wtJ2_checkIndex_2214a, wcJ2_checkIndex_2214a, wiRJ2, ⟨by decide, by decide, by decide +kernel⟩⟩
theorem cvJ2_71 : mCs RJ2 71 mdJ2_getChar_3b067 2 := ⟨mW_at 527 (by decide +kernel) (by decide), wtJ2_getChar_3b067, wcJ2_getChar_3b067, wiRJ2, ⟨by decide, by decide, by decide +kernel⟩⟩
theorem cvJ2_414 : mCs RJ2 414 mdJ0_checkIndex_df160 2 := ⟨mW_at 526 (by decide +kernel) (by decide), wtJ0_checkIndex_df160, wcJ0_checkIndex_df160, wiRJ0, ⟨by decide, by decide, by decide +kernel⟩⟩
theorem klL_7 : Cond.classLink RL 7 (mCn 10) ∈ mW := mW_at 22 (by decide +kernel) (by decide)
theorem kt10 : Cond.instantiable (mCn 10) (mNf 10) ∈ mW := mW_at 23 (by decide +kernel) (by decide)
theorem klX10_7 : Cond.classLink RX10 7 (mCn 8) ∈ mW := mW_at 30 (by decide +kernel) (by decide)
theorem kt8 : Cond.instantiable (mCn 8) (mNf 8) ∈ mW := mW_at 31 (by decide +kernel) (by decide)
theorem ka_byte : Cond.arrayClass .byte ∈ mW := mW_at 43 (by decide +kernel) (by decide)
theorem klX10_16 : Cond.classLink RX10 16 (mCn 5) ∈ mW := mW_at 44 (by decide +kernel) (by decide)
theorem kt5 : Cond.instantiable (mCn 5) (mNf 5) ∈ mW := mW_at 45 (by decide +kernel) (by decide)
theorem klX5_9 : Cond.classLink RX5 9 (mCn 0) ∈ mW := mW_at 50 (by decide +kernel) (by decide)
theorem kt0 : Cond.instantiable (mCn 0) (mNf 0) ∈ mW := mW_at 51 (by decide +kernel) (by decide)
theorem klX0_15 : Cond.classLink RX0 15 (mCn 7) ∈ mW := mW_at 56 (by decide +kernel) (by decide)
theorem klX10_25 : Cond.classLink RX10 25 (mCn 2) ∈ mW := mW_at 134 (by decide +kernel) (by decide)
theorem kt2 : Cond.instantiable (mCn 2) (mNf 2) ∈ mW := mW_at 135 (by decide +kernel) (by decide)
theorem klX2_9 : Cond.classLink RX2 9 (mCn 0) ∈ mW := mW_at 140 (by decide +kernel) (by decide)
theorem klX10_32 : Cond.classLink RX10 32 (mCn 6) ∈ mW := mW_at 149 (by decide +kernel) (by decide)
theorem kt6 : Cond.instantiable (mCn 6) (mNf 6) ∈ mW := mW_at 150 (by decide +kernel) (by decide)
theorem ka_int : Cond.arrayClass .int ∈ mW := mW_at 168 (by decide +kernel) (by decide)
theorem klX10_50 : Cond.classLink RX10 50 (mCn 3) ∈ mW := mW_at 169 (by decide +kernel) (by decide)
theorem klX10_60 : Cond.classLink RX10 60 (mCn 4) ∈ mW := mW_at 171 (by decide +kernel) (by decide)
theorem klX10_85 : Cond.classLink RX10 85 (mCn 9) ∈ mW := mW_at 173 (by decide +kernel) (by decide)
theorem kt9 : Cond.instantiable (mCn 9) (mNf 9) ∈ mW := mW_at 174 (by decide +kernel) (by decide)
theorem klX9_18 : Cond.classLink RX9 18 (mCn 3) ∈ mW := mW_at 179 (by decide +kernel) (by decide)
theorem kt3 : Cond.instantiable (mCn 3) (mNf 3) ∈ mW := mW_at 180 (by decide +kernel) (by decide)
theorem klX10_92 : Cond.classLink RX10 92 (mCn 1) ∈ mW := mW_at 229 (by decide +kernel) (by decide)
theorem kt1 : Cond.instantiable (mCn 1) (mNf 1) ∈ mW := mW_at 230 (by decide +kernel) (by decide)
theorem klX5_189 : Cond.classLink RX5 189 (mCn 7) ∈ mW := mW_at 590 (by decide +kernel) (by decide)
theorem kt7 : Cond.instantiable (mCn 7) (mNf 7) ∈ mW := mW_at 591 (by decide +kernel) (by decide)
theorem kt4 : Cond.instantiable (mCn 4) (mNf 4) ∈ mW := mW_at 751 (by decide +kernel) (by decide)
theorem kjX10_326 : Cond.constantLong RX10 326 (100) ∈ mW := mW_at 809 (by decide +kernel) (by decide)
theorem klL_10 : Cond.classLink RL 10 (mCn 12) ∈ mW := mW_at 893 (by decide +kernel) (by decide)
theorem kt12 : Cond.instantiable (mCn 12) (mNf 12) ∈ mW := mW_at 894 (by decide +kernel) (by decide)
theorem klX12_171 : Cond.classLink RX12 171 (mCn 11) ∈ mW := mW_at 899 (by decide +kernel) (by decide)
theorem kt11 : Cond.instantiable (mCn 11) (mNf 11) ∈ mW := mW_at 900 (by decide +kernel) (by decide)
theorem kjX12_3 : Cond.constantLong RX12 3 (9999) ∈ mW := mW_at 1152 (by decide +kernel) (by decide)
theorem kjX12_272 : Cond.constantLong RX12 272 (29) ∈ mW := mW_at 1251 (by decide +kernel) (by decide)
theorem kjX12_277 : Cond.constantLong RX12 277 (9) ∈ mW := mW_at 1252 (by decide +kernel) (by decide)
theorem kjX12_291 : Cond.constantLong RX12 291 (15) ∈ mW := mW_at 1280 (by decide +kernel) (by decide)
theorem kjX12_293 : Cond.constantLong RX12 293 (7) ∈ mW := mW_at 1281 (by decide +kernel) (by decide)
theorem kjX12_301 : Cond.constantLong RX12 301 (4) ∈ mW := mW_at 1294 (by decide +kernel) (by decide)
theorem kjX12_349 : Cond.constantLong RX12 349 (100) ∈ mW := mW_at 1355 (by decide +kernel) (by decide)
theorem kjX12_351 : Cond.constantLong RX12 351 (2) ∈ mW := mW_at 1364 (by decide +kernel) (by decide)
theorem kjX12_353 : Cond.constantLong RX12 353 (6) ∈ mW := mW_at 1369 (by decide +kernel) (by decide)
theorem kjX12_355 : Cond.constantLong RX12 355 (999) ∈ mW := mW_at 1370 (by decide +kernel) (by decide)
theorem ki0 : Cond.initialized (mCn 0) ∈ mW := mW_at 4 (by decide +kernel) (by decide)
theorem ki1 : Cond.initialized (mCn 1) ∈ mW := mW_at 9 (by decide +kernel) (by decide)
theorem ki2 : Cond.initialized (mCn 2) ∈ mW := mW_at 5 (by decide +kernel) (by decide)
theorem ki3 : Cond.initialized (mCn 3) ∈ mW := mW_at 8 (by decide +kernel) (by decide)
theorem ki4 : Cond.initialized (mCn 4) ∈ mW := mW_at 21 (by decide +kernel) (by decide)
theorem ki5 : Cond.initialized (mCn 5) ∈ mW := mW_at 3 (by decide +kernel) (by decide)
theorem ki6 : Cond.initialized (mCn 6) ∈ mW := mW_at 6 (by decide +kernel) (by decide)
theorem ki7 : Cond.initialized (mCn 7) ∈ mW := mW_at 19 (by decide +kernel) (by decide)
theorem ki8 : Cond.initialized (mCn 8) ∈ mW := mW_at 2 (by decide +kernel) (by decide)
theorem ki9 : Cond.initialized (mCn 9) ∈ mW := mW_at 7 (by decide +kernel) (by decide)
theorem ki10 : Cond.initialized (mCn 10) ∈ mW := mW_at 1 (by decide +kernel) (by decide)
theorem ki11 : Cond.initialized (mCn 11) ∈ mW := mW_at 14 (by decide +kernel) (by decide)
theorem ki12 : Cond.initialized (mCn 12) ∈ mW := mW_at 11 (by decide +kernel) (by decide)
theorem wO1 : Cond.instanceMethod Lib.objectInit ∈ mW := mW_at 28 (by decide +kernel) (by decide)
theorem wO2 : Cond.code Lib.objectInit ⟨#[0xb1]⟩ 1 none ∈ mW := mW_at 29 (by decide +kernel) (by decide)
theorem wM1_max : Cond.static Lib.Math.max.name ∈ mW := mW_at 666 (by decide +kernel) (by decide)
theorem wM2_max : Cond.code Lib.Math.max.name Lib.Math.max.code 2 (some .int) ∈ mW := mW_at 667 (by decide +kernel) (by decide)
theorem wM1_min : Cond.static Lib.Math.min.name ∈ mW := mW_at 701 (by decide +kernel) (by decide)
theorem wM2_min : Cond.code Lib.Math.min.name Lib.Math.min.code 2 (some .int) ∈ mW := mW_at 702 (by decide +kernel) (by decide)
theorem wM3 : Cond.initialized "java/lang/Math" ∈ mW := mW_at 20 (by decide +kernel) (by decide)
theorem df0 : ∀ k, k < mNf 0 → (∃ ty, parseFieldDescriptor (mDesc 0 k) = some ty ∧ defaultValue ty = bif mIsR 0 k then .null else .int 0) := by
  intro k hk
  refine ⟨tyX0 k, tyX0_ok k hk, ?_⟩
  have h : ∀ k : Fin 6, defaultValue (tyX0 k) = bif mIsR 0 k then .null else .int 0 := by decide +kernel
  exact h ⟨k, hk⟩
theorem df1 : ∀ k, k < mNf 1 → (∃ ty, parseFieldDescriptor (mDesc 1 k) = some ty ∧ defaultValue ty = bif mIsR 1 k then .null else .int 0) := by
  intro k hk
  refine ⟨tyX1 k, tyX1_ok k hk, ?_⟩
  have h : ∀ k : Fin 3, defaultValue (tyX1 k) = bif mIsR 1 k then .null else .int 0 := by decide +kernel
  exact h ⟨k, hk⟩
theorem df2 : ∀ k, k < mNf 2 → (∃ ty, parseFieldDescriptor (mDesc 2 k) = some ty ∧ defaultValue ty = bif mIsR 2 k then .null else .int 0) := by
  intro k hk
  refine ⟨tyX2 k, tyX2_ok k hk, ?_⟩
  have h : ∀ k : Fin 2, defaultValue (tyX2 k) = bif mIsR 2 k then .null else .int 0 := by decide +kernel
  exact h ⟨k, hk⟩
theorem df3 : ∀ k, k < mNf 3 → (∃ ty, parseFieldDescriptor (mDesc 3 k) = some ty ∧ defaultValue ty = bif mIsR 3 k then .null else .int 0) := by
  intro k hk
  refine ⟨tyX3 k, tyX3_ok k hk, ?_⟩
  have h : ∀ k : Fin 4, defaultValue (tyX3 k) = bif mIsR 3 k then .null else .int 0 := by decide +kernel
  exact h ⟨k, hk⟩
theorem df4 : ∀ k, k < mNf 4 → (∃ ty, parseFieldDescriptor (mDesc 4 k) = some ty ∧ defaultValue ty = bif mIsR 4 k then .null else .int 0) := by
  intro k hk
  refine ⟨tyX4 k, tyX4_ok k hk, ?_⟩
  have h : ∀ k : Fin 7, defaultValue (tyX4 k) = bif mIsR 4 k then .null else .int 0 := by decide +kernel
  exact h ⟨k, hk⟩
theorem df5 : ∀ k, k < mNf 5 → (∃ ty, parseFieldDescriptor (mDesc 5 k) = some ty ∧ defaultValue ty = bif mIsR 5 k then .null else .int 0) := by
  intro k hk
  refine ⟨tyX5 k, tyX5_ok k hk, ?_⟩
  have h : ∀ k : Fin 15, defaultValue (tyX5 k) = bif mIsR 5 k then .null else .int 0 := by decide +kernel
  exact h ⟨k, hk⟩
theorem df6 : ∀ k, k < mNf 6 → (∃ ty, parseFieldDescriptor (mDesc 6 k) = some ty ∧ defaultValue ty = bif mIsR 6 k then .null else .int 0) := by
  intro k hk
  refine ⟨tyX6 k, tyX6_ok k hk, ?_⟩
  have h : ∀ k : Fin 4, defaultValue (tyX6 k) = bif mIsR 6 k then .null else .int 0 := by decide +kernel
  exact h ⟨k, hk⟩
theorem df7 : ∀ k, k < mNf 7 → (∃ ty, parseFieldDescriptor (mDesc 7 k) = some ty ∧ defaultValue ty = bif mIsR 7 k then .null else .int 0) := by
  intro k hk
  refine ⟨tyX7 k, tyX7_ok k hk, ?_⟩
  have h : ∀ k : Fin 6, defaultValue (tyX7 k) = bif mIsR 7 k then .null else .int 0 := by decide +kernel
  exact h ⟨k, hk⟩
theorem df8 : ∀ k, k < mNf 8 → (∃ ty, parseFieldDescriptor (mDesc 8 k) = some ty ∧ defaultValue ty = bif mIsR 8 k then .null else .int 0) := by
  intro k hk
  refine ⟨tyX8 k, tyX8_ok k hk, ?_⟩
  have h : ∀ k : Fin 2, defaultValue (tyX8 k) = bif mIsR 8 k then .null else .int 0 := by decide +kernel
  exact h ⟨k, hk⟩
theorem df9 : ∀ k, k < mNf 9 → (∃ ty, parseFieldDescriptor (mDesc 9 k) = some ty ∧ defaultValue ty = bif mIsR 9 k then .null else .int 0) := by
  intro k hk
  refine ⟨tyX9 k, tyX9_ok k hk, ?_⟩
  have h : ∀ k : Fin 5, defaultValue (tyX9 k) = bif mIsR 9 k then .null else .int 0 := by decide +kernel
  exact h ⟨k, hk⟩
theorem df10 : ∀ k, k < mNf 10 → (∃ ty, parseFieldDescriptor (mDesc 10 k) = some ty ∧ defaultValue ty = bif mIsR 10 k then .null else .int 0) := by
  intro k hk
  refine ⟨tyX10 k, tyX10_ok k hk, ?_⟩
  have h : ∀ k : Fin 18, defaultValue (tyX10 k) = bif mIsR 10 k then .null else .int 0 := by decide +kernel
  exact h ⟨k, hk⟩
theorem df12 : ∀ k, k < mNf 12 → (∃ ty, parseFieldDescriptor (mDesc 12 k) = some ty ∧ defaultValue ty = bif mIsR 12 k then .null else .int 0) := by
  intro k hk
  refine ⟨tyX12 k, tyX12_ok k hk, ?_⟩
  have h : ∀ k : Fin 57, defaultValue (tyX12 k) = bif mIsR 12 k then .null else .int 0 := by decide +kernel
  exact h ⟨k, hk⟩
end
