section
-- ===== PART A: goes FIRST, ahead of the names: the tables' words, and 'selects' of the private methods out of them =====
/-- a private method of a class that the tables say can be made, by its rows of tables_1 -/
def lw_okq (q : MethodName × Nat) : Prop := (q.1.cls ≠ "java/lang/invoke/MethodHandle" ∧ q.1.cls ≠ "java/lang/invoke/VarHandle") ∧ Cond.instantiable q.1.cls q.2 ∈ tables_1 ∧ Cond.privateMethod q.1 ∈ tables_1 ∧ Cond.instanceMethod q.1 ∈ tables_1
theorem lw_p0 : lw_okq (⟨"RuleCourt", "putBytes", "(I)V"⟩, 13) := ⟨⟨by decide +kernel, by decide +kernel⟩, List.mem_of_getElem? (i := 25) (by decide +kernel), List.mem_of_getElem? (i := 428) (by decide +kernel), List.mem_of_getElem? (i := 429) (by decide +kernel)⟩
theorem lw_p1 : lw_okq (⟨"RuleCourt", "refuse", "(I)I"⟩, 13) := ⟨⟨by decide +kernel, by decide +kernel⟩, List.mem_of_getElem? (i := 25) (by decide +kernel), List.mem_of_getElem? (i := 436) (by decide +kernel), List.mem_of_getElem? (i := 437) (by decide +kernel)⟩
theorem lw_p2 : lw_okq (⟨"RuleCourt$Tokens", "put", "(IIJ)V"⟩, 4) := ⟨⟨by decide +kernel, by decide +kernel⟩, List.mem_of_getElem? (i := 216) (by decide +kernel), List.mem_of_getElem? (i := 448) (by decide +kernel), List.mem_of_getElem? (i := 449) (by decide +kernel)⟩
theorem lw_p3 : lw_okq (⟨"RuleCourt$Reader", "type", "()I"⟩, 8) := ⟨⟨by decide +kernel, by decide +kernel⟩, List.mem_of_getElem? (i := 210) (by decide +kernel), List.mem_of_getElem? (i := 455) (by decide +kernel), List.mem_of_getElem? (i := 456) (by decide +kernel)⟩
theorem lw_p4 : lw_okq (⟨"RuleCourt$Reader", "readClause", "(LRuleCourt$Rule;)Z"⟩, 8) := ⟨⟨by decide +kernel, by decide +kernel⟩, List.mem_of_getElem? (i := 210) (by decide +kernel), List.mem_of_getElem? (i := 459) (by decide +kernel), List.mem_of_getElem? (i := 460) (by decide +kernel)⟩
theorem lw_p5 : lw_okq (⟨"RuleCourt$Reader", "readAtom", "(LRuleCourt$Rule;LRuleCourt$Term;)Z"⟩, 8) := ⟨⟨by decide +kernel, by decide +kernel⟩, List.mem_of_getElem? (i := 210) (by decide +kernel), List.mem_of_getElem? (i := 471) (by decide +kernel), List.mem_of_getElem? (i := 472) (by decide +kernel)⟩
theorem lw_p6 : lw_okq (⟨"RuleCourt$Reader", "start", "()I"⟩, 8) := ⟨⟨by decide +kernel, by decide +kernel⟩, List.mem_of_getElem? (i := 210) (by decide +kernel), List.mem_of_getElem? (i := 476) (by decide +kernel), List.mem_of_getElem? (i := 477) (by decide +kernel)⟩
theorem lw_p7 : lw_okq (⟨"RuleCourt$Reader", "fail", "(II)Z"⟩, 8) := ⟨⟨by decide +kernel, by decide +kernel⟩, List.mem_of_getElem? (i := 210) (by decide +kernel), List.mem_of_getElem? (i := 480) (by decide +kernel), List.mem_of_getElem? (i := 481) (by decide +kernel)⟩
theorem lw_p8 : lw_okq (⟨"RuleCourt$Reader", "readArg", "(LRuleCourt$Rule;LRuleCourt$Term;Z)Z"⟩, 8) := ⟨⟨by decide +kernel, by decide +kernel⟩, List.mem_of_getElem? (i := 210) (by decide +kernel), List.mem_of_getElem? (i := 488) (by decide +kernel), List.mem_of_getElem? (i := 489) (by decide +kernel)⟩
theorem lw_p9 : lw_okq (⟨"RuleCourt$Reader", "hasItsPlaces", "(LRuleCourt$Term;Z)Z"⟩, 8) := ⟨⟨by decide +kernel, by decide +kernel⟩, List.mem_of_getElem? (i := 210) (by decide +kernel), List.mem_of_getElem? (i := 500) (by decide +kernel), List.mem_of_getElem? (i := 501) (by decide +kernel)⟩
theorem lw_p10 : lw_okq (⟨"RuleCourt$Reader", "endFact", "(LRuleCourt$Term;)Z"⟩, 8) := ⟨⟨by decide +kernel, by decide +kernel⟩, List.mem_of_getElem? (i := 210) (by decide +kernel), List.mem_of_getElem? (i := 504) (by decide +kernel), List.mem_of_getElem? (i := 505) (by decide +kernel)⟩
theorem lw_p11 : lw_okq (⟨"RuleCourt$Reader", "readTerm", "(LRuleCourt$Rule;LRuleCourt$Term;)Z"⟩, 8) := ⟨⟨by decide +kernel, by decide +kernel⟩, List.mem_of_getElem? (i := 210) (by decide +kernel), List.mem_of_getElem? (i := 511) (by decide +kernel), List.mem_of_getElem? (i := 512) (by decide +kernel)⟩
theorem lw_p12 : lw_okq (⟨"RuleCourt$Reader", "nextType", "()I"⟩, 8) := ⟨⟨by decide +kernel, by decide +kernel⟩, List.mem_of_getElem? (i := 210) (by decide +kernel), List.mem_of_getElem? (i := 515) (by decide +kernel), List.mem_of_getElem? (i := 516) (by decide +kernel)⟩
theorem lw_p13 : lw_okq (⟨"RuleCourt$Reader", "readUnlike", "(LRuleCourt$Rule;LRuleCourt$Term;)Z"⟩, 8) := ⟨⟨by decide +kernel, by decide +kernel⟩, List.mem_of_getElem? (i := 210) (by decide +kernel), List.mem_of_getElem? (i := 519) (by decide +kernel), List.mem_of_getElem? (i := 520) (by decide +kernel)⟩
theorem lw_p14 : lw_okq (⟨"RuleCourt$Reader", "endRule", "(LRuleCourt$Rule;)Z"⟩, 8) := ⟨⟨by decide +kernel, by decide +kernel⟩, List.mem_of_getElem? (i := 210) (by decide +kernel), List.mem_of_getElem? (i := 523) (by decide +kernel), List.mem_of_getElem? (i := 524) (by decide +kernel)⟩
theorem lw_p15 : lw_okq (⟨"RuleCourt$Rule", "isLoose", "(I)Z"⟩, 5) := ⟨⟨by decide +kernel, by decide +kernel⟩, List.mem_of_getElem? (i := 72) (by decide +kernel), List.mem_of_getElem? (i := 531) (by decide +kernel), List.mem_of_getElem? (i := 532) (by decide +kernel)⟩
def lw_privs_1 : List (MethodName × Nat) := [(⟨"RuleCourt", "putBytes", "(I)V"⟩, 13), (⟨"RuleCourt", "refuse", "(I)I"⟩, 13), (⟨"RuleCourt$Tokens", "put", "(IIJ)V"⟩, 4), (⟨"RuleCourt$Reader", "type", "()I"⟩, 8), (⟨"RuleCourt$Reader", "readClause", "(LRuleCourt$Rule;)Z"⟩, 8), (⟨"RuleCourt$Reader", "readAtom", "(LRuleCourt$Rule;LRuleCourt$Term;)Z"⟩, 8), (⟨"RuleCourt$Reader", "start", "()I"⟩, 8), (⟨"RuleCourt$Reader", "fail", "(II)Z"⟩, 8), (⟨"RuleCourt$Reader", "readArg", "(LRuleCourt$Rule;LRuleCourt$Term;Z)Z"⟩, 8), (⟨"RuleCourt$Reader", "hasItsPlaces", "(LRuleCourt$Term;Z)Z"⟩, 8), (⟨"RuleCourt$Reader", "endFact", "(LRuleCourt$Term;)Z"⟩, 8), (⟨"RuleCourt$Reader", "readTerm", "(LRuleCourt$Rule;LRuleCourt$Term;)Z"⟩, 8), (⟨"RuleCourt$Reader", "nextType", "()I"⟩, 8), (⟨"RuleCourt$Reader", "readUnlike", "(LRuleCourt$Rule;LRuleCourt$Term;)Z"⟩, 8), (⟨"RuleCourt$Reader", "endRule", "(LRuleCourt$Rule;)Z"⟩, 8), (⟨"RuleCourt$Rule", "isLoose", "(I)Z"⟩, 5)]
theorem lw_r1 : ∀ q ∈ lw_privs_1, lw_okq q := List.forall_mem_cons.mpr ⟨lw_p0, List.forall_mem_cons.mpr ⟨lw_p1, List.forall_mem_cons.mpr ⟨lw_p2, List.forall_mem_cons.mpr ⟨lw_p3, List.forall_mem_cons.mpr ⟨lw_p4, List.forall_mem_cons.mpr ⟨lw_p5, List.forall_mem_cons.mpr ⟨lw_p6, List.forall_mem_cons.mpr ⟨lw_p7, List.forall_mem_cons.mpr ⟨lw_p8, List.forall_mem_cons.mpr ⟨lw_p9, List.forall_mem_cons.mpr ⟨lw_p10, List.forall_mem_cons.mpr ⟨lw_p11, List.forall_mem_cons.mpr ⟨lw_p12, List.forall_mem_cons.mpr ⟨lw_p13, List.forall_mem_cons.mpr ⟨lw_p14, List.forall_mem_cons.mpr ⟨lw_p15, fun _ h => absurd h List.not_mem_nil⟩⟩⟩⟩⟩⟩⟩⟩⟩⟩⟩⟩⟩⟩⟩⟩
theorem lw_p16 : lw_okq (⟨"RuleCourt$Reader", "refusesNoneOfItself", "(I)Z"⟩, 8) := ⟨⟨by decide +kernel, by decide +kernel⟩, List.mem_of_getElem? (i := 210) (by decide +kernel), List.mem_of_getElem? (i := 535) (by decide +kernel), List.mem_of_getElem? (i := 536) (by decide +kernel)⟩
theorem lw_p17 : lw_okq (⟨"RuleCourt$Layers", "leastFor", "(LRuleCourt$Rule;)I"⟩, 1) := ⟨⟨by decide +kernel, by decide +kernel⟩, List.mem_of_getElem? (i := 58) (by decide +kernel), List.mem_of_getElem? (i := 546) (by decide +kernel), List.mem_of_getElem? (i := 547) (by decide +kernel)⟩
theorem lw_p18 : lw_okq (⟨"RuleCourt", "settled", "()LRuleCourt$Model;"⟩, 13) := ⟨⟨by decide +kernel, by decide +kernel⟩, List.mem_of_getElem? (i := 25) (by decide +kernel), List.mem_of_getElem? (i := 611) (by decide +kernel), List.mem_of_getElem? (i := 612) (by decide +kernel)⟩
theorem lw_p19 : lw_okq (⟨"RuleCourt$Model", "setNoSteps", "(I)V"⟩, 5) := ⟨⟨by decide +kernel, by decide +kernel⟩, List.mem_of_getElem? (i := 317) (by decide +kernel), List.mem_of_getElem? (i := 624) (by decide +kernel), List.mem_of_getElem? (i := 625) (by decide +kernel)⟩
theorem lw_p20 : lw_okq (⟨"RuleCourt$Judge", "isDue", "(ILRuleCourt$Model;)Z"⟩, 3) := ⟨⟨by decide +kernel, by decide +kernel⟩, List.mem_of_getElem? (i := 301) (by decide +kernel), List.mem_of_getElem? (i := 642) (by decide +kernel), List.mem_of_getElem? (i := 643) (by decide +kernel)⟩
theorem lw_p21 : lw_okq (⟨"RuleCourt$Join", "arrive", "(I)V"⟩, 9) := ⟨⟨by decide +kernel, by decide +kernel⟩, List.mem_of_getElem? (i := 267) (by decide +kernel), List.mem_of_getElem? (i := 656) (by decide +kernel), List.mem_of_getElem? (i := 657) (by decide +kernel)⟩
theorem lw_p22 : lw_okq (⟨"RuleCourt$Join", "freeSign", "(I)I"⟩, 9) := ⟨⟨by decide +kernel, by decide +kernel⟩, List.mem_of_getElem? (i := 267) (by decide +kernel), List.mem_of_getElem? (i := 676) (by decide +kernel), List.mem_of_getElem? (i := 677) (by decide +kernel)⟩
theorem lw_p23 : lw_okq (⟨"RuleCourt$Join", "secondsFor", "(LRuleCourt$Term;I)I"⟩, 9) := ⟨⟨by decide +kernel, by decide +kernel⟩, List.mem_of_getElem? (i := 267) (by decide +kernel), List.mem_of_getElem? (i := 680) (by decide +kernel), List.mem_of_getElem? (i := 681) (by decide +kernel)⟩
theorem lw_p24 : lw_okq (⟨"RuleCourt$Join", "walkSecond", "(IIII)V"⟩, 9) := ⟨⟨by decide +kernel, by decide +kernel⟩, List.mem_of_getElem? (i := 267) (by decide +kernel), List.mem_of_getElem? (i := 684) (by decide +kernel), List.mem_of_getElem? (i := 685) (by decide +kernel)⟩
theorem lw_p25 : lw_okq (⟨"RuleCourt$Join", "bindHead", "(I)Z"⟩, 9) := ⟨⟨by decide +kernel, by decide +kernel⟩, List.mem_of_getElem? (i := 267) (by decide +kernel), List.mem_of_getElem? (i := 717) (by decide +kernel), List.mem_of_getElem? (i := 718) (by decide +kernel)⟩
theorem lw_p26 : lw_okq (⟨"RuleCourt$Join", "bind", "(II)Z"⟩, 9) := ⟨⟨by decide +kernel, by decide +kernel⟩, List.mem_of_getElem? (i := 267) (by decide +kernel), List.mem_of_getElem? (i := 721) (by decide +kernel), List.mem_of_getElem? (i := 722) (by decide +kernel)⟩
theorem lw_p27 : lw_okq (⟨"RuleCourt", "keepReasons", "(LRuleCourt$Rule;)V"⟩, 13) := ⟨⟨by decide +kernel, by decide +kernel⟩, List.mem_of_getElem? (i := 25) (by decide +kernel), List.mem_of_getElem? (i := 725) (by decide +kernel), List.mem_of_getElem? (i := 726) (by decide +kernel)⟩
theorem lw_p28 : lw_okq (⟨"RuleCourt", "isSpare", "(ILRuleCourt$Model;)Z"⟩, 13) := ⟨⟨by decide +kernel, by decide +kernel⟩, List.mem_of_getElem? (i := 25) (by decide +kernel), List.mem_of_getElem? (i := 753) (by decide +kernel), List.mem_of_getElem? (i := 754) (by decide +kernel)⟩
theorem lw_p29 : lw_okq (⟨"RuleCourt$Cutter", "keepPicks", "(I)V"⟩, 10) := ⟨⟨by decide +kernel, by decide +kernel⟩, List.mem_of_getElem? (i := 345) (by decide +kernel), List.mem_of_getElem? (i := 790) (by decide +kernel), List.mem_of_getElem? (i := 791) (by decide +kernel)⟩
theorem lw_p30 : lw_okq (⟨"RuleCourt$Cutter", "nextPicks", "(I)Z"⟩, 10) := ⟨⟨by decide +kernel, by decide +kernel⟩, List.mem_of_getElem? (i := 345) (by decide +kernel), List.mem_of_getElem? (i := 794) (by decide +kernel), List.mem_of_getElem? (i := 795) (by decide +kernel)⟩
theorem lw_p31 : lw_okq (⟨"java/lang/Throwable", "fillInStackTrace", "(I)Ljava/lang/Throwable;"⟩, 6) := ⟨⟨by decide +kernel, by decide +kernel⟩, List.mem_of_getElem? (i := 875) (by decide +kernel), List.mem_of_getElem? (i := 873) (by decide +kernel), List.mem_of_getElem? (i := 874) (by decide +kernel)⟩
def lw_privs_2 : List (MethodName × Nat) := [(⟨"RuleCourt$Reader", "refusesNoneOfItself", "(I)Z"⟩, 8), (⟨"RuleCourt$Layers", "leastFor", "(LRuleCourt$Rule;)I"⟩, 1), (⟨"RuleCourt", "settled", "()LRuleCourt$Model;"⟩, 13), (⟨"RuleCourt$Model", "setNoSteps", "(I)V"⟩, 5), (⟨"RuleCourt$Judge", "isDue", "(ILRuleCourt$Model;)Z"⟩, 3), (⟨"RuleCourt$Join", "arrive", "(I)V"⟩, 9), (⟨"RuleCourt$Join", "freeSign", "(I)I"⟩, 9), (⟨"RuleCourt$Join", "secondsFor", "(LRuleCourt$Term;I)I"⟩, 9), (⟨"RuleCourt$Join", "walkSecond", "(IIII)V"⟩, 9), (⟨"RuleCourt$Join", "bindHead", "(I)Z"⟩, 9), (⟨"RuleCourt$Join", "bind", "(II)Z"⟩, 9), (⟨"RuleCourt", "keepReasons", "(LRuleCourt$Rule;)V"⟩, 13), (⟨"RuleCourt", "isSpare", "(ILRuleCourt$Model;)Z"⟩, 13), (⟨"RuleCourt$Cutter", "keepPicks", "(I)V"⟩, 10), (⟨"RuleCourt$Cutter", "nextPicks", "(I)Z"⟩, 10), (⟨"java/lang/Throwable", "fillInStackTrace", "(I)Ljava/lang/Throwable;"⟩, 6)]
theorem lw_r2 : ∀ q ∈ lw_privs_2, lw_okq q := List.forall_mem_cons.mpr ⟨lw_p16, List.forall_mem_cons.mpr ⟨lw_p17, List.forall_mem_cons.mpr ⟨lw_p18, List.forall_mem_cons.mpr ⟨lw_p19, List.forall_mem_cons.mpr ⟨lw_p20, List.forall_mem_cons.mpr ⟨lw_p21, List.forall_mem_cons.mpr ⟨lw_p22, List.forall_mem_cons.mpr ⟨lw_p23, List.forall_mem_cons.mpr ⟨lw_p24, List.forall_mem_cons.mpr ⟨lw_p25, List.forall_mem_cons.mpr ⟨lw_p26, List.forall_mem_cons.mpr ⟨lw_p27, List.forall_mem_cons.mpr ⟨lw_p28, List.forall_mem_cons.mpr ⟨lw_p29, List.forall_mem_cons.mpr ⟨lw_p30, List.forall_mem_cons.mpr ⟨lw_p31, fun _ h => absurd h List.not_mem_nil⟩⟩⟩⟩⟩⟩⟩⟩⟩⟩⟩⟩⟩⟩⟩⟩
theorem lw_p32 : lw_okq (⟨"RuleCourtModel", "refused", "(I)I"⟩, 43) := ⟨⟨by decide +kernel, by decide +kernel⟩, List.mem_of_getElem? (i := 905) (by decide +kernel), List.mem_of_getElem? (i := 1085) (by decide +kernel), List.mem_of_getElem? (i := 1086) (by decide +kernel)⟩
theorem lw_p33 : lw_okq (⟨"RuleCourtModel", "next", "()V"⟩, 43) := ⟨⟨by decide +kernel, by decide +kernel⟩, List.mem_of_getElem? (i := 905) (by decide +kernel), List.mem_of_getElem? (i := 1089) (by decide +kernel), List.mem_of_getElem? (i := 1090) (by decide +kernel)⟩
theorem lw_p34 : lw_okq (⟨"RuleCourtModel", "byteAt", "(I)I"⟩, 43) := ⟨⟨by decide +kernel, by decide +kernel⟩, List.mem_of_getElem? (i := 905) (by decide +kernel), List.mem_of_getElem? (i := 1093) (by decide +kernel), List.mem_of_getElem? (i := 1094) (by decide +kernel)⟩
theorem lw_p35 : lw_okq (⟨"RuleCourtModel", "readClause", "()V"⟩, 43) := ⟨⟨by decide +kernel, by decide +kernel⟩, List.mem_of_getElem? (i := 905) (by decide +kernel), List.mem_of_getElem? (i := 1101) (by decide +kernel), List.mem_of_getElem? (i := 1102) (by decide +kernel)⟩
theorem lw_p36 : lw_okq (⟨"RuleCourtModel", "readAtom", "(II)V"⟩, 43) := ⟨⟨by decide +kernel, by decide +kernel⟩, List.mem_of_getElem? (i := 905) (by decide +kernel), List.mem_of_getElem? (i := 1141) (by decide +kernel), List.mem_of_getElem? (i := 1142) (by decide +kernel)⟩
theorem lw_p37 : lw_okq (⟨"RuleCourtModel", "isNot", "()Z"⟩, 43) := ⟨⟨by decide +kernel, by decide +kernel⟩, List.mem_of_getElem? (i := 905) (by decide +kernel), List.mem_of_getElem? (i := 1145) (by decide +kernel), List.mem_of_getElem? (i := 1146) (by decide +kernel)⟩
theorem lw_p38 : lw_okq (⟨"RuleCourtModel", "stop", "(II)LRuleCourtModel$Stop;"⟩, 43) := ⟨⟨by decide +kernel, by decide +kernel⟩, List.mem_of_getElem? (i := 905) (by decide +kernel), List.mem_of_getElem? (i := 1150) (by decide +kernel), List.mem_of_getElem? (i := 1151) (by decide +kernel)⟩
theorem lw_p39 : lw_okq (⟨"RuleCourtModel", "is", "(I)Z"⟩, 43) := ⟨⟨by decide +kernel, by decide +kernel⟩, List.mem_of_getElem? (i := 905) (by decide +kernel), List.mem_of_getElem? (i := 1154) (by decide +kernel), List.mem_of_getElem? (i := 1155) (by decide +kernel)⟩
theorem lw_p40 : lw_okq (⟨"RuleCourtModel", "readArg", "(Z)I"⟩, 43) := ⟨⟨by decide +kernel, by decide +kernel⟩, List.mem_of_getElem? (i := 905) (by decide +kernel), List.mem_of_getElem? (i := 1158) (by decide +kernel), List.mem_of_getElem? (i := 1159) (by decide +kernel)⟩
theorem lw_p41 : lw_okq (⟨"RuleCourtModel", "thingHere", "()I"⟩, 43) := ⟨⟨by decide +kernel, by decide +kernel⟩, List.mem_of_getElem? (i := 905) (by decide +kernel), List.mem_of_getElem? (i := 1162) (by decide +kernel), List.mem_of_getElem? (i := 1163) (by decide +kernel)⟩
theorem lw_p42 : lw_okq (⟨"RuleCourtModel", "readTerm", "()V"⟩, 43) := ⟨⟨by decide +kernel, by decide +kernel⟩, List.mem_of_getElem? (i := 905) (by decide +kernel), List.mem_of_getElem? (i := 1174) (by decide +kernel), List.mem_of_getElem? (i := 1175) (by decide +kernel)⟩
theorem lw_p43 : lw_okq (⟨"RuleCourtModel", "isBeforeUnlike", "()Z"⟩, 43) := ⟨⟨by decide +kernel, by decide +kernel⟩, List.mem_of_getElem? (i := 905) (by decide +kernel), List.mem_of_getElem? (i := 1178) (by decide +kernel), List.mem_of_getElem? (i := 1179) (by decide +kernel)⟩
theorem lw_p44 : lw_okq (⟨"RuleCourtModel", "layers", "(I)Z"⟩, 43) := ⟨⟨by decide +kernel, by decide +kernel⟩, List.mem_of_getElem? (i := 905) (by decide +kernel), List.mem_of_getElem? (i := 1182) (by decide +kernel), List.mem_of_getElem? (i := 1183) (by decide +kernel)⟩
theorem lw_p45 : lw_okq (⟨"RuleCourtModel", "done", "(I)I"⟩, 43) := ⟨⟨by decide +kernel, by decide +kernel⟩, List.mem_of_getElem? (i := 905) (by decide +kernel), List.mem_of_getElem? (i := 1186) (by decide +kernel), List.mem_of_getElem? (i := 1187) (by decide +kernel)⟩
theorem lw_p46 : lw_okq (⟨"RuleCourtModel", "isKind", "(I)Z"⟩, 43) := ⟨⟨by decide +kernel, by decide +kernel⟩, List.mem_of_getElem? (i := 905) (by decide +kernel), List.mem_of_getElem? (i := 1202) (by decide +kernel), List.mem_of_getElem? (i := 1203) (by decide +kernel)⟩
theorem lw_p47 : lw_okq (⟨"RuleCourtModel", "isAtom", "(I)Z"⟩, 43) := ⟨⟨by decide +kernel, by decide +kernel⟩, List.mem_of_getElem? (i := 905) (by decide +kernel), List.mem_of_getElem? (i := 1209) (by decide +kernel), List.mem_of_getElem? (i := 1210) (by decide +kernel)⟩
def lw_privs_3 : List (MethodName × Nat) := [(⟨"RuleCourtModel", "refused", "(I)I"⟩, 43), (⟨"RuleCourtModel", "next", "()V"⟩, 43), (⟨"RuleCourtModel", "byteAt", "(I)I"⟩, 43), (⟨"RuleCourtModel", "readClause", "()V"⟩, 43), (⟨"RuleCourtModel", "readAtom", "(II)V"⟩, 43), (⟨"RuleCourtModel", "isNot", "()Z"⟩, 43), (⟨"RuleCourtModel", "stop", "(II)LRuleCourtModel$Stop;"⟩, 43), (⟨"RuleCourtModel", "is", "(I)Z"⟩, 43), (⟨"RuleCourtModel", "readArg", "(Z)I"⟩, 43), (⟨"RuleCourtModel", "thingHere", "()I"⟩, 43), (⟨"RuleCourtModel", "readTerm", "()V"⟩, 43), (⟨"RuleCourtModel", "isBeforeUnlike", "()Z"⟩, 43), (⟨"RuleCourtModel", "layers", "(I)Z"⟩, 43), (⟨"RuleCourtModel", "done", "(I)I"⟩, 43), (⟨"RuleCourtModel", "isKind", "(I)Z"⟩, 43), (⟨"RuleCourtModel", "isAtom", "(I)Z"⟩, 43)]
theorem lw_r3 : ∀ q ∈ lw_privs_3, lw_okq q := List.forall_mem_cons.mpr ⟨lw_p32, List.forall_mem_cons.mpr ⟨lw_p33, List.forall_mem_cons.mpr ⟨lw_p34, List.forall_mem_cons.mpr ⟨lw_p35, List.forall_mem_cons.mpr ⟨lw_p36, List.forall_mem_cons.mpr ⟨lw_p37, List.forall_mem_cons.mpr ⟨lw_p38, List.forall_mem_cons.mpr ⟨lw_p39, List.forall_mem_cons.mpr ⟨lw_p40, List.forall_mem_cons.mpr ⟨lw_p41, List.forall_mem_cons.mpr ⟨lw_p42, List.forall_mem_cons.mpr ⟨lw_p43, List.forall_mem_cons.mpr ⟨lw_p44, List.forall_mem_cons.mpr ⟨lw_p45, List.forall_mem_cons.mpr ⟨lw_p46, List.forall_mem_cons.mpr ⟨lw_p47, fun _ h => absurd h List.not_mem_nil⟩⟩⟩⟩⟩⟩⟩⟩⟩⟩⟩⟩⟩⟩⟩⟩
theorem lw_p48 : lw_okq (⟨"RuleCourtModel", "isRule", "(I)Z"⟩, 43) := ⟨⟨by decide +kernel, by decide +kernel⟩, List.mem_of_getElem? (i := 905) (by decide +kernel), List.mem_of_getElem? (i := 1234) (by decide +kernel), List.mem_of_getElem? (i := 1235) (by decide +kernel)⟩
theorem lw_p49 : lw_okq (⟨"RuleCourtModel", "denied", "(I)Z"⟩, 43) := ⟨⟨by decide +kernel, by decide +kernel⟩, List.mem_of_getElem? (i := 905) (by decide +kernel), List.mem_of_getElem? (i := 1238) (by decide +kernel), List.mem_of_getElem? (i := 1239) (by decide +kernel)⟩
theorem lw_p50 : lw_okq (⟨"RuleCourtModel", "granted", "()Z"⟩, 43) := ⟨⟨by decide +kernel, by decide +kernel⟩, List.mem_of_getElem? (i := 905) (by decide +kernel), List.mem_of_getElem? (i := 1242) (by decide +kernel), List.mem_of_getElem? (i := 1243) (by decide +kernel)⟩
theorem lw_p51 : lw_okq (⟨"RuleCourtModel", "works", "(I)V"⟩, 43) := ⟨⟨by decide +kernel, by decide +kernel⟩, List.mem_of_getElem? (i := 905) (by decide +kernel), List.mem_of_getElem? (i := 1250) (by decide +kernel), List.mem_of_getElem? (i := 1251) (by decide +kernel)⟩
theorem lw_p52 : lw_okq (⟨"RuleCourtModel", "takes", "(LRuleCourtModel$Rule;)V"⟩, 43) := ⟨⟨by decide +kernel, by decide +kernel⟩, List.mem_of_getElem? (i := 905) (by decide +kernel), List.mem_of_getElem? (i := 1255) (by decide +kernel), List.mem_of_getElem? (i := 1256) (by decide +kernel)⟩
theorem lw_p53 : lw_okq (⟨"RuleCourtModel", "goes", "(LRuleCourtModel$Rule;II)V"⟩, 43) := ⟨⟨by decide +kernel, by decide +kernel⟩, List.mem_of_getElem? (i := 905) (by decide +kernel), List.mem_of_getElem? (i := 1259) (by decide +kernel), List.mem_of_getElem? (i := 1260) (by decide +kernel)⟩
theorem lw_p54 : lw_okq (⟨"RuleCourtModel", "hold", "(LRuleCourtModel$Rule;)Z"⟩, 43) := ⟨⟨by decide +kernel, by decide +kernel⟩, List.mem_of_getElem? (i := 905) (by decide +kernel), List.mem_of_getElem? (i := 1263) (by decide +kernel), List.mem_of_getElem? (i := 1264) (by decide +kernel)⟩
theorem lw_p55 : lw_okq (⟨"RuleCourtModel", "holds", "(LRuleCourtModel$Rule;I)Z"⟩, 43) := ⟨⟨by decide +kernel, by decide +kernel⟩, List.mem_of_getElem? (i := 905) (by decide +kernel), List.mem_of_getElem? (i := 1267) (by decide +kernel), List.mem_of_getElem? (i := 1268) (by decide +kernel)⟩
theorem lw_p56 : lw_okq (⟨"RuleCourtModel", "argOf", "(I)I"⟩, 43) := ⟨⟨by decide +kernel, by decide +kernel⟩, List.mem_of_getElem? (i := 905) (by decide +kernel), List.mem_of_getElem? (i := 1271) (by decide +kernel), List.mem_of_getElem? (i := 1272) (by decide +kernel)⟩
theorem lw_p57 : lw_okq (⟨"RuleCourtModel", "atomOf", "(LRuleCourtModel$Rule;I)I"⟩, 43) := ⟨⟨by decide +kernel, by decide +kernel⟩, List.mem_of_getElem? (i := 905) (by decide +kernel), List.mem_of_getElem? (i := 1275) (by decide +kernel), List.mem_of_getElem? (i := 1276) (by decide +kernel)⟩
theorem lw_p58 : lw_okq (⟨"RuleCourtModel", "fits", "(II)Z"⟩, 43) := ⟨⟨by decide +kernel, by decide +kernel⟩, List.mem_of_getElem? (i := 905) (by decide +kernel), List.mem_of_getElem? (i := 1279) (by decide +kernel), List.mem_of_getElem? (i := 1280) (by decide +kernel)⟩
theorem lw_p59 : lw_okq (⟨"RuleCourtModel", "oneOf", "(II)I"⟩, 43) := ⟨⟨by decide +kernel, by decide +kernel⟩, List.mem_of_getElem? (i := 905) (by decide +kernel), List.mem_of_getElem? (i := 1287) (by decide +kernel), List.mem_of_getElem? (i := 1288) (by decide +kernel)⟩
theorem lw_p60 : lw_okq (⟨"RuleCourtModel", "ways", "(LRuleCourtModel$Rule;)I"⟩, 43) := ⟨⟨by decide +kernel, by decide +kernel⟩, List.mem_of_getElem? (i := 905) (by decide +kernel), List.mem_of_getElem? (i := 1303) (by decide +kernel), List.mem_of_getElem? (i := 1304) (by decide +kernel)⟩
theorem lw_p61 : lw_okq (⟨"RuleCourtModel", "gives", "(LRuleCourtModel$Rule;I)V"⟩, 43) := ⟨⟨by decide +kernel, by decide +kernel⟩, List.mem_of_getElem? (i := 905) (by decide +kernel), List.mem_of_getElem? (i := 1307) (by decide +kernel), List.mem_of_getElem? (i := 1308) (by decide +kernel)⟩
theorem lw_p62 : lw_okq (⟨"RuleCourtModel", "leads", "(LRuleCourtModel$Rule;II)Z"⟩, 43) := ⟨⟨by decide +kernel, by decide +kernel⟩, List.mem_of_getElem? (i := 905) (by decide +kernel), List.mem_of_getElem? (i := 1311) (by decide +kernel), List.mem_of_getElem? (i := 1312) (by decide +kernel)⟩
theorem lw_p63 : lw_okq (⟨"RuleCourtModel", "isIdle", "(LRuleCourtModel$Rule;)Z"⟩, 43) := ⟨⟨by decide +kernel, by decide +kernel⟩, List.mem_of_getElem? (i := 905) (by decide +kernel), List.mem_of_getElem? (i := 1327) (by decide +kernel), List.mem_of_getElem? (i := 1328) (by decide +kernel)⟩
def lw_privs_4 : List (MethodName × Nat) := [(⟨"RuleCourtModel", "isRule", "(I)Z"⟩, 43), (⟨"RuleCourtModel", "denied", "(I)Z"⟩, 43), (⟨"RuleCourtModel", "granted", "()Z"⟩, 43), (⟨"RuleCourtModel", "works", "(I)V"⟩, 43), (⟨"RuleCourtModel", "takes", "(LRuleCourtModel$Rule;)V"⟩, 43), (⟨"RuleCourtModel", "goes", "(LRuleCourtModel$Rule;II)V"⟩, 43), (⟨"RuleCourtModel", "hold", "(LRuleCourtModel$Rule;)Z"⟩, 43), (⟨"RuleCourtModel", "holds", "(LRuleCourtModel$Rule;I)Z"⟩, 43), (⟨"RuleCourtModel", "argOf", "(I)I"⟩, 43), (⟨"RuleCourtModel", "atomOf", "(LRuleCourtModel$Rule;I)I"⟩, 43), (⟨"RuleCourtModel", "fits", "(II)Z"⟩, 43), (⟨"RuleCourtModel", "oneOf", "(II)I"⟩, 43), (⟨"RuleCourtModel", "ways", "(LRuleCourtModel$Rule;)I"⟩, 43), (⟨"RuleCourtModel", "gives", "(LRuleCourtModel$Rule;I)V"⟩, 43), (⟨"RuleCourtModel", "leads", "(LRuleCourtModel$Rule;II)Z"⟩, 43), (⟨"RuleCourtModel", "isIdle", "(LRuleCourtModel$Rule;)Z"⟩, 43)]
theorem lw_r4 : ∀ q ∈ lw_privs_4, lw_okq q := List.forall_mem_cons.mpr ⟨lw_p48, List.forall_mem_cons.mpr ⟨lw_p49, List.forall_mem_cons.mpr ⟨lw_p50, List.forall_mem_cons.mpr ⟨lw_p51, List.forall_mem_cons.mpr ⟨lw_p52, List.forall_mem_cons.mpr ⟨lw_p53, List.forall_mem_cons.mpr ⟨lw_p54, List.forall_mem_cons.mpr ⟨lw_p55, List.forall_mem_cons.mpr ⟨lw_p56, List.forall_mem_cons.mpr ⟨lw_p57, List.forall_mem_cons.mpr ⟨lw_p58, List.forall_mem_cons.mpr ⟨lw_p59, List.forall_mem_cons.mpr ⟨lw_p60, List.forall_mem_cons.mpr ⟨lw_p61, List.forall_mem_cons.mpr ⟨lw_p62, List.forall_mem_cons.mpr ⟨lw_p63, fun _ h => absurd h List.not_mem_nil⟩⟩⟩⟩⟩⟩⟩⟩⟩⟩⟩⟩⟩⟩⟩⟩
theorem lw_p64 : lw_okq (⟨"RuleCourtModel", "isSpare", "(I)Z"⟩, 43) := ⟨⟨by decide +kernel, by decide +kernel⟩, List.mem_of_getElem? (i := 905) (by decide +kernel), List.mem_of_getElem? (i := 1331) (by decide +kernel), List.mem_of_getElem? (i := 1332) (by decide +kernel)⟩
theorem lw_p65 : lw_okq (⟨"RuleCourtModel", "remembers", "()V"⟩, 43) := ⟨⟨by decide +kernel, by decide +kernel⟩, List.mem_of_getElem? (i := 905) (by decide +kernel), List.mem_of_getElem? (i := 1335) (by decide +kernel), List.mem_of_getElem? (i := 1336) (by decide +kernel)⟩
theorem lw_p66 : lw_okq (⟨"RuleCourtModel", "loses", "(IIII)Z"⟩, 43) := ⟨⟨by decide +kernel, by decide +kernel⟩, List.mem_of_getElem? (i := 905) (by decide +kernel), List.mem_of_getElem? (i := 1347) (by decide +kernel), List.mem_of_getElem? (i := 1348) (by decide +kernel)⟩
def lw_privs_5 : List (MethodName × Nat) := [(⟨"RuleCourtModel", "isSpare", "(I)Z"⟩, 43), (⟨"RuleCourtModel", "remembers", "()V"⟩, 43), (⟨"RuleCourtModel", "loses", "(IIII)Z"⟩, 43)]
theorem lw_r5 : ∀ q ∈ lw_privs_5, lw_okq q := List.forall_mem_cons.mpr ⟨lw_p64, List.forall_mem_cons.mpr ⟨lw_p65, List.forall_mem_cons.mpr ⟨lw_p66, fun _ h => absurd h List.not_mem_nil⟩⟩⟩
def lw_privs : List (MethodName × Nat) := lw_privs_1 ++ (lw_privs_2 ++ (lw_privs_3 ++ (lw_privs_4 ++ (lw_privs_5))))
def lw_tbl : List Cond := k2_sels lw_privs ++ tables_1
theorem lw_privs_ok : ∀ q ∈ lw_privs, lw_okq q := by
  show ∀ q ∈ lw_privs_1 ++ (lw_privs_2 ++ (lw_privs_3 ++ (lw_privs_4 ++ (lw_privs_5)))), lw_okq q
  exact List.forall_mem_append.mpr ⟨lw_r1, List.forall_mem_append.mpr ⟨lw_r2, List.forall_mem_append.mpr ⟨lw_r3, List.forall_mem_append.mpr ⟨lw_r4, lw_r5⟩⟩⟩⟩
end
section
/-! ===== BEGIN words of one list among another's, by their places ===== -/
theorem goodIn_r {big : List Cond} (ws : List Cond) (ps : List Nat) (hp : ws = ps.filterMap (fun i => big[i]?)) (h : ws.all goodWord = true) : GoodIn big ws := by
  intro w hw
  have h1 := List.all_eq_true.mp h w hw
  rw [hp] at hw
  obtain ⟨i, -, hi⟩ := List.mem_filterMap.mp hw
  have hm : w ∈ big := by first | exact List.mem_of_getElem? hi | exact List.getElem?_mem hi
  exact ⟨hm, good_of_word h1⟩
theorem goodIn_app {big a b : List Cond} (ha : GoodIn big a) (hb : GoodIn big b) : GoodIn big (a ++ b) := fun w h => (List.mem_append.mp h).elim (ha w) (hb w)
theorem goodIn_ca {big a b : List Cond} {c : Cond} (ha : GoodIn big (c :: a)) (hb : GoodIn big b) : GoodIn big (c :: (a ++ b)) := fun w h => (List.mem_cons.mp h).elim (fun e => ha w (List.mem_cons.mpr (Or.inl e))) (fun h => (List.mem_append.mp h).elim (fun h => ha w (List.mem_cons.mpr (Or.inr h))) (hb w))
theorem goodIn_sub {big ws : List Cond} (hm : ∀ w ∈ ws, w ∈ big) (h : ws.all goodWord = true) : GoodIn big ws := fun w hw => ⟨hm w hw, good_of_word (List.all_eq_true.mp h w hw)⟩
/-! ===== END ===== -/

/-! ===== BEGIN exceptions that leave a method, and their catching by the caller (launches without stack traces) ===== -/
section VXA
/-! The laws vx_back, vx_callV, vx_callS, vx_callSW, vx_throw0, vx_throwS follow proofs of the library, with one case more: JvmDerived/Free/Laws.lean (Back.of_free), Shelf42/LK1.lean (callV, callS), Shelf/KitTraced.lean (throwNew0V, throwNewS). -/
/-- where a method has thrown q: the class by its name, the cell, what was written, the world -/
def vx_T (XC : String → State → State → Prop) (st : State) (q : Addr) (t : State) (mc ms : Nat) (free : Addr → Prop) : Prop :=
  ∃ (E : String) (ce : Cell) (L : List Loc), XC E st t ∧ t.heap[q]? = some ce ∧ ce.vm = .none ∧ st.vm.findClass E = some ce.cls ∧ st.WarmedH t.vm ∧ st.sameButNew ({ t with vm := st.vm } : State) L mc ms ∧ ∀ z ∈ L, free z.base
def vx_Q (Qc : Array Value → State → Outcome → State → Prop) (XC : String → State → State → Prop) (mc ms : Nat) (free : Addr → Prop) : Array Value → State → Outcome → State → Prop := fun a st o t =>
  (Qc a st o t ∧ ∃ L, FrameEnd st o t L mc ms ∧ ∀ q ∈ L, free q.base) ∨ ∃ q, o = .threw q ∧ vx_T XC st q t mc ms free
/-- a callee that returns or throws -/
def vx_Met (l : Launch) (y : MethodName) (ws : List Cond) (rm : Room) (Pc : Array Value → State → Prop) (Qc : Array Value → State → Outcome → State → Prop) (XC : String → State → State → Prop) (mc ms : Nat) (free : Addr → Prop) : Prop :=
  MetFree l y (headSpec ws rm) Pc (fun _ _ _ _ _ => True) (vx_Q Qc XC mc ms free)
def vx_Post (XC : String → State → State → Prop) (mc ms : Nat) (free : Addr → Prop) : Pt → Array Value → Addr → Pt → Prop := fun A a q B =>
  ∃ (g : JFrame) (mk : MethodId) (t : State) (L : List Loc) (E : String) (ce : Cell), B.U.heap = t.heap ∧ B.U.vm = t.vm ∧ XC E (A.U.calling g mk a) t ∧ t.heap[q]? = some ce ∧ ce.vm = .none ∧ A.U.vm.findClass E = some ce.cls ∧ B.locs = A.locs ++ L ∧ (∀ z ∈ L, free z.base) ∧ B.cells = A.cells + mc ∧ B.slots = A.slots + ms
def vx_Back (l : Launch) (R : Room) (p : Program) (e : Env) (below : List Frame) (s : State) (sargs : Array Value) (y : MethodName) (len W9 : Nat)
    (Pre : Pt → Array Value → Prop) (Post : Pt → Array Value → Option Value → Pt → Prop) (PostX : Pt → Array Value → Addr → Pt → Prop) : Prop :=
  ∀ (m : MethodId) (meth : Method) (c : Code) (A : Pt) (g : JFrame) (ig : Instr) (mk : MethodId) (a : Array Value),
    Stand p l e R s m sargs below meth c A.U A.locs A.cells A.slots → g.method = m → g.locals.size = c.maxLocals → decode c.code g.pc = .ok (ig, len) →
    2 * g.monitorRoom + (g.stack.map fun v => v.category).sum ≤ W9 → A.U.methodNamed? y = some mk → Pre A a →
    (∃ (v : Option Value) (B : Pt), Stand p l e R s m sargs below meth c B.U B.locs B.cells B.slots ∧ Post A a v B ∧
      Steps p.tables e below (doInvoke e (A.U.setTop g) [] mk a).1 (B.U.setTop { g with pc := g.pc + len, stack := v.toList ++ g.stack })) ∨
    (∃ (q : Addr) (B : Pt), Stand p l e R s m sargs below meth c B.U B.locs B.cells B.slots ∧ PostX A a q B ∧
      Steps p.tables e below (doInvoke e (A.U.setTop g) [] mk a).1 ((B.U.setTop g).pushFrame (.throwing q)))
section Payer
variable {l : Launch} {R : Room} {p : Program} {e : Env} {below : List Frame} {s : State} {sargs : Array Value} {y : MethodName} {len W9 : Nat}
theorem vx_back {ws : List Cond} {rm : Room} {Pc : Array Value → State → Prop} {Qc : Array Value → State → Outcome → State → Prop} {XC : String → State → State → Prop} {mc ms : Nat} {free : Addr → Prop} {bytes : ByteArray} {maxL : Nat} {ret : Option FieldType}
    (hM : vx_Met l y ws rm Pc Qc XC mc ms free) (hblind : FrameBlind Pc) (hrc : rm.cells = mc) (hrs : rm.slots = ms)
    (hframes : rm.frames + 1 ≤ R.frames) (hlocals : W9 + (maxL + 11) + rm.locals ≤ R.locals)
    (hws : ∀ w ∈ ws, ∀ a' U, s.WarmedH U.vm → w.before a' U = true) (hcode : Cond.code y bytes maxL ret ∈ ws) (hinit : ∀ a' U, s.WarmedH U.vm → (Cond.initialized y.cls).before a' U = true) :
    vx_Back l R p e below s sargs y len W9 (PreOf R mc ms Pc) (PostOf Qc mc ms free) (vx_Post XC mc ms free) := by
  intro m meth c A g ig mk a X hg hsize hdg hW hn hp
  have h1 : (headSpec ws rm).pre.before a A.U = true := atoms_intro fun w hw => hws w hw _ _ X.warmed
  have h2 : (Cond.code y bytes maxL ret).before a A.U = true := hws _ hcode _ _ X.warmed
  have h3 : (Cond.initialized y.cls).before a A.U = true := hinit _ _ X.warmed
  have h4 : A.cells + (headSpec ws rm).room.cells ≤ R.cells := by rw [show (headSpec ws rm).room.cells = mc from hrc]; exact hp.1
  have h5 : A.slots + (headSpec ws rm).room.slots ≤ R.slots := by rw [show (headSpec ws rm).room.slots = ms from hrs]; exact hp.2.1
  have hPc : Pc a (A.U.calling g mk a) := hblind _ _ _ _ hp.2.2
  obtain ⟨U, Ls, c0, s0⟩ := A
  dsimp only [Pt.U, Pt.locs, Pt.cells, Pt.slots] at h1 h2 h3 h4 h5 X hn hPc ⊢
  obtain ⟨methY, cY, hmY, hcY, -, hlY, -, -, -, -⟩ := Cond.code_spec hn h2
  obtain ⟨kY, hkY, -⟩ := className_of_methodNamed hn
  have hinitY : kY.init = .initialized := Cond.initialized_spec (findClass_of_methodNamed hn) hkY h3
  have h : At U g.method c below := by rw [hg]; exact X.here
  have hlocals9 : W9 + (maxL + 11) + (headSpec ws rm).room.locals ≤ R.locals := hlocals
  have happ : (headSpec ws rm).appliesLoose y e.platform (U.calling g mk a) = true :=
    Spec.appliesLoose_calling (g := g) h hdg hn hkY hinitY
      (X.room_calling (g := g) (R' := (headSpec ws rm).room) hsize hmY hcY hframes (by rw [hlY]; omega) h4 h5) h1
  obtain ⟨mid, hmid⟩ := h.above
  have hfr : (U.setTop g).frames = (.java g :: mid) ++ below := by rw [State.frames_setTop' g h.top, hmid]; rfl
  obtain ⟨o, s₂, hsteps, -, hend, hq⟩ := Steps.callFree hM p X.admits X.cas X.clock (acts := []) hfr happ hPc trivial
  have hq' : vx_Q Qc XC mc ms free a (U.calling g mk a) o s₂ := hq
  rw [State.frames_setTop' g h.top] at hend
  obtain ⟨g₀, hg0⟩ := Option.isSome_iff_exists.mp h.top
  obtain ⟨r, hr⟩ := State.topJava?_eq_some.mp hg0
  have hr' : (({ U with heap := s₂.heap, slotsUsed := s₂.slotsUsed } : State).setVm s₂.vm).frames = .java g₀ :: r := hr
  rcases hq' with ⟨hqc, L, hfe, hL⟩ | ⟨q, rfl, E, ce, L, hx, hce, hcv, hcl, hW₂, hsm, hL⟩
  · obtain ⟨⟨v, rfl⟩, hW₂, e2, q2, q3, q4, q5, q6⟩ := id hfe
    have e3 : s₂ = ({ (U.calling g mk a).setFrames s₂.frames with heap := s₂.heap, slotsUsed := s₂.slotsUsed } : State).setVm s₂.vm := by
      have : s₂ = ({ s₂ with vm := (U.calling g mk a).vm } : State).setVm s₂.vm := rfl
      rw [e2] at this
      exact this
    obtain ⟨c₂, i₂, len₂, hc₂, hd₂, hf₂⟩ := hend
    have hW' : U.WarmedH s₂.vm := hW₂
    have hcc : c₂ = c := by
      have h1 : s₂.code? g.method = U.code? g.method := by
        rw [State.code?_eq, State.code?_eq, hW'.alike.method?]
      exact Option.some.inj (hc₂.symm.trans (h1.trans h.code))
    subst hcc
    have hlen : len₂ = len := by rw [hdg] at hd₂; cases hd₂; rfl
    subst hlen
    have hs₂ : s₂ = (({ U with heap := s₂.heap, slotsUsed := s₂.slotsUsed } : State).setVm s₂.vm).setTop { g with pc := g.pc + len₂, stack := v.toList ++ g.stack } := by
      refine e3.trans ?_
      rw [hf₂, State.calling_eq h.top, State.setFrames_setFrames, State.setTop_of_frames _ hr', hr]
      rfl
    have hsame : U.sameButNew ({ U with heap := s₂.heap, slotsUsed := s₂.slotsUsed } : State) L mc ms := by
      refine ⟨?_, q2, q3, q4, q5, q6⟩
      obtain ⟨t, ht, -⟩ := State.frames_cons hr
      show ({ U with heap := s₂.heap, slotsUsed := s₂.slotsUsed } : State) = { U.setFrames U.frames with heap := s₂.heap, slotsUsed := s₂.slotsUsed }
      rw [State.setFrames_self ht]
    subst hg
    refine Or.inl ⟨v, ⟨(({ U with heap := s₂.heap, slotsUsed := s₂.slotsUsed } : State).setVm s₂.vm), Ls ++ L, c0 + mc, s0 + ms⟩,
      ⟨X.admits, X.cas, X.clock, X.frames, X.room, X.hears, X.method, X.code, (X.here.setHeapUsed s₂.heap s₂.slotsUsed).setVm hW'.alike, X.tail, State.WarmedH.trans X.warmed hW', X.limits, X.bytes, X.same.trans (hsame.setVm s.vm)⟩,
      ⟨g, mk, s₂, L, rfl, rfl, hqc, rfl, hL, rfl, rfl⟩, ?_⟩
    show Steps p.tables e below _ ((({ U with heap := s₂.heap, slotsUsed := s₂.slotsUsed } : State).setVm s₂.vm).setTop { g with pc := g.pc + len₂, stack := v.toList ++ g.stack })
    rw [← hs₂]
    exact hsteps
  · obtain ⟨e2, q2, q3, q4, q5, q6⟩ := id hsm
    have e3 : s₂ = ({ (U.calling g mk a).setFrames s₂.frames with heap := s₂.heap, slotsUsed := s₂.slotsUsed } : State).setVm s₂.vm := by
      have : s₂ = ({ s₂ with vm := (U.calling g mk a).vm } : State).setVm s₂.vm := rfl
      rw [e2] at this
      exact this
    have hf₂ : s₂.frames = .throwing q :: .java g :: U.frames.tail := hend
    have hW' : U.WarmedH s₂.vm := hW₂
    have hs₂ : s₂ = ((({ U with heap := s₂.heap, slotsUsed := s₂.slotsUsed } : State).setVm s₂.vm).setTop g).pushFrame (.throwing q) := by
      refine e3.trans ?_
      rw [hf₂, State.calling_eq h.top, State.setFrames_setFrames, State.pushFrame, State.frames_setTop _ hr', State.setTop_of_frames _ hr', State.setFrames_setFrames, hr]
      rfl
    have hsame : U.sameButNew ({ U with heap := s₂.heap, slotsUsed := s₂.slotsUsed } : State) L mc ms := by
      refine ⟨?_, q2, q3, q4, q5, q6⟩
      obtain ⟨t, ht, -⟩ := State.frames_cons hr
      show ({ U with heap := s₂.heap, slotsUsed := s₂.slotsUsed } : State) = { U.setFrames U.frames with heap := s₂.heap, slotsUsed := s₂.slotsUsed }
      rw [State.setFrames_self ht]
    subst hg
    refine Or.inr ⟨q, ⟨(({ U with heap := s₂.heap, slotsUsed := s₂.slotsUsed } : State).setVm s₂.vm), Ls ++ L, c0 + mc, s0 + ms⟩,
      ⟨X.admits, X.cas, X.clock, X.frames, X.room, X.hears, X.method, X.code, (X.here.setHeapUsed s₂.heap s₂.slotsUsed).setVm hW'.alike, X.tail, State.WarmedH.trans X.warmed hW', X.limits, X.bytes, X.same.trans (hsame.setVm s.vm)⟩,
      ⟨g, mk, s₂, L, E, ce, rfl, rfl, hx, hce, hcv, hcl, rfl, hL, rfl, rfl⟩, ?_⟩
    show Steps p.tables e below _ (((({ U with heap := s₂.heap, slotsUsed := s₂.slotsUsed } : State).setVm s₂.vm).setTop g).pushFrame (.throwing q))
    rw [← hs₂]
    exact hsteps
end Payer
section Calls
variable {p : Program} {l : Launch} {e : Env} {R : Room} {s : State} {m : MethodId} {args : Array Value} {below : List Frame} {meth : Method} {c : Code} {T : State} {locs : List Loc} {cells slots : Nat}
theorem vx_callV (X : Stand p l e R s m args below meth c T locs cells slots) (hexec : p.tables.exec = Jvm.exec) {own C : String} {index : Nat} {y : MethodName} {bytes : ByteArray} {maxL : Nat} {ret : Option FieldType}
    (hown : s.vm.findClass own = some m.cls) (hlink : (Cond.methodLink own index y).before args s = true) (hinst : (Cond.instanceMethod y).before args s = true) (hsel : (Cond.selects C y y).before args s = true)
    (hcode : (Cond.code y bytes maxL ret).before args s = true) (hy : y.cls ≠ "java/lang/invoke/MethodHandle" ∧ y.cls ≠ "java/lang/invoke/VarHandle")
    {W9 : Nat} {Pre : Pt → Array Value → Prop} {Post : Pt → Array Value → Option Value → Pt → Prop} {PostX : Pt → Array Value → Addr → Pt → Prop} (hK : vx_Back l R p e below s args y 3 W9 Pre Post PostX)
    {b : Addr} {cellB : Cell} (hcell : T.heap[b]? = some cellB) (hobj : cellB.vm.isStatics = false) (hcls : s.vm.findClass C = some cellB.cls)
    {g : JFrame} (hg : g.method = m) (hsize : g.locals.size = c.maxLocals) {argsL rest : List Value} (hlen : ∀ sig, parseMethodDescriptor y.desc = some sig → argsL.length = sig.parameters.length)
    (hstack : g.stack = argsL.reverse ++ .ref b :: rest) (hW : 2 * g.monitorRoom + (rest.map fun v => v.category).sum ≤ W9) (hdg : decode c.code g.pc = .ok (.invokevirtual index, 3))
    (hpre : ∀ vm₁, s.WarmedH vm₁ → Pre ⟨T.setVm vm₁, locs, cells, slots⟩ (Value.ref b :: argsL).toArray) :
    (∃ (v : Option Value) (vm₁ : Vm) (B : Pt), s.WarmedH vm₁ ∧ Stand p l e R s m args below meth c B.U B.locs B.cells B.slots ∧ Post ⟨T.setVm vm₁, locs, cells, slots⟩ (Value.ref b :: argsL).toArray v B ∧
      ∀ target, Steps p.tables e below (B.U.setTop { g with pc := g.pc + 3, stack := v.toList ++ rest }) target → Steps p.tables e below (T.setTop g) target) ∨
    (∃ (q : Addr) (vm₁ : Vm) (B : Pt), s.WarmedH vm₁ ∧ Stand p l e R s m args below meth c B.U B.locs B.cells B.slots ∧ PostX ⟨T.setVm vm₁, locs, cells, slots⟩ (Value.ref b :: argsL).toArray q B ∧
      Steps p.tables e below (T.setTop g) ((B.U.setTop { g with stack := rest }).pushFrame (.throwing q))) := by
  obtain ⟨mk, methM, hnamed, hmethM, hstM, habM⟩ := Cond.instanceMethod_spec hinst
  obtain ⟨methM', cM, hmethM', -, -, -, -, -, -, hsigM⟩ := Cond.code_spec hnamed hcode
  cases hmethM.symm.trans hmethM'
  obtain ⟨c2, r2, m2, q1, q2, q3, q4, kP, hkP, hkPi⟩ := Cond.selects_spec hsel
  cases hcls.symm.trans q1
  cases (State.methodFound?_of_named hnamed hy).symm.trans q2
  cases hnamed.symm.trans q3
  have hselP : selectMethod e.platform s.vm cellB.cls mk = .method mk := by rw [Launch.admits_selectMethod X.admits]; exact q4
  obtain ⟨vm₁, X₁, hstep₁⟩ := X.invokevirtual hexec hown hlink hnamed hmethM hstM hkP hkPi hy (a := b) (cell := cellB) hcell
    (fun z h => by rw [h] at hobj; cases hobj) hselP hmethM habM hkP hkPi (g := g) hg (argsL := argsL) (rest := rest) (hlen _ hsigM) hstack hdg
  rcases hK m meth c ⟨T.setVm vm₁, locs, cells, slots⟩ { g with stack := rest } (.invokevirtual index) mk (Value.ref b :: argsL).toArray X₁ hg hsize hdg hW (X₁.named hnamed) (hpre vm₁ X₁.warmed) with ⟨v, B, X', hpost, hsteps⟩ | ⟨q, B, X', hpost, hsteps⟩
  · exact Or.inl ⟨v, vm₁, B, X₁.warmed, X', hpost, fun target h => hstep₁ _ fun acts => by rw [doInvoke_state]; exact hsteps.trans h⟩
  · exact Or.inr ⟨q, vm₁, B, X₁.warmed, X', hpost, hstep₁ _ fun acts => by rw [doInvoke_state]; exact hsteps⟩
theorem vx_callS (X : Stand p l e R s m args below meth c T locs cells slots) (hexec : p.tables.exec = Jvm.exec) {own : String} {index : Nat} {y : MethodName} {bytes : ByteArray} {maxL : Nat} {ret : Option FieldType}
    (hown : s.vm.findClass own = some m.cls) (hlink : (Cond.methodLink own index y).before args s = true) (hstat : (Cond.static y).before args s = true) (hinit : (Cond.initialized y.cls).before args s = true)
    (hcode : (Cond.code y bytes maxL ret).before args s = true) (hy : y.cls ≠ "java/lang/invoke/MethodHandle" ∧ y.cls ≠ "java/lang/invoke/VarHandle")
    {W9 : Nat} {Pre : Pt → Array Value → Prop} {Post : Pt → Array Value → Option Value → Pt → Prop} {PostX : Pt → Array Value → Addr → Pt → Prop} (hK : vx_Back l R p e below s args y 3 W9 Pre Post PostX)
    {g : JFrame} (hg : g.method = m) (hsize : g.locals.size = c.maxLocals) {argsL rest : List Value} (hlen : ∀ sig, parseMethodDescriptor y.desc = some sig → argsL.length = sig.parameters.length)
    (hstack : g.stack = argsL.reverse ++ rest) (hW : 2 * g.monitorRoom + (rest.map fun v => v.category).sum ≤ W9) (hdg : decode c.code g.pc = .ok (.invokestatic index, 3))
    (hpre : ∀ vm₁, s.WarmedH vm₁ → Pre ⟨T.setVm vm₁, locs, cells, slots⟩ argsL.toArray) :
    (∃ (v : Option Value) (vm₁ : Vm) (B : Pt), s.WarmedH vm₁ ∧ Stand p l e R s m args below meth c B.U B.locs B.cells B.slots ∧ Post ⟨T.setVm vm₁, locs, cells, slots⟩ argsL.toArray v B ∧
      ∀ target, Steps p.tables e below (B.U.setTop { g with pc := g.pc + 3, stack := v.toList ++ rest }) target → Steps p.tables e below (T.setTop g) target) ∨
    (∃ (q : Addr) (vm₁ : Vm) (B : Pt), s.WarmedH vm₁ ∧ Stand p l e R s m args below meth c B.U B.locs B.cells B.slots ∧ PostX ⟨T.setVm vm₁, locs, cells, slots⟩ argsL.toArray q B ∧
      Steps p.tables e below (T.setTop g) ((B.U.setTop { g with stack := rest }).pushFrame (.throwing q))) := by
  obtain ⟨mk, hnamed⟩ := Cond.code_named hcode
  obtain ⟨methM, cM, hmethM, -, -, -, -, -, -, hsigM⟩ := Cond.code_spec hnamed hcode
  have hstatic : methM.isStatic = true := Cond.static_spec hnamed hmethM hstat
  obtain ⟨kP, hkP, -⟩ := className_of_methodNamed hnamed
  have hinitP : kP.init = .initialized := Cond.initialized_spec (findClass_of_methodNamed hnamed) hkP hinit
  obtain ⟨vm₁, X₁, hstep₁⟩ := X.invokestatic hexec hown hlink hnamed hmethM hstatic hkP hinitP hy (g := g) hg (argsL := argsL) (rest := rest) (hlen _ hsigM) hstack hdg
  rcases hK m meth c ⟨T.setVm vm₁, locs, cells, slots⟩ { g with stack := rest } (.invokestatic index) mk argsL.toArray X₁ hg hsize hdg hW (X₁.named hnamed) (hpre vm₁ X₁.warmed) with ⟨v, B, X', hpost, hsteps⟩ | ⟨q, B, X', hpost, hsteps⟩
  · exact Or.inl ⟨v, vm₁, B, X₁.warmed, X', hpost, fun target h => hstep₁ _ fun acts => by rw [doInvoke_state]; exact hsteps.trans h⟩
  · exact Or.inr ⟨q, vm₁, B, X₁.warmed, X', hpost, hstep₁ _ fun acts => by rw [doInvoke_state]; exact hsteps⟩
end Calls
theorem vx_cls {s : State} {T : State} {vm₁ : Vm} {E : String} {k : ClassId} (hW : s.WarmedH vm₁) (h : (T.setVm vm₁).vm.findClass E = some k) : s.vm.findClass E = some k := by
  have h1 : vm₁.findClass E = some k := h
  rw [hW.alike.findClass] at h1
  exact h1
/-- the method's frame g, with q thrown over it -/
def vx_W (p : Program) (l : Launch) (e : Env) (R : Room) (s : State) (m : MethodId) (args : Array Value) (below : List Frame) (meth : Method) (c : Code) (H : Heap) (locs : List Loc) (cells slots : Nat) (Q : State → Prop) (g : JFrame) (q : Addr) : Prop :=
  ∀ T : State, T.heap = H → Stand p l e R s m args below meth c T locs cells slots → ∃ t, Steps p.tables e below ((T.setTop g).pushFrame (.throwing q)) t ∧ Q t
def vx_Run (p : Program) (l : Launch) (e : Env) (R : Room) (s : State) (m : MethodId) (args : Array Value) (below : List Frame) (meth : Method) (c : Code) (H : Heap) (locs : List Loc) (cells slots mc ms : Nat) (g : JFrame) (rest : List Value) (Qa : State → Outcome → State → Prop) (XC : String → State → State → Prop) (free : Addr → Prop) : Prop :=
  ∀ T : State, T.heap = H → Stand p l e R s m args below meth c T locs cells slots →
    (∃ (v : Option Value) (st₀ t T' : State) (L : List Loc), st₀.heap = H ∧ Stand p l e R s m args below meth c T' (locs ++ L) (cells + mc) (slots + ms) ∧ (∀ q ∈ L, free q.base) ∧ T'.heap = t.heap ∧ T'.vm = t.vm ∧ Qa st₀ (.returned v) t ∧
      Goes p e below T g T' { g with pc := g.pc + 3, stack := v.toList ++ rest }) ∨
    (∃ (q : Addr) (st₀ t T' : State) (L : List Loc) (E : String) (ce : Cell), st₀.heap = H ∧ Stand p l e R s m args below meth c T' (locs ++ L) (cells + mc) (slots + ms) ∧ (∀ z ∈ L, free z.base) ∧ T'.heap = t.heap ∧ T'.vm = t.vm ∧ XC E st₀ t ∧ t.heap[q]? = some ce ∧ ce.vm = .none ∧ s.vm.findClass E = some ce.cls ∧
      Steps p.tables e below (T.setTop g) ((T'.setTop { g with stack := rest }).pushFrame (.throwing q)))
def vx_X {S : Type} (px : S → Prop) (B : String → S → State → Prop) (A : Nat → Prop) : String → State → State → Prop := fun E st t => ∃ u : S, px u ∧ B E u t ∧ va_F A st t
section Runs
variable {p : Program} {l : Launch} {e : Env} {R : Room} {s : State} {m : MethodId} {args : Array Value} {below : List Frame} {meth : Method} {c : Code} {H : Heap} {locs : List Loc} {cells slots : Nat}
variable {y : MethodName} {bytes cc : ByteArray} {maxL nL mc ms n index : Nat} {ret : Option FieldType} {ws : List Cond} {rm : Room} {Pc : Array Value → State → Prop} {Qc : Array Value → State → Outcome → State → Prop} {XC : String → State → State → Prop} {free : Addr → Prop} {Ts : List Cond} {own C : String} {b : Addr} {As rest : List Value} {g : JFrame}
theorem vx_callBack (cb : CallB R s args own index y bytes maxL ret ws rm mc ms n) (hM : vx_Met l y ws rm Pc Qc XC mc ms free) (hbl : FrameBlind Pc) : vx_Back l R p e below s args y 3 8 (PreOf R mc ms Pc) (PostOf Qc mc ms free) (vx_Post XC mc ms free) := by
  obtain ⟨hrc, hrs, hfr, hlo, hws, hcw, -, hini, -⟩ := cb
  exact vx_back (bytes := bytes) (maxL := maxL) (ret := ret) hM hbl hrc hrs hfr hlo hws hcw (fun a' U hW => word_at hW (Or.inl (by first | rfl | simp [Cond.onTables, Cond.keeps, Cond.steady])) hini)
theorem vx_runV (S : CallFix p m c cc nL s args Ts own) (hM : vx_Met l y ws rm Pc Qc XC mc ms free) (cw : CallW R s args own C index y bytes maxL ret ws rm mc ms n) (hp : PreV s H C b Pc As)
    (hg : g.method = m) (hn : As.length = n) (hsize : g.locals.size = nL) (hstack : g.stack = As.reverse ++ .ref b :: rest) (hW : 2 * g.monitorRoom + (rest.map fun v => v.category).sum ≤ 8) (hdg : decode cc g.pc = .ok (.invokevirtual index, 3)) (hf : cells + mc ≤ R.cells ∧ slots + ms ≤ R.slots) :
    vx_Run p l e R s m args below meth c H locs cells slots mc ms g rest (Qc (Value.ref b :: As).toArray) XC free := by
  have hK : vx_Back l R p e below s args y 3 8 (PreOf R mc ms Pc) (PostOf Qc mc ms free) (vx_Post XC mc ms free) := vx_callBack cw.1 hM hp.1
  obtain ⟨⟨-, -, -, -, -, -, hcode, -, hy, hlen, hl⟩, hin, hse⟩ := cw
  obtain ⟨hx, hb, hml, ho, -⟩ := S
  obtain ⟨-, ⟨cellB, hcB, hoB, hclB⟩, hPc⟩ := hp
  intro T hT X
  rcases vx_callV X hx (C := C) (bytes := bytes) (maxL := maxL) (ret := ret) ho hl hin hse hcode hy hK (by rw [hT]; exact hcB) hoB hclB hg (hsize.trans hml.symm) (argsL := As) (rest := rest) (fun sig h => hn.trans (hlen sig h)) hstack hW (by rw [hb]; exact hdg)
    (fun vm₁ hW₁ => ⟨hf.1, hf.2, hPc (T.setVm vm₁) hT hW₁⟩) with ⟨v, vm₁, ⟨U', l2, c2, s2⟩, hW₁, X', ⟨g', mk, t, L, e1, e2, hq, h1, hL, h2, h3⟩, st⟩ | ⟨q, vm₁, ⟨U', l2, c2, s2⟩, hW₁, X', ⟨g', mk, t, L, E, ce, e1, e2, hq, hce, hcv, hcl, h1, hL, h2, h3⟩, st⟩
  · dsimp only [Pt.U, Pt.locs, Pt.cells, Pt.slots] at X' e1 e2 h1 h2 h3 st
    subst h1; subst h2; subst h3
    exact Or.inl ⟨v, (T.setVm vm₁).calling g' mk (Value.ref b :: As).toArray, t, U', L, hT, X', hL, e1, e2, hq, st⟩
  · dsimp only [Pt.U, Pt.locs, Pt.cells, Pt.slots] at X' e1 e2 h1 h2 h3 st hcl
    subst h1; subst h2; subst h3
    exact Or.inr ⟨q, (T.setVm vm₁).calling g' mk (Value.ref b :: As).toArray, t, U', L, E, ce, hT, X', hL, e1, e2, hq, hce, hcv, vx_cls hW₁ hcl, st⟩
theorem vx_runS (S : CallFix p m c cc nL s args Ts own) (hM : vx_Met l y ws rm Pc Qc XC mc ms free) (cw : CallB R s args own index y bytes maxL ret ws rm mc ms n ∧ (Cond.static y).before args s = true) (hp : PreS s H Pc As)
    (hg : g.method = m) (hn : As.length = n) (hsize : g.locals.size = nL) (hstack : g.stack = As.reverse ++ rest) (hW : 2 * g.monitorRoom + (rest.map fun v => v.category).sum ≤ 8) (hdg : decode cc g.pc = .ok (.invokestatic index, 3)) (hf : cells + mc ≤ R.cells ∧ slots + ms ≤ R.slots) :
    vx_Run p l e R s m args below meth c H locs cells slots mc ms g rest (Qc As.toArray) XC free := by
  have hK : vx_Back l R p e below s args y 3 8 (PreOf R mc ms Pc) (PostOf Qc mc ms free) (vx_Post XC mc ms free) := vx_callBack cw.1 hM hp.1
  obtain ⟨⟨-, -, -, -, -, -, hcode, hini, hy, hlen, hl⟩, hstt⟩ := cw
  obtain ⟨hx, hb, hml, ho, -⟩ := S
  intro T hT X
  rcases vx_callS X hx (bytes := bytes) (maxL := maxL) (ret := ret) ho hl hstt hini hcode hy hK hg (hsize.trans hml.symm) (argsL := As) (rest := rest) (fun sig h => hn.trans (hlen sig h)) hstack hW (by rw [hb]; exact hdg)
    (fun vm₁ hW₁ => ⟨hf.1, hf.2, hp.2 (T.setVm vm₁) hT hW₁⟩) with ⟨v, vm₁, ⟨U', l2, c2, s2⟩, hW₁, X', ⟨g', mk, t, L, e1, e2, hq, h1, hL, h2, h3⟩, st⟩ | ⟨q, vm₁, ⟨U', l2, c2, s2⟩, hW₁, X', ⟨g', mk, t, L, E, ce, e1, e2, hq, hce, hcv, hcl, h1, hL, h2, h3⟩, st⟩
  · dsimp only [Pt.U, Pt.locs, Pt.cells, Pt.slots] at X' e1 e2 h1 h2 h3 st
    subst h1; subst h2; subst h3
    exact Or.inl ⟨v, (T.setVm vm₁).calling g' mk As.toArray, t, U', L, hT, X', hL, e1, e2, hq, st⟩
  · dsimp only [Pt.U, Pt.locs, Pt.cells, Pt.slots] at X' e1 e2 h1 h2 h3 st hcl
    subst h1; subst h2; subst h3
    exact Or.inr ⟨q, (T.setVm vm₁).calling g' mk As.toArray, t, U', L, E, ce, hT, X', hL, e1, e2, hq, hce, hcv, vx_cls hW₁ hcl, st⟩
end Runs
section Rows
variable {p : Program} {l : Launch} {e : Env} {R : Room} {s : State} {m : MethodId} {args : Array Value} {below : List Frame} {meth : Method} {c : Code} {H : Heap} {locs : List Loc} {cells slots : Nat} {Q : State → Prop}
variable {mc ms : Nat} {free : Addr → Prop} {A0 A1 : Nat → Prop} {H0 : Heap} {a : Array Value} {pc : Nat} {ls : Array Slot} {st0 rest : List Value}
theorem vx_keep {st₀ t T' : State} {L : List Loc} (h0 : st₀.heap = H) (e1 : T'.heap = t.heap) (hS : va_S A0 H0 H locs) (hA : ∀ q, q < H.size → A1 q → A0 q) (hf : ∀ q, free q → A0 q) (hL : ∀ q ∈ L, free q.base) (hF : va_F A1 st₀ t) :
    H.size ≤ T'.heap.size ∧ (∀ q : Nat, q < H.size → ¬ A1 q → T'.heap[q]? = H[q]?) ∧ va_S A0 H0 T'.heap (locs ++ L) := by
  obtain ⟨hz, hk⟩ := hF
  rw [h0] at hz hk
  exact ⟨by rw [e1]; exact hz, fun q h1 h2 => by rw [e1]; exact hk q h1 h2,
    ⟨Nat.le_trans hS.1 (by rw [e1]; exact hz), fun q h1 h2 => by rw [e1, hk q (Nat.lt_of_lt_of_le h1 hS.1) (fun z => h2 (hA q (Nat.lt_of_lt_of_le h1 hS.1) z))]; exact hS.2.1 q h1 h2, fun q hq => by
      rcases List.mem_append.mp hq with h | h
      · exact hS.2.2 q h
      · exact hf _ (hL q h)⟩⟩
theorem vx_calli {S SX : Type} {post : Int32 → S → Prop} {px : SX → Prop} {B : S → State → Prop} {BX : String → SX → State → Prop} {AX : Nat → Prop} (hr : vx_Run p l e R s m args below meth c H locs cells slots mc ms (F0 m pc ls st0) rest (va_Qi post B A1 a) (vx_X px BX AX) free) (hS : va_S A0 H0 H locs) (hA : ∀ q, q < H.size → A1 q → A0 q) (hf : ∀ q, free q → A0 q) (hAX : ∀ q, q < H.size → AX q → A0 q)
    (kx : ∀ (E : String) (ce : Cell) (q9 : Addr) (u : SX) (t : State) (H1 : Heap) (locs1 : List Loc), t.heap = H1 → s.vm.Alike t.vm → px u → BX E u t → H.size ≤ H1.size → (∀ q : Nat, q < H.size → ¬ AX q → H1[q]? = H[q]?) → va_S A0 H0 H1 locs1 → H1[q9]? = some ce → ce.vm = .none → s.vm.findClass E = some ce.cls → vx_W p l e R s m args below meth c H1 locs1 (cells + mc) (slots + ms) Q (F0 m pc ls rest) q9)
    (kk : ∀ (r : Int32) (u : S) (t : State) (H1 : Heap) (locs1 : List Loc), t.heap = H1 → s.vm.Alike t.vm → post r u → B u t → H.size ≤ H1.size → (∀ q : Nat, q < H.size → ¬ A1 q → H1[q]? = H[q]?) → va_S A0 H0 H1 locs1 → W p l e R s m args below meth c H1 locs1 (cells + mc) (slots + ms) Q (F0 m (pc + 3) ls (.int r :: rest))) : W p l e R s m args below meth c H locs cells slots Q (F0 m pc ls st0) := by
  intro T hT X
  rcases hr T hT X with ⟨v, st₀, t, T', L, h0, X', hL, e1, e2, ⟨⟨r, u, hv, hp, hb⟩, hF⟩, st⟩ | ⟨q, st₀, t, T', L, E, ce, h0, X', hL, e1, e2, ⟨u, hp, hb, hF⟩, hce, hcv, hcl, st⟩
  · cases hv
    obtain ⟨k1, k2, k3⟩ := vx_keep h0 e1 hS hA hf hL hF
    obtain ⟨t2, a1, b1⟩ := kk r u t T'.heap (locs ++ L) e1.symm (by rw [← e2]; exact X'.warmed.alike) hp hb k1 k2 k3 T' rfl X'
    exact ⟨t2, st t2 a1, b1⟩
  · obtain ⟨k1, k2, k3⟩ := vx_keep h0 e1 hS hAX hf hL hF
    obtain ⟨t2, a1, b1⟩ := kx E ce q u t T'.heap (locs ++ L) e1.symm (by rw [← e2]; exact X'.warmed.alike) hp hb k1 k2 k3 (by rw [e1]; exact hce) hcv hcl T' rfl X'
    exact ⟨t2, st.trans a1, b1⟩
theorem vx_calll {S SX : Type} {post : Int64 → S → Prop} {px : SX → Prop} {B : S → State → Prop} {BX : String → SX → State → Prop} {AX : Nat → Prop} (hr : vx_Run p l e R s m args below meth c H locs cells slots mc ms (F0 m pc ls st0) rest (va_Ql post B A1 a) (vx_X px BX AX) free) (hS : va_S A0 H0 H locs) (hA : ∀ q, q < H.size → A1 q → A0 q) (hf : ∀ q, free q → A0 q) (hAX : ∀ q, q < H.size → AX q → A0 q)
    (kx : ∀ (E : String) (ce : Cell) (q9 : Addr) (u : SX) (t : State) (H1 : Heap) (locs1 : List Loc), t.heap = H1 → s.vm.Alike t.vm → px u → BX E u t → H.size ≤ H1.size → (∀ q : Nat, q < H.size → ¬ AX q → H1[q]? = H[q]?) → va_S A0 H0 H1 locs1 → H1[q9]? = some ce → ce.vm = .none → s.vm.findClass E = some ce.cls → vx_W p l e R s m args below meth c H1 locs1 (cells + mc) (slots + ms) Q (F0 m pc ls rest) q9)
    (kk : ∀ (r : Int64) (u : S) (t : State) (H1 : Heap) (locs1 : List Loc), t.heap = H1 → s.vm.Alike t.vm → post r u → B u t → H.size ≤ H1.size → (∀ q : Nat, q < H.size → ¬ A1 q → H1[q]? = H[q]?) → va_S A0 H0 H1 locs1 → W p l e R s m args below meth c H1 locs1 (cells + mc) (slots + ms) Q (F0 m (pc + 3) ls (.long r :: rest))) : W p l e R s m args below meth c H locs cells slots Q (F0 m pc ls st0) := by
  intro T hT X
  rcases hr T hT X with ⟨v, st₀, t, T', L, h0, X', hL, e1, e2, ⟨⟨r, u, hv, hp, hb⟩, hF⟩, st⟩ | ⟨q, st₀, t, T', L, E, ce, h0, X', hL, e1, e2, ⟨u, hp, hb, hF⟩, hce, hcv, hcl, st⟩
  · cases hv
    obtain ⟨k1, k2, k3⟩ := vx_keep h0 e1 hS hA hf hL hF
    obtain ⟨t2, a1, b1⟩ := kk r u t T'.heap (locs ++ L) e1.symm (by rw [← e2]; exact X'.warmed.alike) hp hb k1 k2 k3 T' rfl X'
    exact ⟨t2, st t2 a1, b1⟩
  · obtain ⟨k1, k2, k3⟩ := vx_keep h0 e1 hS hAX hf hL hF
    obtain ⟨t2, a1, b1⟩ := kx E ce q u t T'.heap (locs ++ L) e1.symm (by rw [← e2]; exact X'.warmed.alike) hp hb k1 k2 k3 (by rw [e1]; exact hce) hcv hcl T' rfl X'
    exact ⟨t2, st.trans a1, b1⟩
theorem vx_callf {S SX : Type} {post : UInt32 → S → Prop} {px : SX → Prop} {B : S → State → Prop} {BX : String → SX → State → Prop} {AX : Nat → Prop} (hr : vx_Run p l e R s m args below meth c H locs cells slots mc ms (F0 m pc ls st0) rest (va_Qf post B A1 a) (vx_X px BX AX) free) (hS : va_S A0 H0 H locs) (hA : ∀ q, q < H.size → A1 q → A0 q) (hf : ∀ q, free q → A0 q) (hAX : ∀ q, q < H.size → AX q → A0 q)
    (kx : ∀ (E : String) (ce : Cell) (q9 : Addr) (u : SX) (t : State) (H1 : Heap) (locs1 : List Loc), t.heap = H1 → s.vm.Alike t.vm → px u → BX E u t → H.size ≤ H1.size → (∀ q : Nat, q < H.size → ¬ AX q → H1[q]? = H[q]?) → va_S A0 H0 H1 locs1 → H1[q9]? = some ce → ce.vm = .none → s.vm.findClass E = some ce.cls → vx_W p l e R s m args below meth c H1 locs1 (cells + mc) (slots + ms) Q (F0 m pc ls rest) q9)
    (kk : ∀ (r : UInt32) (u : S) (t : State) (H1 : Heap) (locs1 : List Loc), t.heap = H1 → s.vm.Alike t.vm → post r u → B u t → H.size ≤ H1.size → (∀ q : Nat, q < H.size → ¬ A1 q → H1[q]? = H[q]?) → va_S A0 H0 H1 locs1 → W p l e R s m args below meth c H1 locs1 (cells + mc) (slots + ms) Q (F0 m (pc + 3) ls (.float r :: rest))) : W p l e R s m args below meth c H locs cells slots Q (F0 m pc ls st0) := by
  intro T hT X
  rcases hr T hT X with ⟨v, st₀, t, T', L, h0, X', hL, e1, e2, ⟨⟨r, u, hv, hp, hb⟩, hF⟩, st⟩ | ⟨q, st₀, t, T', L, E, ce, h0, X', hL, e1, e2, ⟨u, hp, hb, hF⟩, hce, hcv, hcl, st⟩
  · cases hv
    obtain ⟨k1, k2, k3⟩ := vx_keep h0 e1 hS hA hf hL hF
    obtain ⟨t2, a1, b1⟩ := kk r u t T'.heap (locs ++ L) e1.symm (by rw [← e2]; exact X'.warmed.alike) hp hb k1 k2 k3 T' rfl X'
    exact ⟨t2, st t2 a1, b1⟩
  · obtain ⟨k1, k2, k3⟩ := vx_keep h0 e1 hS hAX hf hL hF
    obtain ⟨t2, a1, b1⟩ := kx E ce q u t T'.heap (locs ++ L) e1.symm (by rw [← e2]; exact X'.warmed.alike) hp hb k1 k2 k3 (by rw [e1]; exact hce) hcv hcl T' rfl X'
    exact ⟨t2, st.trans a1, b1⟩
theorem vx_calld {S SX : Type} {post : UInt64 → S → Prop} {px : SX → Prop} {B : S → State → Prop} {BX : String → SX → State → Prop} {AX : Nat → Prop} (hr : vx_Run p l e R s m args below meth c H locs cells slots mc ms (F0 m pc ls st0) rest (va_Qd post B A1 a) (vx_X px BX AX) free) (hS : va_S A0 H0 H locs) (hA : ∀ q, q < H.size → A1 q → A0 q) (hf : ∀ q, free q → A0 q) (hAX : ∀ q, q < H.size → AX q → A0 q)
    (kx : ∀ (E : String) (ce : Cell) (q9 : Addr) (u : SX) (t : State) (H1 : Heap) (locs1 : List Loc), t.heap = H1 → s.vm.Alike t.vm → px u → BX E u t → H.size ≤ H1.size → (∀ q : Nat, q < H.size → ¬ AX q → H1[q]? = H[q]?) → va_S A0 H0 H1 locs1 → H1[q9]? = some ce → ce.vm = .none → s.vm.findClass E = some ce.cls → vx_W p l e R s m args below meth c H1 locs1 (cells + mc) (slots + ms) Q (F0 m pc ls rest) q9)
    (kk : ∀ (r : UInt64) (u : S) (t : State) (H1 : Heap) (locs1 : List Loc), t.heap = H1 → s.vm.Alike t.vm → post r u → B u t → H.size ≤ H1.size → (∀ q : Nat, q < H.size → ¬ A1 q → H1[q]? = H[q]?) → va_S A0 H0 H1 locs1 → W p l e R s m args below meth c H1 locs1 (cells + mc) (slots + ms) Q (F0 m (pc + 3) ls (.double r :: rest))) : W p l e R s m args below meth c H locs cells slots Q (F0 m pc ls st0) := by
  intro T hT X
  rcases hr T hT X with ⟨v, st₀, t, T', L, h0, X', hL, e1, e2, ⟨⟨r, u, hv, hp, hb⟩, hF⟩, st⟩ | ⟨q, st₀, t, T', L, E, ce, h0, X', hL, e1, e2, ⟨u, hp, hb, hF⟩, hce, hcv, hcl, st⟩
  · cases hv
    obtain ⟨k1, k2, k3⟩ := vx_keep h0 e1 hS hA hf hL hF
    obtain ⟨t2, a1, b1⟩ := kk r u t T'.heap (locs ++ L) e1.symm (by rw [← e2]; exact X'.warmed.alike) hp hb k1 k2 k3 T' rfl X'
    exact ⟨t2, st t2 a1, b1⟩
  · obtain ⟨k1, k2, k3⟩ := vx_keep h0 e1 hS hAX hf hL hF
    obtain ⟨t2, a1, b1⟩ := kx E ce q u t T'.heap (locs ++ L) e1.symm (by rw [← e2]; exact X'.warmed.alike) hp hb k1 k2 k3 (by rw [e1]; exact hce) hcv hcl T' rfl X'
    exact ⟨t2, st.trans a1, b1⟩
theorem vx_callv {S SX : Type} {post : S → Prop} {px : SX → Prop} {B : S → State → Prop} {BX : String → SX → State → Prop} {AX : Nat → Prop} (hr : vx_Run p l e R s m args below meth c H locs cells slots mc ms (F0 m pc ls st0) rest (va_Qv post B A1 a) (vx_X px BX AX) free) (hS : va_S A0 H0 H locs) (hA : ∀ q, q < H.size → A1 q → A0 q) (hf : ∀ q, free q → A0 q) (hAX : ∀ q, q < H.size → AX q → A0 q)
    (kx : ∀ (E : String) (ce : Cell) (q9 : Addr) (u : SX) (t : State) (H1 : Heap) (locs1 : List Loc), t.heap = H1 → s.vm.Alike t.vm → px u → BX E u t → H.size ≤ H1.size → (∀ q : Nat, q < H.size → ¬ AX q → H1[q]? = H[q]?) → va_S A0 H0 H1 locs1 → H1[q9]? = some ce → ce.vm = .none → s.vm.findClass E = some ce.cls → vx_W p l e R s m args below meth c H1 locs1 (cells + mc) (slots + ms) Q (F0 m pc ls rest) q9)
    (kk : ∀ (u : S) (t : State) (H1 : Heap) (locs1 : List Loc), t.heap = H1 → s.vm.Alike t.vm → post u → B u t → H.size ≤ H1.size → (∀ q : Nat, q < H.size → ¬ A1 q → H1[q]? = H[q]?) → va_S A0 H0 H1 locs1 → W p l e R s m args below meth c H1 locs1 (cells + mc) (slots + ms) Q (F0 m (pc + 3) ls (rest))) : W p l e R s m args below meth c H locs cells slots Q (F0 m pc ls st0) := by
  intro T hT X
  rcases hr T hT X with ⟨v, st₀, t, T', L, h0, X', hL, e1, e2, ⟨⟨u, hv, hp, hb⟩, hF⟩, st⟩ | ⟨q, st₀, t, T', L, E, ce, h0, X', hL, e1, e2, ⟨u, hp, hb, hF⟩, hce, hcv, hcl, st⟩
  · cases hv
    obtain ⟨k1, k2, k3⟩ := vx_keep h0 e1 hS hA hf hL hF
    obtain ⟨t2, a1, b1⟩ := kk u t T'.heap (locs ++ L) e1.symm (by rw [← e2]; exact X'.warmed.alike) hp hb k1 k2 k3 T' rfl X'
    exact ⟨t2, st t2 a1, b1⟩
  · obtain ⟨k1, k2, k3⟩ := vx_keep h0 e1 hS hAX hf hL hF
    obtain ⟨t2, a1, b1⟩ := kx E ce q u t T'.heap (locs ++ L) e1.symm (by rw [← e2]; exact X'.warmed.alike) hp hb k1 k2 k3 (by rw [e1]; exact hce) hcv hcl T' rfl X'
    exact ⟨t2, st.trans a1, b1⟩
end Rows
section Ends
variable {p : Program} {l : Launch} {e : Env} {R : Room} {s : State} {m : MethodId} {args : Array Value} {below : List Frame} {meth : Method} {c : Code} {H : Heap} {locs : List Loc} {cells slots : Nat} {Q : State → Prop}
variable {mc ms : Nat} {free : Addr → Prop} {A0 A1 : Nat → Prop} {H0 : Heap} {a : Array Value} {ls : Array Slot} {st0 rest : List Value}
variable {Qc : Array Value → State → Outcome → State → Prop} {XC : String → State → State → Prop}
/-- what a body that may throw owes at its end -/
def vx_MQ (below : List Frame) (Qc : Array Value → State → Outcome → State → Prop) (XC : String → State → State → Prop) (a : Array Value) (s : State) (mc ms : Nat) (free : Addr → Prop) : State → Prop := fun t =>
  ∃ o, t.status = .running ∧ Ended t below o ∧ vx_Q Qc XC mc ms free a s o t
theorem vx_ret {g : JFrame} {mc ms : Nat} (k : W p l e R s m args below meth c H locs cells slots (MQ below Qc args s mc ms free) g) : W p l e R s m args below meth c H locs cells slots (vx_MQ below Qc XC args s mc ms free) g := by
  intro T hT X
  obtain ⟨t, a1, o, b1, b2, b3, b4⟩ := k T hT X
  exact ⟨t, a1, o, b1, b2, Or.inl ⟨b3, b4⟩⟩
/-- not caught here: it goes on to the caller -/
theorem vx_widen {g : JFrame} {q : Addr} {k n : Nat} (h1 : cells ≤ k) (h2 : slots ≤ n) (kk : vx_W p l e R s m args below meth c H locs k n Q g q) : vx_W p l e R s m args below meth c H locs cells slots Q g q := fun T hT X => kk T hT (stand_widen X h1 h2)
theorem vx_out {pc : Nat} {E : String} {ce : Cell} {q : Addr} {mc ms : Nat} (hout : ∀ x ∈ c.exceptionTable.toList, covers x pc = false) (hlocks : meth.locks = false) (hcell : H[q]? = some ce) (hv : ce.vm = .none) (hcl : s.vm.findClass E = some ce.cls)
    (hx : ∀ t : State, t.heap = H → s.vm.Alike t.vm → XC E s t) (hf : ∀ z ∈ locs, free z.base) (hc : cells ≤ mc) (hs : slots ≤ ms) :
    vx_W p l e R s m args below meth c H locs cells slots (vx_MQ below Qc XC args s mc ms free) (F0 m pc ls rest) q := by
  intro T hT X
  obtain ⟨st1, hrun, hend, hW, hsm⟩ := X.leaveThrown q (g := F0 m pc ls rest) rfl rfl rfl hout hlocks
  have hcell9 : (T.setFrames (.throwing q :: below)).heap[q]? = some ce := by
    show T.heap[q]? = some ce
    rw [hT]; exact hcell
  exact ⟨_, st1, .threw q, hrun, hend, Or.inr ⟨q, rfl, E, ce, locs, hx _ hT hW.alike, hcell9, hv, hcl, hW, hsm.mono hc hs, hf⟩⟩
theorem vx_frame {U : State} {k n : Nat} (h : s.sameButNew ({ U with vm := s.vm } : State) locs k n) : s.heap.size ≤ U.heap.size ∧ ∀ q : Nat, q < s.heap.size → (∀ z ∈ locs, z.base ≠ q) → U.heap[q]? = s.heap[q]? := by
  obtain ⟨-, h2, -, -, -, h6⟩ := h
  refine ⟨h2, fun q hq hz => ?_⟩
  obtain ⟨c9, e1, e2, e3, e4⟩ := h6 q _ (Array.getElem?_eq_getElem hq)
  have hs : c9.slots = (s.heap[q]).slots := Array.ext_getElem? fun i => e4 i fun hm => hz _ hm rfl
  have h9 : c9 = s.heap[q] := by
    rw [hs] at e2
    exact e2
  have e5 : U.heap[q]? = some c9 := e1
  rw [e5, h9, Array.getElem?_eq_getElem hq]
/-- the words of a throw but the four that speak of the heap -/
def vx_no (w : Cond) : Bool := decide (w ≠ .isRef (.static Bundle.tN "UNASSIGNED_STACK" Bundle.steD)) && decide (w ≠ .isRef (.static Bundle.tN "SUPPRESSED_SENTINEL" Bundle.listD)) && decide (w ≠ .laysStatic Bundle.tN "UNASSIGNED_STACK" Bundle.steD) && decide (w ≠ .laysStatic Bundle.tN "SUPPRESSED_SENTINEL" Bundle.listD)
def vx_at0 (own : String) (ic : Nat) (X : String) (names : List String) : List Cond := (Bundle.ownAtoms0 own ic X names).filter vx_no
def vx_atS (own : String) (ic : Nat) (X : String) (names : List String) : List Cond := (Bundle.ownAtoms own ic X names).filter vx_no
/-- a word that the tables alone decide, or a good one -/
def vx_ot (w : Cond) : Bool := w.onTables || goodWord w
theorem vx_ot_at {args a' : Array Value} {s U : State} {w : Cond} (hW : s.WarmedH U.vm) (hvm : s.vm = U.vm) (hg : vx_ot w = true) (h : w.before args s = true) : w.before a' U = true := by
  simp only [vx_ot, Bool.or_eq_true] at hg
  rcases hg with hg | hg
  · exact va_tabs hg hvm h
  · exact word_at hW (good_of_word hg) h
/-- a list's words: the good ones out of the method's own list, the others by premises of their own -/
theorem vx_hat {args : Array Value} {s : State} {L B : List Cond} (h1 : ∀ w ∈ L.filter goodWord, w.before args s = true) (h2 : ∀ w ∈ L.filter (fun w => !goodWord w), w ∈ B) (h3 : ∀ w ∈ B, w.before args s = true) : ∀ w ∈ L, w.before args s = true := by
  intro w hw
  by_cases g : goodWord w = true
  · exact h1 w (List.mem_filter.mpr ⟨hw, g⟩)
  · refine h3 w (h2 w (List.mem_filter.mpr ⟨hw, ?_⟩))
    show (!goodWord w) = true
    cases hgw : goodWord w
    · rfl
    · exact absurd hgw g
theorem vx_c {args : Array Value} {s : State} {w : Cond} {B : List Cond} (h : w.before args s = true) (t : ∀ w ∈ B, w.before args s = true) : ∀ w' ∈ w :: B, w'.before args s = true := fun w' h' => (List.mem_cons.mp h').elim (fun e => by rw [e]; exact h) (t w')
theorem vx_n {args : Array Value} {s : State} : ∀ w ∈ ([] : List Cond), w.before args s = true := fun _ h => nomatch h
theorem vx_own {args : Array Value} {s : State} {L : List Cond} (h1 : ∀ w ∈ L.filter vx_no, w.before args s = true)
    (hU : (Cond.isRef (.static Bundle.tN "UNASSIGNED_STACK" Bundle.steD)).before args s = true) (hN : (Cond.isRef (.static Bundle.tN "SUPPRESSED_SENTINEL" Bundle.listD)).before args s = true)
    (lU : (Cond.laysStatic Bundle.tN "UNASSIGNED_STACK" Bundle.steD).before args s = true) (lN : (Cond.laysStatic Bundle.tN "SUPPRESSED_SENTINEL" Bundle.listD).before args s = true) : ∀ w ∈ L, w.before args s = true := by
  intro w hw
  by_cases e1 : w = .isRef (.static Bundle.tN "UNASSIGNED_STACK" Bundle.steD)
  · rw [e1]; exact hU
  · by_cases e2 : w = .isRef (.static Bundle.tN "SUPPRESSED_SENTINEL" Bundle.listD)
    · rw [e2]; exact hN
    · by_cases e3 : w = .laysStatic Bundle.tN "UNASSIGNED_STACK" Bundle.steD
      · rw [e3]; exact lU
      · by_cases e4 : w = .laysStatic Bundle.tN "SUPPRESSED_SENTINEL" Bundle.listD
        · rw [e4]; exact lN
        · exact h1 w (List.mem_filter.mpr ⟨hw, by unfold vx_no; rw [decide_eq_true e1, decide_eq_true e2, decide_eq_true e3, decide_eq_true e4]; rfl⟩)
/-- where a static field lies, its class's statics cell in H -/
def vx_L (C n d : String) (A : Nat → Prop) (U : State) (H : Heap) : Prop := ∃ (c : ClassId) (k : Class) (i : Nat) (f : Field) (a : Nat) (cell : Cell), U.vm.findClass C = some c ∧ U.fieldFound? C n d = some (c, k, i, f) ∧ f.isStatic = true ∧ k.statics = some a ∧ H[a]? = some cell ∧ cell.vm.isStatics = true ∧ cell.cls = c ∧ f.slot < cell.slots.size ∧ k.staticTypes[f.slot]? = some f.type ∧ ¬ A a
theorem vx_L.moved {C n d : String} {A : Nat → Prop} {u U : State} {H : Heap} (hvm : u.vm.Alike U.vm) (h : vx_L C n d A u H) : vx_L C n d A U H := by
  obtain ⟨c, k, i, f, a, cell, h1, h2, h3, h4, h5, h6, h7, h8, h9, h10⟩ := h
  obtain ⟨k', hi', he⟩ := State.fieldFound?_setVm hvm h2
  exact ⟨c, k', i, f, a, cell, by rw [hvm.findClass]; exact h1, hi', h3, by rw [he]; exact h4, h5, h6, h7, h8, by rw [he]; exact h9, h10⟩
theorem vx_L.kept {C n d : String} {A : Nat → Prop} {U : State} {H H1 : Heap} (h : vx_L C n d A U H) (hq : ∀ a : Nat, a < H.size → ¬ A a → H1[a]? = H[a]?) : vx_L C n d A U H1 := by
  obtain ⟨c, k, i, f, a, cell, h1, h2, h3, h4, h5, h6, h7, h8, h9, h10⟩ := h
  exact ⟨c, k, i, f, a, cell, h1, h2, h3, h4, by rw [hq a (Array.getElem?_eq_some_iff.mp h5).1 h10]; exact h5, h6, h7, h8, h9, h10⟩
theorem vx_L.narrow {C n d : String} {A B : Nat → Prop} {U : State} {H : Heap} (h : vx_L C n d A U H) (hAB : ∀ q, B q → A q) : vx_L C n d B U H := by
  obtain ⟨c, k, i, f, a, cell, h1, h2, h3, h4, h5, h6, h7, h8, h9, h10⟩ := h
  exact ⟨c, k, i, f, a, cell, h1, h2, h3, h4, h5, h6, h7, h8, h9, fun z => h10 (hAB _ z)⟩
theorem vx_L.word {C n d : String} {A : Nat → Prop} {s : State} {args : Array Value} (h : vx_L C n d A s s.heap) : (Cond.laysStatic C n d).before args s = true := by
  obtain ⟨c, k, i, f, a, cell, h1, h2, h3, h4, h5, h6, h7, h8, h9, -⟩ := h
  show (Cond.laysStatic C n d).holds args s none s [] = true
  exact Cond.laysStatic_of h1 h2 h3 h4 h5 h6 h7 h8 h9
/-- .. and what it holds: null or some reference -/
def vx_Zq (C n d : String) (A : Nat → Prop) (U : State) (H : Heap) : Prop := va_Zq C n d A U H ∧ vx_L C n d A U H
theorem vx_Zq.moved {C n d : String} {A : Nat → Prop} {u U : State} {H : Heap} (hvm : u.vm.Alike U.vm) (h : vx_Zq C n d A u H) : vx_Zq C n d A U H := ⟨va_Zq.moved hvm h.1, vx_L.moved hvm h.2⟩
theorem vx_Zq.kept {C n d : String} {A : Nat → Prop} {U : State} {H H1 : Heap} (h : vx_Zq C n d A U H) (hq : ∀ a : Nat, a < H.size → ¬ A a → H1[a]? = H[a]?) : vx_Zq C n d A U H1 := ⟨va_Zq.kept h.1 hq, vx_L.kept h.2 hq⟩
theorem vx_Zq.narrow {C n d : String} {A B : Nat → Prop} {U : State} {H : Heap} (h : vx_Zq C n d A U H) (hAB : ∀ q, B q → A q) : vx_Zq C n d B U H := ⟨va_Zq.narrow h.1 hAB, vx_L.narrow h.2 hAB⟩
theorem vx_Zqof {args : Array Value} {s : State} {C n d : String} {A : Nat → Prop} (hl : (Cond.laysStatic C n d).before args s = true) (hini : (Cond.initialized C).before args s = true) (h : (Cond.isRef (.static C n d)).before args s = true) (hA : ∀ a : Nat, a < s.heap.size → ¬ A a) : vx_Zq C n d A s s.heap := by
  refine ⟨va_Zqof hl hini h hA, ?_⟩
  obtain ⟨c, k, i, f, a, cell, h1, h2, h3, h4, h5, h6, h7, h8, h9⟩ := Cond.laysStatic_spec hl
  exact ⟨c, k, i, f, a, cell, h1, h2, h3, h4, h5, h6, h7, h8, h9, hA a (Array.getElem?_eq_some_iff.mp h5).1⟩
theorem vx_isRef {C n d : String} {v : Value} {A : Nat → Prop} {s : State} {args : Array Value} (h : va_Z C n d v A s s.heap) (hv : v.isRef = true) : (Cond.isRef (.static C n d)).before args s = true := by
  obtain ⟨cf, kf, fi, f, a, cell, h1, h2, h3, h4, h5, h6, h7, -⟩ := h
  have he : (Term.static C n d).eval args s none [] s = some v := by
    simp [Term.eval, State.fieldNamed?, h1, h2, h4, h5, h6, h7]
  simp only [Cond.before, Cond.holds, Cond.value, he]
  cases v <;> simp_all [Value.isRef]
theorem vx_isRefq {C n d : String} {A : Nat → Prop} {s : State} {args : Array Value} (h : va_Zq C n d A s s.heap) : (Cond.isRef (.static C n d)).before args s = true := by
  rcases h with h | ⟨t, h⟩
  · exact vx_isRef h rfl
  · exact vx_isRef h rfl
/-- the same frame, seen from here: as if the method were called anew in this heap -/
theorem vx_rebase {T : State} (X : Stand p l e R s m args below meth c T locs cells slots) {R' : Room} (hf : R'.frames ≤ R.frames) (hl : R'.locals ≤ R.locals) (hc : cells + R'.cells ≤ R.cells) (hs : slots + R'.slots ≤ R.slots) :
    Stand p l e R' ((T.setVm s.vm).setFrames (.invoking m args :: below)) m args below meth c T [] 0 0 := by
  have htop : (T.setVm s.vm).topJava?.isSome := X.here.top
  have hF : ((T.setVm s.vm).setFrames (.invoking m args :: below)).frames = .invoking m args :: below := State.frames_setFrames _ (State.cur_lt_of_top htop)
  obtain ⟨g₀, hg0⟩ := Option.isSome_iff_exists.mp htop
  obtain ⟨r, hr⟩ := State.topJava?_eq_some.mp hg0
  have hl9 : e.platform.stackLimits (T.setVm s.vm).me = e.platform.stackLimits s.me := X.limits
  have hb9 : (T.setVm s.vm).me.stackBytes = s.me.stackBytes := X.bytes
  refine ⟨X.admits, X.cas, X.clock, hF, ?_, X.hears, X.method, X.code, X.here, X.tail, X.warmed, ?_, ?_, ?_⟩
  · have h := X.room
    have hU : ((T.setVm s.vm).setFrames (.invoking m args :: below)).localsInUse = s.localsInUse := by
      rw [State.localsInUse_invoking hF (meth := meth) (c := c) X.method X.code, State.localsInUse_invoking X.frames X.method X.code]
    simp only [State.hasRoom, Bool.and_eq_true, decide_eq_true_eq] at h ⊢
    obtain ⟨⟨⟨⟨h1, h2, h3, h4, h5, h6⟩, h7⟩, h8⟩, h9⟩ := h
    rw [X.frames, List.length_cons] at h2 h3
    have q1 := X.heapSize
    have q2 := X.used
    simp only [hF, hU, List.length_cons, State.stackLimits_setFrames, State.stackBytes_setFrames, hl9, hb9]
    refine ⟨⟨⟨⟨by omega, by omega, by omega, by omega, by omega, h6⟩, ?_⟩, ?_⟩, X.book⟩
    · show T.heap.size + R'.cells ≤ e.platform.maxCells
      omega
    · show T.slotsUsed + R'.slots ≤ e.platform.maxSlots
      omega
  · rw [State.stackLimits_setFrames]; rfl
  · rw [State.stackBytes_setFrames]; rfl
  · refine ⟨?_, Nat.le_refl _, Nat.le_refl _, ?_, ?_, fun a c9 h9 => ⟨c9, h9, rfl, rfl, fun _ _ => rfl⟩⟩
    · obtain ⟨t, ht, -⟩ := State.frames_cons hr
      show T.setVm s.vm = { ((T.setVm s.vm).setFrames (.invoking m args :: below)).setFrames (T.setVm s.vm).frames with heap := T.heap, slotsUsed := T.slotsUsed }
      rw [State.setFrames_setFrames, State.setFrames_self ht]
      rfl
    · show T.slotsUsed = T.slotsUsed + ((T.heap.toList.drop T.heap.size).map (·.slots.size)).sum
      rw [List.drop_eq_nil_of_le (Nat.le_of_eq Array.length_toList)]
      rfl
    · show ((T.heap.toList.drop T.heap.size).map (·.slots.size)).sum ≤ 0
      rw [List.drop_eq_nil_of_le (Nat.le_of_eq Array.length_toList)]
      exact Nat.le_refl _
/-- 'throw new E()': new; dup; invokespecial; athrow -/
theorem vx_throw0 {cc : ByteArray} {pc : Nat} (hexec : p.tables.exec = Jvm.exec) (hb : c.code = cc) (hl : l.stackTraces = false) {own cls : String} {names : List String} {ik ic mc ms : Nat} {A : Nat → Prop}
    (hown : s.vm.findClass own = some m.cls) (hcls : Bundle.fit cls = true) (hnames : ∀ n ∈ names, Bundle.fit n = true)
    (hk : (Cond.classLink own ik cls).before args s = true) (hini : (Cond.initialized cls).before args s = true) (hat : ∀ w ∈ vx_at0 own ic cls names, w.before args s = true)
    (hgood : ∀ w ∈ Cond.classLink own ik cls :: Cond.initialized cls :: vx_at0 own ic cls names, vx_ot w = true)
    (hU : vx_Zq Bundle.tN "UNASSIGNED_STACK" Bundle.steD A s s.heap) (hN : vx_Zq Bundle.tN "SUPPRESSED_SENTINEL" Bundle.listD A s s.heap) (hS : va_S A s.heap H locs) (hsize : ls.size = c.maxLocals)
    (d0 : decode cc pc = .ok (.new ik, 3)) (d3 : decode cc (pc + 3) = .ok (.dup, 1)) (d4 : decode cc (pc + 4) = .ok (.invokespecial ic, 3)) (d7 : decode cc (pc + 7) = .ok (.athrow, 1))
    (hout : ∀ x ∈ c.exceptionTable.toList, covers x (pc + 7) = false)
    (hRframes : names.length + 3 < R.frames) (hRlocals : (rest.map fun v => v.category).sum + (13 * (names.length + 1) + 42) ≤ R.locals) (hRcells : cells + 1 ≤ R.cells) (hRslots : slots + 6 ≤ R.slots) (hlocks : meth.locks = false)
    (hx : ∀ t : State, s.vm.Alike t.vm → H.size ≤ t.heap.size → (∀ q : Nat, q < H.size → t.heap[q]? = H[q]?) → XC cls s t)
    (hf : ∀ z ∈ locs, free z.base) (hc : cells + 1 ≤ mc) (hs : slots + 6 ≤ ms) :
    W p l e R s m args below meth c H locs cells slots (vx_MQ below Qc XC args s mc ms free) (F0 m pc ls rest) := by
  intro T hT X
  have htr : e.platform.stackTraces = false := (show e.platform.stackTraces = l.stackTraces by rw [X.admits.platform]).trans hl
  have Y := vx_rebase X (R' := { frames := R.frames, locals := R.locals, cells := 1, slots := 6 }) (Nat.le_refl _) (Nat.le_refl _) hRcells hRslots
  obtain ⟨s', hA⟩ : ∃ z, z = (T.setVm s.vm).setFrames (.invoking m args :: below) := ⟨_, rfl⟩
  rw [← hA] at Y
  have hvm : s'.vm = s.vm := by rw [hA]; rfl
  have hhp : s'.heap = H := by rw [hA]; exact hT
  have hW0 : s.WarmedH s'.vm := by rw [hvm]; exact State.WarmedH.refl s
  have hat' : ∀ w ∈ vx_at0 own ic cls names, w.before args s' = true := fun w hw => vx_ot_at hW0 hvm.symm (hgood w (List.mem_cons_of_mem _ (List.mem_cons_of_mem _ hw))) (hat w hw)
  have hk' : (Cond.classLink own ik cls).before args s' = true := vx_ot_at hW0 hvm.symm (hgood _ List.mem_cons_self) hk
  have hini' : (Cond.initialized cls).before args s' = true := vx_ot_at hW0 hvm.symm (hgood _ (List.mem_cons_of_mem _ List.mem_cons_self)) hini
  have hU' : vx_Zq Bundle.tN "UNASSIGNED_STACK" Bundle.steD A s' s'.heap := by rw [hhp]; exact vx_Zq.moved hW0.alike (hU.kept hS.2.1)
  have hN' : vx_Zq Bundle.tN "SUPPRESSED_SENTINEL" Bundle.listD A s' s'.heap := by rw [hhp]; exact vx_Zq.moved hW0.alike (hN.kept hS.2.1)
  have h : ∀ w ∈ Bundle.ownAtoms0 own ic cls names, w.before args s' = true := vx_own hat' (vx_isRefq hU'.1) (vx_isRefq hN'.1) hU'.2.word hN'.2.word
  have hown' : s'.vm.findClass own = some m.cls := by rw [hvm]; exact hown
  have hins : (Cond.instantiable cls 6).before args s' = true := h _ (by simp [Bundle.ownAtoms0])
  obtain ⟨vm₁, cX, kX, hfX, hkX, -, -, X₁, st1⟩ := Y.newCold hexec (own := own) (C := cls) (index := ik) (n := 6) hown' hk' hins hini'
    (g := F0 m pc ls rest) rfl (by rw [hb]; exact d0) (Nat.le_refl _) (Nat.le_refl _)
  generalize hT1 : (T.setVm vm₁).pushCell { cls := cX, slots := kX.instanceTypes.map defaultValue, vm := .none } = T1 at X₁ st1
  have hcat : (Value.ref T.heap.size).category = 1 := rfl
  have hcellA : T1.heap[T.heap.size]? = some (freshCell cX kX) := by rw [← hT1]; exact State.heap_pushCell_size _ _
  have d3' : decode c.code (pc + 3) = .ok (.dup, 1) := by rw [hb]; exact d3
  obtain ⟨U, hsteps, hrun, hend, hW, hsame, ce, hce, hO⟩ := X₁.ctorThrow0 hexec htr (own := own) (cls := cls) (names := names) (ic := ic) hown' hcls hnames h (fun x hx => nomatch hx) hfX hkX hcellA (by rw [hhp, hT]; exact Nat.le_refl _)
    (g := { method := m, pc := pc + 4, locals := ls, stack := .ref T.heap.size :: .ref T.heap.size :: rest, locked := none }) rfl hsize rfl rfl (rest := rest) rfl
    (by rw [hb]; exact d4) (by rw [hb]; exact d7) hout hRframes (by simp only [List.map_cons, List.sum_cons, hcat]; omega) hlocks
  obtain ⟨f1, f2⟩ := vx_frame hsame
  rw [hhp] at f1 f2
  have hWs : s.WarmedH U.vm := State.WarmedH.trans hW0 hW
  have hcl : s.vm.findClass cls = some ce.cls := by
    have h9 := hO.cls
    rw [hvm] at h9
    exact h9
  have hall : s.sameButNew ({ U with vm := s.vm } : State) locs mc ms := by
    subst hA
    obtain ⟨e1, e2⟩ := hsame
    rw [State.setFrames_setFrames] at e1
    have h2 : (T.setVm s.vm).sameButNew ({ U with vm := s.vm } : State) [] (0 + 1) (0 + 6) := ⟨e1, e2⟩
    have h3 := X.same.trans h2
    rw [List.append_nil] at h3
    exact h3.mono hc hs
  refine ⟨U, ?_, .threw T.heap.size, hrun, hend, Or.inr ⟨T.heap.size, rfl, cls, ce, locs, hx U hWs.alike f1 (fun q hq => f2 q hq (fun z hz => nomatch hz)), hce, hO.vm, hcl, hWs, hall, hf⟩⟩
  refine st1 _ ?_
  show Steps p.tables e below (T1.setTop { method := m, pc := pc + 3, locals := ls, stack := .ref T.heap.size :: rest, locked := none }) _
  jvm_step X₁.here [X₁.here.top, hexec, d3', Value.category]
  exact hsteps
/-- 'throw new E("text")': new; dup; ldc; invokespecial; athrow -/
theorem vx_throwS {cc : ByteArray} {pc : Nat} (hexec : p.tables.exec = Jvm.exec) (hb : c.code = cc) (hl : l.stackTraces = false) {own cls text : String} {names : List String} {ik is ic mc ms sa : Nat} {A : Nat → Prop}
    (hown : s.vm.findClass own = some m.cls) (hcls : Bundle.fit cls = true) (hnames : ∀ n ∈ names, Bundle.fit n = true)
    (hk : (Cond.classLink own ik cls).before args s = true) (hini : (Cond.initialized cls).before args s = true) (hstr : vk_R own is text sa s) (hat : ∀ w ∈ vx_atS own ic cls names, w.before args s = true)
    (hgood : ∀ w ∈ Cond.classLink own ik cls :: Cond.initialized cls :: vx_atS own ic cls names, vx_ot w = true)
    (hU : vx_Zq Bundle.tN "UNASSIGNED_STACK" Bundle.steD A s s.heap) (hN : vx_Zq Bundle.tN "SUPPRESSED_SENTINEL" Bundle.listD A s s.heap) (hS : va_S A s.heap H locs) (hsize : ls.size = c.maxLocals)
    (d0 : decode cc pc = .ok (.new ik, 3)) (d3 : decode cc (pc + 3) = .ok (.dup, 1)) (d4 : decode cc (pc + 4) = .ok (.ldc is, 2)) (d6 : decode cc (pc + 6) = .ok (.invokespecial ic, 3)) (d9 : decode cc (pc + 9) = .ok (.athrow, 1))
    (hout : ∀ x ∈ c.exceptionTable.toList, covers x (pc + 9) = false)
    (hRframes : names.length + 3 < R.frames) (hRlocals : (rest.map fun v => v.category).sum + (13 * (names.length + 1) + 43) ≤ R.locals) (hRcells : cells + 1 ≤ R.cells) (hRslots : slots + 6 ≤ R.slots) (hlocks : meth.locks = false)
    (hx : ∀ t : State, s.vm.Alike t.vm → H.size ≤ t.heap.size → (∀ q : Nat, q < H.size → t.heap[q]? = H[q]?) → XC cls s t)
    (hf : ∀ z ∈ locs, free z.base) (hc : cells + 1 ≤ mc) (hs : slots + 6 ≤ ms) :
    W p l e R s m args below meth c H locs cells slots (vx_MQ below Qc XC args s mc ms free) (F0 m pc ls rest) := by
  intro T hT X
  have htr : e.platform.stackTraces = false := (show e.platform.stackTraces = l.stackTraces by rw [X.admits.platform]).trans hl
  have Y := vx_rebase X (R' := { frames := R.frames, locals := R.locals, cells := 1, slots := 6 }) (Nat.le_refl _) (Nat.le_refl _) hRcells hRslots
  obtain ⟨s', hA⟩ : ∃ z, z = (T.setVm s.vm).setFrames (.invoking m args :: below) := ⟨_, rfl⟩
  rw [← hA] at Y
  have hvm : s'.vm = s.vm := by rw [hA]; rfl
  have hhp : s'.heap = H := by rw [hA]; exact hT
  have hW0 : s.WarmedH s'.vm := by rw [hvm]; exact State.WarmedH.refl s
  have hat' : ∀ w ∈ vx_atS own ic cls names, w.before args s' = true := fun w hw => vx_ot_at hW0 hvm.symm (hgood w (List.mem_cons_of_mem _ (List.mem_cons_of_mem _ hw))) (hat w hw)
  have hk' : (Cond.classLink own ik cls).before args s' = true := vx_ot_at hW0 hvm.symm (hgood _ List.mem_cons_self) hk
  have hini' : (Cond.initialized cls).before args s' = true := vx_ot_at hW0 hvm.symm (hgood _ (List.mem_cons_of_mem _ List.mem_cons_self)) hini
  have hU' : vx_Zq Bundle.tN "UNASSIGNED_STACK" Bundle.steD A s' s'.heap := by rw [hhp]; exact vx_Zq.moved hW0.alike (hU.kept hS.2.1)
  have hN' : vx_Zq Bundle.tN "SUPPRESSED_SENTINEL" Bundle.listD A s' s'.heap := by rw [hhp]; exact vx_Zq.moved hW0.alike (hN.kept hS.2.1)
  have h : ∀ w ∈ Bundle.ownAtoms own ic cls names, w.before args s' = true := vx_own hat' (vx_isRefq hU'.1) (vx_isRefq hN'.1) hU'.2.word hN'.2.word
  have hown' : s'.vm.findClass own = some m.cls := by rw [hvm]; exact hown
  have hins : (Cond.instantiable cls 6).before args s' = true := h _ (by simp [Bundle.ownAtoms])
  obtain ⟨vm₁, cX, kX, hfX, hkX, -, -, X₁, st1⟩ := Y.newCold hexec (own := own) (C := cls) (index := ik) (n := 6) hown' hk' hins hini'
    (g := F0 m pc ls rest) rfl (by rw [hb]; exact d0) (Nat.le_refl _) (Nat.le_refl _)
  generalize hT1 : (T.setVm vm₁).pushCell { cls := cX, slots := kX.instanceTypes.map defaultValue, vm := .none } = T1 at X₁ st1
  have hcat : (Value.ref T.heap.size).category = 1 := rfl
  have hcellA : T1.heap[T.heap.size]? = some (freshCell cX kX) := by rw [← hT1]; exact State.heap_pushCell_size _ _
  have d3' : decode c.code (pc + 3) = .ok (.dup, 1) := by rw [hb]; exact d3
  have d4' : decode c.code (pc + 4) = .ok (.ldc is, 2) := by rw [hb]; exact d4
  have hstr' : vk_R own is text sa s' := vk_R.warm hW0 hstr
  obtain ⟨U, hsteps, hrun, hend, hW, hsame, ce, hce, hO⟩ := X₁.ctorThrowS hexec htr (own := own) (cls := cls) (names := names) (ic := ic) hown' hcls hnames h (fun x hx => nomatch hx) hfX hkX hcellA (by rw [hhp, hT]; exact Nat.le_refl _) (msg := .ref sa) rfl
    (g := { method := m, pc := pc + 6, locals := ls, stack := .ref sa :: .ref T.heap.size :: .ref T.heap.size :: rest, locked := none }) rfl hsize rfl rfl (rest := rest) rfl
    (by rw [hb]; exact d6) (by rw [hb]; exact d9) hout hRframes (by simp only [List.map_cons, List.sum_cons, hcat]; omega) hlocks
  obtain ⟨f1, f2⟩ := vx_frame hsame
  rw [hhp] at f1 f2
  have hWs : s.WarmedH U.vm := State.WarmedH.trans hW0 hW
  have hcl : s.vm.findClass cls = some ce.cls := by
    have h9 := hO.cls
    rw [hvm] at h9
    exact h9
  have hall : s.sameButNew ({ U with vm := s.vm } : State) locs mc ms := by
    subst hA
    obtain ⟨e1, e2⟩ := hsame
    rw [State.setFrames_setFrames] at e1
    have h2 : (T.setVm s.vm).sameButNew ({ U with vm := s.vm } : State) [] (0 + 1) (0 + 6) := ⟨e1, e2⟩
    have h3 := X.same.trans h2
    rw [List.append_nil] at h3
    exact h3.mono hc hs
  refine ⟨U, ?_, .threw T.heap.size, hrun, hend, Or.inr ⟨T.heap.size, rfl, cls, ce, locs, hx U hWs.alike f1 (fun q hq => f2 q hq (fun z hz => nomatch hz)), hce, hO.vm, hcl, hWs, hall, hf⟩⟩
  refine st1 _ ?_
  show Steps p.tables e below (T1.setTop { method := m, pc := pc + 3, locals := ls, stack := .ref T.heap.size :: rest, locked := none }) _
  jvm_step X₁.here [X₁.here.top, hexec, d3', Value.category]
  exact X₁.ldcString hexec (own := own) (text := text) (index := is) (a := sa) hown' hstr'.1 hstr'.2
    (g := { method := m, pc := pc + 4, locals := ls, stack := .ref T.heap.size :: .ref T.heap.size :: rest, locked := none }) rfl d4' _ hsteps
/-- 'throw new E("text")', the text by a wide index -/
theorem vx_throwSW {cc : ByteArray} {pc : Nat} (hexec : p.tables.exec = Jvm.exec) (hb : c.code = cc) (hl : l.stackTraces = false) {own cls text : String} {names : List String} {ik is ic mc ms sa : Nat} {A : Nat → Prop}
    (hown : s.vm.findClass own = some m.cls) (hcls : Bundle.fit cls = true) (hnames : ∀ n ∈ names, Bundle.fit n = true)
    (hk : (Cond.classLink own ik cls).before args s = true) (hini : (Cond.initialized cls).before args s = true) (hstr : vk_R own is text sa s) (hat : ∀ w ∈ vx_atS own ic cls names, w.before args s = true)
    (hgood : ∀ w ∈ Cond.classLink own ik cls :: Cond.initialized cls :: vx_atS own ic cls names, vx_ot w = true)
    (hU : vx_Zq Bundle.tN "UNASSIGNED_STACK" Bundle.steD A s s.heap) (hN : vx_Zq Bundle.tN "SUPPRESSED_SENTINEL" Bundle.listD A s s.heap) (hS : va_S A s.heap H locs) (hsize : ls.size = c.maxLocals)
    (d0 : decode cc pc = .ok (.new ik, 3)) (d3 : decode cc (pc + 3) = .ok (.dup, 1)) (d4 : decode cc (pc + 4) = .ok (.ldc_w is, 3)) (d7 : decode cc (pc + 7) = .ok (.invokespecial ic, 3)) (d10 : decode cc (pc + 10) = .ok (.athrow, 1))
    (hout : ∀ x ∈ c.exceptionTable.toList, covers x (pc + 10) = false)
    (hRframes : names.length + 3 < R.frames) (hRlocals : (rest.map fun v => v.category).sum + (13 * (names.length + 1) + 43) ≤ R.locals) (hRcells : cells + 1 ≤ R.cells) (hRslots : slots + 6 ≤ R.slots) (hlocks : meth.locks = false)
    (hx : ∀ t : State, s.vm.Alike t.vm → H.size ≤ t.heap.size → (∀ q : Nat, q < H.size → t.heap[q]? = H[q]?) → XC cls s t)
    (hf : ∀ z ∈ locs, free z.base) (hc : cells + 1 ≤ mc) (hs : slots + 6 ≤ ms) :
    W p l e R s m args below meth c H locs cells slots (vx_MQ below Qc XC args s mc ms free) (F0 m pc ls rest) := by
  intro T hT X
  have htr : e.platform.stackTraces = false := (show e.platform.stackTraces = l.stackTraces by rw [X.admits.platform]).trans hl
  have Y := vx_rebase X (R' := { frames := R.frames, locals := R.locals, cells := 1, slots := 6 }) (Nat.le_refl _) (Nat.le_refl _) hRcells hRslots
  obtain ⟨s', hA⟩ : ∃ z, z = (T.setVm s.vm).setFrames (.invoking m args :: below) := ⟨_, rfl⟩
  rw [← hA] at Y
  have hvm : s'.vm = s.vm := by rw [hA]; rfl
  have hhp : s'.heap = H := by rw [hA]; exact hT
  have hW0 : s.WarmedH s'.vm := by rw [hvm]; exact State.WarmedH.refl s
  have hat' : ∀ w ∈ vx_atS own ic cls names, w.before args s' = true := fun w hw => vx_ot_at hW0 hvm.symm (hgood w (List.mem_cons_of_mem _ (List.mem_cons_of_mem _ hw))) (hat w hw)
  have hk' : (Cond.classLink own ik cls).before args s' = true := vx_ot_at hW0 hvm.symm (hgood _ List.mem_cons_self) hk
  have hini' : (Cond.initialized cls).before args s' = true := vx_ot_at hW0 hvm.symm (hgood _ (List.mem_cons_of_mem _ List.mem_cons_self)) hini
  have hU' : vx_Zq Bundle.tN "UNASSIGNED_STACK" Bundle.steD A s' s'.heap := by rw [hhp]; exact vx_Zq.moved hW0.alike (hU.kept hS.2.1)
  have hN' : vx_Zq Bundle.tN "SUPPRESSED_SENTINEL" Bundle.listD A s' s'.heap := by rw [hhp]; exact vx_Zq.moved hW0.alike (hN.kept hS.2.1)
  have h : ∀ w ∈ Bundle.ownAtoms own ic cls names, w.before args s' = true := vx_own hat' (vx_isRefq hU'.1) (vx_isRefq hN'.1) hU'.2.word hN'.2.word
  have hown' : s'.vm.findClass own = some m.cls := by rw [hvm]; exact hown
  have hins : (Cond.instantiable cls 6).before args s' = true := h _ (by simp [Bundle.ownAtoms])
  obtain ⟨vm₁, cX, kX, hfX, hkX, -, -, X₁, st1⟩ := Y.newCold hexec (own := own) (C := cls) (index := ik) (n := 6) hown' hk' hins hini'
    (g := F0 m pc ls rest) rfl (by rw [hb]; exact d0) (Nat.le_refl _) (Nat.le_refl _)
  generalize hT1 : (T.setVm vm₁).pushCell { cls := cX, slots := kX.instanceTypes.map defaultValue, vm := .none } = T1 at X₁ st1
  have hcat : (Value.ref T.heap.size).category = 1 := rfl
  have hcellA : T1.heap[T.heap.size]? = some (freshCell cX kX) := by rw [← hT1]; exact State.heap_pushCell_size _ _
  have d3' : decode c.code (pc + 3) = .ok (.dup, 1) := by rw [hb]; exact d3
  have d4' : decode c.code (pc + 4) = .ok (.ldc_w is, 3) := by rw [hb]; exact d4
  have hstr' : vk_R own is text sa s' := vk_R.warm hW0 hstr
  obtain ⟨U, hsteps, hrun, hend, hW, hsame, ce, hce, hO⟩ := X₁.ctorThrowS hexec htr (own := own) (cls := cls) (names := names) (ic := ic) hown' hcls hnames h (fun x hx => nomatch hx) hfX hkX hcellA (by rw [hhp, hT]; exact Nat.le_refl _) (msg := .ref sa) rfl
    (g := { method := m, pc := pc + 7, locals := ls, stack := .ref sa :: .ref T.heap.size :: .ref T.heap.size :: rest, locked := none }) rfl hsize rfl rfl (rest := rest) rfl
    (by rw [hb]; exact d7) (by rw [hb]; exact d10) hout hRframes (by simp only [List.map_cons, List.sum_cons, hcat]; omega) hlocks
  obtain ⟨f1, f2⟩ := vx_frame hsame
  rw [hhp] at f1 f2
  have hWs : s.WarmedH U.vm := State.WarmedH.trans hW0 hW
  have hcl : s.vm.findClass cls = some ce.cls := by
    have h9 := hO.cls
    rw [hvm] at h9
    exact h9
  have hall : s.sameButNew ({ U with vm := s.vm } : State) locs mc ms := by
    subst hA
    obtain ⟨e1, e2⟩ := hsame
    rw [State.setFrames_setFrames] at e1
    have h2 : (T.setVm s.vm).sameButNew ({ U with vm := s.vm } : State) [] (0 + 1) (0 + 6) := ⟨e1, e2⟩
    have h3 := X.same.trans h2
    rw [List.append_nil] at h3
    exact h3.mono hc hs
  refine ⟨U, ?_, .threw T.heap.size, hrun, hend, Or.inr ⟨T.heap.size, rfl, cls, ce, locs, hx U hWs.alike f1 (fun q hq => f2 q hq (fun z hz => nomatch hz)), hce, hO.vm, hcl, hWs, hall, hf⟩⟩
  refine st1 _ ?_
  show Steps p.tables e below (T1.setTop { method := m, pc := pc + 3, locals := ls, stack := .ref T.heap.size :: rest, locked := none }) _
  jvm_step X₁.here [X₁.here.top, hexec, d3', Value.category]
  exact X₁.ldcStringW hexec (own := own) (text := text) (index := is) (a := sa) hown' hstr'.1 hstr'.2
    (g := { method := m, pc := pc + 4, locals := ls, stack := .ref T.heap.size :: .ref T.heap.size :: rest, locked := none }) rfl d4' _ hsteps
end Ends
section Bodies
variable {l : Launch}
theorem vx_ofW {y : MethodName} {ws ws' : List Cond} {rm : Room} {Pc : Array Value → State → Prop} {Qc : Array Value → State → Outcome → State → Prop} {XC : String → State → State → Prop} {mc ms : Nat} {free : Addr → Prop} {cc : ByteArray} {maxL : Nat} {ret : Option FieldType}
    (hy : plainName y.cls = true) (hw : ws = Cond.code y cc maxL ret :: ws')
    (body : ∀ p e s m args below meth c s₁, BodyLoose p l y (headSpec ws rm) cc maxL ret e s m args below meth c s₁ → c.maxLocals = maxL → (∀ x ∈ c.exceptionTable.toList, False) → Pc args s →
      W p l e (headSpec ws rm).room s m args below meth c s.heap [] 0 0 (vx_MQ below Qc XC args s mc ms free) (entryFrame m args maxL)) : vx_Met l y ws rm Pc Qc XC mc ms free := by
  refine MetFree.of_bodyS (code := cc) (maxLocals := maxL) (ret := ret) hy ?_ ?_
  · intro args s m h hn
    obtain ⟨meth, c, h1, h2, h3, h4, h5, h6, -, -⟩ := Cond.code_spec hn (atoms_spec (ws := ws) h _ (by rw [hw]; exact List.mem_cons_self))
    exact ⟨meth, c, h1, h2, h3, h4, h5, h6⟩
  · intro p e s m args below meth c s₁ B hml hP _
    have hh0 : s₁.heap = s.heap := by rw [B.state]; rfl
    have ht : ∀ x ∈ c.exceptionTable.toList, False := by
      obtain ⟨meth9, c9, h1, h2, -, -, -, -, h7, -⟩ := Cond.code_spec B.named (atoms_spec (ws := ws) B.pre _ (by rw [hw]; exact List.mem_cons_self))
      cases Option.some.inj (h1.symm.trans B.method)
      cases Option.some.inj (h2.symm.trans (Stand.of_body B).code)
      intro x hx
      rw [Array.isEmpty_iff.mp h7] at hx
      cases hx
    obtain ⟨t, a1, o, b1, b2, b3⟩ := body p e s m args below meth c s₁ B hml ht hP s₁ hh0 (Stand.of_body B)
    exact ⟨t, o, a1, b1, b2, b3⟩
/-- the table of a body with handlers -/
theorem vx_table {p : Program} {x y : MethodName} {S : Spec} {cc bytes : ByteArray} {maxL maxL' : Nat} {ret ret' : Option FieldType} {e : Env} {s s₁ : State} {m : MethodId} {args : Array Value} {below : List Frame} {meth : Method} {c : Code} {hh : List (Nat × Nat × Nat × Nat)}
    (B : BodyLoose p l y S cc maxL ret e s m args below meth c s₁) (h : (Cond.codeWith y bytes maxL' ret' hh).before args s = true) : c.exceptionTable.toList = tableOf hh := by
  obtain ⟨m9, meth9, c9, hn9, h1, h2, -, -, h6, -⟩ := Cond.codeWith_spec h
  cases Option.some.inj (hn9.symm.trans B.named)
  cases Option.some.inj (h1.symm.trans B.method)
  cases Option.some.inj (h2.symm.trans (Stand.of_body B).code)
  rw [← h6, table_eq]
end Bodies
end VXA
/-! ===== END ===== -/
/-! ===== BEGIN a static call of a method with an exception table ===== -/
section VXS
variable {p : Program} {l : Launch} {e : Env} {R : Room} {s : State} {m : MethodId} {args : Array Value} {below : List Frame} {meth : Method} {c : Code} {T : State} {H : Heap} {locs : List Loc} {cells slots : Nat}
abbrev vx_CSW (R : Room) (s : State) (args : Array Value) (own : String) (index : Nat) (y : MethodName) (bytes : ByteArray) (maxL : Nat) (ret : Option FieldType) (hh : List (Nat × Nat × Nat × Nat)) (ws : List Cond) (rm : Room) (mc ms n : Nat) : Prop :=
  (rm.cells = mc ∧ rm.slots = ms ∧ rm.frames + 1 ≤ R.frames ∧ 8 + (maxL + 11) + rm.locals ≤ R.locals ∧ (∀ w ∈ ws, ∀ (a' : Array Value) (U : State), s.WarmedH U.vm → w.before a' U = true) ∧ Cond.codeWith y bytes maxL ret hh ∈ ws) ∧
  (Cond.codeWith y bytes maxL ret hh).before args s = true ∧ (Cond.initialized y.cls).before args s = true ∧ (y.cls ≠ "java/lang/invoke/MethodHandle" ∧ y.cls ≠ "java/lang/invoke/VarHandle") ∧
  (∀ sig, parseMethodDescriptor y.desc = some sig → n = sig.parameters.length) ∧ (Cond.methodLink own index y).before args s = true ∧ (Cond.static y).before args s = true
theorem vx_cwSW {own : String} {index maxL mc ms : Nat} {y : MethodName} {bytes : ByteArray} {ret : Option FieldType} {hh : List (Nat × Nat × Nat × Nat)} {Ts ws ws' : List Cond} {rm : Room} (n : Nat) (ht : ∀ w ∈ Ts, w.before args s = true) (hT : GoodIn Ts (va_wsS own index y ws)) (hw : ws = Cond.codeWith y bytes maxL ret hh :: ws') (hrc : rm.cells = mc) (hrs : rm.slots = ms)
    (hd : y.cls ≠ "java/lang/invoke/MethodHandle" ∧ y.cls ≠ "java/lang/invoke/VarHandle" ∧ (parseMethodDescriptor y.desc).map (fun d => d.parameters.length) = some n) (hR : rm.frames + 1 ≤ R.frames ∧ 8 + (maxL + 11) + rm.locals ≤ R.locals) :
    vx_CSW R s args own index y bytes maxL ret hh ws rm mc ms n := by
  have ok : ∀ w ∈ va_wsS own index y ws, w.before args s = true := fun w h => ht w (hT w h).1
  have hG : GoodIn Ts ws := fun w h => hT w (by unfold va_wsS; exact List.mem_append_right _ h)
  have hc : Cond.codeWith y bytes maxL ret hh ∈ ws := by rw [hw]; exact List.mem_cons_self
  refine ⟨⟨hrc, hrs, hR.1, hR.2, pay_in ht hG, hc⟩, ht _ (hG _ hc).1, ok _ (by simp [va_wsS]), ⟨hd.1, hd.2.1⟩, fun sig h => ?_, ok _ (by simp [va_wsS]), ok _ (by simp [va_wsS])⟩
  have h2 := hd.2.2
  rw [h] at h2
  exact (Option.some.inj h2).symm
theorem vx_callSW (X : Stand p l e R s m args below meth c T locs cells slots) (hexec : p.tables.exec = Jvm.exec) {own : String} {index : Nat} {y : MethodName} {bytes : ByteArray} {maxL : Nat} {ret : Option FieldType} {hh : List (Nat × Nat × Nat × Nat)}
    (hown : s.vm.findClass own = some m.cls) (hlink : (Cond.methodLink own index y).before args s = true) (hstat : (Cond.static y).before args s = true) (hinit : (Cond.initialized y.cls).before args s = true)
    (hcode : (Cond.codeWith y bytes maxL ret hh).before args s = true) (hy : y.cls ≠ "java/lang/invoke/MethodHandle" ∧ y.cls ≠ "java/lang/invoke/VarHandle")
    {W9 : Nat} {Pre : Pt → Array Value → Prop} {Post : Pt → Array Value → Option Value → Pt → Prop} (hK : Back l R p e below s args y 3 W9 Pre Post)
    {g : JFrame} (hg : g.method = m) (hsize : g.locals.size = c.maxLocals) {argsL rest : List Value} (hlen : ∀ sig, parseMethodDescriptor y.desc = some sig → argsL.length = sig.parameters.length)
    (hstack : g.stack = argsL.reverse ++ rest) (hW : 2 * g.monitorRoom + (rest.map fun v => v.category).sum ≤ W9) (hdg : decode c.code g.pc = .ok (.invokestatic index, 3))
    (hpre : ∀ vm₁, s.WarmedH vm₁ → Pre ⟨T.setVm vm₁, locs, cells, slots⟩ argsL.toArray) :
    ∃ (v : Option Value) (vm₁ : Vm) (B : Pt), s.WarmedH vm₁ ∧ Stand p l e R s m args below meth c B.U B.locs B.cells B.slots ∧ Post ⟨T.setVm vm₁, locs, cells, slots⟩ argsL.toArray v B ∧
      ∀ target, Steps p.tables e below (B.U.setTop { g with pc := g.pc + 3, stack := v.toList ++ rest }) target → Steps p.tables e below (T.setTop g) target := by
  obtain ⟨mk, methM, cM, hnamed, hmethM, -, -, -, -, -, -, hsigM⟩ := Cond.codeWith_spec hcode
  have hstatic : methM.isStatic = true := Cond.static_spec hnamed hmethM hstat
  obtain ⟨kP, hkP, -⟩ := className_of_methodNamed hnamed
  have hinitP : kP.init = .initialized := Cond.initialized_spec (findClass_of_methodNamed hnamed) hkP hinit
  obtain ⟨vm₁, X₁, hstep₁⟩ := X.invokestatic hexec hown hlink hnamed hmethM hstatic hkP hinitP hy (g := g) hg (argsL := argsL) (rest := rest) (hlen _ hsigM) hstack hdg
  obtain ⟨v, B, X', hpost, hsteps⟩ := hK m meth c ⟨T.setVm vm₁, locs, cells, slots⟩ { g with stack := rest } (.invokestatic index) mk argsL.toArray X₁ hg hsize hdg hW (X₁.named hnamed) (hpre vm₁ X₁.warmed)
  exact ⟨v, vm₁, B, X₁.warmed, X', hpost, fun target h => hstep₁ _ fun acts => by rw [doInvoke_state]; exact hsteps.trans h⟩
theorem vx_runSW {y : MethodName} {bytes cc : ByteArray} {maxL nL mc ms n index : Nat} {ret : Option FieldType} {hh : List (Nat × Nat × Nat × Nat)} {ws : List Cond} {rm : Room} {Pc : Array Value → State → Prop} {Qc : Array Value → State → Outcome → State → Prop} {free : Addr → Prop} {Ts : List Cond} {own : String} {As rest : List Value} {g : JFrame}
    (S : CallFix p m c cc nL s args Ts own) (hM : Met l y ws rm Pc Qc mc ms free) (cw : vx_CSW R s args own index y bytes maxL ret hh ws rm mc ms n) (hp : PreS s H Pc As)
    (hg : g.method = m) (hn : As.length = n) (hsize : g.locals.size = nL) (hstack : g.stack = As.reverse ++ rest) (hW : 2 * g.monitorRoom + (rest.map fun v => v.category).sum ≤ 8) (hdg : decode cc g.pc = .ok (.invokestatic index, 3)) (hf : cells + mc ≤ R.cells ∧ slots + ms ≤ R.slots) :
    va_Run p l e R s m args below meth c H locs cells slots mc ms g rest (Qc As.toArray) (free) := by
  obtain ⟨⟨hrc, hrs, hfr, hlo, hws, hcw⟩, hcode, hini, hy, hlen, hl, hstt⟩ := cw
  have hK : Back l R p e below s args y 3 8 (PreOf R mc ms Pc) (PostOf Qc mc ms free) := va_backW (hh := hh) (bytes := bytes) (maxL := maxL) (ret := ret) hM hp.1 hrc hrs hfr hlo hws hcw (fun a' U hW => word_at hW (Or.inl (by first | rfl | simp [Cond.onTables, Cond.keeps, Cond.steady])) hini)
  obtain ⟨hx, hb, hml, ho, -⟩ := S
  intro T hT X
  obtain ⟨v, vm₁, ⟨U', l2, c2, s2⟩, hW₁, X', ⟨g', mk, t, L, e1, e2, hq, h1, hL, h2, h3⟩, st⟩ := vx_callSW X hx (hh := hh) (bytes := bytes) (maxL := maxL) (ret := ret) ho hl hstt hini hcode hy hK hg (hsize.trans hml.symm) (argsL := As) (rest := rest) (fun sig h => hn.trans (hlen sig h)) hstack hW (by rw [hb]; exact hdg)
    (fun vm₁ hW₁ => ⟨hf.1, hf.2, hp.2 (T.setVm vm₁) hT hW₁⟩)
  dsimp only [Pt.U, Pt.locs, Pt.cells, Pt.slots] at X' e1 e2 h1 h2 h3 st
  subst h1; subst h2; subst h3
  exact ⟨v, (T.setVm vm₁).calling g' mk As.toArray, t, U', L, hT, X', hL, e1, e2, hq, st⟩
/-- a thing of a world lies in the heap -/
theorem vx_lt {D : va_G} {cl : List vw_C} {ws : va_W} {H1 : Heap} (h : va_P D cl ws H1) {k : Nat} {q : Nat × va_E} (hk : ws[k]? = some q) : q.1 < H1.size := (h k q hk).lt
end VXS
/-! ===== END ===== -/
/-! ===== BEGIN methods with a table of their own: called by a name, returning or throwing ===== -/
section VXH
/-! vx_backW, vx_callVX, vx_callSX, vx_callVW, vx_runVW, vx_runVX, vx_runSX, vx_ofWH follow the same proofs as their sisters above (Free/Laws.lean, Shelf42/LK1.lean); vx_outP calls Shelf42/NT130.lean (outThrough). -/
section
variable {l : Launch} {R : Room} {p : Program} {e : Env} {below : List Frame} {s : State} {sargs : Array Value} {y : MethodName} {len W9 : Nat}
theorem vx_backW {ws : List Cond} {rm : Room} {Pc : Array Value → State → Prop} {Qc : Array Value → State → Outcome → State → Prop} {XC : String → State → State → Prop} {mc ms : Nat} {free : Addr → Prop} {bytes : ByteArray} {maxL : Nat} {ret : Option FieldType} {hh : List (Nat × Nat × Nat × Nat)}
    (hM : vx_Met l y ws rm Pc Qc XC mc ms free) (hblind : FrameBlind Pc) (hrc : rm.cells = mc) (hrs : rm.slots = ms)
    (hframes : rm.frames + 1 ≤ R.frames) (hlocals : W9 + (maxL + 11) + rm.locals ≤ R.locals)
    (hws : ∀ w ∈ ws, ∀ a' U, s.WarmedH U.vm → w.before a' U = true) (hcode : Cond.codeWith y bytes maxL ret hh ∈ ws) (hinit : ∀ a' U, s.WarmedH U.vm → (Cond.initialized y.cls).before a' U = true) :
    vx_Back l R p e below s sargs y len W9 (PreOf R mc ms Pc) (PostOf Qc mc ms free) (vx_Post XC mc ms free) := by
  intro m meth c A g ig mk a X hg hsize hdg hW hn hp
  have h1 : (headSpec ws rm).pre.before a A.U = true := atoms_intro fun w hw => hws w hw _ _ X.warmed
  have h2 : (Cond.codeWith y bytes maxL ret hh).before a A.U = true := hws _ hcode _ _ X.warmed
  have h3 : (Cond.initialized y.cls).before a A.U = true := hinit _ _ X.warmed
  have h4 : A.cells + (headSpec ws rm).room.cells ≤ R.cells := by rw [show (headSpec ws rm).room.cells = mc from hrc]; exact hp.1
  have h5 : A.slots + (headSpec ws rm).room.slots ≤ R.slots := by rw [show (headSpec ws rm).room.slots = ms from hrs]; exact hp.2.1
  have hPc : Pc a (A.U.calling g mk a) := hblind _ _ _ _ hp.2.2
  obtain ⟨U, Ls, c0, s0⟩ := A
  dsimp only [Pt.U, Pt.locs, Pt.cells, Pt.slots] at h1 h2 h3 h4 h5 X hn hPc ⊢
  obtain ⟨m9, methY, cY, hn9, hmY, hcY, -, hlY, -⟩ := Cond.codeWith_spec h2
  cases Option.some.inj (hn9.symm.trans hn)
  obtain ⟨kY, hkY, -⟩ := className_of_methodNamed hn
  have hinitY : kY.init = .initialized := Cond.initialized_spec (findClass_of_methodNamed hn) hkY h3
  have h : At U g.method c below := by rw [hg]; exact X.here
  have hlocals9 : W9 + (maxL + 11) + (headSpec ws rm).room.locals ≤ R.locals := hlocals
  have happ : (headSpec ws rm).appliesLoose y e.platform (U.calling g mk a) = true :=
    Spec.appliesLoose_calling (g := g) h hdg hn hkY hinitY
      (X.room_calling (g := g) (R' := (headSpec ws rm).room) hsize hmY hcY hframes (by rw [hlY]; omega) h4 h5) h1
  obtain ⟨mid, hmid⟩ := h.above
  have hfr : (U.setTop g).frames = (.java g :: mid) ++ below := by rw [State.frames_setTop' g h.top, hmid]; rfl
  obtain ⟨o, s₂, hsteps, -, hend, hq⟩ := Steps.callFree hM p X.admits X.cas X.clock (acts := []) hfr happ hPc trivial
  have hq' : vx_Q Qc XC mc ms free a (U.calling g mk a) o s₂ := hq
  rw [State.frames_setTop' g h.top] at hend
  obtain ⟨g₀, hg0⟩ := Option.isSome_iff_exists.mp h.top
  obtain ⟨r, hr⟩ := State.topJava?_eq_some.mp hg0
  have hr' : (({ U with heap := s₂.heap, slotsUsed := s₂.slotsUsed } : State).setVm s₂.vm).frames = .java g₀ :: r := hr
  rcases hq' with ⟨hqc, L, hfe, hL⟩ | ⟨q, rfl, E, ce, L, hx, hce, hcv, hcl, hW₂, hsm, hL⟩
  · obtain ⟨⟨v, rfl⟩, hW₂, e2, q2, q3, q4, q5, q6⟩ := id hfe
    have e3 : s₂ = ({ (U.calling g mk a).setFrames s₂.frames with heap := s₂.heap, slotsUsed := s₂.slotsUsed } : State).setVm s₂.vm := by
      have : s₂ = ({ s₂ with vm := (U.calling g mk a).vm } : State).setVm s₂.vm := rfl
      rw [e2] at this
      exact this
    obtain ⟨c₂, i₂, len₂, hc₂, hd₂, hf₂⟩ := hend
    have hW' : U.WarmedH s₂.vm := hW₂
    have hcc : c₂ = c := by
      have h1 : s₂.code? g.method = U.code? g.method := by
        rw [State.code?_eq, State.code?_eq, hW'.alike.method?]
      exact Option.some.inj (hc₂.symm.trans (h1.trans h.code))
    subst hcc
    have hlen : len₂ = len := by rw [hdg] at hd₂; cases hd₂; rfl
    subst hlen
    have hs₂ : s₂ = (({ U with heap := s₂.heap, slotsUsed := s₂.slotsUsed } : State).setVm s₂.vm).setTop { g with pc := g.pc + len₂, stack := v.toList ++ g.stack } := by
      refine e3.trans ?_
      rw [hf₂, State.calling_eq h.top, State.setFrames_setFrames, State.setTop_of_frames _ hr', hr]
      rfl
    have hsame : U.sameButNew ({ U with heap := s₂.heap, slotsUsed := s₂.slotsUsed } : State) L mc ms := by
      refine ⟨?_, q2, q3, q4, q5, q6⟩
      obtain ⟨t, ht, -⟩ := State.frames_cons hr
      show ({ U with heap := s₂.heap, slotsUsed := s₂.slotsUsed } : State) = { U.setFrames U.frames with heap := s₂.heap, slotsUsed := s₂.slotsUsed }
      rw [State.setFrames_self ht]
    subst hg
    refine Or.inl ⟨v, ⟨(({ U with heap := s₂.heap, slotsUsed := s₂.slotsUsed } : State).setVm s₂.vm), Ls ++ L, c0 + mc, s0 + ms⟩,
      ⟨X.admits, X.cas, X.clock, X.frames, X.room, X.hears, X.method, X.code, (X.here.setHeapUsed s₂.heap s₂.slotsUsed).setVm hW'.alike, X.tail, State.WarmedH.trans X.warmed hW', X.limits, X.bytes, X.same.trans (hsame.setVm s.vm)⟩,
      ⟨g, mk, s₂, L, rfl, rfl, hqc, rfl, hL, rfl, rfl⟩, ?_⟩
    show Steps p.tables e below _ ((({ U with heap := s₂.heap, slotsUsed := s₂.slotsUsed } : State).setVm s₂.vm).setTop { g with pc := g.pc + len₂, stack := v.toList ++ g.stack })
    rw [← hs₂]
    exact hsteps
  · obtain ⟨e2, q2, q3, q4, q5, q6⟩ := id hsm
    have e3 : s₂ = ({ (U.calling g mk a).setFrames s₂.frames with heap := s₂.heap, slotsUsed := s₂.slotsUsed } : State).setVm s₂.vm := by
      have : s₂ = ({ s₂ with vm := (U.calling g mk a).vm } : State).setVm s₂.vm := rfl
      rw [e2] at this
      exact this
    have hf₂ : s₂.frames = .throwing q :: .java g :: U.frames.tail := hend
    have hW' : U.WarmedH s₂.vm := hW₂
    have hs₂ : s₂ = ((({ U with heap := s₂.heap, slotsUsed := s₂.slotsUsed } : State).setVm s₂.vm).setTop g).pushFrame (.throwing q) := by
      refine e3.trans ?_
      rw [hf₂, State.calling_eq h.top, State.setFrames_setFrames, State.pushFrame, State.frames_setTop _ hr', State.setTop_of_frames _ hr', State.setFrames_setFrames, hr]
      rfl
    have hsame : U.sameButNew ({ U with heap := s₂.heap, slotsUsed := s₂.slotsUsed } : State) L mc ms := by
      refine ⟨?_, q2, q3, q4, q5, q6⟩
      obtain ⟨t, ht, -⟩ := State.frames_cons hr
      show ({ U with heap := s₂.heap, slotsUsed := s₂.slotsUsed } : State) = { U.setFrames U.frames with heap := s₂.heap, slotsUsed := s₂.slotsUsed }
      rw [State.setFrames_self ht]
    subst hg
    refine Or.inr ⟨q, ⟨(({ U with heap := s₂.heap, slotsUsed := s₂.slotsUsed } : State).setVm s₂.vm), Ls ++ L, c0 + mc, s0 + ms⟩,
      ⟨X.admits, X.cas, X.clock, X.frames, X.room, X.hears, X.method, X.code, (X.here.setHeapUsed s₂.heap s₂.slotsUsed).setVm hW'.alike, X.tail, State.WarmedH.trans X.warmed hW', X.limits, X.bytes, X.same.trans (hsame.setVm s.vm)⟩,
      ⟨g, mk, s₂, L, E, ce, rfl, rfl, hx, hce, hcv, hcl, rfl, hL, rfl, rfl⟩, ?_⟩
    show Steps p.tables e below _ (((({ U with heap := s₂.heap, slotsUsed := s₂.slotsUsed } : State).setVm s₂.vm).setTop g).pushFrame (.throwing q))
    rw [← hs₂]
    exact hsteps
end
variable {p : Program} {l : Launch} {e : Env} {R : Room} {s : State} {m : MethodId} {args : Array Value} {below : List Frame} {meth : Method} {c : Code} {T : State} {H : Heap} {locs : List Loc} {cells slots : Nat}
theorem vx_callVX (X : Stand p l e R s m args below meth c T locs cells slots) (hexec : p.tables.exec = Jvm.exec) {own C : String} {index : Nat} {y : MethodName} {bytes : ByteArray} {maxL : Nat} {ret : Option FieldType} {hh : List (Nat × Nat × Nat × Nat)}
    (hown : s.vm.findClass own = some m.cls) (hlink : (Cond.methodLink own index y).before args s = true) (hinst : (Cond.instanceMethod y).before args s = true) (hsel : (Cond.selects C y y).before args s = true)
    (hcode : (Cond.codeWith y bytes maxL ret hh).before args s = true) (hy : y.cls ≠ "java/lang/invoke/MethodHandle" ∧ y.cls ≠ "java/lang/invoke/VarHandle")
    {W9 : Nat} {Pre : Pt → Array Value → Prop} {Post : Pt → Array Value → Option Value → Pt → Prop} {PostX : Pt → Array Value → Addr → Pt → Prop} (hK : vx_Back l R p e below s args y 3 W9 Pre Post PostX)
    {b : Addr} {cellB : Cell} (hcell : T.heap[b]? = some cellB) (hobj : cellB.vm.isStatics = false) (hcls : s.vm.findClass C = some cellB.cls)
    {g : JFrame} (hg : g.method = m) (hsize : g.locals.size = c.maxLocals) {argsL rest : List Value} (hlen : ∀ sig, parseMethodDescriptor y.desc = some sig → argsL.length = sig.parameters.length)
    (hstack : g.stack = argsL.reverse ++ .ref b :: rest) (hW : 2 * g.monitorRoom + (rest.map fun v => v.category).sum ≤ W9) (hdg : decode c.code g.pc = .ok (.invokevirtual index, 3))
    (hpre : ∀ vm₁, s.WarmedH vm₁ → Pre ⟨T.setVm vm₁, locs, cells, slots⟩ (Value.ref b :: argsL).toArray) :
    (∃ (v : Option Value) (vm₁ : Vm) (B : Pt), s.WarmedH vm₁ ∧ Stand p l e R s m args below meth c B.U B.locs B.cells B.slots ∧ Post ⟨T.setVm vm₁, locs, cells, slots⟩ (Value.ref b :: argsL).toArray v B ∧
      ∀ target, Steps p.tables e below (B.U.setTop { g with pc := g.pc + 3, stack := v.toList ++ rest }) target → Steps p.tables e below (T.setTop g) target) ∨
    (∃ (q : Addr) (vm₁ : Vm) (B : Pt), s.WarmedH vm₁ ∧ Stand p l e R s m args below meth c B.U B.locs B.cells B.slots ∧ PostX ⟨T.setVm vm₁, locs, cells, slots⟩ (Value.ref b :: argsL).toArray q B ∧
      Steps p.tables e below (T.setTop g) ((B.U.setTop { g with stack := rest }).pushFrame (.throwing q))) := by
  obtain ⟨mk, methM, hnamed, hmethM, hstM, habM⟩ := Cond.instanceMethod_spec hinst
  obtain ⟨m8, methM', cM, hn8, hmethM', -, -, -, -, -, -, hsigM⟩ := Cond.codeWith_spec hcode
  cases Option.some.inj (hn8.symm.trans hnamed)
  cases hmethM.symm.trans hmethM'
  obtain ⟨c2, r2, m2, q1, q2, q3, q4, kP, hkP, hkPi⟩ := Cond.selects_spec hsel
  cases hcls.symm.trans q1
  cases (State.methodFound?_of_named hnamed hy).symm.trans q2
  cases hnamed.symm.trans q3
  have hselP : selectMethod e.platform s.vm cellB.cls mk = .method mk := by rw [Launch.admits_selectMethod X.admits]; exact q4
  obtain ⟨vm₁, X₁, hstep₁⟩ := X.invokevirtual hexec hown hlink hnamed hmethM hstM hkP hkPi hy (a := b) (cell := cellB) hcell
    (fun z h => by rw [h] at hobj; cases hobj) hselP hmethM habM hkP hkPi (g := g) hg (argsL := argsL) (rest := rest) (hlen _ hsigM) hstack hdg
  rcases hK m meth c ⟨T.setVm vm₁, locs, cells, slots⟩ { g with stack := rest } (.invokevirtual index) mk (Value.ref b :: argsL).toArray X₁ hg hsize hdg hW (X₁.named hnamed) (hpre vm₁ X₁.warmed) with ⟨v, B, X', hpost, hsteps⟩ | ⟨q, B, X', hpost, hsteps⟩
  · exact Or.inl ⟨v, vm₁, B, X₁.warmed, X', hpost, fun target h => hstep₁ _ fun acts => by rw [doInvoke_state]; exact hsteps.trans h⟩
  · exact Or.inr ⟨q, vm₁, B, X₁.warmed, X', hpost, hstep₁ _ fun acts => by rw [doInvoke_state]; exact hsteps⟩
theorem vx_callSX (X : Stand p l e R s m args below meth c T locs cells slots) (hexec : p.tables.exec = Jvm.exec) {own : String} {index : Nat} {y : MethodName} {bytes : ByteArray} {maxL : Nat} {ret : Option FieldType} {hh : List (Nat × Nat × Nat × Nat)}
    (hown : s.vm.findClass own = some m.cls) (hlink : (Cond.methodLink own index y).before args s = true) (hstat : (Cond.static y).before args s = true) (hinit : (Cond.initialized y.cls).before args s = true)
    (hcode : (Cond.codeWith y bytes maxL ret hh).before args s = true) (hy : y.cls ≠ "java/lang/invoke/MethodHandle" ∧ y.cls ≠ "java/lang/invoke/VarHandle")
    {W9 : Nat} {Pre : Pt → Array Value → Prop} {Post : Pt → Array Value → Option Value → Pt → Prop} {PostX : Pt → Array Value → Addr → Pt → Prop} (hK : vx_Back l R p e below s args y 3 W9 Pre Post PostX)
    {g : JFrame} (hg : g.method = m) (hsize : g.locals.size = c.maxLocals) {argsL rest : List Value} (hlen : ∀ sig, parseMethodDescriptor y.desc = some sig → argsL.length = sig.parameters.length)
    (hstack : g.stack = argsL.reverse ++ rest) (hW : 2 * g.monitorRoom + (rest.map fun v => v.category).sum ≤ W9) (hdg : decode c.code g.pc = .ok (.invokestatic index, 3))
    (hpre : ∀ vm₁, s.WarmedH vm₁ → Pre ⟨T.setVm vm₁, locs, cells, slots⟩ argsL.toArray) :
    (∃ (v : Option Value) (vm₁ : Vm) (B : Pt), s.WarmedH vm₁ ∧ Stand p l e R s m args below meth c B.U B.locs B.cells B.slots ∧ Post ⟨T.setVm vm₁, locs, cells, slots⟩ argsL.toArray v B ∧
      ∀ target, Steps p.tables e below (B.U.setTop { g with pc := g.pc + 3, stack := v.toList ++ rest }) target → Steps p.tables e below (T.setTop g) target) ∨
    (∃ (q : Addr) (vm₁ : Vm) (B : Pt), s.WarmedH vm₁ ∧ Stand p l e R s m args below meth c B.U B.locs B.cells B.slots ∧ PostX ⟨T.setVm vm₁, locs, cells, slots⟩ argsL.toArray q B ∧
      Steps p.tables e below (T.setTop g) ((B.U.setTop { g with stack := rest }).pushFrame (.throwing q))) := by
  obtain ⟨mk, methM, cM, hnamed, hmethM, -, -, -, -, -, -, hsigM⟩ := Cond.codeWith_spec hcode
  have hstatic : methM.isStatic = true := Cond.static_spec hnamed hmethM hstat
  obtain ⟨kP, hkP, -⟩ := className_of_methodNamed hnamed
  have hinitP : kP.init = .initialized := Cond.initialized_spec (findClass_of_methodNamed hnamed) hkP hinit
  obtain ⟨vm₁, X₁, hstep₁⟩ := X.invokestatic hexec hown hlink hnamed hmethM hstatic hkP hinitP hy (g := g) hg (argsL := argsL) (rest := rest) (hlen _ hsigM) hstack hdg
  rcases hK m meth c ⟨T.setVm vm₁, locs, cells, slots⟩ { g with stack := rest } (.invokestatic index) mk argsL.toArray X₁ hg hsize hdg hW (X₁.named hnamed) (hpre vm₁ X₁.warmed) with ⟨v, B, X', hpost, hsteps⟩ | ⟨q, B, X', hpost, hsteps⟩
  · exact Or.inl ⟨v, vm₁, B, X₁.warmed, X', hpost, fun target h => hstep₁ _ fun acts => by rw [doInvoke_state]; exact hsteps.trans h⟩
  · exact Or.inr ⟨q, vm₁, B, X₁.warmed, X', hpost, hstep₁ _ fun acts => by rw [doInvoke_state]; exact hsteps⟩
theorem vx_callVW (X : Stand p l e R s m args below meth c T locs cells slots) (hexec : p.tables.exec = Jvm.exec) {own C : String} {index : Nat} {y : MethodName} {bytes : ByteArray} {maxL : Nat} {ret : Option FieldType} {hh : List (Nat × Nat × Nat × Nat)}
    (hown : s.vm.findClass own = some m.cls) (hlink : (Cond.methodLink own index y).before args s = true) (hinst : (Cond.instanceMethod y).before args s = true) (hsel : (Cond.selects C y y).before args s = true)
    (hcode : (Cond.codeWith y bytes maxL ret hh).before args s = true) (hy : y.cls ≠ "java/lang/invoke/MethodHandle" ∧ y.cls ≠ "java/lang/invoke/VarHandle")
    {W9 : Nat} {Pre : Pt → Array Value → Prop} {Post : Pt → Array Value → Option Value → Pt → Prop} (hK : Back l R p e below s args y 3 W9 Pre Post)
    {b : Addr} {cellB : Cell} (hcell : T.heap[b]? = some cellB) (hobj : cellB.vm.isStatics = false) (hcls : s.vm.findClass C = some cellB.cls)
    {g : JFrame} (hg : g.method = m) (hsize : g.locals.size = c.maxLocals) {argsL rest : List Value} (hlen : ∀ sig, parseMethodDescriptor y.desc = some sig → argsL.length = sig.parameters.length)
    (hstack : g.stack = argsL.reverse ++ .ref b :: rest) (hW : 2 * g.monitorRoom + (rest.map fun v => v.category).sum ≤ W9) (hdg : decode c.code g.pc = .ok (.invokevirtual index, 3))
    (hpre : ∀ vm₁, s.WarmedH vm₁ → Pre ⟨T.setVm vm₁, locs, cells, slots⟩ (Value.ref b :: argsL).toArray) :
    ∃ (v : Option Value) (vm₁ : Vm) (B : Pt), s.WarmedH vm₁ ∧ Stand p l e R s m args below meth c B.U B.locs B.cells B.slots ∧ Post ⟨T.setVm vm₁, locs, cells, slots⟩ (Value.ref b :: argsL).toArray v B ∧
      ∀ target, Steps p.tables e below (B.U.setTop { g with pc := g.pc + 3, stack := v.toList ++ rest }) target → Steps p.tables e below (T.setTop g) target := by
  obtain ⟨mk, methM, hnamed, hmethM, hstM, habM⟩ := Cond.instanceMethod_spec hinst
  obtain ⟨m8, methM', cM, hn8, hmethM', -, -, -, -, -, -, hsigM⟩ := Cond.codeWith_spec hcode
  cases Option.some.inj (hn8.symm.trans hnamed)
  cases hmethM.symm.trans hmethM'
  obtain ⟨c2, r2, m2, q1, q2, q3, q4, kP, hkP, hkPi⟩ := Cond.selects_spec hsel
  cases hcls.symm.trans q1
  cases (State.methodFound?_of_named hnamed hy).symm.trans q2
  cases hnamed.symm.trans q3
  have hselP : selectMethod e.platform s.vm cellB.cls mk = .method mk := by rw [Launch.admits_selectMethod X.admits]; exact q4
  obtain ⟨vm₁, X₁, hstep₁⟩ := X.invokevirtual hexec hown hlink hnamed hmethM hstM hkP hkPi hy (a := b) (cell := cellB) hcell
    (fun z h => by rw [h] at hobj; cases hobj) hselP hmethM habM hkP hkPi (g := g) hg (argsL := argsL) (rest := rest) (hlen _ hsigM) hstack hdg
  obtain ⟨v, B, X', hpost, hsteps⟩ := hK m meth c ⟨T.setVm vm₁, locs, cells, slots⟩ { g with stack := rest } (.invokevirtual index) mk (Value.ref b :: argsL).toArray X₁ hg hsize hdg hW (X₁.named hnamed) (hpre vm₁ X₁.warmed)
  exact ⟨v, vm₁, B, X₁.warmed, X', hpost, fun target h => hstep₁ _ fun acts => by rw [doInvoke_state]; exact hsteps.trans h⟩
abbrev vx_CVW (R : Room) (s : State) (args : Array Value) (own C : String) (index : Nat) (y : MethodName) (bytes : ByteArray) (maxL : Nat) (ret : Option FieldType) (hh : List (Nat × Nat × Nat × Nat)) (ws : List Cond) (rm : Room) (mc ms n : Nat) : Prop :=
  (rm.cells = mc ∧ rm.slots = ms ∧ rm.frames + 1 ≤ R.frames ∧ 8 + (maxL + 11) + rm.locals ≤ R.locals ∧ (∀ w ∈ ws, ∀ (a' : Array Value) (U : State), s.WarmedH U.vm → w.before a' U = true) ∧ Cond.codeWith y bytes maxL ret hh ∈ ws) ∧
  (Cond.codeWith y bytes maxL ret hh).before args s = true ∧ (Cond.initialized y.cls).before args s = true ∧ (y.cls ≠ "java/lang/invoke/MethodHandle" ∧ y.cls ≠ "java/lang/invoke/VarHandle") ∧
  (∀ sig, parseMethodDescriptor y.desc = some sig → n = sig.parameters.length) ∧ (Cond.methodLink own index y).before args s = true ∧ (Cond.instanceMethod y).before args s = true ∧ (Cond.selects C y y).before args s = true
theorem vx_cwVW {own C : String} {index maxL mc ms : Nat} {y : MethodName} {bytes : ByteArray} {ret : Option FieldType} {hh : List (Nat × Nat × Nat × Nat)} {Ts ws ws' : List Cond} {rm : Room} (n : Nat) (ht : ∀ w ∈ Ts, w.before args s = true) (hT : GoodIn Ts (wsV own index C y ws)) (hw : ws = Cond.codeWith y bytes maxL ret hh :: ws') (hrc : rm.cells = mc) (hrs : rm.slots = ms)
    (hd : y.cls = C ∧ y.cls ≠ "java/lang/invoke/MethodHandle" ∧ y.cls ≠ "java/lang/invoke/VarHandle" ∧ (parseMethodDescriptor y.desc).map (fun d => d.parameters.length) = some n) (hR : rm.frames + 1 ≤ R.frames ∧ 8 + (maxL + 11) + rm.locals ≤ R.locals) :
    vx_CVW R s args own C index y bytes maxL ret hh ws rm mc ms n := by
  obtain ⟨hC, hd⟩ := hd
  subst hC
  have ok : ∀ w ∈ wsV own index y.cls y ws, w.before args s = true := fun w h => ht w (hT w h).1
  have hG : GoodIn Ts ws := fun w h => hT w (by unfold wsV; exact List.mem_append_right _ h)
  have hc : Cond.codeWith y bytes maxL ret hh ∈ ws := by rw [hw]; exact List.mem_cons_self
  refine ⟨⟨hrc, hrs, hR.1, hR.2, pay_in ht hG, hc⟩, ht _ (hG _ hc).1, ok _ (by simp [wsV]), ⟨hd.1, hd.2.1⟩, fun sig h => ?_, ok _ (by simp [wsV]), ok _ (by simp [wsV]), ok _ (by simp [wsV])⟩
  have h2 := hd.2.2
  rw [h] at h2
  exact (Option.some.inj h2).symm
theorem vx_runVW {y : MethodName} {bytes cc : ByteArray} {maxL nL mc ms n index : Nat} {ret : Option FieldType} {hh : List (Nat × Nat × Nat × Nat)} {ws : List Cond} {rm : Room} {Pc : Array Value → State → Prop} {Qc : Array Value → State → Outcome → State → Prop} {free : Addr → Prop} {Ts : List Cond} {own C : String} {b : Addr} {As rest : List Value} {g : JFrame}
    (S : CallFix p m c cc nL s args Ts own) (hM : Met l y ws rm Pc Qc mc ms free) (cw : vx_CVW R s args own C index y bytes maxL ret hh ws rm mc ms n) (hp : PreV s H C b Pc As)
    (hg : g.method = m) (hn : As.length = n) (hsize : g.locals.size = nL) (hstack : g.stack = As.reverse ++ .ref b :: rest) (hW : 2 * g.monitorRoom + (rest.map fun v => v.category).sum ≤ 8) (hdg : decode cc g.pc = .ok (.invokevirtual index, 3)) (hf : cells + mc ≤ R.cells ∧ slots + ms ≤ R.slots) :
    va_Run p l e R s m args below meth c H locs cells slots mc ms g rest (Qc (Value.ref b :: As).toArray) free := by
  obtain ⟨⟨hrc, hrs, hfr, hlo, hws, hcw⟩, hcode, hini, hy, hlen, hl, hin, hse⟩ := cw
  have hK : Back l R p e below s args y 3 8 (PreOf R mc ms Pc) (PostOf Qc mc ms free) := va_backW (hh := hh) (bytes := bytes) (maxL := maxL) (ret := ret) hM hp.1 hrc hrs hfr hlo hws hcw (fun a' U hW => word_at hW (Or.inl (by first | rfl | simp [Cond.onTables, Cond.keeps, Cond.steady])) hini)
  obtain ⟨hx, hb, hml, ho, -⟩ := S
  obtain ⟨-, ⟨cellB, hcB, hoB, hclB⟩, hPc⟩ := hp
  intro T hT X
  obtain ⟨v, vm₁, ⟨U', l2, c2, s2⟩, hW₁, X', ⟨g', mk, t, L, e1, e2, hq, h1, hL, h2, h3⟩, st⟩ := vx_callVW X hx (C := C) (hh := hh) (bytes := bytes) (maxL := maxL) (ret := ret) ho hl hin hse hcode hy hK (by rw [hT]; exact hcB) hoB hclB hg (hsize.trans hml.symm) (argsL := As) (rest := rest) (fun sig h => hn.trans (hlen sig h)) hstack hW (by rw [hb]; exact hdg)
    (fun vm₁ hW₁ => ⟨hf.1, hf.2, hPc (T.setVm vm₁) hT hW₁⟩)
  dsimp only [Pt.U, Pt.locs, Pt.cells, Pt.slots] at X' e1 e2 h1 h2 h3 st
  subst h1; subst h2; subst h3
  exact ⟨v, (T.setVm vm₁).calling g' mk (Value.ref b :: As).toArray, t, U', L, hT, X', hL, e1, e2, hq, st⟩
section
variable {y : MethodName} {bytes cc : ByteArray} {maxL nL mc ms n index : Nat} {ret : Option FieldType} {ws : List Cond} {rm : Room} {Pc : Array Value → State → Prop} {Qc : Array Value → State → Outcome → State → Prop} {XC : String → State → State → Prop} {free : Addr → Prop} {Ts : List Cond} {own C : String} {b : Addr} {As rest : List Value} {g : JFrame}
theorem vx_runVX {hh : List (Nat × Nat × Nat × Nat)} (S : CallFix p m c cc nL s args Ts own) (hM : vx_Met l y ws rm Pc Qc XC mc ms free) (cw : vx_CVW R s args own C index y bytes maxL ret hh ws rm mc ms n) (hp : PreV s H C b Pc As)
    (hg : g.method = m) (hn : As.length = n) (hsize : g.locals.size = nL) (hstack : g.stack = As.reverse ++ .ref b :: rest) (hW : 2 * g.monitorRoom + (rest.map fun v => v.category).sum ≤ 8) (hdg : decode cc g.pc = .ok (.invokevirtual index, 3)) (hf : cells + mc ≤ R.cells ∧ slots + ms ≤ R.slots) :
    vx_Run p l e R s m args below meth c H locs cells slots mc ms g rest (Qc (Value.ref b :: As).toArray) XC free := by
  obtain ⟨⟨hrc, hrs, hfr, hlo, hws, hcw⟩, hcode, hini, hy, hlen, hl, hin, hse⟩ := cw
  have hK : vx_Back l R p e below s args y 3 8 (PreOf R mc ms Pc) (PostOf Qc mc ms free) (vx_Post XC mc ms free) := vx_backW (hh := hh) (bytes := bytes) (maxL := maxL) (ret := ret) hM hp.1 hrc hrs hfr hlo hws hcw (fun a' U hW => word_at hW (Or.inl (by first | rfl | simp [Cond.onTables, Cond.keeps, Cond.steady])) hini)
  obtain ⟨hx, hb, hml, ho, -⟩ := S
  obtain ⟨-, ⟨cellB, hcB, hoB, hclB⟩, hPc⟩ := hp
  intro T hT X
  rcases vx_callVX X hx (C := C) (hh := hh) (bytes := bytes) (maxL := maxL) (ret := ret) ho hl hin hse hcode hy hK (by rw [hT]; exact hcB) hoB hclB hg (hsize.trans hml.symm) (argsL := As) (rest := rest) (fun sig h => hn.trans (hlen sig h)) hstack hW (by rw [hb]; exact hdg)
    (fun vm₁ hW₁ => ⟨hf.1, hf.2, hPc (T.setVm vm₁) hT hW₁⟩) with ⟨v, vm₁, ⟨U', l2, c2, s2⟩, hW₁, X', ⟨g', mk, t, L, e1, e2, hq, h1, hL, h2, h3⟩, st⟩ | ⟨q, vm₁, ⟨U', l2, c2, s2⟩, hW₁, X', ⟨g', mk, t, L, E, ce, e1, e2, hq, hce, hcv, hcl, h1, hL, h2, h3⟩, st⟩
  · dsimp only [Pt.U, Pt.locs, Pt.cells, Pt.slots] at X' e1 e2 h1 h2 h3 st
    subst h1; subst h2; subst h3
    exact Or.inl ⟨v, (T.setVm vm₁).calling g' mk (Value.ref b :: As).toArray, t, U', L, hT, X', hL, e1, e2, hq, st⟩
  · dsimp only [Pt.U, Pt.locs, Pt.cells, Pt.slots] at X' e1 e2 h1 h2 h3 st hcl
    subst h1; subst h2; subst h3
    exact Or.inr ⟨q, (T.setVm vm₁).calling g' mk (Value.ref b :: As).toArray, t, U', L, E, ce, hT, X', hL, e1, e2, hq, hce, hcv, vx_cls hW₁ hcl, st⟩
theorem vx_runSX {hh : List (Nat × Nat × Nat × Nat)} (S : CallFix p m c cc nL s args Ts own) (hM : vx_Met l y ws rm Pc Qc XC mc ms free) (cw : vx_CSW R s args own index y bytes maxL ret hh ws rm mc ms n) (hp : PreS s H Pc As)
    (hg : g.method = m) (hn : As.length = n) (hsize : g.locals.size = nL) (hstack : g.stack = As.reverse ++ rest) (hW : 2 * g.monitorRoom + (rest.map fun v => v.category).sum ≤ 8) (hdg : decode cc g.pc = .ok (.invokestatic index, 3)) (hf : cells + mc ≤ R.cells ∧ slots + ms ≤ R.slots) :
    vx_Run p l e R s m args below meth c H locs cells slots mc ms g rest (Qc As.toArray) XC free := by
  obtain ⟨⟨hrc, hrs, hfr, hlo, hws, hcw⟩, hcode, hini, hy, hlen, hl, hstt⟩ := cw
  have hK : vx_Back l R p e below s args y 3 8 (PreOf R mc ms Pc) (PostOf Qc mc ms free) (vx_Post XC mc ms free) := vx_backW (hh := hh) (bytes := bytes) (maxL := maxL) (ret := ret) hM hp.1 hrc hrs hfr hlo hws hcw (fun a' U hW => word_at hW (Or.inl (by first | rfl | simp [Cond.onTables, Cond.keeps, Cond.steady])) hini)
  obtain ⟨hx, hb, hml, ho, -⟩ := S
  intro T hT X
  rcases vx_callSX X hx (hh := hh) (bytes := bytes) (maxL := maxL) (ret := ret) ho hl hstt hini hcode hy hK hg (hsize.trans hml.symm) (argsL := As) (rest := rest) (fun sig h => hn.trans (hlen sig h)) hstack hW (by rw [hb]; exact hdg)
    (fun vm₁ hW₁ => ⟨hf.1, hf.2, hp.2 (T.setVm vm₁) hT hW₁⟩) with ⟨v, vm₁, ⟨U', l2, c2, s2⟩, hW₁, X', ⟨g', mk, t, L, e1, e2, hq, h1, hL, h2, h3⟩, st⟩ | ⟨q, vm₁, ⟨U', l2, c2, s2⟩, hW₁, X', ⟨g', mk, t, L, E, ce, e1, e2, hq, hce, hcv, hcl, h1, hL, h2, h3⟩, st⟩
  · dsimp only [Pt.U, Pt.locs, Pt.cells, Pt.slots] at X' e1 e2 h1 h2 h3 st
    subst h1; subst h2; subst h3
    exact Or.inl ⟨v, (T.setVm vm₁).calling g' mk As.toArray, t, U', L, hT, X', hL, e1, e2, hq, st⟩
  · dsimp only [Pt.U, Pt.locs, Pt.cells, Pt.slots] at X' e1 e2 h1 h2 h3 st hcl
    subst h1; subst h2; subst h3
    exact Or.inr ⟨q, (T.setVm vm₁).calling g' mk As.toArray, t, U', L, E, ce, hT, X', hL, e1, e2, hq, hce, hcv, vx_cls hW₁ hcl, st⟩
end
end VXH
theorem vx_ofWH {l : Launch} {y : MethodName} {ws ws' : List Cond} {rm : Room} {Pc : Array Value → State → Prop} {Qc : Array Value → State → Outcome → State → Prop} {XC : String → State → State → Prop} {mc ms : Nat} {free : Addr → Prop} {cc : ByteArray} {maxL : Nat} {ret : Option FieldType} {hh : List (Nat × Nat × Nat × Nat)}
    (hy : plainName y.cls = true) (hw : ws = Cond.codeWith y cc maxL ret hh :: ws')
    (body : ∀ p e s m args below meth c s₁, BodyLoose p l y (headSpec ws rm) cc maxL ret e s m args below meth c s₁ → c.maxLocals = maxL → Pc args s →
      W p l e (headSpec ws rm).room s m args below meth c s.heap [] 0 0 (vx_MQ below Qc XC args s mc ms free) (entryFrame m args maxL)) : vx_Met l y ws rm Pc Qc XC mc ms free := by
  refine MetFree.of_bodyS (code := cc) (maxLocals := maxL) (ret := ret) hy ?_ ?_
  · intro args s m h hn
    obtain ⟨m9, meth, c, hn9, h1, h2, h3, h4, -, h5, h6, -⟩ := Cond.codeWith_spec (atoms_spec (ws := ws) h _ (by rw [hw]; exact List.mem_cons_self))
    cases hn.symm.trans hn9
    exact ⟨meth, c, h1, h2, h3, h4, h5, h6⟩
  · intro p e s m args below meth c s₁ B hml hP _
    have hh0 : s₁.heap = s.heap := by rw [B.state]; rfl
    obtain ⟨t, a1, o, b1, b2, b3⟩ := body p e s m args below meth c s₁ B hml hP s₁ hh0 (Stand.of_body B)
    exact ⟨t, o, a1, b1, b2, b3⟩
/-! ===== END ===== -/
end
section
def RX0 : String := "RuleCourt$Book"
def TX0 : u_T := fun k => match k with
  | 0 => ("RuleCourt$Book", "kinds", "LRuleCourt$Names;", true)
  | 1 => ("RuleCourt$Book", "things", "LRuleCourt$Names;", true)
  | 2 => ("RuleCourt$Book", "placesOf", "[I", true)
  | 3 => ("RuleCourt$Book", "layers", "LRuleCourt$Layers;", true)
  | 4 => ("RuleCourt$Book", "rules", "[LRuleCourt$Rule;", true)
  | 5 => ("RuleCourt$Book", "ruleCount", "I", false)
  | 6 => ("RuleCourt$Book", "factRows", "[I", true)
  | _ => ("RuleCourt$Book", "factCount", "I", false)
def tyX0 : Nat → FieldType := fun k => match k with
  | 0 => .object "RuleCourt$Names"
  | 1 => .object "RuleCourt$Names"
  | 2 => .array .int
  | 3 => .object "RuleCourt$Layers"
  | 4 => .array (.object "RuleCourt$Rule")
  | 5 => .int
  | 6 => .array .int
  | _ => .int
abbrev wsX00 : List Cond := u_ws RX0 TX0 8
theorem nmX0 : ∀ a, a < 8 → ∀ b, b < 8 → a ≠ b → (TX0 a).2.1 ≠ (TX0 b).2.1 := by decide +kernel
theorem tyX0_ok : ∀ k, k < 8 → parseFieldDescriptor (TX0 k).2.2.1 = some (tyX0 k) := by decide +kernel
abbrev cX0_init : ByteArray := prog_2_method_1_code
def yX0_init : MethodName := ⟨RX0, "<init>", "()V"⟩
abbrev cX0_hasRule : ByteArray := prog_2_method_2_code
def yX0_hasRule : MethodName := ⟨RX0, "hasRule", "(I)Z"⟩
abbrev cX0_hasAtom : ByteArray := prog_2_method_3_code
def yX0_hasAtom : MethodName := ⟨RX0, "hasAtom", "(I)Z"⟩
abbrev cX0_isFact : ByteArray := prog_2_method_4_code
def yX0_isFact : MethodName := ⟨RX0, "isFact", "(I)Z"⟩
abbrev cX0_setFact : ByteArray := prog_2_method_5_code
def yX0_setFact : MethodName := ⟨RX0, "setFact", "(IZ)Z"⟩
abbrev cX0_removeRule : ByteArray := prog_2_method_6_code
def yX0_removeRule : MethodName := ⟨RX0, "removeRule", "(I)V"⟩
abbrev cX0_layerCount : ByteArray := prog_2_method_7_code
def yX0_layerCount : MethodName := ⟨RX0, "layerCount", "()I"⟩
abbrev cX0_kindsBehind : ByteArray := prog_2_method_8_code
def yX0_kindsBehind : MethodName := ⟨RX0, "kindsBehind", "(I)I"⟩
abbrev cX0_kindsIn : ByteArray := prog_2_method_9_code
def yX0_kindsIn : MethodName := ⟨RX0, "kindsIn", "(LRuleCourt$Rule;)I"⟩
def RX1 : String := "RuleCourt$Cutter"
def TX1 : u_T := fun k => match k with
  | 0 => ("RuleCourt$Cutter", "book", "LRuleCourt$Book;", true)
  | 1 => ("RuleCourt$Cutter", "judge", "LRuleCourt$Judge;", true)
  | 2 => ("RuleCourt$Cutter", "model", "LRuleCourt$Model;", true)
  | 3 => ("RuleCourt$Cutter", "goal", "I", false)
  | 4 => ("RuleCourt$Cutter", "kinds", "I", false)
  | 5 => ("RuleCourt$Cutter", "candidates", "[I", true)
  | 6 => ("RuleCourt$Cutter", "candidateCount", "I", false)
  | 7 => ("RuleCourt$Cutter", "picks", "[I", true)
  | 8 => ("RuleCourt$Cutter", "cut", "[I", true)
  | _ => ("RuleCourt$Cutter", "cutCount", "I", false)
def tyX1 : Nat → FieldType := fun k => match k with
  | 0 => .object "RuleCourt$Book"
  | 1 => .object "RuleCourt$Judge"
  | 2 => .object "RuleCourt$Model"
  | 3 => .int
  | 4 => .int
  | 5 => .array .int
  | 6 => .int
  | 7 => .array .int
  | 8 => .array .int
  | _ => .int
abbrev wsX10 : List Cond := u_ws RX1 TX1 10
theorem nmX1 : ∀ a, a < 10 → ∀ b, b < 10 → a ≠ b → (TX1 a).2.1 ≠ (TX1 b).2.1 := by decide +kernel
theorem tyX1_ok : ∀ k, k < 10 → parseFieldDescriptor (TX1 k).2.2.1 = some (tyX1 k) := by decide +kernel
abbrev cX1_init : ByteArray := prog_3_method_1_code
def yX1_init : MethodName := ⟨RX1, "<init>", "(LRuleCourt$Book;LRuleCourt$Judge;LRuleCourt$Model;)V"⟩
abbrev cX1_aimAt : ByteArray := prog_3_method_2_code
def yX1_aimAt : MethodName := ⟨RX1, "aimAt", "(I)V"⟩
abbrev cX1_seek : ByteArray := prog_3_method_3_code
def yX1_seek : MethodName := ⟨RX1, "seek", "(I)Z"⟩
abbrev cX1_keepPicks : ByteArray := prog_3_method_4_code
def yX1_keepPicks : MethodName := ⟨RX1, "keepPicks", "(I)V"⟩
abbrev cX1_nextPicks : ByteArray := prog_3_method_5_code
def yX1_nextPicks : MethodName := ⟨RX1, "nextPicks", "(I)Z"⟩
def RX2 : String := "RuleCourt$Join"
def TX2 : u_T := fun k => match k with
  | 0 => ("RuleCourt$Join", "book", "LRuleCourt$Book;", true)
  | 1 => ("RuleCourt$Join", "model", "LRuleCourt$Model;", false)
  | 2 => ("RuleCourt$Join", "rule", "LRuleCourt$Rule;", false)
  | 3 => ("RuleCourt$Join", "aim", "I", false)
  | 4 => ("RuleCourt$Join", "bound", "[I", true)
  | 5 => ("RuleCourt$Join", "reached", "I", false)
  | 6 => ("RuleCourt$Join", "ended", "Z", false)
  | 7 => ("RuleCourt$Join", "wantedSteps", "I", false)
  | _ => ("RuleCourt$Join", "least", "[I", true)
def tyX2 : Nat → FieldType := fun k => match k with
  | 0 => .object "RuleCourt$Book"
  | 1 => .object "RuleCourt$Model"
  | 2 => .object "RuleCourt$Rule"
  | 3 => .int
  | 4 => .array .int
  | 5 => .int
  | 6 => .boolean
  | 7 => .int
  | _ => .array .int
abbrev wsX20 : List Cond := u_ws RX2 TX2 9
theorem nmX2 : ∀ a, a < 9 → ∀ b, b < 9 → a ≠ b → (TX2 a).2.1 ≠ (TX2 b).2.1 := by decide +kernel
theorem tyX2_ok : ∀ k, k < 9 → parseFieldDescriptor (TX2 k).2.2.1 = some (tyX2 k) := by decide +kernel
abbrev cX2_init : ByteArray := prog_4_method_1_code
def yX2_init : MethodName := ⟨RX2, "<init>", "(LRuleCourt$Book;)V"⟩
abbrev cX2_reach : ByteArray := prog_4_method_2_code
def yX2_reach : MethodName := ⟨RX2, "reach", "(LRuleCourt$Model;LRuleCourt$Rule;)I"⟩
abbrev cX2_reachFor : ByteArray := prog_4_method_3_code
def yX2_reachFor : MethodName := ⟨RX2, "reachFor", "(LRuleCourt$Model;LRuleCourt$Rule;I)I"⟩
abbrev cX2_seekLeast : ByteArray := prog_4_method_4_code
def yX2_seekLeast : MethodName := ⟨RX2, "seekLeast", "(LRuleCourt$Model;LRuleCourt$Rule;I)Z"⟩
abbrev cX2_leastNumberOf : ByteArray := prog_4_method_5_code
def yX2_leastNumberOf : MethodName := ⟨RX2, "leastNumberOf", "(LRuleCourt$Term;)I"⟩
abbrev cX2_begin : ByteArray := prog_4_method_6_code
def yX2_begin : MethodName := ⟨RX2, "begin", "(LRuleCourt$Model;LRuleCourt$Rule;I)V"⟩
abbrev cX2_bindHead : ByteArray := prog_4_method_7_code
def yX2_bindHead : MethodName := ⟨RX2, "bindHead", "(I)Z"⟩
abbrev cX2_bind : ByteArray := prog_4_method_8_code
def yX2_bind : MethodName := ⟨RX2, "bind", "(II)Z"⟩
abbrev cX2_walk : ByteArray := prog_4_method_9_code
def yX2_walk : MethodName := ⟨RX2, "walk", "(II)V"⟩
abbrev cX2_walkSecond : ByteArray := prog_4_method_10_code
def yX2_walkSecond : MethodName := ⟨RX2, "walkSecond", "(IIII)V"⟩
abbrev cX2_secondsFor : ByteArray := prog_4_method_11_code
def yX2_secondsFor : MethodName := ⟨RX2, "secondsFor", "(LRuleCourt$Term;I)I"⟩
abbrev cX2_arrive : ByteArray := prog_4_method_12_code
def yX2_arrive : MethodName := ⟨RX2, "arrive", "(I)V"⟩
abbrev cX2_freeSign : ByteArray := prog_4_method_13_code
def yX2_freeSign : MethodName := ⟨RX2, "freeSign", "(I)I"⟩
abbrev cX2_thingOf : ByteArray := prog_4_method_14_code
def yX2_thingOf : MethodName := ⟨RX2, "thingOf", "(I[I)I"⟩
abbrev cX2_numberOf : ByteArray := prog_4_method_15_code
def yX2_numberOf : MethodName := ⟨RX2, "numberOf", "(LRuleCourt$Term;[I)I"⟩
def RX3 : String := "RuleCourt$Judge"
def TX3 : u_T := fun k => match k with
  | 0 => ("RuleCourt$Judge", "book", "LRuleCourt$Book;", true)
  | 1 => ("RuleCourt$Judge", "join", "LRuleCourt$Join;", true)
  | _ => ("RuleCourt$Judge", "ranAt", "[I", true)
def tyX3 : Nat → FieldType := fun k => match k with
  | 0 => .object "RuleCourt$Book"
  | 1 => .object "RuleCourt$Join"
  | _ => .array .int
abbrev wsX30 : List Cond := u_ws RX3 TX3 3
theorem nmX3 : ∀ a, a < 3 → ∀ b, b < 3 → a ≠ b → (TX3 a).2.1 ≠ (TX3 b).2.1 := by decide +kernel
theorem tyX3_ok : ∀ k, k < 3 → parseFieldDescriptor (TX3 k).2.2.1 = some (tyX3 k) := by decide +kernel
abbrev cX3_init : ByteArray := prog_5_method_1_code
def yX3_init : MethodName := ⟨RX3, "<init>", "(LRuleCourt$Book;LRuleCourt$Join;)V"⟩
abbrev cX3_settle : ByteArray := prog_5_method_2_code
def yX3_settle : MethodName := ⟨RX3, "settle", "(LRuleCourt$Model;III)V"⟩
abbrev cX3_isDue : ByteArray := prog_5_method_3_code
def yX3_isDue : MethodName := ⟨RX3, "isDue", "(ILRuleCourt$Model;)Z"⟩
def RX4 : String := "RuleCourt$Layers"
def TX4 : u_T := fun k => match k with
  | _ => ("RuleCourt$Layers", "of", "[I", true)
def tyX4 : Nat → FieldType := fun k => match k with
  | _ => .array .int
abbrev wsX40 : List Cond := u_ws RX4 TX4 1
theorem nmX4 : ∀ a, a < 1 → ∀ b, b < 1 → a ≠ b → (TX4 a).2.1 ≠ (TX4 b).2.1 := by decide +kernel
theorem tyX4_ok : ∀ k, k < 1 → parseFieldDescriptor (TX4 k).2.2.1 = some (tyX4 k) := by decide +kernel
abbrev cX4_init : ByteArray := prog_6_method_1_code
def yX4_init : MethodName := ⟨RX4, "<init>", "()V"⟩
abbrev cX4_settle : ByteArray := prog_6_method_2_code
def yX4_settle : MethodName := ⟨RX4, "settle", "([LRuleCourt$Rule;I)Z"⟩
abbrev cX4_leastFor : ByteArray := prog_6_method_3_code
def yX4_leastFor : MethodName := ⟨RX4, "leastFor", "(LRuleCourt$Rule;)I"⟩
def RX5 : String := "RuleCourt$Model"
def TX5 : u_T := fun k => match k with
  | 0 => ("RuleCourt$Model", "countsSteps", "Z", true)
  | 1 => ("RuleCourt$Model", "rows", "[I", true)
  | 2 => ("RuleCourt$Model", "stepsOf", "[I", true)
  | 3 => ("RuleCourt$Model", "changedAt", "[I", true)
  | _ => ("RuleCourt$Model", "clock", "I", false)
def tyX5 : Nat → FieldType := fun k => match k with
  | 0 => .boolean
  | 1 => .array .int
  | 2 => .array .int
  | 3 => .array .int
  | _ => .int
abbrev wsX50 : List Cond := u_ws RX5 TX5 5
theorem nmX5 : ∀ a, a < 5 → ∀ b, b < 5 → a ≠ b → (TX5 a).2.1 ≠ (TX5 b).2.1 := by decide +kernel
theorem tyX5_ok : ∀ k, k < 5 → parseFieldDescriptor (TX5 k).2.2.1 = some (tyX5 k) := by decide +kernel
abbrev cX5_init : ByteArray := prog_7_method_1_code
def yX5_init : MethodName := ⟨RX5, "<init>", "(Z)V"⟩
abbrev cX5_start : ByteArray := prog_7_method_2_code
def yX5_start : MethodName := ⟨RX5, "start", "([I)V"⟩
abbrev cX5_setNoSteps : ByteArray := prog_7_method_3_code
def yX5_setNoSteps : MethodName := ⟨RX5, "setNoSteps", "(I)V"⟩
abbrev cX5_has : ByteArray := prog_7_method_4_code
def yX5_has : MethodName := ⟨RX5, "has", "(I)Z"⟩
abbrev cX5_turn : ByteArray := prog_7_method_5_code
def yX5_turn : MethodName := ⟨RX5, "turn", "(I)V"⟩
abbrev cX5_take : ByteArray := prog_7_method_6_code
def yX5_take : MethodName := ⟨RX5, "take", "(II)V"⟩
abbrev cX5_countBeyond : ByteArray := prog_7_method_7_code
def yX5_countBeyond : MethodName := ⟨RX5, "countBeyond", "(LRuleCourt$Model;)I"⟩
def RX6 : String := "RuleCourt$Names"
def TX6 : u_T := fun k => match k with
  | 0 => ("RuleCourt$Names", "words", "[J", true)
  | _ => ("RuleCourt$Names", "size", "I", false)
def tyX6 : Nat → FieldType := fun k => match k with
  | 0 => .array .long
  | _ => .int
abbrev wsX60 : List Cond := u_ws RX6 TX6 2
theorem nmX6 : ∀ a, a < 2 → ∀ b, b < 2 → a ≠ b → (TX6 a).2.1 ≠ (TX6 b).2.1 := by decide +kernel
theorem tyX6_ok : ∀ k, k < 2 → parseFieldDescriptor (TX6 k).2.2.1 = some (tyX6 k) := by decide +kernel
abbrev cX6_init : ByteArray := prog_8_method_1_code
def yX6_init : MethodName := ⟨RX6, "<init>", "()V"⟩
abbrev cX6_has : ByteArray := prog_8_method_2_code
def yX6_has : MethodName := ⟨RX6, "has", "(I)Z"⟩
abbrev cX6_findOrAdd : ByteArray := prog_8_method_3_code
def yX6_findOrAdd : MethodName := ⟨RX6, "findOrAdd", "(J)I"⟩
abbrev cX6_letter : ByteArray := prog_8_method_4_code
def yX6_letter : MethodName := ⟨RX6, "letter", "(II)I"⟩
def RX7 : String := "RuleCourt$Reader"
def TX7 : u_T := fun k => match k with
  | 0 => ("RuleCourt$Reader", "book", "LRuleCourt$Book;", true)
  | 1 => ("RuleCourt$Reader", "tokens", "LRuleCourt$Tokens;", true)
  | 2 => ("RuleCourt$Reader", "at", "I", false)
  | 3 => ("RuleCourt$Reader", "facts", "[I", true)
  | 4 => ("RuleCourt$Reader", "factCount", "I", false)
  | 5 => ("RuleCourt$Reader", "clauses", "I", false)
  | 6 => ("RuleCourt$Reader", "faultNumber", "I", false)
  | _ => ("RuleCourt$Reader", "faultPlace", "I", false)
def tyX7 : Nat → FieldType := fun k => match k with
  | 0 => .object "RuleCourt$Book"
  | 1 => .object "RuleCourt$Tokens"
  | 2 => .int
  | 3 => .array .int
  | 4 => .int
  | 5 => .int
  | 6 => .int
  | _ => .int
abbrev wsX70 : List Cond := u_ws RX7 TX7 8
theorem nmX7 : ∀ a, a < 8 → ∀ b, b < 8 → a ≠ b → (TX7 a).2.1 ≠ (TX7 b).2.1 := by decide +kernel
theorem tyX7_ok : ∀ k, k < 8 → parseFieldDescriptor (TX7 k).2.2.1 = some (tyX7 k) := by decide +kernel
abbrev cX7_init : ByteArray := prog_9_method_1_code
def yX7_init : MethodName := ⟨RX7, "<init>", "(LRuleCourt$Book;)V"⟩
abbrev cX7_read : ByteArray := prog_9_method_2_code
def yX7_read : MethodName := ⟨RX7, "read", "([II)Z"⟩
abbrev cX7_refusesNoneOfItself : ByteArray := prog_9_method_3_code
def yX7_refusesNoneOfItself : MethodName := ⟨RX7, "refusesNoneOfItself", "(I)Z"⟩
abbrev cX7_readClause : ByteArray := prog_9_method_4_code
def yX7_readClause : MethodName := ⟨RX7, "readClause", "(LRuleCourt$Rule;)Z"⟩
abbrev cX7_endFact : ByteArray := prog_9_method_5_code
def yX7_endFact : MethodName := ⟨RX7, "endFact", "(LRuleCourt$Term;)Z"⟩
abbrev cX7_endRule : ByteArray := prog_9_method_6_code
def yX7_endRule : MethodName := ⟨RX7, "endRule", "(LRuleCourt$Rule;)Z"⟩
abbrev cX7_readTerm : ByteArray := prog_9_method_7_code
def yX7_readTerm : MethodName := ⟨RX7, "readTerm", "(LRuleCourt$Rule;LRuleCourt$Term;)Z"⟩
abbrev cX7_readUnlike : ByteArray := prog_9_method_8_code
def yX7_readUnlike : MethodName := ⟨RX7, "readUnlike", "(LRuleCourt$Rule;LRuleCourt$Term;)Z"⟩
abbrev cX7_readAtom : ByteArray := prog_9_method_9_code
def yX7_readAtom : MethodName := ⟨RX7, "readAtom", "(LRuleCourt$Rule;LRuleCourt$Term;)Z"⟩
abbrev cX7_hasItsPlaces : ByteArray := prog_9_method_10_code
def yX7_hasItsPlaces : MethodName := ⟨RX7, "hasItsPlaces", "(LRuleCourt$Term;Z)Z"⟩
abbrev cX7_readArg : ByteArray := prog_9_method_11_code
def yX7_readArg : MethodName := ⟨RX7, "readArg", "(LRuleCourt$Rule;LRuleCourt$Term;Z)Z"⟩
abbrev cX7_type : ByteArray := prog_9_method_12_code
def yX7_type : MethodName := ⟨RX7, "type", "()I"⟩
abbrev cX7_nextType : ByteArray := prog_9_method_13_code
def yX7_nextType : MethodName := ⟨RX7, "nextType", "()I"⟩
abbrev cX7_start : ByteArray := prog_9_method_14_code
def yX7_start : MethodName := ⟨RX7, "start", "()I"⟩
abbrev cX7_fail : ByteArray := prog_9_method_15_code
def yX7_fail : MethodName := ⟨RX7, "fail", "(II)Z"⟩
def RX8 : String := "RuleCourt$Rule"
def TX8 : u_T := fun k => match k with
  | 0 => ("RuleCourt$Rule", "head", "LRuleCourt$Term;", true)
  | 1 => ("RuleCourt$Rule", "terms", "[LRuleCourt$Term;", true)
  | 2 => ("RuleCourt$Rule", "size", "I", false)
  | 3 => ("RuleCourt$Rule", "letters", "[I", true)
  | _ => ("RuleCourt$Rule", "signs", "I", false)
def tyX8 : Nat → FieldType := fun k => match k with
  | 0 => .object "RuleCourt$Term"
  | 1 => .array (.object "RuleCourt$Term")
  | 2 => .int
  | 3 => .array .int
  | _ => .int
abbrev wsX80 : List Cond := u_ws RX8 TX8 5
theorem nmX8 : ∀ a, a < 5 → ∀ b, b < 5 → a ≠ b → (TX8 a).2.1 ≠ (TX8 b).2.1 := by decide +kernel
theorem tyX8_ok : ∀ k, k < 5 → parseFieldDescriptor (TX8 k).2.2.1 = some (tyX8 k) := by decide +kernel
abbrev cX8_init : ByteArray := prog_10_method_1_code
def yX8_init : MethodName := ⟨RX8, "<init>", "()V"⟩
abbrev cX8_clear : ByteArray := prog_10_method_2_code
def yX8_clear : MethodName := ⟨RX8, "clear", "()V"⟩
abbrev cX8_findOrAddSign : ByteArray := prog_10_method_3_code
def yX8_findOrAddSign : MethodName := ⟨RX8, "findOrAddSign", "(I)I"⟩
abbrev cX8_loosePlace : ByteArray := prog_10_method_4_code
def yX8_loosePlace : MethodName := ⟨RX8, "loosePlace", "(LRuleCourt$Term;)I"⟩
abbrev cX8_isLoose : ByteArray := prog_10_method_5_code
def yX8_isLoose : MethodName := ⟨RX8, "isLoose", "(I)Z"⟩
def RX9 : String := "RuleCourt$Term"
def TX9 : u_T := fun k => match k with
  | 0 => ("RuleCourt$Term", "type", "I", false)
  | 1 => ("RuleCourt$Term", "kind", "I", false)
  | 2 => ("RuleCourt$Term", "first", "I", false)
  | 3 => ("RuleCourt$Term", "second", "I", false)
  | 4 => ("RuleCourt$Term", "kindPlace", "I", false)
  | 5 => ("RuleCourt$Term", "firstPlace", "I", false)
  | _ => ("RuleCourt$Term", "secondPlace", "I", false)
def tyX9 : Nat → FieldType := fun k => match k with
  | 0 => .int
  | 1 => .int
  | 2 => .int
  | 3 => .int
  | 4 => .int
  | 5 => .int
  | _ => .int
abbrev wsX90 : List Cond := u_ws RX9 TX9 7
theorem nmX9 : ∀ a, a < 7 → ∀ b, b < 7 → a ≠ b → (TX9 a).2.1 ≠ (TX9 b).2.1 := by decide +kernel
theorem tyX9_ok : ∀ k, k < 7 → parseFieldDescriptor (TX9 k).2.2.1 = some (tyX9 k) := by decide +kernel
abbrev cX9_init : ByteArray := prog_11_method_1_code
def yX9_init : MethodName := ⟨RX9, "<init>", "()V"⟩
abbrev cX9_clear : ByteArray := prog_11_method_2_code
def yX9_clear : MethodName := ⟨RX9, "clear", "(I)V"⟩
abbrev cX9_setArg : ByteArray := prog_11_method_3_code
def yX9_setArg : MethodName := ⟨RX9, "setArg", "(ZII)V"⟩
def RX10 : String := "RuleCourt$Tokens"
def TX10 : u_T := fun k => match k with
  | 0 => ("RuleCourt$Tokens", "types", "[I", true)
  | 1 => ("RuleCourt$Tokens", "starts", "[I", true)
  | 2 => ("RuleCourt$Tokens", "words", "[J", true)
  | _ => ("RuleCourt$Tokens", "size", "I", false)
def tyX10 : Nat → FieldType := fun k => match k with
  | 0 => .array .int
  | 1 => .array .int
  | 2 => .array .long
  | _ => .int
abbrev wsX100 : List Cond := u_ws RX10 TX10 4
theorem nmX10 : ∀ a, a < 4 → ∀ b, b < 4 → a ≠ b → (TX10 a).2.1 ≠ (TX10 b).2.1 := by decide +kernel
theorem tyX10_ok : ∀ k, k < 4 → parseFieldDescriptor (TX10 k).2.2.1 = some (tyX10 k) := by decide +kernel
abbrev cX10_init : ByteArray := prog_12_method_1_code
def yX10_init : MethodName := ⟨RX10, "<init>", "()V"⟩
abbrev cX10_read : ByteArray := prog_12_method_2_code
def yX10_read : MethodName := ⟨RX10, "read", "([II)V"⟩
abbrev cX10_put : ByteArray := prog_12_method_3_code
def yX10_put : MethodName := ⟨RX10, "put", "(IIJ)V"⟩
abbrev cX10_typeOf : ByteArray := prog_12_method_4_code
def yX10_typeOf : MethodName := ⟨RX10, "typeOf", "(I)I"⟩
def RX11 : String := "RuleCourt"
def TX11 : u_T := fun k => match k with
  | 0 => ("RuleCourt", "tape", "[I", true)
  | 1 => ("RuleCourt", "tapeSize", "I", false)
  | 2 => ("RuleCourt", "book", "LRuleCourt$Book;", true)
  | 3 => ("RuleCourt", "reader", "LRuleCourt$Reader;", true)
  | 4 => ("RuleCourt", "join", "LRuleCourt$Join;", true)
  | 5 => ("RuleCourt", "judge", "LRuleCourt$Judge;", true)
  | 6 => ("RuleCourt", "now", "LRuleCourt$Model;", true)
  | 7 => ("RuleCourt", "nowIsSettled", "Z", false)
  | 8 => ("RuleCourt", "supposed", "LRuleCourt$Model;", true)
  | 9 => ("RuleCourt", "cutter", "LRuleCourt$Cutter;", true)
  | 10 => ("RuleCourt", "reasons", "[I", true)
  | 11 => ("RuleCourt", "reasonCount", "I", false)
  | _ => ("RuleCourt", "trouble", "I", false)
def tyX11 : Nat → FieldType := fun k => match k with
  | 0 => .array .int
  | 1 => .int
  | 2 => .object "RuleCourt$Book"
  | 3 => .object "RuleCourt$Reader"
  | 4 => .object "RuleCourt$Join"
  | 5 => .object "RuleCourt$Judge"
  | 6 => .object "RuleCourt$Model"
  | 7 => .boolean
  | 8 => .object "RuleCourt$Model"
  | 9 => .object "RuleCourt$Cutter"
  | 10 => .array .int
  | 11 => .int
  | _ => .int
abbrev wsX110 : List Cond := u_ws RX11 TX11 13
theorem nmX11 : ∀ a, a < 13 → ∀ b, b < 13 → a ≠ b → (TX11 a).2.1 ≠ (TX11 b).2.1 := by decide +kernel
theorem tyX11_ok : ∀ k, k < 13 → parseFieldDescriptor (TX11 k).2.2.1 = some (tyX11 k) := by decide +kernel
abbrev cX11_init : ByteArray := prog_1_method_1_code
def yX11_init : MethodName := ⟨RX11, "<init>", "()V"⟩
abbrev cX11_feed : ByteArray := prog_1_method_2_code
def yX11_feed : MethodName := ⟨RX11, "feed", "(IIIII)I"⟩
abbrev cX11_putBytes : ByteArray := prog_1_method_3_code
def yX11_putBytes : MethodName := ⟨RX11, "putBytes", "(I)V"⟩
abbrev cX11_tell : ByteArray := prog_1_method_4_code
def yX11_tell : MethodName := ⟨RX11, "tell", "(I)I"⟩
abbrev cX11_fault : ByteArray := prog_1_method_5_code
def yX11_fault : MethodName := ⟨RX11, "fault", "()I"⟩
abbrev cX11_where : ByteArray := prog_1_method_6_code
def yX11_where : MethodName := ⟨RX11, "where", "()I"⟩
abbrev cX11_atom : ByteArray := prog_1_method_7_code
def yX11_atom : MethodName := ⟨RX11, "atom", "(III)I"⟩
abbrev cX11_name : ByteArray := prog_1_method_8_code
def yX11_name : MethodName := ⟨RX11, "name", "(IIZ)I"⟩
abbrev cX11_places : ByteArray := prog_1_method_9_code
def yX11_places : MethodName := ⟨RX11, "places", "(I)I"⟩
abbrev cX11_layer : ByteArray := prog_1_method_10_code
def yX11_layer : MethodName := ⟨RX11, "layer", "(I)I"⟩
abbrev cX11_fact : ByteArray := prog_1_method_11_code
def yX11_fact : MethodName := ⟨RX11, "fact", "(IZ)I"⟩
abbrev cX11_drop : ByteArray := prog_1_method_12_code
def yX11_drop : MethodName := ⟨RX11, "drop", "(I)Z"⟩
abbrev cX11_follows : ByteArray := prog_1_method_13_code
def yX11_follows : MethodName := ⟨RX11, "follows", "(I)I"⟩
abbrev cX11_many : ByteArray := prog_1_method_14_code
def yX11_many : MethodName := ⟨RX11, "many", "(I)I"⟩
abbrev cX11_one : ByteArray := prog_1_method_15_code
def yX11_one : MethodName := ⟨RX11, "one", "(II)I"⟩
abbrev cX11_steps : ByteArray := prog_1_method_16_code
def yX11_steps : MethodName := ⟨RX11, "steps", "(I)I"⟩
abbrev cX11_why : ByteArray := prog_1_method_17_code
def yX11_why : MethodName := ⟨RX11, "why", "(I)I"⟩
abbrev cX11_keepReasons : ByteArray := prog_1_method_18_code
def yX11_keepReasons : MethodName := ⟨RX11, "keepReasons", "(LRuleCourt$Rule;)V"⟩
abbrev cX11_because : ByteArray := prog_1_method_19_code
def yX11_because : MethodName := ⟨RX11, "because", "(I)I"⟩
abbrev cX11_comes : ByteArray := prog_1_method_20_code
def yX11_comes : MethodName := ⟨RX11, "comes", "(II)I"⟩
abbrev cX11_rule : ByteArray := prog_1_method_21_code
def yX11_rule : MethodName := ⟨RX11, "rule", "(II)I"⟩
abbrev cX11_isSpare : ByteArray := prog_1_method_22_code
def yX11_isSpare : MethodName := ⟨RX11, "isSpare", "(ILRuleCourt$Model;)Z"⟩
abbrev cX11_term : ByteArray := prog_1_method_23_code
def yX11_term : MethodName := ⟨RX11, "term", "(III)I"⟩
abbrev cX11_go : ByteArray := prog_1_method_24_code
def yX11_go : MethodName := ⟨RX11, "go", "(I)I"⟩
abbrev cX11_gone : ByteArray := prog_1_method_25_code
def yX11_gone : MethodName := ⟨RX11, "gone", "(I)I"⟩
abbrev cX11_derived : ByteArray := prog_1_method_26_code
def yX11_derived : MethodName := ⟨RX11, "derived", "()I"⟩
abbrev cX11_deepest : ByteArray := prog_1_method_27_code
def yX11_deepest : MethodName := ⟨RX11, "deepest", "()I"⟩
abbrev cX11_turned : ByteArray := prog_1_method_28_code
def yX11_turned : MethodName := ⟨RX11, "turned", "(IZ)I"⟩
abbrev cX11_count : ByteArray := prog_1_method_29_code
def yX11_count : MethodName := ⟨RX11, "count", "(I)I"⟩
abbrev cX11_trouble : ByteArray := prog_1_method_30_code
def yX11_trouble : MethodName := ⟨RX11, "trouble", "()I"⟩
abbrev cX11_refuse : ByteArray := prog_1_method_31_code
def yX11_refuse : MethodName := ⟨RX11, "refuse", "(I)I"⟩
abbrev cX11_settled : ByteArray := prog_1_method_32_code
def yX11_settled : MethodName := ⟨RX11, "settled", "()LRuleCourt$Model;"⟩
def RX12 : String := "RuleCourtModel$Rule"
def TX12 : u_T := fun k => match k with
  | 0 => ("RuleCourtModel$Rule", "terms", "I", false)
  | 1 => ("RuleCourtModel$Rule", "signs", "I", false)
  | 2 => ("RuleCourtModel$Rule", "place", "I", false)
  | 3 => ("RuleCourtModel$Rule", "sort", "[I", true)
  | 4 => ("RuleCourtModel$Rule", "kind", "[I", true)
  | 5 => ("RuleCourtModel$Rule", "one", "[I", true)
  | 6 => ("RuleCourtModel$Rule", "two", "[I", true)
  | _ => ("RuleCourtModel$Rule", "letter", "[I", true)
def tyX12 : Nat → FieldType := fun k => match k with
  | 0 => .int
  | 1 => .int
  | 2 => .int
  | 3 => .array .int
  | 4 => .array .int
  | 5 => .array .int
  | 6 => .array .int
  | _ => .array .int
abbrev wsX120 : List Cond := u_ws RX12 TX12 8
theorem nmX12 : ∀ a, a < 8 → ∀ b, b < 8 → a ≠ b → (TX12 a).2.1 ≠ (TX12 b).2.1 := by decide +kernel
theorem tyX12_ok : ∀ k, k < 8 → parseFieldDescriptor (TX12 k).2.2.1 = some (tyX12 k) := by decide +kernel
abbrev cX12_init : ByteArray := prog_15_method_1_code
def yX12_init : MethodName := ⟨RX12, "<init>", "()V"⟩
abbrev cX12_signOf : ByteArray := prog_15_method_2_code
def yX12_signOf : MethodName := ⟨RX12, "signOf", "(I)I"⟩
def RX13 : String := "RuleCourtModel$Stop"
def TX13 : u_T := fun k => match k with
  | 0 => ("java/lang/Throwable", "cause", "Ljava/lang/Throwable;", false)
  | 1 => ("java/lang/Throwable", "stackTrace", "[Ljava/lang/StackTraceElement;", false)
  | 2 => ("java/lang/Throwable", "suppressedExceptions", "Ljava/util/List;", false)
  | 3 => ("java/lang/Throwable", "detailMessage", "Ljava/lang/String;", false)
  | 4 => ("java/lang/Throwable", "backtrace", "Ljava/lang/Object;", false)
  | 5 => ("java/lang/Throwable", "depth", "I", false)
  | 6 => ("RuleCourtModel$Stop", "kind", "I", false)
  | _ => ("RuleCourtModel$Stop", "place", "I", false)
def tyX13 : Nat → FieldType := fun k => match k with
  | 0 => .object "java/lang/Throwable"
  | 1 => .array (.object "java/lang/StackTraceElement")
  | 2 => .object "java/util/List"
  | 3 => .object "java/lang/String"
  | 4 => .object "java/lang/Object"
  | 5 => .int
  | 6 => .int
  | _ => .int
abbrev wsX130 : List Cond := u_ws RX13 TX13 8
theorem nmX13 : ∀ a, a < 8 → ∀ b, b < 8 → a ≠ b → (TX13 a).2.1 ≠ (TX13 b).2.1 := by decide +kernel
theorem tyX13_ok : ∀ k, k < 8 → parseFieldDescriptor (TX13 k).2.2.1 = some (tyX13 k) := by decide +kernel
abbrev cX13_init : ByteArray := prog_16_method_1_code
def yX13_init : MethodName := ⟨RX13, "<init>", "()V"⟩
def RX14 : String := "RuleCourtModel"
def TX14 : u_T := fun k => match k with
  | 0 => ("RuleCourtModel", "thrown", "I", false)
  | 1 => ("RuleCourtModel", "trouble", "I", false)
  | 2 => ("RuleCourtModel", "where", "I", false)
  | 3 => ("RuleCourtModel", "fault", "I", false)
  | 4 => ("RuleCourtModel", "things", "I", false)
  | 5 => ("RuleCourtModel", "kinds", "I", false)
  | 6 => ("RuleCourtModel", "rules", "I", false)
  | 7 => ("RuleCourtModel", "thing", "[J", true)
  | 8 => ("RuleCourtModel", "kind", "[J", true)
  | 9 => ("RuleCourtModel", "thingSize", "[I", true)
  | 10 => ("RuleCourtModel", "kindSize", "[I", true)
  | 11 => ("RuleCourtModel", "places", "[I", true)
  | 12 => ("RuleCourtModel", "layer", "[I", true)
  | 13 => ("RuleCourtModel", "isFact", "[Z", true)
  | 14 => ("RuleCourtModel", "kept", "[Z", true)
  | 15 => ("RuleCourtModel", "rule", "[LRuleCourtModel$Rule;", true)
  | 16 => ("RuleCourtModel", "stop", "LRuleCourtModel$Stop;", true)
  | 17 => ("RuleCourtModel", "tape", "[B", true)
  | 18 => ("RuleCourtModel", "taped", "I", false)
  | 19 => ("RuleCourtModel", "size", "I", false)
  | 20 => ("RuleCourtModel", "at", "I", false)
  | 21 => ("RuleCourtModel", "sort", "I", false)
  | 22 => ("RuleCourtModel", "place", "I", false)
  | 23 => ("RuleCourtModel", "mark", "I", false)
  | 24 => ("RuleCourtModel", "letters", "I", false)
  | 25 => ("RuleCourtModel", "word", "J", false)
  | 26 => ("RuleCourtModel", "stoodAt", "[I", true)
  | 27 => ("RuleCourtModel", "stood", "[I", true)
  | 28 => ("RuleCourtModel", "stoods", "I", false)
  | 29 => ("RuleCourtModel", "bound", "I", false)
  | 30 => ("RuleCourtModel", "clauses", "I", false)
  | 31 => ("RuleCourtModel", "now", "LRuleCourtModel$Rule;", false)
  | 32 => ("RuleCourtModel", "steps", "[I", true)
  | 33 => ("RuleCourtModel", "given", "[I", true)
  | 34 => ("RuleCourtModel", "grew", "Z", false)
  | 35 => ("RuleCourtModel", "because", "[I", true)
  | 36 => ("RuleCourtModel", "becauseMany", "I", false)
  | 37 => ("RuleCourtModel", "was", "[Z", true)
  | 38 => ("RuleCourtModel", "fact", "[I", true)
  | 39 => ("RuleCourtModel", "gone", "[I", true)
  | 40 => ("RuleCourtModel", "tried", "[I", true)
  | 41 => ("RuleCourtModel", "facts", "I", false)
  | _ => ("RuleCourtModel", "gones", "I", false)
def tyX14 : Nat → FieldType := fun k => match k with
  | 0 => .int
  | 1 => .int
  | 2 => .int
  | 3 => .int
  | 4 => .int
  | 5 => .int
  | 6 => .int
  | 7 => .array .long
  | 8 => .array .long
  | 9 => .array .int
  | 10 => .array .int
  | 11 => .array .int
  | 12 => .array .int
  | 13 => .array .boolean
  | 14 => .array .boolean
  | 15 => .array (.object "RuleCourtModel$Rule")
  | 16 => .object "RuleCourtModel$Stop"
  | 17 => .array .byte
  | 18 => .int
  | 19 => .int
  | 20 => .int
  | 21 => .int
  | 22 => .int
  | 23 => .int
  | 24 => .int
  | 25 => .long
  | 26 => .array .int
  | 27 => .array .int
  | 28 => .int
  | 29 => .int
  | 30 => .int
  | 31 => .object "RuleCourtModel$Rule"
  | 32 => .array .int
  | 33 => .array .int
  | 34 => .boolean
  | 35 => .array .int
  | 36 => .int
  | 37 => .array .boolean
  | 38 => .array .int
  | 39 => .array .int
  | 40 => .array .int
  | 41 => .int
  | _ => .int
abbrev wsX140 : List Cond := u_ws RX14 TX14 43
theorem nmX14 : ∀ a, a < 43 → ∀ b, b < 43 → a ≠ b → (TX14 a).2.1 ≠ (TX14 b).2.1 := by decide +kernel
theorem tyX14_ok : ∀ k, k < 43 → parseFieldDescriptor (TX14 k).2.2.1 = some (tyX14 k) := by decide +kernel
abbrev cX14_init : ByteArray := prog_14_method_1_code
def yX14_init : MethodName := ⟨RX14, "<init>", "()V"⟩
abbrev cX14_thrown : ByteArray := prog_14_method_2_code
def yX14_thrown : MethodName := ⟨RX14, "thrown", "()I"⟩
abbrev cX14_refused : ByteArray := prog_14_method_3_code
def yX14_refused : MethodName := ⟨RX14, "refused", "(I)I"⟩
abbrev cX14_denied : ByteArray := prog_14_method_4_code
def yX14_denied : MethodName := ⟨RX14, "denied", "(I)Z"⟩
abbrev cX14_done : ByteArray := prog_14_method_5_code
def yX14_done : MethodName := ⟨RX14, "done", "(I)I"⟩
abbrev cX14_granted : ByteArray := prog_14_method_6_code
def yX14_granted : MethodName := ⟨RX14, "granted", "()Z"⟩
abbrev cX14_in : ByteArray := prog_14_method_7_code
def yX14_in : MethodName := ⟨RX14, "in", "(III)Z"⟩
abbrev cX14_isKind : ByteArray := prog_14_method_8_code
def yX14_isKind : MethodName := ⟨RX14, "isKind", "(I)Z"⟩
abbrev cX14_isRule : ByteArray := prog_14_method_9_code
def yX14_isRule : MethodName := ⟨RX14, "isRule", "(I)Z"⟩
abbrev cX14_isAtom : ByteArray := prog_14_method_10_code
def yX14_isAtom : MethodName := ⟨RX14, "isAtom", "(I)Z"⟩
abbrev cX14_stop : ByteArray := prog_14_method_11_code
def yX14_stop : MethodName := ⟨RX14, "stop", "(II)LRuleCourtModel$Stop;"⟩
abbrev cX14_byteAt : ByteArray := prog_14_method_12_code
def yX14_byteAt : MethodName := ⟨RX14, "byteAt", "(I)I"⟩
abbrev cX14_isLetter : ByteArray := prog_14_method_13_code
def yX14_isLetter : MethodName := ⟨RX14, "isLetter", "(I)Z"⟩
abbrev cX14_next : ByteArray := prog_14_method_14_code
def yX14_next : MethodName := ⟨RX14, "next", "()V"⟩
abbrev cX14_is : ByteArray := prog_14_method_15_code
def yX14_is : MethodName := ⟨RX14, "is", "(I)Z"⟩
abbrev cX14_isNot : ByteArray := prog_14_method_16_code
def yX14_isNot : MethodName := ⟨RX14, "isNot", "()Z"⟩
abbrev cX14_isBeforeUnlike : ByteArray := prog_14_method_17_code
def yX14_isBeforeUnlike : MethodName := ⟨RX14, "isBeforeUnlike", "()Z"⟩
abbrev cX14_thingHere : ByteArray := prog_14_method_18_code
def yX14_thingHere : MethodName := ⟨RX14, "thingHere", "()I"⟩
abbrev cX14_readArg : ByteArray := prog_14_method_19_code
def yX14_readArg : MethodName := ⟨RX14, "readArg", "(Z)I"⟩
abbrev cX14_readAtom : ByteArray := prog_14_method_20_code
def yX14_readAtom : MethodName := ⟨RX14, "readAtom", "(II)V"⟩
abbrev cX14_readClause : ByteArray := prog_14_method_21_code
def yX14_readClause : MethodName := ⟨RX14, "readClause", "()V"⟩
abbrev cX14_readTerm : ByteArray := prog_14_method_22_code
def yX14_readTerm : MethodName := ⟨RX14, "readTerm", "()V"⟩
abbrev cX14_numberOf : ByteArray := prog_14_method_23_code
def yX14_numberOf : MethodName := ⟨RX14, "numberOf", "(LRuleCourtModel$Rule;I)I"⟩
abbrev cX14_feed : ByteArray := prog_14_method_24_code
def yX14_feed : MethodName := ⟨RX14, "feed", "(IIIII)I"⟩
abbrev cX14_tell : ByteArray := prog_14_method_25_code
def yX14_tell : MethodName := ⟨RX14, "tell", "(I)I"⟩
abbrev cX14_layers : ByteArray := prog_14_method_26_code
def yX14_layers : MethodName := ⟨RX14, "layers", "(I)Z"⟩
abbrev cX14_fault : ByteArray := prog_14_method_27_code
def yX14_fault : MethodName := ⟨RX14, "fault", "()I"⟩
abbrev cX14_where : ByteArray := prog_14_method_28_code
def yX14_where : MethodName := ⟨RX14, "where", "()I"⟩
abbrev cX14_atom : ByteArray := prog_14_method_29_code
def yX14_atom : MethodName := ⟨RX14, "atom", "(III)I"⟩
abbrev cX14_name : ByteArray := prog_14_method_30_code
def yX14_name : MethodName := ⟨RX14, "name", "(IIZ)I"⟩
abbrev cX14_places : ByteArray := prog_14_method_31_code
def yX14_places : MethodName := ⟨RX14, "places", "(I)I"⟩
abbrev cX14_layer : ByteArray := prog_14_method_32_code
def yX14_layer : MethodName := ⟨RX14, "layer", "(I)I"⟩
abbrev cX14_fact : ByteArray := prog_14_method_33_code
def yX14_fact : MethodName := ⟨RX14, "fact", "(IZ)I"⟩
abbrev cX14_drop : ByteArray := prog_14_method_34_code
def yX14_drop : MethodName := ⟨RX14, "drop", "(I)Z"⟩
abbrev cX14_works : ByteArray := prog_14_method_35_code
def yX14_works : MethodName := ⟨RX14, "works", "(I)V"⟩
abbrev cX14_takes : ByteArray := prog_14_method_36_code
def yX14_takes : MethodName := ⟨RX14, "takes", "(LRuleCourtModel$Rule;)V"⟩
abbrev cX14_argOf : ByteArray := prog_14_method_37_code
def yX14_argOf : MethodName := ⟨RX14, "argOf", "(I)I"⟩
abbrev cX14_atomOf : ByteArray := prog_14_method_38_code
def yX14_atomOf : MethodName := ⟨RX14, "atomOf", "(LRuleCourtModel$Rule;I)I"⟩
abbrev cX14_fits : ByteArray := prog_14_method_39_code
def yX14_fits : MethodName := ⟨RX14, "fits", "(II)Z"⟩
abbrev cX14_goes : ByteArray := prog_14_method_40_code
def yX14_goes : MethodName := ⟨RX14, "goes", "(LRuleCourtModel$Rule;II)V"⟩
abbrev cX14_hold : ByteArray := prog_14_method_41_code
def yX14_hold : MethodName := ⟨RX14, "hold", "(LRuleCourtModel$Rule;)Z"⟩
abbrev cX14_holds : ByteArray := prog_14_method_42_code
def yX14_holds : MethodName := ⟨RX14, "holds", "(LRuleCourtModel$Rule;I)Z"⟩
abbrev cX14_follows : ByteArray := prog_14_method_44_code
def yX14_follows : MethodName := ⟨RX14, "follows", "(I)I"⟩
abbrev cX14_oneOf : ByteArray := prog_14_method_45_code
def yX14_oneOf : MethodName := ⟨RX14, "oneOf", "(II)I"⟩
abbrev cX14_many : ByteArray := prog_14_method_46_code
def yX14_many : MethodName := ⟨RX14, "many", "(I)I"⟩
abbrev cX14_one : ByteArray := prog_14_method_47_code
def yX14_one : MethodName := ⟨RX14, "one", "(II)I"⟩
abbrev cX14_steps : ByteArray := prog_14_method_48_code
def yX14_steps : MethodName := ⟨RX14, "steps", "(I)I"⟩
abbrev cX14_leads : ByteArray := prog_14_method_49_code
def yX14_leads : MethodName := ⟨RX14, "leads", "(LRuleCourtModel$Rule;II)Z"⟩
abbrev cX14_ways : ByteArray := prog_14_method_50_code
def yX14_ways : MethodName := ⟨RX14, "ways", "(LRuleCourtModel$Rule;)I"⟩
abbrev cX14_gives : ByteArray := prog_14_method_51_code
def yX14_gives : MethodName := ⟨RX14, "gives", "(LRuleCourtModel$Rule;I)V"⟩
abbrev cX14_why : ByteArray := prog_14_method_52_code
def yX14_why : MethodName := ⟨RX14, "why", "(I)I"⟩
abbrev cX14_because : ByteArray := prog_14_method_53_code
def yX14_because : MethodName := ⟨RX14, "because", "(I)I"⟩
abbrev cX14_comes : ByteArray := prog_14_method_54_code
def yX14_comes : MethodName := ⟨RX14, "comes", "(II)I"⟩
abbrev cX14_isIdle : ByteArray := prog_14_method_55_code
def yX14_isIdle : MethodName := ⟨RX14, "isIdle", "(LRuleCourtModel$Rule;)Z"⟩
abbrev cX14_remembers : ByteArray := prog_14_method_56_code
def yX14_remembers : MethodName := ⟨RX14, "remembers", "()V"⟩
abbrev cX14_isSpare : ByteArray := prog_14_method_57_code
def yX14_isSpare : MethodName := ⟨RX14, "isSpare", "(I)Z"⟩
abbrev cX14_rule : ByteArray := prog_14_method_58_code
def yX14_rule : MethodName := ⟨RX14, "rule", "(II)I"⟩
abbrev cX14_term : ByteArray := prog_14_method_59_code
def yX14_term : MethodName := ⟨RX14, "term", "(III)I"⟩
abbrev cX14_loses : ByteArray := prog_14_method_60_code
def yX14_loses : MethodName := ⟨RX14, "loses", "(IIII)Z"⟩
abbrev cX14_go : ByteArray := prog_14_method_61_code
def yX14_go : MethodName := ⟨RX14, "go", "(I)I"⟩
abbrev cX14_gone : ByteArray := prog_14_method_62_code
def yX14_gone : MethodName := ⟨RX14, "gone", "(I)I"⟩
abbrev cX14_derived : ByteArray := prog_14_method_63_code
def yX14_derived : MethodName := ⟨RX14, "derived", "()I"⟩
abbrev cX14_deepest : ByteArray := prog_14_method_64_code
def yX14_deepest : MethodName := ⟨RX14, "deepest", "()I"⟩
abbrev cX14_turned : ByteArray := prog_14_method_65_code
def yX14_turned : MethodName := ⟨RX14, "turned", "(IZ)I"⟩
abbrev cX14_count : ByteArray := prog_14_method_66_code
def yX14_count : MethodName := ⟨RX14, "count", "(I)I"⟩
abbrev cX14_trouble : ByteArray := prog_14_method_67_code
def yX14_trouble : MethodName := ⟨RX14, "trouble", "()I"⟩
def RJ6 : String := "java/lang/Integer"
def TJ6 : u_T := fun k => match k with
  | _ => ("", "", "", false)
def tyJ6 : Nat → FieldType := fun k => match k with
  | _ => .int
abbrev wsJ60 : List Cond := u_ws RJ6 TJ6 0
theorem nmJ6 : ∀ a, a < 0 → ∀ b, b < 0 → a ≠ b → (TJ6 a).2.1 ≠ (TJ6 b).2.1 := by decide +kernel
theorem tyJ6_ok : ∀ k, k < 0 → parseFieldDescriptor (TJ6 k).2.2.1 = some (tyJ6 k) := by decide +kernel
abbrev cJ6_bitCount_0f7a4 : ByteArray := prog_18_method_49_code
def yJ6_bitCount_0f7a4 : MethodName := ⟨RJ6, "bitCount", "(I)I"⟩
def RJ9 : String := "java/lang/Math"
def TJ9 : u_T := fun k => match k with
  | _ => ("", "", "", false)
def tyJ9 : Nat → FieldType := fun k => match k with
  | _ => .int
abbrev wsJ90 : List Cond := u_ws RJ9 TJ9 0
theorem nmJ9 : ∀ a, a < 0 → ∀ b, b < 0 → a ≠ b → (TJ9 a).2.1 ≠ (TJ9 b).2.1 := by decide +kernel
theorem tyJ9_ok : ∀ k, k < 0 → parseFieldDescriptor (TJ9 k).2.2.1 = some (tyJ9 k) := by decide +kernel
abbrev cJ9_max_7cf53 : ByteArray := prog_19_method_65_code
def yJ9_max_7cf53 : MethodName := ⟨RJ9, "max", "(II)I"⟩
def RJ0 : String := "java/lang/String"
def TJ0 : u_T := fun k => match k with
  | _ => ("", "", "", false)
def tyJ0 : Nat → FieldType := fun k => match k with
  | _ => .int
abbrev wsJ00 : List Cond := u_ws RJ0 TJ0 0
theorem nmJ0 : ∀ a, a < 0 → ∀ b, b < 0 → a ≠ b → (TJ0 a).2.1 ≠ (TJ0 b).2.1 := by decide +kernel
theorem tyJ0_ok : ∀ k, k < 0 → parseFieldDescriptor (TJ0 k).2.2.1 = some (tyJ0 k) := by decide +kernel
def RJ10 : String := "java/lang/System"
def TJ10 : u_T := fun k => match k with
  | _ => ("", "", "", false)
def tyJ10 : Nat → FieldType := fun k => match k with
  | _ => .int
abbrev wsJ100 : List Cond := u_ws RJ10 TJ10 0
theorem nmJ10 : ∀ a, a < 0 → ∀ b, b < 0 → a ≠ b → (TJ10 a).2.1 ≠ (TJ10 b).2.1 := by decide +kernel
theorem tyJ10_ok : ∀ k, k < 0 → parseFieldDescriptor (TJ10 k).2.2.1 = some (tyJ10 k) := by decide +kernel
def RJ7 : String := "java/util/Arrays"
def TJ7 : u_T := fun k => match k with
  | _ => ("", "", "", false)
def tyJ7 : Nat → FieldType := fun k => match k with
  | _ => .int
abbrev wsJ70 : List Cond := u_ws RJ7 TJ7 0
theorem nmJ7 : ∀ a, a < 0 → ∀ b, b < 0 → a ≠ b → (TJ7 a).2.1 ≠ (TJ7 b).2.1 := by decide +kernel
theorem tyJ7_ok : ∀ k, k < 0 → parseFieldDescriptor (TJ7 k).2.2.1 = some (tyJ7 k) := by decide +kernel
abbrev cJ7_fill_53178 : ByteArray := prog_24_method_103_code
def yJ7_fill_53178 : MethodName := ⟨RJ7, "fill", "([II)V"⟩
def RL : String := "RuleCourtLaw"
abbrev cL_name : ByteArray := method_3_code
def yL_name : MethodName := ⟨RL, "name", "(LRuleCourt;IIZ[J)I"⟩
abbrev cL_law : ByteArray := code
def yL_law : MethodName := ⟨RL, "law", "([I)Z"⟩
abbrev vwCl : List vw_C := [(RX0, TX0, 8), (RX1, TX1, 10), (RX2, TX2, 9), (RX3, TX3, 3), (RX4, TX4, 1), (RX5, TX5, 5), (RX6, TX6, 2), (RX7, TX7, 8), (RX8, TX8, 5), (RX9, TX9, 7), (RX10, TX10, 4), (RX11, TX11, 13), (RX12, TX12, 8), (RX13, TX13, 8), (RX14, TX14, 43)]
end
section
theorem dX0_init_0 : decode cX0_init 0 = .ok (.aload_n 0, 1) := by decide +kernel
theorem dX0_init_1 : decode cX0_init 1 = .ok (.invokespecial 3, 3) := by decide +kernel
theorem dX0_init_4 : decode cX0_init 4 = .ok (.aload_n 0, 1) := by decide +kernel
theorem dX0_init_5 : decode cX0_init 5 = .ok (.new 9, 3) := by decide +kernel
theorem dX0_init_8 : decode cX0_init 8 = .ok (.dup, 1) := by decide +kernel
theorem dX0_init_9 : decode cX0_init 9 = .ok (.invokespecial 11, 3) := by decide +kernel
theorem dX0_init_12 : decode cX0_init 12 = .ok (.putfield 12, 3) := by decide +kernel
theorem dX0_init_15 : decode cX0_init 15 = .ok (.aload_n 0, 1) := by decide +kernel
theorem dX0_init_16 : decode cX0_init 16 = .ok (.new 9, 3) := by decide +kernel
theorem dX0_init_19 : decode cX0_init 19 = .ok (.dup, 1) := by decide +kernel
theorem dX0_init_20 : decode cX0_init 20 = .ok (.invokespecial 11, 3) := by decide +kernel
theorem dX0_init_23 : decode cX0_init 23 = .ok (.putfield 18, 3) := by decide +kernel
theorem dX0_init_26 : decode cX0_init 26 = .ok (.aload_n 0, 1) := by decide +kernel
theorem dX0_init_27 : decode cX0_init 27 = .ok (.bipush 10, 2) := by decide +kernel
theorem dX0_init_29 : decode cX0_init 29 = .ok (.newarray .int, 2) := by decide +kernel
theorem dX0_init_31 : decode cX0_init 31 = .ok (.putfield 21, 3) := by decide +kernel
theorem dX0_init_34 : decode cX0_init 34 = .ok (.aload_n 0, 1) := by decide +kernel
theorem dX0_init_35 : decode cX0_init 35 = .ok (.new 25, 3) := by decide +kernel
theorem dX0_init_38 : decode cX0_init 38 = .ok (.dup, 1) := by decide +kernel
theorem dX0_init_39 : decode cX0_init 39 = .ok (.invokespecial 27, 3) := by decide +kernel
theorem dX0_init_42 : decode cX0_init 42 = .ok (.putfield 28, 3) := by decide +kernel
theorem dX0_init_45 : decode cX0_init 45 = .ok (.aload_n 0, 1) := by decide +kernel
theorem dX0_init_46 : decode cX0_init 46 = .ok (.bipush 21, 2) := by decide +kernel
theorem dX0_init_48 : decode cX0_init 48 = .ok (.anewarray 32, 3) := by decide +kernel
theorem dX0_init_51 : decode cX0_init 51 = .ok (.putfield 34, 3) := by decide +kernel
theorem dX0_init_54 : decode cX0_init 54 = .ok (.aload_n 0, 1) := by decide +kernel
theorem dX0_init_55 : decode cX0_init 55 = .ok (.bipush 100, 2) := by decide +kernel
theorem dX0_init_57 : decode cX0_init 57 = .ok (.newarray .int, 2) := by decide +kernel
theorem dX0_init_59 : decode cX0_init 59 = .ok (.putfield 38, 3) := by decide +kernel
theorem dX0_init_62 : decode cX0_init 62 = .ok (.iconst 0, 1) := by decide +kernel
theorem dX0_init_63 : decode cX0_init 63 = .ok (.istore_n 1, 1) := by decide +kernel
theorem dX0_init_64 : decode cX0_init 64 = .ok (.iload_n 1, 1) := by decide +kernel
theorem dX0_init_65 : decode cX0_init 65 = .ok (.bipush 20, 2) := by decide +kernel
theorem dX0_init_67 : decode cX0_init 67 = .ok (.if_icmp .gt 22, 3) := by decide +kernel
theorem dX0_init_70 : decode cX0_init 70 = .ok (.aload_n 0, 1) := by decide +kernel
theorem dX0_init_71 : decode cX0_init 71 = .ok (.getfield 34, 3) := by decide +kernel
theorem dX0_init_74 : decode cX0_init 74 = .ok (.iload_n 1, 1) := by decide +kernel
theorem dX0_init_75 : decode cX0_init 75 = .ok (.new 32, 3) := by decide +kernel
theorem dX0_init_78 : decode cX0_init 78 = .ok (.dup, 1) := by decide +kernel
theorem dX0_init_79 : decode cX0_init 79 = .ok (.invokespecial 41, 3) := by decide +kernel
theorem dX0_init_82 : decode cX0_init 82 = .ok (.aastore, 1) := by decide +kernel
theorem dX0_init_83 : decode cX0_init 83 = .ok (.iinc 1 1, 3) := by decide +kernel
theorem dX0_init_86 : decode cX0_init 86 = .ok (.goto (-22), 3) := by decide +kernel
theorem dX0_init_89 : decode cX0_init 89 = .ok (.return_, 1) := by decide +kernel
theorem dX0_hasRule_0 : decode cX0_hasRule 0 = .ok (.iload_n 1, 1) := by decide +kernel
theorem dX0_hasRule_1 : decode cX0_hasRule 1 = .ok (.ifCond .lt 15, 3) := by decide +kernel
theorem dX0_hasRule_4 : decode cX0_hasRule 4 = .ok (.iload_n 1, 1) := by decide +kernel
theorem dX0_hasRule_5 : decode cX0_hasRule 5 = .ok (.aload_n 0, 1) := by decide +kernel
theorem dX0_hasRule_6 : decode cX0_hasRule 6 = .ok (.getfield 42, 3) := by decide +kernel
theorem dX0_hasRule_9 : decode cX0_hasRule 9 = .ok (.if_icmp .ge 7, 3) := by decide +kernel
theorem dX0_hasRule_12 : decode cX0_hasRule 12 = .ok (.iconst 1, 1) := by decide +kernel
theorem dX0_hasRule_13 : decode cX0_hasRule 13 = .ok (.goto 4, 3) := by decide +kernel
theorem dX0_hasRule_16 : decode cX0_hasRule 16 = .ok (.iconst 0, 1) := by decide +kernel
theorem dX0_hasRule_17 : decode cX0_hasRule 17 = .ok (.ireturn, 1) := by decide +kernel
theorem dX0_hasAtom_0 : decode cX0_hasAtom 0 = .ok (.iload_n 1, 1) := by decide +kernel
theorem dX0_hasAtom_1 : decode cX0_hasAtom 1 = .ok (.ifCond .lt 17, 3) := by decide +kernel
theorem dX0_hasAtom_4 : decode cX0_hasAtom 4 = .ok (.aload_n 0, 1) := by decide +kernel
theorem dX0_hasAtom_5 : decode cX0_hasAtom 5 = .ok (.getfield 12, 3) := by decide +kernel
theorem dX0_hasAtom_8 : decode cX0_hasAtom 8 = .ok (.iload_n 1, 1) := by decide +kernel
theorem dX0_hasAtom_9 : decode cX0_hasAtom 9 = .ok (.bipush 100, 2) := by decide +kernel
theorem dX0_hasAtom_11 : decode cX0_hasAtom 11 = .ok (.idiv, 1) := by decide +kernel
theorem dX0_hasAtom_12 : decode cX0_hasAtom 12 = .ok (.invokevirtual 46, 3) := by decide +kernel
theorem dX0_hasAtom_15 : decode cX0_hasAtom 15 = .ok (.ifCond .ne 5, 3) := by decide +kernel
theorem dX0_hasAtom_18 : decode cX0_hasAtom 18 = .ok (.iconst 0, 1) := by decide +kernel
theorem dX0_hasAtom_19 : decode cX0_hasAtom 19 = .ok (.ireturn, 1) := by decide +kernel
theorem dX0_hasAtom_20 : decode cX0_hasAtom 20 = .ok (.aload_n 0, 1) := by decide +kernel
theorem dX0_hasAtom_21 : decode cX0_hasAtom 21 = .ok (.getfield 21, 3) := by decide +kernel
theorem dX0_hasAtom_24 : decode cX0_hasAtom 24 = .ok (.iload_n 1, 1) := by decide +kernel
theorem dX0_hasAtom_25 : decode cX0_hasAtom 25 = .ok (.bipush 100, 2) := by decide +kernel
theorem dX0_hasAtom_27 : decode cX0_hasAtom 27 = .ok (.idiv, 1) := by decide +kernel
theorem dX0_hasAtom_28 : decode cX0_hasAtom 28 = .ok (.iaload, 1) := by decide +kernel
theorem dX0_hasAtom_29 : decode cX0_hasAtom 29 = .ok (.istore_n 2, 1) := by decide +kernel
theorem dX0_hasAtom_30 : decode cX0_hasAtom 30 = .ok (.iload_n 1, 1) := by decide +kernel
theorem dX0_hasAtom_31 : decode cX0_hasAtom 31 = .ok (.bipush 10, 2) := by decide +kernel
theorem dX0_hasAtom_33 : decode cX0_hasAtom 33 = .ok (.idiv, 1) := by decide +kernel
theorem dX0_hasAtom_34 : decode cX0_hasAtom 34 = .ok (.bipush 10, 2) := by decide +kernel
theorem dX0_hasAtom_36 : decode cX0_hasAtom 36 = .ok (.irem, 1) := by decide +kernel
theorem dX0_hasAtom_37 : decode cX0_hasAtom 37 = .ok (.istore_n 3, 1) := by decide +kernel
theorem dX0_hasAtom_38 : decode cX0_hasAtom 38 = .ok (.iload_n 1, 1) := by decide +kernel
theorem dX0_hasAtom_39 : decode cX0_hasAtom 39 = .ok (.bipush 10, 2) := by decide +kernel
theorem dX0_hasAtom_41 : decode cX0_hasAtom 41 = .ok (.irem, 1) := by decide +kernel
theorem dX0_hasAtom_42 : decode cX0_hasAtom 42 = .ok (.istore 4, 2) := by decide +kernel
theorem dX0_hasAtom_44 : decode cX0_hasAtom 44 = .ok (.iload_n 2, 1) := by decide +kernel
theorem dX0_hasAtom_45 : decode cX0_hasAtom 45 = .ok (.ifCond .le 17, 3) := by decide +kernel
theorem dX0_hasAtom_48 : decode cX0_hasAtom 48 = .ok (.iload_n 3, 1) := by decide +kernel
theorem dX0_hasAtom_49 : decode cX0_hasAtom 49 = .ok (.aload_n 0, 1) := by decide +kernel
theorem dX0_hasAtom_50 : decode cX0_hasAtom 50 = .ok (.getfield 18, 3) := by decide +kernel
theorem dX0_hasAtom_53 : decode cX0_hasAtom 53 = .ok (.getfield 50, 3) := by decide +kernel
theorem dX0_hasAtom_56 : decode cX0_hasAtom 56 = .ok (.if_icmp .ge 39, 3) := by decide +kernel
theorem dX0_hasAtom_59 : decode cX0_hasAtom 59 = .ok (.goto 7, 3) := by decide +kernel
theorem dX0_hasAtom_62 : decode cX0_hasAtom 62 = .ok (.iload_n 3, 1) := by decide +kernel
theorem dX0_hasAtom_63 : decode cX0_hasAtom 63 = .ok (.ifCond .ne 32, 3) := by decide +kernel
theorem dX0_hasAtom_66 : decode cX0_hasAtom 66 = .ok (.iload_n 2, 1) := by decide +kernel
theorem dX0_hasAtom_67 : decode cX0_hasAtom 67 = .ok (.iconst 1, 1) := by decide +kernel
theorem dX0_hasAtom_68 : decode cX0_hasAtom 68 = .ok (.if_icmp .le 18, 3) := by decide +kernel
theorem dX0_hasAtom_71 : decode cX0_hasAtom 71 = .ok (.iload 4, 2) := by decide +kernel
theorem dX0_hasAtom_73 : decode cX0_hasAtom 73 = .ok (.aload_n 0, 1) := by decide +kernel
theorem dX0_hasAtom_74 : decode cX0_hasAtom 74 = .ok (.getfield 18, 3) := by decide +kernel
theorem dX0_hasAtom_77 : decode cX0_hasAtom 77 = .ok (.getfield 50, 3) := by decide +kernel
theorem dX0_hasAtom_80 : decode cX0_hasAtom 80 = .ok (.if_icmp .ge 15, 3) := by decide +kernel
theorem dX0_hasAtom_83 : decode cX0_hasAtom 83 = .ok (.goto 8, 3) := by decide +kernel
theorem dX0_hasAtom_86 : decode cX0_hasAtom 86 = .ok (.iload 4, 2) := by decide +kernel
theorem dX0_hasAtom_88 : decode cX0_hasAtom 88 = .ok (.ifCond .ne 7, 3) := by decide +kernel
theorem dX0_hasAtom_91 : decode cX0_hasAtom 91 = .ok (.iconst 1, 1) := by decide +kernel
theorem dX0_hasAtom_92 : decode cX0_hasAtom 92 = .ok (.goto 4, 3) := by decide +kernel
theorem dX0_hasAtom_95 : decode cX0_hasAtom 95 = .ok (.iconst 0, 1) := by decide +kernel
theorem dX0_hasAtom_96 : decode cX0_hasAtom 96 = .ok (.ireturn, 1) := by decide +kernel
theorem dX0_isFact_0 : decode cX0_isFact 0 = .ok (.aload_n 0, 1) := by decide +kernel
theorem dX0_isFact_1 : decode cX0_isFact 1 = .ok (.getfield 38, 3) := by decide +kernel
theorem dX0_isFact_4 : decode cX0_isFact 4 = .ok (.iload_n 1, 1) := by decide +kernel
theorem dX0_isFact_5 : decode cX0_isFact 5 = .ok (.bipush 10, 2) := by decide +kernel
theorem dX0_isFact_7 : decode cX0_isFact 7 = .ok (.idiv, 1) := by decide +kernel
theorem dX0_isFact_8 : decode cX0_isFact 8 = .ok (.iaload, 1) := by decide +kernel
theorem dX0_isFact_9 : decode cX0_isFact 9 = .ok (.iload_n 1, 1) := by decide +kernel
theorem dX0_isFact_10 : decode cX0_isFact 10 = .ok (.bipush 10, 2) := by decide +kernel
theorem dX0_isFact_12 : decode cX0_isFact 12 = .ok (.irem, 1) := by decide +kernel
theorem dX0_isFact_13 : decode cX0_isFact 13 = .ok (.ishr, 1) := by decide +kernel
theorem dX0_isFact_14 : decode cX0_isFact 14 = .ok (.iconst 1, 1) := by decide +kernel
theorem dX0_isFact_15 : decode cX0_isFact 15 = .ok (.iand, 1) := by decide +kernel
theorem dX0_isFact_16 : decode cX0_isFact 16 = .ok (.ifCond .eq 7, 3) := by decide +kernel
theorem dX0_isFact_19 : decode cX0_isFact 19 = .ok (.iconst 1, 1) := by decide +kernel
theorem dX0_isFact_20 : decode cX0_isFact 20 = .ok (.goto 4, 3) := by decide +kernel
theorem dX0_isFact_23 : decode cX0_isFact 23 = .ok (.iconst 0, 1) := by decide +kernel
theorem dX0_isFact_24 : decode cX0_isFact 24 = .ok (.ireturn, 1) := by decide +kernel
theorem dX0_setFact_0 : decode cX0_setFact 0 = .ok (.aload_n 0, 1) := by decide +kernel
theorem dX0_setFact_1 : decode cX0_setFact 1 = .ok (.iload_n 1, 1) := by decide +kernel
theorem dX0_setFact_2 : decode cX0_setFact 2 = .ok (.invokevirtual 53, 3) := by decide +kernel
theorem dX0_setFact_5 : decode cX0_setFact 5 = .ok (.iload_n 2, 1) := by decide +kernel
theorem dX0_setFact_6 : decode cX0_setFact 6 = .ok (.if_icmp .ne 5, 3) := by decide +kernel
theorem dX0_setFact_9 : decode cX0_setFact 9 = .ok (.iconst 0, 1) := by decide +kernel
theorem dX0_setFact_10 : decode cX0_setFact 10 = .ok (.ireturn, 1) := by decide +kernel
theorem dX0_setFact_11 : decode cX0_setFact 11 = .ok (.aload_n 0, 1) := by decide +kernel
theorem dX0_setFact_12 : decode cX0_setFact 12 = .ok (.getfield 38, 3) := by decide +kernel
theorem dX0_setFact_15 : decode cX0_setFact 15 = .ok (.iload_n 1, 1) := by decide +kernel
theorem dX0_setFact_16 : decode cX0_setFact 16 = .ok (.bipush 10, 2) := by decide +kernel
theorem dX0_setFact_18 : decode cX0_setFact 18 = .ok (.idiv, 1) := by decide +kernel
theorem dX0_setFact_19 : decode cX0_setFact 19 = .ok (.dup2, 1) := by decide +kernel
theorem dX0_setFact_20 : decode cX0_setFact 20 = .ok (.iaload, 1) := by decide +kernel
theorem dX0_setFact_21 : decode cX0_setFact 21 = .ok (.iconst 1, 1) := by decide +kernel
theorem dX0_setFact_22 : decode cX0_setFact 22 = .ok (.iload_n 1, 1) := by decide +kernel
theorem dX0_setFact_23 : decode cX0_setFact 23 = .ok (.bipush 10, 2) := by decide +kernel
theorem dX0_setFact_25 : decode cX0_setFact 25 = .ok (.irem, 1) := by decide +kernel
theorem dX0_setFact_26 : decode cX0_setFact 26 = .ok (.ishl, 1) := by decide +kernel
theorem dX0_setFact_27 : decode cX0_setFact 27 = .ok (.ixor, 1) := by decide +kernel
theorem dX0_setFact_28 : decode cX0_setFact 28 = .ok (.iastore, 1) := by decide +kernel
theorem dX0_setFact_29 : decode cX0_setFact 29 = .ok (.aload_n 0, 1) := by decide +kernel
theorem dX0_setFact_30 : decode cX0_setFact 30 = .ok (.dup, 1) := by decide +kernel
theorem dX0_setFact_31 : decode cX0_setFact 31 = .ok (.getfield 56, 3) := by decide +kernel
theorem dX0_setFact_34 : decode cX0_setFact 34 = .ok (.iload_n 2, 1) := by decide +kernel
theorem dX0_setFact_35 : decode cX0_setFact 35 = .ok (.ifCond .eq 7, 3) := by decide +kernel
theorem dX0_setFact_38 : decode cX0_setFact 38 = .ok (.iconst 1, 1) := by decide +kernel
theorem dX0_setFact_39 : decode cX0_setFact 39 = .ok (.goto 4, 3) := by decide +kernel
theorem dX0_setFact_42 : decode cX0_setFact 42 = .ok (.iconst (-1), 1) := by decide +kernel
theorem dX0_setFact_43 : decode cX0_setFact 43 = .ok (.iadd, 1) := by decide +kernel
theorem dX0_setFact_44 : decode cX0_setFact 44 = .ok (.putfield 56, 3) := by decide +kernel
theorem dX0_setFact_47 : decode cX0_setFact 47 = .ok (.iconst 1, 1) := by decide +kernel
theorem dX0_setFact_48 : decode cX0_setFact 48 = .ok (.ireturn, 1) := by decide +kernel
theorem dX0_removeRule_0 : decode cX0_removeRule 0 = .ok (.aload_n 0, 1) := by decide +kernel
theorem dX0_removeRule_1 : decode cX0_removeRule 1 = .ok (.getfield 34, 3) := by decide +kernel
theorem dX0_removeRule_4 : decode cX0_removeRule 4 = .ok (.iload_n 1, 1) := by decide +kernel
theorem dX0_removeRule_5 : decode cX0_removeRule 5 = .ok (.aaload, 1) := by decide +kernel
theorem dX0_removeRule_6 : decode cX0_removeRule 6 = .ok (.astore_n 2, 1) := by decide +kernel
theorem dX0_removeRule_7 : decode cX0_removeRule 7 = .ok (.iload_n 1, 1) := by decide +kernel
theorem dX0_removeRule_8 : decode cX0_removeRule 8 = .ok (.istore_n 3, 1) := by decide +kernel
theorem dX0_removeRule_9 : decode cX0_removeRule 9 = .ok (.iload_n 3, 1) := by decide +kernel
theorem dX0_removeRule_10 : decode cX0_removeRule 10 = .ok (.aload_n 0, 1) := by decide +kernel
theorem dX0_removeRule_11 : decode cX0_removeRule 11 = .ok (.getfield 42, 3) := by decide +kernel
theorem dX0_removeRule_14 : decode cX0_removeRule 14 = .ok (.iconst 1, 1) := by decide +kernel
theorem dX0_removeRule_15 : decode cX0_removeRule 15 = .ok (.isub, 1) := by decide +kernel
theorem dX0_removeRule_16 : decode cX0_removeRule 16 = .ok (.if_icmp .ge 23, 3) := by decide +kernel
theorem dX0_removeRule_19 : decode cX0_removeRule 19 = .ok (.aload_n 0, 1) := by decide +kernel
theorem dX0_removeRule_20 : decode cX0_removeRule 20 = .ok (.getfield 34, 3) := by decide +kernel
theorem dX0_removeRule_23 : decode cX0_removeRule 23 = .ok (.iload_n 3, 1) := by decide +kernel
theorem dX0_removeRule_24 : decode cX0_removeRule 24 = .ok (.aload_n 0, 1) := by decide +kernel
theorem dX0_removeRule_25 : decode cX0_removeRule 25 = .ok (.getfield 34, 3) := by decide +kernel
theorem dX0_removeRule_28 : decode cX0_removeRule 28 = .ok (.iload_n 3, 1) := by decide +kernel
theorem dX0_removeRule_29 : decode cX0_removeRule 29 = .ok (.iconst 1, 1) := by decide +kernel
theorem dX0_removeRule_30 : decode cX0_removeRule 30 = .ok (.iadd, 1) := by decide +kernel
theorem dX0_removeRule_31 : decode cX0_removeRule 31 = .ok (.aaload, 1) := by decide +kernel
theorem dX0_removeRule_32 : decode cX0_removeRule 32 = .ok (.aastore, 1) := by decide +kernel
theorem dX0_removeRule_33 : decode cX0_removeRule 33 = .ok (.iinc 3 1, 3) := by decide +kernel
theorem dX0_removeRule_36 : decode cX0_removeRule 36 = .ok (.goto (-27), 3) := by decide +kernel
theorem dX0_removeRule_39 : decode cX0_removeRule 39 = .ok (.aload_n 0, 1) := by decide +kernel
theorem dX0_removeRule_40 : decode cX0_removeRule 40 = .ok (.dup, 1) := by decide +kernel
theorem dX0_removeRule_41 : decode cX0_removeRule 41 = .ok (.getfield 42, 3) := by decide +kernel
theorem dX0_removeRule_44 : decode cX0_removeRule 44 = .ok (.iconst 1, 1) := by decide +kernel
theorem dX0_removeRule_45 : decode cX0_removeRule 45 = .ok (.isub, 1) := by decide +kernel
theorem dX0_removeRule_46 : decode cX0_removeRule 46 = .ok (.putfield 42, 3) := by decide +kernel
theorem dX0_removeRule_49 : decode cX0_removeRule 49 = .ok (.aload_n 0, 1) := by decide +kernel
theorem dX0_removeRule_50 : decode cX0_removeRule 50 = .ok (.getfield 34, 3) := by decide +kernel
theorem dX0_removeRule_53 : decode cX0_removeRule 53 = .ok (.aload_n 0, 1) := by decide +kernel
theorem dX0_removeRule_54 : decode cX0_removeRule 54 = .ok (.getfield 42, 3) := by decide +kernel
theorem dX0_removeRule_57 : decode cX0_removeRule 57 = .ok (.aload_n 2, 1) := by decide +kernel
theorem dX0_removeRule_58 : decode cX0_removeRule 58 = .ok (.aastore, 1) := by decide +kernel
theorem dX0_removeRule_59 : decode cX0_removeRule 59 = .ok (.aload_n 0, 1) := by decide +kernel
theorem dX0_removeRule_60 : decode cX0_removeRule 60 = .ok (.getfield 28, 3) := by decide +kernel
theorem dX0_removeRule_63 : decode cX0_removeRule 63 = .ok (.aload_n 0, 1) := by decide +kernel
theorem dX0_removeRule_64 : decode cX0_removeRule 64 = .ok (.getfield 34, 3) := by decide +kernel
theorem dX0_removeRule_67 : decode cX0_removeRule 67 = .ok (.aload_n 0, 1) := by decide +kernel
theorem dX0_removeRule_68 : decode cX0_removeRule 68 = .ok (.getfield 42, 3) := by decide +kernel
theorem dX0_removeRule_71 : decode cX0_removeRule 71 = .ok (.invokevirtual 59, 3) := by decide +kernel
theorem dX0_removeRule_74 : decode cX0_removeRule 74 = .ok (.pop, 1) := by decide +kernel
theorem dX0_removeRule_75 : decode cX0_removeRule 75 = .ok (.return_, 1) := by decide +kernel
theorem dX0_layerCount_0 : decode cX0_layerCount 0 = .ok (.iconst 0, 1) := by decide +kernel
theorem dX0_layerCount_1 : decode cX0_layerCount 1 = .ok (.istore_n 1, 1) := by decide +kernel
theorem dX0_layerCount_2 : decode cX0_layerCount 2 = .ok (.iconst 0, 1) := by decide +kernel
theorem dX0_layerCount_3 : decode cX0_layerCount 3 = .ok (.istore_n 2, 1) := by decide +kernel
theorem dX0_layerCount_4 : decode cX0_layerCount 4 = .ok (.iload_n 2, 1) := by decide +kernel
theorem dX0_layerCount_5 : decode cX0_layerCount 5 = .ok (.aload_n 0, 1) := by decide +kernel
theorem dX0_layerCount_6 : decode cX0_layerCount 6 = .ok (.getfield 12, 3) := by decide +kernel
theorem dX0_layerCount_9 : decode cX0_layerCount 9 = .ok (.getfield 50, 3) := by decide +kernel
theorem dX0_layerCount_12 : decode cX0_layerCount 12 = .ok (.if_icmp .ge 25, 3) := by decide +kernel
theorem dX0_layerCount_15 : decode cX0_layerCount 15 = .ok (.iload_n 1, 1) := by decide +kernel
theorem dX0_layerCount_16 : decode cX0_layerCount 16 = .ok (.aload_n 0, 1) := by decide +kernel
theorem dX0_layerCount_17 : decode cX0_layerCount 17 = .ok (.getfield 28, 3) := by decide +kernel
theorem dX0_layerCount_20 : decode cX0_layerCount 20 = .ok (.getfield 63, 3) := by decide +kernel
theorem dX0_layerCount_23 : decode cX0_layerCount 23 = .ok (.iload_n 2, 1) := by decide +kernel
theorem dX0_layerCount_24 : decode cX0_layerCount 24 = .ok (.iaload, 1) := by decide +kernel
theorem dX0_layerCount_25 : decode cX0_layerCount 25 = .ok (.iconst 1, 1) := by decide +kernel
theorem dX0_layerCount_26 : decode cX0_layerCount 26 = .ok (.iadd, 1) := by decide +kernel
theorem dX0_layerCount_27 : decode cX0_layerCount 27 = .ok (.invokestatic 66, 3) := by decide +kernel
theorem dX0_layerCount_30 : decode cX0_layerCount 30 = .ok (.istore_n 1, 1) := by decide +kernel
theorem dX0_layerCount_31 : decode cX0_layerCount 31 = .ok (.iinc 2 1, 3) := by decide +kernel
theorem dX0_layerCount_34 : decode cX0_layerCount 34 = .ok (.goto (-30), 3) := by decide +kernel
theorem dX0_layerCount_37 : decode cX0_layerCount 37 = .ok (.iload_n 1, 1) := by decide +kernel
theorem dX0_layerCount_38 : decode cX0_layerCount 38 = .ok (.ireturn, 1) := by decide +kernel
theorem dX0_kindsBehind_0 : decode cX0_kindsBehind 0 = .ok (.iconst 1, 1) := by decide +kernel
theorem dX0_kindsBehind_1 : decode cX0_kindsBehind 1 = .ok (.iload_n 1, 1) := by decide +kernel
theorem dX0_kindsBehind_2 : decode cX0_kindsBehind 2 = .ok (.ishl, 1) := by decide +kernel
theorem dX0_kindsBehind_3 : decode cX0_kindsBehind 3 = .ok (.istore_n 2, 1) := by decide +kernel
theorem dX0_kindsBehind_4 : decode cX0_kindsBehind 4 = .ok (.iconst 0, 1) := by decide +kernel
theorem dX0_kindsBehind_5 : decode cX0_kindsBehind 5 = .ok (.istore_n 3, 1) := by decide +kernel
theorem dX0_kindsBehind_6 : decode cX0_kindsBehind 6 = .ok (.iload_n 3, 1) := by decide +kernel
theorem dX0_kindsBehind_7 : decode cX0_kindsBehind 7 = .ok (.bipush 10, 2) := by decide +kernel
theorem dX0_kindsBehind_9 : decode cX0_kindsBehind 9 = .ok (.if_icmp .ge 60, 3) := by decide +kernel
theorem dX0_kindsBehind_12 : decode cX0_kindsBehind 12 = .ok (.iconst 0, 1) := by decide +kernel
theorem dX0_kindsBehind_13 : decode cX0_kindsBehind 13 = .ok (.istore 4, 2) := by decide +kernel
theorem dX0_kindsBehind_15 : decode cX0_kindsBehind 15 = .ok (.iload 4, 2) := by decide +kernel
theorem dX0_kindsBehind_17 : decode cX0_kindsBehind 17 = .ok (.aload_n 0, 1) := by decide +kernel
theorem dX0_kindsBehind_18 : decode cX0_kindsBehind 18 = .ok (.getfield 42, 3) := by decide +kernel
theorem dX0_kindsBehind_21 : decode cX0_kindsBehind 21 = .ok (.if_icmp .ge 42, 3) := by decide +kernel
theorem dX0_kindsBehind_24 : decode cX0_kindsBehind 24 = .ok (.iload_n 2, 1) := by decide +kernel
theorem dX0_kindsBehind_25 : decode cX0_kindsBehind 25 = .ok (.aload_n 0, 1) := by decide +kernel
theorem dX0_kindsBehind_26 : decode cX0_kindsBehind 26 = .ok (.getfield 34, 3) := by decide +kernel
theorem dX0_kindsBehind_29 : decode cX0_kindsBehind 29 = .ok (.iload 4, 2) := by decide +kernel
theorem dX0_kindsBehind_31 : decode cX0_kindsBehind 31 = .ok (.aaload, 1) := by decide +kernel
theorem dX0_kindsBehind_32 : decode cX0_kindsBehind 32 = .ok (.getfield 72, 3) := by decide +kernel
theorem dX0_kindsBehind_35 : decode cX0_kindsBehind 35 = .ok (.getfield 76, 3) := by decide +kernel
theorem dX0_kindsBehind_38 : decode cX0_kindsBehind 38 = .ok (.ishr, 1) := by decide +kernel
theorem dX0_kindsBehind_39 : decode cX0_kindsBehind 39 = .ok (.iconst 1, 1) := by decide +kernel
theorem dX0_kindsBehind_40 : decode cX0_kindsBehind 40 = .ok (.iand, 1) := by decide +kernel
theorem dX0_kindsBehind_41 : decode cX0_kindsBehind 41 = .ok (.ifCond .eq 16, 3) := by decide +kernel
theorem dX0_kindsBehind_44 : decode cX0_kindsBehind 44 = .ok (.iload_n 2, 1) := by decide +kernel
theorem dX0_kindsBehind_45 : decode cX0_kindsBehind 45 = .ok (.aload_n 0, 1) := by decide +kernel
theorem dX0_kindsBehind_46 : decode cX0_kindsBehind 46 = .ok (.getfield 34, 3) := by decide +kernel
theorem dX0_kindsBehind_49 : decode cX0_kindsBehind 49 = .ok (.iload 4, 2) := by decide +kernel
theorem dX0_kindsBehind_51 : decode cX0_kindsBehind 51 = .ok (.aaload, 1) := by decide +kernel
theorem dX0_kindsBehind_52 : decode cX0_kindsBehind 52 = .ok (.invokestatic 81, 3) := by decide +kernel
theorem dX0_kindsBehind_55 : decode cX0_kindsBehind 55 = .ok (.ior, 1) := by decide +kernel
theorem dX0_kindsBehind_56 : decode cX0_kindsBehind 56 = .ok (.istore_n 2, 1) := by decide +kernel
theorem dX0_kindsBehind_57 : decode cX0_kindsBehind 57 = .ok (.iinc 4 1, 3) := by decide +kernel
theorem dX0_kindsBehind_60 : decode cX0_kindsBehind 60 = .ok (.goto (-45), 3) := by decide +kernel
theorem dX0_kindsBehind_63 : decode cX0_kindsBehind 63 = .ok (.iinc 3 1, 3) := by decide +kernel
theorem dX0_kindsBehind_66 : decode cX0_kindsBehind 66 = .ok (.goto (-60), 3) := by decide +kernel
theorem dX0_kindsBehind_69 : decode cX0_kindsBehind 69 = .ok (.iload_n 2, 1) := by decide +kernel
theorem dX0_kindsBehind_70 : decode cX0_kindsBehind 70 = .ok (.ireturn, 1) := by decide +kernel
theorem dX0_kindsIn_0 : decode cX0_kindsIn 0 = .ok (.iconst 0, 1) := by decide +kernel
theorem dX0_kindsIn_1 : decode cX0_kindsIn 1 = .ok (.istore_n 1, 1) := by decide +kernel
theorem dX0_kindsIn_2 : decode cX0_kindsIn 2 = .ok (.iconst 0, 1) := by decide +kernel
theorem dX0_kindsIn_3 : decode cX0_kindsIn 3 = .ok (.istore_n 2, 1) := by decide +kernel
theorem dX0_kindsIn_4 : decode cX0_kindsIn 4 = .ok (.iload_n 2, 1) := by decide +kernel
theorem dX0_kindsIn_5 : decode cX0_kindsIn 5 = .ok (.aload_n 0, 1) := by decide +kernel
theorem dX0_kindsIn_6 : decode cX0_kindsIn 6 = .ok (.getfield 85, 3) := by decide +kernel
theorem dX0_kindsIn_9 : decode cX0_kindsIn 9 = .ok (.if_icmp .ge 36, 3) := by decide +kernel
theorem dX0_kindsIn_12 : decode cX0_kindsIn 12 = .ok (.aload_n 0, 1) := by decide +kernel
theorem dX0_kindsIn_13 : decode cX0_kindsIn 13 = .ok (.getfield 86, 3) := by decide +kernel
theorem dX0_kindsIn_16 : decode cX0_kindsIn 16 = .ok (.iload_n 2, 1) := by decide +kernel
theorem dX0_kindsIn_17 : decode cX0_kindsIn 17 = .ok (.aaload, 1) := by decide +kernel
theorem dX0_kindsIn_18 : decode cX0_kindsIn 18 = .ok (.getfield 90, 3) := by decide +kernel
theorem dX0_kindsIn_21 : decode cX0_kindsIn 21 = .ok (.iconst 2, 1) := by decide +kernel
theorem dX0_kindsIn_22 : decode cX0_kindsIn 22 = .ok (.if_icmp .eq 17, 3) := by decide +kernel
theorem dX0_kindsIn_25 : decode cX0_kindsIn 25 = .ok (.iload_n 1, 1) := by decide +kernel
theorem dX0_kindsIn_26 : decode cX0_kindsIn 26 = .ok (.iconst 1, 1) := by decide +kernel
theorem dX0_kindsIn_27 : decode cX0_kindsIn 27 = .ok (.aload_n 0, 1) := by decide +kernel
theorem dX0_kindsIn_28 : decode cX0_kindsIn 28 = .ok (.getfield 86, 3) := by decide +kernel
theorem dX0_kindsIn_31 : decode cX0_kindsIn 31 = .ok (.iload_n 2, 1) := by decide +kernel
theorem dX0_kindsIn_32 : decode cX0_kindsIn 32 = .ok (.aaload, 1) := by decide +kernel
theorem dX0_kindsIn_33 : decode cX0_kindsIn 33 = .ok (.getfield 76, 3) := by decide +kernel
theorem dX0_kindsIn_36 : decode cX0_kindsIn 36 = .ok (.ishl, 1) := by decide +kernel
theorem dX0_kindsIn_37 : decode cX0_kindsIn 37 = .ok (.ior, 1) := by decide +kernel
theorem dX0_kindsIn_38 : decode cX0_kindsIn 38 = .ok (.istore_n 1, 1) := by decide +kernel
theorem dX0_kindsIn_39 : decode cX0_kindsIn 39 = .ok (.iinc 2 1, 3) := by decide +kernel
theorem dX0_kindsIn_42 : decode cX0_kindsIn 42 = .ok (.goto (-38), 3) := by decide +kernel
theorem dX0_kindsIn_45 : decode cX0_kindsIn 45 = .ok (.iload_n 1, 1) := by decide +kernel
theorem dX0_kindsIn_46 : decode cX0_kindsIn 46 = .ok (.ireturn, 1) := by decide +kernel
theorem dX1_init_0 : decode cX1_init 0 = .ok (.aload_n 0, 1) := by decide +kernel
theorem dX1_init_1 : decode cX1_init 1 = .ok (.invokespecial 3, 3) := by decide +kernel
theorem dX1_init_4 : decode cX1_init 4 = .ok (.aload_n 0, 1) := by decide +kernel
theorem dX1_init_5 : decode cX1_init 5 = .ok (.bipush 12, 2) := by decide +kernel
theorem dX1_init_7 : decode cX1_init 7 = .ok (.newarray .int, 2) := by decide +kernel
theorem dX1_init_9 : decode cX1_init 9 = .ok (.putfield 9, 3) := by decide +kernel
theorem dX1_init_12 : decode cX1_init 12 = .ok (.aload_n 0, 1) := by decide +kernel
theorem dX1_init_13 : decode cX1_init 13 = .ok (.iconst 3, 1) := by decide +kernel
theorem dX1_init_14 : decode cX1_init 14 = .ok (.newarray .int, 2) := by decide +kernel
theorem dX1_init_16 : decode cX1_init 16 = .ok (.putfield 15, 3) := by decide +kernel
theorem dX1_init_19 : decode cX1_init 19 = .ok (.aload_n 0, 1) := by decide +kernel
theorem dX1_init_20 : decode cX1_init 20 = .ok (.iconst 3, 1) := by decide +kernel
theorem dX1_init_21 : decode cX1_init 21 = .ok (.newarray .int, 2) := by decide +kernel
theorem dX1_init_23 : decode cX1_init 23 = .ok (.putfield 18, 3) := by decide +kernel
theorem dX1_init_26 : decode cX1_init 26 = .ok (.aload_n 0, 1) := by decide +kernel
theorem dX1_init_27 : decode cX1_init 27 = .ok (.aload_n 1, 1) := by decide +kernel
theorem dX1_init_28 : decode cX1_init 28 = .ok (.putfield 21, 3) := by decide +kernel
theorem dX1_init_31 : decode cX1_init 31 = .ok (.aload_n 0, 1) := by decide +kernel
theorem dX1_init_32 : decode cX1_init 32 = .ok (.aload_n 2, 1) := by decide +kernel
theorem dX1_init_33 : decode cX1_init 33 = .ok (.putfield 25, 3) := by decide +kernel
theorem dX1_init_36 : decode cX1_init 36 = .ok (.aload_n 0, 1) := by decide +kernel
theorem dX1_init_37 : decode cX1_init 37 = .ok (.aload_n 3, 1) := by decide +kernel
theorem dX1_init_38 : decode cX1_init 38 = .ok (.putfield 29, 3) := by decide +kernel
theorem dX1_init_41 : decode cX1_init 41 = .ok (.return_, 1) := by decide +kernel
theorem dX1_aimAt_0 : decode cX1_aimAt 0 = .ok (.aload_n 0, 1) := by decide +kernel
theorem dX1_aimAt_1 : decode cX1_aimAt 1 = .ok (.iload_n 1, 1) := by decide +kernel
theorem dX1_aimAt_2 : decode cX1_aimAt 2 = .ok (.putfield 33, 3) := by decide +kernel
theorem dX1_aimAt_5 : decode cX1_aimAt 5 = .ok (.aload_n 0, 1) := by decide +kernel
theorem dX1_aimAt_6 : decode cX1_aimAt 6 = .ok (.aload_n 0, 1) := by decide +kernel
theorem dX1_aimAt_7 : decode cX1_aimAt 7 = .ok (.getfield 21, 3) := by decide +kernel
theorem dX1_aimAt_10 : decode cX1_aimAt 10 = .ok (.iload_n 1, 1) := by decide +kernel
theorem dX1_aimAt_11 : decode cX1_aimAt 11 = .ok (.bipush 100, 2) := by decide +kernel
theorem dX1_aimAt_13 : decode cX1_aimAt 13 = .ok (.idiv, 1) := by decide +kernel
theorem dX1_aimAt_14 : decode cX1_aimAt 14 = .ok (.invokevirtual 37, 3) := by decide +kernel
theorem dX1_aimAt_17 : decode cX1_aimAt 17 = .ok (.putfield 43, 3) := by decide +kernel
theorem dX1_aimAt_20 : decode cX1_aimAt 20 = .ok (.aload_n 0, 1) := by decide +kernel
theorem dX1_aimAt_21 : decode cX1_aimAt 21 = .ok (.iconst 0, 1) := by decide +kernel
theorem dX1_aimAt_22 : decode cX1_aimAt 22 = .ok (.putfield 46, 3) := by decide +kernel
theorem dX1_aimAt_25 : decode cX1_aimAt 25 = .ok (.iconst 0, 1) := by decide +kernel
theorem dX1_aimAt_26 : decode cX1_aimAt 26 = .ok (.istore_n 2, 1) := by decide +kernel
theorem dX1_aimAt_27 : decode cX1_aimAt 27 = .ok (.iload_n 2, 1) := by decide +kernel
theorem dX1_aimAt_28 : decode cX1_aimAt 28 = .ok (.sipush 1000, 3) := by decide +kernel
theorem dX1_aimAt_31 : decode cX1_aimAt 31 = .ok (.if_icmp .ge 63, 3) := by decide +kernel
theorem dX1_aimAt_34 : decode cX1_aimAt 34 = .ok (.aload_n 0, 1) := by decide +kernel
theorem dX1_aimAt_35 : decode cX1_aimAt 35 = .ok (.getfield 46, 3) := by decide +kernel
theorem dX1_aimAt_38 : decode cX1_aimAt 38 = .ok (.bipush 12, 2) := by decide +kernel
theorem dX1_aimAt_40 : decode cX1_aimAt 40 = .ok (.if_icmp .ge 54, 3) := by decide +kernel
theorem dX1_aimAt_43 : decode cX1_aimAt 43 = .ok (.aload_n 0, 1) := by decide +kernel
theorem dX1_aimAt_44 : decode cX1_aimAt 44 = .ok (.getfield 21, 3) := by decide +kernel
theorem dX1_aimAt_47 : decode cX1_aimAt 47 = .ok (.iload_n 2, 1) := by decide +kernel
theorem dX1_aimAt_48 : decode cX1_aimAt 48 = .ok (.invokevirtual 49, 3) := by decide +kernel
theorem dX1_aimAt_51 : decode cX1_aimAt 51 = .ok (.ifCond .eq 37, 3) := by decide +kernel
theorem dX1_aimAt_54 : decode cX1_aimAt 54 = .ok (.aload_n 0, 1) := by decide +kernel
theorem dX1_aimAt_55 : decode cX1_aimAt 55 = .ok (.getfield 43, 3) := by decide +kernel
theorem dX1_aimAt_58 : decode cX1_aimAt 58 = .ok (.iload_n 2, 1) := by decide +kernel
theorem dX1_aimAt_59 : decode cX1_aimAt 59 = .ok (.bipush 100, 2) := by decide +kernel
theorem dX1_aimAt_61 : decode cX1_aimAt 61 = .ok (.idiv, 1) := by decide +kernel
theorem dX1_aimAt_62 : decode cX1_aimAt 62 = .ok (.ishr, 1) := by decide +kernel
theorem dX1_aimAt_63 : decode cX1_aimAt 63 = .ok (.iconst 1, 1) := by decide +kernel
theorem dX1_aimAt_64 : decode cX1_aimAt 64 = .ok (.iand, 1) := by decide +kernel
theorem dX1_aimAt_65 : decode cX1_aimAt 65 = .ok (.ifCond .eq 23, 3) := by decide +kernel
theorem dX1_aimAt_68 : decode cX1_aimAt 68 = .ok (.aload_n 0, 1) := by decide +kernel
theorem dX1_aimAt_69 : decode cX1_aimAt 69 = .ok (.getfield 9, 3) := by decide +kernel
theorem dX1_aimAt_72 : decode cX1_aimAt 72 = .ok (.aload_n 0, 1) := by decide +kernel
theorem dX1_aimAt_73 : decode cX1_aimAt 73 = .ok (.getfield 46, 3) := by decide +kernel
theorem dX1_aimAt_76 : decode cX1_aimAt 76 = .ok (.iload_n 2, 1) := by decide +kernel
theorem dX1_aimAt_77 : decode cX1_aimAt 77 = .ok (.iastore, 1) := by decide +kernel
theorem dX1_aimAt_78 : decode cX1_aimAt 78 = .ok (.aload_n 0, 1) := by decide +kernel
theorem dX1_aimAt_79 : decode cX1_aimAt 79 = .ok (.dup, 1) := by decide +kernel
theorem dX1_aimAt_80 : decode cX1_aimAt 80 = .ok (.getfield 46, 3) := by decide +kernel
theorem dX1_aimAt_83 : decode cX1_aimAt 83 = .ok (.iconst 1, 1) := by decide +kernel
theorem dX1_aimAt_84 : decode cX1_aimAt 84 = .ok (.iadd, 1) := by decide +kernel
theorem dX1_aimAt_85 : decode cX1_aimAt 85 = .ok (.putfield 46, 3) := by decide +kernel
theorem dX1_aimAt_88 : decode cX1_aimAt 88 = .ok (.iinc 2 1, 3) := by decide +kernel
theorem dX1_aimAt_91 : decode cX1_aimAt 91 = .ok (.goto (-64), 3) := by decide +kernel
theorem dX1_aimAt_94 : decode cX1_aimAt 94 = .ok (.return_, 1) := by decide +kernel
theorem dX1_seek_0 : decode cX1_seek 0 = .ok (.iload_n 1, 1) := by decide +kernel
theorem dX1_seek_1 : decode cX1_seek 1 = .ok (.aload_n 0, 1) := by decide +kernel
theorem dX1_seek_2 : decode cX1_seek 2 = .ok (.getfield 46, 3) := by decide +kernel
theorem dX1_seek_5 : decode cX1_seek 5 = .ok (.if_icmp .gt 8, 3) := by decide +kernel
theorem dX1_seek_8 : decode cX1_seek 8 = .ok (.iload_n 1, 1) := by decide +kernel
theorem dX1_seek_9 : decode cX1_seek 9 = .ok (.iconst 3, 1) := by decide +kernel
theorem dX1_seek_10 : decode cX1_seek 10 = .ok (.if_icmp .le 5, 3) := by decide +kernel
theorem dX1_seek_13 : decode cX1_seek 13 = .ok (.iconst 0, 1) := by decide +kernel
theorem dX1_seek_14 : decode cX1_seek 14 = .ok (.ireturn, 1) := by decide +kernel
theorem dX1_seek_15 : decode cX1_seek 15 = .ok (.iconst 0, 1) := by decide +kernel
theorem dX1_seek_16 : decode cX1_seek 16 = .ok (.istore_n 2, 1) := by decide +kernel
theorem dX1_seek_17 : decode cX1_seek 17 = .ok (.iload_n 2, 1) := by decide +kernel
theorem dX1_seek_18 : decode cX1_seek 18 = .ok (.iload_n 1, 1) := by decide +kernel
theorem dX1_seek_19 : decode cX1_seek 19 = .ok (.if_icmp .ge 16, 3) := by decide +kernel
theorem dX1_seek_22 : decode cX1_seek 22 = .ok (.aload_n 0, 1) := by decide +kernel
theorem dX1_seek_23 : decode cX1_seek 23 = .ok (.getfield 15, 3) := by decide +kernel
theorem dX1_seek_26 : decode cX1_seek 26 = .ok (.iload_n 2, 1) := by decide +kernel
theorem dX1_seek_27 : decode cX1_seek 27 = .ok (.iload_n 2, 1) := by decide +kernel
theorem dX1_seek_28 : decode cX1_seek 28 = .ok (.iastore, 1) := by decide +kernel
theorem dX1_seek_29 : decode cX1_seek 29 = .ok (.iinc 2 1, 3) := by decide +kernel
theorem dX1_seek_32 : decode cX1_seek 32 = .ok (.goto (-15), 3) := by decide +kernel
theorem dX1_seek_35 : decode cX1_seek 35 = .ok (.iconst 1, 1) := by decide +kernel
theorem dX1_seek_36 : decode cX1_seek 36 = .ok (.istore_n 2, 1) := by decide +kernel
theorem dX1_seek_37 : decode cX1_seek 37 = .ok (.iconst 0, 1) := by decide +kernel
theorem dX1_seek_38 : decode cX1_seek 38 = .ok (.istore_n 3, 1) := by decide +kernel
theorem dX1_seek_39 : decode cX1_seek 39 = .ok (.iload_n 3, 1) := by decide +kernel
theorem dX1_seek_40 : decode cX1_seek 40 = .ok (.sipush 220, 3) := by decide +kernel
theorem dX1_seek_43 : decode cX1_seek 43 = .ok (.if_icmp .ge 108, 3) := by decide +kernel
theorem dX1_seek_46 : decode cX1_seek 46 = .ok (.iload_n 2, 1) := by decide +kernel
theorem dX1_seek_47 : decode cX1_seek 47 = .ok (.ifCond .eq 104, 3) := by decide +kernel
theorem dX1_seek_50 : decode cX1_seek 50 = .ok (.aload_n 0, 1) := by decide +kernel
theorem dX1_seek_51 : decode cX1_seek 51 = .ok (.getfield 29, 3) := by decide +kernel
theorem dX1_seek_54 : decode cX1_seek 54 = .ok (.aload_n 0, 1) := by decide +kernel
theorem dX1_seek_55 : decode cX1_seek 55 = .ok (.getfield 21, 3) := by decide +kernel
theorem dX1_seek_58 : decode cX1_seek 58 = .ok (.getfield 53, 3) := by decide +kernel
theorem dX1_seek_61 : decode cX1_seek 61 = .ok (.invokevirtual 56, 3) := by decide +kernel
theorem dX1_seek_64 : decode cX1_seek 64 = .ok (.iconst 0, 1) := by decide +kernel
theorem dX1_seek_65 : decode cX1_seek 65 = .ok (.istore 4, 2) := by decide +kernel
theorem dX1_seek_67 : decode cX1_seek 67 = .ok (.iload 4, 2) := by decide +kernel
theorem dX1_seek_69 : decode cX1_seek 69 = .ok (.iload_n 1, 1) := by decide +kernel
theorem dX1_seek_70 : decode cX1_seek 70 = .ok (.if_icmp .ge 28, 3) := by decide +kernel
theorem dX1_seek_73 : decode cX1_seek 73 = .ok (.aload_n 0, 1) := by decide +kernel
theorem dX1_seek_74 : decode cX1_seek 74 = .ok (.getfield 29, 3) := by decide +kernel
theorem dX1_seek_77 : decode cX1_seek 77 = .ok (.aload_n 0, 1) := by decide +kernel
theorem dX1_seek_78 : decode cX1_seek 78 = .ok (.getfield 9, 3) := by decide +kernel
theorem dX1_seek_81 : decode cX1_seek 81 = .ok (.aload_n 0, 1) := by decide +kernel
theorem dX1_seek_82 : decode cX1_seek 82 = .ok (.getfield 15, 3) := by decide +kernel
theorem dX1_seek_85 : decode cX1_seek 85 = .ok (.iload 4, 2) := by decide +kernel
theorem dX1_seek_87 : decode cX1_seek 87 = .ok (.iaload, 1) := by decide +kernel
theorem dX1_seek_88 : decode cX1_seek 88 = .ok (.iaload, 1) := by decide +kernel
theorem dX1_seek_89 : decode cX1_seek 89 = .ok (.invokevirtual 62, 3) := by decide +kernel
theorem dX1_seek_92 : decode cX1_seek 92 = .ok (.iinc 4 1, 3) := by decide +kernel
theorem dX1_seek_95 : decode cX1_seek 95 = .ok (.goto (-28), 3) := by decide +kernel
theorem dX1_seek_98 : decode cX1_seek 98 = .ok (.aload_n 0, 1) := by decide +kernel
theorem dX1_seek_99 : decode cX1_seek 99 = .ok (.getfield 25, 3) := by decide +kernel
theorem dX1_seek_102 : decode cX1_seek 102 = .ok (.aload_n 0, 1) := by decide +kernel
theorem dX1_seek_103 : decode cX1_seek 103 = .ok (.getfield 29, 3) := by decide +kernel
theorem dX1_seek_106 : decode cX1_seek 106 = .ok (.iconst (-1), 1) := by decide +kernel
theorem dX1_seek_107 : decode cX1_seek 107 = .ok (.aload_n 0, 1) := by decide +kernel
theorem dX1_seek_108 : decode cX1_seek 108 = .ok (.getfield 43, 3) := by decide +kernel
theorem dX1_seek_111 : decode cX1_seek 111 = .ok (.aload_n 0, 1) := by decide +kernel
theorem dX1_seek_112 : decode cX1_seek 112 = .ok (.getfield 33, 3) := by decide +kernel
theorem dX1_seek_115 : decode cX1_seek 115 = .ok (.invokevirtual 66, 3) := by decide +kernel
theorem dX1_seek_118 : decode cX1_seek 118 = .ok (.aload_n 0, 1) := by decide +kernel
theorem dX1_seek_119 : decode cX1_seek 119 = .ok (.getfield 29, 3) := by decide +kernel
theorem dX1_seek_122 : decode cX1_seek 122 = .ok (.aload_n 0, 1) := by decide +kernel
theorem dX1_seek_123 : decode cX1_seek 123 = .ok (.getfield 33, 3) := by decide +kernel
theorem dX1_seek_126 : decode cX1_seek 126 = .ok (.invokevirtual 72, 3) := by decide +kernel
theorem dX1_seek_129 : decode cX1_seek 129 = .ok (.ifCond .ne 10, 3) := by decide +kernel
theorem dX1_seek_132 : decode cX1_seek 132 = .ok (.aload_n 0, 1) := by decide +kernel
theorem dX1_seek_133 : decode cX1_seek 133 = .ok (.iload_n 1, 1) := by decide +kernel
theorem dX1_seek_134 : decode cX1_seek 134 = .ok (.invokevirtual 75, 3) := by decide +kernel
theorem dX1_seek_137 : decode cX1_seek 137 = .ok (.iconst 1, 1) := by decide +kernel
theorem dX1_seek_138 : decode cX1_seek 138 = .ok (.ireturn, 1) := by decide +kernel
theorem dX1_seek_139 : decode cX1_seek 139 = .ok (.aload_n 0, 1) := by decide +kernel
theorem dX1_seek_140 : decode cX1_seek 140 = .ok (.iload_n 1, 1) := by decide +kernel
theorem dX1_seek_141 : decode cX1_seek 141 = .ok (.invokevirtual 78, 3) := by decide +kernel
theorem dX1_seek_144 : decode cX1_seek 144 = .ok (.istore_n 2, 1) := by decide +kernel
theorem dX1_seek_145 : decode cX1_seek 145 = .ok (.iinc 3 1, 3) := by decide +kernel
theorem dX1_seek_148 : decode cX1_seek 148 = .ok (.goto (-109), 3) := by decide +kernel
theorem dX1_seek_151 : decode cX1_seek 151 = .ok (.iconst 0, 1) := by decide +kernel
theorem dX1_seek_152 : decode cX1_seek 152 = .ok (.ireturn, 1) := by decide +kernel
theorem dX1_keepPicks_0 : decode cX1_keepPicks 0 = .ok (.iconst 0, 1) := by decide +kernel
theorem dX1_keepPicks_1 : decode cX1_keepPicks 1 = .ok (.istore_n 2, 1) := by decide +kernel
theorem dX1_keepPicks_2 : decode cX1_keepPicks 2 = .ok (.iload_n 2, 1) := by decide +kernel
theorem dX1_keepPicks_3 : decode cX1_keepPicks 3 = .ok (.iload_n 1, 1) := by decide +kernel
theorem dX1_keepPicks_4 : decode cX1_keepPicks 4 = .ok (.if_icmp .ge 26, 3) := by decide +kernel
theorem dX1_keepPicks_7 : decode cX1_keepPicks 7 = .ok (.aload_n 0, 1) := by decide +kernel
theorem dX1_keepPicks_8 : decode cX1_keepPicks 8 = .ok (.getfield 18, 3) := by decide +kernel
theorem dX1_keepPicks_11 : decode cX1_keepPicks 11 = .ok (.iload_n 2, 1) := by decide +kernel
theorem dX1_keepPicks_12 : decode cX1_keepPicks 12 = .ok (.aload_n 0, 1) := by decide +kernel
theorem dX1_keepPicks_13 : decode cX1_keepPicks 13 = .ok (.getfield 9, 3) := by decide +kernel
theorem dX1_keepPicks_16 : decode cX1_keepPicks 16 = .ok (.aload_n 0, 1) := by decide +kernel
theorem dX1_keepPicks_17 : decode cX1_keepPicks 17 = .ok (.getfield 15, 3) := by decide +kernel
theorem dX1_keepPicks_20 : decode cX1_keepPicks 20 = .ok (.iload_n 2, 1) := by decide +kernel
theorem dX1_keepPicks_21 : decode cX1_keepPicks 21 = .ok (.iaload, 1) := by decide +kernel
theorem dX1_keepPicks_22 : decode cX1_keepPicks 22 = .ok (.iaload, 1) := by decide +kernel
theorem dX1_keepPicks_23 : decode cX1_keepPicks 23 = .ok (.iastore, 1) := by decide +kernel
theorem dX1_keepPicks_24 : decode cX1_keepPicks 24 = .ok (.iinc 2 1, 3) := by decide +kernel
theorem dX1_keepPicks_27 : decode cX1_keepPicks 27 = .ok (.goto (-25), 3) := by decide +kernel
theorem dX1_keepPicks_30 : decode cX1_keepPicks 30 = .ok (.aload_n 0, 1) := by decide +kernel
theorem dX1_keepPicks_31 : decode cX1_keepPicks 31 = .ok (.iload_n 1, 1) := by decide +kernel
theorem dX1_keepPicks_32 : decode cX1_keepPicks 32 = .ok (.putfield 81, 3) := by decide +kernel
theorem dX1_keepPicks_35 : decode cX1_keepPicks 35 = .ok (.return_, 1) := by decide +kernel
theorem dX1_nextPicks_0 : decode cX1_nextPicks 0 = .ok (.iload_n 1, 1) := by decide +kernel
theorem dX1_nextPicks_1 : decode cX1_nextPicks 1 = .ok (.iconst 1, 1) := by decide +kernel
theorem dX1_nextPicks_2 : decode cX1_nextPicks 2 = .ok (.isub, 1) := by decide +kernel
theorem dX1_nextPicks_3 : decode cX1_nextPicks 3 = .ok (.istore_n 2, 1) := by decide +kernel
theorem dX1_nextPicks_4 : decode cX1_nextPicks 4 = .ok (.iload_n 2, 1) := by decide +kernel
theorem dX1_nextPicks_5 : decode cX1_nextPicks 5 = .ok (.ifCond .lt 69, 3) := by decide +kernel
theorem dX1_nextPicks_8 : decode cX1_nextPicks 8 = .ok (.aload_n 0, 1) := by decide +kernel
theorem dX1_nextPicks_9 : decode cX1_nextPicks 9 = .ok (.getfield 15, 3) := by decide +kernel
theorem dX1_nextPicks_12 : decode cX1_nextPicks 12 = .ok (.iload_n 2, 1) := by decide +kernel
theorem dX1_nextPicks_13 : decode cX1_nextPicks 13 = .ok (.iaload, 1) := by decide +kernel
theorem dX1_nextPicks_14 : decode cX1_nextPicks 14 = .ok (.aload_n 0, 1) := by decide +kernel
theorem dX1_nextPicks_15 : decode cX1_nextPicks 15 = .ok (.getfield 46, 3) := by decide +kernel
theorem dX1_nextPicks_18 : decode cX1_nextPicks 18 = .ok (.iload_n 1, 1) := by decide +kernel
theorem dX1_nextPicks_19 : decode cX1_nextPicks 19 = .ok (.isub, 1) := by decide +kernel
theorem dX1_nextPicks_20 : decode cX1_nextPicks 20 = .ok (.iload_n 2, 1) := by decide +kernel
theorem dX1_nextPicks_21 : decode cX1_nextPicks 21 = .ok (.iadd, 1) := by decide +kernel
theorem dX1_nextPicks_22 : decode cX1_nextPicks 22 = .ok (.if_icmp .ge 46, 3) := by decide +kernel
theorem dX1_nextPicks_25 : decode cX1_nextPicks 25 = .ok (.aload_n 0, 1) := by decide +kernel
theorem dX1_nextPicks_26 : decode cX1_nextPicks 26 = .ok (.getfield 15, 3) := by decide +kernel
theorem dX1_nextPicks_29 : decode cX1_nextPicks 29 = .ok (.iload_n 2, 1) := by decide +kernel
theorem dX1_nextPicks_30 : decode cX1_nextPicks 30 = .ok (.dup2, 1) := by decide +kernel
theorem dX1_nextPicks_31 : decode cX1_nextPicks 31 = .ok (.iaload, 1) := by decide +kernel
theorem dX1_nextPicks_32 : decode cX1_nextPicks 32 = .ok (.iconst 1, 1) := by decide +kernel
theorem dX1_nextPicks_33 : decode cX1_nextPicks 33 = .ok (.iadd, 1) := by decide +kernel
theorem dX1_nextPicks_34 : decode cX1_nextPicks 34 = .ok (.iastore, 1) := by decide +kernel
theorem dX1_nextPicks_35 : decode cX1_nextPicks 35 = .ok (.iload_n 2, 1) := by decide +kernel
theorem dX1_nextPicks_36 : decode cX1_nextPicks 36 = .ok (.iconst 1, 1) := by decide +kernel
theorem dX1_nextPicks_37 : decode cX1_nextPicks 37 = .ok (.iadd, 1) := by decide +kernel
theorem dX1_nextPicks_38 : decode cX1_nextPicks 38 = .ok (.istore_n 3, 1) := by decide +kernel
theorem dX1_nextPicks_39 : decode cX1_nextPicks 39 = .ok (.iload_n 3, 1) := by decide +kernel
theorem dX1_nextPicks_40 : decode cX1_nextPicks 40 = .ok (.iload_n 1, 1) := by decide +kernel
theorem dX1_nextPicks_41 : decode cX1_nextPicks 41 = .ok (.if_icmp .ge 25, 3) := by decide +kernel
theorem dX1_nextPicks_44 : decode cX1_nextPicks 44 = .ok (.aload_n 0, 1) := by decide +kernel
theorem dX1_nextPicks_45 : decode cX1_nextPicks 45 = .ok (.getfield 15, 3) := by decide +kernel
theorem dX1_nextPicks_48 : decode cX1_nextPicks 48 = .ok (.iload_n 3, 1) := by decide +kernel
theorem dX1_nextPicks_49 : decode cX1_nextPicks 49 = .ok (.aload_n 0, 1) := by decide +kernel
theorem dX1_nextPicks_50 : decode cX1_nextPicks 50 = .ok (.getfield 15, 3) := by decide +kernel
theorem dX1_nextPicks_53 : decode cX1_nextPicks 53 = .ok (.iload_n 3, 1) := by decide +kernel
theorem dX1_nextPicks_54 : decode cX1_nextPicks 54 = .ok (.iconst 1, 1) := by decide +kernel
theorem dX1_nextPicks_55 : decode cX1_nextPicks 55 = .ok (.isub, 1) := by decide +kernel
theorem dX1_nextPicks_56 : decode cX1_nextPicks 56 = .ok (.iaload, 1) := by decide +kernel
theorem dX1_nextPicks_57 : decode cX1_nextPicks 57 = .ok (.iconst 1, 1) := by decide +kernel
theorem dX1_nextPicks_58 : decode cX1_nextPicks 58 = .ok (.iadd, 1) := by decide +kernel
theorem dX1_nextPicks_59 : decode cX1_nextPicks 59 = .ok (.iastore, 1) := by decide +kernel
theorem dX1_nextPicks_60 : decode cX1_nextPicks 60 = .ok (.iinc 3 1, 3) := by decide +kernel
theorem dX1_nextPicks_63 : decode cX1_nextPicks 63 = .ok (.goto (-24), 3) := by decide +kernel
theorem dX1_nextPicks_66 : decode cX1_nextPicks 66 = .ok (.iconst 1, 1) := by decide +kernel
theorem dX1_nextPicks_67 : decode cX1_nextPicks 67 = .ok (.ireturn, 1) := by decide +kernel
theorem dX1_nextPicks_68 : decode cX1_nextPicks 68 = .ok (.iinc 2 (-1), 3) := by decide +kernel
theorem dX1_nextPicks_71 : decode cX1_nextPicks 71 = .ok (.goto (-67), 3) := by decide +kernel
theorem dX1_nextPicks_74 : decode cX1_nextPicks 74 = .ok (.iconst 0, 1) := by decide +kernel
theorem dX1_nextPicks_75 : decode cX1_nextPicks 75 = .ok (.ireturn, 1) := by decide +kernel
theorem dX2_init_0 : decode cX2_init 0 = .ok (.aload_n 0, 1) := by decide +kernel
theorem dX2_init_1 : decode cX2_init 1 = .ok (.invokespecial 3, 3) := by decide +kernel
theorem dX2_init_4 : decode cX2_init 4 = .ok (.aload_n 0, 1) := by decide +kernel
theorem dX2_init_5 : decode cX2_init 5 = .ok (.iconst 3, 1) := by decide +kernel
theorem dX2_init_6 : decode cX2_init 6 = .ok (.newarray .int, 2) := by decide +kernel
theorem dX2_init_8 : decode cX2_init 8 = .ok (.putfield 9, 3) := by decide +kernel
theorem dX2_init_11 : decode cX2_init 11 = .ok (.aload_n 0, 1) := by decide +kernel
theorem dX2_init_12 : decode cX2_init 12 = .ok (.iconst 3, 1) := by decide +kernel
theorem dX2_init_13 : decode cX2_init 13 = .ok (.newarray .int, 2) := by decide +kernel
theorem dX2_init_15 : decode cX2_init 15 = .ok (.putfield 15, 3) := by decide +kernel
theorem dX2_init_18 : decode cX2_init 18 = .ok (.aload_n 0, 1) := by decide +kernel
theorem dX2_init_19 : decode cX2_init 19 = .ok (.aload_n 1, 1) := by decide +kernel
theorem dX2_init_20 : decode cX2_init 20 = .ok (.putfield 18, 3) := by decide +kernel
theorem dX2_init_23 : decode cX2_init 23 = .ok (.return_, 1) := by decide +kernel
theorem dX2_reach_0 : decode cX2_reach 0 = .ok (.aload_n 0, 1) := by decide +kernel
theorem dX2_reach_1 : decode cX2_reach 1 = .ok (.aload_n 1, 1) := by decide +kernel
theorem dX2_reach_2 : decode cX2_reach 2 = .ok (.aload_n 2, 1) := by decide +kernel
theorem dX2_reach_3 : decode cX2_reach 3 = .ok (.iconst 1, 1) := by decide +kernel
theorem dX2_reach_4 : decode cX2_reach 4 = .ok (.invokevirtual 22, 3) := by decide +kernel
theorem dX2_reach_7 : decode cX2_reach 7 = .ok (.aload_n 0, 1) := by decide +kernel
theorem dX2_reach_8 : decode cX2_reach 8 = .ok (.iconst 0, 1) := by decide +kernel
theorem dX2_reach_9 : decode cX2_reach 9 = .ok (.iconst 0, 1) := by decide +kernel
theorem dX2_reach_10 : decode cX2_reach 10 = .ok (.invokevirtual 26, 3) := by decide +kernel
theorem dX2_reach_13 : decode cX2_reach 13 = .ok (.aload_n 0, 1) := by decide +kernel
theorem dX2_reach_14 : decode cX2_reach 14 = .ok (.getfield 30, 3) := by decide +kernel
theorem dX2_reach_17 : decode cX2_reach 17 = .ok (.ireturn, 1) := by decide +kernel
theorem dX2_reachFor_0 : decode cX2_reachFor 0 = .ok (.aload_n 0, 1) := by decide +kernel
theorem dX2_reachFor_1 : decode cX2_reachFor 1 = .ok (.aload_n 1, 1) := by decide +kernel
theorem dX2_reachFor_2 : decode cX2_reachFor 2 = .ok (.aload_n 2, 1) := by decide +kernel
theorem dX2_reachFor_3 : decode cX2_reachFor 3 = .ok (.iconst 1, 1) := by decide +kernel
theorem dX2_reachFor_4 : decode cX2_reachFor 4 = .ok (.invokevirtual 22, 3) := by decide +kernel
theorem dX2_reachFor_7 : decode cX2_reachFor 7 = .ok (.aload_n 0, 1) := by decide +kernel
theorem dX2_reachFor_8 : decode cX2_reachFor 8 = .ok (.iload_n 3, 1) := by decide +kernel
theorem dX2_reachFor_9 : decode cX2_reachFor 9 = .ok (.invokevirtual 34, 3) := by decide +kernel
theorem dX2_reachFor_12 : decode cX2_reachFor 12 = .ok (.ifCond .ne 6, 3) := by decide +kernel
theorem dX2_reachFor_15 : decode cX2_reachFor 15 = .ok (.bipush (-2), 2) := by decide +kernel
theorem dX2_reachFor_17 : decode cX2_reachFor 17 = .ok (.ireturn, 1) := by decide +kernel
theorem dX2_reachFor_18 : decode cX2_reachFor 18 = .ok (.aload_n 0, 1) := by decide +kernel
theorem dX2_reachFor_19 : decode cX2_reachFor 19 = .ok (.iconst 0, 1) := by decide +kernel
theorem dX2_reachFor_20 : decode cX2_reachFor 20 = .ok (.iconst 0, 1) := by decide +kernel
theorem dX2_reachFor_21 : decode cX2_reachFor 21 = .ok (.invokevirtual 26, 3) := by decide +kernel
theorem dX2_reachFor_24 : decode cX2_reachFor 24 = .ok (.aload_n 0, 1) := by decide +kernel
theorem dX2_reachFor_25 : decode cX2_reachFor 25 = .ok (.getfield 30, 3) := by decide +kernel
theorem dX2_reachFor_28 : decode cX2_reachFor 28 = .ok (.ireturn, 1) := by decide +kernel
theorem dX2_seekLeast_0 : decode cX2_seekLeast 0 = .ok (.aload_n 2, 1) := by decide +kernel
theorem dX2_seekLeast_1 : decode cX2_seekLeast 1 = .ok (.getfield 38, 3) := by decide +kernel
theorem dX2_seekLeast_4 : decode cX2_seekLeast 4 = .ok (.getfield 44, 3) := by decide +kernel
theorem dX2_seekLeast_7 : decode cX2_seekLeast 7 = .ok (.iload_n 3, 1) := by decide +kernel
theorem dX2_seekLeast_8 : decode cX2_seekLeast 8 = .ok (.bipush 100, 2) := by decide +kernel
theorem dX2_seekLeast_10 : decode cX2_seekLeast 10 = .ok (.idiv, 1) := by decide +kernel
theorem dX2_seekLeast_11 : decode cX2_seekLeast 11 = .ok (.if_icmp .eq 5, 3) := by decide +kernel
theorem dX2_seekLeast_14 : decode cX2_seekLeast 14 = .ok (.iconst 0, 1) := by decide +kernel
theorem dX2_seekLeast_15 : decode cX2_seekLeast 15 = .ok (.ireturn, 1) := by decide +kernel
theorem dX2_seekLeast_16 : decode cX2_seekLeast 16 = .ok (.aload_n 0, 1) := by decide +kernel
theorem dX2_seekLeast_17 : decode cX2_seekLeast 17 = .ok (.aload_n 1, 1) := by decide +kernel
theorem dX2_seekLeast_18 : decode cX2_seekLeast 18 = .ok (.aload_n 2, 1) := by decide +kernel
theorem dX2_seekLeast_19 : decode cX2_seekLeast 19 = .ok (.iconst 2, 1) := by decide +kernel
theorem dX2_seekLeast_20 : decode cX2_seekLeast 20 = .ok (.invokevirtual 22, 3) := by decide +kernel
theorem dX2_seekLeast_23 : decode cX2_seekLeast 23 = .ok (.aload_n 0, 1) := by decide +kernel
theorem dX2_seekLeast_24 : decode cX2_seekLeast 24 = .ok (.aload_n 1, 1) := by decide +kernel
theorem dX2_seekLeast_25 : decode cX2_seekLeast 25 = .ok (.getfield 49, 3) := by decide +kernel
theorem dX2_seekLeast_28 : decode cX2_seekLeast 28 = .ok (.iload_n 3, 1) := by decide +kernel
theorem dX2_seekLeast_29 : decode cX2_seekLeast 29 = .ok (.iaload, 1) := by decide +kernel
theorem dX2_seekLeast_30 : decode cX2_seekLeast 30 = .ok (.iconst 1, 1) := by decide +kernel
theorem dX2_seekLeast_31 : decode cX2_seekLeast 31 = .ok (.isub, 1) := by decide +kernel
theorem dX2_seekLeast_32 : decode cX2_seekLeast 32 = .ok (.putfield 54, 3) := by decide +kernel
theorem dX2_seekLeast_35 : decode cX2_seekLeast 35 = .ok (.aload_n 0, 1) := by decide +kernel
theorem dX2_seekLeast_36 : decode cX2_seekLeast 36 = .ok (.iload_n 3, 1) := by decide +kernel
theorem dX2_seekLeast_37 : decode cX2_seekLeast 37 = .ok (.invokevirtual 34, 3) := by decide +kernel
theorem dX2_seekLeast_40 : decode cX2_seekLeast 40 = .ok (.ifCond .eq 9, 3) := by decide +kernel
theorem dX2_seekLeast_43 : decode cX2_seekLeast 43 = .ok (.aload_n 0, 1) := by decide +kernel
theorem dX2_seekLeast_44 : decode cX2_seekLeast 44 = .ok (.iconst 0, 1) := by decide +kernel
theorem dX2_seekLeast_45 : decode cX2_seekLeast 45 = .ok (.iconst 0, 1) := by decide +kernel
theorem dX2_seekLeast_46 : decode cX2_seekLeast 46 = .ok (.invokevirtual 26, 3) := by decide +kernel
theorem dX2_seekLeast_49 : decode cX2_seekLeast 49 = .ok (.aload_n 0, 1) := by decide +kernel
theorem dX2_seekLeast_50 : decode cX2_seekLeast 50 = .ok (.getfield 57, 3) := by decide +kernel
theorem dX2_seekLeast_53 : decode cX2_seekLeast 53 = .ok (.ireturn, 1) := by decide +kernel
theorem dX2_leastNumberOf_0 : decode cX2_leastNumberOf 0 = .ok (.aload_n 1, 1) := by decide +kernel
theorem dX2_leastNumberOf_1 : decode cX2_leastNumberOf 1 = .ok (.aload_n 0, 1) := by decide +kernel
theorem dX2_leastNumberOf_2 : decode cX2_leastNumberOf 2 = .ok (.getfield 15, 3) := by decide +kernel
theorem dX2_leastNumberOf_5 : decode cX2_leastNumberOf 5 = .ok (.invokestatic 61, 3) := by decide +kernel
theorem dX2_leastNumberOf_8 : decode cX2_leastNumberOf 8 = .ok (.ireturn, 1) := by decide +kernel
theorem dX2_begin_0 : decode cX2_begin 0 = .ok (.aload_n 0, 1) := by decide +kernel
theorem dX2_begin_1 : decode cX2_begin 1 = .ok (.aload_n 1, 1) := by decide +kernel
theorem dX2_begin_2 : decode cX2_begin 2 = .ok (.putfield 65, 3) := by decide +kernel
theorem dX2_begin_5 : decode cX2_begin 5 = .ok (.aload_n 0, 1) := by decide +kernel
theorem dX2_begin_6 : decode cX2_begin 6 = .ok (.aload_n 2, 1) := by decide +kernel
theorem dX2_begin_7 : decode cX2_begin 7 = .ok (.putfield 69, 3) := by decide +kernel
theorem dX2_begin_10 : decode cX2_begin 10 = .ok (.aload_n 0, 1) := by decide +kernel
theorem dX2_begin_11 : decode cX2_begin 11 = .ok (.iload_n 3, 1) := by decide +kernel
theorem dX2_begin_12 : decode cX2_begin 12 = .ok (.putfield 73, 3) := by decide +kernel
theorem dX2_begin_15 : decode cX2_begin 15 = .ok (.aload_n 0, 1) := by decide +kernel
theorem dX2_begin_16 : decode cX2_begin 16 = .ok (.iconst 0, 1) := by decide +kernel
theorem dX2_begin_17 : decode cX2_begin 17 = .ok (.putfield 30, 3) := by decide +kernel
theorem dX2_begin_20 : decode cX2_begin 20 = .ok (.aload_n 0, 1) := by decide +kernel
theorem dX2_begin_21 : decode cX2_begin 21 = .ok (.iconst 0, 1) := by decide +kernel
theorem dX2_begin_22 : decode cX2_begin 22 = .ok (.putfield 57, 3) := by decide +kernel
theorem dX2_begin_25 : decode cX2_begin 25 = .ok (.aload_n 0, 1) := by decide +kernel
theorem dX2_begin_26 : decode cX2_begin 26 = .ok (.getfield 9, 3) := by decide +kernel
theorem dX2_begin_29 : decode cX2_begin 29 = .ok (.iconst (-1), 1) := by decide +kernel
theorem dX2_begin_30 : decode cX2_begin 30 = .ok (.invokestatic 76, 3) := by decide +kernel
theorem dX2_begin_33 : decode cX2_begin 33 = .ok (.return_, 1) := by decide +kernel
theorem dX2_bindHead_0 : decode cX2_bindHead 0 = .ok (.aload_n 0, 1) := by decide +kernel
theorem dX2_bindHead_1 : decode cX2_bindHead 1 = .ok (.aload_n 0, 1) := by decide +kernel
theorem dX2_bindHead_2 : decode cX2_bindHead 2 = .ok (.getfield 69, 3) := by decide +kernel
theorem dX2_bindHead_5 : decode cX2_bindHead 5 = .ok (.getfield 38, 3) := by decide +kernel
theorem dX2_bindHead_8 : decode cX2_bindHead 8 = .ok (.getfield 82, 3) := by decide +kernel
theorem dX2_bindHead_11 : decode cX2_bindHead 11 = .ok (.iload_n 1, 1) := by decide +kernel
theorem dX2_bindHead_12 : decode cX2_bindHead 12 = .ok (.bipush 10, 2) := by decide +kernel
theorem dX2_bindHead_14 : decode cX2_bindHead 14 = .ok (.idiv, 1) := by decide +kernel
theorem dX2_bindHead_15 : decode cX2_bindHead 15 = .ok (.bipush 10, 2) := by decide +kernel
theorem dX2_bindHead_17 : decode cX2_bindHead 17 = .ok (.irem, 1) := by decide +kernel
theorem dX2_bindHead_18 : decode cX2_bindHead 18 = .ok (.invokevirtual 85, 3) := by decide +kernel
theorem dX2_bindHead_21 : decode cX2_bindHead 21 = .ok (.ifCond .eq 28, 3) := by decide +kernel
theorem dX2_bindHead_24 : decode cX2_bindHead 24 = .ok (.aload_n 0, 1) := by decide +kernel
theorem dX2_bindHead_25 : decode cX2_bindHead 25 = .ok (.aload_n 0, 1) := by decide +kernel
theorem dX2_bindHead_26 : decode cX2_bindHead 26 = .ok (.getfield 69, 3) := by decide +kernel
theorem dX2_bindHead_29 : decode cX2_bindHead 29 = .ok (.getfield 38, 3) := by decide +kernel
theorem dX2_bindHead_32 : decode cX2_bindHead 32 = .ok (.getfield 89, 3) := by decide +kernel
theorem dX2_bindHead_35 : decode cX2_bindHead 35 = .ok (.iload_n 1, 1) := by decide +kernel
theorem dX2_bindHead_36 : decode cX2_bindHead 36 = .ok (.bipush 10, 2) := by decide +kernel
theorem dX2_bindHead_38 : decode cX2_bindHead 38 = .ok (.irem, 1) := by decide +kernel
theorem dX2_bindHead_39 : decode cX2_bindHead 39 = .ok (.invokevirtual 85, 3) := by decide +kernel
theorem dX2_bindHead_42 : decode cX2_bindHead 42 = .ok (.ifCond .eq 7, 3) := by decide +kernel
theorem dX2_bindHead_45 : decode cX2_bindHead 45 = .ok (.iconst 1, 1) := by decide +kernel
theorem dX2_bindHead_46 : decode cX2_bindHead 46 = .ok (.goto 4, 3) := by decide +kernel
theorem dX2_bindHead_49 : decode cX2_bindHead 49 = .ok (.iconst 0, 1) := by decide +kernel
theorem dX2_bindHead_50 : decode cX2_bindHead 50 = .ok (.ireturn, 1) := by decide +kernel
theorem dX2_bind_0 : decode cX2_bind 0 = .ok (.iload_n 1, 1) := by decide +kernel
theorem dX2_bind_1 : decode cX2_bind 1 = .ok (.bipush 100, 2) := by decide +kernel
theorem dX2_bind_3 : decode cX2_bind 3 = .ok (.if_icmp .ge 19, 3) := by decide +kernel
theorem dX2_bind_6 : decode cX2_bind 6 = .ok (.iload_n 1, 1) := by decide +kernel
theorem dX2_bind_7 : decode cX2_bind 7 = .ok (.iconst (-1), 1) := by decide +kernel
theorem dX2_bind_8 : decode cX2_bind 8 = .ok (.if_icmp .eq 8, 3) := by decide +kernel
theorem dX2_bind_11 : decode cX2_bind 11 = .ok (.iload_n 1, 1) := by decide +kernel
theorem dX2_bind_12 : decode cX2_bind 12 = .ok (.iload_n 2, 1) := by decide +kernel
theorem dX2_bind_13 : decode cX2_bind 13 = .ok (.if_icmp .ne 7, 3) := by decide +kernel
theorem dX2_bind_16 : decode cX2_bind 16 = .ok (.iconst 1, 1) := by decide +kernel
theorem dX2_bind_17 : decode cX2_bind 17 = .ok (.goto 4, 3) := by decide +kernel
theorem dX2_bind_20 : decode cX2_bind 20 = .ok (.iconst 0, 1) := by decide +kernel
theorem dX2_bind_21 : decode cX2_bind 21 = .ok (.ireturn, 1) := by decide +kernel
theorem dX2_bind_22 : decode cX2_bind 22 = .ok (.iload_n 1, 1) := by decide +kernel
theorem dX2_bind_23 : decode cX2_bind 23 = .ok (.bipush 100, 2) := by decide +kernel
theorem dX2_bind_25 : decode cX2_bind 25 = .ok (.isub, 1) := by decide +kernel
theorem dX2_bind_26 : decode cX2_bind 26 = .ok (.istore_n 3, 1) := by decide +kernel
theorem dX2_bind_27 : decode cX2_bind 27 = .ok (.aload_n 0, 1) := by decide +kernel
theorem dX2_bind_28 : decode cX2_bind 28 = .ok (.getfield 9, 3) := by decide +kernel
theorem dX2_bind_31 : decode cX2_bind 31 = .ok (.iload_n 3, 1) := by decide +kernel
theorem dX2_bind_32 : decode cX2_bind 32 = .ok (.iaload, 1) := by decide +kernel
theorem dX2_bind_33 : decode cX2_bind 33 = .ok (.iconst (-1), 1) := by decide +kernel
theorem dX2_bind_34 : decode cX2_bind 34 = .ok (.if_icmp .eq 19, 3) := by decide +kernel
theorem dX2_bind_37 : decode cX2_bind 37 = .ok (.aload_n 0, 1) := by decide +kernel
theorem dX2_bind_38 : decode cX2_bind 38 = .ok (.getfield 9, 3) := by decide +kernel
theorem dX2_bind_41 : decode cX2_bind 41 = .ok (.iload_n 3, 1) := by decide +kernel
theorem dX2_bind_42 : decode cX2_bind 42 = .ok (.iaload, 1) := by decide +kernel
theorem dX2_bind_43 : decode cX2_bind 43 = .ok (.iload_n 2, 1) := by decide +kernel
theorem dX2_bind_44 : decode cX2_bind 44 = .ok (.if_icmp .ne 7, 3) := by decide +kernel
theorem dX2_bind_47 : decode cX2_bind 47 = .ok (.iconst 1, 1) := by decide +kernel
theorem dX2_bind_48 : decode cX2_bind 48 = .ok (.goto 4, 3) := by decide +kernel
theorem dX2_bind_51 : decode cX2_bind 51 = .ok (.iconst 0, 1) := by decide +kernel
theorem dX2_bind_52 : decode cX2_bind 52 = .ok (.ireturn, 1) := by decide +kernel
theorem dX2_bind_53 : decode cX2_bind 53 = .ok (.aload_n 0, 1) := by decide +kernel
theorem dX2_bind_54 : decode cX2_bind 54 = .ok (.getfield 9, 3) := by decide +kernel
theorem dX2_bind_57 : decode cX2_bind 57 = .ok (.iload_n 3, 1) := by decide +kernel
theorem dX2_bind_58 : decode cX2_bind 58 = .ok (.iload_n 2, 1) := by decide +kernel
theorem dX2_bind_59 : decode cX2_bind 59 = .ok (.iastore, 1) := by decide +kernel
theorem dX2_bind_60 : decode cX2_bind 60 = .ok (.iconst 1, 1) := by decide +kernel
theorem dX2_bind_61 : decode cX2_bind 61 = .ok (.ireturn, 1) := by decide +kernel
theorem dX2_walk_0 : decode cX2_walk 0 = .ok (.aload_n 0, 1) := by decide +kernel
theorem dX2_walk_1 : decode cX2_walk 1 = .ok (.aload_n 0, 1) := by decide +kernel
theorem dX2_walk_2 : decode cX2_walk 2 = .ok (.getfield 30, 3) := by decide +kernel
theorem dX2_walk_5 : decode cX2_walk 5 = .ok (.iload_n 1, 1) := by decide +kernel
theorem dX2_walk_6 : decode cX2_walk 6 = .ok (.invokestatic 92, 3) := by decide +kernel
theorem dX2_walk_9 : decode cX2_walk 9 = .ok (.putfield 30, 3) := by decide +kernel
theorem dX2_walk_12 : decode cX2_walk 12 = .ok (.iload_n 1, 1) := by decide +kernel
theorem dX2_walk_13 : decode cX2_walk 13 = .ok (.aload_n 0, 1) := by decide +kernel
theorem dX2_walk_14 : decode cX2_walk 14 = .ok (.getfield 69, 3) := by decide +kernel
theorem dX2_walk_17 : decode cX2_walk 17 = .ok (.getfield 98, 3) := by decide +kernel
theorem dX2_walk_20 : decode cX2_walk 20 = .ok (.if_icmp .ge 8, 3) := by decide +kernel
theorem dX2_walk_23 : decode cX2_walk 23 = .ok (.iload_n 1, 1) := by decide +kernel
theorem dX2_walk_24 : decode cX2_walk 24 = .ok (.iconst 4, 1) := by decide +kernel
theorem dX2_walk_25 : decode cX2_walk 25 = .ok (.if_icmp .lt 9, 3) := by decide +kernel
theorem dX2_walk_28 : decode cX2_walk 28 = .ok (.aload_n 0, 1) := by decide +kernel
theorem dX2_walk_29 : decode cX2_walk 29 = .ok (.iload_n 2, 1) := by decide +kernel
theorem dX2_walk_30 : decode cX2_walk 30 = .ok (.invokevirtual 101, 3) := by decide +kernel
theorem dX2_walk_33 : decode cX2_walk 33 = .ok (.return_, 1) := by decide +kernel
theorem dX2_walk_34 : decode cX2_walk 34 = .ok (.aload_n 0, 1) := by decide +kernel
theorem dX2_walk_35 : decode cX2_walk 35 = .ok (.getfield 69, 3) := by decide +kernel
theorem dX2_walk_38 : decode cX2_walk 38 = .ok (.getfield 105, 3) := by decide +kernel
theorem dX2_walk_41 : decode cX2_walk 41 = .ok (.iload_n 1, 1) := by decide +kernel
theorem dX2_walk_42 : decode cX2_walk 42 = .ok (.aaload, 1) := by decide +kernel
theorem dX2_walk_43 : decode cX2_walk 43 = .ok (.astore_n 3, 1) := by decide +kernel
theorem dX2_walk_44 : decode cX2_walk 44 = .ok (.aload_n 0, 1) := by decide +kernel
theorem dX2_walk_45 : decode cX2_walk 45 = .ok (.aload_n 3, 1) := by decide +kernel
theorem dX2_walk_46 : decode cX2_walk 46 = .ok (.getfield 82, 3) := by decide +kernel
theorem dX2_walk_49 : decode cX2_walk 49 = .ok (.invokevirtual 109, 3) := by decide +kernel
theorem dX2_walk_52 : decode cX2_walk 52 = .ok (.istore 4, 2) := by decide +kernel
theorem dX2_walk_54 : decode cX2_walk 54 = .ok (.iload 4, 2) := by decide +kernel
theorem dX2_walk_56 : decode cX2_walk 56 = .ok (.iconst (-1), 1) := by decide +kernel
theorem dX2_walk_57 : decode cX2_walk 57 = .ok (.if_icmp .ne 17, 3) := by decide +kernel
theorem dX2_walk_60 : decode cX2_walk 60 = .ok (.aload_n 3, 1) := by decide +kernel
theorem dX2_walk_61 : decode cX2_walk 61 = .ok (.getfield 82, 3) := by decide +kernel
theorem dX2_walk_64 : decode cX2_walk 64 = .ok (.aload_n 0, 1) := by decide +kernel
theorem dX2_walk_65 : decode cX2_walk 65 = .ok (.getfield 9, 3) := by decide +kernel
theorem dX2_walk_68 : decode cX2_walk 68 = .ok (.invokestatic 113, 3) := by decide +kernel
theorem dX2_walk_71 : decode cX2_walk 71 = .ok (.goto 4, 3) := by decide +kernel
theorem dX2_walk_74 : decode cX2_walk 74 = .ok (.iconst 0, 1) := by decide +kernel
theorem dX2_walk_75 : decode cX2_walk 75 = .ok (.istore 5, 2) := by decide +kernel
theorem dX2_walk_77 : decode cX2_walk 77 = .ok (.iload 4, 2) := by decide +kernel
theorem dX2_walk_79 : decode cX2_walk 79 = .ok (.iconst (-1), 1) := by decide +kernel
theorem dX2_walk_80 : decode cX2_walk 80 = .ok (.if_icmp .ne 8, 3) := by decide +kernel
theorem dX2_walk_83 : decode cX2_walk 83 = .ok (.iload 5, 2) := by decide +kernel
theorem dX2_walk_85 : decode cX2_walk 85 = .ok (.goto 15, 3) := by decide +kernel
theorem dX2_walk_88 : decode cX2_walk 88 = .ok (.aload_n 0, 1) := by decide +kernel
theorem dX2_walk_89 : decode cX2_walk 89 = .ok (.getfield 18, 3) := by decide +kernel
theorem dX2_walk_92 : decode cX2_walk 92 = .ok (.getfield 117, 3) := by decide +kernel
theorem dX2_walk_95 : decode cX2_walk 95 = .ok (.getfield 123, 3) := by decide +kernel
theorem dX2_walk_98 : decode cX2_walk 98 = .ok (.iconst 1, 1) := by decide +kernel
theorem dX2_walk_99 : decode cX2_walk 99 = .ok (.isub, 1) := by decide +kernel
theorem dX2_walk_100 : decode cX2_walk 100 = .ok (.istore 6, 2) := by decide +kernel
theorem dX2_walk_102 : decode cX2_walk 102 = .ok (.iload 5, 2) := by decide +kernel
theorem dX2_walk_104 : decode cX2_walk 104 = .ok (.istore 7, 2) := by decide +kernel
theorem dX2_walk_106 : decode cX2_walk 106 = .ok (.iload 7, 2) := by decide +kernel
theorem dX2_walk_108 : decode cX2_walk 108 = .ok (.iload 6, 2) := by decide +kernel
theorem dX2_walk_110 : decode cX2_walk 110 = .ok (.if_icmp .gt 55, 3) := by decide +kernel
theorem dX2_walk_113 : decode cX2_walk 113 = .ok (.aload_n 0, 1) := by decide +kernel
theorem dX2_walk_114 : decode cX2_walk 114 = .ok (.getfield 57, 3) := by decide +kernel
theorem dX2_walk_117 : decode cX2_walk 117 = .ok (.ifCond .ne 48, 3) := by decide +kernel
theorem dX2_walk_120 : decode cX2_walk 120 = .ok (.aload_n 0, 1) := by decide +kernel
theorem dX2_walk_121 : decode cX2_walk 121 = .ok (.aload_n 3, 1) := by decide +kernel
theorem dX2_walk_122 : decode cX2_walk 122 = .ok (.iload 7, 2) := by decide +kernel
theorem dX2_walk_124 : decode cX2_walk 124 = .ok (.invokevirtual 126, 3) := by decide +kernel
theorem dX2_walk_127 : decode cX2_walk 127 = .ok (.istore 8, 2) := by decide +kernel
theorem dX2_walk_129 : decode cX2_walk 129 = .ok (.iload 8, 2) := by decide +kernel
theorem dX2_walk_131 : decode cX2_walk 131 = .ok (.ifCond .eq 28, 3) := by decide +kernel
theorem dX2_walk_134 : decode cX2_walk 134 = .ok (.iload 4, 2) := by decide +kernel
theorem dX2_walk_136 : decode cX2_walk 136 = .ok (.iconst (-1), 1) := by decide +kernel
theorem dX2_walk_137 : decode cX2_walk 137 = .ok (.if_icmp .eq 12, 3) := by decide +kernel
theorem dX2_walk_140 : decode cX2_walk 140 = .ok (.aload_n 0, 1) := by decide +kernel
theorem dX2_walk_141 : decode cX2_walk 141 = .ok (.getfield 9, 3) := by decide +kernel
theorem dX2_walk_144 : decode cX2_walk 144 = .ok (.iload 4, 2) := by decide +kernel
theorem dX2_walk_146 : decode cX2_walk 146 = .ok (.iload 7, 2) := by decide +kernel
theorem dX2_walk_148 : decode cX2_walk 148 = .ok (.iastore, 1) := by decide +kernel
theorem dX2_walk_149 : decode cX2_walk 149 = .ok (.aload_n 0, 1) := by decide +kernel
theorem dX2_walk_150 : decode cX2_walk 150 = .ok (.iload_n 1, 1) := by decide +kernel
theorem dX2_walk_151 : decode cX2_walk 151 = .ok (.iload 7, 2) := by decide +kernel
theorem dX2_walk_153 : decode cX2_walk 153 = .ok (.iload 8, 2) := by decide +kernel
theorem dX2_walk_155 : decode cX2_walk 155 = .ok (.iload_n 2, 1) := by decide +kernel
theorem dX2_walk_156 : decode cX2_walk 156 = .ok (.invokevirtual 130, 3) := by decide +kernel
theorem dX2_walk_159 : decode cX2_walk 159 = .ok (.iinc 7 1, 3) := by decide +kernel
theorem dX2_walk_162 : decode cX2_walk 162 = .ok (.goto (-56), 3) := by decide +kernel
theorem dX2_walk_165 : decode cX2_walk 165 = .ok (.iload 4, 2) := by decide +kernel
theorem dX2_walk_167 : decode cX2_walk 167 = .ok (.iconst (-1), 1) := by decide +kernel
theorem dX2_walk_168 : decode cX2_walk 168 = .ok (.if_icmp .eq 11, 3) := by decide +kernel
theorem dX2_walk_171 : decode cX2_walk 171 = .ok (.aload_n 0, 1) := by decide +kernel
theorem dX2_walk_172 : decode cX2_walk 172 = .ok (.getfield 9, 3) := by decide +kernel
theorem dX2_walk_175 : decode cX2_walk 175 = .ok (.iload 4, 2) := by decide +kernel
theorem dX2_walk_177 : decode cX2_walk 177 = .ok (.iconst (-1), 1) := by decide +kernel
theorem dX2_walk_178 : decode cX2_walk 178 = .ok (.iastore, 1) := by decide +kernel
theorem dX2_walk_179 : decode cX2_walk 179 = .ok (.return_, 1) := by decide +kernel
theorem dX2_walkSecond_0 : decode cX2_walkSecond 0 = .ok (.aload_n 0, 1) := by decide +kernel
theorem dX2_walkSecond_1 : decode cX2_walkSecond 1 = .ok (.getfield 69, 3) := by decide +kernel
theorem dX2_walkSecond_4 : decode cX2_walkSecond 4 = .ok (.getfield 105, 3) := by decide +kernel
theorem dX2_walkSecond_7 : decode cX2_walkSecond 7 = .ok (.iload_n 1, 1) := by decide +kernel
theorem dX2_walkSecond_8 : decode cX2_walkSecond 8 = .ok (.aaload, 1) := by decide +kernel
theorem dX2_walkSecond_9 : decode cX2_walkSecond 9 = .ok (.astore 5, 2) := by decide +kernel
theorem dX2_walkSecond_11 : decode cX2_walkSecond 11 = .ok (.aload_n 0, 1) := by decide +kernel
theorem dX2_walkSecond_12 : decode cX2_walkSecond 12 = .ok (.aload 5, 2) := by decide +kernel
theorem dX2_walkSecond_14 : decode cX2_walkSecond 14 = .ok (.getfield 89, 3) := by decide +kernel
theorem dX2_walkSecond_17 : decode cX2_walkSecond 17 = .ok (.invokevirtual 109, 3) := by decide +kernel
theorem dX2_walkSecond_20 : decode cX2_walkSecond 20 = .ok (.istore 6, 2) := by decide +kernel
theorem dX2_walkSecond_22 : decode cX2_walkSecond 22 = .ok (.iload 6, 2) := by decide +kernel
theorem dX2_walkSecond_24 : decode cX2_walkSecond 24 = .ok (.iconst (-1), 1) := by decide +kernel
theorem dX2_walkSecond_25 : decode cX2_walkSecond 25 = .ok (.if_icmp .ne 18, 3) := by decide +kernel
theorem dX2_walkSecond_28 : decode cX2_walkSecond 28 = .ok (.aload 5, 2) := by decide +kernel
theorem dX2_walkSecond_30 : decode cX2_walkSecond 30 = .ok (.getfield 89, 3) := by decide +kernel
theorem dX2_walkSecond_33 : decode cX2_walkSecond 33 = .ok (.aload_n 0, 1) := by decide +kernel
theorem dX2_walkSecond_34 : decode cX2_walkSecond 34 = .ok (.getfield 9, 3) := by decide +kernel
theorem dX2_walkSecond_37 : decode cX2_walkSecond 37 = .ok (.invokestatic 113, 3) := by decide +kernel
theorem dX2_walkSecond_40 : decode cX2_walkSecond 40 = .ok (.goto 4, 3) := by decide +kernel
theorem dX2_walkSecond_43 : decode cX2_walkSecond 43 = .ok (.iconst 0, 1) := by decide +kernel
theorem dX2_walkSecond_44 : decode cX2_walkSecond 44 = .ok (.istore 7, 2) := by decide +kernel
theorem dX2_walkSecond_46 : decode cX2_walkSecond 46 = .ok (.iload 6, 2) := by decide +kernel
theorem dX2_walkSecond_48 : decode cX2_walkSecond 48 = .ok (.iconst (-1), 1) := by decide +kernel
theorem dX2_walkSecond_49 : decode cX2_walkSecond 49 = .ok (.if_icmp .ne 8, 3) := by decide +kernel
theorem dX2_walkSecond_52 : decode cX2_walkSecond 52 = .ok (.iload 7, 2) := by decide +kernel
theorem dX2_walkSecond_54 : decode cX2_walkSecond 54 = .ok (.goto 15, 3) := by decide +kernel
theorem dX2_walkSecond_57 : decode cX2_walkSecond 57 = .ok (.aload_n 0, 1) := by decide +kernel
theorem dX2_walkSecond_58 : decode cX2_walkSecond 58 = .ok (.getfield 18, 3) := by decide +kernel
theorem dX2_walkSecond_61 : decode cX2_walkSecond 61 = .ok (.getfield 117, 3) := by decide +kernel
theorem dX2_walkSecond_64 : decode cX2_walkSecond 64 = .ok (.getfield 123, 3) := by decide +kernel
theorem dX2_walkSecond_67 : decode cX2_walkSecond 67 = .ok (.iconst 1, 1) := by decide +kernel
theorem dX2_walkSecond_68 : decode cX2_walkSecond 68 = .ok (.isub, 1) := by decide +kernel
theorem dX2_walkSecond_69 : decode cX2_walkSecond 69 = .ok (.istore 8, 2) := by decide +kernel
theorem dX2_walkSecond_71 : decode cX2_walkSecond 71 = .ok (.aload 5, 2) := by decide +kernel
theorem dX2_walkSecond_73 : decode cX2_walkSecond 73 = .ok (.getfield 134, 3) := by decide +kernel
theorem dX2_walkSecond_76 : decode cX2_walkSecond 76 = .ok (.ifCond .ne 7, 3) := by decide +kernel
theorem dX2_walkSecond_79 : decode cX2_walkSecond 79 = .ok (.iconst 1, 1) := by decide +kernel
theorem dX2_walkSecond_80 : decode cX2_walkSecond 80 = .ok (.goto 4, 3) := by decide +kernel
theorem dX2_walkSecond_83 : decode cX2_walkSecond 83 = .ok (.iconst 0, 1) := by decide +kernel
theorem dX2_walkSecond_84 : decode cX2_walkSecond 84 = .ok (.istore 9, 2) := by decide +kernel
theorem dX2_walkSecond_86 : decode cX2_walkSecond 86 = .ok (.aload 5, 2) := by decide +kernel
theorem dX2_walkSecond_88 : decode cX2_walkSecond 88 = .ok (.getfield 44, 3) := by decide +kernel
theorem dX2_walkSecond_91 : decode cX2_walkSecond 91 = .ok (.bipush 10, 2) := by decide +kernel
theorem dX2_walkSecond_93 : decode cX2_walkSecond 93 = .ok (.imul, 1) := by decide +kernel
theorem dX2_walkSecond_94 : decode cX2_walkSecond 94 = .ok (.iload_n 2, 1) := by decide +kernel
theorem dX2_walkSecond_95 : decode cX2_walkSecond 95 = .ok (.iadd, 1) := by decide +kernel
theorem dX2_walkSecond_96 : decode cX2_walkSecond 96 = .ok (.istore 10, 2) := by decide +kernel
theorem dX2_walkSecond_98 : decode cX2_walkSecond 98 = .ok (.iload 7, 2) := by decide +kernel
theorem dX2_walkSecond_100 : decode cX2_walkSecond 100 = .ok (.istore 11, 2) := by decide +kernel
theorem dX2_walkSecond_102 : decode cX2_walkSecond 102 = .ok (.iload 11, 2) := by decide +kernel
theorem dX2_walkSecond_104 : decode cX2_walkSecond 104 = .ok (.iload 8, 2) := by decide +kernel
theorem dX2_walkSecond_106 : decode cX2_walkSecond 106 = .ok (.if_icmp .gt 103, 3) := by decide +kernel
theorem dX2_walkSecond_109 : decode cX2_walkSecond 109 = .ok (.aload_n 0, 1) := by decide +kernel
theorem dX2_walkSecond_110 : decode cX2_walkSecond 110 = .ok (.getfield 57, 3) := by decide +kernel
theorem dX2_walkSecond_113 : decode cX2_walkSecond 113 = .ok (.ifCond .ne 96, 3) := by decide +kernel
theorem dX2_walkSecond_116 : decode cX2_walkSecond 116 = .ok (.iload 9, 2) := by decide +kernel
theorem dX2_walkSecond_118 : decode cX2_walkSecond 118 = .ok (.ifCond .eq 16, 3) := by decide +kernel
theorem dX2_walkSecond_121 : decode cX2_walkSecond 121 = .ok (.aload_n 0, 1) := by decide +kernel
theorem dX2_walkSecond_122 : decode cX2_walkSecond 122 = .ok (.getfield 65, 3) := by decide +kernel
theorem dX2_walkSecond_125 : decode cX2_walkSecond 125 = .ok (.getfield 137, 3) := by decide +kernel
theorem dX2_walkSecond_128 : decode cX2_walkSecond 128 = .ok (.iload 10, 2) := by decide +kernel
theorem dX2_walkSecond_130 : decode cX2_walkSecond 130 = .ok (.iaload, 1) := by decide +kernel
theorem dX2_walkSecond_131 : decode cX2_walkSecond 131 = .ok (.goto 4, 3) := by decide +kernel
theorem dX2_walkSecond_134 : decode cX2_walkSecond 134 = .ok (.iload_n 3, 1) := by decide +kernel
theorem dX2_walkSecond_135 : decode cX2_walkSecond 135 = .ok (.istore 12, 2) := by decide +kernel
theorem dX2_walkSecond_137 : decode cX2_walkSecond 137 = .ok (.iload 12, 2) := by decide +kernel
theorem dX2_walkSecond_139 : decode cX2_walkSecond 139 = .ok (.iload 11, 2) := by decide +kernel
theorem dX2_walkSecond_141 : decode cX2_walkSecond 141 = .ok (.ishr, 1) := by decide +kernel
theorem dX2_walkSecond_142 : decode cX2_walkSecond 142 = .ok (.iconst 1, 1) := by decide +kernel
theorem dX2_walkSecond_143 : decode cX2_walkSecond 143 = .ok (.iand, 1) := by decide +kernel
theorem dX2_walkSecond_144 : decode cX2_walkSecond 144 = .ok (.ifCond .eq 59, 3) := by decide +kernel
theorem dX2_walkSecond_147 : decode cX2_walkSecond 147 = .ok (.iload 6, 2) := by decide +kernel
theorem dX2_walkSecond_149 : decode cX2_walkSecond 149 = .ok (.iconst (-1), 1) := by decide +kernel
theorem dX2_walkSecond_150 : decode cX2_walkSecond 150 = .ok (.if_icmp .eq 12, 3) := by decide +kernel
theorem dX2_walkSecond_153 : decode cX2_walkSecond 153 = .ok (.aload_n 0, 1) := by decide +kernel
theorem dX2_walkSecond_154 : decode cX2_walkSecond 154 = .ok (.getfield 9, 3) := by decide +kernel
theorem dX2_walkSecond_157 : decode cX2_walkSecond 157 = .ok (.iload 6, 2) := by decide +kernel
theorem dX2_walkSecond_159 : decode cX2_walkSecond 159 = .ok (.iload 11, 2) := by decide +kernel
theorem dX2_walkSecond_161 : decode cX2_walkSecond 161 = .ok (.iastore, 1) := by decide +kernel
theorem dX2_walkSecond_162 : decode cX2_walkSecond 162 = .ok (.iload 9, 2) := by decide +kernel
theorem dX2_walkSecond_164 : decode cX2_walkSecond 164 = .ok (.ifCond .eq 22, 3) := by decide +kernel
theorem dX2_walkSecond_167 : decode cX2_walkSecond 167 = .ok (.aload_n 0, 1) := by decide +kernel
theorem dX2_walkSecond_168 : decode cX2_walkSecond 168 = .ok (.getfield 65, 3) := by decide +kernel
theorem dX2_walkSecond_171 : decode cX2_walkSecond 171 = .ok (.getfield 49, 3) := by decide +kernel
theorem dX2_walkSecond_174 : decode cX2_walkSecond 174 = .ok (.iload 10, 2) := by decide +kernel
theorem dX2_walkSecond_176 : decode cX2_walkSecond 176 = .ok (.bipush 10, 2) := by decide +kernel
theorem dX2_walkSecond_178 : decode cX2_walkSecond 178 = .ok (.imul, 1) := by decide +kernel
theorem dX2_walkSecond_179 : decode cX2_walkSecond 179 = .ok (.iload 11, 2) := by decide +kernel
theorem dX2_walkSecond_181 : decode cX2_walkSecond 181 = .ok (.iadd, 1) := by decide +kernel
theorem dX2_walkSecond_182 : decode cX2_walkSecond 182 = .ok (.iaload, 1) := by decide +kernel
theorem dX2_walkSecond_183 : decode cX2_walkSecond 183 = .ok (.goto 4, 3) := by decide +kernel
theorem dX2_walkSecond_186 : decode cX2_walkSecond 186 = .ok (.iconst 0, 1) := by decide +kernel
theorem dX2_walkSecond_187 : decode cX2_walkSecond 187 = .ok (.istore 13, 2) := by decide +kernel
theorem dX2_walkSecond_189 : decode cX2_walkSecond 189 = .ok (.aload_n 0, 1) := by decide +kernel
theorem dX2_walkSecond_190 : decode cX2_walkSecond 190 = .ok (.iload_n 1, 1) := by decide +kernel
theorem dX2_walkSecond_191 : decode cX2_walkSecond 191 = .ok (.iconst 1, 1) := by decide +kernel
theorem dX2_walkSecond_192 : decode cX2_walkSecond 192 = .ok (.iadd, 1) := by decide +kernel
theorem dX2_walkSecond_193 : decode cX2_walkSecond 193 = .ok (.iload 4, 2) := by decide +kernel
theorem dX2_walkSecond_195 : decode cX2_walkSecond 195 = .ok (.iload 13, 2) := by decide +kernel
theorem dX2_walkSecond_197 : decode cX2_walkSecond 197 = .ok (.invokestatic 92, 3) := by decide +kernel
theorem dX2_walkSecond_200 : decode cX2_walkSecond 200 = .ok (.invokevirtual 26, 3) := by decide +kernel
theorem dX2_walkSecond_203 : decode cX2_walkSecond 203 = .ok (.iinc 11 1, 3) := by decide +kernel
theorem dX2_walkSecond_206 : decode cX2_walkSecond 206 = .ok (.goto (-104), 3) := by decide +kernel
theorem dX2_walkSecond_209 : decode cX2_walkSecond 209 = .ok (.iload 6, 2) := by decide +kernel
theorem dX2_walkSecond_211 : decode cX2_walkSecond 211 = .ok (.iconst (-1), 1) := by decide +kernel
theorem dX2_walkSecond_212 : decode cX2_walkSecond 212 = .ok (.if_icmp .eq 11, 3) := by decide +kernel
theorem dX2_walkSecond_215 : decode cX2_walkSecond 215 = .ok (.aload_n 0, 1) := by decide +kernel
theorem dX2_walkSecond_216 : decode cX2_walkSecond 216 = .ok (.getfield 9, 3) := by decide +kernel
theorem dX2_walkSecond_219 : decode cX2_walkSecond 219 = .ok (.iload 6, 2) := by decide +kernel
theorem dX2_walkSecond_221 : decode cX2_walkSecond 221 = .ok (.iconst (-1), 1) := by decide +kernel
theorem dX2_walkSecond_222 : decode cX2_walkSecond 222 = .ok (.iastore, 1) := by decide +kernel
theorem dX2_walkSecond_223 : decode cX2_walkSecond 223 = .ok (.return_, 1) := by decide +kernel
theorem dX2_secondsFor_0 : decode cX2_secondsFor 0 = .ok (.aload_n 1, 1) := by decide +kernel
theorem dX2_secondsFor_1 : decode cX2_secondsFor 1 = .ok (.getfield 134, 3) := by decide +kernel
theorem dX2_secondsFor_4 : decode cX2_secondsFor 4 = .ok (.iconst 2, 1) := by decide +kernel
theorem dX2_secondsFor_5 : decode cX2_secondsFor 5 = .ok (.if_icmp .ne 9, 3) := by decide +kernel
theorem dX2_secondsFor_8 : decode cX2_secondsFor 8 = .ok (.iconst 1, 1) := by decide +kernel
theorem dX2_secondsFor_9 : decode cX2_secondsFor 9 = .ok (.iload_n 2, 1) := by decide +kernel
theorem dX2_secondsFor_10 : decode cX2_secondsFor 10 = .ok (.ishl, 1) := by decide +kernel
theorem dX2_secondsFor_11 : decode cX2_secondsFor 11 = .ok (.iconst (-1), 1) := by decide +kernel
theorem dX2_secondsFor_12 : decode cX2_secondsFor 12 = .ok (.ixor, 1) := by decide +kernel
theorem dX2_secondsFor_13 : decode cX2_secondsFor 13 = .ok (.ireturn, 1) := by decide +kernel
theorem dX2_secondsFor_14 : decode cX2_secondsFor 14 = .ok (.aload_n 0, 1) := by decide +kernel
theorem dX2_secondsFor_15 : decode cX2_secondsFor 15 = .ok (.getfield 65, 3) := by decide +kernel
theorem dX2_secondsFor_18 : decode cX2_secondsFor 18 = .ok (.getfield 137, 3) := by decide +kernel
theorem dX2_secondsFor_21 : decode cX2_secondsFor 21 = .ok (.aload_n 1, 1) := by decide +kernel
theorem dX2_secondsFor_22 : decode cX2_secondsFor 22 = .ok (.getfield 44, 3) := by decide +kernel
theorem dX2_secondsFor_25 : decode cX2_secondsFor 25 = .ok (.bipush 10, 2) := by decide +kernel
theorem dX2_secondsFor_27 : decode cX2_secondsFor 27 = .ok (.imul, 1) := by decide +kernel
theorem dX2_secondsFor_28 : decode cX2_secondsFor 28 = .ok (.iload_n 2, 1) := by decide +kernel
theorem dX2_secondsFor_29 : decode cX2_secondsFor 29 = .ok (.iadd, 1) := by decide +kernel
theorem dX2_secondsFor_30 : decode cX2_secondsFor 30 = .ok (.iaload, 1) := by decide +kernel
theorem dX2_secondsFor_31 : decode cX2_secondsFor 31 = .ok (.istore_n 3, 1) := by decide +kernel
theorem dX2_secondsFor_32 : decode cX2_secondsFor 32 = .ok (.aload_n 1, 1) := by decide +kernel
theorem dX2_secondsFor_33 : decode cX2_secondsFor 33 = .ok (.getfield 134, 3) := by decide +kernel
theorem dX2_secondsFor_36 : decode cX2_secondsFor 36 = .ok (.ifCond .ne 7, 3) := by decide +kernel
theorem dX2_secondsFor_39 : decode cX2_secondsFor 39 = .ok (.iload_n 3, 1) := by decide +kernel
theorem dX2_secondsFor_40 : decode cX2_secondsFor 40 = .ok (.goto 6, 3) := by decide +kernel
theorem dX2_secondsFor_43 : decode cX2_secondsFor 43 = .ok (.iload_n 3, 1) := by decide +kernel
theorem dX2_secondsFor_44 : decode cX2_secondsFor 44 = .ok (.iconst (-1), 1) := by decide +kernel
theorem dX2_secondsFor_45 : decode cX2_secondsFor 45 = .ok (.ixor, 1) := by decide +kernel
theorem dX2_secondsFor_46 : decode cX2_secondsFor 46 = .ok (.ireturn, 1) := by decide +kernel
theorem dX2_arrive_0 : decode cX2_arrive 0 = .ok (.aload_n 0, 1) := by decide +kernel
theorem dX2_arrive_1 : decode cX2_arrive 1 = .ok (.getfield 73, 3) := by decide +kernel
theorem dX2_arrive_4 : decode cX2_arrive 4 = .ok (.ifCond .ne 30, 3) := by decide +kernel
theorem dX2_arrive_7 : decode cX2_arrive 7 = .ok (.aload_n 0, 1) := by decide +kernel
theorem dX2_arrive_8 : decode cX2_arrive 8 = .ok (.getfield 65, 3) := by decide +kernel
theorem dX2_arrive_11 : decode cX2_arrive 11 = .ok (.aload_n 0, 1) := by decide +kernel
theorem dX2_arrive_12 : decode cX2_arrive 12 = .ok (.getfield 69, 3) := by decide +kernel
theorem dX2_arrive_15 : decode cX2_arrive 15 = .ok (.getfield 38, 3) := by decide +kernel
theorem dX2_arrive_18 : decode cX2_arrive 18 = .ok (.aload_n 0, 1) := by decide +kernel
theorem dX2_arrive_19 : decode cX2_arrive 19 = .ok (.getfield 9, 3) := by decide +kernel
theorem dX2_arrive_22 : decode cX2_arrive 22 = .ok (.invokestatic 61, 3) := by decide +kernel
theorem dX2_arrive_25 : decode cX2_arrive 25 = .ok (.iload_n 1, 1) := by decide +kernel
theorem dX2_arrive_26 : decode cX2_arrive 26 = .ok (.iconst 1, 1) := by decide +kernel
theorem dX2_arrive_27 : decode cX2_arrive 27 = .ok (.iadd, 1) := by decide +kernel
theorem dX2_arrive_28 : decode cX2_arrive 28 = .ok (.invokevirtual 140, 3) := by decide +kernel
theorem dX2_arrive_31 : decode cX2_arrive 31 = .ok (.goto 46, 3) := by decide +kernel
theorem dX2_arrive_34 : decode cX2_arrive 34 = .ok (.aload_n 0, 1) := by decide +kernel
theorem dX2_arrive_35 : decode cX2_arrive 35 = .ok (.getfield 73, 3) := by decide +kernel
theorem dX2_arrive_38 : decode cX2_arrive 38 = .ok (.iconst 1, 1) := by decide +kernel
theorem dX2_arrive_39 : decode cX2_arrive 39 = .ok (.if_icmp .ne 11, 3) := by decide +kernel
theorem dX2_arrive_42 : decode cX2_arrive 42 = .ok (.aload_n 0, 1) := by decide +kernel
theorem dX2_arrive_43 : decode cX2_arrive 43 = .ok (.iconst 1, 1) := by decide +kernel
theorem dX2_arrive_44 : decode cX2_arrive 44 = .ok (.putfield 57, 3) := by decide +kernel
theorem dX2_arrive_47 : decode cX2_arrive 47 = .ok (.goto 30, 3) := by decide +kernel
theorem dX2_arrive_50 : decode cX2_arrive 50 = .ok (.iload_n 1, 1) := by decide +kernel
theorem dX2_arrive_51 : decode cX2_arrive 51 = .ok (.aload_n 0, 1) := by decide +kernel
theorem dX2_arrive_52 : decode cX2_arrive 52 = .ok (.getfield 54, 3) := by decide +kernel
theorem dX2_arrive_55 : decode cX2_arrive 55 = .ok (.if_icmp .ne 22, 3) := by decide +kernel
theorem dX2_arrive_58 : decode cX2_arrive 58 = .ok (.aload_n 0, 1) := by decide +kernel
theorem dX2_arrive_59 : decode cX2_arrive 59 = .ok (.iconst 1, 1) := by decide +kernel
theorem dX2_arrive_60 : decode cX2_arrive 60 = .ok (.putfield 57, 3) := by decide +kernel
theorem dX2_arrive_63 : decode cX2_arrive 63 = .ok (.aload_n 0, 1) := by decide +kernel
theorem dX2_arrive_64 : decode cX2_arrive 64 = .ok (.getfield 9, 3) := by decide +kernel
theorem dX2_arrive_67 : decode cX2_arrive 67 = .ok (.iconst 0, 1) := by decide +kernel
theorem dX2_arrive_68 : decode cX2_arrive 68 = .ok (.aload_n 0, 1) := by decide +kernel
theorem dX2_arrive_69 : decode cX2_arrive 69 = .ok (.getfield 15, 3) := by decide +kernel
theorem dX2_arrive_72 : decode cX2_arrive 72 = .ok (.iconst 0, 1) := by decide +kernel
theorem dX2_arrive_73 : decode cX2_arrive 73 = .ok (.iconst 3, 1) := by decide +kernel
theorem dX2_arrive_74 : decode cX2_arrive 74 = .ok (.invokestatic 143, 3) := by decide +kernel
theorem dX2_arrive_77 : decode cX2_arrive 77 = .ok (.return_, 1) := by decide +kernel
theorem dX2_freeSign_0 : decode cX2_freeSign 0 = .ok (.iload_n 1, 1) := by decide +kernel
theorem dX2_freeSign_1 : decode cX2_freeSign 1 = .ok (.bipush 100, 2) := by decide +kernel
theorem dX2_freeSign_3 : decode cX2_freeSign 3 = .ok (.if_icmp .lt 20, 3) := by decide +kernel
theorem dX2_freeSign_6 : decode cX2_freeSign 6 = .ok (.aload_n 0, 1) := by decide +kernel
theorem dX2_freeSign_7 : decode cX2_freeSign 7 = .ok (.getfield 9, 3) := by decide +kernel
theorem dX2_freeSign_10 : decode cX2_freeSign 10 = .ok (.iload_n 1, 1) := by decide +kernel
theorem dX2_freeSign_11 : decode cX2_freeSign 11 = .ok (.bipush 100, 2) := by decide +kernel
theorem dX2_freeSign_13 : decode cX2_freeSign 13 = .ok (.isub, 1) := by decide +kernel
theorem dX2_freeSign_14 : decode cX2_freeSign 14 = .ok (.iaload, 1) := by decide +kernel
theorem dX2_freeSign_15 : decode cX2_freeSign 15 = .ok (.iconst (-1), 1) := by decide +kernel
theorem dX2_freeSign_16 : decode cX2_freeSign 16 = .ok (.if_icmp .ne 7, 3) := by decide +kernel
theorem dX2_freeSign_19 : decode cX2_freeSign 19 = .ok (.iconst 1, 1) := by decide +kernel
theorem dX2_freeSign_20 : decode cX2_freeSign 20 = .ok (.goto 4, 3) := by decide +kernel
theorem dX2_freeSign_23 : decode cX2_freeSign 23 = .ok (.iconst 0, 1) := by decide +kernel
theorem dX2_freeSign_24 : decode cX2_freeSign 24 = .ok (.istore_n 2, 1) := by decide +kernel
theorem dX2_freeSign_25 : decode cX2_freeSign 25 = .ok (.iload_n 2, 1) := by decide +kernel
theorem dX2_freeSign_26 : decode cX2_freeSign 26 = .ok (.ifCond .eq 10, 3) := by decide +kernel
theorem dX2_freeSign_29 : decode cX2_freeSign 29 = .ok (.iload_n 1, 1) := by decide +kernel
theorem dX2_freeSign_30 : decode cX2_freeSign 30 = .ok (.bipush 100, 2) := by decide +kernel
theorem dX2_freeSign_32 : decode cX2_freeSign 32 = .ok (.isub, 1) := by decide +kernel
theorem dX2_freeSign_33 : decode cX2_freeSign 33 = .ok (.goto 4, 3) := by decide +kernel
theorem dX2_freeSign_36 : decode cX2_freeSign 36 = .ok (.iconst (-1), 1) := by decide +kernel
theorem dX2_freeSign_37 : decode cX2_freeSign 37 = .ok (.ireturn, 1) := by decide +kernel
theorem dX2_thingOf_0 : decode cX2_thingOf 0 = .ok (.iload_n 0, 1) := by decide +kernel
theorem dX2_thingOf_1 : decode cX2_thingOf 1 = .ok (.bipush 100, 2) := by decide +kernel
theorem dX2_thingOf_3 : decode cX2_thingOf 3 = .ok (.if_icmp .ge 11, 3) := by decide +kernel
theorem dX2_thingOf_6 : decode cX2_thingOf 6 = .ok (.iload_n 0, 1) := by decide +kernel
theorem dX2_thingOf_7 : decode cX2_thingOf 7 = .ok (.iconst 0, 1) := by decide +kernel
theorem dX2_thingOf_8 : decode cX2_thingOf 8 = .ok (.invokestatic 92, 3) := by decide +kernel
theorem dX2_thingOf_11 : decode cX2_thingOf 11 = .ok (.goto 9, 3) := by decide +kernel
theorem dX2_thingOf_14 : decode cX2_thingOf 14 = .ok (.aload_n 1, 1) := by decide +kernel
theorem dX2_thingOf_15 : decode cX2_thingOf 15 = .ok (.iload_n 0, 1) := by decide +kernel
theorem dX2_thingOf_16 : decode cX2_thingOf 16 = .ok (.bipush 100, 2) := by decide +kernel
theorem dX2_thingOf_18 : decode cX2_thingOf 18 = .ok (.isub, 1) := by decide +kernel
theorem dX2_thingOf_19 : decode cX2_thingOf 19 = .ok (.iaload, 1) := by decide +kernel
theorem dX2_thingOf_20 : decode cX2_thingOf 20 = .ok (.ireturn, 1) := by decide +kernel
theorem dX2_numberOf_0 : decode cX2_numberOf 0 = .ok (.aload_n 0, 1) := by decide +kernel
theorem dX2_numberOf_1 : decode cX2_numberOf 1 = .ok (.getfield 44, 3) := by decide +kernel
theorem dX2_numberOf_4 : decode cX2_numberOf 4 = .ok (.bipush 10, 2) := by decide +kernel
theorem dX2_numberOf_6 : decode cX2_numberOf 6 = .ok (.imul, 1) := by decide +kernel
theorem dX2_numberOf_7 : decode cX2_numberOf 7 = .ok (.aload_n 0, 1) := by decide +kernel
theorem dX2_numberOf_8 : decode cX2_numberOf 8 = .ok (.getfield 82, 3) := by decide +kernel
theorem dX2_numberOf_11 : decode cX2_numberOf 11 = .ok (.aload_n 1, 1) := by decide +kernel
theorem dX2_numberOf_12 : decode cX2_numberOf 12 = .ok (.invokestatic 113, 3) := by decide +kernel
theorem dX2_numberOf_15 : decode cX2_numberOf 15 = .ok (.iadd, 1) := by decide +kernel
theorem dX2_numberOf_16 : decode cX2_numberOf 16 = .ok (.bipush 10, 2) := by decide +kernel
theorem dX2_numberOf_18 : decode cX2_numberOf 18 = .ok (.imul, 1) := by decide +kernel
theorem dX2_numberOf_19 : decode cX2_numberOf 19 = .ok (.aload_n 0, 1) := by decide +kernel
theorem dX2_numberOf_20 : decode cX2_numberOf 20 = .ok (.getfield 89, 3) := by decide +kernel
theorem dX2_numberOf_23 : decode cX2_numberOf 23 = .ok (.aload_n 1, 1) := by decide +kernel
theorem dX2_numberOf_24 : decode cX2_numberOf 24 = .ok (.invokestatic 113, 3) := by decide +kernel
theorem dX2_numberOf_27 : decode cX2_numberOf 27 = .ok (.iadd, 1) := by decide +kernel
theorem dX2_numberOf_28 : decode cX2_numberOf 28 = .ok (.ireturn, 1) := by decide +kernel
theorem dX3_init_0 : decode cX3_init 0 = .ok (.aload_n 0, 1) := by decide +kernel
theorem dX3_init_1 : decode cX3_init 1 = .ok (.invokespecial 3, 3) := by decide +kernel
theorem dX3_init_4 : decode cX3_init 4 = .ok (.aload_n 0, 1) := by decide +kernel
theorem dX3_init_5 : decode cX3_init 5 = .ok (.bipush 20, 2) := by decide +kernel
theorem dX3_init_7 : decode cX3_init 7 = .ok (.newarray .int, 2) := by decide +kernel
theorem dX3_init_9 : decode cX3_init 9 = .ok (.putfield 9, 3) := by decide +kernel
theorem dX3_init_12 : decode cX3_init 12 = .ok (.aload_n 0, 1) := by decide +kernel
theorem dX3_init_13 : decode cX3_init 13 = .ok (.aload_n 1, 1) := by decide +kernel
theorem dX3_init_14 : decode cX3_init 14 = .ok (.putfield 15, 3) := by decide +kernel
theorem dX3_init_17 : decode cX3_init 17 = .ok (.aload_n 0, 1) := by decide +kernel
theorem dX3_init_18 : decode cX3_init 18 = .ok (.aload_n 2, 1) := by decide +kernel
theorem dX3_init_19 : decode cX3_init 19 = .ok (.putfield 19, 3) := by decide +kernel
theorem dX3_init_22 : decode cX3_init 22 = .ok (.return_, 1) := by decide +kernel
theorem dX3_settle_0 : decode cX3_settle 0 = .ok (.aload_n 0, 1) := by decide +kernel
theorem dX3_settle_1 : decode cX3_settle 1 = .ok (.getfield 9, 3) := by decide +kernel
theorem dX3_settle_4 : decode cX3_settle 4 = .ok (.iconst (-1), 1) := by decide +kernel
theorem dX3_settle_5 : decode cX3_settle 5 = .ok (.invokestatic 23, 3) := by decide +kernel
theorem dX3_settle_8 : decode cX3_settle 8 = .ok (.aload_n 0, 1) := by decide +kernel
theorem dX3_settle_9 : decode cX3_settle 9 = .ok (.getfield 15, 3) := by decide +kernel
theorem dX3_settle_12 : decode cX3_settle 12 = .ok (.invokevirtual 29, 3) := by decide +kernel
theorem dX3_settle_15 : decode cX3_settle 15 = .ok (.istore 5, 2) := by decide +kernel
theorem dX3_settle_17 : decode cX3_settle 17 = .ok (.iconst 0, 1) := by decide +kernel
theorem dX3_settle_18 : decode cX3_settle 18 = .ok (.istore 6, 2) := by decide +kernel
theorem dX3_settle_20 : decode cX3_settle 20 = .ok (.iload 6, 2) := by decide +kernel
theorem dX3_settle_22 : decode cX3_settle 22 = .ok (.iload 5, 2) := by decide +kernel
theorem dX3_settle_24 : decode cX3_settle 24 = .ok (.if_icmp .ge 189, 3) := by decide +kernel
theorem dX3_settle_27 : decode cX3_settle 27 = .ok (.iconst 1, 1) := by decide +kernel
theorem dX3_settle_28 : decode cX3_settle 28 = .ok (.istore 7, 2) := by decide +kernel
theorem dX3_settle_30 : decode cX3_settle 30 = .ok (.iconst 0, 1) := by decide +kernel
theorem dX3_settle_31 : decode cX3_settle 31 = .ok (.istore 8, 2) := by decide +kernel
theorem dX3_settle_33 : decode cX3_settle 33 = .ok (.iload 8, 2) := by decide +kernel
theorem dX3_settle_35 : decode cX3_settle 35 = .ok (.sipush 1002, 3) := by decide +kernel
theorem dX3_settle_38 : decode cX3_settle 38 = .ok (.if_icmp .ge 169, 3) := by decide +kernel
theorem dX3_settle_41 : decode cX3_settle 41 = .ok (.iload 7, 2) := by decide +kernel
theorem dX3_settle_43 : decode cX3_settle 43 = .ok (.ifCond .eq 164, 3) := by decide +kernel
theorem dX3_settle_46 : decode cX3_settle 46 = .ok (.iconst 0, 1) := by decide +kernel
theorem dX3_settle_47 : decode cX3_settle 47 = .ok (.istore 7, 2) := by decide +kernel
theorem dX3_settle_49 : decode cX3_settle 49 = .ok (.iconst 0, 1) := by decide +kernel
theorem dX3_settle_50 : decode cX3_settle 50 = .ok (.istore 9, 2) := by decide +kernel
theorem dX3_settle_52 : decode cX3_settle 52 = .ok (.iload 9, 2) := by decide +kernel
theorem dX3_settle_54 : decode cX3_settle 54 = .ok (.aload_n 0, 1) := by decide +kernel
theorem dX3_settle_55 : decode cX3_settle 55 = .ok (.getfield 15, 3) := by decide +kernel
theorem dX3_settle_58 : decode cX3_settle 58 = .ok (.getfield 35, 3) := by decide +kernel
theorem dX3_settle_61 : decode cX3_settle 61 = .ok (.if_icmp .ge 140, 3) := by decide +kernel
theorem dX3_settle_64 : decode cX3_settle 64 = .ok (.iload 4, 2) := by decide +kernel
theorem dX3_settle_66 : decode cX3_settle 66 = .ok (.iconst (-1), 1) := by decide +kernel
theorem dX3_settle_67 : decode cX3_settle 67 = .ok (.if_icmp .eq 13, 3) := by decide +kernel
theorem dX3_settle_70 : decode cX3_settle 70 = .ok (.aload_n 1, 1) := by decide +kernel
theorem dX3_settle_71 : decode cX3_settle 71 = .ok (.iload 4, 2) := by decide +kernel
theorem dX3_settle_73 : decode cX3_settle 73 = .ok (.invokevirtual 39, 3) := by decide +kernel
theorem dX3_settle_76 : decode cX3_settle 76 = .ok (.ifCond .eq 4, 3) := by decide +kernel
theorem dX3_settle_79 : decode cX3_settle 79 = .ok (.return_, 1) := by decide +kernel
theorem dX3_settle_80 : decode cX3_settle 80 = .ok (.aload_n 0, 1) := by decide +kernel
theorem dX3_settle_81 : decode cX3_settle 81 = .ok (.getfield 15, 3) := by decide +kernel
theorem dX3_settle_84 : decode cX3_settle 84 = .ok (.getfield 45, 3) := by decide +kernel
theorem dX3_settle_87 : decode cX3_settle 87 = .ok (.iload 9, 2) := by decide +kernel
theorem dX3_settle_89 : decode cX3_settle 89 = .ok (.aaload, 1) := by decide +kernel
theorem dX3_settle_90 : decode cX3_settle 90 = .ok (.getfield 49, 3) := by decide +kernel
theorem dX3_settle_93 : decode cX3_settle 93 = .ok (.getfield 55, 3) := by decide +kernel
theorem dX3_settle_96 : decode cX3_settle 96 = .ok (.istore 10, 2) := by decide +kernel
theorem dX3_settle_98 : decode cX3_settle 98 = .ok (.iload 9, 2) := by decide +kernel
theorem dX3_settle_100 : decode cX3_settle 100 = .ok (.iload_n 2, 1) := by decide +kernel
theorem dX3_settle_101 : decode cX3_settle 101 = .ok (.if_icmp .eq 16, 3) := by decide +kernel
theorem dX3_settle_104 : decode cX3_settle 104 = .ok (.iload_n 3, 1) := by decide +kernel
theorem dX3_settle_105 : decode cX3_settle 105 = .ok (.iload 10, 2) := by decide +kernel
theorem dX3_settle_107 : decode cX3_settle 107 = .ok (.ishr, 1) := by decide +kernel
theorem dX3_settle_108 : decode cX3_settle 108 = .ok (.iconst 1, 1) := by decide +kernel
theorem dX3_settle_109 : decode cX3_settle 109 = .ok (.iand, 1) := by decide +kernel
theorem dX3_settle_110 : decode cX3_settle 110 = .ok (.ifCond .eq 7, 3) := by decide +kernel
theorem dX3_settle_113 : decode cX3_settle 113 = .ok (.iconst 1, 1) := by decide +kernel
theorem dX3_settle_114 : decode cX3_settle 114 = .ok (.goto 4, 3) := by decide +kernel
theorem dX3_settle_117 : decode cX3_settle 117 = .ok (.iconst 0, 1) := by decide +kernel
theorem dX3_settle_118 : decode cX3_settle 118 = .ok (.istore 11, 2) := by decide +kernel
theorem dX3_settle_120 : decode cX3_settle 120 = .ok (.iload 11, 2) := by decide +kernel
theorem dX3_settle_122 : decode cX3_settle 122 = .ok (.ifCond .eq 73, 3) := by decide +kernel
theorem dX3_settle_125 : decode cX3_settle 125 = .ok (.aload_n 0, 1) := by decide +kernel
theorem dX3_settle_126 : decode cX3_settle 126 = .ok (.getfield 15, 3) := by decide +kernel
theorem dX3_settle_129 : decode cX3_settle 129 = .ok (.getfield 60, 3) := by decide +kernel
theorem dX3_settle_132 : decode cX3_settle 132 = .ok (.getfield 64, 3) := by decide +kernel
theorem dX3_settle_135 : decode cX3_settle 135 = .ok (.iload 10, 2) := by decide +kernel
theorem dX3_settle_137 : decode cX3_settle 137 = .ok (.iaload, 1) := by decide +kernel
theorem dX3_settle_138 : decode cX3_settle 138 = .ok (.iload 6, 2) := by decide +kernel
theorem dX3_settle_140 : decode cX3_settle 140 = .ok (.if_icmp .ne 55, 3) := by decide +kernel
theorem dX3_settle_143 : decode cX3_settle 143 = .ok (.aload_n 0, 1) := by decide +kernel
theorem dX3_settle_144 : decode cX3_settle 144 = .ok (.iload 9, 2) := by decide +kernel
theorem dX3_settle_146 : decode cX3_settle 146 = .ok (.aload_n 1, 1) := by decide +kernel
theorem dX3_settle_147 : decode cX3_settle 147 = .ok (.invokevirtual 69, 3) := by decide +kernel
theorem dX3_settle_150 : decode cX3_settle 150 = .ok (.ifCond .eq 45, 3) := by decide +kernel
theorem dX3_settle_153 : decode cX3_settle 153 = .ok (.aload_n 0, 1) := by decide +kernel
theorem dX3_settle_154 : decode cX3_settle 154 = .ok (.getfield 9, 3) := by decide +kernel
theorem dX3_settle_157 : decode cX3_settle 157 = .ok (.iload 9, 2) := by decide +kernel
theorem dX3_settle_159 : decode cX3_settle 159 = .ok (.aload_n 1, 1) := by decide +kernel
theorem dX3_settle_160 : decode cX3_settle 160 = .ok (.getfield 73, 3) := by decide +kernel
theorem dX3_settle_163 : decode cX3_settle 163 = .ok (.iastore, 1) := by decide +kernel
theorem dX3_settle_164 : decode cX3_settle 164 = .ok (.aload_n 0, 1) := by decide +kernel
theorem dX3_settle_165 : decode cX3_settle 165 = .ok (.getfield 19, 3) := by decide +kernel
theorem dX3_settle_168 : decode cX3_settle 168 = .ok (.aload_n 1, 1) := by decide +kernel
theorem dX3_settle_169 : decode cX3_settle 169 = .ok (.aload_n 0, 1) := by decide +kernel
theorem dX3_settle_170 : decode cX3_settle 170 = .ok (.getfield 15, 3) := by decide +kernel
theorem dX3_settle_173 : decode cX3_settle 173 = .ok (.getfield 45, 3) := by decide +kernel
theorem dX3_settle_176 : decode cX3_settle 176 = .ok (.iload 9, 2) := by decide +kernel
theorem dX3_settle_178 : decode cX3_settle 178 = .ok (.aaload, 1) := by decide +kernel
theorem dX3_settle_179 : decode cX3_settle 179 = .ok (.iconst 0, 1) := by decide +kernel
theorem dX3_settle_180 : decode cX3_settle 180 = .ok (.invokevirtual 78, 3) := by decide +kernel
theorem dX3_settle_183 : decode cX3_settle 183 = .ok (.aload_n 0, 1) := by decide +kernel
theorem dX3_settle_184 : decode cX3_settle 184 = .ok (.getfield 19, 3) := by decide +kernel
theorem dX3_settle_187 : decode cX3_settle 187 = .ok (.iconst 0, 1) := by decide +kernel
theorem dX3_settle_188 : decode cX3_settle 188 = .ok (.iconst 0, 1) := by decide +kernel
theorem dX3_settle_189 : decode cX3_settle 189 = .ok (.invokevirtual 82, 3) := by decide +kernel
theorem dX3_settle_192 : decode cX3_settle 192 = .ok (.iconst 1, 1) := by decide +kernel
theorem dX3_settle_193 : decode cX3_settle 193 = .ok (.istore 7, 2) := by decide +kernel
theorem dX3_settle_195 : decode cX3_settle 195 = .ok (.iinc 9 1, 3) := by decide +kernel
theorem dX3_settle_198 : decode cX3_settle 198 = .ok (.goto (-146), 3) := by decide +kernel
theorem dX3_settle_201 : decode cX3_settle 201 = .ok (.iinc 8 1, 3) := by decide +kernel
theorem dX3_settle_204 : decode cX3_settle 204 = .ok (.goto (-171), 3) := by decide +kernel
theorem dX3_settle_207 : decode cX3_settle 207 = .ok (.iinc 6 1, 3) := by decide +kernel
theorem dX3_settle_210 : decode cX3_settle 210 = .ok (.goto (-190), 3) := by decide +kernel
theorem dX3_settle_213 : decode cX3_settle 213 = .ok (.return_, 1) := by decide +kernel
theorem dX3_isDue_0 : decode cX3_isDue 0 = .ok (.aload_n 0, 1) := by decide +kernel
theorem dX3_isDue_1 : decode cX3_isDue 1 = .ok (.getfield 9, 3) := by decide +kernel
theorem dX3_isDue_4 : decode cX3_isDue 4 = .ok (.iload_n 1, 1) := by decide +kernel
theorem dX3_isDue_5 : decode cX3_isDue 5 = .ok (.iaload, 1) := by decide +kernel
theorem dX3_isDue_6 : decode cX3_isDue 6 = .ok (.iconst (-1), 1) := by decide +kernel
theorem dX3_isDue_7 : decode cX3_isDue 7 = .ok (.if_icmp .ne 5, 3) := by decide +kernel
theorem dX3_isDue_10 : decode cX3_isDue 10 = .ok (.iconst 1, 1) := by decide +kernel
theorem dX3_isDue_11 : decode cX3_isDue 11 = .ok (.ireturn, 1) := by decide +kernel
theorem dX3_isDue_12 : decode cX3_isDue 12 = .ok (.aload_n 0, 1) := by decide +kernel
theorem dX3_isDue_13 : decode cX3_isDue 13 = .ok (.getfield 15, 3) := by decide +kernel
theorem dX3_isDue_16 : decode cX3_isDue 16 = .ok (.getfield 45, 3) := by decide +kernel
theorem dX3_isDue_19 : decode cX3_isDue 19 = .ok (.iload_n 1, 1) := by decide +kernel
theorem dX3_isDue_20 : decode cX3_isDue 20 = .ok (.aaload, 1) := by decide +kernel
theorem dX3_isDue_21 : decode cX3_isDue 21 = .ok (.astore_n 3, 1) := by decide +kernel
theorem dX3_isDue_22 : decode cX3_isDue 22 = .ok (.iconst 0, 1) := by decide +kernel
theorem dX3_isDue_23 : decode cX3_isDue 23 = .ok (.istore 4, 2) := by decide +kernel
theorem dX3_isDue_25 : decode cX3_isDue 25 = .ok (.iload 4, 2) := by decide +kernel
theorem dX3_isDue_27 : decode cX3_isDue 27 = .ok (.aload_n 3, 1) := by decide +kernel
theorem dX3_isDue_28 : decode cX3_isDue 28 = .ok (.getfield 86, 3) := by decide +kernel
theorem dX3_isDue_31 : decode cX3_isDue 31 = .ok (.if_icmp .ge 47, 3) := by decide +kernel
theorem dX3_isDue_34 : decode cX3_isDue 34 = .ok (.aload_n 3, 1) := by decide +kernel
theorem dX3_isDue_35 : decode cX3_isDue 35 = .ok (.getfield 89, 3) := by decide +kernel
theorem dX3_isDue_38 : decode cX3_isDue 38 = .ok (.iload 4, 2) := by decide +kernel
theorem dX3_isDue_40 : decode cX3_isDue 40 = .ok (.aaload, 1) := by decide +kernel
theorem dX3_isDue_41 : decode cX3_isDue 41 = .ok (.astore 5, 2) := by decide +kernel
theorem dX3_isDue_43 : decode cX3_isDue 43 = .ok (.aload 5, 2) := by decide +kernel
theorem dX3_isDue_45 : decode cX3_isDue 45 = .ok (.getfield 93, 3) := by decide +kernel
theorem dX3_isDue_48 : decode cX3_isDue 48 = .ok (.ifCond .ne 24, 3) := by decide +kernel
theorem dX3_isDue_51 : decode cX3_isDue 51 = .ok (.aload_n 2, 1) := by decide +kernel
theorem dX3_isDue_52 : decode cX3_isDue 52 = .ok (.getfield 96, 3) := by decide +kernel
theorem dX3_isDue_55 : decode cX3_isDue 55 = .ok (.aload 5, 2) := by decide +kernel
theorem dX3_isDue_57 : decode cX3_isDue 57 = .ok (.getfield 55, 3) := by decide +kernel
theorem dX3_isDue_60 : decode cX3_isDue 60 = .ok (.iaload, 1) := by decide +kernel
theorem dX3_isDue_61 : decode cX3_isDue 61 = .ok (.aload_n 0, 1) := by decide +kernel
theorem dX3_isDue_62 : decode cX3_isDue 62 = .ok (.getfield 9, 3) := by decide +kernel
theorem dX3_isDue_65 : decode cX3_isDue 65 = .ok (.iload_n 1, 1) := by decide +kernel
theorem dX3_isDue_66 : decode cX3_isDue 66 = .ok (.iaload, 1) := by decide +kernel
theorem dX3_isDue_67 : decode cX3_isDue 67 = .ok (.if_icmp .le 5, 3) := by decide +kernel
theorem dX3_isDue_70 : decode cX3_isDue 70 = .ok (.iconst 1, 1) := by decide +kernel
theorem dX3_isDue_71 : decode cX3_isDue 71 = .ok (.ireturn, 1) := by decide +kernel
theorem dX3_isDue_72 : decode cX3_isDue 72 = .ok (.iinc 4 1, 3) := by decide +kernel
theorem dX3_isDue_75 : decode cX3_isDue 75 = .ok (.goto (-50), 3) := by decide +kernel
theorem dX3_isDue_78 : decode cX3_isDue 78 = .ok (.iconst 0, 1) := by decide +kernel
theorem dX3_isDue_79 : decode cX3_isDue 79 = .ok (.ireturn, 1) := by decide +kernel
theorem dX4_init_0 : decode cX4_init 0 = .ok (.aload_n 0, 1) := by decide +kernel
theorem dX4_init_1 : decode cX4_init 1 = .ok (.invokespecial 3, 3) := by decide +kernel
theorem dX4_init_4 : decode cX4_init 4 = .ok (.aload_n 0, 1) := by decide +kernel
theorem dX4_init_5 : decode cX4_init 5 = .ok (.bipush 10, 2) := by decide +kernel
theorem dX4_init_7 : decode cX4_init 7 = .ok (.newarray .int, 2) := by decide +kernel
theorem dX4_init_9 : decode cX4_init 9 = .ok (.putfield 9, 3) := by decide +kernel
theorem dX4_init_12 : decode cX4_init 12 = .ok (.return_, 1) := by decide +kernel
theorem dX4_settle_0 : decode cX4_settle 0 = .ok (.aload_n 0, 1) := by decide +kernel
theorem dX4_settle_1 : decode cX4_settle 1 = .ok (.getfield 9, 3) := by decide +kernel
theorem dX4_settle_4 : decode cX4_settle 4 = .ok (.iconst 0, 1) := by decide +kernel
theorem dX4_settle_5 : decode cX4_settle 5 = .ok (.invokestatic 15, 3) := by decide +kernel
theorem dX4_settle_8 : decode cX4_settle 8 = .ok (.iconst 0, 1) := by decide +kernel
theorem dX4_settle_9 : decode cX4_settle 9 = .ok (.istore_n 3, 1) := by decide +kernel
theorem dX4_settle_10 : decode cX4_settle 10 = .ok (.iload_n 3, 1) := by decide +kernel
theorem dX4_settle_11 : decode cX4_settle 11 = .ok (.bipush 110, 2) := by decide +kernel
theorem dX4_settle_13 : decode cX4_settle 13 = .ok (.if_icmp .gt 100, 3) := by decide +kernel
theorem dX4_settle_16 : decode cX4_settle 16 = .ok (.iconst 0, 1) := by decide +kernel
theorem dX4_settle_17 : decode cX4_settle 17 = .ok (.istore 4, 2) := by decide +kernel
theorem dX4_settle_19 : decode cX4_settle 19 = .ok (.iconst 0, 1) := by decide +kernel
theorem dX4_settle_20 : decode cX4_settle 20 = .ok (.istore 5, 2) := by decide +kernel
theorem dX4_settle_22 : decode cX4_settle 22 = .ok (.iload 5, 2) := by decide +kernel
theorem dX4_settle_24 : decode cX4_settle 24 = .ok (.iload_n 2, 1) := by decide +kernel
theorem dX4_settle_25 : decode cX4_settle 25 = .ok (.if_icmp .ge 75, 3) := by decide +kernel
theorem dX4_settle_28 : decode cX4_settle 28 = .ok (.iload 5, 2) := by decide +kernel
theorem dX4_settle_30 : decode cX4_settle 30 = .ok (.aload_n 1, 1) := by decide +kernel
theorem dX4_settle_31 : decode cX4_settle 31 = .ok (.arraylength, 1) := by decide +kernel
theorem dX4_settle_32 : decode cX4_settle 32 = .ok (.if_icmp .ge 68, 3) := by decide +kernel
theorem dX4_settle_35 : decode cX4_settle 35 = .ok (.aload_n 0, 1) := by decide +kernel
theorem dX4_settle_36 : decode cX4_settle 36 = .ok (.aload_n 1, 1) := by decide +kernel
theorem dX4_settle_37 : decode cX4_settle 37 = .ok (.iload 5, 2) := by decide +kernel
theorem dX4_settle_39 : decode cX4_settle 39 = .ok (.aaload, 1) := by decide +kernel
theorem dX4_settle_40 : decode cX4_settle 40 = .ok (.invokevirtual 21, 3) := by decide +kernel
theorem dX4_settle_43 : decode cX4_settle 43 = .ok (.istore 6, 2) := by decide +kernel
theorem dX4_settle_45 : decode cX4_settle 45 = .ok (.iload 6, 2) := by decide +kernel
theorem dX4_settle_47 : decode cX4_settle 47 = .ok (.bipush 10, 2) := by decide +kernel
theorem dX4_settle_49 : decode cX4_settle 49 = .ok (.if_icmp .lt 5, 3) := by decide +kernel
theorem dX4_settle_52 : decode cX4_settle 52 = .ok (.iconst 0, 1) := by decide +kernel
theorem dX4_settle_53 : decode cX4_settle 53 = .ok (.ireturn, 1) := by decide +kernel
theorem dX4_settle_54 : decode cX4_settle 54 = .ok (.iload 6, 2) := by decide +kernel
theorem dX4_settle_56 : decode cX4_settle 56 = .ok (.aload_n 0, 1) := by decide +kernel
theorem dX4_settle_57 : decode cX4_settle 57 = .ok (.getfield 9, 3) := by decide +kernel
theorem dX4_settle_60 : decode cX4_settle 60 = .ok (.aload_n 1, 1) := by decide +kernel
theorem dX4_settle_61 : decode cX4_settle 61 = .ok (.iload 5, 2) := by decide +kernel
theorem dX4_settle_63 : decode cX4_settle 63 = .ok (.aaload, 1) := by decide +kernel
theorem dX4_settle_64 : decode cX4_settle 64 = .ok (.getfield 25, 3) := by decide +kernel
theorem dX4_settle_67 : decode cX4_settle 67 = .ok (.getfield 31, 3) := by decide +kernel
theorem dX4_settle_70 : decode cX4_settle 70 = .ok (.iaload, 1) := by decide +kernel
theorem dX4_settle_71 : decode cX4_settle 71 = .ok (.if_icmp .le 23, 3) := by decide +kernel
theorem dX4_settle_74 : decode cX4_settle 74 = .ok (.aload_n 0, 1) := by decide +kernel
theorem dX4_settle_75 : decode cX4_settle 75 = .ok (.getfield 9, 3) := by decide +kernel
theorem dX4_settle_78 : decode cX4_settle 78 = .ok (.aload_n 1, 1) := by decide +kernel
theorem dX4_settle_79 : decode cX4_settle 79 = .ok (.iload 5, 2) := by decide +kernel
theorem dX4_settle_81 : decode cX4_settle 81 = .ok (.aaload, 1) := by decide +kernel
theorem dX4_settle_82 : decode cX4_settle 82 = .ok (.getfield 25, 3) := by decide +kernel
theorem dX4_settle_85 : decode cX4_settle 85 = .ok (.getfield 31, 3) := by decide +kernel
theorem dX4_settle_88 : decode cX4_settle 88 = .ok (.iload 6, 2) := by decide +kernel
theorem dX4_settle_90 : decode cX4_settle 90 = .ok (.iastore, 1) := by decide +kernel
theorem dX4_settle_91 : decode cX4_settle 91 = .ok (.iconst 1, 1) := by decide +kernel
theorem dX4_settle_92 : decode cX4_settle 92 = .ok (.istore 4, 2) := by decide +kernel
theorem dX4_settle_94 : decode cX4_settle 94 = .ok (.iinc 5 1, 3) := by decide +kernel
theorem dX4_settle_97 : decode cX4_settle 97 = .ok (.goto (-75), 3) := by decide +kernel
theorem dX4_settle_100 : decode cX4_settle 100 = .ok (.iload 4, 2) := by decide +kernel
theorem dX4_settle_102 : decode cX4_settle 102 = .ok (.ifCond .ne 5, 3) := by decide +kernel
theorem dX4_settle_105 : decode cX4_settle 105 = .ok (.iconst 1, 1) := by decide +kernel
theorem dX4_settle_106 : decode cX4_settle 106 = .ok (.ireturn, 1) := by decide +kernel
theorem dX4_settle_107 : decode cX4_settle 107 = .ok (.iinc 3 1, 3) := by decide +kernel
theorem dX4_settle_110 : decode cX4_settle 110 = .ok (.goto (-100), 3) := by decide +kernel
theorem dX4_settle_113 : decode cX4_settle 113 = .ok (.iconst 0, 1) := by decide +kernel
theorem dX4_settle_114 : decode cX4_settle 114 = .ok (.ireturn, 1) := by decide +kernel
theorem dX4_leastFor_0 : decode cX4_leastFor 0 = .ok (.iconst 0, 1) := by decide +kernel
theorem dX4_leastFor_1 : decode cX4_leastFor 1 = .ok (.istore_n 2, 1) := by decide +kernel
theorem dX4_leastFor_2 : decode cX4_leastFor 2 = .ok (.iconst 0, 1) := by decide +kernel
theorem dX4_leastFor_3 : decode cX4_leastFor 3 = .ok (.istore_n 3, 1) := by decide +kernel
theorem dX4_leastFor_4 : decode cX4_leastFor 4 = .ok (.iload_n 3, 1) := by decide +kernel
theorem dX4_leastFor_5 : decode cX4_leastFor 5 = .ok (.aload_n 1, 1) := by decide +kernel
theorem dX4_leastFor_6 : decode cX4_leastFor 6 = .ok (.getfield 37, 3) := by decide +kernel
theorem dX4_leastFor_9 : decode cX4_leastFor 9 = .ok (.if_icmp .ge 60, 3) := by decide +kernel
theorem dX4_leastFor_12 : decode cX4_leastFor 12 = .ok (.aload_n 1, 1) := by decide +kernel
theorem dX4_leastFor_13 : decode cX4_leastFor 13 = .ok (.getfield 40, 3) := by decide +kernel
theorem dX4_leastFor_16 : decode cX4_leastFor 16 = .ok (.iload_n 3, 1) := by decide +kernel
theorem dX4_leastFor_17 : decode cX4_leastFor 17 = .ok (.aaload, 1) := by decide +kernel
theorem dX4_leastFor_18 : decode cX4_leastFor 18 = .ok (.astore 4, 2) := by decide +kernel
theorem dX4_leastFor_20 : decode cX4_leastFor 20 = .ok (.aload 4, 2) := by decide +kernel
theorem dX4_leastFor_22 : decode cX4_leastFor 22 = .ok (.getfield 44, 3) := by decide +kernel
theorem dX4_leastFor_25 : decode cX4_leastFor 25 = .ok (.iconst 2, 1) := by decide +kernel
theorem dX4_leastFor_26 : decode cX4_leastFor 26 = .ok (.if_icmp .eq 37, 3) := by decide +kernel
theorem dX4_leastFor_29 : decode cX4_leastFor 29 = .ok (.aload 4, 2) := by decide +kernel
theorem dX4_leastFor_31 : decode cX4_leastFor 31 = .ok (.getfield 44, 3) := by decide +kernel
theorem dX4_leastFor_34 : decode cX4_leastFor 34 = .ok (.iconst 1, 1) := by decide +kernel
theorem dX4_leastFor_35 : decode cX4_leastFor 35 = .ok (.if_icmp .ne 7, 3) := by decide +kernel
theorem dX4_leastFor_38 : decode cX4_leastFor 38 = .ok (.iconst 1, 1) := by decide +kernel
theorem dX4_leastFor_39 : decode cX4_leastFor 39 = .ok (.goto 4, 3) := by decide +kernel
theorem dX4_leastFor_42 : decode cX4_leastFor 42 = .ok (.iconst 0, 1) := by decide +kernel
theorem dX4_leastFor_43 : decode cX4_leastFor 43 = .ok (.istore 5, 2) := by decide +kernel
theorem dX4_leastFor_45 : decode cX4_leastFor 45 = .ok (.iload_n 2, 1) := by decide +kernel
theorem dX4_leastFor_46 : decode cX4_leastFor 46 = .ok (.aload_n 0, 1) := by decide +kernel
theorem dX4_leastFor_47 : decode cX4_leastFor 47 = .ok (.getfield 9, 3) := by decide +kernel
theorem dX4_leastFor_50 : decode cX4_leastFor 50 = .ok (.aload 4, 2) := by decide +kernel
theorem dX4_leastFor_52 : decode cX4_leastFor 52 = .ok (.getfield 31, 3) := by decide +kernel
theorem dX4_leastFor_55 : decode cX4_leastFor 55 = .ok (.iaload, 1) := by decide +kernel
theorem dX4_leastFor_56 : decode cX4_leastFor 56 = .ok (.iload 5, 2) := by decide +kernel
theorem dX4_leastFor_58 : decode cX4_leastFor 58 = .ok (.iadd, 1) := by decide +kernel
theorem dX4_leastFor_59 : decode cX4_leastFor 59 = .ok (.invokestatic 47, 3) := by decide +kernel
theorem dX4_leastFor_62 : decode cX4_leastFor 62 = .ok (.istore_n 2, 1) := by decide +kernel
theorem dX4_leastFor_63 : decode cX4_leastFor 63 = .ok (.iinc 3 1, 3) := by decide +kernel
theorem dX4_leastFor_66 : decode cX4_leastFor 66 = .ok (.goto (-62), 3) := by decide +kernel
theorem dX4_leastFor_69 : decode cX4_leastFor 69 = .ok (.iload_n 2, 1) := by decide +kernel
theorem dX4_leastFor_70 : decode cX4_leastFor 70 = .ok (.ireturn, 1) := by decide +kernel
theorem dX5_init_0 : decode cX5_init 0 = .ok (.aload_n 0, 1) := by decide +kernel
theorem dX5_init_1 : decode cX5_init 1 = .ok (.invokespecial 5, 3) := by decide +kernel
theorem dX5_init_4 : decode cX5_init 4 = .ok (.aload_n 0, 1) := by decide +kernel
theorem dX5_init_5 : decode cX5_init 5 = .ok (.bipush 100, 2) := by decide +kernel
theorem dX5_init_7 : decode cX5_init 7 = .ok (.newarray .int, 2) := by decide +kernel
theorem dX5_init_9 : decode cX5_init 9 = .ok (.putfield 11, 3) := by decide +kernel
theorem dX5_init_12 : decode cX5_init 12 = .ok (.aload_n 0, 1) := by decide +kernel
theorem dX5_init_13 : decode cX5_init 13 = .ok (.sipush 1000, 3) := by decide +kernel
theorem dX5_init_16 : decode cX5_init 16 = .ok (.newarray .int, 2) := by decide +kernel
theorem dX5_init_18 : decode cX5_init 18 = .ok (.putfield 17, 3) := by decide +kernel
theorem dX5_init_21 : decode cX5_init 21 = .ok (.aload_n 0, 1) := by decide +kernel
theorem dX5_init_22 : decode cX5_init 22 = .ok (.bipush 10, 2) := by decide +kernel
theorem dX5_init_24 : decode cX5_init 24 = .ok (.newarray .int, 2) := by decide +kernel
theorem dX5_init_26 : decode cX5_init 26 = .ok (.putfield 20, 3) := by decide +kernel
theorem dX5_init_29 : decode cX5_init 29 = .ok (.aload_n 0, 1) := by decide +kernel
theorem dX5_init_30 : decode cX5_init 30 = .ok (.iload_n 1, 1) := by decide +kernel
theorem dX5_init_31 : decode cX5_init 31 = .ok (.putfield 23, 3) := by decide +kernel
theorem dX5_init_34 : decode cX5_init 34 = .ok (.return_, 1) := by decide +kernel
theorem dX5_start_0 : decode cX5_start 0 = .ok (.aload_n 1, 1) := by decide +kernel
theorem dX5_start_1 : decode cX5_start 1 = .ok (.iconst 0, 1) := by decide +kernel
theorem dX5_start_2 : decode cX5_start 2 = .ok (.aload_n 0, 1) := by decide +kernel
theorem dX5_start_3 : decode cX5_start 3 = .ok (.getfield 11, 3) := by decide +kernel
theorem dX5_start_6 : decode cX5_start 6 = .ok (.iconst 0, 1) := by decide +kernel
theorem dX5_start_7 : decode cX5_start 7 = .ok (.bipush 100, 2) := by decide +kernel
theorem dX5_start_9 : decode cX5_start 9 = .ok (.invokestatic 27, 3) := by decide +kernel
theorem dX5_start_12 : decode cX5_start 12 = .ok (.aload_n 0, 1) := by decide +kernel
theorem dX5_start_13 : decode cX5_start 13 = .ok (.getfield 20, 3) := by decide +kernel
theorem dX5_start_16 : decode cX5_start 16 = .ok (.iconst 0, 1) := by decide +kernel
theorem dX5_start_17 : decode cX5_start 17 = .ok (.invokestatic 33, 3) := by decide +kernel
theorem dX5_start_20 : decode cX5_start 20 = .ok (.aload_n 0, 1) := by decide +kernel
theorem dX5_start_21 : decode cX5_start 21 = .ok (.iconst 0, 1) := by decide +kernel
theorem dX5_start_22 : decode cX5_start 22 = .ok (.putfield 39, 3) := by decide +kernel
theorem dX5_start_25 : decode cX5_start 25 = .ok (.aload_n 0, 1) := by decide +kernel
theorem dX5_start_26 : decode cX5_start 26 = .ok (.getfield 23, 3) := by decide +kernel
theorem dX5_start_29 : decode cX5_start 29 = .ok (.ifCond .eq 31, 3) := by decide +kernel
theorem dX5_start_32 : decode cX5_start 32 = .ok (.aload_n 0, 1) := by decide +kernel
theorem dX5_start_33 : decode cX5_start 33 = .ok (.getfield 17, 3) := by decide +kernel
theorem dX5_start_36 : decode cX5_start 36 = .ok (.ldc 43, 2) := by decide +kernel
theorem dX5_start_38 : decode cX5_start 38 = .ok (.invokestatic 33, 3) := by decide +kernel
theorem dX5_start_41 : decode cX5_start 41 = .ok (.iconst 0, 1) := by decide +kernel
theorem dX5_start_42 : decode cX5_start 42 = .ok (.istore_n 2, 1) := by decide +kernel
theorem dX5_start_43 : decode cX5_start 43 = .ok (.iload_n 2, 1) := by decide +kernel
theorem dX5_start_44 : decode cX5_start 44 = .ok (.bipush 100, 2) := by decide +kernel
theorem dX5_start_46 : decode cX5_start 46 = .ok (.if_icmp .ge 14, 3) := by decide +kernel
theorem dX5_start_49 : decode cX5_start 49 = .ok (.aload_n 0, 1) := by decide +kernel
theorem dX5_start_50 : decode cX5_start 50 = .ok (.iload_n 2, 1) := by decide +kernel
theorem dX5_start_51 : decode cX5_start 51 = .ok (.invokevirtual 44, 3) := by decide +kernel
theorem dX5_start_54 : decode cX5_start 54 = .ok (.iinc 2 1, 3) := by decide +kernel
theorem dX5_start_57 : decode cX5_start 57 = .ok (.goto (-14), 3) := by decide +kernel
theorem dX5_start_60 : decode cX5_start 60 = .ok (.return_, 1) := by decide +kernel
theorem dX5_setNoSteps_0 : decode cX5_setNoSteps 0 = .ok (.iconst 0, 1) := by decide +kernel
theorem dX5_setNoSteps_1 : decode cX5_setNoSteps 1 = .ok (.istore_n 2, 1) := by decide +kernel
theorem dX5_setNoSteps_2 : decode cX5_setNoSteps 2 = .ok (.iload_n 2, 1) := by decide +kernel
theorem dX5_setNoSteps_3 : decode cX5_setNoSteps 3 = .ok (.bipush 10, 2) := by decide +kernel
theorem dX5_setNoSteps_5 : decode cX5_setNoSteps 5 = .ok (.if_icmp .ge 45, 3) := by decide +kernel
theorem dX5_setNoSteps_8 : decode cX5_setNoSteps 8 = .ok (.aload_n 0, 1) := by decide +kernel
theorem dX5_setNoSteps_9 : decode cX5_setNoSteps 9 = .ok (.getfield 11, 3) := by decide +kernel
theorem dX5_setNoSteps_12 : decode cX5_setNoSteps 12 = .ok (.iload_n 1, 1) := by decide +kernel
theorem dX5_setNoSteps_13 : decode cX5_setNoSteps 13 = .ok (.iaload, 1) := by decide +kernel
theorem dX5_setNoSteps_14 : decode cX5_setNoSteps 14 = .ok (.iload_n 2, 1) := by decide +kernel
theorem dX5_setNoSteps_15 : decode cX5_setNoSteps 15 = .ok (.ishr, 1) := by decide +kernel
theorem dX5_setNoSteps_16 : decode cX5_setNoSteps 16 = .ok (.ifCond .eq 34, 3) := by decide +kernel
theorem dX5_setNoSteps_19 : decode cX5_setNoSteps 19 = .ok (.aload_n 0, 1) := by decide +kernel
theorem dX5_setNoSteps_20 : decode cX5_setNoSteps 20 = .ok (.getfield 11, 3) := by decide +kernel
theorem dX5_setNoSteps_23 : decode cX5_setNoSteps 23 = .ok (.iload_n 1, 1) := by decide +kernel
theorem dX5_setNoSteps_24 : decode cX5_setNoSteps 24 = .ok (.iaload, 1) := by decide +kernel
theorem dX5_setNoSteps_25 : decode cX5_setNoSteps 25 = .ok (.iload_n 2, 1) := by decide +kernel
theorem dX5_setNoSteps_26 : decode cX5_setNoSteps 26 = .ok (.ishr, 1) := by decide +kernel
theorem dX5_setNoSteps_27 : decode cX5_setNoSteps 27 = .ok (.iconst 1, 1) := by decide +kernel
theorem dX5_setNoSteps_28 : decode cX5_setNoSteps 28 = .ok (.iand, 1) := by decide +kernel
theorem dX5_setNoSteps_29 : decode cX5_setNoSteps 29 = .ok (.ifCond .eq 15, 3) := by decide +kernel
theorem dX5_setNoSteps_32 : decode cX5_setNoSteps 32 = .ok (.aload_n 0, 1) := by decide +kernel
theorem dX5_setNoSteps_33 : decode cX5_setNoSteps 33 = .ok (.getfield 17, 3) := by decide +kernel
theorem dX5_setNoSteps_36 : decode cX5_setNoSteps 36 = .ok (.iload_n 1, 1) := by decide +kernel
theorem dX5_setNoSteps_37 : decode cX5_setNoSteps 37 = .ok (.bipush 10, 2) := by decide +kernel
theorem dX5_setNoSteps_39 : decode cX5_setNoSteps 39 = .ok (.imul, 1) := by decide +kernel
theorem dX5_setNoSteps_40 : decode cX5_setNoSteps 40 = .ok (.iload_n 2, 1) := by decide +kernel
theorem dX5_setNoSteps_41 : decode cX5_setNoSteps 41 = .ok (.iadd, 1) := by decide +kernel
theorem dX5_setNoSteps_42 : decode cX5_setNoSteps 42 = .ok (.iconst 0, 1) := by decide +kernel
theorem dX5_setNoSteps_43 : decode cX5_setNoSteps 43 = .ok (.iastore, 1) := by decide +kernel
theorem dX5_setNoSteps_44 : decode cX5_setNoSteps 44 = .ok (.iinc 2 1, 3) := by decide +kernel
theorem dX5_setNoSteps_47 : decode cX5_setNoSteps 47 = .ok (.goto (-45), 3) := by decide +kernel
theorem dX5_setNoSteps_50 : decode cX5_setNoSteps 50 = .ok (.return_, 1) := by decide +kernel
theorem dX5_has_0 : decode cX5_has 0 = .ok (.aload_n 0, 1) := by decide +kernel
theorem dX5_has_1 : decode cX5_has 1 = .ok (.getfield 11, 3) := by decide +kernel
theorem dX5_has_4 : decode cX5_has 4 = .ok (.iload_n 1, 1) := by decide +kernel
theorem dX5_has_5 : decode cX5_has 5 = .ok (.bipush 10, 2) := by decide +kernel
theorem dX5_has_7 : decode cX5_has 7 = .ok (.idiv, 1) := by decide +kernel
theorem dX5_has_8 : decode cX5_has 8 = .ok (.iaload, 1) := by decide +kernel
theorem dX5_has_9 : decode cX5_has 9 = .ok (.iload_n 1, 1) := by decide +kernel
theorem dX5_has_10 : decode cX5_has 10 = .ok (.bipush 10, 2) := by decide +kernel
theorem dX5_has_12 : decode cX5_has 12 = .ok (.irem, 1) := by decide +kernel
theorem dX5_has_13 : decode cX5_has 13 = .ok (.ishr, 1) := by decide +kernel
theorem dX5_has_14 : decode cX5_has 14 = .ok (.iconst 1, 1) := by decide +kernel
theorem dX5_has_15 : decode cX5_has 15 = .ok (.iand, 1) := by decide +kernel
theorem dX5_has_16 : decode cX5_has 16 = .ok (.ifCond .eq 7, 3) := by decide +kernel
theorem dX5_has_19 : decode cX5_has 19 = .ok (.iconst 1, 1) := by decide +kernel
theorem dX5_has_20 : decode cX5_has 20 = .ok (.goto 4, 3) := by decide +kernel
theorem dX5_has_23 : decode cX5_has 23 = .ok (.iconst 0, 1) := by decide +kernel
theorem dX5_has_24 : decode cX5_has 24 = .ok (.ireturn, 1) := by decide +kernel
theorem dX5_turn_0 : decode cX5_turn 0 = .ok (.aload_n 0, 1) := by decide +kernel
theorem dX5_turn_1 : decode cX5_turn 1 = .ok (.getfield 11, 3) := by decide +kernel
theorem dX5_turn_4 : decode cX5_turn 4 = .ok (.iload_n 1, 1) := by decide +kernel
theorem dX5_turn_5 : decode cX5_turn 5 = .ok (.bipush 10, 2) := by decide +kernel
theorem dX5_turn_7 : decode cX5_turn 7 = .ok (.idiv, 1) := by decide +kernel
theorem dX5_turn_8 : decode cX5_turn 8 = .ok (.dup2, 1) := by decide +kernel
theorem dX5_turn_9 : decode cX5_turn 9 = .ok (.iaload, 1) := by decide +kernel
theorem dX5_turn_10 : decode cX5_turn 10 = .ok (.iconst 1, 1) := by decide +kernel
theorem dX5_turn_11 : decode cX5_turn 11 = .ok (.iload_n 1, 1) := by decide +kernel
theorem dX5_turn_12 : decode cX5_turn 12 = .ok (.bipush 10, 2) := by decide +kernel
theorem dX5_turn_14 : decode cX5_turn 14 = .ok (.irem, 1) := by decide +kernel
theorem dX5_turn_15 : decode cX5_turn 15 = .ok (.ishl, 1) := by decide +kernel
theorem dX5_turn_16 : decode cX5_turn 16 = .ok (.ixor, 1) := by decide +kernel
theorem dX5_turn_17 : decode cX5_turn 17 = .ok (.iastore, 1) := by decide +kernel
theorem dX5_turn_18 : decode cX5_turn 18 = .ok (.return_, 1) := by decide +kernel
theorem dX5_take_0 : decode cX5_take 0 = .ok (.iload_n 1, 1) := by decide +kernel
theorem dX5_take_1 : decode cX5_take 1 = .ok (.ifCond .lt 10, 3) := by decide +kernel
theorem dX5_take_4 : decode cX5_take 4 = .ok (.iload_n 1, 1) := by decide +kernel
theorem dX5_take_5 : decode cX5_take 5 = .ok (.sipush 1000, 3) := by decide +kernel
theorem dX5_take_8 : decode cX5_take 8 = .ok (.if_icmp .lt 4, 3) := by decide +kernel
theorem dX5_take_11 : decode cX5_take 11 = .ok (.return_, 1) := by decide +kernel
theorem dX5_take_12 : decode cX5_take 12 = .ok (.aload_n 0, 1) := by decide +kernel
theorem dX5_take_13 : decode cX5_take 13 = .ok (.iload_n 1, 1) := by decide +kernel
theorem dX5_take_14 : decode cX5_take 14 = .ok (.invokevirtual 48, 3) := by decide +kernel
theorem dX5_take_17 : decode cX5_take 17 = .ok (.istore_n 3, 1) := by decide +kernel
theorem dX5_take_18 : decode cX5_take 18 = .ok (.iload_n 3, 1) := by decide +kernel
theorem dX5_take_19 : decode cX5_take 19 = .ok (.ifCond .eq 21, 3) := by decide +kernel
theorem dX5_take_22 : decode cX5_take 22 = .ok (.aload_n 0, 1) := by decide +kernel
theorem dX5_take_23 : decode cX5_take 23 = .ok (.getfield 23, 3) := by decide +kernel
theorem dX5_take_26 : decode cX5_take 26 = .ok (.ifCond .eq 13, 3) := by decide +kernel
theorem dX5_take_29 : decode cX5_take 29 = .ok (.aload_n 0, 1) := by decide +kernel
theorem dX5_take_30 : decode cX5_take 30 = .ok (.getfield 17, 3) := by decide +kernel
theorem dX5_take_33 : decode cX5_take 33 = .ok (.iload_n 1, 1) := by decide +kernel
theorem dX5_take_34 : decode cX5_take 34 = .ok (.iaload, 1) := by decide +kernel
theorem dX5_take_35 : decode cX5_take 35 = .ok (.iload_n 2, 1) := by decide +kernel
theorem dX5_take_36 : decode cX5_take 36 = .ok (.if_icmp .gt 4, 3) := by decide +kernel
theorem dX5_take_39 : decode cX5_take 39 = .ok (.return_, 1) := by decide +kernel
theorem dX5_take_40 : decode cX5_take 40 = .ok (.aload_n 0, 1) := by decide +kernel
theorem dX5_take_41 : decode cX5_take 41 = .ok (.getfield 23, 3) := by decide +kernel
theorem dX5_take_44 : decode cX5_take 44 = .ok (.ifCond .eq 10, 3) := by decide +kernel
theorem dX5_take_47 : decode cX5_take 47 = .ok (.aload_n 0, 1) := by decide +kernel
theorem dX5_take_48 : decode cX5_take 48 = .ok (.getfield 17, 3) := by decide +kernel
theorem dX5_take_51 : decode cX5_take 51 = .ok (.iload_n 1, 1) := by decide +kernel
theorem dX5_take_52 : decode cX5_take 52 = .ok (.iload_n 2, 1) := by decide +kernel
theorem dX5_take_53 : decode cX5_take 53 = .ok (.iastore, 1) := by decide +kernel
theorem dX5_take_54 : decode cX5_take 54 = .ok (.iload_n 3, 1) := by decide +kernel
theorem dX5_take_55 : decode cX5_take 55 = .ok (.ifCond .ne 8, 3) := by decide +kernel
theorem dX5_take_58 : decode cX5_take 58 = .ok (.aload_n 0, 1) := by decide +kernel
theorem dX5_take_59 : decode cX5_take 59 = .ok (.iload_n 1, 1) := by decide +kernel
theorem dX5_take_60 : decode cX5_take 60 = .ok (.invokevirtual 52, 3) := by decide +kernel
theorem dX5_take_63 : decode cX5_take 63 = .ok (.aload_n 0, 1) := by decide +kernel
theorem dX5_take_64 : decode cX5_take 64 = .ok (.dup, 1) := by decide +kernel
theorem dX5_take_65 : decode cX5_take 65 = .ok (.getfield 39, 3) := by decide +kernel
theorem dX5_take_68 : decode cX5_take 68 = .ok (.iconst 1, 1) := by decide +kernel
theorem dX5_take_69 : decode cX5_take 69 = .ok (.iadd, 1) := by decide +kernel
theorem dX5_take_70 : decode cX5_take 70 = .ok (.putfield 39, 3) := by decide +kernel
theorem dX5_take_73 : decode cX5_take 73 = .ok (.aload_n 0, 1) := by decide +kernel
theorem dX5_take_74 : decode cX5_take 74 = .ok (.getfield 20, 3) := by decide +kernel
theorem dX5_take_77 : decode cX5_take 77 = .ok (.iload_n 1, 1) := by decide +kernel
theorem dX5_take_78 : decode cX5_take 78 = .ok (.bipush 100, 2) := by decide +kernel
theorem dX5_take_80 : decode cX5_take 80 = .ok (.idiv, 1) := by decide +kernel
theorem dX5_take_81 : decode cX5_take 81 = .ok (.aload_n 0, 1) := by decide +kernel
theorem dX5_take_82 : decode cX5_take 82 = .ok (.getfield 39, 3) := by decide +kernel
theorem dX5_take_85 : decode cX5_take 85 = .ok (.iastore, 1) := by decide +kernel
theorem dX5_take_86 : decode cX5_take 86 = .ok (.return_, 1) := by decide +kernel
theorem dX5_countBeyond_0 : decode cX5_countBeyond 0 = .ok (.iconst 0, 1) := by decide +kernel
theorem dX5_countBeyond_1 : decode cX5_countBeyond 1 = .ok (.istore_n 2, 1) := by decide +kernel
theorem dX5_countBeyond_2 : decode cX5_countBeyond 2 = .ok (.iconst 0, 1) := by decide +kernel
theorem dX5_countBeyond_3 : decode cX5_countBeyond 3 = .ok (.istore_n 3, 1) := by decide +kernel
theorem dX5_countBeyond_4 : decode cX5_countBeyond 4 = .ok (.iload_n 3, 1) := by decide +kernel
theorem dX5_countBeyond_5 : decode cX5_countBeyond 5 = .ok (.bipush 100, 2) := by decide +kernel
theorem dX5_countBeyond_7 : decode cX5_countBeyond 7 = .ok (.if_icmp .ge 30, 3) := by decide +kernel
theorem dX5_countBeyond_10 : decode cX5_countBeyond 10 = .ok (.iload_n 2, 1) := by decide +kernel
theorem dX5_countBeyond_11 : decode cX5_countBeyond 11 = .ok (.aload_n 0, 1) := by decide +kernel
theorem dX5_countBeyond_12 : decode cX5_countBeyond 12 = .ok (.getfield 11, 3) := by decide +kernel
theorem dX5_countBeyond_15 : decode cX5_countBeyond 15 = .ok (.iload_n 3, 1) := by decide +kernel
theorem dX5_countBeyond_16 : decode cX5_countBeyond 16 = .ok (.iaload, 1) := by decide +kernel
theorem dX5_countBeyond_17 : decode cX5_countBeyond 17 = .ok (.aload_n 1, 1) := by decide +kernel
theorem dX5_countBeyond_18 : decode cX5_countBeyond 18 = .ok (.getfield 11, 3) := by decide +kernel
theorem dX5_countBeyond_21 : decode cX5_countBeyond 21 = .ok (.iload_n 3, 1) := by decide +kernel
theorem dX5_countBeyond_22 : decode cX5_countBeyond 22 = .ok (.iaload, 1) := by decide +kernel
theorem dX5_countBeyond_23 : decode cX5_countBeyond 23 = .ok (.iconst (-1), 1) := by decide +kernel
theorem dX5_countBeyond_24 : decode cX5_countBeyond 24 = .ok (.ixor, 1) := by decide +kernel
theorem dX5_countBeyond_25 : decode cX5_countBeyond 25 = .ok (.iand, 1) := by decide +kernel
theorem dX5_countBeyond_26 : decode cX5_countBeyond 26 = .ok (.invokestatic 55, 3) := by decide +kernel
theorem dX5_countBeyond_29 : decode cX5_countBeyond 29 = .ok (.iadd, 1) := by decide +kernel
theorem dX5_countBeyond_30 : decode cX5_countBeyond 30 = .ok (.istore_n 2, 1) := by decide +kernel
theorem dX5_countBeyond_31 : decode cX5_countBeyond 31 = .ok (.iinc 3 1, 3) := by decide +kernel
theorem dX5_countBeyond_34 : decode cX5_countBeyond 34 = .ok (.goto (-30), 3) := by decide +kernel
theorem dX5_countBeyond_37 : decode cX5_countBeyond 37 = .ok (.iload_n 2, 1) := by decide +kernel
theorem dX5_countBeyond_38 : decode cX5_countBeyond 38 = .ok (.ireturn, 1) := by decide +kernel
theorem dX6_init_0 : decode cX6_init 0 = .ok (.aload_n 0, 1) := by decide +kernel
theorem dX6_init_1 : decode cX6_init 1 = .ok (.invokespecial 3, 3) := by decide +kernel
theorem dX6_init_4 : decode cX6_init 4 = .ok (.aload_n 0, 1) := by decide +kernel
theorem dX6_init_5 : decode cX6_init 5 = .ok (.bipush 10, 2) := by decide +kernel
theorem dX6_init_7 : decode cX6_init 7 = .ok (.newarray .long, 2) := by decide +kernel
theorem dX6_init_9 : decode cX6_init 9 = .ok (.putfield 9, 3) := by decide +kernel
theorem dX6_init_12 : decode cX6_init 12 = .ok (.return_, 1) := by decide +kernel
theorem dX6_has_0 : decode cX6_has 0 = .ok (.iload_n 1, 1) := by decide +kernel
theorem dX6_has_1 : decode cX6_has 1 = .ok (.ifCond .lt 15, 3) := by decide +kernel
theorem dX6_has_4 : decode cX6_has 4 = .ok (.iload_n 1, 1) := by decide +kernel
theorem dX6_has_5 : decode cX6_has 5 = .ok (.aload_n 0, 1) := by decide +kernel
theorem dX6_has_6 : decode cX6_has 6 = .ok (.getfield 15, 3) := by decide +kernel
theorem dX6_has_9 : decode cX6_has 9 = .ok (.if_icmp .ge 7, 3) := by decide +kernel
theorem dX6_has_12 : decode cX6_has 12 = .ok (.iconst 1, 1) := by decide +kernel
theorem dX6_has_13 : decode cX6_has 13 = .ok (.goto 4, 3) := by decide +kernel
theorem dX6_has_16 : decode cX6_has 16 = .ok (.iconst 0, 1) := by decide +kernel
theorem dX6_has_17 : decode cX6_has 17 = .ok (.ireturn, 1) := by decide +kernel
theorem dX6_findOrAdd_0 : decode cX6_findOrAdd 0 = .ok (.iconst 0, 1) := by decide +kernel
theorem dX6_findOrAdd_1 : decode cX6_findOrAdd 1 = .ok (.istore_n 3, 1) := by decide +kernel
theorem dX6_findOrAdd_2 : decode cX6_findOrAdd 2 = .ok (.iload_n 3, 1) := by decide +kernel
theorem dX6_findOrAdd_3 : decode cX6_findOrAdd 3 = .ok (.aload_n 0, 1) := by decide +kernel
theorem dX6_findOrAdd_4 : decode cX6_findOrAdd 4 = .ok (.getfield 15, 3) := by decide +kernel
theorem dX6_findOrAdd_7 : decode cX6_findOrAdd 7 = .ok (.if_icmp .ge 22, 3) := by decide +kernel
theorem dX6_findOrAdd_10 : decode cX6_findOrAdd 10 = .ok (.aload_n 0, 1) := by decide +kernel
theorem dX6_findOrAdd_11 : decode cX6_findOrAdd 11 = .ok (.getfield 9, 3) := by decide +kernel
theorem dX6_findOrAdd_14 : decode cX6_findOrAdd 14 = .ok (.iload_n 3, 1) := by decide +kernel
theorem dX6_findOrAdd_15 : decode cX6_findOrAdd 15 = .ok (.laload, 1) := by decide +kernel
theorem dX6_findOrAdd_16 : decode cX6_findOrAdd 16 = .ok (.lload_n 1, 1) := by decide +kernel
theorem dX6_findOrAdd_17 : decode cX6_findOrAdd 17 = .ok (.lcmp, 1) := by decide +kernel
theorem dX6_findOrAdd_18 : decode cX6_findOrAdd 18 = .ok (.ifCond .ne 5, 3) := by decide +kernel
theorem dX6_findOrAdd_21 : decode cX6_findOrAdd 21 = .ok (.iload_n 3, 1) := by decide +kernel
theorem dX6_findOrAdd_22 : decode cX6_findOrAdd 22 = .ok (.ireturn, 1) := by decide +kernel
theorem dX6_findOrAdd_23 : decode cX6_findOrAdd 23 = .ok (.iinc 3 1, 3) := by decide +kernel
theorem dX6_findOrAdd_26 : decode cX6_findOrAdd 26 = .ok (.goto (-24), 3) := by decide +kernel
theorem dX6_findOrAdd_29 : decode cX6_findOrAdd 29 = .ok (.aload_n 0, 1) := by decide +kernel
theorem dX6_findOrAdd_30 : decode cX6_findOrAdd 30 = .ok (.getfield 15, 3) := by decide +kernel
theorem dX6_findOrAdd_33 : decode cX6_findOrAdd 33 = .ok (.bipush 10, 2) := by decide +kernel
theorem dX6_findOrAdd_35 : decode cX6_findOrAdd 35 = .ok (.if_icmp .lt 5, 3) := by decide +kernel
theorem dX6_findOrAdd_38 : decode cX6_findOrAdd 38 = .ok (.iconst (-1), 1) := by decide +kernel
theorem dX6_findOrAdd_39 : decode cX6_findOrAdd 39 = .ok (.ireturn, 1) := by decide +kernel
theorem dX6_findOrAdd_40 : decode cX6_findOrAdd 40 = .ok (.aload_n 0, 1) := by decide +kernel
theorem dX6_findOrAdd_41 : decode cX6_findOrAdd 41 = .ok (.getfield 9, 3) := by decide +kernel
theorem dX6_findOrAdd_44 : decode cX6_findOrAdd 44 = .ok (.aload_n 0, 1) := by decide +kernel
theorem dX6_findOrAdd_45 : decode cX6_findOrAdd 45 = .ok (.getfield 15, 3) := by decide +kernel
theorem dX6_findOrAdd_48 : decode cX6_findOrAdd 48 = .ok (.lload_n 1, 1) := by decide +kernel
theorem dX6_findOrAdd_49 : decode cX6_findOrAdd 49 = .ok (.lastore, 1) := by decide +kernel
theorem dX6_findOrAdd_50 : decode cX6_findOrAdd 50 = .ok (.aload_n 0, 1) := by decide +kernel
theorem dX6_findOrAdd_51 : decode cX6_findOrAdd 51 = .ok (.dup, 1) := by decide +kernel
theorem dX6_findOrAdd_52 : decode cX6_findOrAdd 52 = .ok (.getfield 15, 3) := by decide +kernel
theorem dX6_findOrAdd_55 : decode cX6_findOrAdd 55 = .ok (.iconst 1, 1) := by decide +kernel
theorem dX6_findOrAdd_56 : decode cX6_findOrAdd 56 = .ok (.iadd, 1) := by decide +kernel
theorem dX6_findOrAdd_57 : decode cX6_findOrAdd 57 = .ok (.putfield 15, 3) := by decide +kernel
theorem dX6_findOrAdd_60 : decode cX6_findOrAdd 60 = .ok (.aload_n 0, 1) := by decide +kernel
theorem dX6_findOrAdd_61 : decode cX6_findOrAdd 61 = .ok (.getfield 15, 3) := by decide +kernel
theorem dX6_findOrAdd_64 : decode cX6_findOrAdd 64 = .ok (.iconst 1, 1) := by decide +kernel
theorem dX6_findOrAdd_65 : decode cX6_findOrAdd 65 = .ok (.isub, 1) := by decide +kernel
theorem dX6_findOrAdd_66 : decode cX6_findOrAdd 66 = .ok (.ireturn, 1) := by decide +kernel
theorem dX6_letter_0 : decode cX6_letter 0 = .ok (.aload_n 0, 1) := by decide +kernel
theorem dX6_letter_1 : decode cX6_letter 1 = .ok (.iload_n 1, 1) := by decide +kernel
theorem dX6_letter_2 : decode cX6_letter 2 = .ok (.invokevirtual 19, 3) := by decide +kernel
theorem dX6_letter_5 : decode cX6_letter 5 = .ok (.ifCond .eq 13, 3) := by decide +kernel
theorem dX6_letter_8 : decode cX6_letter 8 = .ok (.iload_n 2, 1) := by decide +kernel
theorem dX6_letter_9 : decode cX6_letter 9 = .ok (.ifCond .lt 9, 3) := by decide +kernel
theorem dX6_letter_12 : decode cX6_letter 12 = .ok (.iload_n 2, 1) := by decide +kernel
theorem dX6_letter_13 : decode cX6_letter 13 = .ok (.bipush 8, 2) := by decide +kernel
theorem dX6_letter_15 : decode cX6_letter 15 = .ok (.if_icmp .lt 5, 3) := by decide +kernel
theorem dX6_letter_18 : decode cX6_letter 18 = .ok (.iconst (-1), 1) := by decide +kernel
theorem dX6_letter_19 : decode cX6_letter 19 = .ok (.ireturn, 1) := by decide +kernel
theorem dX6_letter_20 : decode cX6_letter 20 = .ok (.aload_n 0, 1) := by decide +kernel
theorem dX6_letter_21 : decode cX6_letter 21 = .ok (.getfield 9, 3) := by decide +kernel
theorem dX6_letter_24 : decode cX6_letter 24 = .ok (.iload_n 1, 1) := by decide +kernel
theorem dX6_letter_25 : decode cX6_letter 25 = .ok (.laload, 1) := by decide +kernel
theorem dX6_letter_26 : decode cX6_letter 26 = .ok (.bipush 8, 2) := by decide +kernel
theorem dX6_letter_28 : decode cX6_letter 28 = .ok (.iload_n 2, 1) := by decide +kernel
theorem dX6_letter_29 : decode cX6_letter 29 = .ok (.imul, 1) := by decide +kernel
theorem dX6_letter_30 : decode cX6_letter 30 = .ok (.lushr, 1) := by decide +kernel
theorem dX6_letter_31 : decode cX6_letter 31 = .ok (.l2i, 1) := by decide +kernel
theorem dX6_letter_32 : decode cX6_letter 32 = .ok (.sipush 255, 3) := by decide +kernel
theorem dX6_letter_35 : decode cX6_letter 35 = .ok (.iand, 1) := by decide +kernel
theorem dX6_letter_36 : decode cX6_letter 36 = .ok (.istore_n 3, 1) := by decide +kernel
theorem dX6_letter_37 : decode cX6_letter 37 = .ok (.iload_n 3, 1) := by decide +kernel
theorem dX6_letter_38 : decode cX6_letter 38 = .ok (.ifCond .ne 7, 3) := by decide +kernel
theorem dX6_letter_41 : decode cX6_letter 41 = .ok (.iconst (-1), 1) := by decide +kernel
theorem dX6_letter_42 : decode cX6_letter 42 = .ok (.goto 4, 3) := by decide +kernel
theorem dX6_letter_45 : decode cX6_letter 45 = .ok (.iload_n 3, 1) := by decide +kernel
theorem dX6_letter_46 : decode cX6_letter 46 = .ok (.ireturn, 1) := by decide +kernel
theorem dX7_init_0 : decode cX7_init 0 = .ok (.aload_n 0, 1) := by decide +kernel
theorem dX7_init_1 : decode cX7_init 1 = .ok (.invokespecial 3, 3) := by decide +kernel
theorem dX7_init_4 : decode cX7_init 4 = .ok (.aload_n 0, 1) := by decide +kernel
theorem dX7_init_5 : decode cX7_init 5 = .ok (.new 9, 3) := by decide +kernel
theorem dX7_init_8 : decode cX7_init 8 = .ok (.dup, 1) := by decide +kernel
theorem dX7_init_9 : decode cX7_init 9 = .ok (.invokespecial 11, 3) := by decide +kernel
theorem dX7_init_12 : decode cX7_init 12 = .ok (.putfield 12, 3) := by decide +kernel
theorem dX7_init_15 : decode cX7_init 15 = .ok (.aload_n 0, 1) := by decide +kernel
theorem dX7_init_16 : decode cX7_init 16 = .ok (.sipush 200, 3) := by decide +kernel
theorem dX7_init_19 : decode cX7_init 19 = .ok (.newarray .int, 2) := by decide +kernel
theorem dX7_init_21 : decode cX7_init 21 = .ok (.putfield 18, 3) := by decide +kernel
theorem dX7_init_24 : decode cX7_init 24 = .ok (.aload_n 0, 1) := by decide +kernel
theorem dX7_init_25 : decode cX7_init 25 = .ok (.aload_n 1, 1) := by decide +kernel
theorem dX7_init_26 : decode cX7_init 26 = .ok (.putfield 22, 3) := by decide +kernel
theorem dX7_init_29 : decode cX7_init 29 = .ok (.return_, 1) := by decide +kernel
theorem dX7_read_0 : decode cX7_read 0 = .ok (.aload_n 0, 1) := by decide +kernel
theorem dX7_read_1 : decode cX7_read 1 = .ok (.getfield 22, 3) := by decide +kernel
theorem dX7_read_4 : decode cX7_read 4 = .ok (.getfield 26, 3) := by decide +kernel
theorem dX7_read_7 : decode cX7_read 7 = .ok (.getfield 32, 3) := by decide +kernel
theorem dX7_read_10 : decode cX7_read 10 = .ok (.istore_n 3, 1) := by decide +kernel
theorem dX7_read_11 : decode cX7_read 11 = .ok (.aload_n 0, 1) := by decide +kernel
theorem dX7_read_12 : decode cX7_read 12 = .ok (.getfield 22, 3) := by decide +kernel
theorem dX7_read_15 : decode cX7_read 15 = .ok (.getfield 38, 3) := by decide +kernel
theorem dX7_read_18 : decode cX7_read 18 = .ok (.getfield 32, 3) := by decide +kernel
theorem dX7_read_21 : decode cX7_read 21 = .ok (.istore 4, 2) := by decide +kernel
theorem dX7_read_23 : decode cX7_read 23 = .ok (.aload_n 0, 1) := by decide +kernel
theorem dX7_read_24 : decode cX7_read 24 = .ok (.getfield 22, 3) := by decide +kernel
theorem dX7_read_27 : decode cX7_read 27 = .ok (.getfield 41, 3) := by decide +kernel
theorem dX7_read_30 : decode cX7_read 30 = .ok (.istore 5, 2) := by decide +kernel
theorem dX7_read_32 : decode cX7_read 32 = .ok (.aload_n 0, 1) := by decide +kernel
theorem dX7_read_33 : decode cX7_read 33 = .ok (.getfield 12, 3) := by decide +kernel
theorem dX7_read_36 : decode cX7_read 36 = .ok (.aload_n 1, 1) := by decide +kernel
theorem dX7_read_37 : decode cX7_read 37 = .ok (.iload_n 2, 1) := by decide +kernel
theorem dX7_read_38 : decode cX7_read 38 = .ok (.invokevirtual 44, 3) := by decide +kernel
theorem dX7_read_41 : decode cX7_read 41 = .ok (.aload_n 0, 1) := by decide +kernel
theorem dX7_read_42 : decode cX7_read 42 = .ok (.iconst 0, 1) := by decide +kernel
theorem dX7_read_43 : decode cX7_read 43 = .ok (.putfield 48, 3) := by decide +kernel
theorem dX7_read_46 : decode cX7_read 46 = .ok (.aload_n 0, 1) := by decide +kernel
theorem dX7_read_47 : decode cX7_read 47 = .ok (.iconst 0, 1) := by decide +kernel
theorem dX7_read_48 : decode cX7_read 48 = .ok (.putfield 51, 3) := by decide +kernel
theorem dX7_read_51 : decode cX7_read 51 = .ok (.aload_n 0, 1) := by decide +kernel
theorem dX7_read_52 : decode cX7_read 52 = .ok (.iconst 0, 1) := by decide +kernel
theorem dX7_read_53 : decode cX7_read 53 = .ok (.putfield 54, 3) := by decide +kernel
theorem dX7_read_56 : decode cX7_read 56 = .ok (.aload_n 0, 1) := by decide +kernel
theorem dX7_read_57 : decode cX7_read 57 = .ok (.iconst 0, 1) := by decide +kernel
theorem dX7_read_58 : decode cX7_read 58 = .ok (.putfield 57, 3) := by decide +kernel
theorem dX7_read_61 : decode cX7_read 61 = .ok (.aload_n 0, 1) := by decide +kernel
theorem dX7_read_62 : decode cX7_read 62 = .ok (.iconst (-1), 1) := by decide +kernel
theorem dX7_read_63 : decode cX7_read 63 = .ok (.putfield 60, 3) := by decide +kernel
theorem dX7_read_66 : decode cX7_read 66 = .ok (.iconst 1, 1) := by decide +kernel
theorem dX7_read_67 : decode cX7_read 67 = .ok (.istore 6, 2) := by decide +kernel
theorem dX7_read_69 : decode cX7_read 69 = .ok (.iload 6, 2) := by decide +kernel
theorem dX7_read_71 : decode cX7_read 71 = .ok (.ifCond .eq 61, 3) := by decide +kernel
theorem dX7_read_74 : decode cX7_read 74 = .ok (.aload_n 0, 1) := by decide +kernel
theorem dX7_read_75 : decode cX7_read 75 = .ok (.getfield 54, 3) := by decide +kernel
theorem dX7_read_78 : decode cX7_read 78 = .ok (.sipush 200, 3) := by decide +kernel
theorem dX7_read_81 : decode cX7_read 81 = .ok (.if_icmp .ge 51, 3) := by decide +kernel
theorem dX7_read_84 : decode cX7_read 84 = .ok (.aload_n 0, 1) := by decide +kernel
theorem dX7_read_85 : decode cX7_read 85 = .ok (.getfield 54, 3) := by decide +kernel
theorem dX7_read_88 : decode cX7_read 88 = .ok (.ifCond .eq 10, 3) := by decide +kernel
theorem dX7_read_91 : decode cX7_read 91 = .ok (.aload_n 0, 1) := by decide +kernel
theorem dX7_read_92 : decode cX7_read 92 = .ok (.invokevirtual 63, 3) := by decide +kernel
theorem dX7_read_95 : decode cX7_read 95 = .ok (.ifCond .eq 37, 3) := by decide +kernel
theorem dX7_read_98 : decode cX7_read 98 = .ok (.aload_n 0, 1) := by decide +kernel
theorem dX7_read_99 : decode cX7_read 99 = .ok (.aload_n 0, 1) := by decide +kernel
theorem dX7_read_100 : decode cX7_read 100 = .ok (.getfield 22, 3) := by decide +kernel
theorem dX7_read_103 : decode cX7_read 103 = .ok (.getfield 67, 3) := by decide +kernel
theorem dX7_read_106 : decode cX7_read 106 = .ok (.aload_n 0, 1) := by decide +kernel
theorem dX7_read_107 : decode cX7_read 107 = .ok (.getfield 22, 3) := by decide +kernel
theorem dX7_read_110 : decode cX7_read 110 = .ok (.getfield 41, 3) := by decide +kernel
theorem dX7_read_113 : decode cX7_read 113 = .ok (.aaload, 1) := by decide +kernel
theorem dX7_read_114 : decode cX7_read 114 = .ok (.invokevirtual 71, 3) := by decide +kernel
theorem dX7_read_117 : decode cX7_read 117 = .ok (.istore 6, 2) := by decide +kernel
theorem dX7_read_119 : decode cX7_read 119 = .ok (.aload_n 0, 1) := by decide +kernel
theorem dX7_read_120 : decode cX7_read 120 = .ok (.dup, 1) := by decide +kernel
theorem dX7_read_121 : decode cX7_read 121 = .ok (.getfield 54, 3) := by decide +kernel
theorem dX7_read_124 : decode cX7_read 124 = .ok (.iconst 1, 1) := by decide +kernel
theorem dX7_read_125 : decode cX7_read 125 = .ok (.iadd, 1) := by decide +kernel
theorem dX7_read_126 : decode cX7_read 126 = .ok (.putfield 54, 3) := by decide +kernel
theorem dX7_read_129 : decode cX7_read 129 = .ok (.goto (-60), 3) := by decide +kernel
theorem dX7_read_132 : decode cX7_read 132 = .ok (.iload 6, 2) := by decide +kernel
theorem dX7_read_134 : decode cX7_read 134 = .ok (.ifCond .eq 48, 3) := by decide +kernel
theorem dX7_read_137 : decode cX7_read 137 = .ok (.aload_n 0, 1) := by decide +kernel
theorem dX7_read_138 : decode cX7_read 138 = .ok (.iload 5, 2) := by decide +kernel
theorem dX7_read_140 : decode cX7_read 140 = .ok (.invokevirtual 75, 3) := by decide +kernel
theorem dX7_read_143 : decode cX7_read 143 = .ok (.ifCond .eq 39, 3) := by decide +kernel
theorem dX7_read_146 : decode cX7_read 146 = .ok (.iconst 0, 1) := by decide +kernel
theorem dX7_read_147 : decode cX7_read 147 = .ok (.istore 7, 2) := by decide +kernel
theorem dX7_read_149 : decode cX7_read 149 = .ok (.iload 7, 2) := by decide +kernel
theorem dX7_read_151 : decode cX7_read 151 = .ok (.aload_n 0, 1) := by decide +kernel
theorem dX7_read_152 : decode cX7_read 152 = .ok (.getfield 51, 3) := by decide +kernel
theorem dX7_read_155 : decode cX7_read 155 = .ok (.if_icmp .ge 25, 3) := by decide +kernel
theorem dX7_read_158 : decode cX7_read 158 = .ok (.aload_n 0, 1) := by decide +kernel
theorem dX7_read_159 : decode cX7_read 159 = .ok (.getfield 22, 3) := by decide +kernel
theorem dX7_read_162 : decode cX7_read 162 = .ok (.aload_n 0, 1) := by decide +kernel
theorem dX7_read_163 : decode cX7_read 163 = .ok (.getfield 18, 3) := by decide +kernel
theorem dX7_read_166 : decode cX7_read 166 = .ok (.iload 7, 2) := by decide +kernel
theorem dX7_read_168 : decode cX7_read 168 = .ok (.iaload, 1) := by decide +kernel
theorem dX7_read_169 : decode cX7_read 169 = .ok (.iconst 1, 1) := by decide +kernel
theorem dX7_read_170 : decode cX7_read 170 = .ok (.invokevirtual 79, 3) := by decide +kernel
theorem dX7_read_173 : decode cX7_read 173 = .ok (.pop, 1) := by decide +kernel
theorem dX7_read_174 : decode cX7_read 174 = .ok (.iinc 7 1, 3) := by decide +kernel
theorem dX7_read_177 : decode cX7_read 177 = .ok (.goto (-28), 3) := by decide +kernel
theorem dX7_read_180 : decode cX7_read 180 = .ok (.iconst 1, 1) := by decide +kernel
theorem dX7_read_181 : decode cX7_read 181 = .ok (.ireturn, 1) := by decide +kernel
theorem dX7_read_182 : decode cX7_read 182 = .ok (.aload_n 0, 1) := by decide +kernel
theorem dX7_read_183 : decode cX7_read 183 = .ok (.getfield 22, 3) := by decide +kernel
theorem dX7_read_186 : decode cX7_read 186 = .ok (.getfield 26, 3) := by decide +kernel
theorem dX7_read_189 : decode cX7_read 189 = .ok (.iload_n 3, 1) := by decide +kernel
theorem dX7_read_190 : decode cX7_read 190 = .ok (.putfield 32, 3) := by decide +kernel
theorem dX7_read_193 : decode cX7_read 193 = .ok (.aload_n 0, 1) := by decide +kernel
theorem dX7_read_194 : decode cX7_read 194 = .ok (.getfield 22, 3) := by decide +kernel
theorem dX7_read_197 : decode cX7_read 197 = .ok (.getfield 38, 3) := by decide +kernel
theorem dX7_read_200 : decode cX7_read 200 = .ok (.iload 4, 2) := by decide +kernel
theorem dX7_read_202 : decode cX7_read 202 = .ok (.putfield 32, 3) := by decide +kernel
theorem dX7_read_205 : decode cX7_read 205 = .ok (.aload_n 0, 1) := by decide +kernel
theorem dX7_read_206 : decode cX7_read 206 = .ok (.getfield 22, 3) := by decide +kernel
theorem dX7_read_209 : decode cX7_read 209 = .ok (.iload 5, 2) := by decide +kernel
theorem dX7_read_211 : decode cX7_read 211 = .ok (.putfield 41, 3) := by decide +kernel
theorem dX7_read_214 : decode cX7_read 214 = .ok (.aload_n 0, 1) := by decide +kernel
theorem dX7_read_215 : decode cX7_read 215 = .ok (.getfield 22, 3) := by decide +kernel
theorem dX7_read_218 : decode cX7_read 218 = .ok (.getfield 83, 3) := by decide +kernel
theorem dX7_read_221 : decode cX7_read 221 = .ok (.aload_n 0, 1) := by decide +kernel
theorem dX7_read_222 : decode cX7_read 222 = .ok (.getfield 22, 3) := by decide +kernel
theorem dX7_read_225 : decode cX7_read 225 = .ok (.getfield 67, 3) := by decide +kernel
theorem dX7_read_228 : decode cX7_read 228 = .ok (.iload 5, 2) := by decide +kernel
theorem dX7_read_230 : decode cX7_read 230 = .ok (.invokevirtual 87, 3) := by decide +kernel
theorem dX7_read_233 : decode cX7_read 233 = .ok (.pop, 1) := by decide +kernel
theorem dX7_read_234 : decode cX7_read 234 = .ok (.iconst 0, 1) := by decide +kernel
theorem dX7_read_235 : decode cX7_read 235 = .ok (.ireturn, 1) := by decide +kernel
theorem dX7_refusesNoneOfItself_0 : decode cX7_refusesNoneOfItself 0 = .ok (.aload_n 0, 1) := by decide +kernel
theorem dX7_refusesNoneOfItself_1 : decode cX7_refusesNoneOfItself 1 = .ok (.getfield 22, 3) := by decide +kernel
theorem dX7_refusesNoneOfItself_4 : decode cX7_refusesNoneOfItself 4 = .ok (.getfield 83, 3) := by decide +kernel
theorem dX7_refusesNoneOfItself_7 : decode cX7_refusesNoneOfItself 7 = .ok (.aload_n 0, 1) := by decide +kernel
theorem dX7_refusesNoneOfItself_8 : decode cX7_refusesNoneOfItself 8 = .ok (.getfield 22, 3) := by decide +kernel
theorem dX7_refusesNoneOfItself_11 : decode cX7_refusesNoneOfItself 11 = .ok (.getfield 67, 3) := by decide +kernel
theorem dX7_refusesNoneOfItself_14 : decode cX7_refusesNoneOfItself 14 = .ok (.aload_n 0, 1) := by decide +kernel
theorem dX7_refusesNoneOfItself_15 : decode cX7_refusesNoneOfItself 15 = .ok (.getfield 22, 3) := by decide +kernel
theorem dX7_refusesNoneOfItself_18 : decode cX7_refusesNoneOfItself 18 = .ok (.getfield 41, 3) := by decide +kernel
theorem dX7_refusesNoneOfItself_21 : decode cX7_refusesNoneOfItself 21 = .ok (.invokevirtual 87, 3) := by decide +kernel
theorem dX7_refusesNoneOfItself_24 : decode cX7_refusesNoneOfItself 24 = .ok (.ifCond .eq 5, 3) := by decide +kernel
theorem dX7_refusesNoneOfItself_27 : decode cX7_refusesNoneOfItself 27 = .ok (.iconst 1, 1) := by decide +kernel
theorem dX7_refusesNoneOfItself_28 : decode cX7_refusesNoneOfItself 28 = .ok (.ireturn, 1) := by decide +kernel
theorem dX7_refusesNoneOfItself_29 : decode cX7_refusesNoneOfItself 29 = .ok (.iload_n 1, 1) := by decide +kernel
theorem dX7_refusesNoneOfItself_30 : decode cX7_refusesNoneOfItself 30 = .ok (.istore_n 2, 1) := by decide +kernel
theorem dX7_refusesNoneOfItself_31 : decode cX7_refusesNoneOfItself 31 = .ok (.iload_n 2, 1) := by decide +kernel
theorem dX7_refusesNoneOfItself_32 : decode cX7_refusesNoneOfItself 32 = .ok (.aload_n 0, 1) := by decide +kernel
theorem dX7_refusesNoneOfItself_33 : decode cX7_refusesNoneOfItself 33 = .ok (.getfield 22, 3) := by decide +kernel
theorem dX7_refusesNoneOfItself_36 : decode cX7_refusesNoneOfItself 36 = .ok (.getfield 41, 3) := by decide +kernel
theorem dX7_refusesNoneOfItself_39 : decode cX7_refusesNoneOfItself 39 = .ok (.if_icmp .ge 54, 3) := by decide +kernel
theorem dX7_refusesNoneOfItself_42 : decode cX7_refusesNoneOfItself 42 = .ok (.aload_n 0, 1) := by decide +kernel
theorem dX7_refusesNoneOfItself_43 : decode cX7_refusesNoneOfItself 43 = .ok (.getfield 22, 3) := by decide +kernel
theorem dX7_refusesNoneOfItself_46 : decode cX7_refusesNoneOfItself 46 = .ok (.getfield 83, 3) := by decide +kernel
theorem dX7_refusesNoneOfItself_49 : decode cX7_refusesNoneOfItself 49 = .ok (.aload_n 0, 1) := by decide +kernel
theorem dX7_refusesNoneOfItself_50 : decode cX7_refusesNoneOfItself 50 = .ok (.getfield 22, 3) := by decide +kernel
theorem dX7_refusesNoneOfItself_53 : decode cX7_refusesNoneOfItself 53 = .ok (.getfield 67, 3) := by decide +kernel
theorem dX7_refusesNoneOfItself_56 : decode cX7_refusesNoneOfItself 56 = .ok (.iload_n 2, 1) := by decide +kernel
theorem dX7_refusesNoneOfItself_57 : decode cX7_refusesNoneOfItself 57 = .ok (.iconst 1, 1) := by decide +kernel
theorem dX7_refusesNoneOfItself_58 : decode cX7_refusesNoneOfItself 58 = .ok (.iadd, 1) := by decide +kernel
theorem dX7_refusesNoneOfItself_59 : decode cX7_refusesNoneOfItself 59 = .ok (.invokevirtual 87, 3) := by decide +kernel
theorem dX7_refusesNoneOfItself_62 : decode cX7_refusesNoneOfItself 62 = .ok (.ifCond .ne 25, 3) := by decide +kernel
theorem dX7_refusesNoneOfItself_65 : decode cX7_refusesNoneOfItself 65 = .ok (.aload_n 0, 1) := by decide +kernel
theorem dX7_refusesNoneOfItself_66 : decode cX7_refusesNoneOfItself 66 = .ok (.bipush 6, 2) := by decide +kernel
theorem dX7_refusesNoneOfItself_68 : decode cX7_refusesNoneOfItself 68 = .ok (.aload_n 0, 1) := by decide +kernel
theorem dX7_refusesNoneOfItself_69 : decode cX7_refusesNoneOfItself 69 = .ok (.getfield 22, 3) := by decide +kernel
theorem dX7_refusesNoneOfItself_72 : decode cX7_refusesNoneOfItself 72 = .ok (.getfield 67, 3) := by decide +kernel
theorem dX7_refusesNoneOfItself_75 : decode cX7_refusesNoneOfItself 75 = .ok (.iload_n 2, 1) := by decide +kernel
theorem dX7_refusesNoneOfItself_76 : decode cX7_refusesNoneOfItself 76 = .ok (.aaload, 1) := by decide +kernel
theorem dX7_refusesNoneOfItself_77 : decode cX7_refusesNoneOfItself 77 = .ok (.getfield 93, 3) := by decide +kernel
theorem dX7_refusesNoneOfItself_80 : decode cX7_refusesNoneOfItself 80 = .ok (.getfield 99, 3) := by decide +kernel
theorem dX7_refusesNoneOfItself_83 : decode cX7_refusesNoneOfItself 83 = .ok (.invokevirtual 104, 3) := by decide +kernel
theorem dX7_refusesNoneOfItself_86 : decode cX7_refusesNoneOfItself 86 = .ok (.ireturn, 1) := by decide +kernel
theorem dX7_refusesNoneOfItself_87 : decode cX7_refusesNoneOfItself 87 = .ok (.iinc 2 1, 3) := by decide +kernel
theorem dX7_refusesNoneOfItself_90 : decode cX7_refusesNoneOfItself 90 = .ok (.goto (-59), 3) := by decide +kernel
theorem dX7_refusesNoneOfItself_93 : decode cX7_refusesNoneOfItself 93 = .ok (.iconst 1, 1) := by decide +kernel
theorem dX7_refusesNoneOfItself_94 : decode cX7_refusesNoneOfItself 94 = .ok (.ireturn, 1) := by decide +kernel
theorem dX7_readClause_0 : decode cX7_readClause 0 = .ok (.aload_n 1, 1) := by decide +kernel
theorem dX7_readClause_1 : decode cX7_readClause 1 = .ok (.invokevirtual 108, 3) := by decide +kernel
theorem dX7_readClause_4 : decode cX7_readClause 4 = .ok (.aload_n 1, 1) := by decide +kernel
theorem dX7_readClause_5 : decode cX7_readClause 5 = .ok (.getfield 93, 3) := by decide +kernel
theorem dX7_readClause_8 : decode cX7_readClause 8 = .ok (.iconst 0, 1) := by decide +kernel
theorem dX7_readClause_9 : decode cX7_readClause 9 = .ok (.invokevirtual 111, 3) := by decide +kernel
theorem dX7_readClause_12 : decode cX7_readClause 12 = .ok (.aload_n 0, 1) := by decide +kernel
theorem dX7_readClause_13 : decode cX7_readClause 13 = .ok (.aload_n 1, 1) := by decide +kernel
theorem dX7_readClause_14 : decode cX7_readClause 14 = .ok (.aload_n 1, 1) := by decide +kernel
theorem dX7_readClause_15 : decode cX7_readClause 15 = .ok (.getfield 93, 3) := by decide +kernel
theorem dX7_readClause_18 : decode cX7_readClause 18 = .ok (.invokevirtual 114, 3) := by decide +kernel
theorem dX7_readClause_21 : decode cX7_readClause 21 = .ok (.ifCond .ne 5, 3) := by decide +kernel
theorem dX7_readClause_24 : decode cX7_readClause 24 = .ok (.iconst 0, 1) := by decide +kernel
theorem dX7_readClause_25 : decode cX7_readClause 25 = .ok (.ireturn, 1) := by decide +kernel
theorem dX7_readClause_26 : decode cX7_readClause 26 = .ok (.aload_n 0, 1) := by decide +kernel
theorem dX7_readClause_27 : decode cX7_readClause 27 = .ok (.invokevirtual 63, 3) := by decide +kernel
theorem dX7_readClause_30 : decode cX7_readClause 30 = .ok (.bipush 46, 2) := by decide +kernel
theorem dX7_readClause_32 : decode cX7_readClause 32 = .ok (.if_icmp .ne 12, 3) := by decide +kernel
theorem dX7_readClause_35 : decode cX7_readClause 35 = .ok (.aload_n 0, 1) := by decide +kernel
theorem dX7_readClause_36 : decode cX7_readClause 36 = .ok (.aload_n 1, 1) := by decide +kernel
theorem dX7_readClause_37 : decode cX7_readClause 37 = .ok (.getfield 93, 3) := by decide +kernel
theorem dX7_readClause_40 : decode cX7_readClause 40 = .ok (.invokevirtual 118, 3) := by decide +kernel
theorem dX7_readClause_43 : decode cX7_readClause 43 = .ok (.ireturn, 1) := by decide +kernel
theorem dX7_readClause_44 : decode cX7_readClause 44 = .ok (.aload_n 0, 1) := by decide +kernel
theorem dX7_readClause_45 : decode cX7_readClause 45 = .ok (.invokevirtual 63, 3) := by decide +kernel
theorem dX7_readClause_48 : decode cX7_readClause 48 = .ok (.bipush 58, 2) := by decide +kernel
theorem dX7_readClause_50 : decode cX7_readClause 50 = .ok (.if_icmp .eq 13, 3) := by decide +kernel
theorem dX7_readClause_53 : decode cX7_readClause 53 = .ok (.aload_n 0, 1) := by decide +kernel
theorem dX7_readClause_54 : decode cX7_readClause 54 = .ok (.iconst 1, 1) := by decide +kernel
theorem dX7_readClause_55 : decode cX7_readClause 55 = .ok (.aload_n 0, 1) := by decide +kernel
theorem dX7_readClause_56 : decode cX7_readClause 56 = .ok (.invokevirtual 122, 3) := by decide +kernel
theorem dX7_readClause_59 : decode cX7_readClause 59 = .ok (.invokevirtual 104, 3) := by decide +kernel
theorem dX7_readClause_62 : decode cX7_readClause 62 = .ok (.ireturn, 1) := by decide +kernel
theorem dX7_readClause_63 : decode cX7_readClause 63 = .ok (.aload_n 0, 1) := by decide +kernel
theorem dX7_readClause_64 : decode cX7_readClause 64 = .ok (.getfield 22, 3) := by decide +kernel
theorem dX7_readClause_67 : decode cX7_readClause 67 = .ok (.getfield 41, 3) := by decide +kernel
theorem dX7_readClause_70 : decode cX7_readClause 70 = .ok (.bipush 20, 2) := by decide +kernel
theorem dX7_readClause_72 : decode cX7_readClause 72 = .ok (.if_icmp .lt 13, 3) := by decide +kernel
theorem dX7_readClause_75 : decode cX7_readClause 75 = .ok (.aload_n 0, 1) := by decide +kernel
theorem dX7_readClause_76 : decode cX7_readClause 76 = .ok (.iconst 4, 1) := by decide +kernel
theorem dX7_readClause_77 : decode cX7_readClause 77 = .ok (.aload_n 0, 1) := by decide +kernel
theorem dX7_readClause_78 : decode cX7_readClause 78 = .ok (.invokevirtual 122, 3) := by decide +kernel
theorem dX7_readClause_81 : decode cX7_readClause 81 = .ok (.invokevirtual 104, 3) := by decide +kernel
theorem dX7_readClause_84 : decode cX7_readClause 84 = .ok (.ireturn, 1) := by decide +kernel
theorem dX7_readClause_85 : decode cX7_readClause 85 = .ok (.iconst 0, 1) := by decide +kernel
theorem dX7_readClause_86 : decode cX7_readClause 86 = .ok (.istore_n 2, 1) := by decide +kernel
theorem dX7_readClause_87 : decode cX7_readClause 87 = .ok (.iload_n 2, 1) := by decide +kernel
theorem dX7_readClause_88 : decode cX7_readClause 88 = .ok (.iconst 4, 1) := by decide +kernel
theorem dX7_readClause_89 : decode cX7_readClause 89 = .ok (.if_icmp .ge 76, 3) := by decide +kernel
theorem dX7_readClause_92 : decode cX7_readClause 92 = .ok (.aload_n 0, 1) := by decide +kernel
theorem dX7_readClause_93 : decode cX7_readClause 93 = .ok (.dup, 1) := by decide +kernel
theorem dX7_readClause_94 : decode cX7_readClause 94 = .ok (.getfield 48, 3) := by decide +kernel
theorem dX7_readClause_97 : decode cX7_readClause 97 = .ok (.iconst 1, 1) := by decide +kernel
theorem dX7_readClause_98 : decode cX7_readClause 98 = .ok (.iadd, 1) := by decide +kernel
theorem dX7_readClause_99 : decode cX7_readClause 99 = .ok (.putfield 48, 3) := by decide +kernel
theorem dX7_readClause_102 : decode cX7_readClause 102 = .ok (.aload_n 1, 1) := by decide +kernel
theorem dX7_readClause_103 : decode cX7_readClause 103 = .ok (.iload_n 2, 1) := by decide +kernel
theorem dX7_readClause_104 : decode cX7_readClause 104 = .ok (.iconst 1, 1) := by decide +kernel
theorem dX7_readClause_105 : decode cX7_readClause 105 = .ok (.iadd, 1) := by decide +kernel
theorem dX7_readClause_106 : decode cX7_readClause 106 = .ok (.putfield 125, 3) := by decide +kernel
theorem dX7_readClause_109 : decode cX7_readClause 109 = .ok (.aload_n 0, 1) := by decide +kernel
theorem dX7_readClause_110 : decode cX7_readClause 110 = .ok (.aload_n 1, 1) := by decide +kernel
theorem dX7_readClause_111 : decode cX7_readClause 111 = .ok (.aload_n 1, 1) := by decide +kernel
theorem dX7_readClause_112 : decode cX7_readClause 112 = .ok (.getfield 126, 3) := by decide +kernel
theorem dX7_readClause_115 : decode cX7_readClause 115 = .ok (.iload_n 2, 1) := by decide +kernel
theorem dX7_readClause_116 : decode cX7_readClause 116 = .ok (.aaload, 1) := by decide +kernel
theorem dX7_readClause_117 : decode cX7_readClause 117 = .ok (.invokevirtual 130, 3) := by decide +kernel
theorem dX7_readClause_120 : decode cX7_readClause 120 = .ok (.ifCond .ne 5, 3) := by decide +kernel
theorem dX7_readClause_123 : decode cX7_readClause 123 = .ok (.iconst 0, 1) := by decide +kernel
theorem dX7_readClause_124 : decode cX7_readClause 124 = .ok (.ireturn, 1) := by decide +kernel
theorem dX7_readClause_125 : decode cX7_readClause 125 = .ok (.aload_n 0, 1) := by decide +kernel
theorem dX7_readClause_126 : decode cX7_readClause 126 = .ok (.invokevirtual 63, 3) := by decide +kernel
theorem dX7_readClause_129 : decode cX7_readClause 129 = .ok (.bipush 46, 2) := by decide +kernel
theorem dX7_readClause_131 : decode cX7_readClause 131 = .ok (.if_icmp .ne 9, 3) := by decide +kernel
theorem dX7_readClause_134 : decode cX7_readClause 134 = .ok (.aload_n 0, 1) := by decide +kernel
theorem dX7_readClause_135 : decode cX7_readClause 135 = .ok (.aload_n 1, 1) := by decide +kernel
theorem dX7_readClause_136 : decode cX7_readClause 136 = .ok (.invokevirtual 133, 3) := by decide +kernel
theorem dX7_readClause_139 : decode cX7_readClause 139 = .ok (.ireturn, 1) := by decide +kernel
theorem dX7_readClause_140 : decode cX7_readClause 140 = .ok (.aload_n 0, 1) := by decide +kernel
theorem dX7_readClause_141 : decode cX7_readClause 141 = .ok (.invokevirtual 63, 3) := by decide +kernel
theorem dX7_readClause_144 : decode cX7_readClause 144 = .ok (.bipush 44, 2) := by decide +kernel
theorem dX7_readClause_146 : decode cX7_readClause 146 = .ok (.if_icmp .eq 13, 3) := by decide +kernel
theorem dX7_readClause_149 : decode cX7_readClause 149 = .ok (.aload_n 0, 1) := by decide +kernel
theorem dX7_readClause_150 : decode cX7_readClause 150 = .ok (.iconst 1, 1) := by decide +kernel
theorem dX7_readClause_151 : decode cX7_readClause 151 = .ok (.aload_n 0, 1) := by decide +kernel
theorem dX7_readClause_152 : decode cX7_readClause 152 = .ok (.invokevirtual 122, 3) := by decide +kernel
theorem dX7_readClause_155 : decode cX7_readClause 155 = .ok (.invokevirtual 104, 3) := by decide +kernel
theorem dX7_readClause_158 : decode cX7_readClause 158 = .ok (.ireturn, 1) := by decide +kernel
theorem dX7_readClause_159 : decode cX7_readClause 159 = .ok (.iinc 2 1, 3) := by decide +kernel
theorem dX7_readClause_162 : decode cX7_readClause 162 = .ok (.goto (-75), 3) := by decide +kernel
theorem dX7_readClause_165 : decode cX7_readClause 165 = .ok (.aload_n 0, 1) := by decide +kernel
theorem dX7_readClause_166 : decode cX7_readClause 166 = .ok (.dup, 1) := by decide +kernel
theorem dX7_readClause_167 : decode cX7_readClause 167 = .ok (.getfield 48, 3) := by decide +kernel
theorem dX7_readClause_170 : decode cX7_readClause 170 = .ok (.iconst 1, 1) := by decide +kernel
theorem dX7_readClause_171 : decode cX7_readClause 171 = .ok (.iadd, 1) := by decide +kernel
theorem dX7_readClause_172 : decode cX7_readClause 172 = .ok (.putfield 48, 3) := by decide +kernel
theorem dX7_readClause_175 : decode cX7_readClause 175 = .ok (.aload_n 0, 1) := by decide +kernel
theorem dX7_readClause_176 : decode cX7_readClause 176 = .ok (.invokevirtual 63, 3) := by decide +kernel
theorem dX7_readClause_179 : decode cX7_readClause 179 = .ok (.iconst 2, 1) := by decide +kernel
theorem dX7_readClause_180 : decode cX7_readClause 180 = .ok (.if_icmp .eq 11, 3) := by decide +kernel
theorem dX7_readClause_183 : decode cX7_readClause 183 = .ok (.aload_n 0, 1) := by decide +kernel
theorem dX7_readClause_184 : decode cX7_readClause 184 = .ok (.invokevirtual 63, 3) := by decide +kernel
theorem dX7_readClause_187 : decode cX7_readClause 187 = .ok (.iconst 3, 1) := by decide +kernel
theorem dX7_readClause_188 : decode cX7_readClause 188 = .ok (.if_icmp .ne 7, 3) := by decide +kernel
theorem dX7_readClause_191 : decode cX7_readClause 191 = .ok (.iconst 1, 1) := by decide +kernel
theorem dX7_readClause_192 : decode cX7_readClause 192 = .ok (.goto 4, 3) := by decide +kernel
theorem dX7_readClause_195 : decode cX7_readClause 195 = .ok (.iconst 0, 1) := by decide +kernel
theorem dX7_readClause_196 : decode cX7_readClause 196 = .ok (.istore_n 2, 1) := by decide +kernel
theorem dX7_readClause_197 : decode cX7_readClause 197 = .ok (.aload_n 0, 1) := by decide +kernel
theorem dX7_readClause_198 : decode cX7_readClause 198 = .ok (.iload_n 2, 1) := by decide +kernel
theorem dX7_readClause_199 : decode cX7_readClause 199 = .ok (.ifCond .eq 7, 3) := by decide +kernel
theorem dX7_readClause_202 : decode cX7_readClause 202 = .ok (.iconst 4, 1) := by decide +kernel
theorem dX7_readClause_203 : decode cX7_readClause 203 = .ok (.goto 4, 3) := by decide +kernel
end
section
theorem dX7_readClause_206 : decode cX7_readClause 206 = .ok (.iconst 1, 1) := by decide +kernel
theorem dX7_readClause_207 : decode cX7_readClause 207 = .ok (.aload_n 0, 1) := by decide +kernel
theorem dX7_readClause_208 : decode cX7_readClause 208 = .ok (.invokevirtual 122, 3) := by decide +kernel
theorem dX7_readClause_211 : decode cX7_readClause 211 = .ok (.invokevirtual 104, 3) := by decide +kernel
theorem dX7_readClause_214 : decode cX7_readClause 214 = .ok (.ireturn, 1) := by decide +kernel
theorem dX7_endFact_0 : decode cX7_endFact 0 = .ok (.aload_n 1, 1) := by decide +kernel
theorem dX7_endFact_1 : decode cX7_endFact 1 = .ok (.getfield 136, 3) := by decide +kernel
theorem dX7_endFact_4 : decode cX7_endFact 4 = .ok (.bipush 100, 2) := by decide +kernel
theorem dX7_endFact_6 : decode cX7_endFact 6 = .ok (.if_icmp .lt 13, 3) := by decide +kernel
theorem dX7_endFact_9 : decode cX7_endFact 9 = .ok (.aload_n 0, 1) := by decide +kernel
theorem dX7_endFact_10 : decode cX7_endFact 10 = .ok (.iconst 3, 1) := by decide +kernel
theorem dX7_endFact_11 : decode cX7_endFact 11 = .ok (.aload_n 1, 1) := by decide +kernel
theorem dX7_endFact_12 : decode cX7_endFact 12 = .ok (.getfield 139, 3) := by decide +kernel
theorem dX7_endFact_15 : decode cX7_endFact 15 = .ok (.invokevirtual 104, 3) := by decide +kernel
theorem dX7_endFact_18 : decode cX7_endFact 18 = .ok (.ireturn, 1) := by decide +kernel
theorem dX7_endFact_19 : decode cX7_endFact 19 = .ok (.aload_n 1, 1) := by decide +kernel
theorem dX7_endFact_20 : decode cX7_endFact 20 = .ok (.getfield 142, 3) := by decide +kernel
theorem dX7_endFact_23 : decode cX7_endFact 23 = .ok (.bipush 100, 2) := by decide +kernel
theorem dX7_endFact_25 : decode cX7_endFact 25 = .ok (.if_icmp .lt 13, 3) := by decide +kernel
theorem dX7_endFact_28 : decode cX7_endFact 28 = .ok (.aload_n 0, 1) := by decide +kernel
theorem dX7_endFact_29 : decode cX7_endFact 29 = .ok (.iconst 3, 1) := by decide +kernel
theorem dX7_endFact_30 : decode cX7_endFact 30 = .ok (.aload_n 1, 1) := by decide +kernel
theorem dX7_endFact_31 : decode cX7_endFact 31 = .ok (.getfield 145, 3) := by decide +kernel
theorem dX7_endFact_34 : decode cX7_endFact 34 = .ok (.invokevirtual 104, 3) := by decide +kernel
theorem dX7_endFact_37 : decode cX7_endFact 37 = .ok (.ireturn, 1) := by decide +kernel
theorem dX7_endFact_38 : decode cX7_endFact 38 = .ok (.aload_n 0, 1) := by decide +kernel
theorem dX7_endFact_39 : decode cX7_endFact 39 = .ok (.getfield 51, 3) := by decide +kernel
theorem dX7_endFact_42 : decode cX7_endFact 42 = .ok (.sipush 200, 3) := by decide +kernel
theorem dX7_endFact_45 : decode cX7_endFact 45 = .ok (.if_icmp .ge 54, 3) := by decide +kernel
theorem dX7_endFact_48 : decode cX7_endFact 48 = .ok (.aload_n 1, 1) := by decide +kernel
theorem dX7_endFact_49 : decode cX7_endFact 49 = .ok (.getfield 136, 3) := by decide +kernel
theorem dX7_endFact_52 : decode cX7_endFact 52 = .ok (.iconst 0, 1) := by decide +kernel
theorem dX7_endFact_53 : decode cX7_endFact 53 = .ok (.invokestatic 148, 3) := by decide +kernel
theorem dX7_endFact_56 : decode cX7_endFact 56 = .ok (.istore_n 2, 1) := by decide +kernel
theorem dX7_endFact_57 : decode cX7_endFact 57 = .ok (.aload_n 1, 1) := by decide +kernel
theorem dX7_endFact_58 : decode cX7_endFact 58 = .ok (.getfield 142, 3) := by decide +kernel
theorem dX7_endFact_61 : decode cX7_endFact 61 = .ok (.iconst 0, 1) := by decide +kernel
theorem dX7_endFact_62 : decode cX7_endFact 62 = .ok (.invokestatic 148, 3) := by decide +kernel
theorem dX7_endFact_65 : decode cX7_endFact 65 = .ok (.istore_n 3, 1) := by decide +kernel
theorem dX7_endFact_66 : decode cX7_endFact 66 = .ok (.aload_n 0, 1) := by decide +kernel
theorem dX7_endFact_67 : decode cX7_endFact 67 = .ok (.getfield 18, 3) := by decide +kernel
theorem dX7_endFact_70 : decode cX7_endFact 70 = .ok (.aload_n 0, 1) := by decide +kernel
theorem dX7_endFact_71 : decode cX7_endFact 71 = .ok (.getfield 51, 3) := by decide +kernel
theorem dX7_endFact_74 : decode cX7_endFact 74 = .ok (.aload_n 1, 1) := by decide +kernel
theorem dX7_endFact_75 : decode cX7_endFact 75 = .ok (.getfield 154, 3) := by decide +kernel
theorem dX7_endFact_78 : decode cX7_endFact 78 = .ok (.bipush 10, 2) := by decide +kernel
theorem dX7_endFact_80 : decode cX7_endFact 80 = .ok (.imul, 1) := by decide +kernel
theorem dX7_endFact_81 : decode cX7_endFact 81 = .ok (.iload_n 2, 1) := by decide +kernel
theorem dX7_endFact_82 : decode cX7_endFact 82 = .ok (.iadd, 1) := by decide +kernel
theorem dX7_endFact_83 : decode cX7_endFact 83 = .ok (.bipush 10, 2) := by decide +kernel
theorem dX7_endFact_85 : decode cX7_endFact 85 = .ok (.imul, 1) := by decide +kernel
theorem dX7_endFact_86 : decode cX7_endFact 86 = .ok (.iload_n 3, 1) := by decide +kernel
theorem dX7_endFact_87 : decode cX7_endFact 87 = .ok (.iadd, 1) := by decide +kernel
theorem dX7_endFact_88 : decode cX7_endFact 88 = .ok (.iastore, 1) := by decide +kernel
theorem dX7_endFact_89 : decode cX7_endFact 89 = .ok (.aload_n 0, 1) := by decide +kernel
theorem dX7_endFact_90 : decode cX7_endFact 90 = .ok (.dup, 1) := by decide +kernel
theorem dX7_endFact_91 : decode cX7_endFact 91 = .ok (.getfield 51, 3) := by decide +kernel
theorem dX7_endFact_94 : decode cX7_endFact 94 = .ok (.iconst 1, 1) := by decide +kernel
theorem dX7_endFact_95 : decode cX7_endFact 95 = .ok (.iadd, 1) := by decide +kernel
theorem dX7_endFact_96 : decode cX7_endFact 96 = .ok (.putfield 51, 3) := by decide +kernel
theorem dX7_endFact_99 : decode cX7_endFact 99 = .ok (.aload_n 0, 1) := by decide +kernel
theorem dX7_endFact_100 : decode cX7_endFact 100 = .ok (.dup, 1) := by decide +kernel
theorem dX7_endFact_101 : decode cX7_endFact 101 = .ok (.getfield 48, 3) := by decide +kernel
theorem dX7_endFact_104 : decode cX7_endFact 104 = .ok (.iconst 1, 1) := by decide +kernel
theorem dX7_endFact_105 : decode cX7_endFact 105 = .ok (.iadd, 1) := by decide +kernel
theorem dX7_endFact_106 : decode cX7_endFact 106 = .ok (.putfield 48, 3) := by decide +kernel
theorem dX7_endFact_109 : decode cX7_endFact 109 = .ok (.iconst 1, 1) := by decide +kernel
theorem dX7_endFact_110 : decode cX7_endFact 110 = .ok (.ireturn, 1) := by decide +kernel
theorem dX7_endRule_0 : decode cX7_endRule 0 = .ok (.aload_n 1, 1) := by decide +kernel
theorem dX7_endRule_1 : decode cX7_endRule 1 = .ok (.aload_n 1, 1) := by decide +kernel
theorem dX7_endRule_2 : decode cX7_endRule 2 = .ok (.getfield 93, 3) := by decide +kernel
theorem dX7_endRule_5 : decode cX7_endRule 5 = .ok (.invokevirtual 157, 3) := by decide +kernel
theorem dX7_endRule_8 : decode cX7_endRule 8 = .ok (.istore_n 2, 1) := by decide +kernel
theorem dX7_endRule_9 : decode cX7_endRule 9 = .ok (.iconst 0, 1) := by decide +kernel
theorem dX7_endRule_10 : decode cX7_endRule 10 = .ok (.istore_n 3, 1) := by decide +kernel
theorem dX7_endRule_11 : decode cX7_endRule 11 = .ok (.iload_n 3, 1) := by decide +kernel
theorem dX7_endRule_12 : decode cX7_endRule 12 = .ok (.aload_n 1, 1) := by decide +kernel
theorem dX7_endRule_13 : decode cX7_endRule 13 = .ok (.getfield 125, 3) := by decide +kernel
theorem dX7_endRule_16 : decode cX7_endRule 16 = .ok (.if_icmp .ge 25, 3) := by decide +kernel
theorem dX7_endRule_19 : decode cX7_endRule 19 = .ok (.iload_n 2, 1) := by decide +kernel
theorem dX7_endRule_20 : decode cX7_endRule 20 = .ok (.iconst (-1), 1) := by decide +kernel
theorem dX7_endRule_21 : decode cX7_endRule 21 = .ok (.if_icmp .ne 20, 3) := by decide +kernel
theorem dX7_endRule_24 : decode cX7_endRule 24 = .ok (.aload_n 1, 1) := by decide +kernel
theorem dX7_endRule_25 : decode cX7_endRule 25 = .ok (.aload_n 1, 1) := by decide +kernel
theorem dX7_endRule_26 : decode cX7_endRule 26 = .ok (.getfield 126, 3) := by decide +kernel
theorem dX7_endRule_29 : decode cX7_endRule 29 = .ok (.iload_n 3, 1) := by decide +kernel
theorem dX7_endRule_30 : decode cX7_endRule 30 = .ok (.aaload, 1) := by decide +kernel
theorem dX7_endRule_31 : decode cX7_endRule 31 = .ok (.invokevirtual 157, 3) := by decide +kernel
theorem dX7_endRule_34 : decode cX7_endRule 34 = .ok (.istore_n 2, 1) := by decide +kernel
theorem dX7_endRule_35 : decode cX7_endRule 35 = .ok (.iinc 3 1, 3) := by decide +kernel
theorem dX7_endRule_38 : decode cX7_endRule 38 = .ok (.goto (-27), 3) := by decide +kernel
theorem dX7_endRule_41 : decode cX7_endRule 41 = .ok (.iload_n 2, 1) := by decide +kernel
theorem dX7_endRule_42 : decode cX7_endRule 42 = .ok (.iconst (-1), 1) := by decide +kernel
theorem dX7_endRule_43 : decode cX7_endRule 43 = .ok (.if_icmp .eq 10, 3) := by decide +kernel
theorem dX7_endRule_46 : decode cX7_endRule 46 = .ok (.aload_n 0, 1) := by decide +kernel
theorem dX7_endRule_47 : decode cX7_endRule 47 = .ok (.iconst 5, 1) := by decide +kernel
theorem dX7_endRule_48 : decode cX7_endRule 48 = .ok (.iload_n 2, 1) := by decide +kernel
theorem dX7_endRule_49 : decode cX7_endRule 49 = .ok (.invokevirtual 104, 3) := by decide +kernel
theorem dX7_endRule_52 : decode cX7_endRule 52 = .ok (.ireturn, 1) := by decide +kernel
theorem dX7_endRule_53 : decode cX7_endRule 53 = .ok (.aload_n 0, 1) := by decide +kernel
theorem dX7_endRule_54 : decode cX7_endRule 54 = .ok (.getfield 22, 3) := by decide +kernel
theorem dX7_endRule_57 : decode cX7_endRule 57 = .ok (.dup, 1) := by decide +kernel
theorem dX7_endRule_58 : decode cX7_endRule 58 = .ok (.getfield 41, 3) := by decide +kernel
theorem dX7_endRule_61 : decode cX7_endRule 61 = .ok (.iconst 1, 1) := by decide +kernel
theorem dX7_endRule_62 : decode cX7_endRule 62 = .ok (.iadd, 1) := by decide +kernel
theorem dX7_endRule_63 : decode cX7_endRule 63 = .ok (.putfield 41, 3) := by decide +kernel
theorem dX7_endRule_66 : decode cX7_endRule 66 = .ok (.aload_n 0, 1) := by decide +kernel
theorem dX7_endRule_67 : decode cX7_endRule 67 = .ok (.dup, 1) := by decide +kernel
theorem dX7_endRule_68 : decode cX7_endRule 68 = .ok (.getfield 48, 3) := by decide +kernel
theorem dX7_endRule_71 : decode cX7_endRule 71 = .ok (.iconst 1, 1) := by decide +kernel
theorem dX7_endRule_72 : decode cX7_endRule 72 = .ok (.iadd, 1) := by decide +kernel
theorem dX7_endRule_73 : decode cX7_endRule 73 = .ok (.putfield 48, 3) := by decide +kernel
theorem dX7_endRule_76 : decode cX7_endRule 76 = .ok (.iconst 1, 1) := by decide +kernel
theorem dX7_endRule_77 : decode cX7_endRule 77 = .ok (.ireturn, 1) := by decide +kernel
theorem dX7_readTerm_0 : decode cX7_readTerm 0 = .ok (.aload_n 0, 1) := by decide +kernel
theorem dX7_readTerm_1 : decode cX7_readTerm 1 = .ok (.invokevirtual 63, 3) := by decide +kernel
theorem dX7_readTerm_4 : decode cX7_readTerm 4 = .ok (.iconst 3, 1) := by decide +kernel
theorem dX7_readTerm_5 : decode cX7_readTerm 5 = .ok (.if_icmp .eq 20, 3) := by decide +kernel
theorem dX7_readTerm_8 : decode cX7_readTerm 8 = .ok (.aload_n 0, 1) := by decide +kernel
theorem dX7_readTerm_9 : decode cX7_readTerm 9 = .ok (.invokevirtual 63, 3) := by decide +kernel
theorem dX7_readTerm_12 : decode cX7_readTerm 12 = .ok (.iconst 2, 1) := by decide +kernel
theorem dX7_readTerm_13 : decode cX7_readTerm 13 = .ok (.if_icmp .ne 19, 3) := by decide +kernel
theorem dX7_readTerm_16 : decode cX7_readTerm 16 = .ok (.aload_n 0, 1) := by decide +kernel
theorem dX7_readTerm_17 : decode cX7_readTerm 17 = .ok (.invokevirtual 161, 3) := by decide +kernel
theorem dX7_readTerm_20 : decode cX7_readTerm 20 = .ok (.bipush 35, 2) := by decide +kernel
theorem dX7_readTerm_22 : decode cX7_readTerm 22 = .ok (.if_icmp .ne 10, 3) := by decide +kernel
theorem dX7_readTerm_25 : decode cX7_readTerm 25 = .ok (.aload_n 0, 1) := by decide +kernel
theorem dX7_readTerm_26 : decode cX7_readTerm 26 = .ok (.aload_n 1, 1) := by decide +kernel
theorem dX7_readTerm_27 : decode cX7_readTerm 27 = .ok (.aload_n 2, 1) := by decide +kernel
theorem dX7_readTerm_28 : decode cX7_readTerm 28 = .ok (.invokevirtual 164, 3) := by decide +kernel
theorem dX7_readTerm_31 : decode cX7_readTerm 31 = .ok (.ireturn, 1) := by decide +kernel
theorem dX7_readTerm_32 : decode cX7_readTerm 32 = .ok (.aload_n 0, 1) := by decide +kernel
theorem dX7_readTerm_33 : decode cX7_readTerm 33 = .ok (.invokevirtual 63, 3) := by decide +kernel
theorem dX7_readTerm_36 : decode cX7_readTerm 36 = .ok (.iconst 2, 1) := by decide +kernel
theorem dX7_readTerm_37 : decode cX7_readTerm 37 = .ok (.if_icmp .ne 40, 3) := by decide +kernel
theorem dX7_readTerm_40 : decode cX7_readTerm 40 = .ok (.aload_n 0, 1) := by decide +kernel
theorem dX7_readTerm_41 : decode cX7_readTerm 41 = .ok (.getfield 12, 3) := by decide +kernel
theorem dX7_readTerm_44 : decode cX7_readTerm 44 = .ok (.getfield 167, 3) := by decide +kernel
theorem dX7_readTerm_47 : decode cX7_readTerm 47 = .ok (.aload_n 0, 1) := by decide +kernel
theorem dX7_readTerm_48 : decode cX7_readTerm 48 = .ok (.getfield 48, 3) := by decide +kernel
theorem dX7_readTerm_51 : decode cX7_readTerm 51 = .ok (.laload, 1) := by decide +kernel
theorem dX7_readTerm_52 : decode cX7_readTerm 52 = .ok (.ldc2_w 171, 3) := by decide +kernel
theorem dX7_readTerm_55 : decode cX7_readTerm 55 = .ok (.lcmp, 1) := by decide +kernel
theorem dX7_readTerm_56 : decode cX7_readTerm 56 = .ok (.ifCond .ne 21, 3) := by decide +kernel
theorem dX7_readTerm_59 : decode cX7_readTerm 59 = .ok (.aload_n 2, 1) := by decide +kernel
theorem dX7_readTerm_60 : decode cX7_readTerm 60 = .ok (.iconst 1, 1) := by decide +kernel
theorem dX7_readTerm_61 : decode cX7_readTerm 61 = .ok (.invokevirtual 111, 3) := by decide +kernel
theorem dX7_readTerm_64 : decode cX7_readTerm 64 = .ok (.aload_n 0, 1) := by decide +kernel
theorem dX7_readTerm_65 : decode cX7_readTerm 65 = .ok (.dup, 1) := by decide +kernel
theorem dX7_readTerm_66 : decode cX7_readTerm 66 = .ok (.getfield 48, 3) := by decide +kernel
theorem dX7_readTerm_69 : decode cX7_readTerm 69 = .ok (.iconst 1, 1) := by decide +kernel
theorem dX7_readTerm_70 : decode cX7_readTerm 70 = .ok (.iadd, 1) := by decide +kernel
theorem dX7_readTerm_71 : decode cX7_readTerm 71 = .ok (.putfield 48, 3) := by decide +kernel
theorem dX7_readTerm_74 : decode cX7_readTerm 74 = .ok (.goto 8, 3) := by decide +kernel
theorem dX7_readTerm_77 : decode cX7_readTerm 77 = .ok (.aload_n 2, 1) := by decide +kernel
theorem dX7_readTerm_78 : decode cX7_readTerm 78 = .ok (.iconst 0, 1) := by decide +kernel
theorem dX7_readTerm_79 : decode cX7_readTerm 79 = .ok (.invokevirtual 111, 3) := by decide +kernel
theorem dX7_readTerm_82 : decode cX7_readTerm 82 = .ok (.aload_n 0, 1) := by decide +kernel
theorem dX7_readTerm_83 : decode cX7_readTerm 83 = .ok (.aload_n 1, 1) := by decide +kernel
theorem dX7_readTerm_84 : decode cX7_readTerm 84 = .ok (.aload_n 2, 1) := by decide +kernel
theorem dX7_readTerm_85 : decode cX7_readTerm 85 = .ok (.invokevirtual 114, 3) := by decide +kernel
theorem dX7_readTerm_88 : decode cX7_readTerm 88 = .ok (.ireturn, 1) := by decide +kernel
theorem dX7_readUnlike_0 : decode cX7_readUnlike 0 = .ok (.aload_n 2, 1) := by decide +kernel
theorem dX7_readUnlike_1 : decode cX7_readUnlike 1 = .ok (.iconst 2, 1) := by decide +kernel
theorem dX7_readUnlike_2 : decode cX7_readUnlike 2 = .ok (.invokevirtual 111, 3) := by decide +kernel
theorem dX7_readUnlike_5 : decode cX7_readUnlike 5 = .ok (.aload_n 0, 1) := by decide +kernel
theorem dX7_readUnlike_6 : decode cX7_readUnlike 6 = .ok (.aload_n 1, 1) := by decide +kernel
theorem dX7_readUnlike_7 : decode cX7_readUnlike 7 = .ok (.aload_n 2, 1) := by decide +kernel
theorem dX7_readUnlike_8 : decode cX7_readUnlike 8 = .ok (.iconst 1, 1) := by decide +kernel
theorem dX7_readUnlike_9 : decode cX7_readUnlike 9 = .ok (.invokevirtual 173, 3) := by decide +kernel
theorem dX7_readUnlike_12 : decode cX7_readUnlike 12 = .ok (.ifCond .ne 5, 3) := by decide +kernel
theorem dX7_readUnlike_15 : decode cX7_readUnlike 15 = .ok (.iconst 0, 1) := by decide +kernel
theorem dX7_readUnlike_16 : decode cX7_readUnlike 16 = .ok (.ireturn, 1) := by decide +kernel
theorem dX7_readUnlike_17 : decode cX7_readUnlike 17 = .ok (.aload_n 0, 1) := by decide +kernel
theorem dX7_readUnlike_18 : decode cX7_readUnlike 18 = .ok (.invokevirtual 63, 3) := by decide +kernel
theorem dX7_readUnlike_21 : decode cX7_readUnlike 21 = .ok (.bipush 35, 2) := by decide +kernel
theorem dX7_readUnlike_23 : decode cX7_readUnlike 23 = .ok (.if_icmp .eq 13, 3) := by decide +kernel
theorem dX7_readUnlike_26 : decode cX7_readUnlike 26 = .ok (.aload_n 0, 1) := by decide +kernel
theorem dX7_readUnlike_27 : decode cX7_readUnlike 27 = .ok (.iconst 1, 1) := by decide +kernel
theorem dX7_readUnlike_28 : decode cX7_readUnlike 28 = .ok (.aload_n 0, 1) := by decide +kernel
theorem dX7_readUnlike_29 : decode cX7_readUnlike 29 = .ok (.invokevirtual 122, 3) := by decide +kernel
theorem dX7_readUnlike_32 : decode cX7_readUnlike 32 = .ok (.invokevirtual 104, 3) := by decide +kernel
theorem dX7_readUnlike_35 : decode cX7_readUnlike 35 = .ok (.ireturn, 1) := by decide +kernel
theorem dX7_readUnlike_36 : decode cX7_readUnlike 36 = .ok (.aload_n 0, 1) := by decide +kernel
theorem dX7_readUnlike_37 : decode cX7_readUnlike 37 = .ok (.dup, 1) := by decide +kernel
theorem dX7_readUnlike_38 : decode cX7_readUnlike 38 = .ok (.getfield 48, 3) := by decide +kernel
theorem dX7_readUnlike_41 : decode cX7_readUnlike 41 = .ok (.iconst 1, 1) := by decide +kernel
theorem dX7_readUnlike_42 : decode cX7_readUnlike 42 = .ok (.iadd, 1) := by decide +kernel
theorem dX7_readUnlike_43 : decode cX7_readUnlike 43 = .ok (.putfield 48, 3) := by decide +kernel
theorem dX7_readUnlike_46 : decode cX7_readUnlike 46 = .ok (.aload_n 0, 1) := by decide +kernel
theorem dX7_readUnlike_47 : decode cX7_readUnlike 47 = .ok (.aload_n 1, 1) := by decide +kernel
theorem dX7_readUnlike_48 : decode cX7_readUnlike 48 = .ok (.aload_n 2, 1) := by decide +kernel
theorem dX7_readUnlike_49 : decode cX7_readUnlike 49 = .ok (.iconst 0, 1) := by decide +kernel
theorem dX7_readUnlike_50 : decode cX7_readUnlike 50 = .ok (.invokevirtual 173, 3) := by decide +kernel
theorem dX7_readUnlike_53 : decode cX7_readUnlike 53 = .ok (.ireturn, 1) := by decide +kernel
theorem dX7_readAtom_0 : decode cX7_readAtom 0 = .ok (.aload_n 0, 1) := by decide +kernel
theorem dX7_readAtom_1 : decode cX7_readAtom 1 = .ok (.invokevirtual 63, 3) := by decide +kernel
theorem dX7_readAtom_4 : decode cX7_readAtom 4 = .ok (.iconst 2, 1) := by decide +kernel
theorem dX7_readAtom_5 : decode cX7_readAtom 5 = .ok (.if_icmp .ne 22, 3) := by decide +kernel
theorem dX7_readAtom_8 : decode cX7_readAtom 8 = .ok (.aload_n 0, 1) := by decide +kernel
theorem dX7_readAtom_9 : decode cX7_readAtom 9 = .ok (.getfield 12, 3) := by decide +kernel
theorem dX7_readAtom_12 : decode cX7_readAtom 12 = .ok (.getfield 167, 3) := by decide +kernel
theorem dX7_readAtom_15 : decode cX7_readAtom 15 = .ok (.aload_n 0, 1) := by decide +kernel
theorem dX7_readAtom_16 : decode cX7_readAtom 16 = .ok (.getfield 48, 3) := by decide +kernel
theorem dX7_readAtom_19 : decode cX7_readAtom 19 = .ok (.laload, 1) := by decide +kernel
theorem dX7_readAtom_20 : decode cX7_readAtom 20 = .ok (.ldc2_w 171, 3) := by decide +kernel
theorem dX7_readAtom_23 : decode cX7_readAtom 23 = .ok (.lcmp, 1) := by decide +kernel
theorem dX7_readAtom_24 : decode cX7_readAtom 24 = .ok (.ifCond .ne 13, 3) := by decide +kernel
theorem dX7_readAtom_27 : decode cX7_readAtom 27 = .ok (.aload_n 0, 1) := by decide +kernel
theorem dX7_readAtom_28 : decode cX7_readAtom 28 = .ok (.iconst 1, 1) := by decide +kernel
theorem dX7_readAtom_29 : decode cX7_readAtom 29 = .ok (.aload_n 0, 1) := by decide +kernel
theorem dX7_readAtom_30 : decode cX7_readAtom 30 = .ok (.invokevirtual 122, 3) := by decide +kernel
theorem dX7_readAtom_33 : decode cX7_readAtom 33 = .ok (.invokevirtual 104, 3) := by decide +kernel
theorem dX7_readAtom_36 : decode cX7_readAtom 36 = .ok (.ireturn, 1) := by decide +kernel
theorem dX7_readAtom_37 : decode cX7_readAtom 37 = .ok (.aload_n 0, 1) := by decide +kernel
theorem dX7_readAtom_38 : decode cX7_readAtom 38 = .ok (.getfield 22, 3) := by decide +kernel
theorem dX7_readAtom_41 : decode cX7_readAtom 41 = .ok (.getfield 26, 3) := by decide +kernel
theorem dX7_readAtom_44 : decode cX7_readAtom 44 = .ok (.getfield 32, 3) := by decide +kernel
theorem dX7_readAtom_47 : decode cX7_readAtom 47 = .ok (.istore_n 3, 1) := by decide +kernel
theorem dX7_readAtom_48 : decode cX7_readAtom 48 = .ok (.aload_n 2, 1) := by decide +kernel
theorem dX7_readAtom_49 : decode cX7_readAtom 49 = .ok (.aload_n 0, 1) := by decide +kernel
theorem dX7_readAtom_50 : decode cX7_readAtom 50 = .ok (.getfield 22, 3) := by decide +kernel
theorem dX7_readAtom_53 : decode cX7_readAtom 53 = .ok (.getfield 26, 3) := by decide +kernel
theorem dX7_readAtom_56 : decode cX7_readAtom 56 = .ok (.aload_n 0, 1) := by decide +kernel
theorem dX7_readAtom_57 : decode cX7_readAtom 57 = .ok (.getfield 12, 3) := by decide +kernel
theorem dX7_readAtom_60 : decode cX7_readAtom 60 = .ok (.getfield 167, 3) := by decide +kernel
theorem dX7_readAtom_63 : decode cX7_readAtom 63 = .ok (.aload_n 0, 1) := by decide +kernel
theorem dX7_readAtom_64 : decode cX7_readAtom 64 = .ok (.getfield 48, 3) := by decide +kernel
theorem dX7_readAtom_67 : decode cX7_readAtom 67 = .ok (.laload, 1) := by decide +kernel
theorem dX7_readAtom_68 : decode cX7_readAtom 68 = .ok (.invokevirtual 177, 3) := by decide +kernel
theorem dX7_readAtom_71 : decode cX7_readAtom 71 = .ok (.putfield 154, 3) := by decide +kernel
theorem dX7_readAtom_74 : decode cX7_readAtom 74 = .ok (.aload_n 2, 1) := by decide +kernel
theorem dX7_readAtom_75 : decode cX7_readAtom 75 = .ok (.aload_n 0, 1) := by decide +kernel
theorem dX7_readAtom_76 : decode cX7_readAtom 76 = .ok (.invokevirtual 122, 3) := by decide +kernel
theorem dX7_readAtom_79 : decode cX7_readAtom 79 = .ok (.putfield 99, 3) := by decide +kernel
theorem dX7_readAtom_82 : decode cX7_readAtom 82 = .ok (.aload_n 2, 1) := by decide +kernel
theorem dX7_readAtom_83 : decode cX7_readAtom 83 = .ok (.getfield 154, 3) := by decide +kernel
theorem dX7_readAtom_86 : decode cX7_readAtom 86 = .ok (.iconst (-1), 1) := by decide +kernel
theorem dX7_readAtom_87 : decode cX7_readAtom 87 = .ok (.if_icmp .ne 13, 3) := by decide +kernel
theorem dX7_readAtom_90 : decode cX7_readAtom 90 = .ok (.aload_n 0, 1) := by decide +kernel
theorem dX7_readAtom_91 : decode cX7_readAtom 91 = .ok (.iconst 4, 1) := by decide +kernel
theorem dX7_readAtom_92 : decode cX7_readAtom 92 = .ok (.aload_n 0, 1) := by decide +kernel
theorem dX7_readAtom_93 : decode cX7_readAtom 93 = .ok (.invokevirtual 122, 3) := by decide +kernel
theorem dX7_readAtom_96 : decode cX7_readAtom 96 = .ok (.invokevirtual 104, 3) := by decide +kernel
theorem dX7_readAtom_99 : decode cX7_readAtom 99 = .ok (.ireturn, 1) := by decide +kernel
theorem dX7_readAtom_100 : decode cX7_readAtom 100 = .ok (.aload_n 0, 1) := by decide +kernel
theorem dX7_readAtom_101 : decode cX7_readAtom 101 = .ok (.dup, 1) := by decide +kernel
theorem dX7_readAtom_102 : decode cX7_readAtom 102 = .ok (.getfield 48, 3) := by decide +kernel
theorem dX7_readAtom_105 : decode cX7_readAtom 105 = .ok (.iconst 1, 1) := by decide +kernel
theorem dX7_readAtom_106 : decode cX7_readAtom 106 = .ok (.iadd, 1) := by decide +kernel
theorem dX7_readAtom_107 : decode cX7_readAtom 107 = .ok (.putfield 48, 3) := by decide +kernel
theorem dX7_readAtom_110 : decode cX7_readAtom 110 = .ok (.aload_n 0, 1) := by decide +kernel
theorem dX7_readAtom_111 : decode cX7_readAtom 111 = .ok (.invokevirtual 63, 3) := by decide +kernel
theorem dX7_readAtom_114 : decode cX7_readAtom 114 = .ok (.bipush 40, 2) := by decide +kernel
theorem dX7_readAtom_116 : decode cX7_readAtom 116 = .ok (.if_icmp .ne 85, 3) := by decide +kernel
theorem dX7_readAtom_119 : decode cX7_readAtom 119 = .ok (.aload_n 0, 1) := by decide +kernel
theorem dX7_readAtom_120 : decode cX7_readAtom 120 = .ok (.dup, 1) := by decide +kernel
theorem dX7_readAtom_121 : decode cX7_readAtom 121 = .ok (.getfield 48, 3) := by decide +kernel
theorem dX7_readAtom_124 : decode cX7_readAtom 124 = .ok (.iconst 1, 1) := by decide +kernel
theorem dX7_readAtom_125 : decode cX7_readAtom 125 = .ok (.iadd, 1) := by decide +kernel
theorem dX7_readAtom_126 : decode cX7_readAtom 126 = .ok (.putfield 48, 3) := by decide +kernel
theorem dX7_readAtom_129 : decode cX7_readAtom 129 = .ok (.aload_n 0, 1) := by decide +kernel
theorem dX7_readAtom_130 : decode cX7_readAtom 130 = .ok (.aload_n 1, 1) := by decide +kernel
theorem dX7_readAtom_131 : decode cX7_readAtom 131 = .ok (.aload_n 2, 1) := by decide +kernel
theorem dX7_readAtom_132 : decode cX7_readAtom 132 = .ok (.iconst 1, 1) := by decide +kernel
theorem dX7_readAtom_133 : decode cX7_readAtom 133 = .ok (.invokevirtual 173, 3) := by decide +kernel
theorem dX7_readAtom_136 : decode cX7_readAtom 136 = .ok (.ifCond .ne 5, 3) := by decide +kernel
theorem dX7_readAtom_139 : decode cX7_readAtom 139 = .ok (.iconst 0, 1) := by decide +kernel
theorem dX7_readAtom_140 : decode cX7_readAtom 140 = .ok (.ireturn, 1) := by decide +kernel
theorem dX7_readAtom_141 : decode cX7_readAtom 141 = .ok (.aload_n 0, 1) := by decide +kernel
theorem dX7_readAtom_142 : decode cX7_readAtom 142 = .ok (.invokevirtual 63, 3) := by decide +kernel
theorem dX7_readAtom_145 : decode cX7_readAtom 145 = .ok (.bipush 44, 2) := by decide +kernel
theorem dX7_readAtom_147 : decode cX7_readAtom 147 = .ok (.if_icmp .ne 25, 3) := by decide +kernel
theorem dX7_readAtom_150 : decode cX7_readAtom 150 = .ok (.aload_n 0, 1) := by decide +kernel
theorem dX7_readAtom_151 : decode cX7_readAtom 151 = .ok (.dup, 1) := by decide +kernel
theorem dX7_readAtom_152 : decode cX7_readAtom 152 = .ok (.getfield 48, 3) := by decide +kernel
theorem dX7_readAtom_155 : decode cX7_readAtom 155 = .ok (.iconst 1, 1) := by decide +kernel
theorem dX7_readAtom_156 : decode cX7_readAtom 156 = .ok (.iadd, 1) := by decide +kernel
theorem dX7_readAtom_157 : decode cX7_readAtom 157 = .ok (.putfield 48, 3) := by decide +kernel
theorem dX7_readAtom_160 : decode cX7_readAtom 160 = .ok (.aload_n 0, 1) := by decide +kernel
theorem dX7_readAtom_161 : decode cX7_readAtom 161 = .ok (.aload_n 1, 1) := by decide +kernel
theorem dX7_readAtom_162 : decode cX7_readAtom 162 = .ok (.aload_n 2, 1) := by decide +kernel
theorem dX7_readAtom_163 : decode cX7_readAtom 163 = .ok (.iconst 0, 1) := by decide +kernel
theorem dX7_readAtom_164 : decode cX7_readAtom 164 = .ok (.invokevirtual 173, 3) := by decide +kernel
theorem dX7_readAtom_167 : decode cX7_readAtom 167 = .ok (.ifCond .ne 5, 3) := by decide +kernel
theorem dX7_readAtom_170 : decode cX7_readAtom 170 = .ok (.iconst 0, 1) := by decide +kernel
theorem dX7_readAtom_171 : decode cX7_readAtom 171 = .ok (.ireturn, 1) := by decide +kernel
theorem dX7_readAtom_172 : decode cX7_readAtom 172 = .ok (.aload_n 0, 1) := by decide +kernel
theorem dX7_readAtom_173 : decode cX7_readAtom 173 = .ok (.invokevirtual 63, 3) := by decide +kernel
theorem dX7_readAtom_176 : decode cX7_readAtom 176 = .ok (.bipush 41, 2) := by decide +kernel
theorem dX7_readAtom_178 : decode cX7_readAtom 178 = .ok (.if_icmp .eq 13, 3) := by decide +kernel
theorem dX7_readAtom_181 : decode cX7_readAtom 181 = .ok (.aload_n 0, 1) := by decide +kernel
theorem dX7_readAtom_182 : decode cX7_readAtom 182 = .ok (.iconst 1, 1) := by decide +kernel
theorem dX7_readAtom_183 : decode cX7_readAtom 183 = .ok (.aload_n 0, 1) := by decide +kernel
theorem dX7_readAtom_184 : decode cX7_readAtom 184 = .ok (.invokevirtual 122, 3) := by decide +kernel
theorem dX7_readAtom_187 : decode cX7_readAtom 187 = .ok (.invokevirtual 104, 3) := by decide +kernel
theorem dX7_readAtom_190 : decode cX7_readAtom 190 = .ok (.ireturn, 1) := by decide +kernel
theorem dX7_readAtom_191 : decode cX7_readAtom 191 = .ok (.aload_n 0, 1) := by decide +kernel
theorem dX7_readAtom_192 : decode cX7_readAtom 192 = .ok (.dup, 1) := by decide +kernel
theorem dX7_readAtom_193 : decode cX7_readAtom 193 = .ok (.getfield 48, 3) := by decide +kernel
theorem dX7_readAtom_196 : decode cX7_readAtom 196 = .ok (.iconst 1, 1) := by decide +kernel
theorem dX7_readAtom_197 : decode cX7_readAtom 197 = .ok (.iadd, 1) := by decide +kernel
theorem dX7_readAtom_198 : decode cX7_readAtom 198 = .ok (.putfield 48, 3) := by decide +kernel
theorem dX7_readAtom_201 : decode cX7_readAtom 201 = .ok (.aload_n 0, 1) := by decide +kernel
theorem dX7_readAtom_202 : decode cX7_readAtom 202 = .ok (.aload_n 2, 1) := by decide +kernel
theorem dX7_readAtom_203 : decode cX7_readAtom 203 = .ok (.aload_n 2, 1) := by decide +kernel
theorem dX7_readAtom_204 : decode cX7_readAtom 204 = .ok (.getfield 154, 3) := by decide +kernel
theorem dX7_readAtom_207 : decode cX7_readAtom 207 = .ok (.iload_n 3, 1) := by decide +kernel
theorem dX7_readAtom_208 : decode cX7_readAtom 208 = .ok (.if_icmp .ne 7, 3) := by decide +kernel
theorem dX7_readAtom_211 : decode cX7_readAtom 211 = .ok (.iconst 1, 1) := by decide +kernel
theorem dX7_readAtom_212 : decode cX7_readAtom 212 = .ok (.goto 4, 3) := by decide +kernel
theorem dX7_readAtom_215 : decode cX7_readAtom 215 = .ok (.iconst 0, 1) := by decide +kernel
theorem dX7_readAtom_216 : decode cX7_readAtom 216 = .ok (.invokevirtual 181, 3) := by decide +kernel
theorem dX7_readAtom_219 : decode cX7_readAtom 219 = .ok (.ireturn, 1) := by decide +kernel
theorem dX7_hasItsPlaces_0 : decode cX7_hasItsPlaces 0 = .ok (.aload_n 1, 1) := by decide +kernel
theorem dX7_hasItsPlaces_1 : decode cX7_hasItsPlaces 1 = .ok (.getfield 136, 3) := by decide +kernel
theorem dX7_hasItsPlaces_4 : decode cX7_hasItsPlaces 4 = .ok (.iconst (-1), 1) := by decide +kernel
theorem dX7_hasItsPlaces_5 : decode cX7_hasItsPlaces 5 = .ok (.if_icmp .ne 7, 3) := by decide +kernel
theorem dX7_hasItsPlaces_8 : decode cX7_hasItsPlaces 8 = .ok (.iconst 0, 1) := by decide +kernel
theorem dX7_hasItsPlaces_9 : decode cX7_hasItsPlaces 9 = .ok (.goto 16, 3) := by decide +kernel
theorem dX7_hasItsPlaces_12 : decode cX7_hasItsPlaces 12 = .ok (.aload_n 1, 1) := by decide +kernel
theorem dX7_hasItsPlaces_13 : decode cX7_hasItsPlaces 13 = .ok (.getfield 142, 3) := by decide +kernel
theorem dX7_hasItsPlaces_16 : decode cX7_hasItsPlaces 16 = .ok (.iconst (-1), 1) := by decide +kernel
theorem dX7_hasItsPlaces_17 : decode cX7_hasItsPlaces 17 = .ok (.if_icmp .ne 7, 3) := by decide +kernel
theorem dX7_hasItsPlaces_20 : decode cX7_hasItsPlaces 20 = .ok (.iconst 1, 1) := by decide +kernel
theorem dX7_hasItsPlaces_21 : decode cX7_hasItsPlaces 21 = .ok (.goto 4, 3) := by decide +kernel
theorem dX7_hasItsPlaces_24 : decode cX7_hasItsPlaces 24 = .ok (.iconst 2, 1) := by decide +kernel
theorem dX7_hasItsPlaces_25 : decode cX7_hasItsPlaces 25 = .ok (.istore_n 3, 1) := by decide +kernel
theorem dX7_hasItsPlaces_26 : decode cX7_hasItsPlaces 26 = .ok (.iload_n 2, 1) := by decide +kernel
theorem dX7_hasItsPlaces_27 : decode cX7_hasItsPlaces 27 = .ok (.ifCond .eq 16, 3) := by decide +kernel
theorem dX7_hasItsPlaces_30 : decode cX7_hasItsPlaces 30 = .ok (.aload_n 0, 1) := by decide +kernel
theorem dX7_hasItsPlaces_31 : decode cX7_hasItsPlaces 31 = .ok (.getfield 22, 3) := by decide +kernel
theorem dX7_hasItsPlaces_34 : decode cX7_hasItsPlaces 34 = .ok (.getfield 185, 3) := by decide +kernel
theorem dX7_hasItsPlaces_37 : decode cX7_hasItsPlaces 37 = .ok (.aload_n 1, 1) := by decide +kernel
theorem dX7_hasItsPlaces_38 : decode cX7_hasItsPlaces 38 = .ok (.getfield 154, 3) := by decide +kernel
theorem dX7_hasItsPlaces_41 : decode cX7_hasItsPlaces 41 = .ok (.iload_n 3, 1) := by decide +kernel
theorem dX7_hasItsPlaces_42 : decode cX7_hasItsPlaces 42 = .ok (.iastore, 1) := by decide +kernel
theorem dX7_hasItsPlaces_43 : decode cX7_hasItsPlaces 43 = .ok (.aload_n 0, 1) := by decide +kernel
theorem dX7_hasItsPlaces_44 : decode cX7_hasItsPlaces 44 = .ok (.getfield 22, 3) := by decide +kernel
theorem dX7_hasItsPlaces_47 : decode cX7_hasItsPlaces 47 = .ok (.getfield 185, 3) := by decide +kernel
theorem dX7_hasItsPlaces_50 : decode cX7_hasItsPlaces 50 = .ok (.aload_n 1, 1) := by decide +kernel
theorem dX7_hasItsPlaces_51 : decode cX7_hasItsPlaces 51 = .ok (.getfield 154, 3) := by decide +kernel
theorem dX7_hasItsPlaces_54 : decode cX7_hasItsPlaces 54 = .ok (.iaload, 1) := by decide +kernel
theorem dX7_hasItsPlaces_55 : decode cX7_hasItsPlaces 55 = .ok (.iload_n 3, 1) := by decide +kernel
theorem dX7_hasItsPlaces_56 : decode cX7_hasItsPlaces 56 = .ok (.if_icmp .eq 13, 3) := by decide +kernel
theorem dX7_hasItsPlaces_59 : decode cX7_hasItsPlaces 59 = .ok (.aload_n 0, 1) := by decide +kernel
theorem dX7_hasItsPlaces_60 : decode cX7_hasItsPlaces 60 = .ok (.iconst 2, 1) := by decide +kernel
theorem dX7_hasItsPlaces_61 : decode cX7_hasItsPlaces 61 = .ok (.aload_n 1, 1) := by decide +kernel
theorem dX7_hasItsPlaces_62 : decode cX7_hasItsPlaces 62 = .ok (.getfield 99, 3) := by decide +kernel
theorem dX7_hasItsPlaces_65 : decode cX7_hasItsPlaces 65 = .ok (.invokevirtual 104, 3) := by decide +kernel
theorem dX7_hasItsPlaces_68 : decode cX7_hasItsPlaces 68 = .ok (.ireturn, 1) := by decide +kernel
theorem dX7_hasItsPlaces_69 : decode cX7_hasItsPlaces 69 = .ok (.iconst 1, 1) := by decide +kernel
theorem dX7_hasItsPlaces_70 : decode cX7_hasItsPlaces 70 = .ok (.ireturn, 1) := by decide +kernel
theorem dX7_readArg_0 : decode cX7_readArg 0 = .ok (.aload_n 0, 1) := by decide +kernel
theorem dX7_readArg_1 : decode cX7_readArg 1 = .ok (.invokevirtual 63, 3) := by decide +kernel
theorem dX7_readArg_4 : decode cX7_readArg 4 = .ok (.iconst 2, 1) := by decide +kernel
theorem dX7_readArg_5 : decode cX7_readArg 5 = .ok (.if_icmp .ne 30, 3) := by decide +kernel
theorem dX7_readArg_8 : decode cX7_readArg 8 = .ok (.aload_n 0, 1) := by decide +kernel
theorem dX7_readArg_9 : decode cX7_readArg 9 = .ok (.getfield 22, 3) := by decide +kernel
theorem dX7_readArg_12 : decode cX7_readArg 12 = .ok (.getfield 38, 3) := by decide +kernel
theorem dX7_readArg_15 : decode cX7_readArg 15 = .ok (.aload_n 0, 1) := by decide +kernel
theorem dX7_readArg_16 : decode cX7_readArg 16 = .ok (.getfield 12, 3) := by decide +kernel
theorem dX7_readArg_19 : decode cX7_readArg 19 = .ok (.getfield 167, 3) := by decide +kernel
theorem dX7_readArg_22 : decode cX7_readArg 22 = .ok (.aload_n 0, 1) := by decide +kernel
theorem dX7_readArg_23 : decode cX7_readArg 23 = .ok (.getfield 48, 3) := by decide +kernel
theorem dX7_readArg_26 : decode cX7_readArg 26 = .ok (.laload, 1) := by decide +kernel
theorem dX7_readArg_27 : decode cX7_readArg 27 = .ok (.invokevirtual 177, 3) := by decide +kernel
theorem dX7_readArg_30 : decode cX7_readArg 30 = .ok (.istore 4, 2) := by decide +kernel
theorem dX7_readArg_32 : decode cX7_readArg 32 = .ok (.goto 43, 3) := by decide +kernel
theorem dX7_readArg_35 : decode cX7_readArg 35 = .ok (.aload_n 0, 1) := by decide +kernel
theorem dX7_readArg_36 : decode cX7_readArg 36 = .ok (.invokevirtual 63, 3) := by decide +kernel
theorem dX7_readArg_39 : decode cX7_readArg 39 = .ok (.iconst 3, 1) := by decide +kernel
theorem dX7_readArg_40 : decode cX7_readArg 40 = .ok (.if_icmp .ne 25, 3) := by decide +kernel
theorem dX7_readArg_43 : decode cX7_readArg 43 = .ok (.aload_n 1, 1) := by decide +kernel
theorem dX7_readArg_44 : decode cX7_readArg 44 = .ok (.aload_n 0, 1) := by decide +kernel
theorem dX7_readArg_45 : decode cX7_readArg 45 = .ok (.getfield 12, 3) := by decide +kernel
theorem dX7_readArg_48 : decode cX7_readArg 48 = .ok (.getfield 167, 3) := by decide +kernel
theorem dX7_readArg_51 : decode cX7_readArg 51 = .ok (.aload_n 0, 1) := by decide +kernel
theorem dX7_readArg_52 : decode cX7_readArg 52 = .ok (.getfield 48, 3) := by decide +kernel
theorem dX7_readArg_55 : decode cX7_readArg 55 = .ok (.laload, 1) := by decide +kernel
theorem dX7_readArg_56 : decode cX7_readArg 56 = .ok (.l2i, 1) := by decide +kernel
theorem dX7_readArg_57 : decode cX7_readArg 57 = .ok (.invokevirtual 188, 3) := by decide +kernel
theorem dX7_readArg_60 : decode cX7_readArg 60 = .ok (.istore 4, 2) := by decide +kernel
theorem dX7_readArg_62 : decode cX7_readArg 62 = .ok (.goto 13, 3) := by decide +kernel
theorem dX7_readArg_65 : decode cX7_readArg 65 = .ok (.aload_n 0, 1) := by decide +kernel
theorem dX7_readArg_66 : decode cX7_readArg 66 = .ok (.iconst 1, 1) := by decide +kernel
theorem dX7_readArg_67 : decode cX7_readArg 67 = .ok (.aload_n 0, 1) := by decide +kernel
theorem dX7_readArg_68 : decode cX7_readArg 68 = .ok (.invokevirtual 122, 3) := by decide +kernel
theorem dX7_readArg_71 : decode cX7_readArg 71 = .ok (.invokevirtual 104, 3) := by decide +kernel
theorem dX7_readArg_74 : decode cX7_readArg 74 = .ok (.ireturn, 1) := by decide +kernel
theorem dX7_readArg_75 : decode cX7_readArg 75 = .ok (.iload 4, 2) := by decide +kernel
theorem dX7_readArg_77 : decode cX7_readArg 77 = .ok (.iconst (-1), 1) := by decide +kernel
theorem dX7_readArg_78 : decode cX7_readArg 78 = .ok (.if_icmp .ne 13, 3) := by decide +kernel
theorem dX7_readArg_81 : decode cX7_readArg 81 = .ok (.aload_n 0, 1) := by decide +kernel
theorem dX7_readArg_82 : decode cX7_readArg 82 = .ok (.iconst 4, 1) := by decide +kernel
theorem dX7_readArg_83 : decode cX7_readArg 83 = .ok (.aload_n 0, 1) := by decide +kernel
theorem dX7_readArg_84 : decode cX7_readArg 84 = .ok (.invokevirtual 122, 3) := by decide +kernel
theorem dX7_readArg_87 : decode cX7_readArg 87 = .ok (.invokevirtual 104, 3) := by decide +kernel
theorem dX7_readArg_90 : decode cX7_readArg 90 = .ok (.ireturn, 1) := by decide +kernel
theorem dX7_readArg_91 : decode cX7_readArg 91 = .ok (.aload_n 2, 1) := by decide +kernel
theorem dX7_readArg_92 : decode cX7_readArg 92 = .ok (.iload_n 3, 1) := by decide +kernel
theorem dX7_readArg_93 : decode cX7_readArg 93 = .ok (.iload 4, 2) := by decide +kernel
theorem dX7_readArg_95 : decode cX7_readArg 95 = .ok (.aload_n 0, 1) := by decide +kernel
theorem dX7_readArg_96 : decode cX7_readArg 96 = .ok (.invokevirtual 122, 3) := by decide +kernel
theorem dX7_readArg_99 : decode cX7_readArg 99 = .ok (.invokevirtual 192, 3) := by decide +kernel
theorem dX7_readArg_102 : decode cX7_readArg 102 = .ok (.aload_n 0, 1) := by decide +kernel
theorem dX7_readArg_103 : decode cX7_readArg 103 = .ok (.dup, 1) := by decide +kernel
theorem dX7_readArg_104 : decode cX7_readArg 104 = .ok (.getfield 48, 3) := by decide +kernel
theorem dX7_readArg_107 : decode cX7_readArg 107 = .ok (.iconst 1, 1) := by decide +kernel
theorem dX7_readArg_108 : decode cX7_readArg 108 = .ok (.iadd, 1) := by decide +kernel
theorem dX7_readArg_109 : decode cX7_readArg 109 = .ok (.putfield 48, 3) := by decide +kernel
theorem dX7_readArg_112 : decode cX7_readArg 112 = .ok (.iconst 1, 1) := by decide +kernel
theorem dX7_readArg_113 : decode cX7_readArg 113 = .ok (.ireturn, 1) := by decide +kernel
theorem dX7_type_0 : decode cX7_type 0 = .ok (.aload_n 0, 1) := by decide +kernel
theorem dX7_type_1 : decode cX7_type 1 = .ok (.getfield 48, 3) := by decide +kernel
theorem dX7_type_4 : decode cX7_type 4 = .ok (.aload_n 0, 1) := by decide +kernel
theorem dX7_type_5 : decode cX7_type 5 = .ok (.getfield 12, 3) := by decide +kernel
theorem dX7_type_8 : decode cX7_type 8 = .ok (.getfield 196, 3) := by decide +kernel
theorem dX7_type_11 : decode cX7_type 11 = .ok (.if_icmp .ge 18, 3) := by decide +kernel
theorem dX7_type_14 : decode cX7_type 14 = .ok (.aload_n 0, 1) := by decide +kernel
theorem dX7_type_15 : decode cX7_type 15 = .ok (.getfield 12, 3) := by decide +kernel
theorem dX7_type_18 : decode cX7_type 18 = .ok (.getfield 197, 3) := by decide +kernel
theorem dX7_type_21 : decode cX7_type 21 = .ok (.aload_n 0, 1) := by decide +kernel
theorem dX7_type_22 : decode cX7_type 22 = .ok (.getfield 48, 3) := by decide +kernel
theorem dX7_type_25 : decode cX7_type 25 = .ok (.iaload, 1) := by decide +kernel
theorem dX7_type_26 : decode cX7_type 26 = .ok (.goto 4, 3) := by decide +kernel
theorem dX7_type_29 : decode cX7_type 29 = .ok (.iconst 0, 1) := by decide +kernel
theorem dX7_type_30 : decode cX7_type 30 = .ok (.ireturn, 1) := by decide +kernel
theorem dX7_nextType_0 : decode cX7_nextType 0 = .ok (.aload_n 0, 1) := by decide +kernel
theorem dX7_nextType_1 : decode cX7_nextType 1 = .ok (.getfield 48, 3) := by decide +kernel
theorem dX7_nextType_4 : decode cX7_nextType 4 = .ok (.iconst 1, 1) := by decide +kernel
theorem dX7_nextType_5 : decode cX7_nextType 5 = .ok (.iadd, 1) := by decide +kernel
theorem dX7_nextType_6 : decode cX7_nextType 6 = .ok (.aload_n 0, 1) := by decide +kernel
theorem dX7_nextType_7 : decode cX7_nextType 7 = .ok (.getfield 12, 3) := by decide +kernel
theorem dX7_nextType_10 : decode cX7_nextType 10 = .ok (.getfield 196, 3) := by decide +kernel
theorem dX7_nextType_13 : decode cX7_nextType 13 = .ok (.if_icmp .ge 20, 3) := by decide +kernel
theorem dX7_nextType_16 : decode cX7_nextType 16 = .ok (.aload_n 0, 1) := by decide +kernel
theorem dX7_nextType_17 : decode cX7_nextType 17 = .ok (.getfield 12, 3) := by decide +kernel
theorem dX7_nextType_20 : decode cX7_nextType 20 = .ok (.getfield 197, 3) := by decide +kernel
theorem dX7_nextType_23 : decode cX7_nextType 23 = .ok (.aload_n 0, 1) := by decide +kernel
theorem dX7_nextType_24 : decode cX7_nextType 24 = .ok (.getfield 48, 3) := by decide +kernel
theorem dX7_nextType_27 : decode cX7_nextType 27 = .ok (.iconst 1, 1) := by decide +kernel
theorem dX7_nextType_28 : decode cX7_nextType 28 = .ok (.iadd, 1) := by decide +kernel
theorem dX7_nextType_29 : decode cX7_nextType 29 = .ok (.iaload, 1) := by decide +kernel
theorem dX7_nextType_30 : decode cX7_nextType 30 = .ok (.goto 4, 3) := by decide +kernel
theorem dX7_nextType_33 : decode cX7_nextType 33 = .ok (.iconst 0, 1) := by decide +kernel
theorem dX7_nextType_34 : decode cX7_nextType 34 = .ok (.ireturn, 1) := by decide +kernel
theorem dX7_start_0 : decode cX7_start 0 = .ok (.aload_n 0, 1) := by decide +kernel
theorem dX7_start_1 : decode cX7_start 1 = .ok (.getfield 48, 3) := by decide +kernel
theorem dX7_start_4 : decode cX7_start 4 = .ok (.aload_n 0, 1) := by decide +kernel
theorem dX7_start_5 : decode cX7_start 5 = .ok (.getfield 12, 3) := by decide +kernel
theorem dX7_start_8 : decode cX7_start 8 = .ok (.getfield 196, 3) := by decide +kernel
theorem dX7_start_11 : decode cX7_start 11 = .ok (.if_icmp .ge 18, 3) := by decide +kernel
theorem dX7_start_14 : decode cX7_start 14 = .ok (.aload_n 0, 1) := by decide +kernel
theorem dX7_start_15 : decode cX7_start 15 = .ok (.getfield 12, 3) := by decide +kernel
theorem dX7_start_18 : decode cX7_start 18 = .ok (.getfield 200, 3) := by decide +kernel
theorem dX7_start_21 : decode cX7_start 21 = .ok (.aload_n 0, 1) := by decide +kernel
theorem dX7_start_22 : decode cX7_start 22 = .ok (.getfield 48, 3) := by decide +kernel
theorem dX7_start_25 : decode cX7_start 25 = .ok (.iaload, 1) := by decide +kernel
theorem dX7_start_26 : decode cX7_start 26 = .ok (.goto 4, 3) := by decide +kernel
theorem dX7_start_29 : decode cX7_start 29 = .ok (.iconst (-1), 1) := by decide +kernel
theorem dX7_start_30 : decode cX7_start 30 = .ok (.ireturn, 1) := by decide +kernel
theorem dX7_fail_0 : decode cX7_fail 0 = .ok (.aload_n 0, 1) := by decide +kernel
theorem dX7_fail_1 : decode cX7_fail 1 = .ok (.iload_n 1, 1) := by decide +kernel
theorem dX7_fail_2 : decode cX7_fail 2 = .ok (.putfield 57, 3) := by decide +kernel
theorem dX7_fail_5 : decode cX7_fail 5 = .ok (.aload_n 0, 1) := by decide +kernel
theorem dX7_fail_6 : decode cX7_fail 6 = .ok (.iload_n 2, 1) := by decide +kernel
theorem dX7_fail_7 : decode cX7_fail 7 = .ok (.putfield 60, 3) := by decide +kernel
theorem dX7_fail_10 : decode cX7_fail 10 = .ok (.iconst 0, 1) := by decide +kernel
theorem dX7_fail_11 : decode cX7_fail 11 = .ok (.ireturn, 1) := by decide +kernel
theorem dX8_init_0 : decode cX8_init 0 = .ok (.aload_n 0, 1) := by decide +kernel
theorem dX8_init_1 : decode cX8_init 1 = .ok (.invokespecial 3, 3) := by decide +kernel
theorem dX8_init_4 : decode cX8_init 4 = .ok (.aload_n 0, 1) := by decide +kernel
theorem dX8_init_5 : decode cX8_init 5 = .ok (.new 9, 3) := by decide +kernel
theorem dX8_init_8 : decode cX8_init 8 = .ok (.dup, 1) := by decide +kernel
theorem dX8_init_9 : decode cX8_init 9 = .ok (.invokespecial 11, 3) := by decide +kernel
theorem dX8_init_12 : decode cX8_init 12 = .ok (.putfield 12, 3) := by decide +kernel
theorem dX8_init_15 : decode cX8_init 15 = .ok (.aload_n 0, 1) := by decide +kernel
theorem dX8_init_16 : decode cX8_init 16 = .ok (.iconst 4, 1) := by decide +kernel
theorem dX8_init_17 : decode cX8_init 17 = .ok (.anewarray 9, 3) := by decide +kernel
theorem dX8_init_20 : decode cX8_init 20 = .ok (.putfield 18, 3) := by decide +kernel
theorem dX8_init_23 : decode cX8_init 23 = .ok (.aload_n 0, 1) := by decide +kernel
theorem dX8_init_24 : decode cX8_init 24 = .ok (.iconst 3, 1) := by decide +kernel
theorem dX8_init_25 : decode cX8_init 25 = .ok (.newarray .int, 2) := by decide +kernel
theorem dX8_init_27 : decode cX8_init 27 = .ok (.putfield 22, 3) := by decide +kernel
theorem dX8_init_30 : decode cX8_init 30 = .ok (.iconst 0, 1) := by decide +kernel
theorem dX8_init_31 : decode cX8_init 31 = .ok (.istore_n 1, 1) := by decide +kernel
theorem dX8_init_32 : decode cX8_init 32 = .ok (.iload_n 1, 1) := by decide +kernel
theorem dX8_init_33 : decode cX8_init 33 = .ok (.iconst 4, 1) := by decide +kernel
theorem dX8_init_34 : decode cX8_init 34 = .ok (.if_icmp .ge 22, 3) := by decide +kernel
theorem dX8_init_37 : decode cX8_init 37 = .ok (.aload_n 0, 1) := by decide +kernel
theorem dX8_init_38 : decode cX8_init 38 = .ok (.getfield 18, 3) := by decide +kernel
theorem dX8_init_41 : decode cX8_init 41 = .ok (.iload_n 1, 1) := by decide +kernel
theorem dX8_init_42 : decode cX8_init 42 = .ok (.new 9, 3) := by decide +kernel
theorem dX8_init_45 : decode cX8_init 45 = .ok (.dup, 1) := by decide +kernel
theorem dX8_init_46 : decode cX8_init 46 = .ok (.invokespecial 11, 3) := by decide +kernel
theorem dX8_init_49 : decode cX8_init 49 = .ok (.aastore, 1) := by decide +kernel
theorem dX8_init_50 : decode cX8_init 50 = .ok (.iinc 1 1, 3) := by decide +kernel
theorem dX8_init_53 : decode cX8_init 53 = .ok (.goto (-21), 3) := by decide +kernel
theorem dX8_init_56 : decode cX8_init 56 = .ok (.return_, 1) := by decide +kernel
theorem dX8_clear_0 : decode cX8_clear 0 = .ok (.aload_n 0, 1) := by decide +kernel
theorem dX8_clear_1 : decode cX8_clear 1 = .ok (.iconst 0, 1) := by decide +kernel
theorem dX8_clear_2 : decode cX8_clear 2 = .ok (.putfield 26, 3) := by decide +kernel
theorem dX8_clear_5 : decode cX8_clear 5 = .ok (.aload_n 0, 1) := by decide +kernel
theorem dX8_clear_6 : decode cX8_clear 6 = .ok (.iconst 0, 1) := by decide +kernel
theorem dX8_clear_7 : decode cX8_clear 7 = .ok (.putfield 30, 3) := by decide +kernel
theorem dX8_clear_10 : decode cX8_clear 10 = .ok (.return_, 1) := by decide +kernel
theorem dX8_findOrAddSign_0 : decode cX8_findOrAddSign 0 = .ok (.iconst 0, 1) := by decide +kernel
theorem dX8_findOrAddSign_1 : decode cX8_findOrAddSign 1 = .ok (.istore_n 2, 1) := by decide +kernel
theorem dX8_findOrAddSign_2 : decode cX8_findOrAddSign 2 = .ok (.iload_n 2, 1) := by decide +kernel
theorem dX8_findOrAddSign_3 : decode cX8_findOrAddSign 3 = .ok (.aload_n 0, 1) := by decide +kernel
theorem dX8_findOrAddSign_4 : decode cX8_findOrAddSign 4 = .ok (.getfield 30, 3) := by decide +kernel
theorem dX8_findOrAddSign_7 : decode cX8_findOrAddSign 7 = .ok (.if_icmp .ge 24, 3) := by decide +kernel
theorem dX8_findOrAddSign_10 : decode cX8_findOrAddSign 10 = .ok (.aload_n 0, 1) := by decide +kernel
theorem dX8_findOrAddSign_11 : decode cX8_findOrAddSign 11 = .ok (.getfield 22, 3) := by decide +kernel
theorem dX8_findOrAddSign_14 : decode cX8_findOrAddSign 14 = .ok (.iload_n 2, 1) := by decide +kernel
theorem dX8_findOrAddSign_15 : decode cX8_findOrAddSign 15 = .ok (.iaload, 1) := by decide +kernel
theorem dX8_findOrAddSign_16 : decode cX8_findOrAddSign 16 = .ok (.iload_n 1, 1) := by decide +kernel
theorem dX8_findOrAddSign_17 : decode cX8_findOrAddSign 17 = .ok (.if_icmp .ne 8, 3) := by decide +kernel
theorem dX8_findOrAddSign_20 : decode cX8_findOrAddSign 20 = .ok (.bipush 100, 2) := by decide +kernel
theorem dX8_findOrAddSign_22 : decode cX8_findOrAddSign 22 = .ok (.iload_n 2, 1) := by decide +kernel
theorem dX8_findOrAddSign_23 : decode cX8_findOrAddSign 23 = .ok (.iadd, 1) := by decide +kernel
theorem dX8_findOrAddSign_24 : decode cX8_findOrAddSign 24 = .ok (.ireturn, 1) := by decide +kernel
theorem dX8_findOrAddSign_25 : decode cX8_findOrAddSign 25 = .ok (.iinc 2 1, 3) := by decide +kernel
theorem dX8_findOrAddSign_28 : decode cX8_findOrAddSign 28 = .ok (.goto (-26), 3) := by decide +kernel
theorem dX8_findOrAddSign_31 : decode cX8_findOrAddSign 31 = .ok (.aload_n 0, 1) := by decide +kernel
theorem dX8_findOrAddSign_32 : decode cX8_findOrAddSign 32 = .ok (.getfield 30, 3) := by decide +kernel
theorem dX8_findOrAddSign_35 : decode cX8_findOrAddSign 35 = .ok (.iconst 3, 1) := by decide +kernel
theorem dX8_findOrAddSign_36 : decode cX8_findOrAddSign 36 = .ok (.if_icmp .lt 5, 3) := by decide +kernel
theorem dX8_findOrAddSign_39 : decode cX8_findOrAddSign 39 = .ok (.iconst (-1), 1) := by decide +kernel
theorem dX8_findOrAddSign_40 : decode cX8_findOrAddSign 40 = .ok (.ireturn, 1) := by decide +kernel
theorem dX8_findOrAddSign_41 : decode cX8_findOrAddSign 41 = .ok (.aload_n 0, 1) := by decide +kernel
theorem dX8_findOrAddSign_42 : decode cX8_findOrAddSign 42 = .ok (.getfield 22, 3) := by decide +kernel
theorem dX8_findOrAddSign_45 : decode cX8_findOrAddSign 45 = .ok (.aload_n 0, 1) := by decide +kernel
theorem dX8_findOrAddSign_46 : decode cX8_findOrAddSign 46 = .ok (.getfield 30, 3) := by decide +kernel
theorem dX8_findOrAddSign_49 : decode cX8_findOrAddSign 49 = .ok (.iload_n 1, 1) := by decide +kernel
theorem dX8_findOrAddSign_50 : decode cX8_findOrAddSign 50 = .ok (.iastore, 1) := by decide +kernel
theorem dX8_findOrAddSign_51 : decode cX8_findOrAddSign 51 = .ok (.aload_n 0, 1) := by decide +kernel
theorem dX8_findOrAddSign_52 : decode cX8_findOrAddSign 52 = .ok (.dup, 1) := by decide +kernel
theorem dX8_findOrAddSign_53 : decode cX8_findOrAddSign 53 = .ok (.getfield 30, 3) := by decide +kernel
theorem dX8_findOrAddSign_56 : decode cX8_findOrAddSign 56 = .ok (.iconst 1, 1) := by decide +kernel
theorem dX8_findOrAddSign_57 : decode cX8_findOrAddSign 57 = .ok (.iadd, 1) := by decide +kernel
theorem dX8_findOrAddSign_58 : decode cX8_findOrAddSign 58 = .ok (.putfield 30, 3) := by decide +kernel
theorem dX8_findOrAddSign_61 : decode cX8_findOrAddSign 61 = .ok (.bipush 100, 2) := by decide +kernel
theorem dX8_findOrAddSign_63 : decode cX8_findOrAddSign 63 = .ok (.aload_n 0, 1) := by decide +kernel
theorem dX8_findOrAddSign_64 : decode cX8_findOrAddSign 64 = .ok (.getfield 30, 3) := by decide +kernel
theorem dX8_findOrAddSign_67 : decode cX8_findOrAddSign 67 = .ok (.iadd, 1) := by decide +kernel
theorem dX8_findOrAddSign_68 : decode cX8_findOrAddSign 68 = .ok (.iconst 1, 1) := by decide +kernel
theorem dX8_findOrAddSign_69 : decode cX8_findOrAddSign 69 = .ok (.isub, 1) := by decide +kernel
theorem dX8_findOrAddSign_70 : decode cX8_findOrAddSign 70 = .ok (.ireturn, 1) := by decide +kernel
theorem dX8_loosePlace_0 : decode cX8_loosePlace 0 = .ok (.aload_n 0, 1) := by decide +kernel
theorem dX8_loosePlace_1 : decode cX8_loosePlace 1 = .ok (.aload_n 1, 1) := by decide +kernel
theorem dX8_loosePlace_2 : decode cX8_loosePlace 2 = .ok (.getfield 33, 3) := by decide +kernel
theorem dX8_loosePlace_5 : decode cX8_loosePlace 5 = .ok (.invokevirtual 36, 3) := by decide +kernel
theorem dX8_loosePlace_8 : decode cX8_loosePlace 8 = .ok (.ifCond .eq 8, 3) := by decide +kernel
theorem dX8_loosePlace_11 : decode cX8_loosePlace 11 = .ok (.aload_n 1, 1) := by decide +kernel
theorem dX8_loosePlace_12 : decode cX8_loosePlace 12 = .ok (.getfield 40, 3) := by decide +kernel
theorem dX8_loosePlace_15 : decode cX8_loosePlace 15 = .ok (.ireturn, 1) := by decide +kernel
theorem dX8_loosePlace_16 : decode cX8_loosePlace 16 = .ok (.aload_n 0, 1) := by decide +kernel
theorem dX8_loosePlace_17 : decode cX8_loosePlace 17 = .ok (.aload_n 1, 1) := by decide +kernel
theorem dX8_loosePlace_18 : decode cX8_loosePlace 18 = .ok (.getfield 43, 3) := by decide +kernel
theorem dX8_loosePlace_21 : decode cX8_loosePlace 21 = .ok (.invokevirtual 36, 3) := by decide +kernel
theorem dX8_loosePlace_24 : decode cX8_loosePlace 24 = .ok (.ifCond .eq 10, 3) := by decide +kernel
theorem dX8_loosePlace_27 : decode cX8_loosePlace 27 = .ok (.aload_n 1, 1) := by decide +kernel
theorem dX8_loosePlace_28 : decode cX8_loosePlace 28 = .ok (.getfield 46, 3) := by decide +kernel
theorem dX8_loosePlace_31 : decode cX8_loosePlace 31 = .ok (.goto 4, 3) := by decide +kernel
theorem dX8_loosePlace_34 : decode cX8_loosePlace 34 = .ok (.iconst (-1), 1) := by decide +kernel
theorem dX8_loosePlace_35 : decode cX8_loosePlace 35 = .ok (.ireturn, 1) := by decide +kernel
theorem dX8_isLoose_0 : decode cX8_isLoose 0 = .ok (.iload_n 1, 1) := by decide +kernel
theorem dX8_isLoose_1 : decode cX8_isLoose 1 = .ok (.bipush 100, 2) := by decide +kernel
theorem dX8_isLoose_3 : decode cX8_isLoose 3 = .ok (.if_icmp .ge 5, 3) := by decide +kernel
theorem dX8_isLoose_6 : decode cX8_isLoose 6 = .ok (.iconst 0, 1) := by decide +kernel
theorem dX8_isLoose_7 : decode cX8_isLoose 7 = .ok (.ireturn, 1) := by decide +kernel
theorem dX8_isLoose_8 : decode cX8_isLoose 8 = .ok (.iconst 0, 1) := by decide +kernel
theorem dX8_isLoose_9 : decode cX8_isLoose 9 = .ok (.istore_n 2, 1) := by decide +kernel
theorem dX8_isLoose_10 : decode cX8_isLoose 10 = .ok (.iload_n 2, 1) := by decide +kernel
theorem dX8_isLoose_11 : decode cX8_isLoose 11 = .ok (.aload_n 0, 1) := by decide +kernel
theorem dX8_isLoose_12 : decode cX8_isLoose 12 = .ok (.getfield 26, 3) := by decide +kernel
theorem dX8_isLoose_15 : decode cX8_isLoose 15 = .ok (.if_icmp .ge 41, 3) := by decide +kernel
theorem dX8_isLoose_18 : decode cX8_isLoose 18 = .ok (.aload_n 0, 1) := by decide +kernel
theorem dX8_isLoose_19 : decode cX8_isLoose 19 = .ok (.getfield 18, 3) := by decide +kernel
theorem dX8_isLoose_22 : decode cX8_isLoose 22 = .ok (.iload_n 2, 1) := by decide +kernel
theorem dX8_isLoose_23 : decode cX8_isLoose 23 = .ok (.aaload, 1) := by decide +kernel
theorem dX8_isLoose_24 : decode cX8_isLoose 24 = .ok (.astore_n 3, 1) := by decide +kernel
theorem dX8_isLoose_25 : decode cX8_isLoose 25 = .ok (.aload_n 3, 1) := by decide +kernel
theorem dX8_isLoose_26 : decode cX8_isLoose 26 = .ok (.getfield 49, 3) := by decide +kernel
theorem dX8_isLoose_29 : decode cX8_isLoose 29 = .ok (.ifCond .ne 21, 3) := by decide +kernel
theorem dX8_isLoose_32 : decode cX8_isLoose 32 = .ok (.aload_n 3, 1) := by decide +kernel
theorem dX8_isLoose_33 : decode cX8_isLoose 33 = .ok (.getfield 33, 3) := by decide +kernel
theorem dX8_isLoose_36 : decode cX8_isLoose 36 = .ok (.iload_n 1, 1) := by decide +kernel
theorem dX8_isLoose_37 : decode cX8_isLoose 37 = .ok (.if_icmp .eq 11, 3) := by decide +kernel
theorem dX8_isLoose_40 : decode cX8_isLoose 40 = .ok (.aload_n 3, 1) := by decide +kernel
theorem dX8_isLoose_41 : decode cX8_isLoose 41 = .ok (.getfield 43, 3) := by decide +kernel
theorem dX8_isLoose_44 : decode cX8_isLoose 44 = .ok (.iload_n 1, 1) := by decide +kernel
theorem dX8_isLoose_45 : decode cX8_isLoose 45 = .ok (.if_icmp .ne 5, 3) := by decide +kernel
theorem dX8_isLoose_48 : decode cX8_isLoose 48 = .ok (.iconst 0, 1) := by decide +kernel
theorem dX8_isLoose_49 : decode cX8_isLoose 49 = .ok (.ireturn, 1) := by decide +kernel
theorem dX8_isLoose_50 : decode cX8_isLoose 50 = .ok (.iinc 2 1, 3) := by decide +kernel
theorem dX8_isLoose_53 : decode cX8_isLoose 53 = .ok (.goto (-43), 3) := by decide +kernel
theorem dX8_isLoose_56 : decode cX8_isLoose 56 = .ok (.iconst 1, 1) := by decide +kernel
theorem dX8_isLoose_57 : decode cX8_isLoose 57 = .ok (.ireturn, 1) := by decide +kernel
theorem dX9_init_0 : decode cX9_init 0 = .ok (.aload_n 0, 1) := by decide +kernel
theorem dX9_init_1 : decode cX9_init 1 = .ok (.invokespecial 3, 3) := by decide +kernel
theorem dX9_init_4 : decode cX9_init 4 = .ok (.return_, 1) := by decide +kernel
theorem dX9_clear_0 : decode cX9_clear 0 = .ok (.aload_n 0, 1) := by decide +kernel
theorem dX9_clear_1 : decode cX9_clear 1 = .ok (.iload_n 1, 1) := by decide +kernel
theorem dX9_clear_2 : decode cX9_clear 2 = .ok (.putfield 9, 3) := by decide +kernel
theorem dX9_clear_5 : decode cX9_clear 5 = .ok (.aload_n 0, 1) := by decide +kernel
theorem dX9_clear_6 : decode cX9_clear 6 = .ok (.iconst (-1), 1) := by decide +kernel
theorem dX9_clear_7 : decode cX9_clear 7 = .ok (.putfield 15, 3) := by decide +kernel
theorem dX9_clear_10 : decode cX9_clear 10 = .ok (.aload_n 0, 1) := by decide +kernel
theorem dX9_clear_11 : decode cX9_clear 11 = .ok (.iconst (-1), 1) := by decide +kernel
theorem dX9_clear_12 : decode cX9_clear 12 = .ok (.putfield 18, 3) := by decide +kernel
theorem dX9_clear_15 : decode cX9_clear 15 = .ok (.aload_n 0, 1) := by decide +kernel
theorem dX9_clear_16 : decode cX9_clear 16 = .ok (.iconst (-1), 1) := by decide +kernel
theorem dX9_clear_17 : decode cX9_clear 17 = .ok (.putfield 21, 3) := by decide +kernel
theorem dX9_clear_20 : decode cX9_clear 20 = .ok (.return_, 1) := by decide +kernel
theorem dX9_setArg_0 : decode cX9_setArg 0 = .ok (.iload_n 1, 1) := by decide +kernel
theorem dX9_setArg_1 : decode cX9_setArg 1 = .ok (.ifCond .eq 16, 3) := by decide +kernel
theorem dX9_setArg_4 : decode cX9_setArg 4 = .ok (.aload_n 0, 1) := by decide +kernel
theorem dX9_setArg_5 : decode cX9_setArg 5 = .ok (.iload_n 2, 1) := by decide +kernel
theorem dX9_setArg_6 : decode cX9_setArg 6 = .ok (.putfield 18, 3) := by decide +kernel
theorem dX9_setArg_9 : decode cX9_setArg 9 = .ok (.aload_n 0, 1) := by decide +kernel
theorem dX9_setArg_10 : decode cX9_setArg 10 = .ok (.iload_n 3, 1) := by decide +kernel
theorem dX9_setArg_11 : decode cX9_setArg 11 = .ok (.putfield 24, 3) := by decide +kernel
theorem dX9_setArg_14 : decode cX9_setArg 14 = .ok (.goto 13, 3) := by decide +kernel
theorem dX9_setArg_17 : decode cX9_setArg 17 = .ok (.aload_n 0, 1) := by decide +kernel
theorem dX9_setArg_18 : decode cX9_setArg 18 = .ok (.iload_n 2, 1) := by decide +kernel
theorem dX9_setArg_19 : decode cX9_setArg 19 = .ok (.putfield 21, 3) := by decide +kernel
theorem dX9_setArg_22 : decode cX9_setArg 22 = .ok (.aload_n 0, 1) := by decide +kernel
theorem dX9_setArg_23 : decode cX9_setArg 23 = .ok (.iload_n 3, 1) := by decide +kernel
theorem dX9_setArg_24 : decode cX9_setArg 24 = .ok (.putfield 27, 3) := by decide +kernel
theorem dX9_setArg_27 : decode cX9_setArg 27 = .ok (.return_, 1) := by decide +kernel
theorem dX10_init_0 : decode cX10_init 0 = .ok (.aload_n 0, 1) := by decide +kernel
theorem dX10_init_1 : decode cX10_init 1 = .ok (.invokespecial 3, 3) := by decide +kernel
theorem dX10_init_4 : decode cX10_init 4 = .ok (.aload_n 0, 1) := by decide +kernel
theorem dX10_init_5 : decode cX10_init 5 = .ok (.sipush 401, 3) := by decide +kernel
theorem dX10_init_8 : decode cX10_init 8 = .ok (.newarray .int, 2) := by decide +kernel
theorem dX10_init_10 : decode cX10_init 10 = .ok (.putfield 9, 3) := by decide +kernel
theorem dX10_init_13 : decode cX10_init 13 = .ok (.aload_n 0, 1) := by decide +kernel
theorem dX10_init_14 : decode cX10_init 14 = .ok (.sipush 401, 3) := by decide +kernel
theorem dX10_init_17 : decode cX10_init 17 = .ok (.newarray .int, 2) := by decide +kernel
theorem dX10_init_19 : decode cX10_init 19 = .ok (.putfield 15, 3) := by decide +kernel
theorem dX10_init_22 : decode cX10_init 22 = .ok (.aload_n 0, 1) := by decide +kernel
theorem dX10_init_23 : decode cX10_init 23 = .ok (.sipush 401, 3) := by decide +kernel
theorem dX10_init_26 : decode cX10_init 26 = .ok (.newarray .long, 2) := by decide +kernel
theorem dX10_init_28 : decode cX10_init 28 = .ok (.putfield 18, 3) := by decide +kernel
theorem dX10_init_31 : decode cX10_init 31 = .ok (.return_, 1) := by decide +kernel
theorem dX10_read_0 : decode cX10_read 0 = .ok (.aload_n 0, 1) := by decide +kernel
theorem dX10_read_1 : decode cX10_read 1 = .ok (.iconst 0, 1) := by decide +kernel
theorem dX10_read_2 : decode cX10_read 2 = .ok (.putfield 22, 3) := by decide +kernel
theorem dX10_read_5 : decode cX10_read 5 = .ok (.iconst 0, 1) := by decide +kernel
theorem dX10_read_6 : decode cX10_read 6 = .ok (.istore_n 3, 1) := by decide +kernel
theorem dX10_read_7 : decode cX10_read 7 = .ok (.iconst 0, 1) := by decide +kernel
theorem dX10_read_8 : decode cX10_read 8 = .ok (.istore 4, 2) := by decide +kernel
theorem dX10_read_10 : decode cX10_read 10 = .ok (.iload 4, 2) := by decide +kernel
theorem dX10_read_12 : decode cX10_read 12 = .ok (.iload_n 2, 1) := by decide +kernel
theorem dX10_read_13 : decode cX10_read 13 = .ok (.if_icmp .ge 142, 3) := by decide +kernel
theorem dX10_read_16 : decode cX10_read 16 = .ok (.iload 4, 2) := by decide +kernel
theorem dX10_read_18 : decode cX10_read 18 = .ok (.sipush 400, 3) := by decide +kernel
theorem dX10_read_21 : decode cX10_read 21 = .ok (.if_icmp .ge 134, 3) := by decide +kernel
theorem dX10_read_24 : decode cX10_read 24 = .ok (.aload_n 1, 1) := by decide +kernel
theorem dX10_read_25 : decode cX10_read 25 = .ok (.iload 4, 2) := by decide +kernel
theorem dX10_read_27 : decode cX10_read 27 = .ok (.iaload, 1) := by decide +kernel
theorem dX10_read_28 : decode cX10_read 28 = .ok (.istore 5, 2) := by decide +kernel
theorem dX10_read_30 : decode cX10_read 30 = .ok (.iload 5, 2) := by decide +kernel
theorem dX10_read_32 : decode cX10_read 32 = .ok (.bipush 97, 2) := by decide +kernel
theorem dX10_read_34 : decode cX10_read 34 = .ok (.if_icmp .lt 69, 3) := by decide +kernel
theorem dX10_read_37 : decode cX10_read 37 = .ok (.iload 5, 2) := by decide +kernel
theorem dX10_read_39 : decode cX10_read 39 = .ok (.bipush 122, 2) := by decide +kernel
theorem dX10_read_41 : decode cX10_read 41 = .ok (.if_icmp .gt 62, 3) := by decide +kernel
theorem dX10_read_44 : decode cX10_read 44 = .ok (.iload_n 3, 1) := by decide +kernel
theorem dX10_read_45 : decode cX10_read 45 = .ok (.ifCond .ne 11, 3) := by decide +kernel
theorem dX10_read_48 : decode cX10_read 48 = .ok (.aload_n 0, 1) := by decide +kernel
theorem dX10_read_49 : decode cX10_read 49 = .ok (.iconst 2, 1) := by decide +kernel
theorem dX10_read_50 : decode cX10_read 50 = .ok (.iload 4, 2) := by decide +kernel
theorem dX10_read_52 : decode cX10_read 52 = .ok (.lconst 0, 1) := by decide +kernel
theorem dX10_read_53 : decode cX10_read 53 = .ok (.invokevirtual 26, 3) := by decide +kernel
theorem dX10_read_56 : decode cX10_read 56 = .ok (.iload_n 3, 1) := by decide +kernel
theorem dX10_read_57 : decode cX10_read 57 = .ok (.bipush 8, 2) := by decide +kernel
theorem dX10_read_59 : decode cX10_read 59 = .ok (.if_icmp .lt 16, 3) := by decide +kernel
theorem dX10_read_62 : decode cX10_read 62 = .ok (.aload_n 0, 1) := by decide +kernel
theorem dX10_read_63 : decode cX10_read 63 = .ok (.getfield 9, 3) := by decide +kernel
theorem dX10_read_66 : decode cX10_read 66 = .ok (.aload_n 0, 1) := by decide +kernel
theorem dX10_read_67 : decode cX10_read 67 = .ok (.getfield 22, 3) := by decide +kernel
theorem dX10_read_70 : decode cX10_read 70 = .ok (.iconst 1, 1) := by decide +kernel
theorem dX10_read_71 : decode cX10_read 71 = .ok (.isub, 1) := by decide +kernel
theorem dX10_read_72 : decode cX10_read 72 = .ok (.iconst 1, 1) := by decide +kernel
theorem dX10_read_73 : decode cX10_read 73 = .ok (.iastore, 1) := by decide +kernel
theorem dX10_read_74 : decode cX10_read 74 = .ok (.return_, 1) := by decide +kernel
theorem dX10_read_75 : decode cX10_read 75 = .ok (.aload_n 0, 1) := by decide +kernel
theorem dX10_read_76 : decode cX10_read 76 = .ok (.getfield 18, 3) := by decide +kernel
theorem dX10_read_79 : decode cX10_read 79 = .ok (.aload_n 0, 1) := by decide +kernel
theorem dX10_read_80 : decode cX10_read 80 = .ok (.getfield 22, 3) := by decide +kernel
theorem dX10_read_83 : decode cX10_read 83 = .ok (.iconst 1, 1) := by decide +kernel
theorem dX10_read_84 : decode cX10_read 84 = .ok (.isub, 1) := by decide +kernel
theorem dX10_read_85 : decode cX10_read 85 = .ok (.dup2, 1) := by decide +kernel
theorem dX10_read_86 : decode cX10_read 86 = .ok (.laload, 1) := by decide +kernel
theorem dX10_read_87 : decode cX10_read 87 = .ok (.iload 5, 2) := by decide +kernel
theorem dX10_read_89 : decode cX10_read 89 = .ok (.i2l, 1) := by decide +kernel
theorem dX10_read_90 : decode cX10_read 90 = .ok (.bipush 8, 2) := by decide +kernel
theorem dX10_read_92 : decode cX10_read 92 = .ok (.iload_n 3, 1) := by decide +kernel
theorem dX10_read_93 : decode cX10_read 93 = .ok (.imul, 1) := by decide +kernel
theorem dX10_read_94 : decode cX10_read 94 = .ok (.lshl, 1) := by decide +kernel
theorem dX10_read_95 : decode cX10_read 95 = .ok (.lor, 1) := by decide +kernel
theorem dX10_read_96 : decode cX10_read 96 = .ok (.lastore, 1) := by decide +kernel
theorem dX10_read_97 : decode cX10_read 97 = .ok (.iinc 3 1, 3) := by decide +kernel
theorem dX10_read_100 : decode cX10_read 100 = .ok (.goto 49, 3) := by decide +kernel
theorem dX10_read_103 : decode cX10_read 103 = .ok (.iconst 0, 1) := by decide +kernel
theorem dX10_read_104 : decode cX10_read 104 = .ok (.istore_n 3, 1) := by decide +kernel
theorem dX10_read_105 : decode cX10_read 105 = .ok (.iload 5, 2) := by decide +kernel
theorem dX10_read_107 : decode cX10_read 107 = .ok (.bipush 32, 2) := by decide +kernel
theorem dX10_read_109 : decode cX10_read 109 = .ok (.if_icmp .eq 40, 3) := by decide +kernel
theorem dX10_read_112 : decode cX10_read 112 = .ok (.iload 5, 2) := by decide +kernel
theorem dX10_read_114 : decode cX10_read 114 = .ok (.bipush 10, 2) := by decide +kernel
theorem dX10_read_116 : decode cX10_read 116 = .ok (.if_icmp .eq 33, 3) := by decide +kernel
theorem dX10_read_119 : decode cX10_read 119 = .ok (.aload_n 0, 1) := by decide +kernel
theorem dX10_read_120 : decode cX10_read 120 = .ok (.iload 5, 2) := by decide +kernel
theorem dX10_read_122 : decode cX10_read 122 = .ok (.invokestatic 30, 3) := by decide +kernel
theorem dX10_read_125 : decode cX10_read 125 = .ok (.iload 4, 2) := by decide +kernel
theorem dX10_read_127 : decode cX10_read 127 = .ok (.iload 5, 2) := by decide +kernel
theorem dX10_read_129 : decode cX10_read 129 = .ok (.i2l, 1) := by decide +kernel
theorem dX10_read_130 : decode cX10_read 130 = .ok (.invokevirtual 26, 3) := by decide +kernel
theorem dX10_read_133 : decode cX10_read 133 = .ok (.aload_n 0, 1) := by decide +kernel
theorem dX10_read_134 : decode cX10_read 134 = .ok (.getfield 9, 3) := by decide +kernel
theorem dX10_read_137 : decode cX10_read 137 = .ok (.aload_n 0, 1) := by decide +kernel
theorem dX10_read_138 : decode cX10_read 138 = .ok (.getfield 22, 3) := by decide +kernel
theorem dX10_read_141 : decode cX10_read 141 = .ok (.iconst 1, 1) := by decide +kernel
theorem dX10_read_142 : decode cX10_read 142 = .ok (.isub, 1) := by decide +kernel
theorem dX10_read_143 : decode cX10_read 143 = .ok (.iaload, 1) := by decide +kernel
theorem dX10_read_144 : decode cX10_read 144 = .ok (.iconst 1, 1) := by decide +kernel
theorem dX10_read_145 : decode cX10_read 145 = .ok (.if_icmp .ne 4, 3) := by decide +kernel
theorem dX10_read_148 : decode cX10_read 148 = .ok (.return_, 1) := by decide +kernel
theorem dX10_read_149 : decode cX10_read 149 = .ok (.iinc 4 1, 3) := by decide +kernel
theorem dX10_read_152 : decode cX10_read 152 = .ok (.goto (-142), 3) := by decide +kernel
theorem dX10_read_155 : decode cX10_read 155 = .ok (.aload_n 0, 1) := by decide +kernel
theorem dX10_read_156 : decode cX10_read 156 = .ok (.iconst 0, 1) := by decide +kernel
theorem dX10_read_157 : decode cX10_read 157 = .ok (.iload_n 2, 1) := by decide +kernel
theorem dX10_read_158 : decode cX10_read 158 = .ok (.lconst 0, 1) := by decide +kernel
theorem dX10_read_159 : decode cX10_read 159 = .ok (.invokevirtual 26, 3) := by decide +kernel
theorem dX10_read_162 : decode cX10_read 162 = .ok (.return_, 1) := by decide +kernel
theorem dX10_put_0 : decode cX10_put 0 = .ok (.aload_n 0, 1) := by decide +kernel
theorem dX10_put_1 : decode cX10_put 1 = .ok (.getfield 22, 3) := by decide +kernel
theorem dX10_put_4 : decode cX10_put 4 = .ok (.sipush 400, 3) := by decide +kernel
theorem dX10_put_7 : decode cX10_put 7 = .ok (.if_icmp .gt 43, 3) := by decide +kernel
theorem dX10_put_10 : decode cX10_put 10 = .ok (.aload_n 0, 1) := by decide +kernel
theorem dX10_put_11 : decode cX10_put 11 = .ok (.getfield 9, 3) := by decide +kernel
theorem dX10_put_14 : decode cX10_put 14 = .ok (.aload_n 0, 1) := by decide +kernel
theorem dX10_put_15 : decode cX10_put 15 = .ok (.getfield 22, 3) := by decide +kernel
theorem dX10_put_18 : decode cX10_put 18 = .ok (.iload_n 1, 1) := by decide +kernel
theorem dX10_put_19 : decode cX10_put 19 = .ok (.iastore, 1) := by decide +kernel
theorem dX10_put_20 : decode cX10_put 20 = .ok (.aload_n 0, 1) := by decide +kernel
theorem dX10_put_21 : decode cX10_put 21 = .ok (.getfield 15, 3) := by decide +kernel
theorem dX10_put_24 : decode cX10_put 24 = .ok (.aload_n 0, 1) := by decide +kernel
theorem dX10_put_25 : decode cX10_put 25 = .ok (.getfield 22, 3) := by decide +kernel
theorem dX10_put_28 : decode cX10_put 28 = .ok (.iload_n 2, 1) := by decide +kernel
theorem dX10_put_29 : decode cX10_put 29 = .ok (.iastore, 1) := by decide +kernel
theorem dX10_put_30 : decode cX10_put 30 = .ok (.aload_n 0, 1) := by decide +kernel
theorem dX10_put_31 : decode cX10_put 31 = .ok (.getfield 18, 3) := by decide +kernel
theorem dX10_put_34 : decode cX10_put 34 = .ok (.aload_n 0, 1) := by decide +kernel
theorem dX10_put_35 : decode cX10_put 35 = .ok (.getfield 22, 3) := by decide +kernel
theorem dX10_put_38 : decode cX10_put 38 = .ok (.lload_n 3, 1) := by decide +kernel
theorem dX10_put_39 : decode cX10_put 39 = .ok (.lastore, 1) := by decide +kernel
theorem dX10_put_40 : decode cX10_put 40 = .ok (.aload_n 0, 1) := by decide +kernel
theorem dX10_put_41 : decode cX10_put 41 = .ok (.dup, 1) := by decide +kernel
theorem dX10_put_42 : decode cX10_put 42 = .ok (.getfield 22, 3) := by decide +kernel
theorem dX10_put_45 : decode cX10_put 45 = .ok (.iconst 1, 1) := by decide +kernel
theorem dX10_put_46 : decode cX10_put 46 = .ok (.iadd, 1) := by decide +kernel
theorem dX10_put_47 : decode cX10_put 47 = .ok (.putfield 22, 3) := by decide +kernel
theorem dX10_put_50 : decode cX10_put 50 = .ok (.return_, 1) := by decide +kernel
theorem dX10_typeOf_0 : decode cX10_typeOf 0 = .ok (.iload_n 0, 1) := by decide +kernel
theorem dX10_typeOf_1 : decode cX10_typeOf 1 = .ok (.bipush 65, 2) := by decide +kernel
theorem dX10_typeOf_3 : decode cX10_typeOf 3 = .ok (.if_icmp .lt 11, 3) := by decide +kernel
theorem dX10_typeOf_6 : decode cX10_typeOf 6 = .ok (.iload_n 0, 1) := by decide +kernel
theorem dX10_typeOf_7 : decode cX10_typeOf 7 = .ok (.bipush 72, 2) := by decide +kernel
theorem dX10_typeOf_9 : decode cX10_typeOf 9 = .ok (.if_icmp .gt 5, 3) := by decide +kernel
theorem dX10_typeOf_12 : decode cX10_typeOf 12 = .ok (.iconst 3, 1) := by decide +kernel
theorem dX10_typeOf_13 : decode cX10_typeOf 13 = .ok (.ireturn, 1) := by decide +kernel
theorem dX10_typeOf_14 : decode cX10_typeOf 14 = .ok (.iload_n 0, 1) := by decide +kernel
theorem dX10_typeOf_15 : decode cX10_typeOf 15 = .ok (.bipush 40, 2) := by decide +kernel
theorem dX10_typeOf_17 : decode cX10_typeOf 17 = .ok (.if_icmp .eq 33, 3) := by decide +kernel
theorem dX10_typeOf_20 : decode cX10_typeOf 20 = .ok (.iload_n 0, 1) := by decide +kernel
theorem dX10_typeOf_21 : decode cX10_typeOf 21 = .ok (.bipush 41, 2) := by decide +kernel
theorem dX10_typeOf_23 : decode cX10_typeOf 23 = .ok (.if_icmp .eq 27, 3) := by decide +kernel
theorem dX10_typeOf_26 : decode cX10_typeOf 26 = .ok (.iload_n 0, 1) := by decide +kernel
theorem dX10_typeOf_27 : decode cX10_typeOf 27 = .ok (.bipush 44, 2) := by decide +kernel
theorem dX10_typeOf_29 : decode cX10_typeOf 29 = .ok (.if_icmp .eq 21, 3) := by decide +kernel
theorem dX10_typeOf_32 : decode cX10_typeOf 32 = .ok (.iload_n 0, 1) := by decide +kernel
theorem dX10_typeOf_33 : decode cX10_typeOf 33 = .ok (.bipush 46, 2) := by decide +kernel
theorem dX10_typeOf_35 : decode cX10_typeOf 35 = .ok (.if_icmp .eq 15, 3) := by decide +kernel
theorem dX10_typeOf_38 : decode cX10_typeOf 38 = .ok (.iload_n 0, 1) := by decide +kernel
theorem dX10_typeOf_39 : decode cX10_typeOf 39 = .ok (.bipush 58, 2) := by decide +kernel
theorem dX10_typeOf_41 : decode cX10_typeOf 41 = .ok (.if_icmp .eq 9, 3) := by decide +kernel
theorem dX10_typeOf_44 : decode cX10_typeOf 44 = .ok (.iload_n 0, 1) := by decide +kernel
theorem dX10_typeOf_45 : decode cX10_typeOf 45 = .ok (.bipush 35, 2) := by decide +kernel
theorem dX10_typeOf_47 : decode cX10_typeOf 47 = .ok (.if_icmp .ne 7, 3) := by decide +kernel
theorem dX10_typeOf_50 : decode cX10_typeOf 50 = .ok (.iconst 1, 1) := by decide +kernel
theorem dX10_typeOf_51 : decode cX10_typeOf 51 = .ok (.goto 4, 3) := by decide +kernel
theorem dX10_typeOf_54 : decode cX10_typeOf 54 = .ok (.iconst 0, 1) := by decide +kernel
theorem dX10_typeOf_55 : decode cX10_typeOf 55 = .ok (.istore_n 1, 1) := by decide +kernel
theorem dX10_typeOf_56 : decode cX10_typeOf 56 = .ok (.iload_n 1, 1) := by decide +kernel
theorem dX10_typeOf_57 : decode cX10_typeOf 57 = .ok (.ifCond .eq 7, 3) := by decide +kernel
theorem dX10_typeOf_60 : decode cX10_typeOf 60 = .ok (.iload_n 0, 1) := by decide +kernel
theorem dX10_typeOf_61 : decode cX10_typeOf 61 = .ok (.goto 4, 3) := by decide +kernel
theorem dX10_typeOf_64 : decode cX10_typeOf 64 = .ok (.iconst 1, 1) := by decide +kernel
theorem dX10_typeOf_65 : decode cX10_typeOf 65 = .ok (.ireturn, 1) := by decide +kernel
theorem dX11_init_0 : decode cX11_init 0 = .ok (.aload_n 0, 1) := by decide +kernel
theorem dX11_init_1 : decode cX11_init 1 = .ok (.invokespecial 3, 3) := by decide +kernel
theorem dX11_init_4 : decode cX11_init 4 = .ok (.aload_n 0, 1) := by decide +kernel
theorem dX11_init_5 : decode cX11_init 5 = .ok (.sipush 400, 3) := by decide +kernel
theorem dX11_init_8 : decode cX11_init 8 = .ok (.newarray .int, 2) := by decide +kernel
theorem dX11_init_10 : decode cX11_init 10 = .ok (.putfield 9, 3) := by decide +kernel
theorem dX11_init_13 : decode cX11_init 13 = .ok (.aload_n 0, 1) := by decide +kernel
theorem dX11_init_14 : decode cX11_init 14 = .ok (.new 13, 3) := by decide +kernel
theorem dX11_init_17 : decode cX11_init 17 = .ok (.dup, 1) := by decide +kernel
theorem dX11_init_18 : decode cX11_init 18 = .ok (.invokespecial 15, 3) := by decide +kernel
theorem dX11_init_21 : decode cX11_init 21 = .ok (.putfield 16, 3) := by decide +kernel
theorem dX11_init_24 : decode cX11_init 24 = .ok (.aload_n 0, 1) := by decide +kernel
theorem dX11_init_25 : decode cX11_init 25 = .ok (.new 20, 3) := by decide +kernel
theorem dX11_init_28 : decode cX11_init 28 = .ok (.dup, 1) := by decide +kernel
theorem dX11_init_29 : decode cX11_init 29 = .ok (.aload_n 0, 1) := by decide +kernel
theorem dX11_init_30 : decode cX11_init 30 = .ok (.getfield 16, 3) := by decide +kernel
theorem dX11_init_33 : decode cX11_init 33 = .ok (.invokespecial 22, 3) := by decide +kernel
theorem dX11_init_36 : decode cX11_init 36 = .ok (.putfield 25, 3) := by decide +kernel
theorem dX11_init_39 : decode cX11_init 39 = .ok (.aload_n 0, 1) := by decide +kernel
theorem dX11_init_40 : decode cX11_init 40 = .ok (.new 29, 3) := by decide +kernel
theorem dX11_init_43 : decode cX11_init 43 = .ok (.dup, 1) := by decide +kernel
theorem dX11_init_44 : decode cX11_init 44 = .ok (.aload_n 0, 1) := by decide +kernel
theorem dX11_init_45 : decode cX11_init 45 = .ok (.getfield 16, 3) := by decide +kernel
theorem dX11_init_48 : decode cX11_init 48 = .ok (.invokespecial 31, 3) := by decide +kernel
theorem dX11_init_51 : decode cX11_init 51 = .ok (.putfield 32, 3) := by decide +kernel
theorem dX11_init_54 : decode cX11_init 54 = .ok (.aload_n 0, 1) := by decide +kernel
theorem dX11_init_55 : decode cX11_init 55 = .ok (.new 36, 3) := by decide +kernel
theorem dX11_init_58 : decode cX11_init 58 = .ok (.dup, 1) := by decide +kernel
theorem dX11_init_59 : decode cX11_init 59 = .ok (.aload_n 0, 1) := by decide +kernel
theorem dX11_init_60 : decode cX11_init 60 = .ok (.getfield 16, 3) := by decide +kernel
theorem dX11_init_63 : decode cX11_init 63 = .ok (.aload_n 0, 1) := by decide +kernel
theorem dX11_init_64 : decode cX11_init 64 = .ok (.getfield 32, 3) := by decide +kernel
theorem dX11_init_67 : decode cX11_init 67 = .ok (.invokespecial 38, 3) := by decide +kernel
theorem dX11_init_70 : decode cX11_init 70 = .ok (.putfield 41, 3) := by decide +kernel
theorem dX11_init_73 : decode cX11_init 73 = .ok (.aload_n 0, 1) := by decide +kernel
theorem dX11_init_74 : decode cX11_init 74 = .ok (.new 45, 3) := by decide +kernel
theorem dX11_init_77 : decode cX11_init 77 = .ok (.dup, 1) := by decide +kernel
theorem dX11_init_78 : decode cX11_init 78 = .ok (.iconst 1, 1) := by decide +kernel
theorem dX11_init_79 : decode cX11_init 79 = .ok (.invokespecial 47, 3) := by decide +kernel
theorem dX11_init_82 : decode cX11_init 82 = .ok (.putfield 50, 3) := by decide +kernel
theorem dX11_init_85 : decode cX11_init 85 = .ok (.aload_n 0, 1) := by decide +kernel
theorem dX11_init_86 : decode cX11_init 86 = .ok (.new 45, 3) := by decide +kernel
theorem dX11_init_89 : decode cX11_init 89 = .ok (.dup, 1) := by decide +kernel
theorem dX11_init_90 : decode cX11_init 90 = .ok (.iconst 0, 1) := by decide +kernel
theorem dX11_init_91 : decode cX11_init 91 = .ok (.invokespecial 47, 3) := by decide +kernel
theorem dX11_init_94 : decode cX11_init 94 = .ok (.putfield 54, 3) := by decide +kernel
theorem dX11_init_97 : decode cX11_init 97 = .ok (.aload_n 0, 1) := by decide +kernel
theorem dX11_init_98 : decode cX11_init 98 = .ok (.new 57, 3) := by decide +kernel
theorem dX11_init_101 : decode cX11_init 101 = .ok (.dup, 1) := by decide +kernel
theorem dX11_init_102 : decode cX11_init 102 = .ok (.aload_n 0, 1) := by decide +kernel
theorem dX11_init_103 : decode cX11_init 103 = .ok (.getfield 16, 3) := by decide +kernel
theorem dX11_init_106 : decode cX11_init 106 = .ok (.aload_n 0, 1) := by decide +kernel
theorem dX11_init_107 : decode cX11_init 107 = .ok (.getfield 41, 3) := by decide +kernel
theorem dX11_init_110 : decode cX11_init 110 = .ok (.aload_n 0, 1) := by decide +kernel
theorem dX11_init_111 : decode cX11_init 111 = .ok (.getfield 54, 3) := by decide +kernel
theorem dX11_init_114 : decode cX11_init 114 = .ok (.invokespecial 59, 3) := by decide +kernel
theorem dX11_init_117 : decode cX11_init 117 = .ok (.putfield 62, 3) := by decide +kernel
theorem dX11_init_120 : decode cX11_init 120 = .ok (.aload_n 0, 1) := by decide +kernel
theorem dX11_init_121 : decode cX11_init 121 = .ok (.iconst 4, 1) := by decide +kernel
theorem dX11_init_122 : decode cX11_init 122 = .ok (.newarray .int, 2) := by decide +kernel
theorem dX11_init_124 : decode cX11_init 124 = .ok (.putfield 66, 3) := by decide +kernel
theorem dX11_init_127 : decode cX11_init 127 = .ok (.return_, 1) := by decide +kernel
theorem dX11_feed_0 : decode cX11_feed 0 = .ok (.aload_n 0, 1) := by decide +kernel
theorem dX11_feed_1 : decode cX11_feed 1 = .ok (.getfield 69, 3) := by decide +kernel
theorem dX11_feed_4 : decode cX11_feed 4 = .ok (.sipush 380, 3) := by decide +kernel
theorem dX11_feed_7 : decode cX11_feed 7 = .ok (.if_icmp .le 5, 3) := by decide +kernel
theorem dX11_feed_10 : decode cX11_feed 10 = .ok (.iconst (-1), 1) := by decide +kernel
theorem dX11_feed_11 : decode cX11_feed 11 = .ok (.ireturn, 1) := by decide +kernel
theorem dX11_feed_12 : decode cX11_feed 12 = .ok (.aload_n 0, 1) := by decide +kernel
theorem dX11_feed_13 : decode cX11_feed 13 = .ok (.iload_n 1, 1) := by decide +kernel
theorem dX11_feed_14 : decode cX11_feed 14 = .ok (.invokevirtual 73, 3) := by decide +kernel
theorem dX11_feed_17 : decode cX11_feed 17 = .ok (.aload_n 0, 1) := by decide +kernel
theorem dX11_feed_18 : decode cX11_feed 18 = .ok (.iload_n 2, 1) := by decide +kernel
theorem dX11_feed_19 : decode cX11_feed 19 = .ok (.invokevirtual 73, 3) := by decide +kernel
theorem dX11_feed_22 : decode cX11_feed 22 = .ok (.aload_n 0, 1) := by decide +kernel
theorem dX11_feed_23 : decode cX11_feed 23 = .ok (.iload_n 3, 1) := by decide +kernel
theorem dX11_feed_24 : decode cX11_feed 24 = .ok (.invokevirtual 73, 3) := by decide +kernel
theorem dX11_feed_27 : decode cX11_feed 27 = .ok (.aload_n 0, 1) := by decide +kernel
theorem dX11_feed_28 : decode cX11_feed 28 = .ok (.iload 4, 2) := by decide +kernel
theorem dX11_feed_30 : decode cX11_feed 30 = .ok (.invokevirtual 73, 3) := by decide +kernel
theorem dX11_feed_33 : decode cX11_feed 33 = .ok (.aload_n 0, 1) := by decide +kernel
theorem dX11_feed_34 : decode cX11_feed 34 = .ok (.iload 5, 2) := by decide +kernel
theorem dX11_feed_36 : decode cX11_feed 36 = .ok (.invokevirtual 73, 3) := by decide +kernel
theorem dX11_feed_39 : decode cX11_feed 39 = .ok (.aload_n 0, 1) := by decide +kernel
theorem dX11_feed_40 : decode cX11_feed 40 = .ok (.getfield 69, 3) := by decide +kernel
theorem dX11_feed_43 : decode cX11_feed 43 = .ok (.ireturn, 1) := by decide +kernel
theorem dX11_putBytes_0 : decode cX11_putBytes 0 = .ok (.bipush 24, 2) := by decide +kernel
theorem dX11_putBytes_2 : decode cX11_putBytes 2 = .ok (.istore_n 2, 1) := by decide +kernel
theorem dX11_putBytes_3 : decode cX11_putBytes 3 = .ok (.iload_n 2, 1) := by decide +kernel
theorem dX11_putBytes_4 : decode cX11_putBytes 4 = .ok (.ifCond .lt 45, 3) := by decide +kernel
theorem dX11_putBytes_7 : decode cX11_putBytes 7 = .ok (.aload_n 0, 1) := by decide +kernel
theorem dX11_putBytes_8 : decode cX11_putBytes 8 = .ok (.getfield 69, 3) := by decide +kernel
theorem dX11_putBytes_11 : decode cX11_putBytes 11 = .ok (.sipush 400, 3) := by decide +kernel
theorem dX11_putBytes_14 : decode cX11_putBytes 14 = .ok (.if_icmp .ge 35, 3) := by decide +kernel
theorem dX11_putBytes_17 : decode cX11_putBytes 17 = .ok (.aload_n 0, 1) := by decide +kernel
theorem dX11_putBytes_18 : decode cX11_putBytes 18 = .ok (.getfield 9, 3) := by decide +kernel
theorem dX11_putBytes_21 : decode cX11_putBytes 21 = .ok (.aload_n 0, 1) := by decide +kernel
theorem dX11_putBytes_22 : decode cX11_putBytes 22 = .ok (.getfield 69, 3) := by decide +kernel
theorem dX11_putBytes_25 : decode cX11_putBytes 25 = .ok (.iload_n 1, 1) := by decide +kernel
theorem dX11_putBytes_26 : decode cX11_putBytes 26 = .ok (.iload_n 2, 1) := by decide +kernel
theorem dX11_putBytes_27 : decode cX11_putBytes 27 = .ok (.iushr, 1) := by decide +kernel
theorem dX11_putBytes_28 : decode cX11_putBytes 28 = .ok (.sipush 255, 3) := by decide +kernel
theorem dX11_putBytes_31 : decode cX11_putBytes 31 = .ok (.iand, 1) := by decide +kernel
theorem dX11_putBytes_32 : decode cX11_putBytes 32 = .ok (.iastore, 1) := by decide +kernel
theorem dX11_putBytes_33 : decode cX11_putBytes 33 = .ok (.aload_n 0, 1) := by decide +kernel
theorem dX11_putBytes_34 : decode cX11_putBytes 34 = .ok (.dup, 1) := by decide +kernel
theorem dX11_putBytes_35 : decode cX11_putBytes 35 = .ok (.getfield 69, 3) := by decide +kernel
theorem dX11_putBytes_38 : decode cX11_putBytes 38 = .ok (.iconst 1, 1) := by decide +kernel
theorem dX11_putBytes_39 : decode cX11_putBytes 39 = .ok (.iadd, 1) := by decide +kernel
theorem dX11_putBytes_40 : decode cX11_putBytes 40 = .ok (.putfield 69, 3) := by decide +kernel
theorem dX11_putBytes_43 : decode cX11_putBytes 43 = .ok (.iinc 2 (-8), 3) := by decide +kernel
theorem dX11_putBytes_46 : decode cX11_putBytes 46 = .ok (.goto (-43), 3) := by decide +kernel
theorem dX11_putBytes_49 : decode cX11_putBytes 49 = .ok (.return_, 1) := by decide +kernel
theorem dX11_tell_0 : decode cX11_tell 0 = .ok (.iload_n 1, 1) := by decide +kernel
theorem dX11_tell_1 : decode cX11_tell 1 = .ok (.ifCond .lt 11, 3) := by decide +kernel
theorem dX11_tell_4 : decode cX11_tell 4 = .ok (.iload_n 1, 1) := by decide +kernel
theorem dX11_tell_5 : decode cX11_tell 5 = .ok (.aload_n 0, 1) := by decide +kernel
theorem dX11_tell_6 : decode cX11_tell 6 = .ok (.getfield 69, 3) := by decide +kernel
theorem dX11_tell_9 : decode cX11_tell 9 = .ok (.if_icmp .le 9, 3) := by decide +kernel
theorem dX11_tell_12 : decode cX11_tell 12 = .ok (.aload_n 0, 1) := by decide +kernel
theorem dX11_tell_13 : decode cX11_tell 13 = .ok (.iconst 2, 1) := by decide +kernel
theorem dX11_tell_14 : decode cX11_tell 14 = .ok (.invokevirtual 77, 3) := by decide +kernel
theorem dX11_tell_17 : decode cX11_tell 17 = .ok (.ireturn, 1) := by decide +kernel
theorem dX11_tell_18 : decode cX11_tell 18 = .ok (.aload_n 0, 1) := by decide +kernel
theorem dX11_tell_19 : decode cX11_tell 19 = .ok (.iconst 0, 1) := by decide +kernel
theorem dX11_tell_20 : decode cX11_tell 20 = .ok (.putfield 69, 3) := by decide +kernel
theorem dX11_tell_23 : decode cX11_tell 23 = .ok (.aload_n 0, 1) := by decide +kernel
theorem dX11_tell_24 : decode cX11_tell 24 = .ok (.getfield 25, 3) := by decide +kernel
theorem dX11_tell_27 : decode cX11_tell 27 = .ok (.aload_n 0, 1) := by decide +kernel
theorem dX11_tell_28 : decode cX11_tell 28 = .ok (.getfield 9, 3) := by decide +kernel
theorem dX11_tell_31 : decode cX11_tell 31 = .ok (.iload_n 1, 1) := by decide +kernel
theorem dX11_tell_32 : decode cX11_tell 32 = .ok (.invokevirtual 81, 3) := by decide +kernel
theorem dX11_tell_35 : decode cX11_tell 35 = .ok (.ifCond .ne 9, 3) := by decide +kernel
theorem dX11_tell_38 : decode cX11_tell 38 = .ok (.aload_n 0, 1) := by decide +kernel
theorem dX11_tell_39 : decode cX11_tell 39 = .ok (.iconst 4, 1) := by decide +kernel
theorem dX11_tell_40 : decode cX11_tell 40 = .ok (.invokevirtual 77, 3) := by decide +kernel
theorem dX11_tell_43 : decode cX11_tell 43 = .ok (.ireturn, 1) := by decide +kernel
theorem dX11_tell_44 : decode cX11_tell 44 = .ok (.aload_n 0, 1) := by decide +kernel
theorem dX11_tell_45 : decode cX11_tell 45 = .ok (.iconst 0, 1) := by decide +kernel
theorem dX11_tell_46 : decode cX11_tell 46 = .ok (.putfield 85, 3) := by decide +kernel
theorem dX11_tell_49 : decode cX11_tell 49 = .ok (.aload_n 0, 1) := by decide +kernel
theorem dX11_tell_50 : decode cX11_tell 50 = .ok (.iconst 0, 1) := by decide +kernel
theorem dX11_tell_51 : decode cX11_tell 51 = .ok (.putfield 89, 3) := by decide +kernel
theorem dX11_tell_54 : decode cX11_tell 54 = .ok (.aload_n 0, 1) := by decide +kernel
theorem dX11_tell_55 : decode cX11_tell 55 = .ok (.getfield 25, 3) := by decide +kernel
theorem dX11_tell_58 : decode cX11_tell 58 = .ok (.getfield 92, 3) := by decide +kernel
theorem dX11_tell_61 : decode cX11_tell 61 = .ok (.ireturn, 1) := by decide +kernel
theorem dX11_fault_0 : decode cX11_fault 0 = .ok (.aload_n 0, 1) := by decide +kernel
theorem dX11_fault_1 : decode cX11_fault 1 = .ok (.getfield 25, 3) := by decide +kernel
theorem dX11_fault_4 : decode cX11_fault 4 = .ok (.getfield 95, 3) := by decide +kernel
theorem dX11_fault_7 : decode cX11_fault 7 = .ok (.ireturn, 1) := by decide +kernel
theorem dX11_where_0 : decode cX11_where 0 = .ok (.aload_n 0, 1) := by decide +kernel
theorem dX11_where_1 : decode cX11_where 1 = .ok (.getfield 89, 3) := by decide +kernel
theorem dX11_where_4 : decode cX11_where 4 = .ok (.iconst 4, 1) := by decide +kernel
theorem dX11_where_5 : decode cX11_where 5 = .ok (.if_icmp .ne 13, 3) := by decide +kernel
theorem dX11_where_8 : decode cX11_where 8 = .ok (.aload_n 0, 1) := by decide +kernel
theorem dX11_where_9 : decode cX11_where 9 = .ok (.getfield 25, 3) := by decide +kernel
theorem dX11_where_12 : decode cX11_where 12 = .ok (.getfield 98, 3) := by decide +kernel
theorem dX11_where_15 : decode cX11_where 15 = .ok (.goto 4, 3) := by decide +kernel
theorem dX11_where_18 : decode cX11_where 18 = .ok (.iconst (-1), 1) := by decide +kernel
theorem dX11_where_19 : decode cX11_where 19 = .ok (.ireturn, 1) := by decide +kernel
theorem dX11_atom_0 : decode cX11_atom 0 = .ok (.aload_n 0, 1) := by decide +kernel
theorem dX11_atom_1 : decode cX11_atom 1 = .ok (.getfield 16, 3) := by decide +kernel
theorem dX11_atom_4 : decode cX11_atom 4 = .ok (.getfield 101, 3) := by decide +kernel
theorem dX11_atom_7 : decode cX11_atom 7 = .ok (.iload_n 1, 1) := by decide +kernel
theorem dX11_atom_8 : decode cX11_atom 8 = .ok (.invokevirtual 105, 3) := by decide +kernel
theorem dX11_atom_11 : decode cX11_atom 11 = .ok (.ifCond .ne 5, 3) := by decide +kernel
theorem dX11_atom_14 : decode cX11_atom 14 = .ok (.iconst (-1), 1) := by decide +kernel
theorem dX11_atom_15 : decode cX11_atom 15 = .ok (.ireturn, 1) := by decide +kernel
theorem dX11_atom_16 : decode cX11_atom 16 = .ok (.aload_n 0, 1) := by decide +kernel
theorem dX11_atom_17 : decode cX11_atom 17 = .ok (.getfield 16, 3) := by decide +kernel
theorem dX11_atom_20 : decode cX11_atom 20 = .ok (.getfield 111, 3) := by decide +kernel
theorem dX11_atom_23 : decode cX11_atom 23 = .ok (.getfield 114, 3) := by decide +kernel
theorem dX11_atom_26 : decode cX11_atom 26 = .ok (.iconst 1, 1) := by decide +kernel
theorem dX11_atom_27 : decode cX11_atom 27 = .ok (.isub, 1) := by decide +kernel
theorem dX11_atom_28 : decode cX11_atom 28 = .ok (.istore 4, 2) := by decide +kernel
theorem dX11_atom_30 : decode cX11_atom 30 = .ok (.aload_n 0, 1) := by decide +kernel
theorem dX11_atom_31 : decode cX11_atom 31 = .ok (.getfield 16, 3) := by decide +kernel
theorem dX11_atom_34 : decode cX11_atom 34 = .ok (.getfield 117, 3) := by decide +kernel
theorem dX11_atom_37 : decode cX11_atom 37 = .ok (.iload_n 1, 1) := by decide +kernel
theorem dX11_atom_38 : decode cX11_atom 38 = .ok (.iaload, 1) := by decide +kernel
theorem dX11_atom_39 : decode cX11_atom 39 = .ok (.ifCond .le 8, 3) := by decide +kernel
theorem dX11_atom_42 : decode cX11_atom 42 = .ok (.iload 4, 2) := by decide +kernel
theorem dX11_atom_44 : decode cX11_atom 44 = .ok (.goto 4, 3) := by decide +kernel
theorem dX11_atom_47 : decode cX11_atom 47 = .ok (.iconst 0, 1) := by decide +kernel
theorem dX11_atom_48 : decode cX11_atom 48 = .ok (.istore 5, 2) := by decide +kernel
theorem dX11_atom_50 : decode cX11_atom 50 = .ok (.aload_n 0, 1) := by decide +kernel
theorem dX11_atom_51 : decode cX11_atom 51 = .ok (.getfield 16, 3) := by decide +kernel
theorem dX11_atom_54 : decode cX11_atom 54 = .ok (.getfield 117, 3) := by decide +kernel
theorem dX11_atom_57 : decode cX11_atom 57 = .ok (.iload_n 1, 1) := by decide +kernel
theorem dX11_atom_58 : decode cX11_atom 58 = .ok (.iaload, 1) := by decide +kernel
theorem dX11_atom_59 : decode cX11_atom 59 = .ok (.iconst 1, 1) := by decide +kernel
theorem dX11_atom_60 : decode cX11_atom 60 = .ok (.if_icmp .le 8, 3) := by decide +kernel
theorem dX11_atom_63 : decode cX11_atom 63 = .ok (.iload 4, 2) := by decide +kernel
theorem dX11_atom_65 : decode cX11_atom 65 = .ok (.goto 4, 3) := by decide +kernel
theorem dX11_atom_68 : decode cX11_atom 68 = .ok (.iconst 0, 1) := by decide +kernel
theorem dX11_atom_69 : decode cX11_atom 69 = .ok (.istore 6, 2) := by decide +kernel
theorem dX11_atom_71 : decode cX11_atom 71 = .ok (.iload_n 2, 1) := by decide +kernel
theorem dX11_atom_72 : decode cX11_atom 72 = .ok (.ifCond .lt 19, 3) := by decide +kernel
theorem dX11_atom_75 : decode cX11_atom 75 = .ok (.iload_n 2, 1) := by decide +kernel
theorem dX11_atom_76 : decode cX11_atom 76 = .ok (.iload 5, 2) := by decide +kernel
theorem dX11_atom_78 : decode cX11_atom 78 = .ok (.if_icmp .gt 13, 3) := by decide +kernel
theorem dX11_atom_81 : decode cX11_atom 81 = .ok (.iload_n 3, 1) := by decide +kernel
theorem dX11_atom_82 : decode cX11_atom 82 = .ok (.ifCond .lt 9, 3) := by decide +kernel
theorem dX11_atom_85 : decode cX11_atom 85 = .ok (.iload_n 3, 1) := by decide +kernel
theorem dX11_atom_86 : decode cX11_atom 86 = .ok (.iload 6, 2) := by decide +kernel
theorem dX11_atom_88 : decode cX11_atom 88 = .ok (.if_icmp .le 5, 3) := by decide +kernel
theorem dX11_atom_91 : decode cX11_atom 91 = .ok (.iconst (-1), 1) := by decide +kernel
theorem dX11_atom_92 : decode cX11_atom 92 = .ok (.ireturn, 1) := by decide +kernel
theorem dX11_atom_93 : decode cX11_atom 93 = .ok (.iload_n 1, 1) := by decide +kernel
theorem dX11_atom_94 : decode cX11_atom 94 = .ok (.bipush 10, 2) := by decide +kernel
theorem dX11_atom_96 : decode cX11_atom 96 = .ok (.imul, 1) := by decide +kernel
theorem dX11_atom_97 : decode cX11_atom 97 = .ok (.iload_n 2, 1) := by decide +kernel
theorem dX11_atom_98 : decode cX11_atom 98 = .ok (.iadd, 1) := by decide +kernel
theorem dX11_atom_99 : decode cX11_atom 99 = .ok (.bipush 10, 2) := by decide +kernel
theorem dX11_atom_101 : decode cX11_atom 101 = .ok (.imul, 1) := by decide +kernel
theorem dX11_atom_102 : decode cX11_atom 102 = .ok (.iload_n 3, 1) := by decide +kernel
theorem dX11_atom_103 : decode cX11_atom 103 = .ok (.iadd, 1) := by decide +kernel
theorem dX11_atom_104 : decode cX11_atom 104 = .ok (.ireturn, 1) := by decide +kernel
theorem dX11_name_0 : decode cX11_name 0 = .ok (.iload_n 3, 1) := by decide +kernel
theorem dX11_name_1 : decode cX11_name 1 = .ok (.ifCond .eq 18, 3) := by decide +kernel
theorem dX11_name_4 : decode cX11_name 4 = .ok (.aload_n 0, 1) := by decide +kernel
theorem dX11_name_5 : decode cX11_name 5 = .ok (.getfield 16, 3) := by decide +kernel
theorem dX11_name_8 : decode cX11_name 8 = .ok (.getfield 101, 3) := by decide +kernel
theorem dX11_name_11 : decode cX11_name 11 = .ok (.iload_n 1, 1) := by decide +kernel
theorem dX11_name_12 : decode cX11_name 12 = .ok (.iload_n 2, 1) := by decide +kernel
theorem dX11_name_13 : decode cX11_name 13 = .ok (.invokevirtual 120, 3) := by decide +kernel
theorem dX11_name_16 : decode cX11_name 16 = .ok (.goto 15, 3) := by decide +kernel
theorem dX11_name_19 : decode cX11_name 19 = .ok (.aload_n 0, 1) := by decide +kernel
theorem dX11_name_20 : decode cX11_name 20 = .ok (.getfield 16, 3) := by decide +kernel
theorem dX11_name_23 : decode cX11_name 23 = .ok (.getfield 111, 3) := by decide +kernel
theorem dX11_name_26 : decode cX11_name 26 = .ok (.iload_n 1, 1) := by decide +kernel
theorem dX11_name_27 : decode cX11_name 27 = .ok (.iload_n 2, 1) := by decide +kernel
theorem dX11_name_28 : decode cX11_name 28 = .ok (.invokevirtual 120, 3) := by decide +kernel
theorem dX11_name_31 : decode cX11_name 31 = .ok (.istore 4, 2) := by decide +kernel
theorem dX11_name_33 : decode cX11_name 33 = .ok (.iload 4, 2) := by decide +kernel
theorem dX11_name_35 : decode cX11_name 35 = .ok (.iconst (-1), 1) := by decide +kernel
theorem dX11_name_36 : decode cX11_name 36 = .ok (.if_icmp .ne 13, 3) := by decide +kernel
theorem dX11_name_39 : decode cX11_name 39 = .ok (.new 124, 3) := by decide +kernel
theorem dX11_name_42 : decode cX11_name 42 = .ok (.dup, 1) := by decide +kernel
theorem dX11_name_43 : decode cX11_name 43 = .ok (.ldc 126, 2) := by decide +kernel
theorem dX11_name_45 : decode cX11_name 45 = .ok (.invokespecial 128, 3) := by decide +kernel
theorem dX11_name_48 : decode cX11_name 48 = .ok (.athrow, 1) := by decide +kernel
theorem dX11_name_49 : decode cX11_name 49 = .ok (.iload 4, 2) := by decide +kernel
theorem dX11_name_51 : decode cX11_name 51 = .ok (.ireturn, 1) := by decide +kernel
theorem dX11_places_0 : decode cX11_places 0 = .ok (.aload_n 0, 1) := by decide +kernel
theorem dX11_places_1 : decode cX11_places 1 = .ok (.getfield 16, 3) := by decide +kernel
theorem dX11_places_4 : decode cX11_places 4 = .ok (.getfield 101, 3) := by decide +kernel
theorem dX11_places_7 : decode cX11_places 7 = .ok (.iload_n 1, 1) := by decide +kernel
theorem dX11_places_8 : decode cX11_places 8 = .ok (.invokevirtual 105, 3) := by decide +kernel
theorem dX11_places_11 : decode cX11_places 11 = .ok (.ifCond .eq 15, 3) := by decide +kernel
theorem dX11_places_14 : decode cX11_places 14 = .ok (.aload_n 0, 1) := by decide +kernel
theorem dX11_places_15 : decode cX11_places 15 = .ok (.getfield 16, 3) := by decide +kernel
theorem dX11_places_18 : decode cX11_places 18 = .ok (.getfield 117, 3) := by decide +kernel
theorem dX11_places_21 : decode cX11_places 21 = .ok (.iload_n 1, 1) := by decide +kernel
theorem dX11_places_22 : decode cX11_places 22 = .ok (.iaload, 1) := by decide +kernel
theorem dX11_places_23 : decode cX11_places 23 = .ok (.goto 4, 3) := by decide +kernel
theorem dX11_places_26 : decode cX11_places 26 = .ok (.iconst (-1), 1) := by decide +kernel
theorem dX11_places_27 : decode cX11_places 27 = .ok (.ireturn, 1) := by decide +kernel
theorem dX11_layer_0 : decode cX11_layer 0 = .ok (.aload_n 0, 1) := by decide +kernel
theorem dX11_layer_1 : decode cX11_layer 1 = .ok (.getfield 16, 3) := by decide +kernel
theorem dX11_layer_4 : decode cX11_layer 4 = .ok (.getfield 101, 3) := by decide +kernel
theorem dX11_layer_7 : decode cX11_layer 7 = .ok (.iload_n 1, 1) := by decide +kernel
theorem dX11_layer_8 : decode cX11_layer 8 = .ok (.invokevirtual 105, 3) := by decide +kernel
theorem dX11_layer_11 : decode cX11_layer 11 = .ok (.ifCond .eq 18, 3) := by decide +kernel
theorem dX11_layer_14 : decode cX11_layer 14 = .ok (.aload_n 0, 1) := by decide +kernel
theorem dX11_layer_15 : decode cX11_layer 15 = .ok (.getfield 16, 3) := by decide +kernel
theorem dX11_layer_18 : decode cX11_layer 18 = .ok (.getfield 131, 3) := by decide +kernel
theorem dX11_layer_21 : decode cX11_layer 21 = .ok (.getfield 135, 3) := by decide +kernel
theorem dX11_layer_24 : decode cX11_layer 24 = .ok (.iload_n 1, 1) := by decide +kernel
theorem dX11_layer_25 : decode cX11_layer 25 = .ok (.iaload, 1) := by decide +kernel
theorem dX11_layer_26 : decode cX11_layer 26 = .ok (.goto 4, 3) := by decide +kernel
theorem dX11_layer_29 : decode cX11_layer 29 = .ok (.iconst (-1), 1) := by decide +kernel
theorem dX11_layer_30 : decode cX11_layer 30 = .ok (.ireturn, 1) := by decide +kernel
theorem dX11_fact_0 : decode cX11_fact 0 = .ok (.aload_n 0, 1) := by decide +kernel
theorem dX11_fact_1 : decode cX11_fact 1 = .ok (.getfield 16, 3) := by decide +kernel
theorem dX11_fact_4 : decode cX11_fact 4 = .ok (.iload_n 1, 1) := by decide +kernel
theorem dX11_fact_5 : decode cX11_fact 5 = .ok (.invokevirtual 140, 3) := by decide +kernel
theorem dX11_fact_8 : decode cX11_fact 8 = .ok (.ifCond .ne 9, 3) := by decide +kernel
theorem dX11_fact_11 : decode cX11_fact 11 = .ok (.aload_n 0, 1) := by decide +kernel
theorem dX11_fact_12 : decode cX11_fact 12 = .ok (.iconst 1, 1) := by decide +kernel
theorem dX11_fact_13 : decode cX11_fact 13 = .ok (.invokevirtual 77, 3) := by decide +kernel
theorem dX11_fact_16 : decode cX11_fact 16 = .ok (.ireturn, 1) := by decide +kernel
theorem dX11_fact_17 : decode cX11_fact 17 = .ok (.aload_n 0, 1) := by decide +kernel
theorem dX11_fact_18 : decode cX11_fact 18 = .ok (.iconst 0, 1) := by decide +kernel
theorem dX11_fact_19 : decode cX11_fact 19 = .ok (.putfield 89, 3) := by decide +kernel
theorem dX11_fact_22 : decode cX11_fact 22 = .ok (.aload_n 0, 1) := by decide +kernel
theorem dX11_fact_23 : decode cX11_fact 23 = .ok (.getfield 16, 3) := by decide +kernel
theorem dX11_fact_26 : decode cX11_fact 26 = .ok (.iload_n 1, 1) := by decide +kernel
theorem dX11_fact_27 : decode cX11_fact 27 = .ok (.iload_n 2, 1) := by decide +kernel
theorem dX11_fact_28 : decode cX11_fact 28 = .ok (.invokevirtual 143, 3) := by decide +kernel
theorem dX11_fact_31 : decode cX11_fact 31 = .ok (.ifCond .ne 5, 3) := by decide +kernel
theorem dX11_fact_34 : decode cX11_fact 34 = .ok (.iconst 0, 1) := by decide +kernel
theorem dX11_fact_35 : decode cX11_fact 35 = .ok (.ireturn, 1) := by decide +kernel
theorem dX11_fact_36 : decode cX11_fact 36 = .ok (.aload_n 0, 1) := by decide +kernel
theorem dX11_fact_37 : decode cX11_fact 37 = .ok (.iconst 0, 1) := by decide +kernel
theorem dX11_fact_38 : decode cX11_fact 38 = .ok (.putfield 85, 3) := by decide +kernel
theorem dX11_fact_41 : decode cX11_fact 41 = .ok (.iconst 1, 1) := by decide +kernel
theorem dX11_fact_42 : decode cX11_fact 42 = .ok (.ireturn, 1) := by decide +kernel
theorem dX11_drop_0 : decode cX11_drop 0 = .ok (.aload_n 0, 1) := by decide +kernel
theorem dX11_drop_1 : decode cX11_drop 1 = .ok (.getfield 16, 3) := by decide +kernel
theorem dX11_drop_4 : decode cX11_drop 4 = .ok (.iload_n 1, 1) := by decide +kernel
theorem dX11_drop_5 : decode cX11_drop 5 = .ok (.invokevirtual 147, 3) := by decide +kernel
theorem dX11_drop_8 : decode cX11_drop 8 = .ok (.ifCond .ne 10, 3) := by decide +kernel
theorem dX11_drop_11 : decode cX11_drop 11 = .ok (.aload_n 0, 1) := by decide +kernel
theorem dX11_drop_12 : decode cX11_drop 12 = .ok (.iconst 1, 1) := by decide +kernel
theorem dX11_drop_13 : decode cX11_drop 13 = .ok (.putfield 89, 3) := by decide +kernel
theorem dX11_drop_16 : decode cX11_drop 16 = .ok (.iconst 0, 1) := by decide +kernel
theorem dX11_drop_17 : decode cX11_drop 17 = .ok (.ireturn, 1) := by decide +kernel
theorem dX11_drop_18 : decode cX11_drop 18 = .ok (.aload_n 0, 1) := by decide +kernel
theorem dX11_drop_19 : decode cX11_drop 19 = .ok (.getfield 16, 3) := by decide +kernel
theorem dX11_drop_22 : decode cX11_drop 22 = .ok (.iload_n 1, 1) := by decide +kernel
theorem dX11_drop_23 : decode cX11_drop 23 = .ok (.invokevirtual 150, 3) := by decide +kernel
theorem dX11_drop_26 : decode cX11_drop 26 = .ok (.aload_n 0, 1) := by decide +kernel
theorem dX11_drop_27 : decode cX11_drop 27 = .ok (.iconst 0, 1) := by decide +kernel
theorem dX11_drop_28 : decode cX11_drop 28 = .ok (.putfield 85, 3) := by decide +kernel
theorem dX11_drop_31 : decode cX11_drop 31 = .ok (.aload_n 0, 1) := by decide +kernel
theorem dX11_drop_32 : decode cX11_drop 32 = .ok (.iconst 0, 1) := by decide +kernel
theorem dX11_drop_33 : decode cX11_drop 33 = .ok (.putfield 89, 3) := by decide +kernel
theorem dX11_drop_36 : decode cX11_drop 36 = .ok (.iconst 1, 1) := by decide +kernel
theorem dX11_drop_37 : decode cX11_drop 37 = .ok (.ireturn, 1) := by decide +kernel
theorem dX11_follows_0 : decode cX11_follows 0 = .ok (.aload_n 0, 1) := by decide +kernel
theorem dX11_follows_1 : decode cX11_follows 1 = .ok (.getfield 16, 3) := by decide +kernel
theorem dX11_follows_4 : decode cX11_follows 4 = .ok (.iload_n 1, 1) := by decide +kernel
theorem dX11_follows_5 : decode cX11_follows 5 = .ok (.invokevirtual 140, 3) := by decide +kernel
theorem dX11_follows_8 : decode cX11_follows 8 = .ok (.ifCond .ne 5, 3) := by decide +kernel
theorem dX11_follows_11 : decode cX11_follows 11 = .ok (.iconst (-1), 1) := by decide +kernel
theorem dX11_follows_12 : decode cX11_follows 12 = .ok (.ireturn, 1) := by decide +kernel
theorem dX11_follows_13 : decode cX11_follows 13 = .ok (.aload_n 0, 1) := by decide +kernel
theorem dX11_follows_14 : decode cX11_follows 14 = .ok (.getfield 16, 3) := by decide +kernel
theorem dX11_follows_17 : decode cX11_follows 17 = .ok (.iload_n 1, 1) := by decide +kernel
theorem dX11_follows_18 : decode cX11_follows 18 = .ok (.invokevirtual 153, 3) := by decide +kernel
theorem dX11_follows_21 : decode cX11_follows 21 = .ok (.ifCond .eq 5, 3) := by decide +kernel
theorem dX11_follows_24 : decode cX11_follows 24 = .ok (.iconst 2, 1) := by decide +kernel
theorem dX11_follows_25 : decode cX11_follows 25 = .ok (.ireturn, 1) := by decide +kernel
theorem dX11_follows_26 : decode cX11_follows 26 = .ok (.aload_n 0, 1) := by decide +kernel
theorem dX11_follows_27 : decode cX11_follows 27 = .ok (.invokevirtual 156, 3) := by decide +kernel
theorem dX11_follows_30 : decode cX11_follows 30 = .ok (.iload_n 1, 1) := by decide +kernel
theorem dX11_follows_31 : decode cX11_follows 31 = .ok (.invokevirtual 160, 3) := by decide +kernel
theorem dX11_follows_34 : decode cX11_follows 34 = .ok (.ifCond .eq 7, 3) := by decide +kernel
theorem dX11_follows_37 : decode cX11_follows 37 = .ok (.iconst 1, 1) := by decide +kernel
theorem dX11_follows_38 : decode cX11_follows 38 = .ok (.goto 4, 3) := by decide +kernel
theorem dX11_follows_41 : decode cX11_follows 41 = .ok (.iconst 0, 1) := by decide +kernel
theorem dX11_follows_42 : decode cX11_follows 42 = .ok (.ireturn, 1) := by decide +kernel
theorem dX11_many_0 : decode cX11_many 0 = .ok (.aload_n 0, 1) := by decide +kernel
theorem dX11_many_1 : decode cX11_many 1 = .ok (.getfield 16, 3) := by decide +kernel
theorem dX11_many_4 : decode cX11_many 4 = .ok (.getfield 101, 3) := by decide +kernel
theorem dX11_many_7 : decode cX11_many 7 = .ok (.iload_n 1, 1) := by decide +kernel
theorem dX11_many_8 : decode cX11_many 8 = .ok (.invokevirtual 105, 3) := by decide +kernel
theorem dX11_many_11 : decode cX11_many 11 = .ok (.ifCond .ne 5, 3) := by decide +kernel
theorem dX11_many_14 : decode cX11_many 14 = .ok (.iconst (-1), 1) := by decide +kernel
theorem dX11_many_15 : decode cX11_many 15 = .ok (.ireturn, 1) := by decide +kernel
theorem dX11_many_16 : decode cX11_many 16 = .ok (.aload_n 0, 1) := by decide +kernel
theorem dX11_many_17 : decode cX11_many 17 = .ok (.invokevirtual 156, 3) := by decide +kernel
theorem dX11_many_20 : decode cX11_many 20 = .ok (.astore_n 2, 1) := by decide +kernel
theorem dX11_many_21 : decode cX11_many 21 = .ok (.iconst 0, 1) := by decide +kernel
theorem dX11_many_22 : decode cX11_many 22 = .ok (.istore_n 3, 1) := by decide +kernel
theorem dX11_many_23 : decode cX11_many 23 = .ok (.iload_n 1, 1) := by decide +kernel
theorem dX11_many_24 : decode cX11_many 24 = .ok (.bipush 10, 2) := by decide +kernel
theorem dX11_many_26 : decode cX11_many 26 = .ok (.imul, 1) := by decide +kernel
theorem dX11_many_27 : decode cX11_many 27 = .ok (.istore 4, 2) := by decide +kernel
theorem dX11_many_29 : decode cX11_many 29 = .ok (.iload 4, 2) := by decide +kernel
theorem dX11_many_31 : decode cX11_many 31 = .ok (.iload_n 1, 1) := by decide +kernel
theorem dX11_many_32 : decode cX11_many 32 = .ok (.bipush 10, 2) := by decide +kernel
theorem dX11_many_34 : decode cX11_many 34 = .ok (.imul, 1) := by decide +kernel
theorem dX11_many_35 : decode cX11_many 35 = .ok (.bipush 10, 2) := by decide +kernel
theorem dX11_many_37 : decode cX11_many 37 = .ok (.iadd, 1) := by decide +kernel
theorem dX11_many_38 : decode cX11_many 38 = .ok (.if_icmp .ge 22, 3) := by decide +kernel
theorem dX11_many_41 : decode cX11_many 41 = .ok (.iload_n 3, 1) := by decide +kernel
theorem dX11_many_42 : decode cX11_many 42 = .ok (.aload_n 2, 1) := by decide +kernel
theorem dX11_many_43 : decode cX11_many 43 = .ok (.getfield 161, 3) := by decide +kernel
theorem dX11_many_46 : decode cX11_many 46 = .ok (.iload 4, 2) := by decide +kernel
theorem dX11_many_48 : decode cX11_many 48 = .ok (.iaload, 1) := by decide +kernel
theorem dX11_many_49 : decode cX11_many 49 = .ok (.invokestatic 164, 3) := by decide +kernel
theorem dX11_many_52 : decode cX11_many 52 = .ok (.iadd, 1) := by decide +kernel
theorem dX11_many_53 : decode cX11_many 53 = .ok (.istore_n 3, 1) := by decide +kernel
theorem dX11_many_54 : decode cX11_many 54 = .ok (.iinc 4 1, 3) := by decide +kernel
theorem dX11_many_57 : decode cX11_many 57 = .ok (.goto (-28), 3) := by decide +kernel
theorem dX11_many_60 : decode cX11_many 60 = .ok (.iload_n 3, 1) := by decide +kernel
theorem dX11_many_61 : decode cX11_many 61 = .ok (.ireturn, 1) := by decide +kernel
theorem dX11_one_0 : decode cX11_one 0 = .ok (.aload_n 0, 1) := by decide +kernel
theorem dX11_one_1 : decode cX11_one 1 = .ok (.getfield 16, 3) := by decide +kernel
theorem dX11_one_4 : decode cX11_one 4 = .ok (.getfield 101, 3) := by decide +kernel
theorem dX11_one_7 : decode cX11_one 7 = .ok (.iload_n 1, 1) := by decide +kernel
theorem dX11_one_8 : decode cX11_one 8 = .ok (.invokevirtual 105, 3) := by decide +kernel
theorem dX11_one_11 : decode cX11_one 11 = .ok (.ifCond .eq 7, 3) := by decide +kernel
theorem dX11_one_14 : decode cX11_one 14 = .ok (.iload_n 2, 1) := by decide +kernel
theorem dX11_one_15 : decode cX11_one 15 = .ok (.ifCond .ge 5, 3) := by decide +kernel
theorem dX11_one_18 : decode cX11_one 18 = .ok (.iconst (-1), 1) := by decide +kernel
theorem dX11_one_19 : decode cX11_one 19 = .ok (.ireturn, 1) := by decide +kernel
theorem dX11_one_20 : decode cX11_one 20 = .ok (.aload_n 0, 1) := by decide +kernel
theorem dX11_one_21 : decode cX11_one 21 = .ok (.invokevirtual 156, 3) := by decide +kernel
theorem dX11_one_24 : decode cX11_one 24 = .ok (.astore_n 3, 1) := by decide +kernel
theorem dX11_one_25 : decode cX11_one 25 = .ok (.iload_n 2, 1) := by decide +kernel
theorem dX11_one_26 : decode cX11_one 26 = .ok (.istore 4, 2) := by decide +kernel
theorem dX11_one_28 : decode cX11_one 28 = .ok (.iload_n 1, 1) := by decide +kernel
theorem dX11_one_29 : decode cX11_one 29 = .ok (.bipush 10, 2) := by decide +kernel
theorem dX11_one_31 : decode cX11_one 31 = .ok (.imul, 1) := by decide +kernel
theorem dX11_one_32 : decode cX11_one 32 = .ok (.bipush 10, 2) := by decide +kernel
theorem dX11_one_34 : decode cX11_one 34 = .ok (.imul, 1) := by decide +kernel
theorem dX11_one_35 : decode cX11_one 35 = .ok (.istore 5, 2) := by decide +kernel
theorem dX11_one_37 : decode cX11_one 37 = .ok (.iload 5, 2) := by decide +kernel
theorem dX11_one_39 : decode cX11_one 39 = .ok (.istore 6, 2) := by decide +kernel
theorem dX11_one_41 : decode cX11_one 41 = .ok (.iload 6, 2) := by decide +kernel
theorem dX11_one_43 : decode cX11_one 43 = .ok (.iload 5, 2) := by decide +kernel
theorem dX11_one_45 : decode cX11_one 45 = .ok (.bipush 100, 2) := by decide +kernel
theorem dX11_one_47 : decode cX11_one 47 = .ok (.iadd, 1) := by decide +kernel
theorem dX11_one_48 : decode cX11_one 48 = .ok (.if_icmp .ge 29, 3) := by decide +kernel
theorem dX11_one_51 : decode cX11_one 51 = .ok (.aload_n 3, 1) := by decide +kernel
theorem dX11_one_52 : decode cX11_one 52 = .ok (.iload 6, 2) := by decide +kernel
theorem dX11_one_54 : decode cX11_one 54 = .ok (.invokevirtual 160, 3) := by decide +kernel
theorem dX11_one_57 : decode cX11_one 57 = .ok (.ifCond .eq 14, 3) := by decide +kernel
theorem dX11_one_60 : decode cX11_one 60 = .ok (.iload 4, 2) := by decide +kernel
theorem dX11_one_62 : decode cX11_one 62 = .ok (.ifCond .ne 6, 3) := by decide +kernel
theorem dX11_one_65 : decode cX11_one 65 = .ok (.iload 6, 2) := by decide +kernel
theorem dX11_one_67 : decode cX11_one 67 = .ok (.ireturn, 1) := by decide +kernel
theorem dX11_one_68 : decode cX11_one 68 = .ok (.iinc 4 (-1), 3) := by decide +kernel
theorem dX11_one_71 : decode cX11_one 71 = .ok (.iinc 6 1, 3) := by decide +kernel
theorem dX11_one_74 : decode cX11_one 74 = .ok (.goto (-33), 3) := by decide +kernel
theorem dX11_one_77 : decode cX11_one 77 = .ok (.iconst (-1), 1) := by decide +kernel
theorem dX11_one_78 : decode cX11_one 78 = .ok (.ireturn, 1) := by decide +kernel
theorem dX11_steps_0 : decode cX11_steps 0 = .ok (.aload_n 0, 1) := by decide +kernel
theorem dX11_steps_1 : decode cX11_steps 1 = .ok (.getfield 16, 3) := by decide +kernel
theorem dX11_steps_4 : decode cX11_steps 4 = .ok (.iload_n 1, 1) := by decide +kernel
theorem dX11_steps_5 : decode cX11_steps 5 = .ok (.invokevirtual 140, 3) := by decide +kernel
theorem dX11_steps_8 : decode cX11_steps 8 = .ok (.ifCond .ne 5, 3) := by decide +kernel
theorem dX11_steps_11 : decode cX11_steps 11 = .ok (.iconst (-1), 1) := by decide +kernel
theorem dX11_steps_12 : decode cX11_steps 12 = .ok (.ireturn, 1) := by decide +kernel
theorem dX11_steps_13 : decode cX11_steps 13 = .ok (.aload_n 0, 1) := by decide +kernel
theorem dX11_steps_14 : decode cX11_steps 14 = .ok (.invokevirtual 156, 3) := by decide +kernel
theorem dX11_steps_17 : decode cX11_steps 17 = .ok (.astore_n 2, 1) := by decide +kernel
theorem dX11_steps_18 : decode cX11_steps 18 = .ok (.aload_n 2, 1) := by decide +kernel
theorem dX11_steps_19 : decode cX11_steps 19 = .ok (.iload_n 1, 1) := by decide +kernel
theorem dX11_steps_20 : decode cX11_steps 20 = .ok (.invokevirtual 160, 3) := by decide +kernel
theorem dX11_steps_23 : decode cX11_steps 23 = .ok (.ifCond .eq 12, 3) := by decide +kernel
theorem dX11_steps_26 : decode cX11_steps 26 = .ok (.aload_n 2, 1) := by decide +kernel
theorem dX11_steps_27 : decode cX11_steps 27 = .ok (.getfield 169, 3) := by decide +kernel
theorem dX11_steps_30 : decode cX11_steps 30 = .ok (.iload_n 1, 1) := by decide +kernel
theorem dX11_steps_31 : decode cX11_steps 31 = .ok (.iaload, 1) := by decide +kernel
theorem dX11_steps_32 : decode cX11_steps 32 = .ok (.goto 5, 3) := by decide +kernel
theorem dX11_steps_35 : decode cX11_steps 35 = .ok (.bipush (-2), 2) := by decide +kernel
theorem dX11_steps_37 : decode cX11_steps 37 = .ok (.ireturn, 1) := by decide +kernel
theorem dX11_why_0 : decode cX11_why 0 = .ok (.aload_n 0, 1) := by decide +kernel
theorem dX11_why_1 : decode cX11_why 1 = .ok (.getfield 16, 3) := by decide +kernel
theorem dX11_why_4 : decode cX11_why 4 = .ok (.iload_n 1, 1) := by decide +kernel
theorem dX11_why_5 : decode cX11_why 5 = .ok (.invokevirtual 140, 3) := by decide +kernel
theorem dX11_why_8 : decode cX11_why 8 = .ok (.ifCond .ne 9, 3) := by decide +kernel
theorem dX11_why_11 : decode cX11_why 11 = .ok (.aload_n 0, 1) := by decide +kernel
theorem dX11_why_12 : decode cX11_why 12 = .ok (.iconst 1, 1) := by decide +kernel
theorem dX11_why_13 : decode cX11_why 13 = .ok (.invokevirtual 77, 3) := by decide +kernel
theorem dX11_why_16 : decode cX11_why 16 = .ok (.ireturn, 1) := by decide +kernel
theorem dX11_why_17 : decode cX11_why 17 = .ok (.aload_n 0, 1) := by decide +kernel
theorem dX11_why_18 : decode cX11_why 18 = .ok (.invokevirtual 156, 3) := by decide +kernel
theorem dX11_why_21 : decode cX11_why 21 = .ok (.astore_n 2, 1) := by decide +kernel
theorem dX11_why_22 : decode cX11_why 22 = .ok (.aload_n 2, 1) := by decide +kernel
theorem dX11_why_23 : decode cX11_why 23 = .ok (.iload_n 1, 1) := by decide +kernel
theorem dX11_why_24 : decode cX11_why 24 = .ok (.invokevirtual 160, 3) := by decide +kernel
theorem dX11_why_27 : decode cX11_why 27 = .ok (.ifCond .ne 9, 3) := by decide +kernel
theorem dX11_why_30 : decode cX11_why 30 = .ok (.aload_n 0, 1) := by decide +kernel
theorem dX11_why_31 : decode cX11_why 31 = .ok (.iconst 5, 1) := by decide +kernel
theorem dX11_why_32 : decode cX11_why 32 = .ok (.invokevirtual 77, 3) := by decide +kernel
theorem dX11_why_35 : decode cX11_why 35 = .ok (.ireturn, 1) := by decide +kernel
theorem dX11_why_36 : decode cX11_why 36 = .ok (.aload_n 0, 1) := by decide +kernel
theorem dX11_why_37 : decode cX11_why 37 = .ok (.iconst 0, 1) := by decide +kernel
theorem dX11_why_38 : decode cX11_why 38 = .ok (.putfield 89, 3) := by decide +kernel
theorem dX11_why_41 : decode cX11_why 41 = .ok (.aload_n 0, 1) := by decide +kernel
theorem dX11_why_42 : decode cX11_why 42 = .ok (.getfield 16, 3) := by decide +kernel
theorem dX11_why_45 : decode cX11_why 45 = .ok (.iload_n 1, 1) := by decide +kernel
theorem dX11_why_46 : decode cX11_why 46 = .ok (.invokevirtual 153, 3) := by decide +kernel
theorem dX11_why_49 : decode cX11_why 49 = .ok (.ifCond .eq 6, 3) := by decide +kernel
theorem dX11_why_52 : decode cX11_why 52 = .ok (.bipush (-2), 2) := by decide +kernel
theorem dX11_why_54 : decode cX11_why 54 = .ok (.ireturn, 1) := by decide +kernel
theorem dX11_why_55 : decode cX11_why 55 = .ok (.iconst 0, 1) := by decide +kernel
theorem dX11_why_56 : decode cX11_why 56 = .ok (.istore_n 3, 1) := by decide +kernel
theorem dX11_why_57 : decode cX11_why 57 = .ok (.iload_n 3, 1) := by decide +kernel
theorem dX11_why_58 : decode cX11_why 58 = .ok (.aload_n 0, 1) := by decide +kernel
theorem dX11_why_59 : decode cX11_why 59 = .ok (.getfield 16, 3) := by decide +kernel
theorem dX11_why_62 : decode cX11_why 62 = .ok (.getfield 172, 3) := by decide +kernel
theorem dX11_why_65 : decode cX11_why 65 = .ok (.if_icmp .ge 45, 3) := by decide +kernel
theorem dX11_why_68 : decode cX11_why 68 = .ok (.aload_n 0, 1) := by decide +kernel
theorem dX11_why_69 : decode cX11_why 69 = .ok (.getfield 32, 3) := by decide +kernel
theorem dX11_why_72 : decode cX11_why 72 = .ok (.aload_n 2, 1) := by decide +kernel
theorem dX11_why_73 : decode cX11_why 73 = .ok (.aload_n 0, 1) := by decide +kernel
theorem dX11_why_74 : decode cX11_why 74 = .ok (.getfield 16, 3) := by decide +kernel
theorem dX11_why_77 : decode cX11_why 77 = .ok (.getfield 175, 3) := by decide +kernel
theorem dX11_why_80 : decode cX11_why 80 = .ok (.iload_n 3, 1) := by decide +kernel
theorem dX11_why_81 : decode cX11_why 81 = .ok (.aaload, 1) := by decide +kernel
theorem dX11_why_82 : decode cX11_why 82 = .ok (.iload_n 1, 1) := by decide +kernel
theorem dX11_why_83 : decode cX11_why 83 = .ok (.invokevirtual 179, 3) := by decide +kernel
theorem dX11_why_86 : decode cX11_why 86 = .ok (.ifCond .eq 18, 3) := by decide +kernel
theorem dX11_why_89 : decode cX11_why 89 = .ok (.aload_n 0, 1) := by decide +kernel
theorem dX11_why_90 : decode cX11_why 90 = .ok (.aload_n 0, 1) := by decide +kernel
theorem dX11_why_91 : decode cX11_why 91 = .ok (.getfield 16, 3) := by decide +kernel
theorem dX11_why_94 : decode cX11_why 94 = .ok (.getfield 175, 3) := by decide +kernel
theorem dX11_why_97 : decode cX11_why 97 = .ok (.iload_n 3, 1) := by decide +kernel
theorem dX11_why_98 : decode cX11_why 98 = .ok (.aaload, 1) := by decide +kernel
theorem dX11_why_99 : decode cX11_why 99 = .ok (.invokevirtual 183, 3) := by decide +kernel
theorem dX11_why_102 : decode cX11_why 102 = .ok (.iload_n 3, 1) := by decide +kernel
theorem dX11_why_103 : decode cX11_why 103 = .ok (.ireturn, 1) := by decide +kernel
theorem dX11_why_104 : decode cX11_why 104 = .ok (.iinc 3 1, 3) := by decide +kernel
theorem dX11_why_107 : decode cX11_why 107 = .ok (.goto (-50), 3) := by decide +kernel
theorem dX11_why_110 : decode cX11_why 110 = .ok (.iconst (-1), 1) := by decide +kernel
theorem dX11_why_111 : decode cX11_why 111 = .ok (.ireturn, 1) := by decide +kernel
theorem dX11_keepReasons_0 : decode cX11_keepReasons 0 = .ok (.aload_n 0, 1) := by decide +kernel
theorem dX11_keepReasons_1 : decode cX11_keepReasons 1 = .ok (.aload_n 1, 1) := by decide +kernel
theorem dX11_keepReasons_2 : decode cX11_keepReasons 2 = .ok (.getfield 187, 3) := by decide +kernel
theorem dX11_keepReasons_5 : decode cX11_keepReasons 5 = .ok (.putfield 190, 3) := by decide +kernel
theorem dX11_keepReasons_8 : decode cX11_keepReasons 8 = .ok (.iconst 0, 1) := by decide +kernel
theorem dX11_keepReasons_9 : decode cX11_keepReasons 9 = .ok (.istore_n 2, 1) := by decide +kernel
theorem dX11_keepReasons_10 : decode cX11_keepReasons 10 = .ok (.iload_n 2, 1) := by decide +kernel
theorem dX11_keepReasons_11 : decode cX11_keepReasons 11 = .ok (.aload_n 1, 1) := by decide +kernel
theorem dX11_keepReasons_12 : decode cX11_keepReasons 12 = .ok (.getfield 187, 3) := by decide +kernel
theorem dX11_keepReasons_15 : decode cX11_keepReasons 15 = .ok (.if_icmp .ge 43, 3) := by decide +kernel
theorem dX11_keepReasons_18 : decode cX11_keepReasons 18 = .ok (.aload_n 1, 1) := by decide +kernel
theorem dX11_keepReasons_19 : decode cX11_keepReasons 19 = .ok (.getfield 193, 3) := by decide +kernel
theorem dX11_keepReasons_22 : decode cX11_keepReasons 22 = .ok (.iload_n 2, 1) := by decide +kernel
theorem dX11_keepReasons_23 : decode cX11_keepReasons 23 = .ok (.aaload, 1) := by decide +kernel
theorem dX11_keepReasons_24 : decode cX11_keepReasons 24 = .ok (.astore_n 3, 1) := by decide +kernel
theorem dX11_keepReasons_25 : decode cX11_keepReasons 25 = .ok (.aload_n 0, 1) := by decide +kernel
theorem dX11_keepReasons_26 : decode cX11_keepReasons 26 = .ok (.getfield 66, 3) := by decide +kernel
theorem dX11_keepReasons_29 : decode cX11_keepReasons 29 = .ok (.iload_n 2, 1) := by decide +kernel
theorem dX11_keepReasons_30 : decode cX11_keepReasons 30 = .ok (.aload_n 3, 1) := by decide +kernel
theorem dX11_keepReasons_31 : decode cX11_keepReasons 31 = .ok (.getfield 197, 3) := by decide +kernel
theorem dX11_keepReasons_34 : decode cX11_keepReasons 34 = .ok (.iconst 2, 1) := by decide +kernel
theorem dX11_keepReasons_35 : decode cX11_keepReasons 35 = .ok (.if_icmp .ne 8, 3) := by decide +kernel
theorem dX11_keepReasons_38 : decode cX11_keepReasons 38 = .ok (.bipush (-2), 2) := by decide +kernel
theorem dX11_keepReasons_40 : decode cX11_keepReasons 40 = .ok (.goto 11, 3) := by decide +kernel
theorem dX11_keepReasons_43 : decode cX11_keepReasons 43 = .ok (.aload_n 0, 1) := by decide +kernel
theorem dX11_keepReasons_44 : decode cX11_keepReasons 44 = .ok (.getfield 32, 3) := by decide +kernel
theorem dX11_keepReasons_47 : decode cX11_keepReasons 47 = .ok (.aload_n 3, 1) := by decide +kernel
theorem dX11_keepReasons_48 : decode cX11_keepReasons 48 = .ok (.invokevirtual 202, 3) := by decide +kernel
theorem dX11_keepReasons_51 : decode cX11_keepReasons 51 = .ok (.iastore, 1) := by decide +kernel
theorem dX11_keepReasons_52 : decode cX11_keepReasons 52 = .ok (.iinc 2 1, 3) := by decide +kernel
theorem dX11_keepReasons_55 : decode cX11_keepReasons 55 = .ok (.goto (-45), 3) := by decide +kernel
theorem dX11_keepReasons_58 : decode cX11_keepReasons 58 = .ok (.return_, 1) := by decide +kernel
theorem dX11_because_0 : decode cX11_because 0 = .ok (.iload_n 1, 1) := by decide +kernel
theorem dX11_because_1 : decode cX11_because 1 = .ok (.ifCond .lt 20, 3) := by decide +kernel
theorem dX11_because_4 : decode cX11_because 4 = .ok (.iload_n 1, 1) := by decide +kernel
theorem dX11_because_5 : decode cX11_because 5 = .ok (.aload_n 0, 1) := by decide +kernel
theorem dX11_because_6 : decode cX11_because 6 = .ok (.getfield 190, 3) := by decide +kernel
theorem dX11_because_9 : decode cX11_because 9 = .ok (.if_icmp .ge 12, 3) := by decide +kernel
theorem dX11_because_12 : decode cX11_because 12 = .ok (.aload_n 0, 1) := by decide +kernel
theorem dX11_because_13 : decode cX11_because 13 = .ok (.getfield 66, 3) := by decide +kernel
theorem dX11_because_16 : decode cX11_because 16 = .ok (.iload_n 1, 1) := by decide +kernel
theorem dX11_because_17 : decode cX11_because 17 = .ok (.iaload, 1) := by decide +kernel
theorem dX11_because_18 : decode cX11_because 18 = .ok (.goto 4, 3) := by decide +kernel
theorem dX11_because_21 : decode cX11_because 21 = .ok (.iconst (-1), 1) := by decide +kernel
theorem dX11_because_22 : decode cX11_because 22 = .ok (.ireturn, 1) := by decide +kernel
theorem dX11_comes_0 : decode cX11_comes 0 = .ok (.aload_n 0, 1) := by decide +kernel
theorem dX11_comes_1 : decode cX11_comes 1 = .ok (.getfield 16, 3) := by decide +kernel
theorem dX11_comes_4 : decode cX11_comes 4 = .ok (.iload_n 1, 1) := by decide +kernel
theorem dX11_comes_5 : decode cX11_comes 5 = .ok (.invokevirtual 147, 3) := by decide +kernel
theorem dX11_comes_8 : decode cX11_comes 8 = .ok (.ifCond .eq 14, 3) := by decide +kernel
theorem dX11_comes_11 : decode cX11_comes 11 = .ok (.aload_n 0, 1) := by decide +kernel
theorem dX11_comes_12 : decode cX11_comes 12 = .ok (.getfield 16, 3) := by decide +kernel
theorem dX11_comes_15 : decode cX11_comes 15 = .ok (.iload_n 2, 1) := by decide +kernel
theorem dX11_comes_16 : decode cX11_comes 16 = .ok (.invokevirtual 140, 3) := by decide +kernel
theorem dX11_comes_19 : decode cX11_comes 19 = .ok (.ifCond .ne 9, 3) := by decide +kernel
theorem dX11_comes_22 : decode cX11_comes 22 = .ok (.aload_n 0, 1) := by decide +kernel
theorem dX11_comes_23 : decode cX11_comes 23 = .ok (.iconst 1, 1) := by decide +kernel
theorem dX11_comes_24 : decode cX11_comes 24 = .ok (.invokevirtual 77, 3) := by decide +kernel
theorem dX11_comes_27 : decode cX11_comes 27 = .ok (.ireturn, 1) := by decide +kernel
theorem dX11_comes_28 : decode cX11_comes 28 = .ok (.aload_n 0, 1) := by decide +kernel
theorem dX11_comes_29 : decode cX11_comes 29 = .ok (.getfield 16, 3) := by decide +kernel
theorem dX11_comes_32 : decode cX11_comes 32 = .ok (.getfield 175, 3) := by decide +kernel
theorem dX11_comes_35 : decode cX11_comes 35 = .ok (.iload_n 1, 1) := by decide +kernel
theorem dX11_comes_36 : decode cX11_comes 36 = .ok (.aaload, 1) := by decide +kernel
theorem dX11_comes_37 : decode cX11_comes 37 = .ok (.getfield 206, 3) := by decide +kernel
theorem dX11_comes_40 : decode cX11_comes 40 = .ok (.getfield 210, 3) := by decide +kernel
theorem dX11_comes_43 : decode cX11_comes 43 = .ok (.iload_n 2, 1) := by decide +kernel
theorem dX11_comes_44 : decode cX11_comes 44 = .ok (.bipush 100, 2) := by decide +kernel
theorem dX11_comes_46 : decode cX11_comes 46 = .ok (.idiv, 1) := by decide +kernel
theorem dX11_comes_47 : decode cX11_comes 47 = .ok (.if_icmp .eq 9, 3) := by decide +kernel
theorem dX11_comes_50 : decode cX11_comes 50 = .ok (.aload_n 0, 1) := by decide +kernel
theorem dX11_comes_51 : decode cX11_comes 51 = .ok (.iconst 1, 1) := by decide +kernel
theorem dX11_comes_52 : decode cX11_comes 52 = .ok (.invokevirtual 77, 3) := by decide +kernel
theorem dX11_comes_55 : decode cX11_comes 55 = .ok (.ireturn, 1) := by decide +kernel
theorem dX11_comes_56 : decode cX11_comes 56 = .ok (.aload_n 0, 1) := by decide +kernel
theorem dX11_comes_57 : decode cX11_comes 57 = .ok (.iconst 0, 1) := by decide +kernel
theorem dX11_comes_58 : decode cX11_comes 58 = .ok (.putfield 89, 3) := by decide +kernel
theorem dX11_comes_61 : decode cX11_comes 61 = .ok (.aload_n 0, 1) := by decide +kernel
theorem dX11_comes_62 : decode cX11_comes 62 = .ok (.getfield 32, 3) := by decide +kernel
theorem dX11_comes_65 : decode cX11_comes 65 = .ok (.aload_n 0, 1) := by decide +kernel
theorem dX11_comes_66 : decode cX11_comes 66 = .ok (.invokevirtual 156, 3) := by decide +kernel
theorem dX11_comes_69 : decode cX11_comes 69 = .ok (.aload_n 0, 1) := by decide +kernel
theorem dX11_comes_70 : decode cX11_comes 70 = .ok (.getfield 16, 3) := by decide +kernel
theorem dX11_comes_73 : decode cX11_comes 73 = .ok (.getfield 175, 3) := by decide +kernel
theorem dX11_comes_76 : decode cX11_comes 76 = .ok (.iload_n 1, 1) := by decide +kernel
theorem dX11_comes_77 : decode cX11_comes 77 = .ok (.aaload, 1) := by decide +kernel
theorem dX11_comes_78 : decode cX11_comes 78 = .ok (.iload_n 2, 1) := by decide +kernel
theorem dX11_comes_79 : decode cX11_comes 79 = .ok (.invokevirtual 213, 3) := by decide +kernel
theorem dX11_comes_82 : decode cX11_comes 82 = .ok (.ireturn, 1) := by decide +kernel
theorem dX11_rule_0 : decode cX11_rule 0 = .ok (.aload_n 0, 1) := by decide +kernel
theorem dX11_rule_1 : decode cX11_rule 1 = .ok (.getfield 16, 3) := by decide +kernel
theorem dX11_rule_4 : decode cX11_rule 4 = .ok (.iload_n 1, 1) := by decide +kernel
theorem dX11_rule_5 : decode cX11_rule 5 = .ok (.invokevirtual 147, 3) := by decide +kernel
theorem dX11_rule_8 : decode cX11_rule 8 = .ok (.ifCond .ne 5, 3) := by decide +kernel
theorem dX11_rule_11 : decode cX11_rule 11 = .ok (.iconst (-1), 1) := by decide +kernel
theorem dX11_rule_12 : decode cX11_rule 12 = .ok (.ireturn, 1) := by decide +kernel
theorem dX11_rule_13 : decode cX11_rule 13 = .ok (.aload_n 0, 1) := by decide +kernel
theorem dX11_rule_14 : decode cX11_rule 14 = .ok (.getfield 16, 3) := by decide +kernel
theorem dX11_rule_17 : decode cX11_rule 17 = .ok (.getfield 175, 3) := by decide +kernel
theorem dX11_rule_20 : decode cX11_rule 20 = .ok (.iload_n 1, 1) := by decide +kernel
theorem dX11_rule_21 : decode cX11_rule 21 = .ok (.aaload, 1) := by decide +kernel
theorem dX11_rule_22 : decode cX11_rule 22 = .ok (.astore_n 3, 1) := by decide +kernel
theorem dX11_rule_23 : decode cX11_rule 23 = .ok (.iload_n 2, 1) := by decide +kernel
theorem dX11_rule_24 : decode cX11_rule 24 = .ok (.tableswitch 97 0 4 #[36, 44, 49, 54, 79], 36) := by decide +kernel
theorem dX11_rule_60 : decode cX11_rule 60 = .ok (.aload_n 3, 1) := by decide +kernel
theorem dX11_rule_61 : decode cX11_rule 61 = .ok (.getfield 206, 3) := by decide +kernel
theorem dX11_rule_64 : decode cX11_rule 64 = .ok (.getfield 210, 3) := by decide +kernel
theorem dX11_rule_67 : decode cX11_rule 67 = .ok (.ireturn, 1) := by decide +kernel
theorem dX11_rule_68 : decode cX11_rule 68 = .ok (.aload_n 3, 1) := by decide +kernel
theorem dX11_rule_69 : decode cX11_rule 69 = .ok (.getfield 187, 3) := by decide +kernel
theorem dX11_rule_72 : decode cX11_rule 72 = .ok (.ireturn, 1) := by decide +kernel
theorem dX11_rule_73 : decode cX11_rule 73 = .ok (.aload_n 3, 1) := by decide +kernel
theorem dX11_rule_74 : decode cX11_rule 74 = .ok (.getfield 217, 3) := by decide +kernel
theorem dX11_rule_77 : decode cX11_rule 77 = .ok (.ireturn, 1) := by decide +kernel
theorem dX11_rule_78 : decode cX11_rule 78 = .ok (.aload_n 0, 1) := by decide +kernel
theorem dX11_rule_79 : decode cX11_rule 79 = .ok (.getfield 32, 3) := by decide +kernel
theorem dX11_rule_82 : decode cX11_rule 82 = .ok (.aload_n 0, 1) := by decide +kernel
theorem dX11_rule_83 : decode cX11_rule 83 = .ok (.invokevirtual 156, 3) := by decide +kernel
theorem dX11_rule_86 : decode cX11_rule 86 = .ok (.aload_n 3, 1) := by decide +kernel
theorem dX11_rule_87 : decode cX11_rule 87 = .ok (.invokevirtual 220, 3) := by decide +kernel
theorem dX11_rule_90 : decode cX11_rule 90 = .ok (.aload_n 3, 1) := by decide +kernel
theorem dX11_rule_91 : decode cX11_rule 91 = .ok (.getfield 187, 3) := by decide +kernel
theorem dX11_rule_94 : decode cX11_rule 94 = .ok (.if_icmp .ge 7, 3) := by decide +kernel
theorem dX11_rule_97 : decode cX11_rule 97 = .ok (.iconst 1, 1) := by decide +kernel
theorem dX11_rule_98 : decode cX11_rule 98 = .ok (.goto 4, 3) := by decide +kernel
theorem dX11_rule_101 : decode cX11_rule 101 = .ok (.iconst 0, 1) := by decide +kernel
theorem dX11_rule_102 : decode cX11_rule 102 = .ok (.ireturn, 1) := by decide +kernel
theorem dX11_rule_103 : decode cX11_rule 103 = .ok (.aload_n 0, 1) := by decide +kernel
theorem dX11_rule_104 : decode cX11_rule 104 = .ok (.iload_n 1, 1) := by decide +kernel
theorem dX11_rule_105 : decode cX11_rule 105 = .ok (.aload_n 0, 1) := by decide +kernel
theorem dX11_rule_106 : decode cX11_rule 106 = .ok (.invokevirtual 156, 3) := by decide +kernel
theorem dX11_rule_109 : decode cX11_rule 109 = .ok (.invokevirtual 224, 3) := by decide +kernel
theorem dX11_rule_112 : decode cX11_rule 112 = .ok (.ifCond .eq 7, 3) := by decide +kernel
theorem dX11_rule_115 : decode cX11_rule 115 = .ok (.iconst 1, 1) := by decide +kernel
theorem dX11_rule_116 : decode cX11_rule 116 = .ok (.goto 4, 3) := by decide +kernel
theorem dX11_rule_119 : decode cX11_rule 119 = .ok (.iconst 0, 1) := by decide +kernel
theorem dX11_rule_120 : decode cX11_rule 120 = .ok (.ireturn, 1) := by decide +kernel
theorem dX11_rule_121 : decode cX11_rule 121 = .ok (.iconst (-1), 1) := by decide +kernel
theorem dX11_rule_122 : decode cX11_rule 122 = .ok (.ireturn, 1) := by decide +kernel
theorem dX11_isSpare_0 : decode cX11_isSpare 0 = .ok (.aload_n 0, 1) := by decide +kernel
theorem dX11_isSpare_1 : decode cX11_isSpare 1 = .ok (.getfield 54, 3) := by decide +kernel
theorem dX11_isSpare_4 : decode cX11_isSpare 4 = .ok (.aload_n 0, 1) := by decide +kernel
theorem dX11_isSpare_5 : decode cX11_isSpare 5 = .ok (.getfield 16, 3) := by decide +kernel
theorem dX11_isSpare_8 : decode cX11_isSpare 8 = .ok (.getfield 228, 3) := by decide +kernel
theorem dX11_isSpare_11 : decode cX11_isSpare 11 = .ok (.invokevirtual 231, 3) := by decide +kernel
theorem dX11_isSpare_14 : decode cX11_isSpare 14 = .ok (.aload_n 0, 1) := by decide +kernel
theorem dX11_isSpare_15 : decode cX11_isSpare 15 = .ok (.getfield 41, 3) := by decide +kernel
theorem dX11_isSpare_18 : decode cX11_isSpare 18 = .ok (.aload_n 0, 1) := by decide +kernel
theorem dX11_isSpare_19 : decode cX11_isSpare 19 = .ok (.getfield 54, 3) := by decide +kernel
theorem dX11_isSpare_22 : decode cX11_isSpare 22 = .ok (.iload_n 1, 1) := by decide +kernel
theorem dX11_isSpare_23 : decode cX11_isSpare 23 = .ok (.sipush 1023, 3) := by decide +kernel
theorem dX11_isSpare_26 : decode cX11_isSpare 26 = .ok (.iconst (-1), 1) := by decide +kernel
theorem dX11_isSpare_27 : decode cX11_isSpare 27 = .ok (.invokevirtual 235, 3) := by decide +kernel
theorem dX11_isSpare_30 : decode cX11_isSpare 30 = .ok (.aload_n 0, 1) := by decide +kernel
theorem dX11_isSpare_31 : decode cX11_isSpare 31 = .ok (.getfield 54, 3) := by decide +kernel
theorem dX11_isSpare_34 : decode cX11_isSpare 34 = .ok (.aload_n 2, 1) := by decide +kernel
theorem dX11_isSpare_35 : decode cX11_isSpare 35 = .ok (.invokevirtual 239, 3) := by decide +kernel
theorem dX11_isSpare_38 : decode cX11_isSpare 38 = .ok (.ifCond .ne 18, 3) := by decide +kernel
theorem dX11_isSpare_41 : decode cX11_isSpare 41 = .ok (.aload_n 2, 1) := by decide +kernel
theorem dX11_isSpare_42 : decode cX11_isSpare 42 = .ok (.aload_n 0, 1) := by decide +kernel
theorem dX11_isSpare_43 : decode cX11_isSpare 43 = .ok (.getfield 54, 3) := by decide +kernel
theorem dX11_isSpare_46 : decode cX11_isSpare 46 = .ok (.invokevirtual 239, 3) := by decide +kernel
theorem dX11_isSpare_49 : decode cX11_isSpare 49 = .ok (.ifCond .ne 7, 3) := by decide +kernel
theorem dX11_isSpare_52 : decode cX11_isSpare 52 = .ok (.iconst 1, 1) := by decide +kernel
theorem dX11_isSpare_53 : decode cX11_isSpare 53 = .ok (.goto 4, 3) := by decide +kernel
theorem dX11_isSpare_56 : decode cX11_isSpare 56 = .ok (.iconst 0, 1) := by decide +kernel
theorem dX11_isSpare_57 : decode cX11_isSpare 57 = .ok (.ireturn, 1) := by decide +kernel
theorem dX11_term_0 : decode cX11_term 0 = .ok (.aload_n 0, 1) := by decide +kernel
theorem dX11_term_1 : decode cX11_term 1 = .ok (.getfield 16, 3) := by decide +kernel
theorem dX11_term_4 : decode cX11_term 4 = .ok (.iload_n 1, 1) := by decide +kernel
theorem dX11_term_5 : decode cX11_term 5 = .ok (.invokevirtual 147, 3) := by decide +kernel
theorem dX11_term_8 : decode cX11_term 8 = .ok (.ifCond .eq 23, 3) := by decide +kernel
theorem dX11_term_11 : decode cX11_term 11 = .ok (.iload_n 2, 1) := by decide +kernel
theorem dX11_term_12 : decode cX11_term 12 = .ok (.ifCond .lt 19, 3) := by decide +kernel
theorem dX11_term_15 : decode cX11_term 15 = .ok (.iload_n 2, 1) := by decide +kernel
theorem dX11_term_16 : decode cX11_term 16 = .ok (.aload_n 0, 1) := by decide +kernel
theorem dX11_term_17 : decode cX11_term 17 = .ok (.getfield 16, 3) := by decide +kernel
theorem dX11_term_20 : decode cX11_term 20 = .ok (.getfield 175, 3) := by decide +kernel
theorem dX11_term_23 : decode cX11_term 23 = .ok (.iload_n 1, 1) := by decide +kernel
theorem dX11_term_24 : decode cX11_term 24 = .ok (.aaload, 1) := by decide +kernel
theorem dX11_term_25 : decode cX11_term 25 = .ok (.getfield 187, 3) := by decide +kernel
theorem dX11_term_28 : decode cX11_term 28 = .ok (.if_icmp .lt 5, 3) := by decide +kernel
theorem dX11_term_31 : decode cX11_term 31 = .ok (.iconst (-1), 1) := by decide +kernel
theorem dX11_term_32 : decode cX11_term 32 = .ok (.ireturn, 1) := by decide +kernel
theorem dX11_term_33 : decode cX11_term 33 = .ok (.aload_n 0, 1) := by decide +kernel
theorem dX11_term_34 : decode cX11_term 34 = .ok (.getfield 16, 3) := by decide +kernel
theorem dX11_term_37 : decode cX11_term 37 = .ok (.getfield 175, 3) := by decide +kernel
theorem dX11_term_40 : decode cX11_term 40 = .ok (.iload_n 1, 1) := by decide +kernel
theorem dX11_term_41 : decode cX11_term 41 = .ok (.aaload, 1) := by decide +kernel
theorem dX11_term_42 : decode cX11_term 42 = .ok (.getfield 193, 3) := by decide +kernel
theorem dX11_term_45 : decode cX11_term 45 = .ok (.iload_n 2, 1) := by decide +kernel
theorem dX11_term_46 : decode cX11_term 46 = .ok (.aaload, 1) := by decide +kernel
theorem dX11_term_47 : decode cX11_term 47 = .ok (.astore 4, 2) := by decide +kernel
theorem dX11_term_49 : decode cX11_term 49 = .ok (.iload_n 3, 1) := by decide +kernel
theorem dX11_term_50 : decode cX11_term 50 = .ok (.tableswitch 54 0 3 #[30, 36, 42, 48], 30) := by decide +kernel
theorem dX11_term_80 : decode cX11_term 80 = .ok (.aload 4, 2) := by decide +kernel
theorem dX11_term_82 : decode cX11_term 82 = .ok (.getfield 197, 3) := by decide +kernel
theorem dX11_term_85 : decode cX11_term 85 = .ok (.ireturn, 1) := by decide +kernel
theorem dX11_term_86 : decode cX11_term 86 = .ok (.aload 4, 2) := by decide +kernel
theorem dX11_term_88 : decode cX11_term 88 = .ok (.getfield 210, 3) := by decide +kernel
theorem dX11_term_91 : decode cX11_term 91 = .ok (.ireturn, 1) := by decide +kernel
theorem dX11_term_92 : decode cX11_term 92 = .ok (.aload 4, 2) := by decide +kernel
theorem dX11_term_94 : decode cX11_term 94 = .ok (.getfield 243, 3) := by decide +kernel
theorem dX11_term_97 : decode cX11_term 97 = .ok (.ireturn, 1) := by decide +kernel
theorem dX11_term_98 : decode cX11_term 98 = .ok (.aload 4, 2) := by decide +kernel
theorem dX11_term_100 : decode cX11_term 100 = .ok (.getfield 246, 3) := by decide +kernel
theorem dX11_term_103 : decode cX11_term 103 = .ok (.ireturn, 1) := by decide +kernel
theorem dX11_term_104 : decode cX11_term 104 = .ok (.iconst (-1), 1) := by decide +kernel
theorem dX11_term_105 : decode cX11_term 105 = .ok (.ireturn, 1) := by decide +kernel
theorem dX11_go_0 : decode cX11_go 0 = .ok (.aload_n 0, 1) := by decide +kernel
theorem dX11_go_1 : decode cX11_go 1 = .ok (.getfield 16, 3) := by decide +kernel
theorem dX11_go_4 : decode cX11_go 4 = .ok (.iload_n 1, 1) := by decide +kernel
theorem dX11_go_5 : decode cX11_go 5 = .ok (.invokevirtual 140, 3) := by decide +kernel
theorem dX11_go_8 : decode cX11_go 8 = .ok (.ifCond .ne 9, 3) := by decide +kernel
theorem dX11_go_11 : decode cX11_go 11 = .ok (.aload_n 0, 1) := by decide +kernel
theorem dX11_go_12 : decode cX11_go 12 = .ok (.iconst 1, 1) := by decide +kernel
theorem dX11_go_13 : decode cX11_go 13 = .ok (.invokevirtual 77, 3) := by decide +kernel
theorem dX11_go_16 : decode cX11_go 16 = .ok (.ireturn, 1) := by decide +kernel
theorem dX11_go_17 : decode cX11_go 17 = .ok (.aload_n 0, 1) := by decide +kernel
theorem dX11_go_18 : decode cX11_go 18 = .ok (.invokevirtual 156, 3) := by decide +kernel
theorem dX11_go_21 : decode cX11_go 21 = .ok (.iload_n 1, 1) := by decide +kernel
theorem dX11_go_22 : decode cX11_go 22 = .ok (.invokevirtual 160, 3) := by decide +kernel
theorem dX11_go_25 : decode cX11_go 25 = .ok (.ifCond .ne 9, 3) := by decide +kernel
theorem dX11_go_28 : decode cX11_go 28 = .ok (.aload_n 0, 1) := by decide +kernel
theorem dX11_go_29 : decode cX11_go 29 = .ok (.iconst 5, 1) := by decide +kernel
theorem dX11_go_30 : decode cX11_go 30 = .ok (.invokevirtual 77, 3) := by decide +kernel
theorem dX11_go_33 : decode cX11_go 33 = .ok (.ireturn, 1) := by decide +kernel
theorem dX11_go_34 : decode cX11_go 34 = .ok (.aload_n 0, 1) := by decide +kernel
theorem dX11_go_35 : decode cX11_go 35 = .ok (.getfield 16, 3) := by decide +kernel
theorem dX11_go_38 : decode cX11_go 38 = .ok (.getfield 249, 3) := by decide +kernel
theorem dX11_go_41 : decode cX11_go 41 = .ok (.bipush 12, 2) := by decide +kernel
theorem dX11_go_43 : decode cX11_go 43 = .ok (.if_icmp .le 10, 3) := by decide +kernel
theorem dX11_go_46 : decode cX11_go 46 = .ok (.aload_n 0, 1) := by decide +kernel
theorem dX11_go_47 : decode cX11_go 47 = .ok (.bipush 6, 2) := by decide +kernel
theorem dX11_go_49 : decode cX11_go 49 = .ok (.invokevirtual 77, 3) := by decide +kernel
theorem dX11_go_52 : decode cX11_go 52 = .ok (.ireturn, 1) := by decide +kernel
theorem dX11_go_53 : decode cX11_go 53 = .ok (.aload_n 0, 1) := by decide +kernel
theorem dX11_go_54 : decode cX11_go 54 = .ok (.iconst 0, 1) := by decide +kernel
theorem dX11_go_55 : decode cX11_go 55 = .ok (.putfield 89, 3) := by decide +kernel
theorem dX11_go_58 : decode cX11_go 58 = .ok (.aload_n 0, 1) := by decide +kernel
theorem dX11_go_59 : decode cX11_go 59 = .ok (.getfield 62, 3) := by decide +kernel
theorem dX11_go_62 : decode cX11_go 62 = .ok (.iload_n 1, 1) := by decide +kernel
theorem dX11_go_63 : decode cX11_go 63 = .ok (.invokevirtual 252, 3) := by decide +kernel
theorem dX11_go_66 : decode cX11_go 66 = .ok (.iconst 1, 1) := by decide +kernel
theorem dX11_go_67 : decode cX11_go 67 = .ok (.istore_n 2, 1) := by decide +kernel
theorem dX11_go_68 : decode cX11_go 68 = .ok (.iload_n 2, 1) := by decide +kernel
theorem dX11_go_69 : decode cX11_go 69 = .ok (.iconst 3, 1) := by decide +kernel
theorem dX11_go_70 : decode cX11_go 70 = .ok (.if_icmp .gt 22, 3) := by decide +kernel
theorem dX11_go_73 : decode cX11_go 73 = .ok (.aload_n 0, 1) := by decide +kernel
theorem dX11_go_74 : decode cX11_go 74 = .ok (.getfield 62, 3) := by decide +kernel
theorem dX11_go_77 : decode cX11_go 77 = .ok (.iload_n 2, 1) := by decide +kernel
theorem dX11_go_78 : decode cX11_go 78 = .ok (.invokevirtual 255, 3) := by decide +kernel
theorem dX11_go_81 : decode cX11_go 81 = .ok (.ifCond .eq 5, 3) := by decide +kernel
theorem dX11_go_84 : decode cX11_go 84 = .ok (.iload_n 2, 1) := by decide +kernel
theorem dX11_go_85 : decode cX11_go 85 = .ok (.ireturn, 1) := by decide +kernel
theorem dX11_go_86 : decode cX11_go 86 = .ok (.iinc 2 1, 3) := by decide +kernel
theorem dX11_go_89 : decode cX11_go 89 = .ok (.goto (-21), 3) := by decide +kernel
theorem dX11_go_92 : decode cX11_go 92 = .ok (.bipush (-2), 2) := by decide +kernel
theorem dX11_go_94 : decode cX11_go 94 = .ok (.ireturn, 1) := by decide +kernel
theorem dX11_gone_0 : decode cX11_gone 0 = .ok (.iload_n 1, 1) := by decide +kernel
theorem dX11_gone_1 : decode cX11_gone 1 = .ok (.ifCond .lt 26, 3) := by decide +kernel
theorem dX11_gone_4 : decode cX11_gone 4 = .ok (.iload_n 1, 1) := by decide +kernel
theorem dX11_gone_5 : decode cX11_gone 5 = .ok (.aload_n 0, 1) := by decide +kernel
theorem dX11_gone_6 : decode cX11_gone 6 = .ok (.getfield 62, 3) := by decide +kernel
theorem dX11_gone_9 : decode cX11_gone 9 = .ok (.getfield 258, 3) := by decide +kernel
theorem dX11_gone_12 : decode cX11_gone 12 = .ok (.if_icmp .ge 15, 3) := by decide +kernel
theorem dX11_gone_15 : decode cX11_gone 15 = .ok (.aload_n 0, 1) := by decide +kernel
theorem dX11_gone_16 : decode cX11_gone 16 = .ok (.getfield 62, 3) := by decide +kernel
theorem dX11_gone_19 : decode cX11_gone 19 = .ok (.getfield 261, 3) := by decide +kernel
theorem dX11_gone_22 : decode cX11_gone 22 = .ok (.iload_n 1, 1) := by decide +kernel
theorem dX11_gone_23 : decode cX11_gone 23 = .ok (.iaload, 1) := by decide +kernel
theorem dX11_gone_24 : decode cX11_gone 24 = .ok (.goto 4, 3) := by decide +kernel
theorem dX11_gone_27 : decode cX11_gone 27 = .ok (.iconst (-1), 1) := by decide +kernel
theorem dX11_gone_28 : decode cX11_gone 28 = .ok (.ireturn, 1) := by decide +kernel
theorem dX11_derived_0 : decode cX11_derived 0 = .ok (.aload_n 0, 1) := by decide +kernel
theorem dX11_derived_1 : decode cX11_derived 1 = .ok (.invokevirtual 156, 3) := by decide +kernel
theorem dX11_derived_4 : decode cX11_derived 4 = .ok (.astore_n 1, 1) := by decide +kernel
theorem dX11_derived_5 : decode cX11_derived 5 = .ok (.iconst 0, 1) := by decide +kernel
theorem dX11_derived_6 : decode cX11_derived 6 = .ok (.istore_n 2, 1) := by decide +kernel
theorem dX11_derived_7 : decode cX11_derived 7 = .ok (.iconst 0, 1) := by decide +kernel
theorem dX11_derived_8 : decode cX11_derived 8 = .ok (.istore_n 3, 1) := by decide +kernel
theorem dX11_derived_9 : decode cX11_derived 9 = .ok (.iload_n 3, 1) := by decide +kernel
theorem dX11_derived_10 : decode cX11_derived 10 = .ok (.bipush 100, 2) := by decide +kernel
theorem dX11_derived_12 : decode cX11_derived 12 = .ok (.if_icmp .ge 33, 3) := by decide +kernel
theorem dX11_derived_15 : decode cX11_derived 15 = .ok (.iload_n 2, 1) := by decide +kernel
theorem dX11_derived_16 : decode cX11_derived 16 = .ok (.aload_n 1, 1) := by decide +kernel
theorem dX11_derived_17 : decode cX11_derived 17 = .ok (.getfield 161, 3) := by decide +kernel
theorem dX11_derived_20 : decode cX11_derived 20 = .ok (.iload_n 3, 1) := by decide +kernel
theorem dX11_derived_21 : decode cX11_derived 21 = .ok (.iaload, 1) := by decide +kernel
theorem dX11_derived_22 : decode cX11_derived 22 = .ok (.aload_n 0, 1) := by decide +kernel
theorem dX11_derived_23 : decode cX11_derived 23 = .ok (.getfield 16, 3) := by decide +kernel
theorem dX11_derived_26 : decode cX11_derived 26 = .ok (.getfield 228, 3) := by decide +kernel
theorem dX11_derived_29 : decode cX11_derived 29 = .ok (.iload_n 3, 1) := by decide +kernel
theorem dX11_derived_30 : decode cX11_derived 30 = .ok (.iaload, 1) := by decide +kernel
theorem dX11_derived_31 : decode cX11_derived 31 = .ok (.iconst (-1), 1) := by decide +kernel
theorem dX11_derived_32 : decode cX11_derived 32 = .ok (.ixor, 1) := by decide +kernel
theorem dX11_derived_33 : decode cX11_derived 33 = .ok (.iand, 1) := by decide +kernel
theorem dX11_derived_34 : decode cX11_derived 34 = .ok (.invokestatic 164, 3) := by decide +kernel
theorem dX11_derived_37 : decode cX11_derived 37 = .ok (.iadd, 1) := by decide +kernel
theorem dX11_derived_38 : decode cX11_derived 38 = .ok (.istore_n 2, 1) := by decide +kernel
theorem dX11_derived_39 : decode cX11_derived 39 = .ok (.iinc 3 1, 3) := by decide +kernel
theorem dX11_derived_42 : decode cX11_derived 42 = .ok (.goto (-33), 3) := by decide +kernel
theorem dX11_derived_45 : decode cX11_derived 45 = .ok (.iload_n 2, 1) := by decide +kernel
theorem dX11_derived_46 : decode cX11_derived 46 = .ok (.ireturn, 1) := by decide +kernel
theorem dX11_deepest_0 : decode cX11_deepest 0 = .ok (.aload_n 0, 1) := by decide +kernel
theorem dX11_deepest_1 : decode cX11_deepest 1 = .ok (.invokevirtual 156, 3) := by decide +kernel
theorem dX11_deepest_4 : decode cX11_deepest 4 = .ok (.astore_n 1, 1) := by decide +kernel
theorem dX11_deepest_5 : decode cX11_deepest 5 = .ok (.iconst 0, 1) := by decide +kernel
theorem dX11_deepest_6 : decode cX11_deepest 6 = .ok (.istore_n 2, 1) := by decide +kernel
theorem dX11_deepest_7 : decode cX11_deepest 7 = .ok (.iconst 0, 1) := by decide +kernel
theorem dX11_deepest_8 : decode cX11_deepest 8 = .ok (.istore_n 3, 1) := by decide +kernel
theorem dX11_deepest_9 : decode cX11_deepest 9 = .ok (.iload_n 3, 1) := by decide +kernel
theorem dX11_deepest_10 : decode cX11_deepest 10 = .ok (.aload_n 0, 1) := by decide +kernel
theorem dX11_deepest_11 : decode cX11_deepest 11 = .ok (.getfield 16, 3) := by decide +kernel
theorem dX11_deepest_14 : decode cX11_deepest 14 = .ok (.getfield 101, 3) := by decide +kernel
theorem dX11_deepest_17 : decode cX11_deepest 17 = .ok (.getfield 114, 3) := by decide +kernel
theorem dX11_deepest_20 : decode cX11_deepest 20 = .ok (.bipush 10, 2) := by decide +kernel
theorem dX11_deepest_22 : decode cX11_deepest 22 = .ok (.imul, 1) := by decide +kernel
theorem dX11_deepest_23 : decode cX11_deepest 23 = .ok (.bipush 10, 2) := by decide +kernel
theorem dX11_deepest_25 : decode cX11_deepest 25 = .ok (.imul, 1) := by decide +kernel
theorem dX11_deepest_26 : decode cX11_deepest 26 = .ok (.if_icmp .ge 28, 3) := by decide +kernel
theorem dX11_deepest_29 : decode cX11_deepest 29 = .ok (.aload_n 1, 1) := by decide +kernel
theorem dX11_deepest_30 : decode cX11_deepest 30 = .ok (.iload_n 3, 1) := by decide +kernel
theorem dX11_deepest_31 : decode cX11_deepest 31 = .ok (.invokevirtual 160, 3) := by decide +kernel
theorem dX11_deepest_34 : decode cX11_deepest 34 = .ok (.ifCond .eq 14, 3) := by decide +kernel
theorem dX11_deepest_37 : decode cX11_deepest 37 = .ok (.iload_n 2, 1) := by decide +kernel
theorem dX11_deepest_38 : decode cX11_deepest 38 = .ok (.aload_n 1, 1) := by decide +kernel
theorem dX11_deepest_39 : decode cX11_deepest 39 = .ok (.getfield 169, 3) := by decide +kernel
theorem dX11_deepest_42 : decode cX11_deepest 42 = .ok (.iload_n 3, 1) := by decide +kernel
theorem dX11_deepest_43 : decode cX11_deepest 43 = .ok (.iaload, 1) := by decide +kernel
theorem dX11_deepest_44 : decode cX11_deepest 44 = .ok (.invokestatic 264, 3) := by decide +kernel
theorem dX11_deepest_47 : decode cX11_deepest 47 = .ok (.istore_n 2, 1) := by decide +kernel
theorem dX11_deepest_48 : decode cX11_deepest 48 = .ok (.iinc 3 1, 3) := by decide +kernel
theorem dX11_deepest_51 : decode cX11_deepest 51 = .ok (.goto (-42), 3) := by decide +kernel
theorem dX11_deepest_54 : decode cX11_deepest 54 = .ok (.iload_n 2, 1) := by decide +kernel
theorem dX11_deepest_55 : decode cX11_deepest 55 = .ok (.ireturn, 1) := by decide +kernel
theorem dX11_turned_0 : decode cX11_turned 0 = .ok (.aload_n 0, 1) := by decide +kernel
theorem dX11_turned_1 : decode cX11_turned 1 = .ok (.getfield 16, 3) := by decide +kernel
theorem dX11_turned_4 : decode cX11_turned 4 = .ok (.iload_n 1, 1) := by decide +kernel
theorem dX11_turned_5 : decode cX11_turned 5 = .ok (.invokevirtual 140, 3) := by decide +kernel
theorem dX11_turned_8 : decode cX11_turned 8 = .ok (.ifCond .ne 9, 3) := by decide +kernel
theorem dX11_turned_11 : decode cX11_turned 11 = .ok (.aload_n 0, 1) := by decide +kernel
theorem dX11_turned_12 : decode cX11_turned 12 = .ok (.iconst 1, 1) := by decide +kernel
theorem dX11_turned_13 : decode cX11_turned 13 = .ok (.invokevirtual 77, 3) := by decide +kernel
theorem dX11_turned_16 : decode cX11_turned 16 = .ok (.ireturn, 1) := by decide +kernel
theorem dX11_turned_17 : decode cX11_turned 17 = .ok (.aload_n 0, 1) := by decide +kernel
theorem dX11_turned_18 : decode cX11_turned 18 = .ok (.iconst 0, 1) := by decide +kernel
theorem dX11_turned_19 : decode cX11_turned 19 = .ok (.putfield 89, 3) := by decide +kernel
theorem dX11_turned_22 : decode cX11_turned 22 = .ok (.aload_n 0, 1) := by decide +kernel
theorem dX11_turned_23 : decode cX11_turned 23 = .ok (.invokevirtual 156, 3) := by decide +kernel
theorem dX11_turned_26 : decode cX11_turned 26 = .ok (.astore_n 3, 1) := by decide +kernel
theorem dX11_turned_27 : decode cX11_turned 27 = .ok (.aload_n 0, 1) := by decide +kernel
theorem dX11_turned_28 : decode cX11_turned 28 = .ok (.getfield 54, 3) := by decide +kernel
theorem dX11_turned_31 : decode cX11_turned 31 = .ok (.aload_n 0, 1) := by decide +kernel
theorem dX11_turned_32 : decode cX11_turned 32 = .ok (.getfield 16, 3) := by decide +kernel
theorem dX11_turned_35 : decode cX11_turned 35 = .ok (.getfield 228, 3) := by decide +kernel
theorem dX11_turned_38 : decode cX11_turned 38 = .ok (.invokevirtual 231, 3) := by decide +kernel
theorem dX11_turned_41 : decode cX11_turned 41 = .ok (.aload_n 0, 1) := by decide +kernel
theorem dX11_turned_42 : decode cX11_turned 42 = .ok (.getfield 54, 3) := by decide +kernel
theorem dX11_turned_45 : decode cX11_turned 45 = .ok (.iload_n 1, 1) := by decide +kernel
theorem dX11_turned_46 : decode cX11_turned 46 = .ok (.invokevirtual 269, 3) := by decide +kernel
theorem dX11_turned_49 : decode cX11_turned 49 = .ok (.aload_n 0, 1) := by decide +kernel
theorem dX11_turned_50 : decode cX11_turned 50 = .ok (.getfield 41, 3) := by decide +kernel
theorem dX11_turned_53 : decode cX11_turned 53 = .ok (.aload_n 0, 1) := by decide +kernel
theorem dX11_turned_54 : decode cX11_turned 54 = .ok (.getfield 54, 3) := by decide +kernel
theorem dX11_turned_57 : decode cX11_turned 57 = .ok (.iconst (-1), 1) := by decide +kernel
theorem dX11_turned_58 : decode cX11_turned 58 = .ok (.sipush 1023, 3) := by decide +kernel
theorem dX11_turned_61 : decode cX11_turned 61 = .ok (.iconst (-1), 1) := by decide +kernel
theorem dX11_turned_62 : decode cX11_turned 62 = .ok (.invokevirtual 235, 3) := by decide +kernel
theorem dX11_turned_65 : decode cX11_turned 65 = .ok (.iload_n 2, 1) := by decide +kernel
theorem dX11_turned_66 : decode cX11_turned 66 = .ok (.ifCond .eq 14, 3) := by decide +kernel
theorem dX11_turned_69 : decode cX11_turned 69 = .ok (.aload_n 3, 1) := by decide +kernel
theorem dX11_turned_70 : decode cX11_turned 70 = .ok (.aload_n 0, 1) := by decide +kernel
theorem dX11_turned_71 : decode cX11_turned 71 = .ok (.getfield 54, 3) := by decide +kernel
theorem dX11_turned_74 : decode cX11_turned 74 = .ok (.invokevirtual 239, 3) := by decide +kernel
theorem dX11_turned_77 : decode cX11_turned 77 = .ok (.goto 11, 3) := by decide +kernel
theorem dX11_turned_80 : decode cX11_turned 80 = .ok (.aload_n 0, 1) := by decide +kernel
theorem dX11_turned_81 : decode cX11_turned 81 = .ok (.getfield 54, 3) := by decide +kernel
theorem dX11_turned_84 : decode cX11_turned 84 = .ok (.aload_n 3, 1) := by decide +kernel
theorem dX11_turned_85 : decode cX11_turned 85 = .ok (.invokevirtual 239, 3) := by decide +kernel
theorem dX11_turned_88 : decode cX11_turned 88 = .ok (.ireturn, 1) := by decide +kernel
theorem dX11_count_0 : decode cX11_count 0 = .ok (.iload_n 1, 1) := by decide +kernel
theorem dX11_count_1 : decode cX11_count 1 = .ok (.tableswitch 90 0 5 #[39, 50, 61, 69, 77, 82], 39) := by decide +kernel
theorem dX11_count_40 : decode cX11_count 40 = .ok (.aload_n 0, 1) := by decide +kernel
theorem dX11_count_41 : decode cX11_count 41 = .ok (.getfield 16, 3) := by decide +kernel
theorem dX11_count_44 : decode cX11_count 44 = .ok (.getfield 111, 3) := by decide +kernel
theorem dX11_count_47 : decode cX11_count 47 = .ok (.getfield 114, 3) := by decide +kernel
theorem dX11_count_50 : decode cX11_count 50 = .ok (.ireturn, 1) := by decide +kernel
theorem dX11_count_51 : decode cX11_count 51 = .ok (.aload_n 0, 1) := by decide +kernel
theorem dX11_count_52 : decode cX11_count 52 = .ok (.getfield 16, 3) := by decide +kernel
theorem dX11_count_55 : decode cX11_count 55 = .ok (.getfield 101, 3) := by decide +kernel
theorem dX11_count_58 : decode cX11_count 58 = .ok (.getfield 114, 3) := by decide +kernel
theorem dX11_count_61 : decode cX11_count 61 = .ok (.ireturn, 1) := by decide +kernel
theorem dX11_count_62 : decode cX11_count 62 = .ok (.aload_n 0, 1) := by decide +kernel
theorem dX11_count_63 : decode cX11_count 63 = .ok (.getfield 16, 3) := by decide +kernel
theorem dX11_count_66 : decode cX11_count 66 = .ok (.getfield 172, 3) := by decide +kernel
theorem dX11_count_69 : decode cX11_count 69 = .ok (.ireturn, 1) := by decide +kernel
theorem dX11_count_70 : decode cX11_count 70 = .ok (.aload_n 0, 1) := by decide +kernel
theorem dX11_count_71 : decode cX11_count 71 = .ok (.getfield 16, 3) := by decide +kernel
theorem dX11_count_74 : decode cX11_count 74 = .ok (.getfield 249, 3) := by decide +kernel
theorem dX11_count_77 : decode cX11_count 77 = .ok (.ireturn, 1) := by decide +kernel
theorem dX11_count_78 : decode cX11_count 78 = .ok (.aload_n 0, 1) := by decide +kernel
theorem dX11_count_79 : decode cX11_count 79 = .ok (.getfield 69, 3) := by decide +kernel
theorem dX11_count_82 : decode cX11_count 82 = .ok (.ireturn, 1) := by decide +kernel
theorem dX11_count_83 : decode cX11_count 83 = .ok (.aload_n 0, 1) := by decide +kernel
theorem dX11_count_84 : decode cX11_count 84 = .ok (.getfield 16, 3) := by decide +kernel
theorem dX11_count_87 : decode cX11_count 87 = .ok (.invokevirtual 272, 3) := by decide +kernel
theorem dX11_count_90 : decode cX11_count 90 = .ok (.ireturn, 1) := by decide +kernel
theorem dX11_count_91 : decode cX11_count 91 = .ok (.iconst (-1), 1) := by decide +kernel
theorem dX11_count_92 : decode cX11_count 92 = .ok (.ireturn, 1) := by decide +kernel
theorem dX11_trouble_0 : decode cX11_trouble 0 = .ok (.aload_n 0, 1) := by decide +kernel
theorem dX11_trouble_1 : decode cX11_trouble 1 = .ok (.getfield 89, 3) := by decide +kernel
theorem dX11_trouble_4 : decode cX11_trouble 4 = .ok (.ireturn, 1) := by decide +kernel
theorem dX11_refuse_0 : decode cX11_refuse 0 = .ok (.aload_n 0, 1) := by decide +kernel
theorem dX11_refuse_1 : decode cX11_refuse 1 = .ok (.iload_n 1, 1) := by decide +kernel
theorem dX11_refuse_2 : decode cX11_refuse 2 = .ok (.putfield 89, 3) := by decide +kernel
theorem dX11_refuse_5 : decode cX11_refuse 5 = .ok (.iconst (-1), 1) := by decide +kernel
theorem dX11_refuse_6 : decode cX11_refuse 6 = .ok (.ireturn, 1) := by decide +kernel
theorem dX11_settled_0 : decode cX11_settled 0 = .ok (.aload_n 0, 1) := by decide +kernel
theorem dX11_settled_1 : decode cX11_settled 1 = .ok (.getfield 85, 3) := by decide +kernel
theorem dX11_settled_4 : decode cX11_settled 4 = .ok (.ifCond .ne 38, 3) := by decide +kernel
theorem dX11_settled_7 : decode cX11_settled 7 = .ok (.aload_n 0, 1) := by decide +kernel
theorem dX11_settled_8 : decode cX11_settled 8 = .ok (.getfield 50, 3) := by decide +kernel
theorem dX11_settled_11 : decode cX11_settled 11 = .ok (.aload_n 0, 1) := by decide +kernel
theorem dX11_settled_12 : decode cX11_settled 12 = .ok (.getfield 16, 3) := by decide +kernel
theorem dX11_settled_15 : decode cX11_settled 15 = .ok (.getfield 228, 3) := by decide +kernel
theorem dX11_settled_18 : decode cX11_settled 18 = .ok (.invokevirtual 231, 3) := by decide +kernel
theorem dX11_settled_21 : decode cX11_settled 21 = .ok (.aload_n 0, 1) := by decide +kernel
theorem dX11_settled_22 : decode cX11_settled 22 = .ok (.getfield 41, 3) := by decide +kernel
theorem dX11_settled_25 : decode cX11_settled 25 = .ok (.aload_n 0, 1) := by decide +kernel
theorem dX11_settled_26 : decode cX11_settled 26 = .ok (.getfield 50, 3) := by decide +kernel
theorem dX11_settled_29 : decode cX11_settled 29 = .ok (.iconst (-1), 1) := by decide +kernel
theorem dX11_settled_30 : decode cX11_settled 30 = .ok (.sipush 1023, 3) := by decide +kernel
theorem dX11_settled_33 : decode cX11_settled 33 = .ok (.iconst (-1), 1) := by decide +kernel
theorem dX11_settled_34 : decode cX11_settled 34 = .ok (.invokevirtual 235, 3) := by decide +kernel
theorem dX11_settled_37 : decode cX11_settled 37 = .ok (.aload_n 0, 1) := by decide +kernel
theorem dX11_settled_38 : decode cX11_settled 38 = .ok (.iconst 1, 1) := by decide +kernel
theorem dX11_settled_39 : decode cX11_settled 39 = .ok (.putfield 85, 3) := by decide +kernel
theorem dX11_settled_42 : decode cX11_settled 42 = .ok (.aload_n 0, 1) := by decide +kernel
theorem dX11_settled_43 : decode cX11_settled 43 = .ok (.getfield 50, 3) := by decide +kernel
theorem dX11_settled_46 : decode cX11_settled 46 = .ok (.areturn, 1) := by decide +kernel
theorem dX12_init_0 : decode cX12_init 0 = .ok (.aload_n 0, 1) := by decide +kernel
theorem dX12_init_1 : decode cX12_init 1 = .ok (.invokespecial 3, 3) := by decide +kernel
theorem dX12_init_4 : decode cX12_init 4 = .ok (.aload_n 0, 1) := by decide +kernel
theorem dX12_init_5 : decode cX12_init 5 = .ok (.iconst 5, 1) := by decide +kernel
theorem dX12_init_6 : decode cX12_init 6 = .ok (.newarray .int, 2) := by decide +kernel
theorem dX12_init_8 : decode cX12_init 8 = .ok (.putfield 9, 3) := by decide +kernel
theorem dX12_init_11 : decode cX12_init 11 = .ok (.aload_n 0, 1) := by decide +kernel
theorem dX12_init_12 : decode cX12_init 12 = .ok (.iconst 5, 1) := by decide +kernel
theorem dX12_init_13 : decode cX12_init 13 = .ok (.newarray .int, 2) := by decide +kernel
theorem dX12_init_15 : decode cX12_init 15 = .ok (.putfield 15, 3) := by decide +kernel
theorem dX12_init_18 : decode cX12_init 18 = .ok (.aload_n 0, 1) := by decide +kernel
theorem dX12_init_19 : decode cX12_init 19 = .ok (.iconst 5, 1) := by decide +kernel
theorem dX12_init_20 : decode cX12_init 20 = .ok (.newarray .int, 2) := by decide +kernel
theorem dX12_init_22 : decode cX12_init 22 = .ok (.putfield 18, 3) := by decide +kernel
theorem dX12_init_25 : decode cX12_init 25 = .ok (.aload_n 0, 1) := by decide +kernel
theorem dX12_init_26 : decode cX12_init 26 = .ok (.iconst 5, 1) := by decide +kernel
theorem dX12_init_27 : decode cX12_init 27 = .ok (.newarray .int, 2) := by decide +kernel
theorem dX12_init_29 : decode cX12_init 29 = .ok (.putfield 21, 3) := by decide +kernel
theorem dX12_init_32 : decode cX12_init 32 = .ok (.aload_n 0, 1) := by decide +kernel
theorem dX12_init_33 : decode cX12_init 33 = .ok (.iconst 3, 1) := by decide +kernel
theorem dX12_init_34 : decode cX12_init 34 = .ok (.newarray .int, 2) := by decide +kernel
theorem dX12_init_36 : decode cX12_init 36 = .ok (.putfield 24, 3) := by decide +kernel
theorem dX12_init_39 : decode cX12_init 39 = .ok (.return_, 1) := by decide +kernel
theorem dX12_signOf_0 : decode cX12_signOf 0 = .ok (.iconst 0, 1) := by decide +kernel
theorem dX12_signOf_1 : decode cX12_signOf 1 = .ok (.istore_n 2, 1) := by decide +kernel
theorem dX12_signOf_2 : decode cX12_signOf 2 = .ok (.iload_n 2, 1) := by decide +kernel
theorem dX12_signOf_3 : decode cX12_signOf 3 = .ok (.aload_n 0, 1) := by decide +kernel
theorem dX12_signOf_4 : decode cX12_signOf 4 = .ok (.getfield 27, 3) := by decide +kernel
theorem dX12_signOf_7 : decode cX12_signOf 7 = .ok (.if_icmp .ge 19, 3) := by decide +kernel
theorem dX12_signOf_10 : decode cX12_signOf 10 = .ok (.aload_n 0, 1) := by decide +kernel
theorem dX12_signOf_11 : decode cX12_signOf 11 = .ok (.getfield 24, 3) := by decide +kernel
theorem dX12_signOf_14 : decode cX12_signOf 14 = .ok (.iload_n 2, 1) := by decide +kernel
theorem dX12_signOf_15 : decode cX12_signOf 15 = .ok (.iaload, 1) := by decide +kernel
theorem dX12_signOf_16 : decode cX12_signOf 16 = .ok (.iload_n 1, 1) := by decide +kernel
theorem dX12_signOf_17 : decode cX12_signOf 17 = .ok (.if_icmp .eq 9, 3) := by decide +kernel
theorem dX12_signOf_20 : decode cX12_signOf 20 = .ok (.iinc 2 1, 3) := by decide +kernel
theorem dX12_signOf_23 : decode cX12_signOf 23 = .ok (.goto (-21), 3) := by decide +kernel
theorem dX12_signOf_26 : decode cX12_signOf 26 = .ok (.iload_n 2, 1) := by decide +kernel
theorem dX12_signOf_27 : decode cX12_signOf 27 = .ok (.aload_n 0, 1) := by decide +kernel
theorem dX12_signOf_28 : decode cX12_signOf 28 = .ok (.getfield 27, 3) := by decide +kernel
theorem dX12_signOf_31 : decode cX12_signOf 31 = .ok (.if_icmp .ge 7, 3) := by decide +kernel
theorem dX12_signOf_34 : decode cX12_signOf 34 = .ok (.iload_n 2, 1) := by decide +kernel
theorem dX12_signOf_35 : decode cX12_signOf 35 = .ok (.goto 4, 3) := by decide +kernel
theorem dX12_signOf_38 : decode cX12_signOf 38 = .ok (.iconst (-1), 1) := by decide +kernel
theorem dX12_signOf_39 : decode cX12_signOf 39 = .ok (.ireturn, 1) := by decide +kernel
theorem dX13_init_0 : decode cX13_init 0 = .ok (.aload_n 0, 1) := by decide +kernel
theorem dX13_init_1 : decode cX13_init 1 = .ok (.aconst_null, 1) := by decide +kernel
theorem dX13_init_2 : decode cX13_init 2 = .ok (.aconst_null, 1) := by decide +kernel
theorem dX13_init_3 : decode cX13_init 3 = .ok (.iconst 0, 1) := by decide +kernel
theorem dX13_init_4 : decode cX13_init 4 = .ok (.iconst 0, 1) := by decide +kernel
theorem dX13_init_5 : decode cX13_init 5 = .ok (.invokespecial 1, 3) := by decide +kernel
theorem dX13_init_8 : decode cX13_init 8 = .ok (.return_, 1) := by decide +kernel
theorem dX14_init_0 : decode cX14_init 0 = .ok (.aload_n 0, 1) := by decide +kernel
theorem dX14_init_1 : decode cX14_init 1 = .ok (.invokespecial 1, 3) := by decide +kernel
theorem dX14_init_4 : decode cX14_init 4 = .ok (.aload_n 0, 1) := by decide +kernel
theorem dX14_init_5 : decode cX14_init 5 = .ok (.iconst (-1), 1) := by decide +kernel
theorem dX14_init_6 : decode cX14_init 6 = .ok (.putfield 9, 3) := by decide +kernel
theorem dX14_init_9 : decode cX14_init 9 = .ok (.aload_n 0, 1) := by decide +kernel
theorem dX14_init_10 : decode cX14_init 10 = .ok (.bipush 10, 2) := by decide +kernel
theorem dX14_init_12 : decode cX14_init 12 = .ok (.newarray .long, 2) := by decide +kernel
theorem dX14_init_14 : decode cX14_init 14 = .ok (.putfield 13, 3) := by decide +kernel
theorem dX14_init_17 : decode cX14_init 17 = .ok (.aload_n 0, 1) := by decide +kernel
theorem dX14_init_18 : decode cX14_init 18 = .ok (.bipush 10, 2) := by decide +kernel
theorem dX14_init_20 : decode cX14_init 20 = .ok (.newarray .long, 2) := by decide +kernel
theorem dX14_init_22 : decode cX14_init 22 = .ok (.putfield 17, 3) := by decide +kernel
theorem dX14_init_25 : decode cX14_init 25 = .ok (.aload_n 0, 1) := by decide +kernel
theorem dX14_init_26 : decode cX14_init 26 = .ok (.bipush 10, 2) := by decide +kernel
theorem dX14_init_28 : decode cX14_init 28 = .ok (.newarray .int, 2) := by decide +kernel
theorem dX14_init_30 : decode cX14_init 30 = .ok (.putfield 20, 3) := by decide +kernel
theorem dX14_init_33 : decode cX14_init 33 = .ok (.aload_n 0, 1) := by decide +kernel
theorem dX14_init_34 : decode cX14_init 34 = .ok (.bipush 10, 2) := by decide +kernel
theorem dX14_init_36 : decode cX14_init 36 = .ok (.newarray .int, 2) := by decide +kernel
theorem dX14_init_38 : decode cX14_init 38 = .ok (.putfield 24, 3) := by decide +kernel
theorem dX14_init_41 : decode cX14_init 41 = .ok (.aload_n 0, 1) := by decide +kernel
theorem dX14_init_42 : decode cX14_init 42 = .ok (.bipush 10, 2) := by decide +kernel
theorem dX14_init_44 : decode cX14_init 44 = .ok (.newarray .int, 2) := by decide +kernel
theorem dX14_init_46 : decode cX14_init 46 = .ok (.putfield 27, 3) := by decide +kernel
theorem dX14_init_49 : decode cX14_init 49 = .ok (.aload_n 0, 1) := by decide +kernel
theorem dX14_init_50 : decode cX14_init 50 = .ok (.bipush 10, 2) := by decide +kernel
theorem dX14_init_52 : decode cX14_init 52 = .ok (.newarray .int, 2) := by decide +kernel
theorem dX14_init_54 : decode cX14_init 54 = .ok (.putfield 30, 3) := by decide +kernel
theorem dX14_init_57 : decode cX14_init 57 = .ok (.aload_n 0, 1) := by decide +kernel
theorem dX14_init_58 : decode cX14_init 58 = .ok (.sipush 1000, 3) := by decide +kernel
theorem dX14_init_61 : decode cX14_init 61 = .ok (.newarray .boolean, 2) := by decide +kernel
theorem dX14_init_63 : decode cX14_init 63 = .ok (.putfield 33, 3) := by decide +kernel
theorem dX14_init_66 : decode cX14_init 66 = .ok (.aload_n 0, 1) := by decide +kernel
theorem dX14_init_67 : decode cX14_init 67 = .ok (.sipush 1000, 3) := by decide +kernel
theorem dX14_init_70 : decode cX14_init 70 = .ok (.newarray .boolean, 2) := by decide +kernel
theorem dX14_init_72 : decode cX14_init 72 = .ok (.putfield 37, 3) := by decide +kernel
theorem dX14_init_75 : decode cX14_init 75 = .ok (.aload_n 0, 1) := by decide +kernel
theorem dX14_init_76 : decode cX14_init 76 = .ok (.bipush 20, 2) := by decide +kernel
theorem dX14_init_78 : decode cX14_init 78 = .ok (.anewarray 40, 3) := by decide +kernel
theorem dX14_init_81 : decode cX14_init 81 = .ok (.putfield 42, 3) := by decide +kernel
theorem dX14_init_84 : decode cX14_init 84 = .ok (.aload_n 0, 1) := by decide +kernel
theorem dX14_init_85 : decode cX14_init 85 = .ok (.new 46, 3) := by decide +kernel
theorem dX14_init_88 : decode cX14_init 88 = .ok (.dup, 1) := by decide +kernel
theorem dX14_init_89 : decode cX14_init 89 = .ok (.invokespecial 48, 3) := by decide +kernel
theorem dX14_init_92 : decode cX14_init 92 = .ok (.putfield 49, 3) := by decide +kernel
theorem dX14_init_95 : decode cX14_init 95 = .ok (.aload_n 0, 1) := by decide +kernel
theorem dX14_init_96 : decode cX14_init 96 = .ok (.sipush 400, 3) := by decide +kernel
theorem dX14_init_99 : decode cX14_init 99 = .ok (.newarray .byte, 2) := by decide +kernel
theorem dX14_init_101 : decode cX14_init 101 = .ok (.putfield 53, 3) := by decide +kernel
theorem dX14_init_104 : decode cX14_init 104 = .ok (.aload_n 0, 1) := by decide +kernel
theorem dX14_init_105 : decode cX14_init 105 = .ok (.bipush 10, 2) := by decide +kernel
theorem dX14_init_107 : decode cX14_init 107 = .ok (.newarray .int, 2) := by decide +kernel
theorem dX14_init_109 : decode cX14_init 109 = .ok (.putfield 57, 3) := by decide +kernel
theorem dX14_init_112 : decode cX14_init 112 = .ok (.aload_n 0, 1) := by decide +kernel
theorem dX14_init_113 : decode cX14_init 113 = .ok (.bipush 10, 2) := by decide +kernel
theorem dX14_init_115 : decode cX14_init 115 = .ok (.newarray .int, 2) := by decide +kernel
end
section
theorem dX14_init_117 : decode cX14_init 117 = .ok (.putfield 60, 3) := by decide +kernel
theorem dX14_init_120 : decode cX14_init 120 = .ok (.aload_n 0, 1) := by decide +kernel
theorem dX14_init_121 : decode cX14_init 121 = .ok (.sipush 1000, 3) := by decide +kernel
theorem dX14_init_124 : decode cX14_init 124 = .ok (.newarray .int, 2) := by decide +kernel
theorem dX14_init_126 : decode cX14_init 126 = .ok (.putfield 63, 3) := by decide +kernel
theorem dX14_init_129 : decode cX14_init 129 = .ok (.aload_n 0, 1) := by decide +kernel
theorem dX14_init_130 : decode cX14_init 130 = .ok (.iconst 3, 1) := by decide +kernel
theorem dX14_init_131 : decode cX14_init 131 = .ok (.newarray .int, 2) := by decide +kernel
theorem dX14_init_133 : decode cX14_init 133 = .ok (.putfield 66, 3) := by decide +kernel
theorem dX14_init_136 : decode cX14_init 136 = .ok (.aload_n 0, 1) := by decide +kernel
theorem dX14_init_137 : decode cX14_init 137 = .ok (.iconst 4, 1) := by decide +kernel
theorem dX14_init_138 : decode cX14_init 138 = .ok (.newarray .int, 2) := by decide +kernel
theorem dX14_init_140 : decode cX14_init 140 = .ok (.putfield 69, 3) := by decide +kernel
theorem dX14_init_143 : decode cX14_init 143 = .ok (.aload_n 0, 1) := by decide +kernel
theorem dX14_init_144 : decode cX14_init 144 = .ok (.sipush 1000, 3) := by decide +kernel
theorem dX14_init_147 : decode cX14_init 147 = .ok (.newarray .boolean, 2) := by decide +kernel
theorem dX14_init_149 : decode cX14_init 149 = .ok (.putfield 72, 3) := by decide +kernel
theorem dX14_init_152 : decode cX14_init 152 = .ok (.aload_n 0, 1) := by decide +kernel
theorem dX14_init_153 : decode cX14_init 153 = .ok (.bipush 12, 2) := by decide +kernel
theorem dX14_init_155 : decode cX14_init 155 = .ok (.newarray .int, 2) := by decide +kernel
theorem dX14_init_157 : decode cX14_init 157 = .ok (.putfield 75, 3) := by decide +kernel
theorem dX14_init_160 : decode cX14_init 160 = .ok (.aload_n 0, 1) := by decide +kernel
theorem dX14_init_161 : decode cX14_init 161 = .ok (.iconst 3, 1) := by decide +kernel
theorem dX14_init_162 : decode cX14_init 162 = .ok (.newarray .int, 2) := by decide +kernel
theorem dX14_init_164 : decode cX14_init 164 = .ok (.putfield 78, 3) := by decide +kernel
theorem dX14_init_167 : decode cX14_init 167 = .ok (.aload_n 0, 1) := by decide +kernel
theorem dX14_init_168 : decode cX14_init 168 = .ok (.iconst 3, 1) := by decide +kernel
theorem dX14_init_169 : decode cX14_init 169 = .ok (.newarray .int, 2) := by decide +kernel
theorem dX14_init_171 : decode cX14_init 171 = .ok (.putfield 81, 3) := by decide +kernel
theorem dX14_init_174 : decode cX14_init 174 = .ok (.return_, 1) := by decide +kernel
theorem dX14_thrown_0 : decode cX14_thrown 0 = .ok (.aload_n 0, 1) := by decide +kernel
theorem dX14_thrown_1 : decode cX14_thrown 1 = .ok (.getfield 84, 3) := by decide +kernel
theorem dX14_thrown_4 : decode cX14_thrown 4 = .ok (.ireturn, 1) := by decide +kernel
theorem dX14_refused_0 : decode cX14_refused 0 = .ok (.aload_n 0, 1) := by decide +kernel
theorem dX14_refused_1 : decode cX14_refused 1 = .ok (.iload_n 1, 1) := by decide +kernel
theorem dX14_refused_2 : decode cX14_refused 2 = .ok (.putfield 87, 3) := by decide +kernel
theorem dX14_refused_5 : decode cX14_refused 5 = .ok (.aload_n 0, 1) := by decide +kernel
theorem dX14_refused_6 : decode cX14_refused 6 = .ok (.iconst (-1), 1) := by decide +kernel
theorem dX14_refused_7 : decode cX14_refused 7 = .ok (.putfield 9, 3) := by decide +kernel
theorem dX14_refused_10 : decode cX14_refused 10 = .ok (.iconst (-1), 1) := by decide +kernel
theorem dX14_refused_11 : decode cX14_refused 11 = .ok (.ireturn, 1) := by decide +kernel
theorem dX14_denied_0 : decode cX14_denied 0 = .ok (.aload_n 0, 1) := by decide +kernel
theorem dX14_denied_1 : decode cX14_denied 1 = .ok (.iload_n 1, 1) := by decide +kernel
theorem dX14_denied_2 : decode cX14_denied 2 = .ok (.putfield 87, 3) := by decide +kernel
theorem dX14_denied_5 : decode cX14_denied 5 = .ok (.aload_n 0, 1) := by decide +kernel
theorem dX14_denied_6 : decode cX14_denied 6 = .ok (.iconst (-1), 1) := by decide +kernel
theorem dX14_denied_7 : decode cX14_denied 7 = .ok (.putfield 9, 3) := by decide +kernel
theorem dX14_denied_10 : decode cX14_denied 10 = .ok (.iconst 0, 1) := by decide +kernel
theorem dX14_denied_11 : decode cX14_denied 11 = .ok (.ireturn, 1) := by decide +kernel
theorem dX14_done_0 : decode cX14_done 0 = .ok (.aload_n 0, 1) := by decide +kernel
theorem dX14_done_1 : decode cX14_done 1 = .ok (.iconst 0, 1) := by decide +kernel
theorem dX14_done_2 : decode cX14_done 2 = .ok (.putfield 87, 3) := by decide +kernel
theorem dX14_done_5 : decode cX14_done 5 = .ok (.aload_n 0, 1) := by decide +kernel
theorem dX14_done_6 : decode cX14_done 6 = .ok (.iconst (-1), 1) := by decide +kernel
theorem dX14_done_7 : decode cX14_done 7 = .ok (.putfield 9, 3) := by decide +kernel
theorem dX14_done_10 : decode cX14_done 10 = .ok (.iload_n 1, 1) := by decide +kernel
theorem dX14_done_11 : decode cX14_done 11 = .ok (.ireturn, 1) := by decide +kernel
theorem dX14_granted_0 : decode cX14_granted 0 = .ok (.aload_n 0, 1) := by decide +kernel
theorem dX14_granted_1 : decode cX14_granted 1 = .ok (.iconst 0, 1) := by decide +kernel
theorem dX14_granted_2 : decode cX14_granted 2 = .ok (.putfield 87, 3) := by decide +kernel
theorem dX14_granted_5 : decode cX14_granted 5 = .ok (.aload_n 0, 1) := by decide +kernel
theorem dX14_granted_6 : decode cX14_granted 6 = .ok (.iconst (-1), 1) := by decide +kernel
theorem dX14_granted_7 : decode cX14_granted 7 = .ok (.putfield 9, 3) := by decide +kernel
theorem dX14_granted_10 : decode cX14_granted 10 = .ok (.iconst 1, 1) := by decide +kernel
theorem dX14_granted_11 : decode cX14_granted 11 = .ok (.ireturn, 1) := by decide +kernel
theorem dX14_in_0 : decode cX14_in 0 = .ok (.iload_n 0, 1) := by decide +kernel
theorem dX14_in_1 : decode cX14_in 1 = .ok (.iload_n 1, 1) := by decide +kernel
theorem dX14_in_2 : decode cX14_in 2 = .ok (.if_icmp .lt 12, 3) := by decide +kernel
theorem dX14_in_5 : decode cX14_in 5 = .ok (.iload_n 0, 1) := by decide +kernel
theorem dX14_in_6 : decode cX14_in 6 = .ok (.iload_n 2, 1) := by decide +kernel
theorem dX14_in_7 : decode cX14_in 7 = .ok (.if_icmp .gt 7, 3) := by decide +kernel
theorem dX14_in_10 : decode cX14_in 10 = .ok (.iconst 1, 1) := by decide +kernel
theorem dX14_in_11 : decode cX14_in 11 = .ok (.goto 4, 3) := by decide +kernel
theorem dX14_in_14 : decode cX14_in 14 = .ok (.iconst 0, 1) := by decide +kernel
theorem dX14_in_15 : decode cX14_in 15 = .ok (.ireturn, 1) := by decide +kernel
theorem dX14_isKind_0 : decode cX14_isKind 0 = .ok (.iload_n 1, 1) := by decide +kernel
theorem dX14_isKind_1 : decode cX14_isKind 1 = .ok (.ifCond .lt 15, 3) := by decide +kernel
theorem dX14_isKind_4 : decode cX14_isKind 4 = .ok (.iload_n 1, 1) := by decide +kernel
theorem dX14_isKind_5 : decode cX14_isKind 5 = .ok (.aload_n 0, 1) := by decide +kernel
theorem dX14_isKind_6 : decode cX14_isKind 6 = .ok (.getfield 90, 3) := by decide +kernel
theorem dX14_isKind_9 : decode cX14_isKind 9 = .ok (.if_icmp .ge 7, 3) := by decide +kernel
theorem dX14_isKind_12 : decode cX14_isKind 12 = .ok (.iconst 1, 1) := by decide +kernel
theorem dX14_isKind_13 : decode cX14_isKind 13 = .ok (.goto 4, 3) := by decide +kernel
theorem dX14_isKind_16 : decode cX14_isKind 16 = .ok (.iconst 0, 1) := by decide +kernel
theorem dX14_isKind_17 : decode cX14_isKind 17 = .ok (.ireturn, 1) := by decide +kernel
theorem dX14_isRule_0 : decode cX14_isRule 0 = .ok (.iload_n 1, 1) := by decide +kernel
theorem dX14_isRule_1 : decode cX14_isRule 1 = .ok (.ifCond .lt 15, 3) := by decide +kernel
theorem dX14_isRule_4 : decode cX14_isRule 4 = .ok (.iload_n 1, 1) := by decide +kernel
theorem dX14_isRule_5 : decode cX14_isRule 5 = .ok (.aload_n 0, 1) := by decide +kernel
theorem dX14_isRule_6 : decode cX14_isRule 6 = .ok (.getfield 93, 3) := by decide +kernel
theorem dX14_isRule_9 : decode cX14_isRule 9 = .ok (.if_icmp .ge 7, 3) := by decide +kernel
theorem dX14_isRule_12 : decode cX14_isRule 12 = .ok (.iconst 1, 1) := by decide +kernel
theorem dX14_isRule_13 : decode cX14_isRule 13 = .ok (.goto 4, 3) := by decide +kernel
theorem dX14_isRule_16 : decode cX14_isRule 16 = .ok (.iconst 0, 1) := by decide +kernel
theorem dX14_isRule_17 : decode cX14_isRule 17 = .ok (.ireturn, 1) := by decide +kernel
theorem dX14_isAtom_0 : decode cX14_isAtom 0 = .ok (.iload_n 1, 1) := by decide +kernel
theorem dX14_isAtom_1 : decode cX14_isAtom 1 = .ok (.ifCond .lt 14, 3) := by decide +kernel
theorem dX14_isAtom_4 : decode cX14_isAtom 4 = .ok (.iload_n 1, 1) := by decide +kernel
theorem dX14_isAtom_5 : decode cX14_isAtom 5 = .ok (.bipush 100, 2) := by decide +kernel
theorem dX14_isAtom_7 : decode cX14_isAtom 7 = .ok (.idiv, 1) := by decide +kernel
theorem dX14_isAtom_8 : decode cX14_isAtom 8 = .ok (.aload_n 0, 1) := by decide +kernel
theorem dX14_isAtom_9 : decode cX14_isAtom 9 = .ok (.getfield 90, 3) := by decide +kernel
theorem dX14_isAtom_12 : decode cX14_isAtom 12 = .ok (.if_icmp .lt 5, 3) := by decide +kernel
theorem dX14_isAtom_15 : decode cX14_isAtom 15 = .ok (.iconst 0, 1) := by decide +kernel
theorem dX14_isAtom_16 : decode cX14_isAtom 16 = .ok (.ireturn, 1) := by decide +kernel
theorem dX14_isAtom_17 : decode cX14_isAtom 17 = .ok (.aload_n 0, 1) := by decide +kernel
theorem dX14_isAtom_18 : decode cX14_isAtom 18 = .ok (.getfield 27, 3) := by decide +kernel
theorem dX14_isAtom_21 : decode cX14_isAtom 21 = .ok (.iload_n 1, 1) := by decide +kernel
theorem dX14_isAtom_22 : decode cX14_isAtom 22 = .ok (.bipush 100, 2) := by decide +kernel
theorem dX14_isAtom_24 : decode cX14_isAtom 24 = .ok (.idiv, 1) := by decide +kernel
theorem dX14_isAtom_25 : decode cX14_isAtom 25 = .ok (.iaload, 1) := by decide +kernel
theorem dX14_isAtom_26 : decode cX14_isAtom 26 = .ok (.istore_n 2, 1) := by decide +kernel
theorem dX14_isAtom_27 : decode cX14_isAtom 27 = .ok (.iload_n 2, 1) := by decide +kernel
theorem dX14_isAtom_28 : decode cX14_isAtom 28 = .ok (.ifCond .le 20, 3) := by decide +kernel
theorem dX14_isAtom_31 : decode cX14_isAtom 31 = .ok (.iload_n 1, 1) := by decide +kernel
theorem dX14_isAtom_32 : decode cX14_isAtom 32 = .ok (.bipush 10, 2) := by decide +kernel
theorem dX14_isAtom_34 : decode cX14_isAtom 34 = .ok (.idiv, 1) := by decide +kernel
theorem dX14_isAtom_35 : decode cX14_isAtom 35 = .ok (.bipush 10, 2) := by decide +kernel
theorem dX14_isAtom_37 : decode cX14_isAtom 37 = .ok (.irem, 1) := by decide +kernel
theorem dX14_isAtom_38 : decode cX14_isAtom 38 = .ok (.aload_n 0, 1) := by decide +kernel
theorem dX14_isAtom_39 : decode cX14_isAtom 39 = .ok (.getfield 96, 3) := by decide +kernel
theorem dX14_isAtom_42 : decode cX14_isAtom 42 = .ok (.if_icmp .ge 46, 3) := by decide +kernel
theorem dX14_isAtom_45 : decode cX14_isAtom 45 = .ok (.goto 13, 3) := by decide +kernel
theorem dX14_isAtom_48 : decode cX14_isAtom 48 = .ok (.iload_n 1, 1) := by decide +kernel
theorem dX14_isAtom_49 : decode cX14_isAtom 49 = .ok (.bipush 10, 2) := by decide +kernel
theorem dX14_isAtom_51 : decode cX14_isAtom 51 = .ok (.idiv, 1) := by decide +kernel
theorem dX14_isAtom_52 : decode cX14_isAtom 52 = .ok (.bipush 10, 2) := by decide +kernel
theorem dX14_isAtom_54 : decode cX14_isAtom 54 = .ok (.irem, 1) := by decide +kernel
theorem dX14_isAtom_55 : decode cX14_isAtom 55 = .ok (.ifCond .ne 33, 3) := by decide +kernel
theorem dX14_isAtom_58 : decode cX14_isAtom 58 = .ok (.iload_n 2, 1) := by decide +kernel
theorem dX14_isAtom_59 : decode cX14_isAtom 59 = .ok (.iconst 1, 1) := by decide +kernel
theorem dX14_isAtom_60 : decode cX14_isAtom 60 = .ok (.if_icmp .le 17, 3) := by decide +kernel
theorem dX14_isAtom_63 : decode cX14_isAtom 63 = .ok (.iload_n 1, 1) := by decide +kernel
theorem dX14_isAtom_64 : decode cX14_isAtom 64 = .ok (.bipush 10, 2) := by decide +kernel
theorem dX14_isAtom_66 : decode cX14_isAtom 66 = .ok (.irem, 1) := by decide +kernel
theorem dX14_isAtom_67 : decode cX14_isAtom 67 = .ok (.aload_n 0, 1) := by decide +kernel
theorem dX14_isAtom_68 : decode cX14_isAtom 68 = .ok (.getfield 96, 3) := by decide +kernel
theorem dX14_isAtom_71 : decode cX14_isAtom 71 = .ok (.if_icmp .ge 17, 3) := by decide +kernel
theorem dX14_isAtom_74 : decode cX14_isAtom 74 = .ok (.goto 10, 3) := by decide +kernel
theorem dX14_isAtom_77 : decode cX14_isAtom 77 = .ok (.iload_n 1, 1) := by decide +kernel
theorem dX14_isAtom_78 : decode cX14_isAtom 78 = .ok (.bipush 10, 2) := by decide +kernel
theorem dX14_isAtom_80 : decode cX14_isAtom 80 = .ok (.irem, 1) := by decide +kernel
theorem dX14_isAtom_81 : decode cX14_isAtom 81 = .ok (.ifCond .ne 7, 3) := by decide +kernel
theorem dX14_isAtom_84 : decode cX14_isAtom 84 = .ok (.iconst 1, 1) := by decide +kernel
theorem dX14_isAtom_85 : decode cX14_isAtom 85 = .ok (.goto 4, 3) := by decide +kernel
theorem dX14_isAtom_88 : decode cX14_isAtom 88 = .ok (.iconst 0, 1) := by decide +kernel
theorem dX14_isAtom_89 : decode cX14_isAtom 89 = .ok (.ireturn, 1) := by decide +kernel
theorem dX14_stop_0 : decode cX14_stop 0 = .ok (.aload_n 0, 1) := by decide +kernel
theorem dX14_stop_1 : decode cX14_stop 1 = .ok (.getfield 49, 3) := by decide +kernel
theorem dX14_stop_4 : decode cX14_stop 4 = .ok (.iload_n 1, 1) := by decide +kernel
theorem dX14_stop_5 : decode cX14_stop 5 = .ok (.putfield 99, 3) := by decide +kernel
theorem dX14_stop_8 : decode cX14_stop 8 = .ok (.aload_n 0, 1) := by decide +kernel
theorem dX14_stop_9 : decode cX14_stop 9 = .ok (.getfield 49, 3) := by decide +kernel
theorem dX14_stop_12 : decode cX14_stop 12 = .ok (.iload_n 2, 1) := by decide +kernel
theorem dX14_stop_13 : decode cX14_stop 13 = .ok (.putfield 101, 3) := by decide +kernel
theorem dX14_stop_16 : decode cX14_stop 16 = .ok (.aload_n 0, 1) := by decide +kernel
theorem dX14_stop_17 : decode cX14_stop 17 = .ok (.getfield 49, 3) := by decide +kernel
theorem dX14_stop_20 : decode cX14_stop 20 = .ok (.areturn, 1) := by decide +kernel
theorem dX14_byteAt_0 : decode cX14_byteAt 0 = .ok (.iload_n 1, 1) := by decide +kernel
theorem dX14_byteAt_1 : decode cX14_byteAt 1 = .ok (.aload_n 0, 1) := by decide +kernel
theorem dX14_byteAt_2 : decode cX14_byteAt 2 = .ok (.getfield 104, 3) := by decide +kernel
theorem dX14_byteAt_5 : decode cX14_byteAt 5 = .ok (.if_icmp .ge 16, 3) := by decide +kernel
theorem dX14_byteAt_8 : decode cX14_byteAt 8 = .ok (.aload_n 0, 1) := by decide +kernel
theorem dX14_byteAt_9 : decode cX14_byteAt 9 = .ok (.getfield 53, 3) := by decide +kernel
theorem dX14_byteAt_12 : decode cX14_byteAt 12 = .ok (.iload_n 1, 1) := by decide +kernel
theorem dX14_byteAt_13 : decode cX14_byteAt 13 = .ok (.baload, 1) := by decide +kernel
theorem dX14_byteAt_14 : decode cX14_byteAt 14 = .ok (.sipush 255, 3) := by decide +kernel
theorem dX14_byteAt_17 : decode cX14_byteAt 17 = .ok (.iand, 1) := by decide +kernel
theorem dX14_byteAt_18 : decode cX14_byteAt 18 = .ok (.goto 4, 3) := by decide +kernel
theorem dX14_byteAt_21 : decode cX14_byteAt 21 = .ok (.iconst (-1), 1) := by decide +kernel
theorem dX14_byteAt_22 : decode cX14_byteAt 22 = .ok (.ireturn, 1) := by decide +kernel
theorem dX14_isLetter_0 : decode cX14_isLetter 0 = .ok (.iload_n 0, 1) := by decide +kernel
theorem dX14_isLetter_1 : decode cX14_isLetter 1 = .ok (.bipush 97, 2) := by decide +kernel
theorem dX14_isLetter_3 : decode cX14_isLetter 3 = .ok (.if_icmp .lt 13, 3) := by decide +kernel
theorem dX14_isLetter_6 : decode cX14_isLetter 6 = .ok (.iload_n 0, 1) := by decide +kernel
theorem dX14_isLetter_7 : decode cX14_isLetter 7 = .ok (.bipush 122, 2) := by decide +kernel
theorem dX14_isLetter_9 : decode cX14_isLetter 9 = .ok (.if_icmp .gt 7, 3) := by decide +kernel
theorem dX14_isLetter_12 : decode cX14_isLetter 12 = .ok (.iconst 1, 1) := by decide +kernel
theorem dX14_isLetter_13 : decode cX14_isLetter 13 = .ok (.goto 4, 3) := by decide +kernel
theorem dX14_isLetter_16 : decode cX14_isLetter 16 = .ok (.iconst 0, 1) := by decide +kernel
theorem dX14_isLetter_17 : decode cX14_isLetter 17 = .ok (.ireturn, 1) := by decide +kernel
theorem dX14_next_0 : decode cX14_next 0 = .ok (.aload_n 0, 1) := by decide +kernel
theorem dX14_next_1 : decode cX14_next 1 = .ok (.aload_n 0, 1) := by decide +kernel
theorem dX14_next_2 : decode cX14_next 2 = .ok (.getfield 107, 3) := by decide +kernel
theorem dX14_next_5 : decode cX14_next 5 = .ok (.invokevirtual 110, 3) := by decide +kernel
theorem dX14_next_8 : decode cX14_next 8 = .ok (.bipush 32, 2) := by decide +kernel
theorem dX14_next_10 : decode cX14_next 10 = .ok (.if_icmp .eq 16, 3) := by decide +kernel
theorem dX14_next_13 : decode cX14_next 13 = .ok (.aload_n 0, 1) := by decide +kernel
theorem dX14_next_14 : decode cX14_next 14 = .ok (.aload_n 0, 1) := by decide +kernel
theorem dX14_next_15 : decode cX14_next 15 = .ok (.getfield 107, 3) := by decide +kernel
theorem dX14_next_18 : decode cX14_next 18 = .ok (.invokevirtual 110, 3) := by decide +kernel
theorem dX14_next_21 : decode cX14_next 21 = .ok (.bipush 10, 2) := by decide +kernel
theorem dX14_next_23 : decode cX14_next 23 = .ok (.if_icmp .ne 16, 3) := by decide +kernel
theorem dX14_next_26 : decode cX14_next 26 = .ok (.aload_n 0, 1) := by decide +kernel
theorem dX14_next_27 : decode cX14_next 27 = .ok (.dup, 1) := by decide +kernel
theorem dX14_next_28 : decode cX14_next 28 = .ok (.getfield 107, 3) := by decide +kernel
theorem dX14_next_31 : decode cX14_next 31 = .ok (.iconst 1, 1) := by decide +kernel
theorem dX14_next_32 : decode cX14_next 32 = .ok (.iadd, 1) := by decide +kernel
theorem dX14_next_33 : decode cX14_next 33 = .ok (.putfield 107, 3) := by decide +kernel
theorem dX14_next_36 : decode cX14_next 36 = .ok (.goto (-36), 3) := by decide +kernel
theorem dX14_next_39 : decode cX14_next 39 = .ok (.aload_n 0, 1) := by decide +kernel
theorem dX14_next_40 : decode cX14_next 40 = .ok (.aload_n 0, 1) := by decide +kernel
theorem dX14_next_41 : decode cX14_next 41 = .ok (.getfield 107, 3) := by decide +kernel
theorem dX14_next_44 : decode cX14_next 44 = .ok (.putfield 114, 3) := by decide +kernel
theorem dX14_next_47 : decode cX14_next 47 = .ok (.aload_n 0, 1) := by decide +kernel
theorem dX14_next_48 : decode cX14_next 48 = .ok (.iconst 0, 1) := by decide +kernel
theorem dX14_next_49 : decode cX14_next 49 = .ok (.putfield 115, 3) := by decide +kernel
theorem dX14_next_52 : decode cX14_next 52 = .ok (.aload_n 0, 1) := by decide +kernel
theorem dX14_next_53 : decode cX14_next 53 = .ok (.iconst 0, 1) := by decide +kernel
theorem dX14_next_54 : decode cX14_next 54 = .ok (.putfield 118, 3) := by decide +kernel
theorem dX14_next_57 : decode cX14_next 57 = .ok (.aload_n 0, 1) := by decide +kernel
theorem dX14_next_58 : decode cX14_next 58 = .ok (.aload_n 0, 1) := by decide +kernel
theorem dX14_next_59 : decode cX14_next 59 = .ok (.getfield 107, 3) := by decide +kernel
theorem dX14_next_62 : decode cX14_next 62 = .ok (.invokevirtual 110, 3) := by decide +kernel
theorem dX14_next_65 : decode cX14_next 65 = .ok (.istore_n 1, 1) := by decide +kernel
theorem dX14_next_66 : decode cX14_next 66 = .ok (.iconst 0, 1) := by decide +kernel
theorem dX14_next_67 : decode cX14_next 67 = .ok (.istore_n 2, 1) := by decide +kernel
theorem dX14_next_68 : decode cX14_next 68 = .ok (.iload_n 1, 1) := by decide +kernel
theorem dX14_next_69 : decode cX14_next 69 = .ok (.iconst (-1), 1) := by decide +kernel
theorem dX14_next_70 : decode cX14_next 70 = .ok (.if_icmp .ne 11, 3) := by decide +kernel
theorem dX14_next_73 : decode cX14_next 73 = .ok (.aload_n 0, 1) := by decide +kernel
theorem dX14_next_74 : decode cX14_next 74 = .ok (.iconst 1, 1) := by decide +kernel
theorem dX14_next_75 : decode cX14_next 75 = .ok (.putfield 115, 3) := by decide +kernel
theorem dX14_next_78 : decode cX14_next 78 = .ok (.goto 188, 3) := by decide +kernel
theorem dX14_next_81 : decode cX14_next 81 = .ok (.iload_n 1, 1) := by decide +kernel
theorem dX14_next_82 : decode cX14_next 82 = .ok (.invokestatic 121, 3) := by decide +kernel
theorem dX14_next_85 : decode cX14_next 85 = .ok (.ifCond .eq 90, 3) := by decide +kernel
theorem dX14_next_88 : decode cX14_next 88 = .ok (.aload_n 0, 1) := by decide +kernel
theorem dX14_next_89 : decode cX14_next 89 = .ok (.lconst 0, 1) := by decide +kernel
theorem dX14_next_90 : decode cX14_next 90 = .ok (.putfield 125, 3) := by decide +kernel
theorem dX14_next_93 : decode cX14_next 93 = .ok (.aload_n 0, 1) := by decide +kernel
theorem dX14_next_94 : decode cX14_next 94 = .ok (.aload_n 0, 1) := by decide +kernel
theorem dX14_next_95 : decode cX14_next 95 = .ok (.getfield 107, 3) := by decide +kernel
theorem dX14_next_98 : decode cX14_next 98 = .ok (.invokevirtual 110, 3) := by decide +kernel
theorem dX14_next_101 : decode cX14_next 101 = .ok (.invokestatic 121, 3) := by decide +kernel
theorem dX14_next_104 : decode cX14_next 104 = .ok (.ifCond .eq 52, 3) := by decide +kernel
theorem dX14_next_107 : decode cX14_next 107 = .ok (.iload_n 2, 1) := by decide +kernel
theorem dX14_next_108 : decode cX14_next 108 = .ok (.bipush 8, 2) := by decide +kernel
theorem dX14_next_110 : decode cX14_next 110 = .ok (.if_icmp .ge 30, 3) := by decide +kernel
theorem dX14_next_113 : decode cX14_next 113 = .ok (.aload_n 0, 1) := by decide +kernel
theorem dX14_next_114 : decode cX14_next 114 = .ok (.ldc2_w 129, 3) := by decide +kernel
theorem dX14_next_117 : decode cX14_next 117 = .ok (.aload_n 0, 1) := by decide +kernel
theorem dX14_next_118 : decode cX14_next 118 = .ok (.getfield 125, 3) := by decide +kernel
theorem dX14_next_121 : decode cX14_next 121 = .ok (.lmul, 1) := by decide +kernel
theorem dX14_next_122 : decode cX14_next 122 = .ok (.aload_n 0, 1) := by decide +kernel
theorem dX14_next_123 : decode cX14_next 123 = .ok (.aload_n 0, 1) := by decide +kernel
theorem dX14_next_124 : decode cX14_next 124 = .ok (.getfield 107, 3) := by decide +kernel
theorem dX14_next_127 : decode cX14_next 127 = .ok (.invokevirtual 110, 3) := by decide +kernel
theorem dX14_next_130 : decode cX14_next 130 = .ok (.bipush 97, 2) := by decide +kernel
theorem dX14_next_132 : decode cX14_next 132 = .ok (.isub, 1) := by decide +kernel
theorem dX14_next_133 : decode cX14_next 133 = .ok (.iconst 1, 1) := by decide +kernel
theorem dX14_next_134 : decode cX14_next 134 = .ok (.iadd, 1) := by decide +kernel
theorem dX14_next_135 : decode cX14_next 135 = .ok (.i2l, 1) := by decide +kernel
theorem dX14_next_136 : decode cX14_next 136 = .ok (.ladd, 1) := by decide +kernel
theorem dX14_next_137 : decode cX14_next 137 = .ok (.putfield 125, 3) := by decide +kernel
theorem dX14_next_140 : decode cX14_next 140 = .ok (.iinc 2 1, 3) := by decide +kernel
theorem dX14_next_143 : decode cX14_next 143 = .ok (.aload_n 0, 1) := by decide +kernel
theorem dX14_next_144 : decode cX14_next 144 = .ok (.dup, 1) := by decide +kernel
theorem dX14_next_145 : decode cX14_next 145 = .ok (.getfield 107, 3) := by decide +kernel
theorem dX14_next_148 : decode cX14_next 148 = .ok (.iconst 1, 1) := by decide +kernel
theorem dX14_next_149 : decode cX14_next 149 = .ok (.iadd, 1) := by decide +kernel
theorem dX14_next_150 : decode cX14_next 150 = .ok (.putfield 107, 3) := by decide +kernel
theorem dX14_next_153 : decode cX14_next 153 = .ok (.goto (-60), 3) := by decide +kernel
theorem dX14_next_156 : decode cX14_next 156 = .ok (.aload_n 0, 1) := by decide +kernel
theorem dX14_next_157 : decode cX14_next 157 = .ok (.iload_n 2, 1) := by decide +kernel
theorem dX14_next_158 : decode cX14_next 158 = .ok (.putfield 131, 3) := by decide +kernel
theorem dX14_next_161 : decode cX14_next 161 = .ok (.iload_n 2, 1) := by decide +kernel
theorem dX14_next_162 : decode cX14_next 162 = .ok (.bipush 8, 2) := by decide +kernel
theorem dX14_next_164 : decode cX14_next 164 = .ok (.if_icmp .gt 102, 3) := by decide +kernel
theorem dX14_next_167 : decode cX14_next 167 = .ok (.aload_n 0, 1) := by decide +kernel
theorem dX14_next_168 : decode cX14_next 168 = .ok (.iconst 2, 1) := by decide +kernel
theorem dX14_next_169 : decode cX14_next 169 = .ok (.putfield 115, 3) := by decide +kernel
theorem dX14_next_172 : decode cX14_next 172 = .ok (.goto 94, 3) := by decide +kernel
theorem dX14_next_175 : decode cX14_next 175 = .ok (.iload_n 1, 1) := by decide +kernel
theorem dX14_next_176 : decode cX14_next 176 = .ok (.bipush 65, 2) := by decide +kernel
theorem dX14_next_178 : decode cX14_next 178 = .ok (.if_icmp .lt 32, 3) := by decide +kernel
theorem dX14_next_181 : decode cX14_next 181 = .ok (.iload_n 1, 1) := by decide +kernel
theorem dX14_next_182 : decode cX14_next 182 = .ok (.bipush 72, 2) := by decide +kernel
theorem dX14_next_184 : decode cX14_next 184 = .ok (.if_icmp .gt 26, 3) := by decide +kernel
theorem dX14_next_187 : decode cX14_next 187 = .ok (.aload_n 0, 1) := by decide +kernel
theorem dX14_next_188 : decode cX14_next 188 = .ok (.iconst 3, 1) := by decide +kernel
theorem dX14_next_189 : decode cX14_next 189 = .ok (.putfield 115, 3) := by decide +kernel
theorem dX14_next_192 : decode cX14_next 192 = .ok (.aload_n 0, 1) := by decide +kernel
theorem dX14_next_193 : decode cX14_next 193 = .ok (.iload_n 1, 1) := by decide +kernel
theorem dX14_next_194 : decode cX14_next 194 = .ok (.putfield 118, 3) := by decide +kernel
theorem dX14_next_197 : decode cX14_next 197 = .ok (.aload_n 0, 1) := by decide +kernel
theorem dX14_next_198 : decode cX14_next 198 = .ok (.dup, 1) := by decide +kernel
theorem dX14_next_199 : decode cX14_next 199 = .ok (.getfield 107, 3) := by decide +kernel
theorem dX14_next_202 : decode cX14_next 202 = .ok (.iconst 1, 1) := by decide +kernel
theorem dX14_next_203 : decode cX14_next 203 = .ok (.iadd, 1) := by decide +kernel
theorem dX14_next_204 : decode cX14_next 204 = .ok (.putfield 107, 3) := by decide +kernel
theorem dX14_next_207 : decode cX14_next 207 = .ok (.goto 59, 3) := by decide +kernel
theorem dX14_next_210 : decode cX14_next 210 = .ok (.iload_n 1, 1) := by decide +kernel
theorem dX14_next_211 : decode cX14_next 211 = .ok (.bipush 40, 2) := by decide +kernel
theorem dX14_next_213 : decode cX14_next 213 = .ok (.if_icmp .eq 33, 3) := by decide +kernel
theorem dX14_next_216 : decode cX14_next 216 = .ok (.iload_n 1, 1) := by decide +kernel
theorem dX14_next_217 : decode cX14_next 217 = .ok (.bipush 41, 2) := by decide +kernel
theorem dX14_next_219 : decode cX14_next 219 = .ok (.if_icmp .eq 27, 3) := by decide +kernel
theorem dX14_next_222 : decode cX14_next 222 = .ok (.iload_n 1, 1) := by decide +kernel
theorem dX14_next_223 : decode cX14_next 223 = .ok (.bipush 44, 2) := by decide +kernel
theorem dX14_next_225 : decode cX14_next 225 = .ok (.if_icmp .eq 21, 3) := by decide +kernel
theorem dX14_next_228 : decode cX14_next 228 = .ok (.iload_n 1, 1) := by decide +kernel
theorem dX14_next_229 : decode cX14_next 229 = .ok (.bipush 46, 2) := by decide +kernel
theorem dX14_next_231 : decode cX14_next 231 = .ok (.if_icmp .eq 15, 3) := by decide +kernel
theorem dX14_next_234 : decode cX14_next 234 = .ok (.iload_n 1, 1) := by decide +kernel
theorem dX14_next_235 : decode cX14_next 235 = .ok (.bipush 58, 2) := by decide +kernel
theorem dX14_next_237 : decode cX14_next 237 = .ok (.if_icmp .eq 9, 3) := by decide +kernel
theorem dX14_next_240 : decode cX14_next 240 = .ok (.iload_n 1, 1) := by decide +kernel
theorem dX14_next_241 : decode cX14_next 241 = .ok (.bipush 35, 2) := by decide +kernel
theorem dX14_next_243 : decode cX14_next 243 = .ok (.if_icmp .ne 23, 3) := by decide +kernel
theorem dX14_next_246 : decode cX14_next 246 = .ok (.aload_n 0, 1) := by decide +kernel
theorem dX14_next_247 : decode cX14_next 247 = .ok (.iconst 4, 1) := by decide +kernel
theorem dX14_next_248 : decode cX14_next 248 = .ok (.putfield 115, 3) := by decide +kernel
theorem dX14_next_251 : decode cX14_next 251 = .ok (.aload_n 0, 1) := by decide +kernel
theorem dX14_next_252 : decode cX14_next 252 = .ok (.iload_n 1, 1) := by decide +kernel
theorem dX14_next_253 : decode cX14_next 253 = .ok (.putfield 118, 3) := by decide +kernel
theorem dX14_next_256 : decode cX14_next 256 = .ok (.aload_n 0, 1) := by decide +kernel
theorem dX14_next_257 : decode cX14_next 257 = .ok (.dup, 1) := by decide +kernel
theorem dX14_next_258 : decode cX14_next 258 = .ok (.getfield 107, 3) := by decide +kernel
theorem dX14_next_261 : decode cX14_next 261 = .ok (.iconst 1, 1) := by decide +kernel
theorem dX14_next_262 : decode cX14_next 262 = .ok (.iadd, 1) := by decide +kernel
theorem dX14_next_263 : decode cX14_next 263 = .ok (.putfield 107, 3) := by decide +kernel
theorem dX14_next_266 : decode cX14_next 266 = .ok (.return_, 1) := by decide +kernel
theorem dX14_is_0 : decode cX14_is 0 = .ok (.aload_n 0, 1) := by decide +kernel
theorem dX14_is_1 : decode cX14_is 1 = .ok (.getfield 115, 3) := by decide +kernel
theorem dX14_is_4 : decode cX14_is 4 = .ok (.iconst 4, 1) := by decide +kernel
theorem dX14_is_5 : decode cX14_is 5 = .ok (.if_icmp .ne 15, 3) := by decide +kernel
theorem dX14_is_8 : decode cX14_is 8 = .ok (.aload_n 0, 1) := by decide +kernel
theorem dX14_is_9 : decode cX14_is 9 = .ok (.getfield 118, 3) := by decide +kernel
theorem dX14_is_12 : decode cX14_is 12 = .ok (.iload_n 1, 1) := by decide +kernel
theorem dX14_is_13 : decode cX14_is 13 = .ok (.if_icmp .ne 7, 3) := by decide +kernel
theorem dX14_is_16 : decode cX14_is 16 = .ok (.iconst 1, 1) := by decide +kernel
theorem dX14_is_17 : decode cX14_is 17 = .ok (.goto 4, 3) := by decide +kernel
theorem dX14_is_20 : decode cX14_is 20 = .ok (.iconst 0, 1) := by decide +kernel
theorem dX14_is_21 : decode cX14_is 21 = .ok (.ireturn, 1) := by decide +kernel
theorem dX14_isNot_0 : decode cX14_isNot 0 = .ok (.aload_n 0, 1) := by decide +kernel
theorem dX14_isNot_1 : decode cX14_isNot 1 = .ok (.getfield 115, 3) := by decide +kernel
theorem dX14_isNot_4 : decode cX14_isNot 4 = .ok (.iconst 2, 1) := by decide +kernel
theorem dX14_isNot_5 : decode cX14_isNot 5 = .ok (.if_icmp .ne 26, 3) := by decide +kernel
theorem dX14_isNot_8 : decode cX14_isNot 8 = .ok (.aload_n 0, 1) := by decide +kernel
theorem dX14_isNot_9 : decode cX14_isNot 9 = .ok (.getfield 131, 3) := by decide +kernel
theorem dX14_isNot_12 : decode cX14_isNot 12 = .ok (.iconst 3, 1) := by decide +kernel
theorem dX14_isNot_13 : decode cX14_isNot 13 = .ok (.if_icmp .ne 18, 3) := by decide +kernel
theorem dX14_isNot_16 : decode cX14_isNot 16 = .ok (.aload_n 0, 1) := by decide +kernel
theorem dX14_isNot_17 : decode cX14_isNot 17 = .ok (.getfield 125, 3) := by decide +kernel
theorem dX14_isNot_20 : decode cX14_isNot 20 = .ok (.ldc2_w 134, 3) := by decide +kernel
theorem dX14_isNot_23 : decode cX14_isNot 23 = .ok (.lcmp, 1) := by decide +kernel
theorem dX14_isNot_24 : decode cX14_isNot 24 = .ok (.ifCond .ne 7, 3) := by decide +kernel
theorem dX14_isNot_27 : decode cX14_isNot 27 = .ok (.iconst 1, 1) := by decide +kernel
theorem dX14_isNot_28 : decode cX14_isNot 28 = .ok (.goto 4, 3) := by decide +kernel
theorem dX14_isNot_31 : decode cX14_isNot 31 = .ok (.iconst 0, 1) := by decide +kernel
theorem dX14_isNot_32 : decode cX14_isNot 32 = .ok (.ireturn, 1) := by decide +kernel
theorem dX14_isBeforeUnlike_0 : decode cX14_isBeforeUnlike 0 = .ok (.aload_n 0, 1) := by decide +kernel
theorem dX14_isBeforeUnlike_1 : decode cX14_isBeforeUnlike 1 = .ok (.getfield 107, 3) := by decide +kernel
theorem dX14_isBeforeUnlike_4 : decode cX14_isBeforeUnlike 4 = .ok (.istore_n 1, 1) := by decide +kernel
theorem dX14_isBeforeUnlike_5 : decode cX14_isBeforeUnlike 5 = .ok (.aload_n 0, 1) := by decide +kernel
theorem dX14_isBeforeUnlike_6 : decode cX14_isBeforeUnlike 6 = .ok (.iload_n 1, 1) := by decide +kernel
theorem dX14_isBeforeUnlike_7 : decode cX14_isBeforeUnlike 7 = .ok (.invokevirtual 110, 3) := by decide +kernel
theorem dX14_isBeforeUnlike_10 : decode cX14_isBeforeUnlike 10 = .ok (.bipush 32, 2) := by decide +kernel
theorem dX14_isBeforeUnlike_12 : decode cX14_isBeforeUnlike 12 = .ok (.if_icmp .eq 13, 3) := by decide +kernel
theorem dX14_isBeforeUnlike_15 : decode cX14_isBeforeUnlike 15 = .ok (.aload_n 0, 1) := by decide +kernel
theorem dX14_isBeforeUnlike_16 : decode cX14_isBeforeUnlike 16 = .ok (.iload_n 1, 1) := by decide +kernel
theorem dX14_isBeforeUnlike_17 : decode cX14_isBeforeUnlike 17 = .ok (.invokevirtual 110, 3) := by decide +kernel
theorem dX14_isBeforeUnlike_20 : decode cX14_isBeforeUnlike 20 = .ok (.bipush 10, 2) := by decide +kernel
theorem dX14_isBeforeUnlike_22 : decode cX14_isBeforeUnlike 22 = .ok (.if_icmp .ne 9, 3) := by decide +kernel
theorem dX14_isBeforeUnlike_25 : decode cX14_isBeforeUnlike 25 = .ok (.iinc 1 1, 3) := by decide +kernel
theorem dX14_isBeforeUnlike_28 : decode cX14_isBeforeUnlike 28 = .ok (.goto (-23), 3) := by decide +kernel
theorem dX14_isBeforeUnlike_31 : decode cX14_isBeforeUnlike 31 = .ok (.aload_n 0, 1) := by decide +kernel
theorem dX14_isBeforeUnlike_32 : decode cX14_isBeforeUnlike 32 = .ok (.iload_n 1, 1) := by decide +kernel
theorem dX14_isBeforeUnlike_33 : decode cX14_isBeforeUnlike 33 = .ok (.invokevirtual 110, 3) := by decide +kernel
theorem dX14_isBeforeUnlike_36 : decode cX14_isBeforeUnlike 36 = .ok (.bipush 35, 2) := by decide +kernel
theorem dX14_isBeforeUnlike_38 : decode cX14_isBeforeUnlike 38 = .ok (.if_icmp .ne 7, 3) := by decide +kernel
theorem dX14_isBeforeUnlike_41 : decode cX14_isBeforeUnlike 41 = .ok (.iconst 1, 1) := by decide +kernel
theorem dX14_isBeforeUnlike_42 : decode cX14_isBeforeUnlike 42 = .ok (.goto 4, 3) := by decide +kernel
theorem dX14_isBeforeUnlike_45 : decode cX14_isBeforeUnlike 45 = .ok (.iconst 0, 1) := by decide +kernel
theorem dX14_isBeforeUnlike_46 : decode cX14_isBeforeUnlike 46 = .ok (.ireturn, 1) := by decide +kernel
theorem dX14_thingHere_0 : decode cX14_thingHere 0 = .ok (.iconst 0, 1) := by decide +kernel
theorem dX14_thingHere_1 : decode cX14_thingHere 1 = .ok (.istore_n 1, 1) := by decide +kernel
theorem dX14_thingHere_2 : decode cX14_thingHere 2 = .ok (.iload_n 1, 1) := by decide +kernel
theorem dX14_thingHere_3 : decode cX14_thingHere 3 = .ok (.aload_n 0, 1) := by decide +kernel
theorem dX14_thingHere_4 : decode cX14_thingHere 4 = .ok (.getfield 96, 3) := by decide +kernel
theorem dX14_thingHere_7 : decode cX14_thingHere 7 = .ok (.if_icmp .ge 23, 3) := by decide +kernel
theorem dX14_thingHere_10 : decode cX14_thingHere 10 = .ok (.aload_n 0, 1) := by decide +kernel
theorem dX14_thingHere_11 : decode cX14_thingHere 11 = .ok (.getfield 13, 3) := by decide +kernel
theorem dX14_thingHere_14 : decode cX14_thingHere 14 = .ok (.iload_n 1, 1) := by decide +kernel
theorem dX14_thingHere_15 : decode cX14_thingHere 15 = .ok (.laload, 1) := by decide +kernel
theorem dX14_thingHere_16 : decode cX14_thingHere 16 = .ok (.aload_n 0, 1) := by decide +kernel
theorem dX14_thingHere_17 : decode cX14_thingHere 17 = .ok (.getfield 125, 3) := by decide +kernel
theorem dX14_thingHere_20 : decode cX14_thingHere 20 = .ok (.lcmp, 1) := by decide +kernel
theorem dX14_thingHere_21 : decode cX14_thingHere 21 = .ok (.ifCond .eq 9, 3) := by decide +kernel
theorem dX14_thingHere_24 : decode cX14_thingHere 24 = .ok (.iinc 1 1, 3) := by decide +kernel
theorem dX14_thingHere_27 : decode cX14_thingHere 27 = .ok (.goto (-25), 3) := by decide +kernel
theorem dX14_thingHere_30 : decode cX14_thingHere 30 = .ok (.iload_n 1, 1) := by decide +kernel
theorem dX14_thingHere_31 : decode cX14_thingHere 31 = .ok (.aload_n 0, 1) := by decide +kernel
theorem dX14_thingHere_32 : decode cX14_thingHere 32 = .ok (.getfield 96, 3) := by decide +kernel
theorem dX14_thingHere_35 : decode cX14_thingHere 35 = .ok (.if_icmp .ge 5, 3) := by decide +kernel
theorem dX14_thingHere_38 : decode cX14_thingHere 38 = .ok (.iload_n 1, 1) := by decide +kernel
theorem dX14_thingHere_39 : decode cX14_thingHere 39 = .ok (.ireturn, 1) := by decide +kernel
theorem dX14_thingHere_40 : decode cX14_thingHere 40 = .ok (.aload_n 0, 1) := by decide +kernel
theorem dX14_thingHere_41 : decode cX14_thingHere 41 = .ok (.getfield 96, 3) := by decide +kernel
theorem dX14_thingHere_44 : decode cX14_thingHere 44 = .ok (.bipush 10, 2) := by decide +kernel
theorem dX14_thingHere_46 : decode cX14_thingHere 46 = .ok (.if_icmp .ne 13, 3) := by decide +kernel
theorem dX14_thingHere_49 : decode cX14_thingHere 49 = .ok (.aload_n 0, 1) := by decide +kernel
theorem dX14_thingHere_50 : decode cX14_thingHere 50 = .ok (.iconst 4, 1) := by decide +kernel
theorem dX14_thingHere_51 : decode cX14_thingHere 51 = .ok (.aload_n 0, 1) := by decide +kernel
theorem dX14_thingHere_52 : decode cX14_thingHere 52 = .ok (.getfield 114, 3) := by decide +kernel
theorem dX14_thingHere_55 : decode cX14_thingHere 55 = .ok (.invokevirtual 136, 3) := by decide +kernel
theorem dX14_thingHere_58 : decode cX14_thingHere 58 = .ok (.athrow, 1) := by decide +kernel
theorem dX14_thingHere_59 : decode cX14_thingHere 59 = .ok (.aload_n 0, 1) := by decide +kernel
theorem dX14_thingHere_60 : decode cX14_thingHere 60 = .ok (.getfield 13, 3) := by decide +kernel
theorem dX14_thingHere_63 : decode cX14_thingHere 63 = .ok (.aload_n 0, 1) := by decide +kernel
theorem dX14_thingHere_64 : decode cX14_thingHere 64 = .ok (.getfield 96, 3) := by decide +kernel
theorem dX14_thingHere_67 : decode cX14_thingHere 67 = .ok (.aload_n 0, 1) := by decide +kernel
theorem dX14_thingHere_68 : decode cX14_thingHere 68 = .ok (.getfield 125, 3) := by decide +kernel
theorem dX14_thingHere_71 : decode cX14_thingHere 71 = .ok (.lastore, 1) := by decide +kernel
theorem dX14_thingHere_72 : decode cX14_thingHere 72 = .ok (.aload_n 0, 1) := by decide +kernel
theorem dX14_thingHere_73 : decode cX14_thingHere 73 = .ok (.getfield 20, 3) := by decide +kernel
theorem dX14_thingHere_76 : decode cX14_thingHere 76 = .ok (.aload_n 0, 1) := by decide +kernel
theorem dX14_thingHere_77 : decode cX14_thingHere 77 = .ok (.getfield 96, 3) := by decide +kernel
theorem dX14_thingHere_80 : decode cX14_thingHere 80 = .ok (.aload_n 0, 1) := by decide +kernel
theorem dX14_thingHere_81 : decode cX14_thingHere 81 = .ok (.getfield 131, 3) := by decide +kernel
theorem dX14_thingHere_84 : decode cX14_thingHere 84 = .ok (.iastore, 1) := by decide +kernel
theorem dX14_thingHere_85 : decode cX14_thingHere 85 = .ok (.aload_n 0, 1) := by decide +kernel
theorem dX14_thingHere_86 : decode cX14_thingHere 86 = .ok (.dup, 1) := by decide +kernel
theorem dX14_thingHere_87 : decode cX14_thingHere 87 = .ok (.getfield 96, 3) := by decide +kernel
theorem dX14_thingHere_90 : decode cX14_thingHere 90 = .ok (.iconst 1, 1) := by decide +kernel
theorem dX14_thingHere_91 : decode cX14_thingHere 91 = .ok (.iadd, 1) := by decide +kernel
theorem dX14_thingHere_92 : decode cX14_thingHere 92 = .ok (.putfield 96, 3) := by decide +kernel
theorem dX14_thingHere_95 : decode cX14_thingHere 95 = .ok (.iload_n 1, 1) := by decide +kernel
theorem dX14_thingHere_96 : decode cX14_thingHere 96 = .ok (.ireturn, 1) := by decide +kernel
theorem dX14_readArg_0 : decode cX14_readArg 0 = .ok (.aload_n 0, 1) := by decide +kernel
theorem dX14_readArg_1 : decode cX14_readArg 1 = .ok (.getfield 115, 3) := by decide +kernel
theorem dX14_readArg_4 : decode cX14_readArg 4 = .ok (.iconst 2, 1) := by decide +kernel
theorem dX14_readArg_5 : decode cX14_readArg 5 = .ok (.if_icmp .ne 14, 3) := by decide +kernel
theorem dX14_readArg_8 : decode cX14_readArg 8 = .ok (.aload_n 0, 1) := by decide +kernel
theorem dX14_readArg_9 : decode cX14_readArg 9 = .ok (.invokevirtual 139, 3) := by decide +kernel
theorem dX14_readArg_12 : decode cX14_readArg 12 = .ok (.istore_n 2, 1) := by decide +kernel
theorem dX14_readArg_13 : decode cX14_readArg 13 = .ok (.aload_n 0, 1) := by decide +kernel
theorem dX14_readArg_14 : decode cX14_readArg 14 = .ok (.invokevirtual 143, 3) := by decide +kernel
theorem dX14_readArg_17 : decode cX14_readArg 17 = .ok (.iload_n 2, 1) := by decide +kernel
theorem dX14_readArg_18 : decode cX14_readArg 18 = .ok (.ireturn, 1) := by decide +kernel
theorem dX14_readArg_19 : decode cX14_readArg 19 = .ok (.aload_n 0, 1) := by decide +kernel
theorem dX14_readArg_20 : decode cX14_readArg 20 = .ok (.getfield 115, 3) := by decide +kernel
theorem dX14_readArg_23 : decode cX14_readArg 23 = .ok (.iconst 3, 1) := by decide +kernel
theorem dX14_readArg_24 : decode cX14_readArg 24 = .ok (.if_icmp .eq 13, 3) := by decide +kernel
theorem dX14_readArg_27 : decode cX14_readArg 27 = .ok (.aload_n 0, 1) := by decide +kernel
theorem dX14_readArg_28 : decode cX14_readArg 28 = .ok (.iconst 1, 1) := by decide +kernel
theorem dX14_readArg_29 : decode cX14_readArg 29 = .ok (.aload_n 0, 1) := by decide +kernel
theorem dX14_readArg_30 : decode cX14_readArg 30 = .ok (.getfield 114, 3) := by decide +kernel
theorem dX14_readArg_33 : decode cX14_readArg 33 = .ok (.invokevirtual 136, 3) := by decide +kernel
theorem dX14_readArg_36 : decode cX14_readArg 36 = .ok (.athrow, 1) := by decide +kernel
theorem dX14_readArg_37 : decode cX14_readArg 37 = .ok (.aload_n 0, 1) := by decide +kernel
theorem dX14_readArg_38 : decode cX14_readArg 38 = .ok (.getfield 146, 3) := by decide +kernel
theorem dX14_readArg_41 : decode cX14_readArg 41 = .ok (.aload_n 0, 1) := by decide +kernel
theorem dX14_readArg_42 : decode cX14_readArg 42 = .ok (.getfield 118, 3) := by decide +kernel
theorem dX14_readArg_45 : decode cX14_readArg 45 = .ok (.invokevirtual 150, 3) := by decide +kernel
theorem dX14_readArg_48 : decode cX14_readArg 48 = .ok (.istore_n 2, 1) := by decide +kernel
theorem dX14_readArg_49 : decode cX14_readArg 49 = .ok (.iload_n 2, 1) := by decide +kernel
theorem dX14_readArg_50 : decode cX14_readArg 50 = .ok (.iconst (-1), 1) := by decide +kernel
theorem dX14_readArg_51 : decode cX14_readArg 51 = .ok (.if_icmp .ne 58, 3) := by decide +kernel
theorem dX14_readArg_54 : decode cX14_readArg 54 = .ok (.aload_n 0, 1) := by decide +kernel
theorem dX14_readArg_55 : decode cX14_readArg 55 = .ok (.getfield 146, 3) := by decide +kernel
theorem dX14_readArg_58 : decode cX14_readArg 58 = .ok (.getfield 153, 3) := by decide +kernel
theorem dX14_readArg_61 : decode cX14_readArg 61 = .ok (.iconst 3, 1) := by decide +kernel
theorem dX14_readArg_62 : decode cX14_readArg 62 = .ok (.if_icmp .ne 13, 3) := by decide +kernel
theorem dX14_readArg_65 : decode cX14_readArg 65 = .ok (.aload_n 0, 1) := by decide +kernel
theorem dX14_readArg_66 : decode cX14_readArg 66 = .ok (.iconst 4, 1) := by decide +kernel
theorem dX14_readArg_67 : decode cX14_readArg 67 = .ok (.aload_n 0, 1) := by decide +kernel
theorem dX14_readArg_68 : decode cX14_readArg 68 = .ok (.getfield 114, 3) := by decide +kernel
theorem dX14_readArg_71 : decode cX14_readArg 71 = .ok (.invokevirtual 136, 3) := by decide +kernel
theorem dX14_readArg_74 : decode cX14_readArg 74 = .ok (.athrow, 1) := by decide +kernel
theorem dX14_readArg_75 : decode cX14_readArg 75 = .ok (.aload_n 0, 1) := by decide +kernel
theorem dX14_readArg_76 : decode cX14_readArg 76 = .ok (.getfield 146, 3) := by decide +kernel
theorem dX14_readArg_79 : decode cX14_readArg 79 = .ok (.getfield 153, 3) := by decide +kernel
theorem dX14_readArg_82 : decode cX14_readArg 82 = .ok (.istore_n 2, 1) := by decide +kernel
theorem dX14_readArg_83 : decode cX14_readArg 83 = .ok (.aload_n 0, 1) := by decide +kernel
theorem dX14_readArg_84 : decode cX14_readArg 84 = .ok (.getfield 146, 3) := by decide +kernel
theorem dX14_readArg_87 : decode cX14_readArg 87 = .ok (.getfield 156, 3) := by decide +kernel
theorem dX14_readArg_90 : decode cX14_readArg 90 = .ok (.iload_n 2, 1) := by decide +kernel
theorem dX14_readArg_91 : decode cX14_readArg 91 = .ok (.aload_n 0, 1) := by decide +kernel
theorem dX14_readArg_92 : decode cX14_readArg 92 = .ok (.getfield 118, 3) := by decide +kernel
theorem dX14_readArg_95 : decode cX14_readArg 95 = .ok (.iastore, 1) := by decide +kernel
theorem dX14_readArg_96 : decode cX14_readArg 96 = .ok (.aload_n 0, 1) := by decide +kernel
theorem dX14_readArg_97 : decode cX14_readArg 97 = .ok (.getfield 146, 3) := by decide +kernel
theorem dX14_readArg_100 : decode cX14_readArg 100 = .ok (.dup, 1) := by decide +kernel
theorem dX14_readArg_101 : decode cX14_readArg 101 = .ok (.getfield 153, 3) := by decide +kernel
theorem dX14_readArg_104 : decode cX14_readArg 104 = .ok (.iconst 1, 1) := by decide +kernel
theorem dX14_readArg_105 : decode cX14_readArg 105 = .ok (.iadd, 1) := by decide +kernel
theorem dX14_readArg_106 : decode cX14_readArg 106 = .ok (.putfield 153, 3) := by decide +kernel
theorem dX14_readArg_109 : decode cX14_readArg 109 = .ok (.iload_n 1, 1) := by decide +kernel
theorem dX14_readArg_110 : decode cX14_readArg 110 = .ok (.ifCond .eq 18, 3) := by decide +kernel
theorem dX14_readArg_113 : decode cX14_readArg 113 = .ok (.aload_n 0, 1) := by decide +kernel
theorem dX14_readArg_114 : decode cX14_readArg 114 = .ok (.dup, 1) := by decide +kernel
theorem dX14_readArg_115 : decode cX14_readArg 115 = .ok (.getfield 159, 3) := by decide +kernel
theorem dX14_readArg_118 : decode cX14_readArg 118 = .ok (.iconst 1, 1) := by decide +kernel
theorem dX14_readArg_119 : decode cX14_readArg 119 = .ok (.iload_n 2, 1) := by decide +kernel
theorem dX14_readArg_120 : decode cX14_readArg 120 = .ok (.ishl, 1) := by decide +kernel
theorem dX14_readArg_121 : decode cX14_readArg 121 = .ok (.ior, 1) := by decide +kernel
theorem dX14_readArg_122 : decode cX14_readArg 122 = .ok (.putfield 159, 3) := by decide +kernel
theorem dX14_readArg_125 : decode cX14_readArg 125 = .ok (.goto 36, 3) := by decide +kernel
theorem dX14_readArg_128 : decode cX14_readArg 128 = .ok (.aload_n 0, 1) := by decide +kernel
theorem dX14_readArg_129 : decode cX14_readArg 129 = .ok (.getfield 57, 3) := by decide +kernel
theorem dX14_readArg_132 : decode cX14_readArg 132 = .ok (.aload_n 0, 1) := by decide +kernel
theorem dX14_readArg_133 : decode cX14_readArg 133 = .ok (.getfield 162, 3) := by decide +kernel
theorem dX14_readArg_136 : decode cX14_readArg 136 = .ok (.aload_n 0, 1) := by decide +kernel
theorem dX14_readArg_137 : decode cX14_readArg 137 = .ok (.getfield 114, 3) := by decide +kernel
theorem dX14_readArg_140 : decode cX14_readArg 140 = .ok (.iastore, 1) := by decide +kernel
theorem dX14_readArg_141 : decode cX14_readArg 141 = .ok (.aload_n 0, 1) := by decide +kernel
theorem dX14_readArg_142 : decode cX14_readArg 142 = .ok (.getfield 60, 3) := by decide +kernel
theorem dX14_readArg_145 : decode cX14_readArg 145 = .ok (.aload_n 0, 1) := by decide +kernel
theorem dX14_readArg_146 : decode cX14_readArg 146 = .ok (.getfield 162, 3) := by decide +kernel
theorem dX14_readArg_149 : decode cX14_readArg 149 = .ok (.iload_n 2, 1) := by decide +kernel
theorem dX14_readArg_150 : decode cX14_readArg 150 = .ok (.iastore, 1) := by decide +kernel
theorem dX14_readArg_151 : decode cX14_readArg 151 = .ok (.aload_n 0, 1) := by decide +kernel
theorem dX14_readArg_152 : decode cX14_readArg 152 = .ok (.dup, 1) := by decide +kernel
theorem dX14_readArg_153 : decode cX14_readArg 153 = .ok (.getfield 162, 3) := by decide +kernel
theorem dX14_readArg_156 : decode cX14_readArg 156 = .ok (.iconst 1, 1) := by decide +kernel
theorem dX14_readArg_157 : decode cX14_readArg 157 = .ok (.iadd, 1) := by decide +kernel
theorem dX14_readArg_158 : decode cX14_readArg 158 = .ok (.putfield 162, 3) := by decide +kernel
theorem dX14_readArg_161 : decode cX14_readArg 161 = .ok (.aload_n 0, 1) := by decide +kernel
theorem dX14_readArg_162 : decode cX14_readArg 162 = .ok (.invokevirtual 143, 3) := by decide +kernel
theorem dX14_readArg_165 : decode cX14_readArg 165 = .ok (.bipush 100, 2) := by decide +kernel
theorem dX14_readArg_167 : decode cX14_readArg 167 = .ok (.iload_n 2, 1) := by decide +kernel
theorem dX14_readArg_168 : decode cX14_readArg 168 = .ok (.iadd, 1) := by decide +kernel
theorem dX14_readArg_169 : decode cX14_readArg 169 = .ok (.ireturn, 1) := by decide +kernel
theorem dX14_readAtom_0 : decode cX14_readAtom 0 = .ok (.aload_n 0, 1) := by decide +kernel
theorem dX14_readAtom_1 : decode cX14_readAtom 1 = .ok (.getfield 115, 3) := by decide +kernel
theorem dX14_readAtom_4 : decode cX14_readAtom 4 = .ok (.iconst 2, 1) := by decide +kernel
theorem dX14_readAtom_5 : decode cX14_readAtom 5 = .ok (.if_icmp .ne 10, 3) := by decide +kernel
theorem dX14_readAtom_8 : decode cX14_readAtom 8 = .ok (.aload_n 0, 1) := by decide +kernel
theorem dX14_readAtom_9 : decode cX14_readAtom 9 = .ok (.invokevirtual 165, 3) := by decide +kernel
theorem dX14_readAtom_12 : decode cX14_readAtom 12 = .ok (.ifCond .eq 13, 3) := by decide +kernel
theorem dX14_readAtom_15 : decode cX14_readAtom 15 = .ok (.aload_n 0, 1) := by decide +kernel
theorem dX14_readAtom_16 : decode cX14_readAtom 16 = .ok (.iconst 1, 1) := by decide +kernel
theorem dX14_readAtom_17 : decode cX14_readAtom 17 = .ok (.aload_n 0, 1) := by decide +kernel
theorem dX14_readAtom_18 : decode cX14_readAtom 18 = .ok (.getfield 114, 3) := by decide +kernel
theorem dX14_readAtom_21 : decode cX14_readAtom 21 = .ok (.invokevirtual 136, 3) := by decide +kernel
theorem dX14_readAtom_24 : decode cX14_readAtom 24 = .ok (.athrow, 1) := by decide +kernel
theorem dX14_readAtom_25 : decode cX14_readAtom 25 = .ok (.aload_n 0, 1) := by decide +kernel
theorem dX14_readAtom_26 : decode cX14_readAtom 26 = .ok (.getfield 114, 3) := by decide +kernel
theorem dX14_readAtom_29 : decode cX14_readAtom 29 = .ok (.istore_n 3, 1) := by decide +kernel
theorem dX14_readAtom_30 : decode cX14_readAtom 30 = .ok (.iconst 0, 1) := by decide +kernel
theorem dX14_readAtom_31 : decode cX14_readAtom 31 = .ok (.istore 4, 2) := by decide +kernel
theorem dX14_readAtom_33 : decode cX14_readAtom 33 = .ok (.iload 4, 2) := by decide +kernel
theorem dX14_readAtom_35 : decode cX14_readAtom 35 = .ok (.aload_n 0, 1) := by decide +kernel
theorem dX14_readAtom_36 : decode cX14_readAtom 36 = .ok (.getfield 90, 3) := by decide +kernel
theorem dX14_readAtom_39 : decode cX14_readAtom 39 = .ok (.if_icmp .ge 24, 3) := by decide +kernel
theorem dX14_readAtom_42 : decode cX14_readAtom 42 = .ok (.aload_n 0, 1) := by decide +kernel
theorem dX14_readAtom_43 : decode cX14_readAtom 43 = .ok (.getfield 17, 3) := by decide +kernel
theorem dX14_readAtom_46 : decode cX14_readAtom 46 = .ok (.iload 4, 2) := by decide +kernel
theorem dX14_readAtom_48 : decode cX14_readAtom 48 = .ok (.laload, 1) := by decide +kernel
theorem dX14_readAtom_49 : decode cX14_readAtom 49 = .ok (.aload_n 0, 1) := by decide +kernel
theorem dX14_readAtom_50 : decode cX14_readAtom 50 = .ok (.getfield 125, 3) := by decide +kernel
theorem dX14_readAtom_53 : decode cX14_readAtom 53 = .ok (.lcmp, 1) := by decide +kernel
theorem dX14_readAtom_54 : decode cX14_readAtom 54 = .ok (.ifCond .eq 9, 3) := by decide +kernel
theorem dX14_readAtom_57 : decode cX14_readAtom 57 = .ok (.iinc 4 1, 3) := by decide +kernel
theorem dX14_readAtom_60 : decode cX14_readAtom 60 = .ok (.goto (-27), 3) := by decide +kernel
theorem dX14_readAtom_63 : decode cX14_readAtom 63 = .ok (.iload 4, 2) := by decide +kernel
theorem dX14_readAtom_65 : decode cX14_readAtom 65 = .ok (.aload_n 0, 1) := by decide +kernel
theorem dX14_readAtom_66 : decode cX14_readAtom 66 = .ok (.getfield 90, 3) := by decide +kernel
theorem dX14_readAtom_69 : decode cX14_readAtom 69 = .ok (.if_icmp .ne 7, 3) := by decide +kernel
theorem dX14_readAtom_72 : decode cX14_readAtom 72 = .ok (.iconst 1, 1) := by decide +kernel
theorem dX14_readAtom_73 : decode cX14_readAtom 73 = .ok (.goto 4, 3) := by decide +kernel
theorem dX14_readAtom_76 : decode cX14_readAtom 76 = .ok (.iconst 0, 1) := by decide +kernel
theorem dX14_readAtom_77 : decode cX14_readAtom 77 = .ok (.istore 5, 2) := by decide +kernel
theorem dX14_readAtom_79 : decode cX14_readAtom 79 = .ok (.iload 5, 2) := by decide +kernel
theorem dX14_readAtom_81 : decode cX14_readAtom 81 = .ok (.ifCond .eq 58, 3) := by decide +kernel
theorem dX14_readAtom_84 : decode cX14_readAtom 84 = .ok (.aload_n 0, 1) := by decide +kernel
theorem dX14_readAtom_85 : decode cX14_readAtom 85 = .ok (.getfield 90, 3) := by decide +kernel
theorem dX14_readAtom_88 : decode cX14_readAtom 88 = .ok (.bipush 10, 2) := by decide +kernel
theorem dX14_readAtom_90 : decode cX14_readAtom 90 = .ok (.if_icmp .ne 13, 3) := by decide +kernel
theorem dX14_readAtom_93 : decode cX14_readAtom 93 = .ok (.aload_n 0, 1) := by decide +kernel
theorem dX14_readAtom_94 : decode cX14_readAtom 94 = .ok (.iconst 4, 1) := by decide +kernel
theorem dX14_readAtom_95 : decode cX14_readAtom 95 = .ok (.aload_n 0, 1) := by decide +kernel
theorem dX14_readAtom_96 : decode cX14_readAtom 96 = .ok (.getfield 114, 3) := by decide +kernel
theorem dX14_readAtom_99 : decode cX14_readAtom 99 = .ok (.invokevirtual 136, 3) := by decide +kernel
theorem dX14_readAtom_102 : decode cX14_readAtom 102 = .ok (.athrow, 1) := by decide +kernel
theorem dX14_readAtom_103 : decode cX14_readAtom 103 = .ok (.aload_n 0, 1) := by decide +kernel
theorem dX14_readAtom_104 : decode cX14_readAtom 104 = .ok (.getfield 17, 3) := by decide +kernel
theorem dX14_readAtom_107 : decode cX14_readAtom 107 = .ok (.aload_n 0, 1) := by decide +kernel
theorem dX14_readAtom_108 : decode cX14_readAtom 108 = .ok (.getfield 90, 3) := by decide +kernel
theorem dX14_readAtom_111 : decode cX14_readAtom 111 = .ok (.aload_n 0, 1) := by decide +kernel
theorem dX14_readAtom_112 : decode cX14_readAtom 112 = .ok (.getfield 125, 3) := by decide +kernel
theorem dX14_readAtom_115 : decode cX14_readAtom 115 = .ok (.lastore, 1) := by decide +kernel
theorem dX14_readAtom_116 : decode cX14_readAtom 116 = .ok (.aload_n 0, 1) := by decide +kernel
theorem dX14_readAtom_117 : decode cX14_readAtom 117 = .ok (.getfield 24, 3) := by decide +kernel
theorem dX14_readAtom_120 : decode cX14_readAtom 120 = .ok (.aload_n 0, 1) := by decide +kernel
theorem dX14_readAtom_121 : decode cX14_readAtom 121 = .ok (.getfield 90, 3) := by decide +kernel
theorem dX14_readAtom_124 : decode cX14_readAtom 124 = .ok (.aload_n 0, 1) := by decide +kernel
theorem dX14_readAtom_125 : decode cX14_readAtom 125 = .ok (.getfield 131, 3) := by decide +kernel
theorem dX14_readAtom_128 : decode cX14_readAtom 128 = .ok (.iastore, 1) := by decide +kernel
theorem dX14_readAtom_129 : decode cX14_readAtom 129 = .ok (.aload_n 0, 1) := by decide +kernel
theorem dX14_readAtom_130 : decode cX14_readAtom 130 = .ok (.dup, 1) := by decide +kernel
theorem dX14_readAtom_131 : decode cX14_readAtom 131 = .ok (.getfield 90, 3) := by decide +kernel
theorem dX14_readAtom_134 : decode cX14_readAtom 134 = .ok (.iconst 1, 1) := by decide +kernel
theorem dX14_readAtom_135 : decode cX14_readAtom 135 = .ok (.iadd, 1) := by decide +kernel
theorem dX14_readAtom_136 : decode cX14_readAtom 136 = .ok (.putfield 90, 3) := by decide +kernel
theorem dX14_readAtom_139 : decode cX14_readAtom 139 = .ok (.aload_n 0, 1) := by decide +kernel
theorem dX14_readAtom_140 : decode cX14_readAtom 140 = .ok (.invokevirtual 143, 3) := by decide +kernel
theorem dX14_readAtom_143 : decode cX14_readAtom 143 = .ok (.aload_n 0, 1) := by decide +kernel
theorem dX14_readAtom_144 : decode cX14_readAtom 144 = .ok (.getfield 146, 3) := by decide +kernel
theorem dX14_readAtom_147 : decode cX14_readAtom 147 = .ok (.getfield 169, 3) := by decide +kernel
theorem dX14_readAtom_150 : decode cX14_readAtom 150 = .ok (.iload_n 1, 1) := by decide +kernel
theorem dX14_readAtom_151 : decode cX14_readAtom 151 = .ok (.iload_n 2, 1) := by decide +kernel
theorem dX14_readAtom_152 : decode cX14_readAtom 152 = .ok (.iastore, 1) := by decide +kernel
theorem dX14_readAtom_153 : decode cX14_readAtom 153 = .ok (.aload_n 0, 1) := by decide +kernel
theorem dX14_readAtom_154 : decode cX14_readAtom 154 = .ok (.getfield 146, 3) := by decide +kernel
theorem dX14_readAtom_157 : decode cX14_readAtom 157 = .ok (.getfield 171, 3) := by decide +kernel
theorem dX14_readAtom_160 : decode cX14_readAtom 160 = .ok (.iload_n 1, 1) := by decide +kernel
theorem dX14_readAtom_161 : decode cX14_readAtom 161 = .ok (.iload 4, 2) := by decide +kernel
theorem dX14_readAtom_163 : decode cX14_readAtom 163 = .ok (.iastore, 1) := by decide +kernel
theorem dX14_readAtom_164 : decode cX14_readAtom 164 = .ok (.aload_n 0, 1) := by decide +kernel
theorem dX14_readAtom_165 : decode cX14_readAtom 165 = .ok (.getfield 146, 3) := by decide +kernel
theorem dX14_readAtom_168 : decode cX14_readAtom 168 = .ok (.getfield 173, 3) := by decide +kernel
theorem dX14_readAtom_171 : decode cX14_readAtom 171 = .ok (.iload_n 1, 1) := by decide +kernel
theorem dX14_readAtom_172 : decode cX14_readAtom 172 = .ok (.iconst (-1), 1) := by decide +kernel
theorem dX14_readAtom_173 : decode cX14_readAtom 173 = .ok (.iastore, 1) := by decide +kernel
theorem dX14_readAtom_174 : decode cX14_readAtom 174 = .ok (.aload_n 0, 1) := by decide +kernel
theorem dX14_readAtom_175 : decode cX14_readAtom 175 = .ok (.getfield 146, 3) := by decide +kernel
theorem dX14_readAtom_178 : decode cX14_readAtom 178 = .ok (.getfield 176, 3) := by decide +kernel
theorem dX14_readAtom_181 : decode cX14_readAtom 181 = .ok (.iload_n 1, 1) := by decide +kernel
theorem dX14_readAtom_182 : decode cX14_readAtom 182 = .ok (.iconst (-1), 1) := by decide +kernel
theorem dX14_readAtom_183 : decode cX14_readAtom 183 = .ok (.iastore, 1) := by decide +kernel
theorem dX14_readAtom_184 : decode cX14_readAtom 184 = .ok (.iconst 0, 1) := by decide +kernel
theorem dX14_readAtom_185 : decode cX14_readAtom 185 = .ok (.istore 6, 2) := by decide +kernel
theorem dX14_readAtom_187 : decode cX14_readAtom 187 = .ok (.aload_n 0, 1) := by decide +kernel
theorem dX14_readAtom_188 : decode cX14_readAtom 188 = .ok (.bipush 40, 2) := by decide +kernel
theorem dX14_readAtom_190 : decode cX14_readAtom 190 = .ok (.invokevirtual 179, 3) := by decide +kernel
theorem dX14_readAtom_193 : decode cX14_readAtom 193 = .ok (.ifCond .eq 101, 3) := by decide +kernel
theorem dX14_readAtom_196 : decode cX14_readAtom 196 = .ok (.aload_n 0, 1) := by decide +kernel
theorem dX14_readAtom_197 : decode cX14_readAtom 197 = .ok (.invokevirtual 143, 3) := by decide +kernel
theorem dX14_readAtom_200 : decode cX14_readAtom 200 = .ok (.aload_n 0, 1) := by decide +kernel
theorem dX14_readAtom_201 : decode cX14_readAtom 201 = .ok (.getfield 146, 3) := by decide +kernel
theorem dX14_readAtom_204 : decode cX14_readAtom 204 = .ok (.getfield 173, 3) := by decide +kernel
theorem dX14_readAtom_207 : decode cX14_readAtom 207 = .ok (.iload_n 1, 1) := by decide +kernel
theorem dX14_readAtom_208 : decode cX14_readAtom 208 = .ok (.aload_n 0, 1) := by decide +kernel
theorem dX14_readAtom_209 : decode cX14_readAtom 209 = .ok (.iload_n 1, 1) := by decide +kernel
theorem dX14_readAtom_210 : decode cX14_readAtom 210 = .ok (.ifCond .le 11, 3) := by decide +kernel
theorem dX14_readAtom_213 : decode cX14_readAtom 213 = .ok (.iload_n 2, 1) := by decide +kernel
theorem dX14_readAtom_214 : decode cX14_readAtom 214 = .ok (.ifCond .ne 7, 3) := by decide +kernel
theorem dX14_readAtom_217 : decode cX14_readAtom 217 = .ok (.iconst 1, 1) := by decide +kernel
theorem dX14_readAtom_218 : decode cX14_readAtom 218 = .ok (.goto 4, 3) := by decide +kernel
theorem dX14_readAtom_221 : decode cX14_readAtom 221 = .ok (.iconst 0, 1) := by decide +kernel
theorem dX14_readAtom_222 : decode cX14_readAtom 222 = .ok (.invokevirtual 182, 3) := by decide +kernel
theorem dX14_readAtom_225 : decode cX14_readAtom 225 = .ok (.iastore, 1) := by decide +kernel
theorem dX14_readAtom_226 : decode cX14_readAtom 226 = .ok (.iconst 1, 1) := by decide +kernel
theorem dX14_readAtom_227 : decode cX14_readAtom 227 = .ok (.istore 6, 2) := by decide +kernel
theorem dX14_readAtom_229 : decode cX14_readAtom 229 = .ok (.aload_n 0, 1) := by decide +kernel
theorem dX14_readAtom_230 : decode cX14_readAtom 230 = .ok (.bipush 44, 2) := by decide +kernel
theorem dX14_readAtom_232 : decode cX14_readAtom 232 = .ok (.invokevirtual 179, 3) := by decide +kernel
theorem dX14_readAtom_235 : decode cX14_readAtom 235 = .ok (.ifCond .eq 36, 3) := by decide +kernel
theorem dX14_readAtom_238 : decode cX14_readAtom 238 = .ok (.aload_n 0, 1) := by decide +kernel
theorem dX14_readAtom_239 : decode cX14_readAtom 239 = .ok (.invokevirtual 143, 3) := by decide +kernel
theorem dX14_readAtom_242 : decode cX14_readAtom 242 = .ok (.aload_n 0, 1) := by decide +kernel
theorem dX14_readAtom_243 : decode cX14_readAtom 243 = .ok (.getfield 146, 3) := by decide +kernel
theorem dX14_readAtom_246 : decode cX14_readAtom 246 = .ok (.getfield 176, 3) := by decide +kernel
theorem dX14_readAtom_249 : decode cX14_readAtom 249 = .ok (.iload_n 1, 1) := by decide +kernel
theorem dX14_readAtom_250 : decode cX14_readAtom 250 = .ok (.aload_n 0, 1) := by decide +kernel
theorem dX14_readAtom_251 : decode cX14_readAtom 251 = .ok (.iload_n 1, 1) := by decide +kernel
theorem dX14_readAtom_252 : decode cX14_readAtom 252 = .ok (.ifCond .le 11, 3) := by decide +kernel
theorem dX14_readAtom_255 : decode cX14_readAtom 255 = .ok (.iload_n 2, 1) := by decide +kernel
theorem dX14_readAtom_256 : decode cX14_readAtom 256 = .ok (.ifCond .ne 7, 3) := by decide +kernel
theorem dX14_readAtom_259 : decode cX14_readAtom 259 = .ok (.iconst 1, 1) := by decide +kernel
theorem dX14_readAtom_260 : decode cX14_readAtom 260 = .ok (.goto 4, 3) := by decide +kernel
theorem dX14_readAtom_263 : decode cX14_readAtom 263 = .ok (.iconst 0, 1) := by decide +kernel
theorem dX14_readAtom_264 : decode cX14_readAtom 264 = .ok (.invokevirtual 182, 3) := by decide +kernel
theorem dX14_readAtom_267 : decode cX14_readAtom 267 = .ok (.iastore, 1) := by decide +kernel
theorem dX14_readAtom_268 : decode cX14_readAtom 268 = .ok (.iconst 2, 1) := by decide +kernel
theorem dX14_readAtom_269 : decode cX14_readAtom 269 = .ok (.istore 6, 2) := by decide +kernel
theorem dX14_readAtom_271 : decode cX14_readAtom 271 = .ok (.aload_n 0, 1) := by decide +kernel
theorem dX14_readAtom_272 : decode cX14_readAtom 272 = .ok (.bipush 41, 2) := by decide +kernel
theorem dX14_readAtom_274 : decode cX14_readAtom 274 = .ok (.invokevirtual 179, 3) := by decide +kernel
theorem dX14_readAtom_277 : decode cX14_readAtom 277 = .ok (.ifCond .ne 13, 3) := by decide +kernel
theorem dX14_readAtom_280 : decode cX14_readAtom 280 = .ok (.aload_n 0, 1) := by decide +kernel
theorem dX14_readAtom_281 : decode cX14_readAtom 281 = .ok (.iconst 1, 1) := by decide +kernel
theorem dX14_readAtom_282 : decode cX14_readAtom 282 = .ok (.aload_n 0, 1) := by decide +kernel
theorem dX14_readAtom_283 : decode cX14_readAtom 283 = .ok (.getfield 114, 3) := by decide +kernel
theorem dX14_readAtom_286 : decode cX14_readAtom 286 = .ok (.invokevirtual 136, 3) := by decide +kernel
theorem dX14_readAtom_289 : decode cX14_readAtom 289 = .ok (.athrow, 1) := by decide +kernel
theorem dX14_readAtom_290 : decode cX14_readAtom 290 = .ok (.aload_n 0, 1) := by decide +kernel
theorem dX14_readAtom_291 : decode cX14_readAtom 291 = .ok (.invokevirtual 143, 3) := by decide +kernel
theorem dX14_readAtom_294 : decode cX14_readAtom 294 = .ok (.iload 5, 2) := by decide +kernel
theorem dX14_readAtom_296 : decode cX14_readAtom 296 = .ok (.ifCond .eq 12, 3) := by decide +kernel
theorem dX14_readAtom_299 : decode cX14_readAtom 299 = .ok (.aload_n 0, 1) := by decide +kernel
theorem dX14_readAtom_300 : decode cX14_readAtom 300 = .ok (.getfield 27, 3) := by decide +kernel
theorem dX14_readAtom_303 : decode cX14_readAtom 303 = .ok (.iload 4, 2) := by decide +kernel
theorem dX14_readAtom_305 : decode cX14_readAtom 305 = .ok (.iload 6, 2) := by decide +kernel
theorem dX14_readAtom_307 : decode cX14_readAtom 307 = .ok (.iastore, 1) := by decide +kernel
theorem dX14_readAtom_308 : decode cX14_readAtom 308 = .ok (.aload_n 0, 1) := by decide +kernel
theorem dX14_readAtom_309 : decode cX14_readAtom 309 = .ok (.getfield 27, 3) := by decide +kernel
theorem dX14_readAtom_312 : decode cX14_readAtom 312 = .ok (.iload 4, 2) := by decide +kernel
theorem dX14_readAtom_314 : decode cX14_readAtom 314 = .ok (.iaload, 1) := by decide +kernel
theorem dX14_readAtom_315 : decode cX14_readAtom 315 = .ok (.iload 6, 2) := by decide +kernel
theorem dX14_readAtom_317 : decode cX14_readAtom 317 = .ok (.if_icmp .eq 10, 3) := by decide +kernel
theorem dX14_readAtom_320 : decode cX14_readAtom 320 = .ok (.aload_n 0, 1) := by decide +kernel
theorem dX14_readAtom_321 : decode cX14_readAtom 321 = .ok (.iconst 2, 1) := by decide +kernel
theorem dX14_readAtom_322 : decode cX14_readAtom 322 = .ok (.iload_n 3, 1) := by decide +kernel
theorem dX14_readAtom_323 : decode cX14_readAtom 323 = .ok (.invokevirtual 136, 3) := by decide +kernel
theorem dX14_readAtom_326 : decode cX14_readAtom 326 = .ok (.athrow, 1) := by decide +kernel
theorem dX14_readAtom_327 : decode cX14_readAtom 327 = .ok (.return_, 1) := by decide +kernel
theorem dX14_readClause_0 : decode cX14_readClause 0 = .ok (.aload_n 0, 1) := by decide +kernel
theorem dX14_readClause_1 : decode cX14_readClause 1 = .ok (.new 40, 3) := by decide +kernel
theorem dX14_readClause_4 : decode cX14_readClause 4 = .ok (.dup, 1) := by decide +kernel
theorem dX14_readClause_5 : decode cX14_readClause 5 = .ok (.invokespecial 186, 3) := by decide +kernel
theorem dX14_readClause_8 : decode cX14_readClause 8 = .ok (.putfield 146, 3) := by decide +kernel
theorem dX14_readClause_11 : decode cX14_readClause 11 = .ok (.aload_n 0, 1) := by decide +kernel
theorem dX14_readClause_12 : decode cX14_readClause 12 = .ok (.getfield 146, 3) := by decide +kernel
theorem dX14_readClause_15 : decode cX14_readClause 15 = .ok (.aload_n 0, 1) := by decide +kernel
theorem dX14_readClause_16 : decode cX14_readClause 16 = .ok (.getfield 114, 3) := by decide +kernel
theorem dX14_readClause_19 : decode cX14_readClause 19 = .ok (.putfield 187, 3) := by decide +kernel
theorem dX14_readClause_22 : decode cX14_readClause 22 = .ok (.aload_n 0, 1) := by decide +kernel
theorem dX14_readClause_23 : decode cX14_readClause 23 = .ok (.iconst 0, 1) := by decide +kernel
theorem dX14_readClause_24 : decode cX14_readClause 24 = .ok (.putfield 162, 3) := by decide +kernel
theorem dX14_readClause_27 : decode cX14_readClause 27 = .ok (.aload_n 0, 1) := by decide +kernel
theorem dX14_readClause_28 : decode cX14_readClause 28 = .ok (.iconst 0, 1) := by decide +kernel
theorem dX14_readClause_29 : decode cX14_readClause 29 = .ok (.putfield 159, 3) := by decide +kernel
theorem dX14_readClause_32 : decode cX14_readClause 32 = .ok (.aload_n 0, 1) := by decide +kernel
theorem dX14_readClause_33 : decode cX14_readClause 33 = .ok (.iconst 0, 1) := by decide +kernel
theorem dX14_readClause_34 : decode cX14_readClause 34 = .ok (.iconst 0, 1) := by decide +kernel
theorem dX14_readClause_35 : decode cX14_readClause 35 = .ok (.invokevirtual 188, 3) := by decide +kernel
theorem dX14_readClause_38 : decode cX14_readClause 38 = .ok (.aload_n 0, 1) := by decide +kernel
theorem dX14_readClause_39 : decode cX14_readClause 39 = .ok (.bipush 46, 2) := by decide +kernel
theorem dX14_readClause_41 : decode cX14_readClause 41 = .ok (.invokevirtual 179, 3) := by decide +kernel
theorem dX14_readClause_44 : decode cX14_readClause 44 = .ok (.ifCond .eq 41, 3) := by decide +kernel
theorem dX14_readClause_47 : decode cX14_readClause 47 = .ok (.aload_n 0, 1) := by decide +kernel
theorem dX14_readClause_48 : decode cX14_readClause 48 = .ok (.getfield 162, 3) := by decide +kernel
theorem dX14_readClause_51 : decode cX14_readClause 51 = .ok (.ifCond .le 15, 3) := by decide +kernel
theorem dX14_readClause_54 : decode cX14_readClause 54 = .ok (.aload_n 0, 1) := by decide +kernel
theorem dX14_readClause_55 : decode cX14_readClause 55 = .ok (.iconst 3, 1) := by decide +kernel
theorem dX14_readClause_56 : decode cX14_readClause 56 = .ok (.aload_n 0, 1) := by decide +kernel
theorem dX14_readClause_57 : decode cX14_readClause 57 = .ok (.getfield 57, 3) := by decide +kernel
theorem dX14_readClause_60 : decode cX14_readClause 60 = .ok (.iconst 0, 1) := by decide +kernel
theorem dX14_readClause_61 : decode cX14_readClause 61 = .ok (.iaload, 1) := by decide +kernel
theorem dX14_readClause_62 : decode cX14_readClause 62 = .ok (.invokevirtual 136, 3) := by decide +kernel
theorem dX14_readClause_65 : decode cX14_readClause 65 = .ok (.athrow, 1) := by decide +kernel
theorem dX14_readClause_66 : decode cX14_readClause 66 = .ok (.aload_n 0, 1) := by decide +kernel
theorem dX14_readClause_67 : decode cX14_readClause 67 = .ok (.getfield 33, 3) := by decide +kernel
theorem dX14_readClause_70 : decode cX14_readClause 70 = .ok (.aload_n 0, 1) := by decide +kernel
theorem dX14_readClause_71 : decode cX14_readClause 71 = .ok (.getfield 146, 3) := by decide +kernel
theorem dX14_readClause_74 : decode cX14_readClause 74 = .ok (.iconst 0, 1) := by decide +kernel
theorem dX14_readClause_75 : decode cX14_readClause 75 = .ok (.invokestatic 192, 3) := by decide +kernel
theorem dX14_readClause_78 : decode cX14_readClause 78 = .ok (.iconst 1, 1) := by decide +kernel
theorem dX14_readClause_79 : decode cX14_readClause 79 = .ok (.bastore, 1) := by decide +kernel
theorem dX14_readClause_80 : decode cX14_readClause 80 = .ok (.aload_n 0, 1) := by decide +kernel
theorem dX14_readClause_81 : decode cX14_readClause 81 = .ok (.invokevirtual 143, 3) := by decide +kernel
theorem dX14_readClause_84 : decode cX14_readClause 84 = .ok (.return_, 1) := by decide +kernel
theorem dX14_readClause_85 : decode cX14_readClause 85 = .ok (.aload_n 0, 1) := by decide +kernel
theorem dX14_readClause_86 : decode cX14_readClause 86 = .ok (.bipush 58, 2) := by decide +kernel
theorem dX14_readClause_88 : decode cX14_readClause 88 = .ok (.invokevirtual 179, 3) := by decide +kernel
theorem dX14_readClause_91 : decode cX14_readClause 91 = .ok (.ifCond .ne 13, 3) := by decide +kernel
theorem dX14_readClause_94 : decode cX14_readClause 94 = .ok (.aload_n 0, 1) := by decide +kernel
theorem dX14_readClause_95 : decode cX14_readClause 95 = .ok (.iconst 1, 1) := by decide +kernel
theorem dX14_readClause_96 : decode cX14_readClause 96 = .ok (.aload_n 0, 1) := by decide +kernel
theorem dX14_readClause_97 : decode cX14_readClause 97 = .ok (.getfield 114, 3) := by decide +kernel
theorem dX14_readClause_100 : decode cX14_readClause 100 = .ok (.invokevirtual 136, 3) := by decide +kernel
theorem dX14_readClause_103 : decode cX14_readClause 103 = .ok (.athrow, 1) := by decide +kernel
theorem dX14_readClause_104 : decode cX14_readClause 104 = .ok (.aload_n 0, 1) := by decide +kernel
theorem dX14_readClause_105 : decode cX14_readClause 105 = .ok (.getfield 93, 3) := by decide +kernel
theorem dX14_readClause_108 : decode cX14_readClause 108 = .ok (.bipush 20, 2) := by decide +kernel
theorem dX14_readClause_110 : decode cX14_readClause 110 = .ok (.if_icmp .ne 13, 3) := by decide +kernel
theorem dX14_readClause_113 : decode cX14_readClause 113 = .ok (.aload_n 0, 1) := by decide +kernel
theorem dX14_readClause_114 : decode cX14_readClause 114 = .ok (.iconst 4, 1) := by decide +kernel
theorem dX14_readClause_115 : decode cX14_readClause 115 = .ok (.aload_n 0, 1) := by decide +kernel
theorem dX14_readClause_116 : decode cX14_readClause 116 = .ok (.getfield 114, 3) := by decide +kernel
theorem dX14_readClause_119 : decode cX14_readClause 119 = .ok (.invokevirtual 136, 3) := by decide +kernel
theorem dX14_readClause_122 : decode cX14_readClause 122 = .ok (.athrow, 1) := by decide +kernel
theorem dX14_readClause_123 : decode cX14_readClause 123 = .ok (.iconst 1, 1) := by decide +kernel
theorem dX14_readClause_124 : decode cX14_readClause 124 = .ok (.istore_n 1, 1) := by decide +kernel
theorem dX14_readClause_125 : decode cX14_readClause 125 = .ok (.iload_n 1, 1) := by decide +kernel
theorem dX14_readClause_126 : decode cX14_readClause 126 = .ok (.ifCond .eq 21, 3) := by decide +kernel
theorem dX14_readClause_129 : decode cX14_readClause 129 = .ok (.aload_n 0, 1) := by decide +kernel
theorem dX14_readClause_130 : decode cX14_readClause 130 = .ok (.invokevirtual 143, 3) := by decide +kernel
theorem dX14_readClause_133 : decode cX14_readClause 133 = .ok (.aload_n 0, 1) := by decide +kernel
theorem dX14_readClause_134 : decode cX14_readClause 134 = .ok (.invokevirtual 196, 3) := by decide +kernel
theorem dX14_readClause_137 : decode cX14_readClause 137 = .ok (.aload_n 0, 1) := by decide +kernel
theorem dX14_readClause_138 : decode cX14_readClause 138 = .ok (.bipush 44, 2) := by decide +kernel
theorem dX14_readClause_140 : decode cX14_readClause 140 = .ok (.invokevirtual 179, 3) := by decide +kernel
theorem dX14_readClause_143 : decode cX14_readClause 143 = .ok (.istore_n 1, 1) := by decide +kernel
theorem dX14_readClause_144 : decode cX14_readClause 144 = .ok (.goto (-19), 3) := by decide +kernel
theorem dX14_readClause_147 : decode cX14_readClause 147 = .ok (.aload_n 0, 1) := by decide +kernel
theorem dX14_readClause_148 : decode cX14_readClause 148 = .ok (.bipush 46, 2) := by decide +kernel
theorem dX14_readClause_150 : decode cX14_readClause 150 = .ok (.invokevirtual 179, 3) := by decide +kernel
theorem dX14_readClause_153 : decode cX14_readClause 153 = .ok (.ifCond .ne 13, 3) := by decide +kernel
theorem dX14_readClause_156 : decode cX14_readClause 156 = .ok (.aload_n 0, 1) := by decide +kernel
theorem dX14_readClause_157 : decode cX14_readClause 157 = .ok (.iconst 1, 1) := by decide +kernel
theorem dX14_readClause_158 : decode cX14_readClause 158 = .ok (.aload_n 0, 1) := by decide +kernel
theorem dX14_readClause_159 : decode cX14_readClause 159 = .ok (.getfield 114, 3) := by decide +kernel
theorem dX14_readClause_162 : decode cX14_readClause 162 = .ok (.invokevirtual 136, 3) := by decide +kernel
theorem dX14_readClause_165 : decode cX14_readClause 165 = .ok (.athrow, 1) := by decide +kernel
theorem dX14_readClause_166 : decode cX14_readClause 166 = .ok (.iconst 0, 1) := by decide +kernel
theorem dX14_readClause_167 : decode cX14_readClause 167 = .ok (.istore_n 2, 1) := by decide +kernel
theorem dX14_readClause_168 : decode cX14_readClause 168 = .ok (.iload_n 2, 1) := by decide +kernel
theorem dX14_readClause_169 : decode cX14_readClause 169 = .ok (.aload_n 0, 1) := by decide +kernel
theorem dX14_readClause_170 : decode cX14_readClause 170 = .ok (.getfield 162, 3) := by decide +kernel
theorem dX14_readClause_173 : decode cX14_readClause 173 = .ok (.if_icmp .ge 37, 3) := by decide +kernel
theorem dX14_readClause_176 : decode cX14_readClause 176 = .ok (.aload_n 0, 1) := by decide +kernel
theorem dX14_readClause_177 : decode cX14_readClause 177 = .ok (.getfield 159, 3) := by decide +kernel
theorem dX14_readClause_180 : decode cX14_readClause 180 = .ok (.aload_n 0, 1) := by decide +kernel
theorem dX14_readClause_181 : decode cX14_readClause 181 = .ok (.getfield 60, 3) := by decide +kernel
theorem dX14_readClause_184 : decode cX14_readClause 184 = .ok (.iload_n 2, 1) := by decide +kernel
theorem dX14_readClause_185 : decode cX14_readClause 185 = .ok (.iaload, 1) := by decide +kernel
theorem dX14_readClause_186 : decode cX14_readClause 186 = .ok (.ishr, 1) := by decide +kernel
theorem dX14_readClause_187 : decode cX14_readClause 187 = .ok (.iconst 1, 1) := by decide +kernel
theorem dX14_readClause_188 : decode cX14_readClause 188 = .ok (.iand, 1) := by decide +kernel
theorem dX14_readClause_189 : decode cX14_readClause 189 = .ok (.ifCond .ne 15, 3) := by decide +kernel
theorem dX14_readClause_192 : decode cX14_readClause 192 = .ok (.aload_n 0, 1) := by decide +kernel
theorem dX14_readClause_193 : decode cX14_readClause 193 = .ok (.iconst 5, 1) := by decide +kernel
theorem dX14_readClause_194 : decode cX14_readClause 194 = .ok (.aload_n 0, 1) := by decide +kernel
theorem dX14_readClause_195 : decode cX14_readClause 195 = .ok (.getfield 57, 3) := by decide +kernel
theorem dX14_readClause_198 : decode cX14_readClause 198 = .ok (.iload_n 2, 1) := by decide +kernel
theorem dX14_readClause_199 : decode cX14_readClause 199 = .ok (.iaload, 1) := by decide +kernel
theorem dX14_readClause_200 : decode cX14_readClause 200 = .ok (.invokevirtual 136, 3) := by decide +kernel
theorem dX14_readClause_203 : decode cX14_readClause 203 = .ok (.athrow, 1) := by decide +kernel
theorem dX14_readClause_204 : decode cX14_readClause 204 = .ok (.iinc 2 1, 3) := by decide +kernel
theorem dX14_readClause_207 : decode cX14_readClause 207 = .ok (.goto (-39), 3) := by decide +kernel
theorem dX14_readClause_210 : decode cX14_readClause 210 = .ok (.aload_n 0, 1) := by decide +kernel
theorem dX14_readClause_211 : decode cX14_readClause 211 = .ok (.getfield 42, 3) := by decide +kernel
theorem dX14_readClause_214 : decode cX14_readClause 214 = .ok (.aload_n 0, 1) := by decide +kernel
theorem dX14_readClause_215 : decode cX14_readClause 215 = .ok (.getfield 93, 3) := by decide +kernel
theorem dX14_readClause_218 : decode cX14_readClause 218 = .ok (.aload_n 0, 1) := by decide +kernel
theorem dX14_readClause_219 : decode cX14_readClause 219 = .ok (.getfield 146, 3) := by decide +kernel
theorem dX14_readClause_222 : decode cX14_readClause 222 = .ok (.aastore, 1) := by decide +kernel
theorem dX14_readClause_223 : decode cX14_readClause 223 = .ok (.aload_n 0, 1) := by decide +kernel
theorem dX14_readClause_224 : decode cX14_readClause 224 = .ok (.dup, 1) := by decide +kernel
theorem dX14_readClause_225 : decode cX14_readClause 225 = .ok (.getfield 93, 3) := by decide +kernel
theorem dX14_readClause_228 : decode cX14_readClause 228 = .ok (.iconst 1, 1) := by decide +kernel
theorem dX14_readClause_229 : decode cX14_readClause 229 = .ok (.iadd, 1) := by decide +kernel
theorem dX14_readClause_230 : decode cX14_readClause 230 = .ok (.putfield 93, 3) := by decide +kernel
theorem dX14_readClause_233 : decode cX14_readClause 233 = .ok (.aload_n 0, 1) := by decide +kernel
theorem dX14_readClause_234 : decode cX14_readClause 234 = .ok (.invokevirtual 143, 3) := by decide +kernel
theorem dX14_readClause_237 : decode cX14_readClause 237 = .ok (.return_, 1) := by decide +kernel
theorem dX14_readTerm_0 : decode cX14_readTerm 0 = .ok (.aload_n 0, 1) := by decide +kernel
theorem dX14_readTerm_1 : decode cX14_readTerm 1 = .ok (.getfield 115, 3) := by decide +kernel
theorem dX14_readTerm_4 : decode cX14_readTerm 4 = .ok (.iconst 2, 1) := by decide +kernel
theorem dX14_readTerm_5 : decode cX14_readTerm 5 = .ok (.if_icmp .eq 21, 3) := by decide +kernel
theorem dX14_readTerm_8 : decode cX14_readTerm 8 = .ok (.aload_n 0, 1) := by decide +kernel
theorem dX14_readTerm_9 : decode cX14_readTerm 9 = .ok (.getfield 115, 3) := by decide +kernel
theorem dX14_readTerm_12 : decode cX14_readTerm 12 = .ok (.iconst 3, 1) := by decide +kernel
theorem dX14_readTerm_13 : decode cX14_readTerm 13 = .ok (.if_icmp .eq 13, 3) := by decide +kernel
theorem dX14_readTerm_16 : decode cX14_readTerm 16 = .ok (.aload_n 0, 1) := by decide +kernel
theorem dX14_readTerm_17 : decode cX14_readTerm 17 = .ok (.iconst 1, 1) := by decide +kernel
theorem dX14_readTerm_18 : decode cX14_readTerm 18 = .ok (.aload_n 0, 1) := by decide +kernel
theorem dX14_readTerm_19 : decode cX14_readTerm 19 = .ok (.getfield 114, 3) := by decide +kernel
theorem dX14_readTerm_22 : decode cX14_readTerm 22 = .ok (.invokevirtual 136, 3) := by decide +kernel
theorem dX14_readTerm_25 : decode cX14_readTerm 25 = .ok (.athrow, 1) := by decide +kernel
theorem dX14_readTerm_26 : decode cX14_readTerm 26 = .ok (.aload_n 0, 1) := by decide +kernel
theorem dX14_readTerm_27 : decode cX14_readTerm 27 = .ok (.getfield 146, 3) := by decide +kernel
theorem dX14_readTerm_30 : decode cX14_readTerm 30 = .ok (.getfield 199, 3) := by decide +kernel
theorem dX14_readTerm_33 : decode cX14_readTerm 33 = .ok (.iconst 4, 1) := by decide +kernel
theorem dX14_readTerm_34 : decode cX14_readTerm 34 = .ok (.if_icmp .ne 13, 3) := by decide +kernel
theorem dX14_readTerm_37 : decode cX14_readTerm 37 = .ok (.aload_n 0, 1) := by decide +kernel
theorem dX14_readTerm_38 : decode cX14_readTerm 38 = .ok (.iconst 4, 1) := by decide +kernel
theorem dX14_readTerm_39 : decode cX14_readTerm 39 = .ok (.aload_n 0, 1) := by decide +kernel
theorem dX14_readTerm_40 : decode cX14_readTerm 40 = .ok (.getfield 114, 3) := by decide +kernel
theorem dX14_readTerm_43 : decode cX14_readTerm 43 = .ok (.invokevirtual 136, 3) := by decide +kernel
theorem dX14_readTerm_46 : decode cX14_readTerm 46 = .ok (.athrow, 1) := by decide +kernel
theorem dX14_readTerm_47 : decode cX14_readTerm 47 = .ok (.aload_n 0, 1) := by decide +kernel
theorem dX14_readTerm_48 : decode cX14_readTerm 48 = .ok (.getfield 146, 3) := by decide +kernel
theorem dX14_readTerm_51 : decode cX14_readTerm 51 = .ok (.getfield 199, 3) := by decide +kernel
theorem dX14_readTerm_54 : decode cX14_readTerm 54 = .ok (.iconst 1, 1) := by decide +kernel
theorem dX14_readTerm_55 : decode cX14_readTerm 55 = .ok (.iadd, 1) := by decide +kernel
theorem dX14_readTerm_56 : decode cX14_readTerm 56 = .ok (.istore_n 1, 1) := by decide +kernel
theorem dX14_readTerm_57 : decode cX14_readTerm 57 = .ok (.aload_n 0, 1) := by decide +kernel
theorem dX14_readTerm_58 : decode cX14_readTerm 58 = .ok (.getfield 115, 3) := by decide +kernel
theorem dX14_readTerm_61 : decode cX14_readTerm 61 = .ok (.iconst 3, 1) := by decide +kernel
theorem dX14_readTerm_62 : decode cX14_readTerm 62 = .ok (.if_icmp .eq 10, 3) := by decide +kernel
theorem dX14_readTerm_65 : decode cX14_readTerm 65 = .ok (.aload_n 0, 1) := by decide +kernel
theorem dX14_readTerm_66 : decode cX14_readTerm 66 = .ok (.invokevirtual 202, 3) := by decide +kernel
theorem dX14_readTerm_69 : decode cX14_readTerm 69 = .ok (.ifCond .eq 77, 3) := by decide +kernel
theorem dX14_readTerm_72 : decode cX14_readTerm 72 = .ok (.aload_n 0, 1) := by decide +kernel
theorem dX14_readTerm_73 : decode cX14_readTerm 73 = .ok (.getfield 146, 3) := by decide +kernel
theorem dX14_readTerm_76 : decode cX14_readTerm 76 = .ok (.getfield 169, 3) := by decide +kernel
theorem dX14_readTerm_79 : decode cX14_readTerm 79 = .ok (.iload_n 1, 1) := by decide +kernel
theorem dX14_readTerm_80 : decode cX14_readTerm 80 = .ok (.iconst 2, 1) := by decide +kernel
theorem dX14_readTerm_81 : decode cX14_readTerm 81 = .ok (.iastore, 1) := by decide +kernel
theorem dX14_readTerm_82 : decode cX14_readTerm 82 = .ok (.aload_n 0, 1) := by decide +kernel
theorem dX14_readTerm_83 : decode cX14_readTerm 83 = .ok (.getfield 146, 3) := by decide +kernel
theorem dX14_readTerm_86 : decode cX14_readTerm 86 = .ok (.getfield 171, 3) := by decide +kernel
theorem dX14_readTerm_89 : decode cX14_readTerm 89 = .ok (.iload_n 1, 1) := by decide +kernel
theorem dX14_readTerm_90 : decode cX14_readTerm 90 = .ok (.iconst (-1), 1) := by decide +kernel
theorem dX14_readTerm_91 : decode cX14_readTerm 91 = .ok (.iastore, 1) := by decide +kernel
theorem dX14_readTerm_92 : decode cX14_readTerm 92 = .ok (.aload_n 0, 1) := by decide +kernel
theorem dX14_readTerm_93 : decode cX14_readTerm 93 = .ok (.getfield 146, 3) := by decide +kernel
theorem dX14_readTerm_96 : decode cX14_readTerm 96 = .ok (.getfield 173, 3) := by decide +kernel
theorem dX14_readTerm_99 : decode cX14_readTerm 99 = .ok (.iload_n 1, 1) := by decide +kernel
theorem dX14_readTerm_100 : decode cX14_readTerm 100 = .ok (.aload_n 0, 1) := by decide +kernel
theorem dX14_readTerm_101 : decode cX14_readTerm 101 = .ok (.iconst 0, 1) := by decide +kernel
theorem dX14_readTerm_102 : decode cX14_readTerm 102 = .ok (.invokevirtual 182, 3) := by decide +kernel
theorem dX14_readTerm_105 : decode cX14_readTerm 105 = .ok (.iastore, 1) := by decide +kernel
theorem dX14_readTerm_106 : decode cX14_readTerm 106 = .ok (.aload_n 0, 1) := by decide +kernel
theorem dX14_readTerm_107 : decode cX14_readTerm 107 = .ok (.bipush 35, 2) := by decide +kernel
theorem dX14_readTerm_109 : decode cX14_readTerm 109 = .ok (.invokevirtual 179, 3) := by decide +kernel
theorem dX14_readTerm_112 : decode cX14_readTerm 112 = .ok (.ifCond .ne 13, 3) := by decide +kernel
theorem dX14_readTerm_115 : decode cX14_readTerm 115 = .ok (.aload_n 0, 1) := by decide +kernel
theorem dX14_readTerm_116 : decode cX14_readTerm 116 = .ok (.iconst 1, 1) := by decide +kernel
theorem dX14_readTerm_117 : decode cX14_readTerm 117 = .ok (.aload_n 0, 1) := by decide +kernel
theorem dX14_readTerm_118 : decode cX14_readTerm 118 = .ok (.getfield 114, 3) := by decide +kernel
theorem dX14_readTerm_121 : decode cX14_readTerm 121 = .ok (.invokevirtual 136, 3) := by decide +kernel
theorem dX14_readTerm_124 : decode cX14_readTerm 124 = .ok (.athrow, 1) := by decide +kernel
theorem dX14_readTerm_125 : decode cX14_readTerm 125 = .ok (.aload_n 0, 1) := by decide +kernel
theorem dX14_readTerm_126 : decode cX14_readTerm 126 = .ok (.invokevirtual 143, 3) := by decide +kernel
theorem dX14_readTerm_129 : decode cX14_readTerm 129 = .ok (.aload_n 0, 1) := by decide +kernel
theorem dX14_readTerm_130 : decode cX14_readTerm 130 = .ok (.getfield 146, 3) := by decide +kernel
theorem dX14_readTerm_133 : decode cX14_readTerm 133 = .ok (.getfield 176, 3) := by decide +kernel
theorem dX14_readTerm_136 : decode cX14_readTerm 136 = .ok (.iload_n 1, 1) := by decide +kernel
theorem dX14_readTerm_137 : decode cX14_readTerm 137 = .ok (.aload_n 0, 1) := by decide +kernel
theorem dX14_readTerm_138 : decode cX14_readTerm 138 = .ok (.iconst 0, 1) := by decide +kernel
theorem dX14_readTerm_139 : decode cX14_readTerm 139 = .ok (.invokevirtual 182, 3) := by decide +kernel
theorem dX14_readTerm_142 : decode cX14_readTerm 142 = .ok (.iastore, 1) := by decide +kernel
theorem dX14_readTerm_143 : decode cX14_readTerm 143 = .ok (.goto 29, 3) := by decide +kernel
theorem dX14_readTerm_146 : decode cX14_readTerm 146 = .ok (.aload_n 0, 1) := by decide +kernel
theorem dX14_readTerm_147 : decode cX14_readTerm 147 = .ok (.invokevirtual 165, 3) := by decide +kernel
theorem dX14_readTerm_150 : decode cX14_readTerm 150 = .ok (.ifCond .eq 16, 3) := by decide +kernel
theorem dX14_readTerm_153 : decode cX14_readTerm 153 = .ok (.aload_n 0, 1) := by decide +kernel
theorem dX14_readTerm_154 : decode cX14_readTerm 154 = .ok (.invokevirtual 143, 3) := by decide +kernel
theorem dX14_readTerm_157 : decode cX14_readTerm 157 = .ok (.aload_n 0, 1) := by decide +kernel
theorem dX14_readTerm_158 : decode cX14_readTerm 158 = .ok (.iload_n 1, 1) := by decide +kernel
theorem dX14_readTerm_159 : decode cX14_readTerm 159 = .ok (.iconst 1, 1) := by decide +kernel
theorem dX14_readTerm_160 : decode cX14_readTerm 160 = .ok (.invokevirtual 188, 3) := by decide +kernel
theorem dX14_readTerm_163 : decode cX14_readTerm 163 = .ok (.goto 9, 3) := by decide +kernel
theorem dX14_readTerm_166 : decode cX14_readTerm 166 = .ok (.aload_n 0, 1) := by decide +kernel
theorem dX14_readTerm_167 : decode cX14_readTerm 167 = .ok (.iload_n 1, 1) := by decide +kernel
theorem dX14_readTerm_168 : decode cX14_readTerm 168 = .ok (.iconst 0, 1) := by decide +kernel
theorem dX14_readTerm_169 : decode cX14_readTerm 169 = .ok (.invokevirtual 188, 3) := by decide +kernel
theorem dX14_readTerm_172 : decode cX14_readTerm 172 = .ok (.aload_n 0, 1) := by decide +kernel
theorem dX14_readTerm_173 : decode cX14_readTerm 173 = .ok (.getfield 146, 3) := by decide +kernel
theorem dX14_readTerm_176 : decode cX14_readTerm 176 = .ok (.dup, 1) := by decide +kernel
theorem dX14_readTerm_177 : decode cX14_readTerm 177 = .ok (.getfield 199, 3) := by decide +kernel
theorem dX14_readTerm_180 : decode cX14_readTerm 180 = .ok (.iconst 1, 1) := by decide +kernel
theorem dX14_readTerm_181 : decode cX14_readTerm 181 = .ok (.iadd, 1) := by decide +kernel
theorem dX14_readTerm_182 : decode cX14_readTerm 182 = .ok (.putfield 199, 3) := by decide +kernel
theorem dX14_readTerm_185 : decode cX14_readTerm 185 = .ok (.return_, 1) := by decide +kernel
theorem dX14_numberOf_0 : decode cX14_numberOf 0 = .ok (.bipush 100, 2) := by decide +kernel
theorem dX14_numberOf_2 : decode cX14_numberOf 2 = .ok (.aload_n 0, 1) := by decide +kernel
theorem dX14_numberOf_3 : decode cX14_numberOf 3 = .ok (.getfield 171, 3) := by decide +kernel
theorem dX14_numberOf_6 : decode cX14_numberOf 6 = .ok (.iload_n 1, 1) := by decide +kernel
theorem dX14_numberOf_7 : decode cX14_numberOf 7 = .ok (.iaload, 1) := by decide +kernel
theorem dX14_numberOf_8 : decode cX14_numberOf 8 = .ok (.imul, 1) := by decide +kernel
theorem dX14_numberOf_9 : decode cX14_numberOf 9 = .ok (.bipush 10, 2) := by decide +kernel
theorem dX14_numberOf_11 : decode cX14_numberOf 11 = .ok (.iconst 0, 1) := by decide +kernel
theorem dX14_numberOf_12 : decode cX14_numberOf 12 = .ok (.aload_n 0, 1) := by decide +kernel
theorem dX14_numberOf_13 : decode cX14_numberOf 13 = .ok (.getfield 173, 3) := by decide +kernel
theorem dX14_numberOf_16 : decode cX14_numberOf 16 = .ok (.iload_n 1, 1) := by decide +kernel
theorem dX14_numberOf_17 : decode cX14_numberOf 17 = .ok (.iaload, 1) := by decide +kernel
theorem dX14_numberOf_18 : decode cX14_numberOf 18 = .ok (.invokestatic 205, 3) := by decide +kernel
theorem dX14_numberOf_21 : decode cX14_numberOf 21 = .ok (.imul, 1) := by decide +kernel
theorem dX14_numberOf_22 : decode cX14_numberOf 22 = .ok (.iadd, 1) := by decide +kernel
theorem dX14_numberOf_23 : decode cX14_numberOf 23 = .ok (.iconst 0, 1) := by decide +kernel
theorem dX14_numberOf_24 : decode cX14_numberOf 24 = .ok (.aload_n 0, 1) := by decide +kernel
theorem dX14_numberOf_25 : decode cX14_numberOf 25 = .ok (.getfield 176, 3) := by decide +kernel
theorem dX14_numberOf_28 : decode cX14_numberOf 28 = .ok (.iload_n 1, 1) := by decide +kernel
theorem dX14_numberOf_29 : decode cX14_numberOf 29 = .ok (.iaload, 1) := by decide +kernel
theorem dX14_numberOf_30 : decode cX14_numberOf 30 = .ok (.invokestatic 205, 3) := by decide +kernel
theorem dX14_numberOf_33 : decode cX14_numberOf 33 = .ok (.iadd, 1) := by decide +kernel
theorem dX14_numberOf_34 : decode cX14_numberOf 34 = .ok (.ireturn, 1) := by decide +kernel
theorem dX14_feed_0 : decode cX14_feed 0 = .ok (.aload_n 0, 1) := by decide +kernel
theorem dX14_feed_1 : decode cX14_feed 1 = .ok (.iconst 0, 1) := by decide +kernel
theorem dX14_feed_2 : decode cX14_feed 2 = .ok (.putfield 84, 3) := by decide +kernel
theorem dX14_feed_5 : decode cX14_feed 5 = .ok (.aload_n 0, 1) := by decide +kernel
theorem dX14_feed_6 : decode cX14_feed 6 = .ok (.getfield 211, 3) := by decide +kernel
theorem dX14_feed_9 : decode cX14_feed 9 = .ok (.bipush 20, 2) := by decide +kernel
theorem dX14_feed_11 : decode cX14_feed 11 = .ok (.iadd, 1) := by decide +kernel
theorem dX14_feed_12 : decode cX14_feed 12 = .ok (.sipush 400, 3) := by decide +kernel
theorem dX14_feed_15 : decode cX14_feed 15 = .ok (.if_icmp .le 5, 3) := by decide +kernel
theorem dX14_feed_18 : decode cX14_feed 18 = .ok (.iconst (-1), 1) := by decide +kernel
theorem dX14_feed_19 : decode cX14_feed 19 = .ok (.ireturn, 1) := by decide +kernel
theorem dX14_feed_20 : decode cX14_feed 20 = .ok (.iconst 0, 1) := by decide +kernel
theorem dX14_feed_21 : decode cX14_feed 21 = .ok (.istore 6, 2) := by decide +kernel
theorem dX14_feed_23 : decode cX14_feed 23 = .ok (.iload 6, 2) := by decide +kernel
theorem dX14_feed_25 : decode cX14_feed 25 = .ok (.bipush 20, 2) := by decide +kernel
theorem dX14_feed_27 : decode cX14_feed 27 = .ok (.if_icmp .ge 90, 3) := by decide +kernel
theorem dX14_feed_30 : decode cX14_feed 30 = .ok (.iload 6, 2) := by decide +kernel
theorem dX14_feed_32 : decode cX14_feed 32 = .ok (.iconst 4, 1) := by decide +kernel
theorem dX14_feed_33 : decode cX14_feed 33 = .ok (.if_icmp .ge 7, 3) := by decide +kernel
theorem dX14_feed_36 : decode cX14_feed 36 = .ok (.iload_n 1, 1) := by decide +kernel
theorem dX14_feed_37 : decode cX14_feed 37 = .ok (.goto 39, 3) := by decide +kernel
theorem dX14_feed_40 : decode cX14_feed 40 = .ok (.iload 6, 2) := by decide +kernel
theorem dX14_feed_42 : decode cX14_feed 42 = .ok (.bipush 8, 2) := by decide +kernel
theorem dX14_feed_44 : decode cX14_feed 44 = .ok (.if_icmp .ge 7, 3) := by decide +kernel
theorem dX14_feed_47 : decode cX14_feed 47 = .ok (.iload_n 2, 1) := by decide +kernel
theorem dX14_feed_48 : decode cX14_feed 48 = .ok (.goto 28, 3) := by decide +kernel
theorem dX14_feed_51 : decode cX14_feed 51 = .ok (.iload 6, 2) := by decide +kernel
theorem dX14_feed_53 : decode cX14_feed 53 = .ok (.bipush 12, 2) := by decide +kernel
theorem dX14_feed_55 : decode cX14_feed 55 = .ok (.if_icmp .ge 7, 3) := by decide +kernel
theorem dX14_feed_58 : decode cX14_feed 58 = .ok (.iload_n 3, 1) := by decide +kernel
theorem dX14_feed_59 : decode cX14_feed 59 = .ok (.goto 17, 3) := by decide +kernel
theorem dX14_feed_62 : decode cX14_feed 62 = .ok (.iload 6, 2) := by decide +kernel
theorem dX14_feed_64 : decode cX14_feed 64 = .ok (.bipush 16, 2) := by decide +kernel
theorem dX14_feed_66 : decode cX14_feed 66 = .ok (.if_icmp .ge 8, 3) := by decide +kernel
theorem dX14_feed_69 : decode cX14_feed 69 = .ok (.iload 4, 2) := by decide +kernel
theorem dX14_feed_71 : decode cX14_feed 71 = .ok (.goto 5, 3) := by decide +kernel
theorem dX14_feed_74 : decode cX14_feed 74 = .ok (.iload 5, 2) := by decide +kernel
theorem dX14_feed_76 : decode cX14_feed 76 = .ok (.istore 7, 2) := by decide +kernel
theorem dX14_feed_78 : decode cX14_feed 78 = .ok (.aload_n 0, 1) := by decide +kernel
theorem dX14_feed_79 : decode cX14_feed 79 = .ok (.getfield 53, 3) := by decide +kernel
theorem dX14_feed_82 : decode cX14_feed 82 = .ok (.aload_n 0, 1) := by decide +kernel
theorem dX14_feed_83 : decode cX14_feed 83 = .ok (.getfield 211, 3) := by decide +kernel
theorem dX14_feed_86 : decode cX14_feed 86 = .ok (.iload 7, 2) := by decide +kernel
theorem dX14_feed_88 : decode cX14_feed 88 = .ok (.bipush 24, 2) := by decide +kernel
theorem dX14_feed_90 : decode cX14_feed 90 = .ok (.bipush 8, 2) := by decide +kernel
theorem dX14_feed_92 : decode cX14_feed 92 = .ok (.iload 6, 2) := by decide +kernel
theorem dX14_feed_94 : decode cX14_feed 94 = .ok (.iconst 4, 1) := by decide +kernel
theorem dX14_feed_95 : decode cX14_feed 95 = .ok (.irem, 1) := by decide +kernel
theorem dX14_feed_96 : decode cX14_feed 96 = .ok (.imul, 1) := by decide +kernel
theorem dX14_feed_97 : decode cX14_feed 97 = .ok (.isub, 1) := by decide +kernel
theorem dX14_feed_98 : decode cX14_feed 98 = .ok (.ishr, 1) := by decide +kernel
theorem dX14_feed_99 : decode cX14_feed 99 = .ok (.i2b, 1) := by decide +kernel
theorem dX14_feed_100 : decode cX14_feed 100 = .ok (.bastore, 1) := by decide +kernel
theorem dX14_feed_101 : decode cX14_feed 101 = .ok (.aload_n 0, 1) := by decide +kernel
theorem dX14_feed_102 : decode cX14_feed 102 = .ok (.dup, 1) := by decide +kernel
theorem dX14_feed_103 : decode cX14_feed 103 = .ok (.getfield 211, 3) := by decide +kernel
theorem dX14_feed_106 : decode cX14_feed 106 = .ok (.iconst 1, 1) := by decide +kernel
theorem dX14_feed_107 : decode cX14_feed 107 = .ok (.iadd, 1) := by decide +kernel
theorem dX14_feed_108 : decode cX14_feed 108 = .ok (.putfield 211, 3) := by decide +kernel
theorem dX14_feed_111 : decode cX14_feed 111 = .ok (.iinc 6 1, 3) := by decide +kernel
theorem dX14_feed_114 : decode cX14_feed 114 = .ok (.goto (-91), 3) := by decide +kernel
theorem dX14_feed_117 : decode cX14_feed 117 = .ok (.aload_n 0, 1) := by decide +kernel
theorem dX14_feed_118 : decode cX14_feed 118 = .ok (.getfield 211, 3) := by decide +kernel
theorem dX14_feed_121 : decode cX14_feed 121 = .ok (.ireturn, 1) := by decide +kernel
theorem dX14_tell_0 : decode cX14_tell 0 = .ok (.aload_n 0, 1) := by decide +kernel
theorem dX14_tell_1 : decode cX14_tell 1 = .ok (.iconst 0, 1) := by decide +kernel
theorem dX14_tell_2 : decode cX14_tell 2 = .ok (.putfield 84, 3) := by decide +kernel
theorem dX14_tell_5 : decode cX14_tell 5 = .ok (.iload_n 1, 1) := by decide +kernel
theorem dX14_tell_6 : decode cX14_tell 6 = .ok (.ifCond .lt 11, 3) := by decide +kernel
theorem dX14_tell_9 : decode cX14_tell 9 = .ok (.iload_n 1, 1) := by decide +kernel
theorem dX14_tell_10 : decode cX14_tell 10 = .ok (.aload_n 0, 1) := by decide +kernel
theorem dX14_tell_11 : decode cX14_tell 11 = .ok (.getfield 211, 3) := by decide +kernel
theorem dX14_tell_14 : decode cX14_tell 14 = .ok (.if_icmp .le 9, 3) := by decide +kernel
theorem dX14_tell_17 : decode cX14_tell 17 = .ok (.aload_n 0, 1) := by decide +kernel
theorem dX14_tell_18 : decode cX14_tell 18 = .ok (.iconst 2, 1) := by decide +kernel
theorem dX14_tell_19 : decode cX14_tell 19 = .ok (.invokevirtual 214, 3) := by decide +kernel
theorem dX14_tell_22 : decode cX14_tell 22 = .ok (.ireturn, 1) := by decide +kernel
theorem dX14_tell_23 : decode cX14_tell 23 = .ok (.aload_n 0, 1) := by decide +kernel
theorem dX14_tell_24 : decode cX14_tell 24 = .ok (.iload_n 1, 1) := by decide +kernel
theorem dX14_tell_25 : decode cX14_tell 25 = .ok (.putfield 104, 3) := by decide +kernel
theorem dX14_tell_28 : decode cX14_tell 28 = .ok (.aload_n 0, 1) := by decide +kernel
theorem dX14_tell_29 : decode cX14_tell 29 = .ok (.iconst 0, 1) := by decide +kernel
theorem dX14_tell_30 : decode cX14_tell 30 = .ok (.putfield 211, 3) := by decide +kernel
theorem dX14_tell_33 : decode cX14_tell 33 = .ok (.aload_n 0, 1) := by decide +kernel
theorem dX14_tell_34 : decode cX14_tell 34 = .ok (.iconst 0, 1) := by decide +kernel
theorem dX14_tell_35 : decode cX14_tell 35 = .ok (.putfield 107, 3) := by decide +kernel
theorem dX14_tell_38 : decode cX14_tell 38 = .ok (.aload_n 0, 1) := by decide +kernel
theorem dX14_tell_39 : decode cX14_tell 39 = .ok (.iconst 0, 1) := by decide +kernel
theorem dX14_tell_40 : decode cX14_tell 40 = .ok (.putfield 217, 3) := by decide +kernel
theorem dX14_tell_43 : decode cX14_tell 43 = .ok (.aload_n 0, 1) := by decide +kernel
theorem dX14_tell_44 : decode cX14_tell 44 = .ok (.getfield 96, 3) := by decide +kernel
theorem dX14_tell_47 : decode cX14_tell 47 = .ok (.istore_n 2, 1) := by decide +kernel
theorem dX14_tell_48 : decode cX14_tell 48 = .ok (.aload_n 0, 1) := by decide +kernel
theorem dX14_tell_49 : decode cX14_tell 49 = .ok (.getfield 90, 3) := by decide +kernel
theorem dX14_tell_52 : decode cX14_tell 52 = .ok (.istore_n 3, 1) := by decide +kernel
theorem dX14_tell_53 : decode cX14_tell 53 = .ok (.aload_n 0, 1) := by decide +kernel
theorem dX14_tell_54 : decode cX14_tell 54 = .ok (.getfield 93, 3) := by decide +kernel
theorem dX14_tell_57 : decode cX14_tell 57 = .ok (.istore 4, 2) := by decide +kernel
theorem dX14_tell_59 : decode cX14_tell 59 = .ok (.iconst 0, 1) := by decide +kernel
theorem dX14_tell_60 : decode cX14_tell 60 = .ok (.istore 5, 2) := by decide +kernel
theorem dX14_tell_62 : decode cX14_tell 62 = .ok (.iload 5, 2) := by decide +kernel
theorem dX14_tell_64 : decode cX14_tell 64 = .ok (.sipush 1000, 3) := by decide +kernel
theorem dX14_tell_67 : decode cX14_tell 67 = .ok (.if_icmp .ge 23, 3) := by decide +kernel
theorem dX14_tell_70 : decode cX14_tell 70 = .ok (.aload_n 0, 1) := by decide +kernel
theorem dX14_tell_71 : decode cX14_tell 71 = .ok (.getfield 37, 3) := by decide +kernel
theorem dX14_tell_74 : decode cX14_tell 74 = .ok (.iload 5, 2) := by decide +kernel
theorem dX14_tell_76 : decode cX14_tell 76 = .ok (.aload_n 0, 1) := by decide +kernel
theorem dX14_tell_77 : decode cX14_tell 77 = .ok (.getfield 33, 3) := by decide +kernel
theorem dX14_tell_80 : decode cX14_tell 80 = .ok (.iload 5, 2) := by decide +kernel
theorem dX14_tell_82 : decode cX14_tell 82 = .ok (.baload, 1) := by decide +kernel
theorem dX14_tell_83 : decode cX14_tell 83 = .ok (.bastore, 1) := by decide +kernel
theorem dX14_tell_84 : decode cX14_tell 84 = .ok (.iinc 5 1, 3) := by decide +kernel
theorem dX14_tell_87 : decode cX14_tell 87 = .ok (.goto (-25), 3) := by decide +kernel
theorem dX14_tell_90 : decode cX14_tell 90 = .ok (.aload_n 0, 1) := by decide +kernel
theorem dX14_tell_91 : decode cX14_tell 91 = .ok (.iconst 0, 1) := by decide +kernel
theorem dX14_tell_92 : decode cX14_tell 92 = .ok (.putfield 220, 3) := by decide +kernel
theorem dX14_tell_95 : decode cX14_tell 95 = .ok (.aload_n 0, 1) := by decide +kernel
theorem dX14_tell_96 : decode cX14_tell 96 = .ok (.invokevirtual 143, 3) := by decide +kernel
theorem dX14_tell_99 : decode cX14_tell 99 = .ok (.iconst 1, 1) := by decide +kernel
theorem dX14_tell_100 : decode cX14_tell 100 = .ok (.istore 5, 2) := by decide +kernel
theorem dX14_tell_102 : decode cX14_tell 102 = .ok (.iload 5, 2) := by decide +kernel
theorem dX14_tell_104 : decode cX14_tell 104 = .ok (.ifCond .eq 35, 3) := by decide +kernel
theorem dX14_tell_107 : decode cX14_tell 107 = .ok (.aload_n 0, 1) := by decide +kernel
theorem dX14_tell_108 : decode cX14_tell 108 = .ok (.invokevirtual 223, 3) := by decide +kernel
theorem dX14_tell_111 : decode cX14_tell 111 = .ok (.aload_n 0, 1) := by decide +kernel
theorem dX14_tell_112 : decode cX14_tell 112 = .ok (.dup, 1) := by decide +kernel
theorem dX14_tell_113 : decode cX14_tell 113 = .ok (.getfield 220, 3) := by decide +kernel
theorem dX14_tell_116 : decode cX14_tell 116 = .ok (.iconst 1, 1) := by decide +kernel
theorem dX14_tell_117 : decode cX14_tell 117 = .ok (.iadd, 1) := by decide +kernel
theorem dX14_tell_118 : decode cX14_tell 118 = .ok (.putfield 220, 3) := by decide +kernel
theorem dX14_tell_121 : decode cX14_tell 121 = .ok (.aload_n 0, 1) := by decide +kernel
theorem dX14_tell_122 : decode cX14_tell 122 = .ok (.getfield 115, 3) := by decide +kernel
theorem dX14_tell_125 : decode cX14_tell 125 = .ok (.iconst 1, 1) := by decide +kernel
theorem dX14_tell_126 : decode cX14_tell 126 = .ok (.if_icmp .eq 7, 3) := by decide +kernel
theorem dX14_tell_129 : decode cX14_tell 129 = .ok (.iconst 1, 1) := by decide +kernel
theorem dX14_tell_130 : decode cX14_tell 130 = .ok (.goto 4, 3) := by decide +kernel
theorem dX14_tell_133 : decode cX14_tell 133 = .ok (.iconst 0, 1) := by decide +kernel
theorem dX14_tell_134 : decode cX14_tell 134 = .ok (.istore 5, 2) := by decide +kernel
theorem dX14_tell_136 : decode cX14_tell 136 = .ok (.goto (-34), 3) := by decide +kernel
theorem dX14_tell_139 : decode cX14_tell 139 = .ok (.iload 4, 2) := by decide +kernel
theorem dX14_tell_141 : decode cX14_tell 141 = .ok (.istore 6, 2) := by decide +kernel
theorem dX14_tell_143 : decode cX14_tell 143 = .ok (.iload 6, 2) := by decide +kernel
theorem dX14_tell_145 : decode cX14_tell 145 = .ok (.aload_n 0, 1) := by decide +kernel
theorem dX14_tell_146 : decode cX14_tell 146 = .ok (.getfield 93, 3) := by decide +kernel
theorem dX14_tell_149 : decode cX14_tell 149 = .ok (.if_icmp .ge 37, 3) := by decide +kernel
theorem dX14_tell_152 : decode cX14_tell 152 = .ok (.aload_n 0, 1) := by decide +kernel
theorem dX14_tell_153 : decode cX14_tell 153 = .ok (.iload 6, 2) := by decide +kernel
theorem dX14_tell_155 : decode cX14_tell 155 = .ok (.iconst 1, 1) := by decide +kernel
theorem dX14_tell_156 : decode cX14_tell 156 = .ok (.iadd, 1) := by decide +kernel
theorem dX14_tell_157 : decode cX14_tell 157 = .ok (.invokevirtual 226, 3) := by decide +kernel
theorem dX14_tell_160 : decode cX14_tell 160 = .ok (.ifCond .ne 20, 3) := by decide +kernel
theorem dX14_tell_163 : decode cX14_tell 163 = .ok (.aload_n 0, 1) := by decide +kernel
theorem dX14_tell_164 : decode cX14_tell 164 = .ok (.bipush 6, 2) := by decide +kernel
theorem dX14_tell_166 : decode cX14_tell 166 = .ok (.aload_n 0, 1) := by decide +kernel
theorem dX14_tell_167 : decode cX14_tell 167 = .ok (.getfield 42, 3) := by decide +kernel
theorem dX14_tell_170 : decode cX14_tell 170 = .ok (.iload 6, 2) := by decide +kernel
theorem dX14_tell_172 : decode cX14_tell 172 = .ok (.aaload, 1) := by decide +kernel
theorem dX14_tell_173 : decode cX14_tell 173 = .ok (.getfield 187, 3) := by decide +kernel
theorem dX14_tell_176 : decode cX14_tell 176 = .ok (.invokevirtual 136, 3) := by decide +kernel
theorem dX14_tell_179 : decode cX14_tell 179 = .ok (.athrow, 1) := by decide +kernel
theorem dX14_tell_180 : decode cX14_tell 180 = .ok (.iinc 6 1, 3) := by decide +kernel
theorem dX14_tell_183 : decode cX14_tell 183 = .ok (.goto (-40), 3) := by decide +kernel
theorem dX14_tell_186 : decode cX14_tell 186 = .ok (.goto 77, 3) := by decide +kernel
theorem dX14_tell_189 : decode cX14_tell 189 = .ok (.astore 5, 2) := by decide +kernel
theorem dX14_tell_191 : decode cX14_tell 191 = .ok (.aload_n 0, 1) := by decide +kernel
theorem dX14_tell_192 : decode cX14_tell 192 = .ok (.iload_n 2, 1) := by decide +kernel
theorem dX14_tell_193 : decode cX14_tell 193 = .ok (.putfield 96, 3) := by decide +kernel
theorem dX14_tell_196 : decode cX14_tell 196 = .ok (.aload_n 0, 1) := by decide +kernel
theorem dX14_tell_197 : decode cX14_tell 197 = .ok (.iload_n 3, 1) := by decide +kernel
theorem dX14_tell_198 : decode cX14_tell 198 = .ok (.putfield 90, 3) := by decide +kernel
theorem dX14_tell_201 : decode cX14_tell 201 = .ok (.aload_n 0, 1) := by decide +kernel
theorem dX14_tell_202 : decode cX14_tell 202 = .ok (.iload 4, 2) := by decide +kernel
theorem dX14_tell_204 : decode cX14_tell 204 = .ok (.putfield 93, 3) := by decide +kernel
theorem dX14_tell_207 : decode cX14_tell 207 = .ok (.iconst 0, 1) := by decide +kernel
theorem dX14_tell_208 : decode cX14_tell 208 = .ok (.istore 6, 2) := by decide +kernel
theorem dX14_tell_210 : decode cX14_tell 210 = .ok (.iload 6, 2) := by decide +kernel
theorem dX14_tell_212 : decode cX14_tell 212 = .ok (.sipush 1000, 3) := by decide +kernel
theorem dX14_tell_215 : decode cX14_tell 215 = .ok (.if_icmp .ge 23, 3) := by decide +kernel
theorem dX14_tell_218 : decode cX14_tell 218 = .ok (.aload_n 0, 1) := by decide +kernel
theorem dX14_tell_219 : decode cX14_tell 219 = .ok (.getfield 33, 3) := by decide +kernel
theorem dX14_tell_222 : decode cX14_tell 222 = .ok (.iload 6, 2) := by decide +kernel
theorem dX14_tell_224 : decode cX14_tell 224 = .ok (.aload_n 0, 1) := by decide +kernel
theorem dX14_tell_225 : decode cX14_tell 225 = .ok (.getfield 37, 3) := by decide +kernel
theorem dX14_tell_228 : decode cX14_tell 228 = .ok (.iload 6, 2) := by decide +kernel
theorem dX14_tell_230 : decode cX14_tell 230 = .ok (.baload, 1) := by decide +kernel
theorem dX14_tell_231 : decode cX14_tell 231 = .ok (.bastore, 1) := by decide +kernel
theorem dX14_tell_232 : decode cX14_tell 232 = .ok (.iinc 6 1, 3) := by decide +kernel
theorem dX14_tell_235 : decode cX14_tell 235 = .ok (.goto (-25), 3) := by decide +kernel
theorem dX14_tell_238 : decode cX14_tell 238 = .ok (.aload_n 0, 1) := by decide +kernel
theorem dX14_tell_239 : decode cX14_tell 239 = .ok (.aload 5, 2) := by decide +kernel
theorem dX14_tell_241 : decode cX14_tell 241 = .ok (.getfield 99, 3) := by decide +kernel
theorem dX14_tell_244 : decode cX14_tell 244 = .ok (.putfield 217, 3) := by decide +kernel
theorem dX14_tell_247 : decode cX14_tell 247 = .ok (.aload_n 0, 1) := by decide +kernel
theorem dX14_tell_248 : decode cX14_tell 248 = .ok (.iconst 4, 1) := by decide +kernel
theorem dX14_tell_249 : decode cX14_tell 249 = .ok (.putfield 87, 3) := by decide +kernel
theorem dX14_tell_252 : decode cX14_tell 252 = .ok (.aload_n 0, 1) := by decide +kernel
theorem dX14_tell_253 : decode cX14_tell 253 = .ok (.aload 5, 2) := by decide +kernel
theorem dX14_tell_255 : decode cX14_tell 255 = .ok (.getfield 101, 3) := by decide +kernel
theorem dX14_tell_258 : decode cX14_tell 258 = .ok (.putfield 9, 3) := by decide +kernel
theorem dX14_tell_261 : decode cX14_tell 261 = .ok (.iconst (-1), 1) := by decide +kernel
theorem dX14_tell_262 : decode cX14_tell 262 = .ok (.ireturn, 1) := by decide +kernel
theorem dX14_tell_263 : decode cX14_tell 263 = .ok (.aload_n 0, 1) := by decide +kernel
theorem dX14_tell_264 : decode cX14_tell 264 = .ok (.aload_n 0, 1) := by decide +kernel
theorem dX14_tell_265 : decode cX14_tell 265 = .ok (.getfield 220, 3) := by decide +kernel
theorem dX14_tell_268 : decode cX14_tell 268 = .ok (.invokevirtual 229, 3) := by decide +kernel
theorem dX14_tell_271 : decode cX14_tell 271 = .ok (.ireturn, 1) := by decide +kernel
theorem dX14_layers_0 : decode cX14_layers 0 = .ok (.iconst 0, 1) := by decide +kernel
theorem dX14_layers_1 : decode cX14_layers 1 = .ok (.istore_n 2, 1) := by decide +kernel
theorem dX14_layers_2 : decode cX14_layers 2 = .ok (.iload_n 2, 1) := by decide +kernel
theorem dX14_layers_3 : decode cX14_layers 3 = .ok (.bipush 10, 2) := by decide +kernel
theorem dX14_layers_5 : decode cX14_layers 5 = .ok (.if_icmp .ge 16, 3) := by decide +kernel
theorem dX14_layers_8 : decode cX14_layers 8 = .ok (.aload_n 0, 1) := by decide +kernel
theorem dX14_layers_9 : decode cX14_layers 9 = .ok (.getfield 30, 3) := by decide +kernel
theorem dX14_layers_12 : decode cX14_layers 12 = .ok (.iload_n 2, 1) := by decide +kernel
theorem dX14_layers_13 : decode cX14_layers 13 = .ok (.iconst 0, 1) := by decide +kernel
theorem dX14_layers_14 : decode cX14_layers 14 = .ok (.iastore, 1) := by decide +kernel
theorem dX14_layers_15 : decode cX14_layers 15 = .ok (.iinc 2 1, 3) := by decide +kernel
theorem dX14_layers_18 : decode cX14_layers 18 = .ok (.goto (-16), 3) := by decide +kernel
theorem dX14_layers_21 : decode cX14_layers 21 = .ok (.iconst 1, 1) := by decide +kernel
theorem dX14_layers_22 : decode cX14_layers 22 = .ok (.istore_n 2, 1) := by decide +kernel
theorem dX14_layers_23 : decode cX14_layers 23 = .ok (.iload_n 2, 1) := by decide +kernel
theorem dX14_layers_24 : decode cX14_layers 24 = .ok (.ifCond .eq 141, 3) := by decide +kernel
theorem dX14_layers_27 : decode cX14_layers 27 = .ok (.iconst 0, 1) := by decide +kernel
theorem dX14_layers_28 : decode cX14_layers 28 = .ok (.istore_n 2, 1) := by decide +kernel
theorem dX14_layers_29 : decode cX14_layers 29 = .ok (.iconst 0, 1) := by decide +kernel
theorem dX14_layers_30 : decode cX14_layers 30 = .ok (.istore_n 3, 1) := by decide +kernel
theorem dX14_layers_31 : decode cX14_layers 31 = .ok (.iload_n 3, 1) := by decide +kernel
theorem dX14_layers_32 : decode cX14_layers 32 = .ok (.iload_n 1, 1) := by decide +kernel
theorem dX14_layers_33 : decode cX14_layers 33 = .ok (.if_icmp .ge 129, 3) := by decide +kernel
theorem dX14_layers_36 : decode cX14_layers 36 = .ok (.aload_n 0, 1) := by decide +kernel
theorem dX14_layers_37 : decode cX14_layers 37 = .ok (.getfield 42, 3) := by decide +kernel
theorem dX14_layers_40 : decode cX14_layers 40 = .ok (.iload_n 3, 1) := by decide +kernel
theorem dX14_layers_41 : decode cX14_layers 41 = .ok (.aaload, 1) := by decide +kernel
theorem dX14_layers_42 : decode cX14_layers 42 = .ok (.astore 4, 2) := by decide +kernel
theorem dX14_layers_44 : decode cX14_layers 44 = .ok (.iconst 1, 1) := by decide +kernel
theorem dX14_layers_45 : decode cX14_layers 45 = .ok (.istore 5, 2) := by decide +kernel
theorem dX14_layers_47 : decode cX14_layers 47 = .ok (.iload 5, 2) := by decide +kernel
theorem dX14_layers_49 : decode cX14_layers 49 = .ok (.aload 4, 2) := by decide +kernel
theorem dX14_layers_51 : decode cX14_layers 51 = .ok (.getfield 199, 3) := by decide +kernel
theorem dX14_layers_54 : decode cX14_layers 54 = .ok (.if_icmp .gt 102, 3) := by decide +kernel
theorem dX14_layers_57 : decode cX14_layers 57 = .ok (.aload 4, 2) := by decide +kernel
theorem dX14_layers_59 : decode cX14_layers 59 = .ok (.getfield 169, 3) := by decide +kernel
theorem dX14_layers_62 : decode cX14_layers 62 = .ok (.iload 5, 2) := by decide +kernel
theorem dX14_layers_64 : decode cX14_layers 64 = .ok (.iaload, 1) := by decide +kernel
theorem dX14_layers_65 : decode cX14_layers 65 = .ok (.iconst 2, 1) := by decide +kernel
theorem dX14_layers_66 : decode cX14_layers 66 = .ok (.if_icmp .ne 6, 3) := by decide +kernel
theorem dX14_layers_69 : decode cX14_layers 69 = .ok (.goto 81, 3) := by decide +kernel
theorem dX14_layers_72 : decode cX14_layers 72 = .ok (.aload_n 0, 1) := by decide +kernel
theorem dX14_layers_73 : decode cX14_layers 73 = .ok (.getfield 30, 3) := by decide +kernel
theorem dX14_layers_76 : decode cX14_layers 76 = .ok (.aload 4, 2) := by decide +kernel
theorem dX14_layers_78 : decode cX14_layers 78 = .ok (.getfield 171, 3) := by decide +kernel
theorem dX14_layers_81 : decode cX14_layers 81 = .ok (.iload 5, 2) := by decide +kernel
theorem dX14_layers_83 : decode cX14_layers 83 = .ok (.iaload, 1) := by decide +kernel
theorem dX14_layers_84 : decode cX14_layers 84 = .ok (.iaload, 1) := by decide +kernel
theorem dX14_layers_85 : decode cX14_layers 85 = .ok (.aload 4, 2) := by decide +kernel
theorem dX14_layers_87 : decode cX14_layers 87 = .ok (.getfield 169, 3) := by decide +kernel
theorem dX14_layers_90 : decode cX14_layers 90 = .ok (.iload 5, 2) := by decide +kernel
theorem dX14_layers_92 : decode cX14_layers 92 = .ok (.iaload, 1) := by decide +kernel
theorem dX14_layers_93 : decode cX14_layers 93 = .ok (.iconst 1, 1) := by decide +kernel
theorem dX14_layers_94 : decode cX14_layers 94 = .ok (.if_icmp .ne 7, 3) := by decide +kernel
theorem dX14_layers_97 : decode cX14_layers 97 = .ok (.iconst 1, 1) := by decide +kernel
theorem dX14_layers_98 : decode cX14_layers 98 = .ok (.goto 4, 3) := by decide +kernel
theorem dX14_layers_101 : decode cX14_layers 101 = .ok (.iconst 0, 1) := by decide +kernel
theorem dX14_layers_102 : decode cX14_layers 102 = .ok (.iadd, 1) := by decide +kernel
theorem dX14_layers_103 : decode cX14_layers 103 = .ok (.istore 6, 2) := by decide +kernel
theorem dX14_layers_105 : decode cX14_layers 105 = .ok (.aload_n 0, 1) := by decide +kernel
theorem dX14_layers_106 : decode cX14_layers 106 = .ok (.getfield 30, 3) := by decide +kernel
theorem dX14_layers_109 : decode cX14_layers 109 = .ok (.aload 4, 2) := by decide +kernel
theorem dX14_layers_111 : decode cX14_layers 111 = .ok (.getfield 171, 3) := by decide +kernel
theorem dX14_layers_114 : decode cX14_layers 114 = .ok (.iconst 0, 1) := by decide +kernel
theorem dX14_layers_115 : decode cX14_layers 115 = .ok (.iaload, 1) := by decide +kernel
theorem dX14_layers_116 : decode cX14_layers 116 = .ok (.iaload, 1) := by decide +kernel
theorem dX14_layers_117 : decode cX14_layers 117 = .ok (.iload 6, 2) := by decide +kernel
theorem dX14_layers_119 : decode cX14_layers 119 = .ok (.if_icmp .lt 6, 3) := by decide +kernel
theorem dX14_layers_122 : decode cX14_layers 122 = .ok (.goto 28, 3) := by decide +kernel
theorem dX14_layers_125 : decode cX14_layers 125 = .ok (.aload_n 0, 1) := by decide +kernel
theorem dX14_layers_126 : decode cX14_layers 126 = .ok (.getfield 30, 3) := by decide +kernel
theorem dX14_layers_129 : decode cX14_layers 129 = .ok (.aload 4, 2) := by decide +kernel
theorem dX14_layers_131 : decode cX14_layers 131 = .ok (.getfield 171, 3) := by decide +kernel
theorem dX14_layers_134 : decode cX14_layers 134 = .ok (.iconst 0, 1) := by decide +kernel
theorem dX14_layers_135 : decode cX14_layers 135 = .ok (.iaload, 1) := by decide +kernel
theorem dX14_layers_136 : decode cX14_layers 136 = .ok (.iload 6, 2) := by decide +kernel
theorem dX14_layers_138 : decode cX14_layers 138 = .ok (.iastore, 1) := by decide +kernel
theorem dX14_layers_139 : decode cX14_layers 139 = .ok (.iconst 1, 1) := by decide +kernel
theorem dX14_layers_140 : decode cX14_layers 140 = .ok (.istore_n 2, 1) := by decide +kernel
theorem dX14_layers_141 : decode cX14_layers 141 = .ok (.iload 6, 2) := by decide +kernel
theorem dX14_layers_143 : decode cX14_layers 143 = .ok (.bipush 10, 2) := by decide +kernel
theorem dX14_layers_145 : decode cX14_layers 145 = .ok (.if_icmp .le 5, 3) := by decide +kernel
theorem dX14_layers_148 : decode cX14_layers 148 = .ok (.iconst 0, 1) := by decide +kernel
theorem dX14_layers_149 : decode cX14_layers 149 = .ok (.ireturn, 1) := by decide +kernel
theorem dX14_layers_150 : decode cX14_layers 150 = .ok (.iinc 5 1, 3) := by decide +kernel
theorem dX14_layers_153 : decode cX14_layers 153 = .ok (.goto (-106), 3) := by decide +kernel
theorem dX14_layers_156 : decode cX14_layers 156 = .ok (.iinc 3 1, 3) := by decide +kernel
theorem dX14_layers_159 : decode cX14_layers 159 = .ok (.goto (-128), 3) := by decide +kernel
theorem dX14_layers_162 : decode cX14_layers 162 = .ok (.goto (-139), 3) := by decide +kernel
theorem dX14_layers_165 : decode cX14_layers 165 = .ok (.iconst 1, 1) := by decide +kernel
theorem dX14_layers_166 : decode cX14_layers 166 = .ok (.ireturn, 1) := by decide +kernel
theorem dX14_fault_0 : decode cX14_fault 0 = .ok (.aload_n 0, 1) := by decide +kernel
theorem dX14_fault_1 : decode cX14_fault 1 = .ok (.iconst 0, 1) := by decide +kernel
theorem dX14_fault_2 : decode cX14_fault 2 = .ok (.putfield 84, 3) := by decide +kernel
theorem dX14_fault_5 : decode cX14_fault 5 = .ok (.aload_n 0, 1) := by decide +kernel
theorem dX14_fault_6 : decode cX14_fault 6 = .ok (.getfield 217, 3) := by decide +kernel
theorem dX14_fault_9 : decode cX14_fault 9 = .ok (.ireturn, 1) := by decide +kernel
theorem dX14_where_0 : decode cX14_where 0 = .ok (.aload_n 0, 1) := by decide +kernel
theorem dX14_where_1 : decode cX14_where 1 = .ok (.iconst 0, 1) := by decide +kernel
theorem dX14_where_2 : decode cX14_where 2 = .ok (.putfield 84, 3) := by decide +kernel
theorem dX14_where_5 : decode cX14_where 5 = .ok (.aload_n 0, 1) := by decide +kernel
theorem dX14_where_6 : decode cX14_where 6 = .ok (.getfield 9, 3) := by decide +kernel
theorem dX14_where_9 : decode cX14_where 9 = .ok (.ireturn, 1) := by decide +kernel
theorem dX14_atom_0 : decode cX14_atom 0 = .ok (.aload_n 0, 1) := by decide +kernel
theorem dX14_atom_1 : decode cX14_atom 1 = .ok (.iconst 0, 1) := by decide +kernel
theorem dX14_atom_2 : decode cX14_atom 2 = .ok (.putfield 84, 3) := by decide +kernel
theorem dX14_atom_5 : decode cX14_atom 5 = .ok (.aload_n 0, 1) := by decide +kernel
theorem dX14_atom_6 : decode cX14_atom 6 = .ok (.iload_n 1, 1) := by decide +kernel
theorem dX14_atom_7 : decode cX14_atom 7 = .ok (.invokevirtual 232, 3) := by decide +kernel
theorem dX14_atom_10 : decode cX14_atom 10 = .ok (.ifCond .eq 23, 3) := by decide +kernel
theorem dX14_atom_13 : decode cX14_atom 13 = .ok (.iload_n 2, 1) := by decide +kernel
theorem dX14_atom_14 : decode cX14_atom 14 = .ok (.iconst 0, 1) := by decide +kernel
theorem dX14_atom_15 : decode cX14_atom 15 = .ok (.bipush 9, 2) := by decide +kernel
theorem dX14_atom_17 : decode cX14_atom 17 = .ok (.invokestatic 235, 3) := by decide +kernel
theorem dX14_atom_20 : decode cX14_atom 20 = .ok (.ifCond .eq 13, 3) := by decide +kernel
theorem dX14_atom_23 : decode cX14_atom 23 = .ok (.iload_n 3, 1) := by decide +kernel
theorem dX14_atom_24 : decode cX14_atom 24 = .ok (.iconst 0, 1) := by decide +kernel
theorem dX14_atom_25 : decode cX14_atom 25 = .ok (.bipush 9, 2) := by decide +kernel
theorem dX14_atom_27 : decode cX14_atom 27 = .ok (.invokestatic 235, 3) := by decide +kernel
theorem dX14_atom_30 : decode cX14_atom 30 = .ok (.ifCond .ne 5, 3) := by decide +kernel
theorem dX14_atom_33 : decode cX14_atom 33 = .ok (.iconst (-1), 1) := by decide +kernel
theorem dX14_atom_34 : decode cX14_atom 34 = .ok (.ireturn, 1) := by decide +kernel
theorem dX14_atom_35 : decode cX14_atom 35 = .ok (.bipush 100, 2) := by decide +kernel
theorem dX14_atom_37 : decode cX14_atom 37 = .ok (.iload_n 1, 1) := by decide +kernel
theorem dX14_atom_38 : decode cX14_atom 38 = .ok (.imul, 1) := by decide +kernel
theorem dX14_atom_39 : decode cX14_atom 39 = .ok (.bipush 10, 2) := by decide +kernel
theorem dX14_atom_41 : decode cX14_atom 41 = .ok (.iload_n 2, 1) := by decide +kernel
theorem dX14_atom_42 : decode cX14_atom 42 = .ok (.imul, 1) := by decide +kernel
theorem dX14_atom_43 : decode cX14_atom 43 = .ok (.iadd, 1) := by decide +kernel
theorem dX14_atom_44 : decode cX14_atom 44 = .ok (.iload_n 3, 1) := by decide +kernel
theorem dX14_atom_45 : decode cX14_atom 45 = .ok (.iadd, 1) := by decide +kernel
theorem dX14_atom_46 : decode cX14_atom 46 = .ok (.istore 4, 2) := by decide +kernel
theorem dX14_atom_48 : decode cX14_atom 48 = .ok (.aload_n 0, 1) := by decide +kernel
theorem dX14_atom_49 : decode cX14_atom 49 = .ok (.iload 4, 2) := by decide +kernel
theorem dX14_atom_51 : decode cX14_atom 51 = .ok (.invokevirtual 239, 3) := by decide +kernel
theorem dX14_atom_54 : decode cX14_atom 54 = .ok (.ifCond .eq 8, 3) := by decide +kernel
theorem dX14_atom_57 : decode cX14_atom 57 = .ok (.iload 4, 2) := by decide +kernel
theorem dX14_atom_59 : decode cX14_atom 59 = .ok (.goto 4, 3) := by decide +kernel
theorem dX14_atom_62 : decode cX14_atom 62 = .ok (.iconst (-1), 1) := by decide +kernel
theorem dX14_atom_63 : decode cX14_atom 63 = .ok (.ireturn, 1) := by decide +kernel
theorem dX14_name_0 : decode cX14_name 0 = .ok (.iload_n 3, 1) := by decide +kernel
theorem dX14_name_1 : decode cX14_name 1 = .ok (.ifCond .eq 11, 3) := by decide +kernel
theorem dX14_name_4 : decode cX14_name 4 = .ok (.aload_n 0, 1) := by decide +kernel
theorem dX14_name_5 : decode cX14_name 5 = .ok (.iload_n 1, 1) := by decide +kernel
theorem dX14_name_6 : decode cX14_name 6 = .ok (.invokevirtual 232, 3) := by decide +kernel
theorem dX14_name_9 : decode cX14_name 9 = .ok (.goto 20, 3) := by decide +kernel
theorem dX14_name_12 : decode cX14_name 12 = .ok (.iload_n 1, 1) := by decide +kernel
theorem dX14_name_13 : decode cX14_name 13 = .ok (.ifCond .lt 15, 3) := by decide +kernel
theorem dX14_name_16 : decode cX14_name 16 = .ok (.iload_n 1, 1) := by decide +kernel
theorem dX14_name_17 : decode cX14_name 17 = .ok (.aload_n 0, 1) := by decide +kernel
theorem dX14_name_18 : decode cX14_name 18 = .ok (.getfield 96, 3) := by decide +kernel
theorem dX14_name_21 : decode cX14_name 21 = .ok (.if_icmp .ge 7, 3) := by decide +kernel
theorem dX14_name_24 : decode cX14_name 24 = .ok (.iconst 1, 1) := by decide +kernel
theorem dX14_name_25 : decode cX14_name 25 = .ok (.goto 4, 3) := by decide +kernel
theorem dX14_name_28 : decode cX14_name 28 = .ok (.iconst 0, 1) := by decide +kernel
theorem dX14_name_29 : decode cX14_name 29 = .ok (.istore 4, 2) := by decide +kernel
theorem dX14_name_31 : decode cX14_name 31 = .ok (.iload 4, 2) := by decide +kernel
theorem dX14_name_33 : decode cX14_name 33 = .ok (.ifCond .ne 7, 3) := by decide +kernel
theorem dX14_name_36 : decode cX14_name 36 = .ok (.iconst 0, 1) := by decide +kernel
theorem dX14_name_37 : decode cX14_name 37 = .ok (.goto 22, 3) := by decide +kernel
theorem dX14_name_40 : decode cX14_name 40 = .ok (.iload_n 3, 1) := by decide +kernel
theorem dX14_name_41 : decode cX14_name 41 = .ok (.ifCond .eq 12, 3) := by decide +kernel
theorem dX14_name_44 : decode cX14_name 44 = .ok (.aload_n 0, 1) := by decide +kernel
theorem dX14_name_45 : decode cX14_name 45 = .ok (.getfield 24, 3) := by decide +kernel
theorem dX14_name_48 : decode cX14_name 48 = .ok (.iload_n 1, 1) := by decide +kernel
theorem dX14_name_49 : decode cX14_name 49 = .ok (.iaload, 1) := by decide +kernel
theorem dX14_name_50 : decode cX14_name 50 = .ok (.goto 9, 3) := by decide +kernel
theorem dX14_name_53 : decode cX14_name 53 = .ok (.aload_n 0, 1) := by decide +kernel
theorem dX14_name_54 : decode cX14_name 54 = .ok (.getfield 20, 3) := by decide +kernel
theorem dX14_name_57 : decode cX14_name 57 = .ok (.iload_n 1, 1) := by decide +kernel
theorem dX14_name_58 : decode cX14_name 58 = .ok (.iaload, 1) := by decide +kernel
theorem dX14_name_59 : decode cX14_name 59 = .ok (.istore 5, 2) := by decide +kernel
theorem dX14_name_61 : decode cX14_name 61 = .ok (.aload_n 0, 1) := by decide +kernel
theorem dX14_name_62 : decode cX14_name 62 = .ok (.iload_n 2, 1) := by decide +kernel
theorem dX14_name_63 : decode cX14_name 63 = .ok (.ifCond .lt 9, 3) := by decide +kernel
theorem dX14_name_66 : decode cX14_name 66 = .ok (.iload_n 2, 1) := by decide +kernel
theorem dX14_name_67 : decode cX14_name 67 = .ok (.iload 5, 2) := by decide +kernel
theorem dX14_name_69 : decode cX14_name 69 = .ok (.if_icmp .lt 7, 3) := by decide +kernel
theorem dX14_name_72 : decode cX14_name 72 = .ok (.iconst 1, 1) := by decide +kernel
theorem dX14_name_73 : decode cX14_name 73 = .ok (.goto 4, 3) := by decide +kernel
theorem dX14_name_76 : decode cX14_name 76 = .ok (.iconst 0, 1) := by decide +kernel
theorem dX14_name_77 : decode cX14_name 77 = .ok (.putfield 84, 3) := by decide +kernel
theorem dX14_name_80 : decode cX14_name 80 = .ok (.aload_n 0, 1) := by decide +kernel
theorem dX14_name_81 : decode cX14_name 81 = .ok (.getfield 84, 3) := by decide +kernel
theorem dX14_name_84 : decode cX14_name 84 = .ok (.ifCond .le 5, 3) := by decide +kernel
theorem dX14_name_87 : decode cX14_name 87 = .ok (.iconst 0, 1) := by decide +kernel
theorem dX14_name_88 : decode cX14_name 88 = .ok (.ireturn, 1) := by decide +kernel
theorem dX14_name_89 : decode cX14_name 89 = .ok (.bipush 96, 2) := by decide +kernel
theorem dX14_name_91 : decode cX14_name 91 = .ok (.iload_n 3, 1) := by decide +kernel
theorem dX14_name_92 : decode cX14_name 92 = .ok (.ifCond .eq 12, 3) := by decide +kernel
theorem dX14_name_95 : decode cX14_name 95 = .ok (.aload_n 0, 1) := by decide +kernel
theorem dX14_name_96 : decode cX14_name 96 = .ok (.getfield 17, 3) := by decide +kernel
theorem dX14_name_99 : decode cX14_name 99 = .ok (.iload_n 1, 1) := by decide +kernel
theorem dX14_name_100 : decode cX14_name 100 = .ok (.laload, 1) := by decide +kernel
theorem dX14_name_101 : decode cX14_name 101 = .ok (.goto 9, 3) := by decide +kernel
theorem dX14_name_104 : decode cX14_name 104 = .ok (.aload_n 0, 1) := by decide +kernel
theorem dX14_name_105 : decode cX14_name 105 = .ok (.getfield 13, 3) := by decide +kernel
theorem dX14_name_108 : decode cX14_name 108 = .ok (.iload_n 1, 1) := by decide +kernel
theorem dX14_name_109 : decode cX14_name 109 = .ok (.laload, 1) := by decide +kernel
theorem dX14_name_110 : decode cX14_name 110 = .ok (.iconst 5, 1) := by decide +kernel
theorem dX14_name_111 : decode cX14_name 111 = .ok (.iload 5, 2) := by decide +kernel
theorem dX14_name_113 : decode cX14_name 113 = .ok (.iconst 1, 1) := by decide +kernel
theorem dX14_name_114 : decode cX14_name 114 = .ok (.isub, 1) := by decide +kernel
theorem dX14_name_115 : decode cX14_name 115 = .ok (.iload_n 2, 1) := by decide +kernel
theorem dX14_name_116 : decode cX14_name 116 = .ok (.isub, 1) := by decide +kernel
theorem dX14_name_117 : decode cX14_name 117 = .ok (.imul, 1) := by decide +kernel
theorem dX14_name_118 : decode cX14_name 118 = .ok (.lshr, 1) := by decide +kernel
theorem dX14_name_119 : decode cX14_name 119 = .ok (.ldc2_w 242, 3) := by decide +kernel
theorem dX14_name_122 : decode cX14_name 122 = .ok (.land, 1) := by decide +kernel
theorem dX14_name_123 : decode cX14_name 123 = .ok (.l2i, 1) := by decide +kernel
theorem dX14_name_124 : decode cX14_name 124 = .ok (.iadd, 1) := by decide +kernel
theorem dX14_name_125 : decode cX14_name 125 = .ok (.ireturn, 1) := by decide +kernel
theorem dX14_places_0 : decode cX14_places 0 = .ok (.aload_n 0, 1) := by decide +kernel
theorem dX14_places_1 : decode cX14_places 1 = .ok (.iconst 0, 1) := by decide +kernel
theorem dX14_places_2 : decode cX14_places 2 = .ok (.putfield 84, 3) := by decide +kernel
theorem dX14_places_5 : decode cX14_places 5 = .ok (.aload_n 0, 1) := by decide +kernel
theorem dX14_places_6 : decode cX14_places 6 = .ok (.iload_n 1, 1) := by decide +kernel
theorem dX14_places_7 : decode cX14_places 7 = .ok (.invokevirtual 232, 3) := by decide +kernel
theorem dX14_places_10 : decode cX14_places 10 = .ok (.ifCond .eq 12, 3) := by decide +kernel
theorem dX14_places_13 : decode cX14_places 13 = .ok (.aload_n 0, 1) := by decide +kernel
theorem dX14_places_14 : decode cX14_places 14 = .ok (.getfield 27, 3) := by decide +kernel
theorem dX14_places_17 : decode cX14_places 17 = .ok (.iload_n 1, 1) := by decide +kernel
theorem dX14_places_18 : decode cX14_places 18 = .ok (.iaload, 1) := by decide +kernel
theorem dX14_places_19 : decode cX14_places 19 = .ok (.goto 4, 3) := by decide +kernel
theorem dX14_places_22 : decode cX14_places 22 = .ok (.iconst (-1), 1) := by decide +kernel
theorem dX14_places_23 : decode cX14_places 23 = .ok (.ireturn, 1) := by decide +kernel
theorem dX14_layer_0 : decode cX14_layer 0 = .ok (.aload_n 0, 1) := by decide +kernel
theorem dX14_layer_1 : decode cX14_layer 1 = .ok (.iconst 0, 1) := by decide +kernel
theorem dX14_layer_2 : decode cX14_layer 2 = .ok (.putfield 84, 3) := by decide +kernel
theorem dX14_layer_5 : decode cX14_layer 5 = .ok (.aload_n 0, 1) := by decide +kernel
theorem dX14_layer_6 : decode cX14_layer 6 = .ok (.iload_n 1, 1) := by decide +kernel
theorem dX14_layer_7 : decode cX14_layer 7 = .ok (.invokevirtual 232, 3) := by decide +kernel
theorem dX14_layer_10 : decode cX14_layer 10 = .ok (.ifCond .ne 5, 3) := by decide +kernel
theorem dX14_layer_13 : decode cX14_layer 13 = .ok (.iconst (-1), 1) := by decide +kernel
theorem dX14_layer_14 : decode cX14_layer 14 = .ok (.ireturn, 1) := by decide +kernel
theorem dX14_layer_15 : decode cX14_layer 15 = .ok (.aload_n 0, 1) := by decide +kernel
theorem dX14_layer_16 : decode cX14_layer 16 = .ok (.aload_n 0, 1) := by decide +kernel
theorem dX14_layer_17 : decode cX14_layer 17 = .ok (.getfield 93, 3) := by decide +kernel
theorem dX14_layer_20 : decode cX14_layer 20 = .ok (.invokevirtual 226, 3) := by decide +kernel
theorem dX14_layer_23 : decode cX14_layer 23 = .ok (.istore_n 2, 1) := by decide +kernel
theorem dX14_layer_24 : decode cX14_layer 24 = .ok (.aload_n 0, 1) := by decide +kernel
theorem dX14_layer_25 : decode cX14_layer 25 = .ok (.getfield 30, 3) := by decide +kernel
theorem dX14_layer_28 : decode cX14_layer 28 = .ok (.iload_n 1, 1) := by decide +kernel
theorem dX14_layer_29 : decode cX14_layer 29 = .ok (.iaload, 1) := by decide +kernel
theorem dX14_layer_30 : decode cX14_layer 30 = .ok (.ireturn, 1) := by decide +kernel
theorem dX14_fact_0 : decode cX14_fact 0 = .ok (.aload_n 0, 1) := by decide +kernel
theorem dX14_fact_1 : decode cX14_fact 1 = .ok (.iconst 0, 1) := by decide +kernel
theorem dX14_fact_2 : decode cX14_fact 2 = .ok (.putfield 84, 3) := by decide +kernel
theorem dX14_fact_5 : decode cX14_fact 5 = .ok (.aload_n 0, 1) := by decide +kernel
theorem dX14_fact_6 : decode cX14_fact 6 = .ok (.iload_n 1, 1) := by decide +kernel
theorem dX14_fact_7 : decode cX14_fact 7 = .ok (.invokevirtual 239, 3) := by decide +kernel
theorem dX14_fact_10 : decode cX14_fact 10 = .ok (.ifCond .ne 9, 3) := by decide +kernel
theorem dX14_fact_13 : decode cX14_fact 13 = .ok (.aload_n 0, 1) := by decide +kernel
theorem dX14_fact_14 : decode cX14_fact 14 = .ok (.iconst 1, 1) := by decide +kernel
theorem dX14_fact_15 : decode cX14_fact 15 = .ok (.invokevirtual 214, 3) := by decide +kernel
theorem dX14_fact_18 : decode cX14_fact 18 = .ok (.ireturn, 1) := by decide +kernel
theorem dX14_fact_19 : decode cX14_fact 19 = .ok (.aload_n 0, 1) := by decide +kernel
theorem dX14_fact_20 : decode cX14_fact 20 = .ok (.getfield 33, 3) := by decide +kernel
theorem dX14_fact_23 : decode cX14_fact 23 = .ok (.iload_n 1, 1) := by decide +kernel
theorem dX14_fact_24 : decode cX14_fact 24 = .ok (.baload, 1) := by decide +kernel
theorem dX14_fact_25 : decode cX14_fact 25 = .ok (.istore_n 3, 1) := by decide +kernel
theorem dX14_fact_26 : decode cX14_fact 26 = .ok (.aload_n 0, 1) := by decide +kernel
theorem dX14_fact_27 : decode cX14_fact 27 = .ok (.getfield 33, 3) := by decide +kernel
theorem dX14_fact_30 : decode cX14_fact 30 = .ok (.iload_n 1, 1) := by decide +kernel
theorem dX14_fact_31 : decode cX14_fact 31 = .ok (.iload_n 2, 1) := by decide +kernel
theorem dX14_fact_32 : decode cX14_fact 32 = .ok (.bastore, 1) := by decide +kernel
theorem dX14_fact_33 : decode cX14_fact 33 = .ok (.aload_n 0, 1) := by decide +kernel
theorem dX14_fact_34 : decode cX14_fact 34 = .ok (.iload_n 3, 1) := by decide +kernel
theorem dX14_fact_35 : decode cX14_fact 35 = .ok (.iload_n 2, 1) := by decide +kernel
theorem dX14_fact_36 : decode cX14_fact 36 = .ok (.if_icmp .ne 7, 3) := by decide +kernel
theorem dX14_fact_39 : decode cX14_fact 39 = .ok (.iconst 0, 1) := by decide +kernel
theorem dX14_fact_40 : decode cX14_fact 40 = .ok (.goto 4, 3) := by decide +kernel
theorem dX14_fact_43 : decode cX14_fact 43 = .ok (.iconst 1, 1) := by decide +kernel
theorem dX14_fact_44 : decode cX14_fact 44 = .ok (.invokevirtual 229, 3) := by decide +kernel
theorem dX14_fact_47 : decode cX14_fact 47 = .ok (.ireturn, 1) := by decide +kernel
theorem dX14_drop_0 : decode cX14_drop 0 = .ok (.aload_n 0, 1) := by decide +kernel
theorem dX14_drop_1 : decode cX14_drop 1 = .ok (.iconst 0, 1) := by decide +kernel
theorem dX14_drop_2 : decode cX14_drop 2 = .ok (.putfield 84, 3) := by decide +kernel
theorem dX14_drop_5 : decode cX14_drop 5 = .ok (.aload_n 0, 1) := by decide +kernel
theorem dX14_drop_6 : decode cX14_drop 6 = .ok (.iload_n 1, 1) := by decide +kernel
theorem dX14_drop_7 : decode cX14_drop 7 = .ok (.invokevirtual 244, 3) := by decide +kernel
theorem dX14_drop_10 : decode cX14_drop 10 = .ok (.ifCond .ne 9, 3) := by decide +kernel
theorem dX14_drop_13 : decode cX14_drop 13 = .ok (.aload_n 0, 1) := by decide +kernel
theorem dX14_drop_14 : decode cX14_drop 14 = .ok (.iconst 1, 1) := by decide +kernel
theorem dX14_drop_15 : decode cX14_drop 15 = .ok (.invokevirtual 247, 3) := by decide +kernel
theorem dX14_drop_18 : decode cX14_drop 18 = .ok (.ireturn, 1) := by decide +kernel
theorem dX14_drop_19 : decode cX14_drop 19 = .ok (.aload_n 0, 1) := by decide +kernel
theorem dX14_drop_20 : decode cX14_drop 20 = .ok (.dup, 1) := by decide +kernel
theorem dX14_drop_21 : decode cX14_drop 21 = .ok (.getfield 93, 3) := by decide +kernel
theorem dX14_drop_24 : decode cX14_drop 24 = .ok (.iconst 1, 1) := by decide +kernel
theorem dX14_drop_25 : decode cX14_drop 25 = .ok (.isub, 1) := by decide +kernel
theorem dX14_drop_26 : decode cX14_drop 26 = .ok (.putfield 93, 3) := by decide +kernel
theorem dX14_drop_29 : decode cX14_drop 29 = .ok (.iload_n 1, 1) := by decide +kernel
theorem dX14_drop_30 : decode cX14_drop 30 = .ok (.istore_n 2, 1) := by decide +kernel
theorem dX14_drop_31 : decode cX14_drop 31 = .ok (.iload_n 2, 1) := by decide +kernel
theorem dX14_drop_32 : decode cX14_drop 32 = .ok (.aload_n 0, 1) := by decide +kernel
theorem dX14_drop_33 : decode cX14_drop 33 = .ok (.getfield 93, 3) := by decide +kernel
theorem dX14_drop_36 : decode cX14_drop 36 = .ok (.if_icmp .ge 23, 3) := by decide +kernel
theorem dX14_drop_39 : decode cX14_drop 39 = .ok (.aload_n 0, 1) := by decide +kernel
theorem dX14_drop_40 : decode cX14_drop 40 = .ok (.getfield 42, 3) := by decide +kernel
theorem dX14_drop_43 : decode cX14_drop 43 = .ok (.iload_n 2, 1) := by decide +kernel
theorem dX14_drop_44 : decode cX14_drop 44 = .ok (.aload_n 0, 1) := by decide +kernel
theorem dX14_drop_45 : decode cX14_drop 45 = .ok (.getfield 42, 3) := by decide +kernel
theorem dX14_drop_48 : decode cX14_drop 48 = .ok (.iload_n 2, 1) := by decide +kernel
theorem dX14_drop_49 : decode cX14_drop 49 = .ok (.iconst 1, 1) := by decide +kernel
theorem dX14_drop_50 : decode cX14_drop 50 = .ok (.iadd, 1) := by decide +kernel
theorem dX14_drop_51 : decode cX14_drop 51 = .ok (.aaload, 1) := by decide +kernel
theorem dX14_drop_52 : decode cX14_drop 52 = .ok (.aastore, 1) := by decide +kernel
theorem dX14_drop_53 : decode cX14_drop 53 = .ok (.iinc 2 1, 3) := by decide +kernel
theorem dX14_drop_56 : decode cX14_drop 56 = .ok (.goto (-25), 3) := by decide +kernel
theorem dX14_drop_59 : decode cX14_drop 59 = .ok (.aload_n 0, 1) := by decide +kernel
theorem dX14_drop_60 : decode cX14_drop 60 = .ok (.invokevirtual 250, 3) := by decide +kernel
theorem dX14_drop_63 : decode cX14_drop 63 = .ok (.ireturn, 1) := by decide +kernel
theorem dX14_works_0 : decode cX14_works 0 = .ok (.aload_n 0, 1) := by decide +kernel
theorem dX14_works_1 : decode cX14_works 1 = .ok (.aload_n 0, 1) := by decide +kernel
theorem dX14_works_2 : decode cX14_works 2 = .ok (.getfield 93, 3) := by decide +kernel
theorem dX14_works_5 : decode cX14_works 5 = .ok (.invokevirtual 226, 3) := by decide +kernel
theorem dX14_works_8 : decode cX14_works 8 = .ok (.istore_n 2, 1) := by decide +kernel
theorem dX14_works_9 : decode cX14_works 9 = .ok (.iconst 0, 1) := by decide +kernel
theorem dX14_works_10 : decode cX14_works 10 = .ok (.istore_n 3, 1) := by decide +kernel
theorem dX14_works_11 : decode cX14_works 11 = .ok (.iload_n 3, 1) := by decide +kernel
theorem dX14_works_12 : decode cX14_works 12 = .ok (.sipush 1000, 3) := by decide +kernel
theorem dX14_works_15 : decode cX14_works 15 = .ok (.if_icmp .ge 30, 3) := by decide +kernel
theorem dX14_works_18 : decode cX14_works 18 = .ok (.aload_n 0, 1) := by decide +kernel
theorem dX14_works_19 : decode cX14_works 19 = .ok (.getfield 63, 3) := by decide +kernel
theorem dX14_works_22 : decode cX14_works 22 = .ok (.iload_n 3, 1) := by decide +kernel
theorem dX14_works_23 : decode cX14_works 23 = .ok (.aload_n 0, 1) := by decide +kernel
theorem dX14_works_24 : decode cX14_works 24 = .ok (.getfield 33, 3) := by decide +kernel
theorem dX14_works_27 : decode cX14_works 27 = .ok (.iload_n 3, 1) := by decide +kernel
theorem dX14_works_28 : decode cX14_works 28 = .ok (.baload, 1) := by decide +kernel
theorem dX14_works_29 : decode cX14_works 29 = .ok (.ifCond .eq 7, 3) := by decide +kernel
theorem dX14_works_32 : decode cX14_works 32 = .ok (.iconst 0, 1) := by decide +kernel
theorem dX14_works_33 : decode cX14_works 33 = .ok (.goto 5, 3) := by decide +kernel
theorem dX14_works_36 : decode cX14_works 36 = .ok (.ldc 253, 2) := by decide +kernel
theorem dX14_works_38 : decode cX14_works 38 = .ok (.iastore, 1) := by decide +kernel
theorem dX14_works_39 : decode cX14_works 39 = .ok (.iinc 3 1, 3) := by decide +kernel
theorem dX14_works_42 : decode cX14_works 42 = .ok (.goto (-31), 3) := by decide +kernel
theorem dX14_works_45 : decode cX14_works 45 = .ok (.iconst 0, 1) := by decide +kernel
theorem dX14_works_46 : decode cX14_works 46 = .ok (.istore_n 3, 1) := by decide +kernel
theorem dX14_works_47 : decode cX14_works 47 = .ok (.iload_n 3, 1) := by decide +kernel
theorem dX14_works_48 : decode cX14_works 48 = .ok (.bipush 10, 2) := by decide +kernel
theorem dX14_works_50 : decode cX14_works 50 = .ok (.if_icmp .gt 85, 3) := by decide +kernel
theorem dX14_works_53 : decode cX14_works 53 = .ok (.aload_n 0, 1) := by decide +kernel
theorem dX14_works_54 : decode cX14_works 54 = .ok (.iconst 1, 1) := by decide +kernel
theorem dX14_works_55 : decode cX14_works 55 = .ok (.putfield 254, 3) := by decide +kernel
theorem dX14_works_58 : decode cX14_works 58 = .ok (.aload_n 0, 1) := by decide +kernel
theorem dX14_works_59 : decode cX14_works 59 = .ok (.getfield 254, 3) := by decide +kernel
theorem dX14_works_62 : decode cX14_works 62 = .ok (.ifCond .eq 67, 3) := by decide +kernel
theorem dX14_works_65 : decode cX14_works 65 = .ok (.aload_n 0, 1) := by decide +kernel
theorem dX14_works_66 : decode cX14_works 66 = .ok (.iconst 0, 1) := by decide +kernel
theorem dX14_works_67 : decode cX14_works 67 = .ok (.putfield 254, 3) := by decide +kernel
theorem dX14_works_70 : decode cX14_works 70 = .ok (.iconst 0, 1) := by decide +kernel
theorem dX14_works_71 : decode cX14_works 71 = .ok (.istore 4, 2) := by decide +kernel
theorem dX14_works_73 : decode cX14_works 73 = .ok (.iload 4, 2) := by decide +kernel
theorem dX14_works_75 : decode cX14_works 75 = .ok (.aload_n 0, 1) := by decide +kernel
theorem dX14_works_76 : decode cX14_works 76 = .ok (.getfield 93, 3) := by decide +kernel
theorem dX14_works_79 : decode cX14_works 79 = .ok (.if_icmp .ge 47, 3) := by decide +kernel
theorem dX14_works_82 : decode cX14_works 82 = .ok (.iload 4, 2) := by decide +kernel
theorem dX14_works_84 : decode cX14_works 84 = .ok (.iload_n 1, 1) := by decide +kernel
theorem dX14_works_85 : decode cX14_works 85 = .ok (.if_icmp .eq 35, 3) := by decide +kernel
theorem dX14_works_88 : decode cX14_works 88 = .ok (.aload_n 0, 1) := by decide +kernel
theorem dX14_works_89 : decode cX14_works 89 = .ok (.getfield 30, 3) := by decide +kernel
theorem dX14_works_92 : decode cX14_works 92 = .ok (.aload_n 0, 1) := by decide +kernel
theorem dX14_works_93 : decode cX14_works 93 = .ok (.getfield 42, 3) := by decide +kernel
theorem dX14_works_96 : decode cX14_works 96 = .ok (.iload 4, 2) := by decide +kernel
theorem dX14_works_98 : decode cX14_works 98 = .ok (.aaload, 1) := by decide +kernel
theorem dX14_works_99 : decode cX14_works 99 = .ok (.getfield 171, 3) := by decide +kernel
theorem dX14_works_102 : decode cX14_works 102 = .ok (.iconst 0, 1) := by decide +kernel
theorem dX14_works_103 : decode cX14_works 103 = .ok (.iaload, 1) := by decide +kernel
theorem dX14_works_104 : decode cX14_works 104 = .ok (.iaload, 1) := by decide +kernel
theorem dX14_works_105 : decode cX14_works 105 = .ok (.iload_n 3, 1) := by decide +kernel
theorem dX14_works_106 : decode cX14_works 106 = .ok (.if_icmp .ne 14, 3) := by decide +kernel
theorem dX14_works_109 : decode cX14_works 109 = .ok (.aload_n 0, 1) := by decide +kernel
theorem dX14_works_110 : decode cX14_works 110 = .ok (.aload_n 0, 1) := by decide +kernel
theorem dX14_works_111 : decode cX14_works 111 = .ok (.getfield 42, 3) := by decide +kernel
theorem dX14_works_114 : decode cX14_works 114 = .ok (.iload 4, 2) := by decide +kernel
theorem dX14_works_116 : decode cX14_works 116 = .ok (.aaload, 1) := by decide +kernel
theorem dX14_works_117 : decode cX14_works 117 = .ok (.invokevirtual 258, 3) := by decide +kernel
theorem dX14_works_120 : decode cX14_works 120 = .ok (.iinc 4 1, 3) := by decide +kernel
theorem dX14_works_123 : decode cX14_works 123 = .ok (.goto (-50), 3) := by decide +kernel
theorem dX14_works_126 : decode cX14_works 126 = .ok (.goto (-68), 3) := by decide +kernel
theorem dX14_works_129 : decode cX14_works 129 = .ok (.iinc 3 1, 3) := by decide +kernel
theorem dX14_works_132 : decode cX14_works 132 = .ok (.goto (-85), 3) := by decide +kernel
theorem dX14_works_135 : decode cX14_works 135 = .ok (.return_, 1) := by decide +kernel
theorem dX14_takes_0 : decode cX14_takes 0 = .ok (.iconst 0, 1) := by decide +kernel
theorem dX14_takes_1 : decode cX14_takes 1 = .ok (.istore_n 2, 1) := by decide +kernel
theorem dX14_takes_2 : decode cX14_takes 2 = .ok (.iload_n 2, 1) := by decide +kernel
theorem dX14_takes_3 : decode cX14_takes 3 = .ok (.iconst 3, 1) := by decide +kernel
theorem dX14_takes_4 : decode cX14_takes 4 = .ok (.if_icmp .ge 16, 3) := by decide +kernel
theorem dX14_takes_7 : decode cX14_takes 7 = .ok (.aload_n 0, 1) := by decide +kernel
theorem dX14_takes_8 : decode cX14_takes 8 = .ok (.getfield 66, 3) := by decide +kernel
theorem dX14_takes_11 : decode cX14_takes 11 = .ok (.iload_n 2, 1) := by decide +kernel
theorem dX14_takes_12 : decode cX14_takes 12 = .ok (.iconst (-1), 1) := by decide +kernel
theorem dX14_takes_13 : decode cX14_takes 13 = .ok (.iastore, 1) := by decide +kernel
theorem dX14_takes_14 : decode cX14_takes 14 = .ok (.iinc 2 1, 3) := by decide +kernel
theorem dX14_takes_17 : decode cX14_takes 17 = .ok (.goto (-15), 3) := by decide +kernel
theorem dX14_takes_20 : decode cX14_takes 20 = .ok (.aload_n 0, 1) := by decide +kernel
theorem dX14_takes_21 : decode cX14_takes 21 = .ok (.aload_n 1, 1) := by decide +kernel
theorem dX14_takes_22 : decode cX14_takes 22 = .ok (.iconst 1, 1) := by decide +kernel
theorem dX14_takes_23 : decode cX14_takes 23 = .ok (.iconst 0, 1) := by decide +kernel
theorem dX14_takes_24 : decode cX14_takes 24 = .ok (.invokevirtual 262, 3) := by decide +kernel
theorem dX14_takes_27 : decode cX14_takes 27 = .ok (.return_, 1) := by decide +kernel
theorem dX14_argOf_0 : decode cX14_argOf 0 = .ok (.iload_n 1, 1) := by decide +kernel
theorem dX14_argOf_1 : decode cX14_argOf 1 = .ok (.iconst (-1), 1) := by decide +kernel
theorem dX14_argOf_2 : decode cX14_argOf 2 = .ok (.if_icmp .ne 7, 3) := by decide +kernel
theorem dX14_argOf_5 : decode cX14_argOf 5 = .ok (.iconst 0, 1) := by decide +kernel
theorem dX14_argOf_6 : decode cX14_argOf 6 = .ok (.goto 22, 3) := by decide +kernel
theorem dX14_argOf_9 : decode cX14_argOf 9 = .ok (.iload_n 1, 1) := by decide +kernel
theorem dX14_argOf_10 : decode cX14_argOf 10 = .ok (.bipush 100, 2) := by decide +kernel
theorem dX14_argOf_12 : decode cX14_argOf 12 = .ok (.if_icmp .lt 15, 3) := by decide +kernel
theorem dX14_argOf_15 : decode cX14_argOf 15 = .ok (.aload_n 0, 1) := by decide +kernel
theorem dX14_argOf_16 : decode cX14_argOf 16 = .ok (.getfield 66, 3) := by decide +kernel
theorem dX14_argOf_19 : decode cX14_argOf 19 = .ok (.iload_n 1, 1) := by decide +kernel
theorem dX14_argOf_20 : decode cX14_argOf 20 = .ok (.bipush 100, 2) := by decide +kernel
theorem dX14_argOf_22 : decode cX14_argOf 22 = .ok (.isub, 1) := by decide +kernel
theorem dX14_argOf_23 : decode cX14_argOf 23 = .ok (.iaload, 1) := by decide +kernel
theorem dX14_argOf_24 : decode cX14_argOf 24 = .ok (.goto 4, 3) := by decide +kernel
theorem dX14_argOf_27 : decode cX14_argOf 27 = .ok (.iload_n 1, 1) := by decide +kernel
theorem dX14_argOf_28 : decode cX14_argOf 28 = .ok (.ireturn, 1) := by decide +kernel
theorem dX14_atomOf_0 : decode cX14_atomOf 0 = .ok (.bipush 100, 2) := by decide +kernel
theorem dX14_atomOf_2 : decode cX14_atomOf 2 = .ok (.aload_n 1, 1) := by decide +kernel
theorem dX14_atomOf_3 : decode cX14_atomOf 3 = .ok (.getfield 171, 3) := by decide +kernel
theorem dX14_atomOf_6 : decode cX14_atomOf 6 = .ok (.iload_n 2, 1) := by decide +kernel
theorem dX14_atomOf_7 : decode cX14_atomOf 7 = .ok (.iaload, 1) := by decide +kernel
theorem dX14_atomOf_8 : decode cX14_atomOf 8 = .ok (.imul, 1) := by decide +kernel
theorem dX14_atomOf_9 : decode cX14_atomOf 9 = .ok (.bipush 10, 2) := by decide +kernel
theorem dX14_atomOf_11 : decode cX14_atomOf 11 = .ok (.aload_n 0, 1) := by decide +kernel
theorem dX14_atomOf_12 : decode cX14_atomOf 12 = .ok (.aload_n 1, 1) := by decide +kernel
theorem dX14_atomOf_13 : decode cX14_atomOf 13 = .ok (.getfield 173, 3) := by decide +kernel
theorem dX14_atomOf_16 : decode cX14_atomOf 16 = .ok (.iload_n 2, 1) := by decide +kernel
theorem dX14_atomOf_17 : decode cX14_atomOf 17 = .ok (.iaload, 1) := by decide +kernel
theorem dX14_atomOf_18 : decode cX14_atomOf 18 = .ok (.invokevirtual 266, 3) := by decide +kernel
theorem dX14_atomOf_21 : decode cX14_atomOf 21 = .ok (.imul, 1) := by decide +kernel
theorem dX14_atomOf_22 : decode cX14_atomOf 22 = .ok (.iadd, 1) := by decide +kernel
theorem dX14_atomOf_23 : decode cX14_atomOf 23 = .ok (.aload_n 0, 1) := by decide +kernel
theorem dX14_atomOf_24 : decode cX14_atomOf 24 = .ok (.aload_n 1, 1) := by decide +kernel
theorem dX14_atomOf_25 : decode cX14_atomOf 25 = .ok (.getfield 176, 3) := by decide +kernel
theorem dX14_atomOf_28 : decode cX14_atomOf 28 = .ok (.iload_n 2, 1) := by decide +kernel
theorem dX14_atomOf_29 : decode cX14_atomOf 29 = .ok (.iaload, 1) := by decide +kernel
theorem dX14_atomOf_30 : decode cX14_atomOf 30 = .ok (.invokevirtual 266, 3) := by decide +kernel
theorem dX14_atomOf_33 : decode cX14_atomOf 33 = .ok (.iadd, 1) := by decide +kernel
theorem dX14_atomOf_34 : decode cX14_atomOf 34 = .ok (.ireturn, 1) := by decide +kernel
theorem dX14_fits_0 : decode cX14_fits 0 = .ok (.iload_n 1, 1) := by decide +kernel
theorem dX14_fits_1 : decode cX14_fits 1 = .ok (.bipush 100, 2) := by decide +kernel
theorem dX14_fits_3 : decode cX14_fits 3 = .ok (.if_icmp .ge 31, 3) := by decide +kernel
theorem dX14_fits_6 : decode cX14_fits 6 = .ok (.iload_n 1, 1) := by decide +kernel
theorem dX14_fits_7 : decode cX14_fits 7 = .ok (.iconst (-1), 1) := by decide +kernel
theorem dX14_fits_8 : decode cX14_fits 8 = .ok (.if_icmp .ne 15, 3) := by decide +kernel
theorem dX14_fits_11 : decode cX14_fits 11 = .ok (.iload_n 2, 1) := by decide +kernel
theorem dX14_fits_12 : decode cX14_fits 12 = .ok (.ifCond .ne 7, 3) := by decide +kernel
theorem dX14_fits_15 : decode cX14_fits 15 = .ok (.iconst 1, 1) := by decide +kernel
theorem dX14_fits_16 : decode cX14_fits 16 = .ok (.goto 17, 3) := by decide +kernel
theorem dX14_fits_19 : decode cX14_fits 19 = .ok (.iconst 0, 1) := by decide +kernel
theorem dX14_fits_20 : decode cX14_fits 20 = .ok (.goto 13, 3) := by decide +kernel
theorem dX14_fits_23 : decode cX14_fits 23 = .ok (.iload_n 1, 1) := by decide +kernel
theorem dX14_fits_24 : decode cX14_fits 24 = .ok (.iload_n 2, 1) := by decide +kernel
theorem dX14_fits_25 : decode cX14_fits 25 = .ok (.if_icmp .ne 7, 3) := by decide +kernel
theorem dX14_fits_28 : decode cX14_fits 28 = .ok (.iconst 1, 1) := by decide +kernel
theorem dX14_fits_29 : decode cX14_fits 29 = .ok (.goto 4, 3) := by decide +kernel
theorem dX14_fits_32 : decode cX14_fits 32 = .ok (.iconst 0, 1) := by decide +kernel
theorem dX14_fits_33 : decode cX14_fits 33 = .ok (.ireturn, 1) := by decide +kernel
theorem dX14_fits_34 : decode cX14_fits 34 = .ok (.aload_n 0, 1) := by decide +kernel
theorem dX14_fits_35 : decode cX14_fits 35 = .ok (.getfield 66, 3) := by decide +kernel
theorem dX14_fits_38 : decode cX14_fits 38 = .ok (.iload_n 1, 1) := by decide +kernel
theorem dX14_fits_39 : decode cX14_fits 39 = .ok (.bipush 100, 2) := by decide +kernel
theorem dX14_fits_41 : decode cX14_fits 41 = .ok (.isub, 1) := by decide +kernel
theorem dX14_fits_42 : decode cX14_fits 42 = .ok (.iaload, 1) := by decide +kernel
theorem dX14_fits_43 : decode cX14_fits 43 = .ok (.iconst (-1), 1) := by decide +kernel
theorem dX14_fits_44 : decode cX14_fits 44 = .ok (.if_icmp .eq 16, 3) := by decide +kernel
theorem dX14_fits_47 : decode cX14_fits 47 = .ok (.aload_n 0, 1) := by decide +kernel
theorem dX14_fits_48 : decode cX14_fits 48 = .ok (.getfield 66, 3) := by decide +kernel
theorem dX14_fits_51 : decode cX14_fits 51 = .ok (.iload_n 1, 1) := by decide +kernel
theorem dX14_fits_52 : decode cX14_fits 52 = .ok (.bipush 100, 2) := by decide +kernel
theorem dX14_fits_54 : decode cX14_fits 54 = .ok (.isub, 1) := by decide +kernel
theorem dX14_fits_55 : decode cX14_fits 55 = .ok (.iaload, 1) := by decide +kernel
theorem dX14_fits_56 : decode cX14_fits 56 = .ok (.iload_n 2, 1) := by decide +kernel
theorem dX14_fits_57 : decode cX14_fits 57 = .ok (.if_icmp .ne 7, 3) := by decide +kernel
theorem dX14_fits_60 : decode cX14_fits 60 = .ok (.iconst 1, 1) := by decide +kernel
theorem dX14_fits_61 : decode cX14_fits 61 = .ok (.goto 4, 3) := by decide +kernel
theorem dX14_fits_64 : decode cX14_fits 64 = .ok (.iconst 0, 1) := by decide +kernel
theorem dX14_fits_65 : decode cX14_fits 65 = .ok (.ireturn, 1) := by decide +kernel
theorem dX14_goes_0 : decode cX14_goes 0 = .ok (.iload_n 2, 1) := by decide +kernel
theorem dX14_goes_1 : decode cX14_goes 1 = .ok (.aload_n 1, 1) := by decide +kernel
theorem dX14_goes_2 : decode cX14_goes 2 = .ok (.getfield 199, 3) := by decide +kernel
theorem dX14_goes_5 : decode cX14_goes 5 = .ok (.if_icmp .le 50, 3) := by decide +kernel
theorem dX14_goes_8 : decode cX14_goes 8 = .ok (.aload_n 0, 1) := by decide +kernel
theorem dX14_goes_9 : decode cX14_goes 9 = .ok (.aload_n 1, 1) := by decide +kernel
theorem dX14_goes_10 : decode cX14_goes 10 = .ok (.invokevirtual 269, 3) := by decide +kernel
theorem dX14_goes_13 : decode cX14_goes 13 = .ok (.ifCond .ne 4, 3) := by decide +kernel
theorem dX14_goes_16 : decode cX14_goes 16 = .ok (.return_, 1) := by decide +kernel
theorem dX14_goes_17 : decode cX14_goes 17 = .ok (.aload_n 0, 1) := by decide +kernel
theorem dX14_goes_18 : decode cX14_goes 18 = .ok (.aload_n 1, 1) := by decide +kernel
theorem dX14_goes_19 : decode cX14_goes 19 = .ok (.iconst 0, 1) := by decide +kernel
theorem dX14_goes_20 : decode cX14_goes 20 = .ok (.invokevirtual 273, 3) := by decide +kernel
theorem dX14_goes_23 : decode cX14_goes 23 = .ok (.istore 4, 2) := by decide +kernel
theorem dX14_goes_25 : decode cX14_goes 25 = .ok (.iload_n 3, 1) := by decide +kernel
theorem dX14_goes_26 : decode cX14_goes 26 = .ok (.iconst 1, 1) := by decide +kernel
theorem dX14_goes_27 : decode cX14_goes 27 = .ok (.iadd, 1) := by decide +kernel
theorem dX14_goes_28 : decode cX14_goes 28 = .ok (.aload_n 0, 1) := by decide +kernel
theorem dX14_goes_29 : decode cX14_goes 29 = .ok (.getfield 63, 3) := by decide +kernel
theorem dX14_goes_32 : decode cX14_goes 32 = .ok (.iload 4, 2) := by decide +kernel
theorem dX14_goes_34 : decode cX14_goes 34 = .ok (.iaload, 1) := by decide +kernel
theorem dX14_goes_35 : decode cX14_goes 35 = .ok (.if_icmp .lt 4, 3) := by decide +kernel
theorem dX14_goes_38 : decode cX14_goes 38 = .ok (.return_, 1) := by decide +kernel
theorem dX14_goes_39 : decode cX14_goes 39 = .ok (.aload_n 0, 1) := by decide +kernel
theorem dX14_goes_40 : decode cX14_goes 40 = .ok (.getfield 63, 3) := by decide +kernel
theorem dX14_goes_43 : decode cX14_goes 43 = .ok (.iload 4, 2) := by decide +kernel
theorem dX14_goes_45 : decode cX14_goes 45 = .ok (.iload_n 3, 1) := by decide +kernel
theorem dX14_goes_46 : decode cX14_goes 46 = .ok (.iconst 1, 1) := by decide +kernel
theorem dX14_goes_47 : decode cX14_goes 47 = .ok (.iadd, 1) := by decide +kernel
theorem dX14_goes_48 : decode cX14_goes 48 = .ok (.iastore, 1) := by decide +kernel
theorem dX14_goes_49 : decode cX14_goes 49 = .ok (.aload_n 0, 1) := by decide +kernel
theorem dX14_goes_50 : decode cX14_goes 50 = .ok (.iconst 1, 1) := by decide +kernel
theorem dX14_goes_51 : decode cX14_goes 51 = .ok (.putfield 254, 3) := by decide +kernel
theorem dX14_goes_54 : decode cX14_goes 54 = .ok (.return_, 1) := by decide +kernel
theorem dX14_goes_55 : decode cX14_goes 55 = .ok (.aload_n 1, 1) := by decide +kernel
theorem dX14_goes_56 : decode cX14_goes 56 = .ok (.getfield 169, 3) := by decide +kernel
theorem dX14_goes_59 : decode cX14_goes 59 = .ok (.iload_n 2, 1) := by decide +kernel
theorem dX14_goes_60 : decode cX14_goes 60 = .ok (.iaload, 1) := by decide +kernel
theorem dX14_goes_61 : decode cX14_goes 61 = .ok (.ifCond .eq 13, 3) := by decide +kernel
theorem dX14_goes_64 : decode cX14_goes 64 = .ok (.aload_n 0, 1) := by decide +kernel
theorem dX14_goes_65 : decode cX14_goes 65 = .ok (.aload_n 1, 1) := by decide +kernel
theorem dX14_goes_66 : decode cX14_goes 66 = .ok (.iload_n 2, 1) := by decide +kernel
theorem dX14_goes_67 : decode cX14_goes 67 = .ok (.iconst 1, 1) := by decide +kernel
theorem dX14_goes_68 : decode cX14_goes 68 = .ok (.iadd, 1) := by decide +kernel
theorem dX14_goes_69 : decode cX14_goes 69 = .ok (.iload_n 3, 1) := by decide +kernel
theorem dX14_goes_70 : decode cX14_goes 70 = .ok (.invokevirtual 262, 3) := by decide +kernel
theorem dX14_goes_73 : decode cX14_goes 73 = .ok (.return_, 1) := by decide +kernel
theorem dX14_goes_74 : decode cX14_goes 74 = .ok (.bipush 100, 2) := by decide +kernel
theorem dX14_goes_76 : decode cX14_goes 76 = .ok (.aload_n 1, 1) := by decide +kernel
theorem dX14_goes_77 : decode cX14_goes 77 = .ok (.getfield 171, 3) := by decide +kernel
theorem dX14_goes_80 : decode cX14_goes 80 = .ok (.iload_n 2, 1) := by decide +kernel
theorem dX14_goes_81 : decode cX14_goes 81 = .ok (.iaload, 1) := by decide +kernel
theorem dX14_goes_82 : decode cX14_goes 82 = .ok (.imul, 1) := by decide +kernel
theorem dX14_goes_83 : decode cX14_goes 83 = .ok (.istore 4, 2) := by decide +kernel
theorem dX14_goes_85 : decode cX14_goes 85 = .ok (.iload 4, 2) := by decide +kernel
theorem dX14_goes_87 : decode cX14_goes 87 = .ok (.bipush 100, 2) := by decide +kernel
theorem dX14_goes_89 : decode cX14_goes 89 = .ok (.aload_n 1, 1) := by decide +kernel
theorem dX14_goes_90 : decode cX14_goes 90 = .ok (.getfield 171, 3) := by decide +kernel
theorem dX14_goes_93 : decode cX14_goes 93 = .ok (.iload_n 2, 1) := by decide +kernel
theorem dX14_goes_94 : decode cX14_goes 94 = .ok (.iaload, 1) := by decide +kernel
theorem dX14_goes_95 : decode cX14_goes 95 = .ok (.imul, 1) := by decide +kernel
theorem dX14_goes_96 : decode cX14_goes 96 = .ok (.bipush 100, 2) := by decide +kernel
theorem dX14_goes_98 : decode cX14_goes 98 = .ok (.iadd, 1) := by decide +kernel
theorem dX14_goes_99 : decode cX14_goes 99 = .ok (.if_icmp .ge 273, 3) := by decide +kernel
theorem dX14_goes_102 : decode cX14_goes 102 = .ok (.aload_n 0, 1) := by decide +kernel
theorem dX14_goes_103 : decode cX14_goes 103 = .ok (.getfield 63, 3) := by decide +kernel
theorem dX14_goes_106 : decode cX14_goes 106 = .ok (.iload 4, 2) := by decide +kernel
theorem dX14_goes_108 : decode cX14_goes 108 = .ok (.iaload, 1) := by decide +kernel
theorem dX14_goes_109 : decode cX14_goes 109 = .ok (.ldc 253, 2) := by decide +kernel
theorem dX14_goes_111 : decode cX14_goes 111 = .ok (.if_icmp .ge 255, 3) := by decide +kernel
theorem dX14_goes_114 : decode cX14_goes 114 = .ok (.aload_n 0, 1) := by decide +kernel
theorem dX14_goes_115 : decode cX14_goes 115 = .ok (.aload_n 1, 1) := by decide +kernel
theorem dX14_goes_116 : decode cX14_goes 116 = .ok (.getfield 173, 3) := by decide +kernel
theorem dX14_goes_119 : decode cX14_goes 119 = .ok (.iload_n 2, 1) := by decide +kernel
theorem dX14_goes_120 : decode cX14_goes 120 = .ok (.iaload, 1) := by decide +kernel
theorem dX14_goes_121 : decode cX14_goes 121 = .ok (.iload 4, 2) := by decide +kernel
theorem dX14_goes_123 : decode cX14_goes 123 = .ok (.bipush 10, 2) := by decide +kernel
theorem dX14_goes_125 : decode cX14_goes 125 = .ok (.idiv, 1) := by decide +kernel
theorem dX14_goes_126 : decode cX14_goes 126 = .ok (.bipush 10, 2) := by decide +kernel
theorem dX14_goes_128 : decode cX14_goes 128 = .ok (.irem, 1) := by decide +kernel
theorem dX14_goes_129 : decode cX14_goes 129 = .ok (.invokevirtual 276, 3) := by decide +kernel
theorem dX14_goes_132 : decode cX14_goes 132 = .ok (.ifCond .eq 234, 3) := by decide +kernel
theorem dX14_goes_135 : decode cX14_goes 135 = .ok (.aload_n 0, 1) := by decide +kernel
theorem dX14_goes_136 : decode cX14_goes 136 = .ok (.aload_n 1, 1) := by decide +kernel
theorem dX14_goes_137 : decode cX14_goes 137 = .ok (.getfield 176, 3) := by decide +kernel
theorem dX14_goes_140 : decode cX14_goes 140 = .ok (.iload_n 2, 1) := by decide +kernel
theorem dX14_goes_141 : decode cX14_goes 141 = .ok (.iaload, 1) := by decide +kernel
theorem dX14_goes_142 : decode cX14_goes 142 = .ok (.iload 4, 2) := by decide +kernel
theorem dX14_goes_144 : decode cX14_goes 144 = .ok (.bipush 10, 2) := by decide +kernel
theorem dX14_goes_146 : decode cX14_goes 146 = .ok (.irem, 1) := by decide +kernel
theorem dX14_goes_147 : decode cX14_goes 147 = .ok (.invokevirtual 276, 3) := by decide +kernel
theorem dX14_goes_150 : decode cX14_goes 150 = .ok (.ifCond .ne 6, 3) := by decide +kernel
theorem dX14_goes_153 : decode cX14_goes 153 = .ok (.goto 213, 3) := by decide +kernel
theorem dX14_goes_156 : decode cX14_goes 156 = .ok (.aload_n 1, 1) := by decide +kernel
theorem dX14_goes_157 : decode cX14_goes 157 = .ok (.getfield 173, 3) := by decide +kernel
theorem dX14_goes_160 : decode cX14_goes 160 = .ok (.iload_n 2, 1) := by decide +kernel
theorem dX14_goes_161 : decode cX14_goes 161 = .ok (.iaload, 1) := by decide +kernel
theorem dX14_goes_162 : decode cX14_goes 162 = .ok (.bipush 100, 2) := by decide +kernel
theorem dX14_goes_164 : decode cX14_goes 164 = .ok (.if_icmp .lt 15, 3) := by decide +kernel
theorem dX14_goes_167 : decode cX14_goes 167 = .ok (.aload_n 1, 1) := by decide +kernel
theorem dX14_goes_168 : decode cX14_goes 168 = .ok (.getfield 173, 3) := by decide +kernel
theorem dX14_goes_171 : decode cX14_goes 171 = .ok (.iload_n 2, 1) := by decide +kernel
theorem dX14_goes_172 : decode cX14_goes 172 = .ok (.iaload, 1) := by decide +kernel
theorem dX14_goes_173 : decode cX14_goes 173 = .ok (.bipush 100, 2) := by decide +kernel
theorem dX14_goes_175 : decode cX14_goes 175 = .ok (.isub, 1) := by decide +kernel
theorem dX14_goes_176 : decode cX14_goes 176 = .ok (.goto 4, 3) := by decide +kernel
theorem dX14_goes_179 : decode cX14_goes 179 = .ok (.iconst (-1), 1) := by decide +kernel
theorem dX14_goes_180 : decode cX14_goes 180 = .ok (.istore 5, 2) := by decide +kernel
theorem dX14_goes_182 : decode cX14_goes 182 = .ok (.aload_n 1, 1) := by decide +kernel
theorem dX14_goes_183 : decode cX14_goes 183 = .ok (.getfield 176, 3) := by decide +kernel
theorem dX14_goes_186 : decode cX14_goes 186 = .ok (.iload_n 2, 1) := by decide +kernel
theorem dX14_goes_187 : decode cX14_goes 187 = .ok (.iaload, 1) := by decide +kernel
theorem dX14_goes_188 : decode cX14_goes 188 = .ok (.bipush 100, 2) := by decide +kernel
theorem dX14_goes_190 : decode cX14_goes 190 = .ok (.if_icmp .lt 15, 3) := by decide +kernel
theorem dX14_goes_193 : decode cX14_goes 193 = .ok (.aload_n 1, 1) := by decide +kernel
theorem dX14_goes_194 : decode cX14_goes 194 = .ok (.getfield 176, 3) := by decide +kernel
theorem dX14_goes_197 : decode cX14_goes 197 = .ok (.iload_n 2, 1) := by decide +kernel
theorem dX14_goes_198 : decode cX14_goes 198 = .ok (.iaload, 1) := by decide +kernel
theorem dX14_goes_199 : decode cX14_goes 199 = .ok (.bipush 100, 2) := by decide +kernel
theorem dX14_goes_201 : decode cX14_goes 201 = .ok (.isub, 1) := by decide +kernel
theorem dX14_goes_202 : decode cX14_goes 202 = .ok (.goto 4, 3) := by decide +kernel
theorem dX14_goes_205 : decode cX14_goes 205 = .ok (.iconst (-1), 1) := by decide +kernel
theorem dX14_goes_206 : decode cX14_goes 206 = .ok (.istore 6, 2) := by decide +kernel
theorem dX14_goes_208 : decode cX14_goes 208 = .ok (.iload 5, 2) := by decide +kernel
theorem dX14_goes_210 : decode cX14_goes 210 = .ok (.iconst (-1), 1) := by decide +kernel
theorem dX14_goes_211 : decode cX14_goes 211 = .ok (.if_icmp .eq 29, 3) := by decide +kernel
theorem dX14_goes_214 : decode cX14_goes 214 = .ok (.iload 5, 2) := by decide +kernel
theorem dX14_goes_216 : decode cX14_goes 216 = .ok (.iload 6, 2) := by decide +kernel
theorem dX14_goes_218 : decode cX14_goes 218 = .ok (.if_icmp .ne 22, 3) := by decide +kernel
theorem dX14_goes_221 : decode cX14_goes 221 = .ok (.iload 4, 2) := by decide +kernel
theorem dX14_goes_223 : decode cX14_goes 223 = .ok (.bipush 10, 2) := by decide +kernel
theorem dX14_goes_225 : decode cX14_goes 225 = .ok (.idiv, 1) := by decide +kernel
theorem dX14_goes_226 : decode cX14_goes 226 = .ok (.bipush 10, 2) := by decide +kernel
theorem dX14_goes_228 : decode cX14_goes 228 = .ok (.irem, 1) := by decide +kernel
theorem dX14_goes_229 : decode cX14_goes 229 = .ok (.iload 4, 2) := by decide +kernel
theorem dX14_goes_231 : decode cX14_goes 231 = .ok (.bipush 10, 2) := by decide +kernel
theorem dX14_goes_233 : decode cX14_goes 233 = .ok (.irem, 1) := by decide +kernel
theorem dX14_goes_234 : decode cX14_goes 234 = .ok (.if_icmp .eq 6, 3) := by decide +kernel
theorem dX14_goes_237 : decode cX14_goes 237 = .ok (.goto 129, 3) := by decide +kernel
theorem dX14_goes_240 : decode cX14_goes 240 = .ok (.iload 5, 2) := by decide +kernel
theorem dX14_goes_242 : decode cX14_goes 242 = .ok (.iconst (-1), 1) := by decide +kernel
theorem dX14_goes_243 : decode cX14_goes 243 = .ok (.if_icmp .ne 7, 3) := by decide +kernel
theorem dX14_goes_246 : decode cX14_goes 246 = .ok (.iconst 0, 1) := by decide +kernel
theorem dX14_goes_247 : decode cX14_goes 247 = .ok (.goto 10, 3) := by decide +kernel
theorem dX14_goes_250 : decode cX14_goes 250 = .ok (.aload_n 0, 1) := by decide +kernel
theorem dX14_goes_251 : decode cX14_goes 251 = .ok (.getfield 66, 3) := by decide +kernel
theorem dX14_goes_254 : decode cX14_goes 254 = .ok (.iload 5, 2) := by decide +kernel
theorem dX14_goes_256 : decode cX14_goes 256 = .ok (.iaload, 1) := by decide +kernel
theorem dX14_goes_257 : decode cX14_goes 257 = .ok (.istore 7, 2) := by decide +kernel
theorem dX14_goes_259 : decode cX14_goes 259 = .ok (.iload 6, 2) := by decide +kernel
theorem dX14_goes_261 : decode cX14_goes 261 = .ok (.iconst (-1), 1) := by decide +kernel
theorem dX14_goes_262 : decode cX14_goes 262 = .ok (.if_icmp .ne 7, 3) := by decide +kernel
theorem dX14_goes_265 : decode cX14_goes 265 = .ok (.iconst 0, 1) := by decide +kernel
theorem dX14_goes_266 : decode cX14_goes 266 = .ok (.goto 10, 3) := by decide +kernel
theorem dX14_goes_269 : decode cX14_goes 269 = .ok (.aload_n 0, 1) := by decide +kernel
theorem dX14_goes_270 : decode cX14_goes 270 = .ok (.getfield 66, 3) := by decide +kernel
theorem dX14_goes_273 : decode cX14_goes 273 = .ok (.iload 6, 2) := by decide +kernel
theorem dX14_goes_275 : decode cX14_goes 275 = .ok (.iaload, 1) := by decide +kernel
theorem dX14_goes_276 : decode cX14_goes 276 = .ok (.istore 8, 2) := by decide +kernel
theorem dX14_goes_278 : decode cX14_goes 278 = .ok (.iload 5, 2) := by decide +kernel
theorem dX14_goes_280 : decode cX14_goes 280 = .ok (.iconst (-1), 1) := by decide +kernel
theorem dX14_goes_281 : decode cX14_goes 281 = .ok (.if_icmp .eq 18, 3) := by decide +kernel
theorem dX14_goes_284 : decode cX14_goes 284 = .ok (.aload_n 0, 1) := by decide +kernel
theorem dX14_goes_285 : decode cX14_goes 285 = .ok (.getfield 66, 3) := by decide +kernel
theorem dX14_goes_288 : decode cX14_goes 288 = .ok (.iload 5, 2) := by decide +kernel
theorem dX14_goes_290 : decode cX14_goes 290 = .ok (.iload 4, 2) := by decide +kernel
theorem dX14_goes_292 : decode cX14_goes 292 = .ok (.bipush 10, 2) := by decide +kernel
theorem dX14_goes_294 : decode cX14_goes 294 = .ok (.idiv, 1) := by decide +kernel
theorem dX14_goes_295 : decode cX14_goes 295 = .ok (.bipush 10, 2) := by decide +kernel
theorem dX14_goes_297 : decode cX14_goes 297 = .ok (.irem, 1) := by decide +kernel
theorem dX14_goes_298 : decode cX14_goes 298 = .ok (.iastore, 1) := by decide +kernel
theorem dX14_goes_299 : decode cX14_goes 299 = .ok (.iload 6, 2) := by decide +kernel
theorem dX14_goes_301 : decode cX14_goes 301 = .ok (.iconst (-1), 1) := by decide +kernel
theorem dX14_goes_302 : decode cX14_goes 302 = .ok (.if_icmp .eq 15, 3) := by decide +kernel
theorem dX14_goes_305 : decode cX14_goes 305 = .ok (.aload_n 0, 1) := by decide +kernel
theorem dX14_goes_306 : decode cX14_goes 306 = .ok (.getfield 66, 3) := by decide +kernel
theorem dX14_goes_309 : decode cX14_goes 309 = .ok (.iload 6, 2) := by decide +kernel
theorem dX14_goes_311 : decode cX14_goes 311 = .ok (.iload 4, 2) := by decide +kernel
theorem dX14_goes_313 : decode cX14_goes 313 = .ok (.bipush 10, 2) := by decide +kernel
theorem dX14_goes_315 : decode cX14_goes 315 = .ok (.irem, 1) := by decide +kernel
theorem dX14_goes_316 : decode cX14_goes 316 = .ok (.iastore, 1) := by decide +kernel
theorem dX14_goes_317 : decode cX14_goes 317 = .ok (.aload_n 0, 1) := by decide +kernel
theorem dX14_goes_318 : decode cX14_goes 318 = .ok (.aload_n 1, 1) := by decide +kernel
theorem dX14_goes_319 : decode cX14_goes 319 = .ok (.iload_n 2, 1) := by decide +kernel
theorem dX14_goes_320 : decode cX14_goes 320 = .ok (.iconst 1, 1) := by decide +kernel
theorem dX14_goes_321 : decode cX14_goes 321 = .ok (.iadd, 1) := by decide +kernel
theorem dX14_goes_322 : decode cX14_goes 322 = .ok (.iload_n 3, 1) := by decide +kernel
theorem dX14_goes_323 : decode cX14_goes 323 = .ok (.aload_n 0, 1) := by decide +kernel
theorem dX14_goes_324 : decode cX14_goes 324 = .ok (.getfield 63, 3) := by decide +kernel
theorem dX14_goes_327 : decode cX14_goes 327 = .ok (.iload 4, 2) := by decide +kernel
theorem dX14_goes_329 : decode cX14_goes 329 = .ok (.iaload, 1) := by decide +kernel
theorem dX14_goes_330 : decode cX14_goes 330 = .ok (.invokestatic 205, 3) := by decide +kernel
theorem dX14_goes_333 : decode cX14_goes 333 = .ok (.invokevirtual 262, 3) := by decide +kernel
theorem dX14_goes_336 : decode cX14_goes 336 = .ok (.iload 6, 2) := by decide +kernel
theorem dX14_goes_338 : decode cX14_goes 338 = .ok (.iconst (-1), 1) := by decide +kernel
theorem dX14_goes_339 : decode cX14_goes 339 = .ok (.if_icmp .eq 12, 3) := by decide +kernel
theorem dX14_goes_342 : decode cX14_goes 342 = .ok (.aload_n 0, 1) := by decide +kernel
theorem dX14_goes_343 : decode cX14_goes 343 = .ok (.getfield 66, 3) := by decide +kernel
theorem dX14_goes_346 : decode cX14_goes 346 = .ok (.iload 6, 2) := by decide +kernel
theorem dX14_goes_348 : decode cX14_goes 348 = .ok (.iload 8, 2) := by decide +kernel
theorem dX14_goes_350 : decode cX14_goes 350 = .ok (.iastore, 1) := by decide +kernel
theorem dX14_goes_351 : decode cX14_goes 351 = .ok (.iload 5, 2) := by decide +kernel
theorem dX14_goes_353 : decode cX14_goes 353 = .ok (.iconst (-1), 1) := by decide +kernel
theorem dX14_goes_354 : decode cX14_goes 354 = .ok (.if_icmp .eq 12, 3) := by decide +kernel
theorem dX14_goes_357 : decode cX14_goes 357 = .ok (.aload_n 0, 1) := by decide +kernel
theorem dX14_goes_358 : decode cX14_goes 358 = .ok (.getfield 66, 3) := by decide +kernel
theorem dX14_goes_361 : decode cX14_goes 361 = .ok (.iload 5, 2) := by decide +kernel
theorem dX14_goes_363 : decode cX14_goes 363 = .ok (.iload 7, 2) := by decide +kernel
theorem dX14_goes_365 : decode cX14_goes 365 = .ok (.iastore, 1) := by decide +kernel
theorem dX14_goes_366 : decode cX14_goes 366 = .ok (.iinc 4 1, 3) := by decide +kernel
theorem dX14_goes_369 : decode cX14_goes 369 = .ok (.goto (-284), 3) := by decide +kernel
theorem dX14_goes_372 : decode cX14_goes 372 = .ok (.return_, 1) := by decide +kernel
theorem dX14_hold_0 : decode cX14_hold 0 = .ok (.iconst 1, 1) := by decide +kernel
theorem dX14_hold_1 : decode cX14_hold 1 = .ok (.istore_n 2, 1) := by decide +kernel
theorem dX14_hold_2 : decode cX14_hold 2 = .ok (.iconst 1, 1) := by decide +kernel
theorem dX14_hold_3 : decode cX14_hold 3 = .ok (.istore_n 3, 1) := by decide +kernel
theorem dX14_hold_4 : decode cX14_hold 4 = .ok (.iload_n 3, 1) := by decide +kernel
end
section
theorem dX14_hold_5 : decode cX14_hold 5 = .ok (.aload_n 1, 1) := by decide +kernel
theorem dX14_hold_6 : decode cX14_hold 6 = .ok (.getfield 199, 3) := by decide +kernel
theorem dX14_hold_9 : decode cX14_hold 9 = .ok (.if_icmp .gt 37, 3) := by decide +kernel
theorem dX14_hold_12 : decode cX14_hold 12 = .ok (.iload_n 2, 1) := by decide +kernel
theorem dX14_hold_13 : decode cX14_hold 13 = .ok (.ifCond .eq 25, 3) := by decide +kernel
theorem dX14_hold_16 : decode cX14_hold 16 = .ok (.aload_n 1, 1) := by decide +kernel
theorem dX14_hold_17 : decode cX14_hold 17 = .ok (.getfield 169, 3) := by decide +kernel
theorem dX14_hold_20 : decode cX14_hold 20 = .ok (.iload_n 3, 1) := by decide +kernel
theorem dX14_hold_21 : decode cX14_hold 21 = .ok (.iaload, 1) := by decide +kernel
theorem dX14_hold_22 : decode cX14_hold 22 = .ok (.ifCond .eq 12, 3) := by decide +kernel
theorem dX14_hold_25 : decode cX14_hold 25 = .ok (.aload_n 0, 1) := by decide +kernel
theorem dX14_hold_26 : decode cX14_hold 26 = .ok (.aload_n 1, 1) := by decide +kernel
theorem dX14_hold_27 : decode cX14_hold 27 = .ok (.iload_n 3, 1) := by decide +kernel
theorem dX14_hold_28 : decode cX14_hold 28 = .ok (.invokevirtual 280, 3) := by decide +kernel
theorem dX14_hold_31 : decode cX14_hold 31 = .ok (.ifCond .eq 7, 3) := by decide +kernel
theorem dX14_hold_34 : decode cX14_hold 34 = .ok (.iconst 1, 1) := by decide +kernel
theorem dX14_hold_35 : decode cX14_hold 35 = .ok (.goto 4, 3) := by decide +kernel
theorem dX14_hold_38 : decode cX14_hold 38 = .ok (.iconst 0, 1) := by decide +kernel
theorem dX14_hold_39 : decode cX14_hold 39 = .ok (.istore_n 2, 1) := by decide +kernel
theorem dX14_hold_40 : decode cX14_hold 40 = .ok (.iinc 3 1, 3) := by decide +kernel
theorem dX14_hold_43 : decode cX14_hold 43 = .ok (.goto (-39), 3) := by decide +kernel
theorem dX14_hold_46 : decode cX14_hold 46 = .ok (.iload_n 2, 1) := by decide +kernel
theorem dX14_hold_47 : decode cX14_hold 47 = .ok (.ireturn, 1) := by decide +kernel
theorem dX14_holds_0 : decode cX14_holds 0 = .ok (.aload_n 1, 1) := by decide +kernel
theorem dX14_holds_1 : decode cX14_holds 1 = .ok (.getfield 169, 3) := by decide +kernel
theorem dX14_holds_4 : decode cX14_holds 4 = .ok (.iload_n 2, 1) := by decide +kernel
theorem dX14_holds_5 : decode cX14_holds 5 = .ok (.iaload, 1) := by decide +kernel
theorem dX14_holds_6 : decode cX14_holds 6 = .ok (.iconst 2, 1) := by decide +kernel
theorem dX14_holds_7 : decode cX14_holds 7 = .ok (.if_icmp .ne 32, 3) := by decide +kernel
theorem dX14_holds_10 : decode cX14_holds 10 = .ok (.aload_n 0, 1) := by decide +kernel
theorem dX14_holds_11 : decode cX14_holds 11 = .ok (.aload_n 1, 1) := by decide +kernel
theorem dX14_holds_12 : decode cX14_holds 12 = .ok (.getfield 173, 3) := by decide +kernel
theorem dX14_holds_15 : decode cX14_holds 15 = .ok (.iload_n 2, 1) := by decide +kernel
theorem dX14_holds_16 : decode cX14_holds 16 = .ok (.iaload, 1) := by decide +kernel
theorem dX14_holds_17 : decode cX14_holds 17 = .ok (.invokevirtual 266, 3) := by decide +kernel
theorem dX14_holds_20 : decode cX14_holds 20 = .ok (.aload_n 0, 1) := by decide +kernel
theorem dX14_holds_21 : decode cX14_holds 21 = .ok (.aload_n 1, 1) := by decide +kernel
theorem dX14_holds_22 : decode cX14_holds 22 = .ok (.getfield 176, 3) := by decide +kernel
theorem dX14_holds_25 : decode cX14_holds 25 = .ok (.iload_n 2, 1) := by decide +kernel
theorem dX14_holds_26 : decode cX14_holds 26 = .ok (.iaload, 1) := by decide +kernel
theorem dX14_holds_27 : decode cX14_holds 27 = .ok (.invokevirtual 266, 3) := by decide +kernel
theorem dX14_holds_30 : decode cX14_holds 30 = .ok (.if_icmp .eq 7, 3) := by decide +kernel
theorem dX14_holds_33 : decode cX14_holds 33 = .ok (.iconst 1, 1) := by decide +kernel
theorem dX14_holds_34 : decode cX14_holds 34 = .ok (.goto 4, 3) := by decide +kernel
theorem dX14_holds_37 : decode cX14_holds 37 = .ok (.iconst 0, 1) := by decide +kernel
theorem dX14_holds_38 : decode cX14_holds 38 = .ok (.ireturn, 1) := by decide +kernel
theorem dX14_holds_39 : decode cX14_holds 39 = .ok (.aload_n 0, 1) := by decide +kernel
theorem dX14_holds_40 : decode cX14_holds 40 = .ok (.getfield 63, 3) := by decide +kernel
theorem dX14_holds_43 : decode cX14_holds 43 = .ok (.aload_n 0, 1) := by decide +kernel
theorem dX14_holds_44 : decode cX14_holds 44 = .ok (.aload_n 1, 1) := by decide +kernel
theorem dX14_holds_45 : decode cX14_holds 45 = .ok (.iload_n 2, 1) := by decide +kernel
theorem dX14_holds_46 : decode cX14_holds 46 = .ok (.invokevirtual 273, 3) := by decide +kernel
theorem dX14_holds_49 : decode cX14_holds 49 = .ok (.iaload, 1) := by decide +kernel
theorem dX14_holds_50 : decode cX14_holds 50 = .ok (.ldc 253, 2) := by decide +kernel
theorem dX14_holds_52 : decode cX14_holds 52 = .ok (.if_icmp .ge 7, 3) := by decide +kernel
theorem dX14_holds_55 : decode cX14_holds 55 = .ok (.iconst 1, 1) := by decide +kernel
theorem dX14_holds_56 : decode cX14_holds 56 = .ok (.goto 4, 3) := by decide +kernel
theorem dX14_holds_59 : decode cX14_holds 59 = .ok (.iconst 0, 1) := by decide +kernel
theorem dX14_holds_60 : decode cX14_holds 60 = .ok (.aload_n 1, 1) := by decide +kernel
theorem dX14_holds_61 : decode cX14_holds 61 = .ok (.getfield 169, 3) := by decide +kernel
theorem dX14_holds_64 : decode cX14_holds 64 = .ok (.iload_n 2, 1) := by decide +kernel
theorem dX14_holds_65 : decode cX14_holds 65 = .ok (.iaload, 1) := by decide +kernel
theorem dX14_holds_66 : decode cX14_holds 66 = .ok (.ifCond .ne 7, 3) := by decide +kernel
theorem dX14_holds_69 : decode cX14_holds 69 = .ok (.iconst 1, 1) := by decide +kernel
theorem dX14_holds_70 : decode cX14_holds 70 = .ok (.goto 4, 3) := by decide +kernel
theorem dX14_holds_73 : decode cX14_holds 73 = .ok (.iconst 0, 1) := by decide +kernel
theorem dX14_holds_74 : decode cX14_holds 74 = .ok (.if_icmp .ne 7, 3) := by decide +kernel
theorem dX14_holds_77 : decode cX14_holds 77 = .ok (.iconst 1, 1) := by decide +kernel
theorem dX14_holds_78 : decode cX14_holds 78 = .ok (.goto 4, 3) := by decide +kernel
theorem dX14_holds_81 : decode cX14_holds 81 = .ok (.iconst 0, 1) := by decide +kernel
theorem dX14_holds_82 : decode cX14_holds 82 = .ok (.ireturn, 1) := by decide +kernel
theorem dX14_follows_0 : decode cX14_follows 0 = .ok (.aload_n 0, 1) := by decide +kernel
theorem dX14_follows_1 : decode cX14_follows 1 = .ok (.iconst 0, 1) := by decide +kernel
theorem dX14_follows_2 : decode cX14_follows 2 = .ok (.putfield 84, 3) := by decide +kernel
theorem dX14_follows_5 : decode cX14_follows 5 = .ok (.aload_n 0, 1) := by decide +kernel
theorem dX14_follows_6 : decode cX14_follows 6 = .ok (.iload_n 1, 1) := by decide +kernel
theorem dX14_follows_7 : decode cX14_follows 7 = .ok (.invokevirtual 239, 3) := by decide +kernel
theorem dX14_follows_10 : decode cX14_follows 10 = .ok (.ifCond .ne 5, 3) := by decide +kernel
theorem dX14_follows_13 : decode cX14_follows 13 = .ok (.iconst (-1), 1) := by decide +kernel
theorem dX14_follows_14 : decode cX14_follows 14 = .ok (.ireturn, 1) := by decide +kernel
theorem dX14_follows_15 : decode cX14_follows 15 = .ok (.aload_n 0, 1) := by decide +kernel
theorem dX14_follows_16 : decode cX14_follows 16 = .ok (.iconst (-1), 1) := by decide +kernel
theorem dX14_follows_17 : decode cX14_follows 17 = .ok (.invokevirtual 284, 3) := by decide +kernel
theorem dX14_follows_20 : decode cX14_follows 20 = .ok (.aload_n 0, 1) := by decide +kernel
theorem dX14_follows_21 : decode cX14_follows 21 = .ok (.getfield 33, 3) := by decide +kernel
theorem dX14_follows_24 : decode cX14_follows 24 = .ok (.iload_n 1, 1) := by decide +kernel
theorem dX14_follows_25 : decode cX14_follows 25 = .ok (.baload, 1) := by decide +kernel
theorem dX14_follows_26 : decode cX14_follows 26 = .ok (.ifCond .eq 7, 3) := by decide +kernel
theorem dX14_follows_29 : decode cX14_follows 29 = .ok (.iconst 2, 1) := by decide +kernel
theorem dX14_follows_30 : decode cX14_follows 30 = .ok (.goto 19, 3) := by decide +kernel
theorem dX14_follows_33 : decode cX14_follows 33 = .ok (.aload_n 0, 1) := by decide +kernel
theorem dX14_follows_34 : decode cX14_follows 34 = .ok (.getfield 63, 3) := by decide +kernel
theorem dX14_follows_37 : decode cX14_follows 37 = .ok (.iload_n 1, 1) := by decide +kernel
theorem dX14_follows_38 : decode cX14_follows 38 = .ok (.iaload, 1) := by decide +kernel
theorem dX14_follows_39 : decode cX14_follows 39 = .ok (.ldc 253, 2) := by decide +kernel
theorem dX14_follows_41 : decode cX14_follows 41 = .ok (.if_icmp .ge 7, 3) := by decide +kernel
theorem dX14_follows_44 : decode cX14_follows 44 = .ok (.iconst 1, 1) := by decide +kernel
theorem dX14_follows_45 : decode cX14_follows 45 = .ok (.goto 4, 3) := by decide +kernel
theorem dX14_follows_48 : decode cX14_follows 48 = .ok (.iconst 0, 1) := by decide +kernel
theorem dX14_follows_49 : decode cX14_follows 49 = .ok (.ireturn, 1) := by decide +kernel
theorem dX14_oneOf_0 : decode cX14_oneOf 0 = .ok (.iconst 0, 1) := by decide +kernel
theorem dX14_oneOf_1 : decode cX14_oneOf 1 = .ok (.istore_n 3, 1) := by decide +kernel
theorem dX14_oneOf_2 : decode cX14_oneOf 2 = .ok (.bipush 100, 2) := by decide +kernel
theorem dX14_oneOf_4 : decode cX14_oneOf 4 = .ok (.iload_n 1, 1) := by decide +kernel
theorem dX14_oneOf_5 : decode cX14_oneOf 5 = .ok (.imul, 1) := by decide +kernel
theorem dX14_oneOf_6 : decode cX14_oneOf 6 = .ok (.istore 4, 2) := by decide +kernel
theorem dX14_oneOf_8 : decode cX14_oneOf 8 = .ok (.iload 4, 2) := by decide +kernel
theorem dX14_oneOf_10 : decode cX14_oneOf 10 = .ok (.bipush 100, 2) := by decide +kernel
theorem dX14_oneOf_12 : decode cX14_oneOf 12 = .ok (.iload_n 1, 1) := by decide +kernel
theorem dX14_oneOf_13 : decode cX14_oneOf 13 = .ok (.imul, 1) := by decide +kernel
theorem dX14_oneOf_14 : decode cX14_oneOf 14 = .ok (.bipush 100, 2) := by decide +kernel
theorem dX14_oneOf_16 : decode cX14_oneOf 16 = .ok (.iadd, 1) := by decide +kernel
theorem dX14_oneOf_17 : decode cX14_oneOf 17 = .ok (.if_icmp .ge 35, 3) := by decide +kernel
theorem dX14_oneOf_20 : decode cX14_oneOf 20 = .ok (.aload_n 0, 1) := by decide +kernel
theorem dX14_oneOf_21 : decode cX14_oneOf 21 = .ok (.getfield 63, 3) := by decide +kernel
theorem dX14_oneOf_24 : decode cX14_oneOf 24 = .ok (.iload 4, 2) := by decide +kernel
theorem dX14_oneOf_26 : decode cX14_oneOf 26 = .ok (.iaload, 1) := by decide +kernel
theorem dX14_oneOf_27 : decode cX14_oneOf 27 = .ok (.ldc 253, 2) := by decide +kernel
theorem dX14_oneOf_29 : decode cX14_oneOf 29 = .ok (.if_icmp .lt 6, 3) := by decide +kernel
theorem dX14_oneOf_32 : decode cX14_oneOf 32 = .ok (.goto 14, 3) := by decide +kernel
theorem dX14_oneOf_35 : decode cX14_oneOf 35 = .ok (.iload_n 3, 1) := by decide +kernel
theorem dX14_oneOf_36 : decode cX14_oneOf 36 = .ok (.iload_n 2, 1) := by decide +kernel
theorem dX14_oneOf_37 : decode cX14_oneOf 37 = .ok (.if_icmp .ne 6, 3) := by decide +kernel
theorem dX14_oneOf_40 : decode cX14_oneOf 40 = .ok (.iload 4, 2) := by decide +kernel
theorem dX14_oneOf_42 : decode cX14_oneOf 42 = .ok (.ireturn, 1) := by decide +kernel
theorem dX14_oneOf_43 : decode cX14_oneOf 43 = .ok (.iinc 3 1, 3) := by decide +kernel
theorem dX14_oneOf_46 : decode cX14_oneOf 46 = .ok (.iinc 4 1, 3) := by decide +kernel
theorem dX14_oneOf_49 : decode cX14_oneOf 49 = .ok (.goto (-41), 3) := by decide +kernel
theorem dX14_oneOf_52 : decode cX14_oneOf 52 = .ok (.iconst (-1), 1) := by decide +kernel
theorem dX14_oneOf_53 : decode cX14_oneOf 53 = .ok (.ireturn, 1) := by decide +kernel
theorem dX14_many_0 : decode cX14_many 0 = .ok (.aload_n 0, 1) := by decide +kernel
theorem dX14_many_1 : decode cX14_many 1 = .ok (.iconst 0, 1) := by decide +kernel
theorem dX14_many_2 : decode cX14_many 2 = .ok (.putfield 84, 3) := by decide +kernel
theorem dX14_many_5 : decode cX14_many 5 = .ok (.aload_n 0, 1) := by decide +kernel
theorem dX14_many_6 : decode cX14_many 6 = .ok (.iload_n 1, 1) := by decide +kernel
theorem dX14_many_7 : decode cX14_many 7 = .ok (.invokevirtual 232, 3) := by decide +kernel
theorem dX14_many_10 : decode cX14_many 10 = .ok (.ifCond .ne 5, 3) := by decide +kernel
theorem dX14_many_13 : decode cX14_many 13 = .ok (.iconst (-1), 1) := by decide +kernel
theorem dX14_many_14 : decode cX14_many 14 = .ok (.ireturn, 1) := by decide +kernel
theorem dX14_many_15 : decode cX14_many 15 = .ok (.aload_n 0, 1) := by decide +kernel
theorem dX14_many_16 : decode cX14_many 16 = .ok (.iconst (-1), 1) := by decide +kernel
theorem dX14_many_17 : decode cX14_many 17 = .ok (.invokevirtual 284, 3) := by decide +kernel
theorem dX14_many_20 : decode cX14_many 20 = .ok (.iconst 0, 1) := by decide +kernel
theorem dX14_many_21 : decode cX14_many 21 = .ok (.istore_n 2, 1) := by decide +kernel
theorem dX14_many_22 : decode cX14_many 22 = .ok (.aload_n 0, 1) := by decide +kernel
theorem dX14_many_23 : decode cX14_many 23 = .ok (.iload_n 1, 1) := by decide +kernel
theorem dX14_many_24 : decode cX14_many 24 = .ok (.iload_n 2, 1) := by decide +kernel
theorem dX14_many_25 : decode cX14_many 25 = .ok (.invokevirtual 288, 3) := by decide +kernel
theorem dX14_many_28 : decode cX14_many 28 = .ok (.iconst (-1), 1) := by decide +kernel
theorem dX14_many_29 : decode cX14_many 29 = .ok (.if_icmp .eq 9, 3) := by decide +kernel
theorem dX14_many_32 : decode cX14_many 32 = .ok (.iinc 2 1, 3) := by decide +kernel
theorem dX14_many_35 : decode cX14_many 35 = .ok (.goto (-13), 3) := by decide +kernel
theorem dX14_many_38 : decode cX14_many 38 = .ok (.iload_n 2, 1) := by decide +kernel
theorem dX14_many_39 : decode cX14_many 39 = .ok (.ireturn, 1) := by decide +kernel
theorem dX14_one_0 : decode cX14_one 0 = .ok (.aload_n 0, 1) := by decide +kernel
theorem dX14_one_1 : decode cX14_one 1 = .ok (.iconst 0, 1) := by decide +kernel
theorem dX14_one_2 : decode cX14_one 2 = .ok (.putfield 84, 3) := by decide +kernel
theorem dX14_one_5 : decode cX14_one 5 = .ok (.aload_n 0, 1) := by decide +kernel
theorem dX14_one_6 : decode cX14_one 6 = .ok (.iload_n 1, 1) := by decide +kernel
theorem dX14_one_7 : decode cX14_one 7 = .ok (.invokevirtual 232, 3) := by decide +kernel
theorem dX14_one_10 : decode cX14_one 10 = .ok (.ifCond .eq 7, 3) := by decide +kernel
theorem dX14_one_13 : decode cX14_one 13 = .ok (.iload_n 2, 1) := by decide +kernel
theorem dX14_one_14 : decode cX14_one 14 = .ok (.ifCond .ge 5, 3) := by decide +kernel
theorem dX14_one_17 : decode cX14_one 17 = .ok (.iconst (-1), 1) := by decide +kernel
theorem dX14_one_18 : decode cX14_one 18 = .ok (.ireturn, 1) := by decide +kernel
theorem dX14_one_19 : decode cX14_one 19 = .ok (.aload_n 0, 1) := by decide +kernel
theorem dX14_one_20 : decode cX14_one 20 = .ok (.iconst (-1), 1) := by decide +kernel
theorem dX14_one_21 : decode cX14_one 21 = .ok (.invokevirtual 284, 3) := by decide +kernel
theorem dX14_one_24 : decode cX14_one 24 = .ok (.aload_n 0, 1) := by decide +kernel
theorem dX14_one_25 : decode cX14_one 25 = .ok (.iload_n 1, 1) := by decide +kernel
theorem dX14_one_26 : decode cX14_one 26 = .ok (.iload_n 2, 1) := by decide +kernel
theorem dX14_one_27 : decode cX14_one 27 = .ok (.invokevirtual 288, 3) := by decide +kernel
theorem dX14_one_30 : decode cX14_one 30 = .ok (.ireturn, 1) := by decide +kernel
theorem dX14_steps_0 : decode cX14_steps 0 = .ok (.aload_n 0, 1) := by decide +kernel
theorem dX14_steps_1 : decode cX14_steps 1 = .ok (.iconst 0, 1) := by decide +kernel
theorem dX14_steps_2 : decode cX14_steps 2 = .ok (.putfield 84, 3) := by decide +kernel
theorem dX14_steps_5 : decode cX14_steps 5 = .ok (.aload_n 0, 1) := by decide +kernel
theorem dX14_steps_6 : decode cX14_steps 6 = .ok (.iload_n 1, 1) := by decide +kernel
theorem dX14_steps_7 : decode cX14_steps 7 = .ok (.invokevirtual 239, 3) := by decide +kernel
theorem dX14_steps_10 : decode cX14_steps 10 = .ok (.ifCond .ne 5, 3) := by decide +kernel
theorem dX14_steps_13 : decode cX14_steps 13 = .ok (.iconst (-1), 1) := by decide +kernel
theorem dX14_steps_14 : decode cX14_steps 14 = .ok (.ireturn, 1) := by decide +kernel
theorem dX14_steps_15 : decode cX14_steps 15 = .ok (.aload_n 0, 1) := by decide +kernel
theorem dX14_steps_16 : decode cX14_steps 16 = .ok (.iconst (-1), 1) := by decide +kernel
theorem dX14_steps_17 : decode cX14_steps 17 = .ok (.invokevirtual 284, 3) := by decide +kernel
theorem dX14_steps_20 : decode cX14_steps 20 = .ok (.aload_n 0, 1) := by decide +kernel
theorem dX14_steps_21 : decode cX14_steps 21 = .ok (.getfield 63, 3) := by decide +kernel
theorem dX14_steps_24 : decode cX14_steps 24 = .ok (.iload_n 1, 1) := by decide +kernel
theorem dX14_steps_25 : decode cX14_steps 25 = .ok (.iaload, 1) := by decide +kernel
theorem dX14_steps_26 : decode cX14_steps 26 = .ok (.ldc 253, 2) := by decide +kernel
theorem dX14_steps_28 : decode cX14_steps 28 = .ok (.if_icmp .ge 12, 3) := by decide +kernel
theorem dX14_steps_31 : decode cX14_steps 31 = .ok (.aload_n 0, 1) := by decide +kernel
theorem dX14_steps_32 : decode cX14_steps 32 = .ok (.getfield 63, 3) := by decide +kernel
theorem dX14_steps_35 : decode cX14_steps 35 = .ok (.iload_n 1, 1) := by decide +kernel
theorem dX14_steps_36 : decode cX14_steps 36 = .ok (.iaload, 1) := by decide +kernel
theorem dX14_steps_37 : decode cX14_steps 37 = .ok (.goto 5, 3) := by decide +kernel
theorem dX14_steps_40 : decode cX14_steps 40 = .ok (.bipush (-2), 2) := by decide +kernel
theorem dX14_steps_42 : decode cX14_steps 42 = .ok (.ireturn, 1) := by decide +kernel
theorem dX14_leads_0 : decode cX14_leads 0 = .ok (.aload_n 0, 1) := by decide +kernel
theorem dX14_leads_1 : decode cX14_leads 1 = .ok (.aload_n 1, 1) := by decide +kernel
theorem dX14_leads_2 : decode cX14_leads 2 = .ok (.iconst 0, 1) := by decide +kernel
theorem dX14_leads_3 : decode cX14_leads 3 = .ok (.invokevirtual 273, 3) := by decide +kernel
theorem dX14_leads_6 : decode cX14_leads 6 = .ok (.iload_n 2, 1) := by decide +kernel
theorem dX14_leads_7 : decode cX14_leads 7 = .ok (.if_icmp .eq 5, 3) := by decide +kernel
theorem dX14_leads_10 : decode cX14_leads 10 = .ok (.iconst 0, 1) := by decide +kernel
theorem dX14_leads_11 : decode cX14_leads 11 = .ok (.ireturn, 1) := by decide +kernel
theorem dX14_leads_12 : decode cX14_leads 12 = .ok (.iconst 0, 1) := by decide +kernel
theorem dX14_leads_13 : decode cX14_leads 13 = .ok (.istore 4, 2) := by decide +kernel
theorem dX14_leads_15 : decode cX14_leads 15 = .ok (.iconst 1, 1) := by decide +kernel
theorem dX14_leads_16 : decode cX14_leads 16 = .ok (.istore 5, 2) := by decide +kernel
theorem dX14_leads_18 : decode cX14_leads 18 = .ok (.iload 5, 2) := by decide +kernel
theorem dX14_leads_20 : decode cX14_leads 20 = .ok (.aload_n 1, 1) := by decide +kernel
theorem dX14_leads_21 : decode cX14_leads 21 = .ok (.getfield 199, 3) := by decide +kernel
theorem dX14_leads_24 : decode cX14_leads 24 = .ok (.if_icmp .gt 50, 3) := by decide +kernel
theorem dX14_leads_27 : decode cX14_leads 27 = .ok (.aload_n 0, 1) := by decide +kernel
theorem dX14_leads_28 : decode cX14_leads 28 = .ok (.aload_n 1, 1) := by decide +kernel
theorem dX14_leads_29 : decode cX14_leads 29 = .ok (.iload 5, 2) := by decide +kernel
theorem dX14_leads_31 : decode cX14_leads 31 = .ok (.invokevirtual 280, 3) := by decide +kernel
theorem dX14_leads_34 : decode cX14_leads 34 = .ok (.ifCond .ne 5, 3) := by decide +kernel
theorem dX14_leads_37 : decode cX14_leads 37 = .ok (.iconst 0, 1) := by decide +kernel
theorem dX14_leads_38 : decode cX14_leads 38 = .ok (.ireturn, 1) := by decide +kernel
theorem dX14_leads_39 : decode cX14_leads 39 = .ok (.aload_n 1, 1) := by decide +kernel
theorem dX14_leads_40 : decode cX14_leads 40 = .ok (.getfield 169, 3) := by decide +kernel
theorem dX14_leads_43 : decode cX14_leads 43 = .ok (.iload 5, 2) := by decide +kernel
theorem dX14_leads_45 : decode cX14_leads 45 = .ok (.iaload, 1) := by decide +kernel
theorem dX14_leads_46 : decode cX14_leads 46 = .ok (.ifCond .ne 22, 3) := by decide +kernel
theorem dX14_leads_49 : decode cX14_leads 49 = .ok (.iload 4, 2) := by decide +kernel
theorem dX14_leads_51 : decode cX14_leads 51 = .ok (.aload_n 0, 1) := by decide +kernel
theorem dX14_leads_52 : decode cX14_leads 52 = .ok (.getfield 63, 3) := by decide +kernel
theorem dX14_leads_55 : decode cX14_leads 55 = .ok (.aload_n 0, 1) := by decide +kernel
theorem dX14_leads_56 : decode cX14_leads 56 = .ok (.aload_n 1, 1) := by decide +kernel
theorem dX14_leads_57 : decode cX14_leads 57 = .ok (.iload 5, 2) := by decide +kernel
theorem dX14_leads_59 : decode cX14_leads 59 = .ok (.invokevirtual 273, 3) := by decide +kernel
theorem dX14_leads_62 : decode cX14_leads 62 = .ok (.iaload, 1) := by decide +kernel
theorem dX14_leads_63 : decode cX14_leads 63 = .ok (.invokestatic 205, 3) := by decide +kernel
theorem dX14_leads_66 : decode cX14_leads 66 = .ok (.istore 4, 2) := by decide +kernel
theorem dX14_leads_68 : decode cX14_leads 68 = .ok (.iinc 5 1, 3) := by decide +kernel
theorem dX14_leads_71 : decode cX14_leads 71 = .ok (.goto (-53), 3) := by decide +kernel
theorem dX14_leads_74 : decode cX14_leads 74 = .ok (.iload 4, 2) := by decide +kernel
theorem dX14_leads_76 : decode cX14_leads 76 = .ok (.iconst 1, 1) := by decide +kernel
theorem dX14_leads_77 : decode cX14_leads 77 = .ok (.iadd, 1) := by decide +kernel
theorem dX14_leads_78 : decode cX14_leads 78 = .ok (.iload_n 3, 1) := by decide +kernel
theorem dX14_leads_79 : decode cX14_leads 79 = .ok (.if_icmp .ne 7, 3) := by decide +kernel
theorem dX14_leads_82 : decode cX14_leads 82 = .ok (.iconst 1, 1) := by decide +kernel
theorem dX14_leads_83 : decode cX14_leads 83 = .ok (.goto 4, 3) := by decide +kernel
theorem dX14_leads_86 : decode cX14_leads 86 = .ok (.iconst 0, 1) := by decide +kernel
theorem dX14_leads_87 : decode cX14_leads 87 = .ok (.ireturn, 1) := by decide +kernel
theorem dX14_ways_0 : decode cX14_ways 0 = .ok (.iconst 1, 1) := by decide +kernel
theorem dX14_ways_1 : decode cX14_ways 1 = .ok (.istore_n 2, 1) := by decide +kernel
theorem dX14_ways_2 : decode cX14_ways 2 = .ok (.iconst 0, 1) := by decide +kernel
theorem dX14_ways_3 : decode cX14_ways 3 = .ok (.istore_n 3, 1) := by decide +kernel
theorem dX14_ways_4 : decode cX14_ways 4 = .ok (.iload_n 3, 1) := by decide +kernel
theorem dX14_ways_5 : decode cX14_ways 5 = .ok (.aload_n 1, 1) := by decide +kernel
theorem dX14_ways_6 : decode cX14_ways 6 = .ok (.getfield 153, 3) := by decide +kernel
theorem dX14_ways_9 : decode cX14_ways 9 = .ok (.if_icmp .ge 16, 3) := by decide +kernel
theorem dX14_ways_12 : decode cX14_ways 12 = .ok (.iload_n 2, 1) := by decide +kernel
theorem dX14_ways_13 : decode cX14_ways 13 = .ok (.aload_n 0, 1) := by decide +kernel
theorem dX14_ways_14 : decode cX14_ways 14 = .ok (.getfield 96, 3) := by decide +kernel
theorem dX14_ways_17 : decode cX14_ways 17 = .ok (.imul, 1) := by decide +kernel
theorem dX14_ways_18 : decode cX14_ways 18 = .ok (.istore_n 2, 1) := by decide +kernel
theorem dX14_ways_19 : decode cX14_ways 19 = .ok (.iinc 3 1, 3) := by decide +kernel
theorem dX14_ways_22 : decode cX14_ways 22 = .ok (.goto (-18), 3) := by decide +kernel
theorem dX14_ways_25 : decode cX14_ways 25 = .ok (.iload_n 2, 1) := by decide +kernel
theorem dX14_ways_26 : decode cX14_ways 26 = .ok (.ireturn, 1) := by decide +kernel
theorem dX14_gives_0 : decode cX14_gives 0 = .ok (.iload_n 2, 1) := by decide +kernel
theorem dX14_gives_1 : decode cX14_gives 1 = .ok (.istore_n 3, 1) := by decide +kernel
theorem dX14_gives_2 : decode cX14_gives 2 = .ok (.aload_n 1, 1) := by decide +kernel
theorem dX14_gives_3 : decode cX14_gives 3 = .ok (.getfield 153, 3) := by decide +kernel
theorem dX14_gives_6 : decode cX14_gives 6 = .ok (.iconst 1, 1) := by decide +kernel
theorem dX14_gives_7 : decode cX14_gives 7 = .ok (.isub, 1) := by decide +kernel
theorem dX14_gives_8 : decode cX14_gives 8 = .ok (.istore 4, 2) := by decide +kernel
theorem dX14_gives_10 : decode cX14_gives 10 = .ok (.iload 4, 2) := by decide +kernel
theorem dX14_gives_12 : decode cX14_gives 12 = .ok (.ifCond .lt 29, 3) := by decide +kernel
theorem dX14_gives_15 : decode cX14_gives 15 = .ok (.aload_n 0, 1) := by decide +kernel
theorem dX14_gives_16 : decode cX14_gives 16 = .ok (.getfield 66, 3) := by decide +kernel
theorem dX14_gives_19 : decode cX14_gives 19 = .ok (.iload 4, 2) := by decide +kernel
theorem dX14_gives_21 : decode cX14_gives 21 = .ok (.iload_n 3, 1) := by decide +kernel
theorem dX14_gives_22 : decode cX14_gives 22 = .ok (.aload_n 0, 1) := by decide +kernel
theorem dX14_gives_23 : decode cX14_gives 23 = .ok (.getfield 96, 3) := by decide +kernel
theorem dX14_gives_26 : decode cX14_gives 26 = .ok (.irem, 1) := by decide +kernel
theorem dX14_gives_27 : decode cX14_gives 27 = .ok (.iastore, 1) := by decide +kernel
theorem dX14_gives_28 : decode cX14_gives 28 = .ok (.iload_n 3, 1) := by decide +kernel
theorem dX14_gives_29 : decode cX14_gives 29 = .ok (.aload_n 0, 1) := by decide +kernel
theorem dX14_gives_30 : decode cX14_gives 30 = .ok (.getfield 96, 3) := by decide +kernel
theorem dX14_gives_33 : decode cX14_gives 33 = .ok (.idiv, 1) := by decide +kernel
theorem dX14_gives_34 : decode cX14_gives 34 = .ok (.istore_n 3, 1) := by decide +kernel
theorem dX14_gives_35 : decode cX14_gives 35 = .ok (.iinc 4 (-1), 3) := by decide +kernel
theorem dX14_gives_38 : decode cX14_gives 38 = .ok (.goto (-28), 3) := by decide +kernel
theorem dX14_gives_41 : decode cX14_gives 41 = .ok (.return_, 1) := by decide +kernel
theorem dX14_why_0 : decode cX14_why 0 = .ok (.aload_n 0, 1) := by decide +kernel
theorem dX14_why_1 : decode cX14_why 1 = .ok (.iconst 0, 1) := by decide +kernel
theorem dX14_why_2 : decode cX14_why 2 = .ok (.putfield 84, 3) := by decide +kernel
theorem dX14_why_5 : decode cX14_why 5 = .ok (.aload_n 0, 1) := by decide +kernel
theorem dX14_why_6 : decode cX14_why 6 = .ok (.iload_n 1, 1) := by decide +kernel
theorem dX14_why_7 : decode cX14_why 7 = .ok (.invokevirtual 239, 3) := by decide +kernel
theorem dX14_why_10 : decode cX14_why 10 = .ok (.ifCond .ne 9, 3) := by decide +kernel
theorem dX14_why_13 : decode cX14_why 13 = .ok (.aload_n 0, 1) := by decide +kernel
theorem dX14_why_14 : decode cX14_why 14 = .ok (.iconst 1, 1) := by decide +kernel
theorem dX14_why_15 : decode cX14_why 15 = .ok (.invokevirtual 214, 3) := by decide +kernel
theorem dX14_why_18 : decode cX14_why 18 = .ok (.ireturn, 1) := by decide +kernel
theorem dX14_why_19 : decode cX14_why 19 = .ok (.aload_n 0, 1) := by decide +kernel
theorem dX14_why_20 : decode cX14_why 20 = .ok (.iconst (-1), 1) := by decide +kernel
theorem dX14_why_21 : decode cX14_why 21 = .ok (.invokevirtual 284, 3) := by decide +kernel
theorem dX14_why_24 : decode cX14_why 24 = .ok (.aload_n 0, 1) := by decide +kernel
theorem dX14_why_25 : decode cX14_why 25 = .ok (.getfield 63, 3) := by decide +kernel
theorem dX14_why_28 : decode cX14_why 28 = .ok (.iload_n 1, 1) := by decide +kernel
theorem dX14_why_29 : decode cX14_why 29 = .ok (.iaload, 1) := by decide +kernel
theorem dX14_why_30 : decode cX14_why 30 = .ok (.ldc 253, 2) := by decide +kernel
theorem dX14_why_32 : decode cX14_why 32 = .ok (.if_icmp .lt 9, 3) := by decide +kernel
theorem dX14_why_35 : decode cX14_why 35 = .ok (.aload_n 0, 1) := by decide +kernel
theorem dX14_why_36 : decode cX14_why 36 = .ok (.iconst 5, 1) := by decide +kernel
theorem dX14_why_37 : decode cX14_why 37 = .ok (.invokevirtual 214, 3) := by decide +kernel
theorem dX14_why_40 : decode cX14_why 40 = .ok (.ireturn, 1) := by decide +kernel
theorem dX14_why_41 : decode cX14_why 41 = .ok (.aload_n 0, 1) := by decide +kernel
theorem dX14_why_42 : decode cX14_why 42 = .ok (.getfield 33, 3) := by decide +kernel
theorem dX14_why_45 : decode cX14_why 45 = .ok (.iload_n 1, 1) := by decide +kernel
theorem dX14_why_46 : decode cX14_why 46 = .ok (.baload, 1) := by decide +kernel
theorem dX14_why_47 : decode cX14_why 47 = .ok (.ifCond .eq 10, 3) := by decide +kernel
theorem dX14_why_50 : decode cX14_why 50 = .ok (.aload_n 0, 1) := by decide +kernel
theorem dX14_why_51 : decode cX14_why 51 = .ok (.bipush (-2), 2) := by decide +kernel
theorem dX14_why_53 : decode cX14_why 53 = .ok (.invokevirtual 229, 3) := by decide +kernel
theorem dX14_why_56 : decode cX14_why 56 = .ok (.ireturn, 1) := by decide +kernel
theorem dX14_why_57 : decode cX14_why 57 = .ok (.iconst 0, 1) := by decide +kernel
theorem dX14_why_58 : decode cX14_why 58 = .ok (.istore_n 2, 1) := by decide +kernel
theorem dX14_why_59 : decode cX14_why 59 = .ok (.iload_n 2, 1) := by decide +kernel
theorem dX14_why_60 : decode cX14_why 60 = .ok (.aload_n 0, 1) := by decide +kernel
theorem dX14_why_61 : decode cX14_why 61 = .ok (.getfield 93, 3) := by decide +kernel
theorem dX14_why_64 : decode cX14_why 64 = .ok (.if_icmp .ge 172, 3) := by decide +kernel
theorem dX14_why_67 : decode cX14_why 67 = .ok (.aload_n 0, 1) := by decide +kernel
theorem dX14_why_68 : decode cX14_why 68 = .ok (.getfield 42, 3) := by decide +kernel
theorem dX14_why_71 : decode cX14_why 71 = .ok (.iload_n 2, 1) := by decide +kernel
theorem dX14_why_72 : decode cX14_why 72 = .ok (.aaload, 1) := by decide +kernel
theorem dX14_why_73 : decode cX14_why 73 = .ok (.getfield 171, 3) := by decide +kernel
theorem dX14_why_76 : decode cX14_why 76 = .ok (.iconst 0, 1) := by decide +kernel
theorem dX14_why_77 : decode cX14_why 77 = .ok (.iaload, 1) := by decide +kernel
theorem dX14_why_78 : decode cX14_why 78 = .ok (.iload_n 1, 1) := by decide +kernel
theorem dX14_why_79 : decode cX14_why 79 = .ok (.bipush 100, 2) := by decide +kernel
theorem dX14_why_81 : decode cX14_why 81 = .ok (.idiv, 1) := by decide +kernel
theorem dX14_why_82 : decode cX14_why 82 = .ok (.if_icmp .eq 6, 3) := by decide +kernel
theorem dX14_why_85 : decode cX14_why 85 = .ok (.goto 145, 3) := by decide +kernel
theorem dX14_why_88 : decode cX14_why 88 = .ok (.aload_n 0, 1) := by decide +kernel
theorem dX14_why_89 : decode cX14_why 89 = .ok (.aload_n 0, 1) := by decide +kernel
theorem dX14_why_90 : decode cX14_why 90 = .ok (.getfield 42, 3) := by decide +kernel
theorem dX14_why_93 : decode cX14_why 93 = .ok (.iload_n 2, 1) := by decide +kernel
theorem dX14_why_94 : decode cX14_why 94 = .ok (.aaload, 1) := by decide +kernel
theorem dX14_why_95 : decode cX14_why 95 = .ok (.invokevirtual 291, 3) := by decide +kernel
theorem dX14_why_98 : decode cX14_why 98 = .ok (.istore_n 3, 1) := by decide +kernel
theorem dX14_why_99 : decode cX14_why 99 = .ok (.iconst 0, 1) := by decide +kernel
theorem dX14_why_100 : decode cX14_why 100 = .ok (.istore 4, 2) := by decide +kernel
theorem dX14_why_102 : decode cX14_why 102 = .ok (.iload 4, 2) := by decide +kernel
theorem dX14_why_104 : decode cX14_why 104 = .ok (.iload_n 3, 1) := by decide +kernel
theorem dX14_why_105 : decode cX14_why 105 = .ok (.if_icmp .ge 125, 3) := by decide +kernel
theorem dX14_why_108 : decode cX14_why 108 = .ok (.aload_n 0, 1) := by decide +kernel
theorem dX14_why_109 : decode cX14_why 109 = .ok (.aload_n 0, 1) := by decide +kernel
theorem dX14_why_110 : decode cX14_why 110 = .ok (.getfield 42, 3) := by decide +kernel
theorem dX14_why_113 : decode cX14_why 113 = .ok (.iload_n 2, 1) := by decide +kernel
theorem dX14_why_114 : decode cX14_why 114 = .ok (.aaload, 1) := by decide +kernel
theorem dX14_why_115 : decode cX14_why 115 = .ok (.iload 4, 2) := by decide +kernel
theorem dX14_why_117 : decode cX14_why 117 = .ok (.invokevirtual 295, 3) := by decide +kernel
theorem dX14_why_120 : decode cX14_why 120 = .ok (.aload_n 0, 1) := by decide +kernel
theorem dX14_why_121 : decode cX14_why 121 = .ok (.aload_n 0, 1) := by decide +kernel
theorem dX14_why_122 : decode cX14_why 122 = .ok (.getfield 42, 3) := by decide +kernel
theorem dX14_why_125 : decode cX14_why 125 = .ok (.iload_n 2, 1) := by decide +kernel
theorem dX14_why_126 : decode cX14_why 126 = .ok (.aaload, 1) := by decide +kernel
theorem dX14_why_127 : decode cX14_why 127 = .ok (.iload_n 1, 1) := by decide +kernel
theorem dX14_why_128 : decode cX14_why 128 = .ok (.aload_n 0, 1) := by decide +kernel
theorem dX14_why_129 : decode cX14_why 129 = .ok (.getfield 63, 3) := by decide +kernel
theorem dX14_why_132 : decode cX14_why 132 = .ok (.iload_n 1, 1) := by decide +kernel
theorem dX14_why_133 : decode cX14_why 133 = .ok (.iaload, 1) := by decide +kernel
theorem dX14_why_134 : decode cX14_why 134 = .ok (.invokevirtual 299, 3) := by decide +kernel
theorem dX14_why_137 : decode cX14_why 137 = .ok (.ifCond .ne 6, 3) := by decide +kernel
theorem dX14_why_140 : decode cX14_why 140 = .ok (.goto 84, 3) := by decide +kernel
theorem dX14_why_143 : decode cX14_why 143 = .ok (.aload_n 0, 1) := by decide +kernel
theorem dX14_why_144 : decode cX14_why 144 = .ok (.aload_n 0, 1) := by decide +kernel
theorem dX14_why_145 : decode cX14_why 145 = .ok (.getfield 42, 3) := by decide +kernel
theorem dX14_why_148 : decode cX14_why 148 = .ok (.iload_n 2, 1) := by decide +kernel
theorem dX14_why_149 : decode cX14_why 149 = .ok (.aaload, 1) := by decide +kernel
theorem dX14_why_150 : decode cX14_why 150 = .ok (.getfield 199, 3) := by decide +kernel
theorem dX14_why_153 : decode cX14_why 153 = .ok (.putfield 303, 3) := by decide +kernel
theorem dX14_why_156 : decode cX14_why 156 = .ok (.iconst 0, 1) := by decide +kernel
theorem dX14_why_157 : decode cX14_why 157 = .ok (.istore 5, 2) := by decide +kernel
theorem dX14_why_159 : decode cX14_why 159 = .ok (.iload 5, 2) := by decide +kernel
theorem dX14_why_161 : decode cX14_why 161 = .ok (.aload_n 0, 1) := by decide +kernel
theorem dX14_why_162 : decode cX14_why 162 = .ok (.getfield 303, 3) := by decide +kernel
theorem dX14_why_165 : decode cX14_why 165 = .ok (.if_icmp .ge 53, 3) := by decide +kernel
theorem dX14_why_168 : decode cX14_why 168 = .ok (.aload_n 0, 1) := by decide +kernel
theorem dX14_why_169 : decode cX14_why 169 = .ok (.getfield 69, 3) := by decide +kernel
theorem dX14_why_172 : decode cX14_why 172 = .ok (.iload 5, 2) := by decide +kernel
theorem dX14_why_174 : decode cX14_why 174 = .ok (.aload_n 0, 1) := by decide +kernel
theorem dX14_why_175 : decode cX14_why 175 = .ok (.getfield 42, 3) := by decide +kernel
theorem dX14_why_178 : decode cX14_why 178 = .ok (.iload_n 2, 1) := by decide +kernel
theorem dX14_why_179 : decode cX14_why 179 = .ok (.aaload, 1) := by decide +kernel
theorem dX14_why_180 : decode cX14_why 180 = .ok (.getfield 169, 3) := by decide +kernel
theorem dX14_why_183 : decode cX14_why 183 = .ok (.iload 5, 2) := by decide +kernel
theorem dX14_why_185 : decode cX14_why 185 = .ok (.iconst 1, 1) := by decide +kernel
theorem dX14_why_186 : decode cX14_why 186 = .ok (.iadd, 1) := by decide +kernel
theorem dX14_why_187 : decode cX14_why 187 = .ok (.iaload, 1) := by decide +kernel
theorem dX14_why_188 : decode cX14_why 188 = .ok (.iconst 2, 1) := by decide +kernel
theorem dX14_why_189 : decode cX14_why 189 = .ok (.if_icmp .ne 8, 3) := by decide +kernel
theorem dX14_why_192 : decode cX14_why 192 = .ok (.bipush (-2), 2) := by decide +kernel
theorem dX14_why_194 : decode cX14_why 194 = .ok (.goto 17, 3) := by decide +kernel
theorem dX14_why_197 : decode cX14_why 197 = .ok (.aload_n 0, 1) := by decide +kernel
theorem dX14_why_198 : decode cX14_why 198 = .ok (.aload_n 0, 1) := by decide +kernel
theorem dX14_why_199 : decode cX14_why 199 = .ok (.getfield 42, 3) := by decide +kernel
theorem dX14_why_202 : decode cX14_why 202 = .ok (.iload_n 2, 1) := by decide +kernel
theorem dX14_why_203 : decode cX14_why 203 = .ok (.aaload, 1) := by decide +kernel
theorem dX14_why_204 : decode cX14_why 204 = .ok (.iload 5, 2) := by decide +kernel
theorem dX14_why_206 : decode cX14_why 206 = .ok (.iconst 1, 1) := by decide +kernel
theorem dX14_why_207 : decode cX14_why 207 = .ok (.iadd, 1) := by decide +kernel
theorem dX14_why_208 : decode cX14_why 208 = .ok (.invokevirtual 273, 3) := by decide +kernel
theorem dX14_why_211 : decode cX14_why 211 = .ok (.iastore, 1) := by decide +kernel
theorem dX14_why_212 : decode cX14_why 212 = .ok (.iinc 5 1, 3) := by decide +kernel
theorem dX14_why_215 : decode cX14_why 215 = .ok (.goto (-56), 3) := by decide +kernel
theorem dX14_why_218 : decode cX14_why 218 = .ok (.aload_n 0, 1) := by decide +kernel
theorem dX14_why_219 : decode cX14_why 219 = .ok (.iload_n 2, 1) := by decide +kernel
theorem dX14_why_220 : decode cX14_why 220 = .ok (.invokevirtual 229, 3) := by decide +kernel
theorem dX14_why_223 : decode cX14_why 223 = .ok (.ireturn, 1) := by decide +kernel
theorem dX14_why_224 : decode cX14_why 224 = .ok (.iinc 4 1, 3) := by decide +kernel
theorem dX14_why_227 : decode cX14_why 227 = .ok (.goto (-125), 3) := by decide +kernel
theorem dX14_why_230 : decode cX14_why 230 = .ok (.iinc 2 1, 3) := by decide +kernel
theorem dX14_why_233 : decode cX14_why 233 = .ok (.goto (-174), 3) := by decide +kernel
theorem dX14_why_236 : decode cX14_why 236 = .ok (.aload_n 0, 1) := by decide +kernel
theorem dX14_why_237 : decode cX14_why 237 = .ok (.iconst 5, 1) := by decide +kernel
theorem dX14_why_238 : decode cX14_why 238 = .ok (.invokevirtual 214, 3) := by decide +kernel
theorem dX14_why_241 : decode cX14_why 241 = .ok (.ireturn, 1) := by decide +kernel
theorem dX14_because_0 : decode cX14_because 0 = .ok (.aload_n 0, 1) := by decide +kernel
theorem dX14_because_1 : decode cX14_because 1 = .ok (.iconst 0, 1) := by decide +kernel
theorem dX14_because_2 : decode cX14_because 2 = .ok (.putfield 84, 3) := by decide +kernel
theorem dX14_because_5 : decode cX14_because 5 = .ok (.iload_n 1, 1) := by decide +kernel
theorem dX14_because_6 : decode cX14_because 6 = .ok (.ifCond .lt 20, 3) := by decide +kernel
theorem dX14_because_9 : decode cX14_because 9 = .ok (.iload_n 1, 1) := by decide +kernel
theorem dX14_because_10 : decode cX14_because 10 = .ok (.aload_n 0, 1) := by decide +kernel
theorem dX14_because_11 : decode cX14_because 11 = .ok (.getfield 303, 3) := by decide +kernel
theorem dX14_because_14 : decode cX14_because 14 = .ok (.if_icmp .ge 12, 3) := by decide +kernel
theorem dX14_because_17 : decode cX14_because 17 = .ok (.aload_n 0, 1) := by decide +kernel
theorem dX14_because_18 : decode cX14_because 18 = .ok (.getfield 69, 3) := by decide +kernel
theorem dX14_because_21 : decode cX14_because 21 = .ok (.iload_n 1, 1) := by decide +kernel
theorem dX14_because_22 : decode cX14_because 22 = .ok (.iaload, 1) := by decide +kernel
theorem dX14_because_23 : decode cX14_because 23 = .ok (.goto 4, 3) := by decide +kernel
theorem dX14_because_26 : decode cX14_because 26 = .ok (.iconst (-1), 1) := by decide +kernel
theorem dX14_because_27 : decode cX14_because 27 = .ok (.ireturn, 1) := by decide +kernel
theorem dX14_comes_0 : decode cX14_comes 0 = .ok (.aload_n 0, 1) := by decide +kernel
theorem dX14_comes_1 : decode cX14_comes 1 = .ok (.iconst 0, 1) := by decide +kernel
theorem dX14_comes_2 : decode cX14_comes 2 = .ok (.putfield 84, 3) := by decide +kernel
theorem dX14_comes_5 : decode cX14_comes 5 = .ok (.aload_n 0, 1) := by decide +kernel
theorem dX14_comes_6 : decode cX14_comes 6 = .ok (.iload_n 1, 1) := by decide +kernel
theorem dX14_comes_7 : decode cX14_comes 7 = .ok (.invokevirtual 244, 3) := by decide +kernel
theorem dX14_comes_10 : decode cX14_comes 10 = .ok (.ifCond .eq 29, 3) := by decide +kernel
theorem dX14_comes_13 : decode cX14_comes 13 = .ok (.aload_n 0, 1) := by decide +kernel
theorem dX14_comes_14 : decode cX14_comes 14 = .ok (.iload_n 2, 1) := by decide +kernel
theorem dX14_comes_15 : decode cX14_comes 15 = .ok (.invokevirtual 239, 3) := by decide +kernel
theorem dX14_comes_18 : decode cX14_comes 18 = .ok (.ifCond .eq 21, 3) := by decide +kernel
theorem dX14_comes_21 : decode cX14_comes 21 = .ok (.aload_n 0, 1) := by decide +kernel
theorem dX14_comes_22 : decode cX14_comes 22 = .ok (.getfield 42, 3) := by decide +kernel
theorem dX14_comes_25 : decode cX14_comes 25 = .ok (.iload_n 1, 1) := by decide +kernel
theorem dX14_comes_26 : decode cX14_comes 26 = .ok (.aaload, 1) := by decide +kernel
theorem dX14_comes_27 : decode cX14_comes 27 = .ok (.getfield 171, 3) := by decide +kernel
theorem dX14_comes_30 : decode cX14_comes 30 = .ok (.iconst 0, 1) := by decide +kernel
theorem dX14_comes_31 : decode cX14_comes 31 = .ok (.iaload, 1) := by decide +kernel
theorem dX14_comes_32 : decode cX14_comes 32 = .ok (.iload_n 2, 1) := by decide +kernel
theorem dX14_comes_33 : decode cX14_comes 33 = .ok (.bipush 100, 2) := by decide +kernel
theorem dX14_comes_35 : decode cX14_comes 35 = .ok (.idiv, 1) := by decide +kernel
theorem dX14_comes_36 : decode cX14_comes 36 = .ok (.if_icmp .eq 9, 3) := by decide +kernel
theorem dX14_comes_39 : decode cX14_comes 39 = .ok (.aload_n 0, 1) := by decide +kernel
theorem dX14_comes_40 : decode cX14_comes 40 = .ok (.iconst 1, 1) := by decide +kernel
theorem dX14_comes_41 : decode cX14_comes 41 = .ok (.invokevirtual 214, 3) := by decide +kernel
theorem dX14_comes_44 : decode cX14_comes 44 = .ok (.ireturn, 1) := by decide +kernel
theorem dX14_comes_45 : decode cX14_comes 45 = .ok (.aload_n 0, 1) := by decide +kernel
theorem dX14_comes_46 : decode cX14_comes 46 = .ok (.iconst (-1), 1) := by decide +kernel
theorem dX14_comes_47 : decode cX14_comes 47 = .ok (.invokevirtual 284, 3) := by decide +kernel
theorem dX14_comes_50 : decode cX14_comes 50 = .ok (.aload_n 0, 1) := by decide +kernel
theorem dX14_comes_51 : decode cX14_comes 51 = .ok (.getfield 42, 3) := by decide +kernel
theorem dX14_comes_54 : decode cX14_comes 54 = .ok (.iload_n 1, 1) := by decide +kernel
theorem dX14_comes_55 : decode cX14_comes 55 = .ok (.aaload, 1) := by decide +kernel
theorem dX14_comes_56 : decode cX14_comes 56 = .ok (.astore_n 3, 1) := by decide +kernel
theorem dX14_comes_57 : decode cX14_comes 57 = .ok (.bipush (-2), 2) := by decide +kernel
theorem dX14_comes_59 : decode cX14_comes 59 = .ok (.istore 4, 2) := by decide +kernel
theorem dX14_comes_61 : decode cX14_comes 61 = .ok (.aload_n 0, 1) := by decide +kernel
theorem dX14_comes_62 : decode cX14_comes 62 = .ok (.aload_n 3, 1) := by decide +kernel
theorem dX14_comes_63 : decode cX14_comes 63 = .ok (.invokevirtual 291, 3) := by decide +kernel
theorem dX14_comes_66 : decode cX14_comes 66 = .ok (.istore 5, 2) := by decide +kernel
theorem dX14_comes_68 : decode cX14_comes 68 = .ok (.iconst 0, 1) := by decide +kernel
theorem dX14_comes_69 : decode cX14_comes 69 = .ok (.istore 6, 2) := by decide +kernel
theorem dX14_comes_71 : decode cX14_comes 71 = .ok (.iload 6, 2) := by decide +kernel
theorem dX14_comes_73 : decode cX14_comes 73 = .ok (.aload_n 3, 1) := by decide +kernel
theorem dX14_comes_74 : decode cX14_comes 74 = .ok (.getfield 199, 3) := by decide +kernel
theorem dX14_comes_77 : decode cX14_comes 77 = .ok (.if_icmp .ge 49, 3) := by decide +kernel
theorem dX14_comes_80 : decode cX14_comes 80 = .ok (.aload_n 3, 1) := by decide +kernel
theorem dX14_comes_81 : decode cX14_comes 81 = .ok (.getfield 173, 3) := by decide +kernel
theorem dX14_comes_84 : decode cX14_comes 84 = .ok (.iload 6, 2) := by decide +kernel
theorem dX14_comes_86 : decode cX14_comes 86 = .ok (.iconst 1, 1) := by decide +kernel
theorem dX14_comes_87 : decode cX14_comes 87 = .ok (.iadd, 1) := by decide +kernel
theorem dX14_comes_88 : decode cX14_comes 88 = .ok (.iaload, 1) := by decide +kernel
theorem dX14_comes_89 : decode cX14_comes 89 = .ok (.bipush 100, 2) := by decide +kernel
theorem dX14_comes_91 : decode cX14_comes 91 = .ok (.if_icmp .ge 35, 3) := by decide +kernel
theorem dX14_comes_94 : decode cX14_comes 94 = .ok (.aload_n 3, 1) := by decide +kernel
theorem dX14_comes_95 : decode cX14_comes 95 = .ok (.getfield 176, 3) := by decide +kernel
theorem dX14_comes_98 : decode cX14_comes 98 = .ok (.iload 6, 2) := by decide +kernel
theorem dX14_comes_100 : decode cX14_comes 100 = .ok (.iconst 1, 1) := by decide +kernel
theorem dX14_comes_101 : decode cX14_comes 101 = .ok (.iadd, 1) := by decide +kernel
theorem dX14_comes_102 : decode cX14_comes 102 = .ok (.iaload, 1) := by decide +kernel
theorem dX14_comes_103 : decode cX14_comes 103 = .ok (.bipush 100, 2) := by decide +kernel
theorem dX14_comes_105 : decode cX14_comes 105 = .ok (.if_icmp .ge 21, 3) := by decide +kernel
theorem dX14_comes_108 : decode cX14_comes 108 = .ok (.aload_n 0, 1) := by decide +kernel
theorem dX14_comes_109 : decode cX14_comes 109 = .ok (.aload_n 3, 1) := by decide +kernel
theorem dX14_comes_110 : decode cX14_comes 110 = .ok (.iload 6, 2) := by decide +kernel
theorem dX14_comes_112 : decode cX14_comes 112 = .ok (.iconst 1, 1) := by decide +kernel
theorem dX14_comes_113 : decode cX14_comes 113 = .ok (.iadd, 1) := by decide +kernel
theorem dX14_comes_114 : decode cX14_comes 114 = .ok (.invokevirtual 280, 3) := by decide +kernel
theorem dX14_comes_117 : decode cX14_comes 117 = .ok (.ifCond .eq 9, 3) := by decide +kernel
theorem dX14_comes_120 : decode cX14_comes 120 = .ok (.iinc 6 1, 3) := by decide +kernel
theorem dX14_comes_123 : decode cX14_comes 123 = .ok (.goto (-52), 3) := by decide +kernel
theorem dX14_comes_126 : decode cX14_comes 126 = .ok (.iload 5, 2) := by decide +kernel
theorem dX14_comes_128 : decode cX14_comes 128 = .ok (.ifCond .ne 7, 3) := by decide +kernel
theorem dX14_comes_131 : decode cX14_comes 131 = .ok (.iload 6, 2) := by decide +kernel
theorem dX14_comes_133 : decode cX14_comes 133 = .ok (.istore 4, 2) := by decide +kernel
theorem dX14_comes_135 : decode cX14_comes 135 = .ok (.iconst 0, 1) := by decide +kernel
theorem dX14_comes_136 : decode cX14_comes 136 = .ok (.istore 7, 2) := by decide +kernel
theorem dX14_comes_138 : decode cX14_comes 138 = .ok (.iload 7, 2) := by decide +kernel
theorem dX14_comes_140 : decode cX14_comes 140 = .ok (.iload 5, 2) := by decide +kernel
theorem dX14_comes_142 : decode cX14_comes 142 = .ok (.if_icmp .ge 68, 3) := by decide +kernel
theorem dX14_comes_145 : decode cX14_comes 145 = .ok (.aload_n 0, 1) := by decide +kernel
theorem dX14_comes_146 : decode cX14_comes 146 = .ok (.aload_n 3, 1) := by decide +kernel
theorem dX14_comes_147 : decode cX14_comes 147 = .ok (.iload 7, 2) := by decide +kernel
theorem dX14_comes_149 : decode cX14_comes 149 = .ok (.invokevirtual 295, 3) := by decide +kernel
theorem dX14_comes_152 : decode cX14_comes 152 = .ok (.aload_n 0, 1) := by decide +kernel
theorem dX14_comes_153 : decode cX14_comes 153 = .ok (.aload_n 3, 1) := by decide +kernel
theorem dX14_comes_154 : decode cX14_comes 154 = .ok (.iconst 0, 1) := by decide +kernel
theorem dX14_comes_155 : decode cX14_comes 155 = .ok (.invokevirtual 273, 3) := by decide +kernel
theorem dX14_comes_158 : decode cX14_comes 158 = .ok (.iload_n 2, 1) := by decide +kernel
theorem dX14_comes_159 : decode cX14_comes 159 = .ok (.if_icmp .eq 6, 3) := by decide +kernel
theorem dX14_comes_162 : decode cX14_comes 162 = .ok (.goto 42, 3) := by decide +kernel
theorem dX14_comes_165 : decode cX14_comes 165 = .ok (.iconst 0, 1) := by decide +kernel
theorem dX14_comes_166 : decode cX14_comes 166 = .ok (.istore 8, 2) := by decide +kernel
theorem dX14_comes_168 : decode cX14_comes 168 = .ok (.iload 8, 2) := by decide +kernel
theorem dX14_comes_170 : decode cX14_comes 170 = .ok (.aload_n 3, 1) := by decide +kernel
theorem dX14_comes_171 : decode cX14_comes 171 = .ok (.getfield 199, 3) := by decide +kernel
theorem dX14_comes_174 : decode cX14_comes 174 = .ok (.if_icmp .ge 21, 3) := by decide +kernel
theorem dX14_comes_177 : decode cX14_comes 177 = .ok (.aload_n 0, 1) := by decide +kernel
theorem dX14_comes_178 : decode cX14_comes 178 = .ok (.aload_n 3, 1) := by decide +kernel
theorem dX14_comes_179 : decode cX14_comes 179 = .ok (.iload 8, 2) := by decide +kernel
theorem dX14_comes_181 : decode cX14_comes 181 = .ok (.iconst 1, 1) := by decide +kernel
theorem dX14_comes_182 : decode cX14_comes 182 = .ok (.iadd, 1) := by decide +kernel
theorem dX14_comes_183 : decode cX14_comes 183 = .ok (.invokevirtual 280, 3) := by decide +kernel
theorem dX14_comes_186 : decode cX14_comes 186 = .ok (.ifCond .eq 9, 3) := by decide +kernel
theorem dX14_comes_189 : decode cX14_comes 189 = .ok (.iinc 8 1, 3) := by decide +kernel
theorem dX14_comes_192 : decode cX14_comes 192 = .ok (.goto (-24), 3) := by decide +kernel
theorem dX14_comes_195 : decode cX14_comes 195 = .ok (.iload 4, 2) := by decide +kernel
theorem dX14_comes_197 : decode cX14_comes 197 = .ok (.iload 8, 2) := by decide +kernel
theorem dX14_comes_199 : decode cX14_comes 199 = .ok (.invokestatic 205, 3) := by decide +kernel
theorem dX14_comes_202 : decode cX14_comes 202 = .ok (.istore 4, 2) := by decide +kernel
theorem dX14_comes_204 : decode cX14_comes 204 = .ok (.iinc 7 1, 3) := by decide +kernel
theorem dX14_comes_207 : decode cX14_comes 207 = .ok (.goto (-69), 3) := by decide +kernel
theorem dX14_comes_210 : decode cX14_comes 210 = .ok (.aload_n 0, 1) := by decide +kernel
theorem dX14_comes_211 : decode cX14_comes 211 = .ok (.iload 4, 2) := by decide +kernel
theorem dX14_comes_213 : decode cX14_comes 213 = .ok (.invokevirtual 229, 3) := by decide +kernel
theorem dX14_comes_216 : decode cX14_comes 216 = .ok (.ireturn, 1) := by decide +kernel
theorem dX14_isIdle_0 : decode cX14_isIdle 0 = .ok (.aload_n 0, 1) := by decide +kernel
theorem dX14_isIdle_1 : decode cX14_isIdle 1 = .ok (.iconst (-1), 1) := by decide +kernel
theorem dX14_isIdle_2 : decode cX14_isIdle 2 = .ok (.invokevirtual 284, 3) := by decide +kernel
theorem dX14_isIdle_5 : decode cX14_isIdle 5 = .ok (.aload_n 0, 1) := by decide +kernel
theorem dX14_isIdle_6 : decode cX14_isIdle 6 = .ok (.aload_n 1, 1) := by decide +kernel
theorem dX14_isIdle_7 : decode cX14_isIdle 7 = .ok (.invokevirtual 291, 3) := by decide +kernel
theorem dX14_isIdle_10 : decode cX14_isIdle 10 = .ok (.istore_n 2, 1) := by decide +kernel
theorem dX14_isIdle_11 : decode cX14_isIdle 11 = .ok (.iconst 0, 1) := by decide +kernel
theorem dX14_isIdle_12 : decode cX14_isIdle 12 = .ok (.istore_n 3, 1) := by decide +kernel
theorem dX14_isIdle_13 : decode cX14_isIdle 13 = .ok (.iload_n 3, 1) := by decide +kernel
theorem dX14_isIdle_14 : decode cX14_isIdle 14 = .ok (.iload_n 2, 1) := by decide +kernel
theorem dX14_isIdle_15 : decode cX14_isIdle 15 = .ok (.if_icmp .ge 56, 3) := by decide +kernel
theorem dX14_isIdle_18 : decode cX14_isIdle 18 = .ok (.aload_n 0, 1) := by decide +kernel
theorem dX14_isIdle_19 : decode cX14_isIdle 19 = .ok (.aload_n 1, 1) := by decide +kernel
theorem dX14_isIdle_20 : decode cX14_isIdle 20 = .ok (.iload_n 3, 1) := by decide +kernel
theorem dX14_isIdle_21 : decode cX14_isIdle 21 = .ok (.invokevirtual 295, 3) := by decide +kernel
theorem dX14_isIdle_24 : decode cX14_isIdle 24 = .ok (.iconst 0, 1) := by decide +kernel
theorem dX14_isIdle_25 : decode cX14_isIdle 25 = .ok (.istore 4, 2) := by decide +kernel
theorem dX14_isIdle_27 : decode cX14_isIdle 27 = .ok (.iload 4, 2) := by decide +kernel
theorem dX14_isIdle_29 : decode cX14_isIdle 29 = .ok (.aload_n 1, 1) := by decide +kernel
theorem dX14_isIdle_30 : decode cX14_isIdle 30 = .ok (.getfield 199, 3) := by decide +kernel
theorem dX14_isIdle_33 : decode cX14_isIdle 33 = .ok (.if_icmp .ge 21, 3) := by decide +kernel
theorem dX14_isIdle_36 : decode cX14_isIdle 36 = .ok (.aload_n 0, 1) := by decide +kernel
theorem dX14_isIdle_37 : decode cX14_isIdle 37 = .ok (.aload_n 1, 1) := by decide +kernel
theorem dX14_isIdle_38 : decode cX14_isIdle 38 = .ok (.iload 4, 2) := by decide +kernel
theorem dX14_isIdle_40 : decode cX14_isIdle 40 = .ok (.iconst 1, 1) := by decide +kernel
theorem dX14_isIdle_41 : decode cX14_isIdle 41 = .ok (.iadd, 1) := by decide +kernel
theorem dX14_isIdle_42 : decode cX14_isIdle 42 = .ok (.invokevirtual 280, 3) := by decide +kernel
theorem dX14_isIdle_45 : decode cX14_isIdle 45 = .ok (.ifCond .eq 9, 3) := by decide +kernel
theorem dX14_isIdle_48 : decode cX14_isIdle 48 = .ok (.iinc 4 1, 3) := by decide +kernel
theorem dX14_isIdle_51 : decode cX14_isIdle 51 = .ok (.goto (-24), 3) := by decide +kernel
theorem dX14_isIdle_54 : decode cX14_isIdle 54 = .ok (.iload 4, 2) := by decide +kernel
theorem dX14_isIdle_56 : decode cX14_isIdle 56 = .ok (.aload_n 1, 1) := by decide +kernel
theorem dX14_isIdle_57 : decode cX14_isIdle 57 = .ok (.getfield 199, 3) := by decide +kernel
theorem dX14_isIdle_60 : decode cX14_isIdle 60 = .ok (.if_icmp .ne 5, 3) := by decide +kernel
theorem dX14_isIdle_63 : decode cX14_isIdle 63 = .ok (.iconst 0, 1) := by decide +kernel
theorem dX14_isIdle_64 : decode cX14_isIdle 64 = .ok (.ireturn, 1) := by decide +kernel
theorem dX14_isIdle_65 : decode cX14_isIdle 65 = .ok (.iinc 3 1, 3) := by decide +kernel
theorem dX14_isIdle_68 : decode cX14_isIdle 68 = .ok (.goto (-55), 3) := by decide +kernel
theorem dX14_isIdle_71 : decode cX14_isIdle 71 = .ok (.iconst 1, 1) := by decide +kernel
theorem dX14_isIdle_72 : decode cX14_isIdle 72 = .ok (.ireturn, 1) := by decide +kernel
theorem dX14_remembers_0 : decode cX14_remembers 0 = .ok (.iconst 0, 1) := by decide +kernel
theorem dX14_remembers_1 : decode cX14_remembers 1 = .ok (.istore_n 1, 1) := by decide +kernel
theorem dX14_remembers_2 : decode cX14_remembers 2 = .ok (.iload_n 1, 1) := by decide +kernel
theorem dX14_remembers_3 : decode cX14_remembers 3 = .ok (.sipush 1000, 3) := by decide +kernel
theorem dX14_remembers_6 : decode cX14_remembers 6 = .ok (.if_icmp .ge 31, 3) := by decide +kernel
theorem dX14_remembers_9 : decode cX14_remembers 9 = .ok (.aload_n 0, 1) := by decide +kernel
theorem dX14_remembers_10 : decode cX14_remembers 10 = .ok (.getfield 72, 3) := by decide +kernel
theorem dX14_remembers_13 : decode cX14_remembers 13 = .ok (.iload_n 1, 1) := by decide +kernel
theorem dX14_remembers_14 : decode cX14_remembers 14 = .ok (.aload_n 0, 1) := by decide +kernel
theorem dX14_remembers_15 : decode cX14_remembers 15 = .ok (.getfield 63, 3) := by decide +kernel
theorem dX14_remembers_18 : decode cX14_remembers 18 = .ok (.iload_n 1, 1) := by decide +kernel
theorem dX14_remembers_19 : decode cX14_remembers 19 = .ok (.iaload, 1) := by decide +kernel
theorem dX14_remembers_20 : decode cX14_remembers 20 = .ok (.ldc 253, 2) := by decide +kernel
theorem dX14_remembers_22 : decode cX14_remembers 22 = .ok (.if_icmp .ge 7, 3) := by decide +kernel
theorem dX14_remembers_25 : decode cX14_remembers 25 = .ok (.iconst 1, 1) := by decide +kernel
theorem dX14_remembers_26 : decode cX14_remembers 26 = .ok (.goto 4, 3) := by decide +kernel
theorem dX14_remembers_29 : decode cX14_remembers 29 = .ok (.iconst 0, 1) := by decide +kernel
theorem dX14_remembers_30 : decode cX14_remembers 30 = .ok (.bastore, 1) := by decide +kernel
theorem dX14_remembers_31 : decode cX14_remembers 31 = .ok (.iinc 1 1, 3) := by decide +kernel
theorem dX14_remembers_34 : decode cX14_remembers 34 = .ok (.goto (-32), 3) := by decide +kernel
theorem dX14_remembers_37 : decode cX14_remembers 37 = .ok (.return_, 1) := by decide +kernel
theorem dX14_isSpare_0 : decode cX14_isSpare 0 = .ok (.aload_n 0, 1) := by decide +kernel
theorem dX14_isSpare_1 : decode cX14_isSpare 1 = .ok (.iconst (-1), 1) := by decide +kernel
theorem dX14_isSpare_2 : decode cX14_isSpare 2 = .ok (.invokevirtual 284, 3) := by decide +kernel
theorem dX14_isSpare_5 : decode cX14_isSpare 5 = .ok (.aload_n 0, 1) := by decide +kernel
theorem dX14_isSpare_6 : decode cX14_isSpare 6 = .ok (.invokevirtual 306, 3) := by decide +kernel
theorem dX14_isSpare_9 : decode cX14_isSpare 9 = .ok (.aload_n 0, 1) := by decide +kernel
theorem dX14_isSpare_10 : decode cX14_isSpare 10 = .ok (.iload_n 1, 1) := by decide +kernel
theorem dX14_isSpare_11 : decode cX14_isSpare 11 = .ok (.invokevirtual 284, 3) := by decide +kernel
theorem dX14_isSpare_14 : decode cX14_isSpare 14 = .ok (.iconst 1, 1) := by decide +kernel
theorem dX14_isSpare_15 : decode cX14_isSpare 15 = .ok (.istore_n 2, 1) := by decide +kernel
theorem dX14_isSpare_16 : decode cX14_isSpare 16 = .ok (.iconst 0, 1) := by decide +kernel
theorem dX14_isSpare_17 : decode cX14_isSpare 17 = .ok (.istore_n 3, 1) := by decide +kernel
theorem dX14_isSpare_18 : decode cX14_isSpare 18 = .ok (.iload_n 3, 1) := by decide +kernel
theorem dX14_isSpare_19 : decode cX14_isSpare 19 = .ok (.sipush 1000, 3) := by decide +kernel
theorem dX14_isSpare_22 : decode cX14_isSpare 22 = .ok (.if_icmp .ge 44, 3) := by decide +kernel
theorem dX14_isSpare_25 : decode cX14_isSpare 25 = .ok (.iload_n 2, 1) := by decide +kernel
theorem dX14_isSpare_26 : decode cX14_isSpare 26 = .ok (.ifCond .eq 32, 3) := by decide +kernel
theorem dX14_isSpare_29 : decode cX14_isSpare 29 = .ok (.aload_n 0, 1) := by decide +kernel
theorem dX14_isSpare_30 : decode cX14_isSpare 30 = .ok (.getfield 72, 3) := by decide +kernel
theorem dX14_isSpare_33 : decode cX14_isSpare 33 = .ok (.iload_n 3, 1) := by decide +kernel
theorem dX14_isSpare_34 : decode cX14_isSpare 34 = .ok (.baload, 1) := by decide +kernel
theorem dX14_isSpare_35 : decode cX14_isSpare 35 = .ok (.aload_n 0, 1) := by decide +kernel
theorem dX14_isSpare_36 : decode cX14_isSpare 36 = .ok (.getfield 63, 3) := by decide +kernel
theorem dX14_isSpare_39 : decode cX14_isSpare 39 = .ok (.iload_n 3, 1) := by decide +kernel
theorem dX14_isSpare_40 : decode cX14_isSpare 40 = .ok (.iaload, 1) := by decide +kernel
theorem dX14_isSpare_41 : decode cX14_isSpare 41 = .ok (.ldc 253, 2) := by decide +kernel
theorem dX14_isSpare_43 : decode cX14_isSpare 43 = .ok (.if_icmp .ge 7, 3) := by decide +kernel
theorem dX14_isSpare_46 : decode cX14_isSpare 46 = .ok (.iconst 1, 1) := by decide +kernel
theorem dX14_isSpare_47 : decode cX14_isSpare 47 = .ok (.goto 4, 3) := by decide +kernel
theorem dX14_isSpare_50 : decode cX14_isSpare 50 = .ok (.iconst 0, 1) := by decide +kernel
theorem dX14_isSpare_51 : decode cX14_isSpare 51 = .ok (.if_icmp .ne 7, 3) := by decide +kernel
theorem dX14_isSpare_54 : decode cX14_isSpare 54 = .ok (.iconst 1, 1) := by decide +kernel
theorem dX14_isSpare_55 : decode cX14_isSpare 55 = .ok (.goto 4, 3) := by decide +kernel
theorem dX14_isSpare_58 : decode cX14_isSpare 58 = .ok (.iconst 0, 1) := by decide +kernel
theorem dX14_isSpare_59 : decode cX14_isSpare 59 = .ok (.istore_n 2, 1) := by decide +kernel
theorem dX14_isSpare_60 : decode cX14_isSpare 60 = .ok (.iinc 3 1, 3) := by decide +kernel
theorem dX14_isSpare_63 : decode cX14_isSpare 63 = .ok (.goto (-45), 3) := by decide +kernel
theorem dX14_isSpare_66 : decode cX14_isSpare 66 = .ok (.iload_n 2, 1) := by decide +kernel
theorem dX14_isSpare_67 : decode cX14_isSpare 67 = .ok (.ireturn, 1) := by decide +kernel
theorem dX14_rule_0 : decode cX14_rule 0 = .ok (.aload_n 0, 1) := by decide +kernel
theorem dX14_rule_1 : decode cX14_rule 1 = .ok (.iconst 0, 1) := by decide +kernel
theorem dX14_rule_2 : decode cX14_rule 2 = .ok (.putfield 84, 3) := by decide +kernel
theorem dX14_rule_5 : decode cX14_rule 5 = .ok (.aload_n 0, 1) := by decide +kernel
theorem dX14_rule_6 : decode cX14_rule 6 = .ok (.iload_n 1, 1) := by decide +kernel
theorem dX14_rule_7 : decode cX14_rule 7 = .ok (.invokevirtual 244, 3) := by decide +kernel
theorem dX14_rule_10 : decode cX14_rule 10 = .ok (.ifCond .ne 5, 3) := by decide +kernel
theorem dX14_rule_13 : decode cX14_rule 13 = .ok (.iconst (-1), 1) := by decide +kernel
theorem dX14_rule_14 : decode cX14_rule 14 = .ok (.ireturn, 1) := by decide +kernel
theorem dX14_rule_15 : decode cX14_rule 15 = .ok (.iload_n 2, 1) := by decide +kernel
theorem dX14_rule_16 : decode cX14_rule 16 = .ok (.tableswitch 101 0 4 #[36, 48, 58, 68, 87], 36) := by decide +kernel
theorem dX14_rule_52 : decode cX14_rule 52 = .ok (.aload_n 0, 1) := by decide +kernel
theorem dX14_rule_53 : decode cX14_rule 53 = .ok (.getfield 42, 3) := by decide +kernel
theorem dX14_rule_56 : decode cX14_rule 56 = .ok (.iload_n 1, 1) := by decide +kernel
theorem dX14_rule_57 : decode cX14_rule 57 = .ok (.aaload, 1) := by decide +kernel
theorem dX14_rule_58 : decode cX14_rule 58 = .ok (.getfield 171, 3) := by decide +kernel
theorem dX14_rule_61 : decode cX14_rule 61 = .ok (.iconst 0, 1) := by decide +kernel
theorem dX14_rule_62 : decode cX14_rule 62 = .ok (.iaload, 1) := by decide +kernel
theorem dX14_rule_63 : decode cX14_rule 63 = .ok (.ireturn, 1) := by decide +kernel
theorem dX14_rule_64 : decode cX14_rule 64 = .ok (.aload_n 0, 1) := by decide +kernel
theorem dX14_rule_65 : decode cX14_rule 65 = .ok (.getfield 42, 3) := by decide +kernel
theorem dX14_rule_68 : decode cX14_rule 68 = .ok (.iload_n 1, 1) := by decide +kernel
theorem dX14_rule_69 : decode cX14_rule 69 = .ok (.aaload, 1) := by decide +kernel
theorem dX14_rule_70 : decode cX14_rule 70 = .ok (.getfield 199, 3) := by decide +kernel
theorem dX14_rule_73 : decode cX14_rule 73 = .ok (.ireturn, 1) := by decide +kernel
theorem dX14_rule_74 : decode cX14_rule 74 = .ok (.aload_n 0, 1) := by decide +kernel
theorem dX14_rule_75 : decode cX14_rule 75 = .ok (.getfield 42, 3) := by decide +kernel
theorem dX14_rule_78 : decode cX14_rule 78 = .ok (.iload_n 1, 1) := by decide +kernel
theorem dX14_rule_79 : decode cX14_rule 79 = .ok (.aaload, 1) := by decide +kernel
theorem dX14_rule_80 : decode cX14_rule 80 = .ok (.getfield 153, 3) := by decide +kernel
theorem dX14_rule_83 : decode cX14_rule 83 = .ok (.ireturn, 1) := by decide +kernel
theorem dX14_rule_84 : decode cX14_rule 84 = .ok (.aload_n 0, 1) := by decide +kernel
theorem dX14_rule_85 : decode cX14_rule 85 = .ok (.aload_n 0, 1) := by decide +kernel
theorem dX14_rule_86 : decode cX14_rule 86 = .ok (.getfield 42, 3) := by decide +kernel
theorem dX14_rule_89 : decode cX14_rule 89 = .ok (.iload_n 1, 1) := by decide +kernel
theorem dX14_rule_90 : decode cX14_rule 90 = .ok (.aaload, 1) := by decide +kernel
theorem dX14_rule_91 : decode cX14_rule 91 = .ok (.invokevirtual 309, 3) := by decide +kernel
theorem dX14_rule_94 : decode cX14_rule 94 = .ok (.ifCond .eq 7, 3) := by decide +kernel
theorem dX14_rule_97 : decode cX14_rule 97 = .ok (.iconst 1, 1) := by decide +kernel
theorem dX14_rule_98 : decode cX14_rule 98 = .ok (.goto 4, 3) := by decide +kernel
theorem dX14_rule_101 : decode cX14_rule 101 = .ok (.iconst 0, 1) := by decide +kernel
theorem dX14_rule_102 : decode cX14_rule 102 = .ok (.ireturn, 1) := by decide +kernel
theorem dX14_rule_103 : decode cX14_rule 103 = .ok (.aload_n 0, 1) := by decide +kernel
theorem dX14_rule_104 : decode cX14_rule 104 = .ok (.iload_n 1, 1) := by decide +kernel
theorem dX14_rule_105 : decode cX14_rule 105 = .ok (.invokevirtual 312, 3) := by decide +kernel
theorem dX14_rule_108 : decode cX14_rule 108 = .ok (.ifCond .eq 7, 3) := by decide +kernel
theorem dX14_rule_111 : decode cX14_rule 111 = .ok (.iconst 1, 1) := by decide +kernel
theorem dX14_rule_112 : decode cX14_rule 112 = .ok (.goto 4, 3) := by decide +kernel
theorem dX14_rule_115 : decode cX14_rule 115 = .ok (.iconst 0, 1) := by decide +kernel
theorem dX14_rule_116 : decode cX14_rule 116 = .ok (.ireturn, 1) := by decide +kernel
theorem dX14_rule_117 : decode cX14_rule 117 = .ok (.iconst (-1), 1) := by decide +kernel
theorem dX14_rule_118 : decode cX14_rule 118 = .ok (.ireturn, 1) := by decide +kernel
theorem dX14_term_0 : decode cX14_term 0 = .ok (.aload_n 0, 1) := by decide +kernel
theorem dX14_term_1 : decode cX14_term 1 = .ok (.iconst 0, 1) := by decide +kernel
theorem dX14_term_2 : decode cX14_term 2 = .ok (.putfield 84, 3) := by decide +kernel
theorem dX14_term_5 : decode cX14_term 5 = .ok (.aload_n 0, 1) := by decide +kernel
theorem dX14_term_6 : decode cX14_term 6 = .ok (.iload_n 1, 1) := by decide +kernel
theorem dX14_term_7 : decode cX14_term 7 = .ok (.invokevirtual 244, 3) := by decide +kernel
theorem dX14_term_10 : decode cX14_term 10 = .ok (.ifCond .eq 20, 3) := by decide +kernel
theorem dX14_term_13 : decode cX14_term 13 = .ok (.iload_n 2, 1) := by decide +kernel
theorem dX14_term_14 : decode cX14_term 14 = .ok (.ifCond .lt 16, 3) := by decide +kernel
theorem dX14_term_17 : decode cX14_term 17 = .ok (.iload_n 2, 1) := by decide +kernel
theorem dX14_term_18 : decode cX14_term 18 = .ok (.aload_n 0, 1) := by decide +kernel
theorem dX14_term_19 : decode cX14_term 19 = .ok (.getfield 42, 3) := by decide +kernel
theorem dX14_term_22 : decode cX14_term 22 = .ok (.iload_n 1, 1) := by decide +kernel
theorem dX14_term_23 : decode cX14_term 23 = .ok (.aaload, 1) := by decide +kernel
theorem dX14_term_24 : decode cX14_term 24 = .ok (.getfield 199, 3) := by decide +kernel
theorem dX14_term_27 : decode cX14_term 27 = .ok (.if_icmp .lt 5, 3) := by decide +kernel
theorem dX14_term_30 : decode cX14_term 30 = .ok (.iconst (-1), 1) := by decide +kernel
theorem dX14_term_31 : decode cX14_term 31 = .ok (.ireturn, 1) := by decide +kernel
theorem dX14_term_32 : decode cX14_term 32 = .ok (.aload_n 0, 1) := by decide +kernel
theorem dX14_term_33 : decode cX14_term 33 = .ok (.getfield 42, 3) := by decide +kernel
theorem dX14_term_36 : decode cX14_term 36 = .ok (.iload_n 1, 1) := by decide +kernel
theorem dX14_term_37 : decode cX14_term 37 = .ok (.aaload, 1) := by decide +kernel
theorem dX14_term_38 : decode cX14_term 38 = .ok (.astore 4, 2) := by decide +kernel
theorem dX14_term_40 : decode cX14_term 40 = .ok (.iload_n 3, 1) := by decide +kernel
theorem dX14_term_41 : decode cX14_term 41 = .ok (.tableswitch 71 0 3 #[31, 41, 51, 61], 31) := by decide +kernel
theorem dX14_term_72 : decode cX14_term 72 = .ok (.aload 4, 2) := by decide +kernel
theorem dX14_term_74 : decode cX14_term 74 = .ok (.getfield 169, 3) := by decide +kernel
theorem dX14_term_77 : decode cX14_term 77 = .ok (.iload_n 2, 1) := by decide +kernel
theorem dX14_term_78 : decode cX14_term 78 = .ok (.iconst 1, 1) := by decide +kernel
theorem dX14_term_79 : decode cX14_term 79 = .ok (.iadd, 1) := by decide +kernel
theorem dX14_term_80 : decode cX14_term 80 = .ok (.iaload, 1) := by decide +kernel
theorem dX14_term_81 : decode cX14_term 81 = .ok (.ireturn, 1) := by decide +kernel
theorem dX14_term_82 : decode cX14_term 82 = .ok (.aload 4, 2) := by decide +kernel
theorem dX14_term_84 : decode cX14_term 84 = .ok (.getfield 171, 3) := by decide +kernel
theorem dX14_term_87 : decode cX14_term 87 = .ok (.iload_n 2, 1) := by decide +kernel
theorem dX14_term_88 : decode cX14_term 88 = .ok (.iconst 1, 1) := by decide +kernel
theorem dX14_term_89 : decode cX14_term 89 = .ok (.iadd, 1) := by decide +kernel
theorem dX14_term_90 : decode cX14_term 90 = .ok (.iaload, 1) := by decide +kernel
theorem dX14_term_91 : decode cX14_term 91 = .ok (.ireturn, 1) := by decide +kernel
theorem dX14_term_92 : decode cX14_term 92 = .ok (.aload 4, 2) := by decide +kernel
theorem dX14_term_94 : decode cX14_term 94 = .ok (.getfield 173, 3) := by decide +kernel
theorem dX14_term_97 : decode cX14_term 97 = .ok (.iload_n 2, 1) := by decide +kernel
theorem dX14_term_98 : decode cX14_term 98 = .ok (.iconst 1, 1) := by decide +kernel
theorem dX14_term_99 : decode cX14_term 99 = .ok (.iadd, 1) := by decide +kernel
theorem dX14_term_100 : decode cX14_term 100 = .ok (.iaload, 1) := by decide +kernel
theorem dX14_term_101 : decode cX14_term 101 = .ok (.ireturn, 1) := by decide +kernel
theorem dX14_term_102 : decode cX14_term 102 = .ok (.aload 4, 2) := by decide +kernel
theorem dX14_term_104 : decode cX14_term 104 = .ok (.getfield 176, 3) := by decide +kernel
theorem dX14_term_107 : decode cX14_term 107 = .ok (.iload_n 2, 1) := by decide +kernel
theorem dX14_term_108 : decode cX14_term 108 = .ok (.iconst 1, 1) := by decide +kernel
theorem dX14_term_109 : decode cX14_term 109 = .ok (.iadd, 1) := by decide +kernel
theorem dX14_term_110 : decode cX14_term 110 = .ok (.iaload, 1) := by decide +kernel
theorem dX14_term_111 : decode cX14_term 111 = .ok (.ireturn, 1) := by decide +kernel
theorem dX14_term_112 : decode cX14_term 112 = .ok (.iconst (-1), 1) := by decide +kernel
theorem dX14_term_113 : decode cX14_term 113 = .ok (.ireturn, 1) := by decide +kernel
theorem dX14_loses_0 : decode cX14_loses 0 = .ok (.iload_n 3, 1) := by decide +kernel
theorem dX14_loses_1 : decode cX14_loses 1 = .ok (.ifCond .ne 25, 3) := by decide +kernel
theorem dX14_loses_4 : decode cX14_loses 4 = .ok (.aload_n 0, 1) := by decide +kernel
theorem dX14_loses_5 : decode cX14_loses 5 = .ok (.iconst (-1), 1) := by decide +kernel
theorem dX14_loses_6 : decode cX14_loses 6 = .ok (.invokevirtual 284, 3) := by decide +kernel
theorem dX14_loses_9 : decode cX14_loses 9 = .ok (.aload_n 0, 1) := by decide +kernel
theorem dX14_loses_10 : decode cX14_loses 10 = .ok (.getfield 63, 3) := by decide +kernel
theorem dX14_loses_13 : decode cX14_loses 13 = .ok (.iload_n 1, 1) := by decide +kernel
theorem dX14_loses_14 : decode cX14_loses 14 = .ok (.iaload, 1) := by decide +kernel
theorem dX14_loses_15 : decode cX14_loses 15 = .ok (.ldc 253, 2) := by decide +kernel
theorem dX14_loses_17 : decode cX14_loses 17 = .ok (.if_icmp .lt 7, 3) := by decide +kernel
theorem dX14_loses_20 : decode cX14_loses 20 = .ok (.iconst 1, 1) := by decide +kernel
theorem dX14_loses_21 : decode cX14_loses 21 = .ok (.goto 4, 3) := by decide +kernel
theorem dX14_loses_24 : decode cX14_loses 24 = .ok (.iconst 0, 1) := by decide +kernel
theorem dX14_loses_25 : decode cX14_loses 25 = .ok (.ireturn, 1) := by decide +kernel
theorem dX14_loses_26 : decode cX14_loses 26 = .ok (.iload_n 2, 1) := by decide +kernel
theorem dX14_loses_27 : decode cX14_loses 27 = .ok (.istore 5, 2) := by decide +kernel
theorem dX14_loses_29 : decode cX14_loses 29 = .ok (.iload 5, 2) := by decide +kernel
theorem dX14_loses_31 : decode cX14_loses 31 = .ok (.aload_n 0, 1) := by decide +kernel
theorem dX14_loses_32 : decode cX14_loses 32 = .ok (.getfield 315, 3) := by decide +kernel
theorem dX14_loses_35 : decode cX14_loses 35 = .ok (.if_icmp .ge 74, 3) := by decide +kernel
theorem dX14_loses_38 : decode cX14_loses 38 = .ok (.aload_n 0, 1) := by decide +kernel
theorem dX14_loses_39 : decode cX14_loses 39 = .ok (.getfield 33, 3) := by decide +kernel
theorem dX14_loses_42 : decode cX14_loses 42 = .ok (.aload_n 0, 1) := by decide +kernel
theorem dX14_loses_43 : decode cX14_loses 43 = .ok (.getfield 75, 3) := by decide +kernel
theorem dX14_loses_46 : decode cX14_loses 46 = .ok (.iload 5, 2) := by decide +kernel
theorem dX14_loses_48 : decode cX14_loses 48 = .ok (.iaload, 1) := by decide +kernel
theorem dX14_loses_49 : decode cX14_loses 49 = .ok (.iconst 0, 1) := by decide +kernel
theorem dX14_loses_50 : decode cX14_loses 50 = .ok (.bastore, 1) := by decide +kernel
theorem dX14_loses_51 : decode cX14_loses 51 = .ok (.aload_n 0, 1) := by decide +kernel
theorem dX14_loses_52 : decode cX14_loses 52 = .ok (.getfield 81, 3) := by decide +kernel
theorem dX14_loses_55 : decode cX14_loses 55 = .ok (.iload 4, 2) := by decide +kernel
theorem dX14_loses_57 : decode cX14_loses 57 = .ok (.aload_n 0, 1) := by decide +kernel
theorem dX14_loses_58 : decode cX14_loses 58 = .ok (.getfield 75, 3) := by decide +kernel
theorem dX14_loses_61 : decode cX14_loses 61 = .ok (.iload 5, 2) := by decide +kernel
theorem dX14_loses_63 : decode cX14_loses 63 = .ok (.iaload, 1) := by decide +kernel
theorem dX14_loses_64 : decode cX14_loses 64 = .ok (.iastore, 1) := by decide +kernel
theorem dX14_loses_65 : decode cX14_loses 65 = .ok (.aload_n 0, 1) := by decide +kernel
theorem dX14_loses_66 : decode cX14_loses 66 = .ok (.iload_n 1, 1) := by decide +kernel
theorem dX14_loses_67 : decode cX14_loses 67 = .ok (.iload 5, 2) := by decide +kernel
theorem dX14_loses_69 : decode cX14_loses 69 = .ok (.iconst 1, 1) := by decide +kernel
theorem dX14_loses_70 : decode cX14_loses 70 = .ok (.iadd, 1) := by decide +kernel
theorem dX14_loses_71 : decode cX14_loses 71 = .ok (.iload_n 3, 1) := by decide +kernel
theorem dX14_loses_72 : decode cX14_loses 72 = .ok (.iconst 1, 1) := by decide +kernel
theorem dX14_loses_73 : decode cX14_loses 73 = .ok (.isub, 1) := by decide +kernel
theorem dX14_loses_74 : decode cX14_loses 74 = .ok (.iload 4, 2) := by decide +kernel
theorem dX14_loses_76 : decode cX14_loses 76 = .ok (.iconst 1, 1) := by decide +kernel
theorem dX14_loses_77 : decode cX14_loses 77 = .ok (.iadd, 1) := by decide +kernel
theorem dX14_loses_78 : decode cX14_loses 78 = .ok (.invokevirtual 318, 3) := by decide +kernel
theorem dX14_loses_81 : decode cX14_loses 81 = .ok (.istore 6, 2) := by decide +kernel
theorem dX14_loses_83 : decode cX14_loses 83 = .ok (.aload_n 0, 1) := by decide +kernel
theorem dX14_loses_84 : decode cX14_loses 84 = .ok (.getfield 33, 3) := by decide +kernel
theorem dX14_loses_87 : decode cX14_loses 87 = .ok (.aload_n 0, 1) := by decide +kernel
theorem dX14_loses_88 : decode cX14_loses 88 = .ok (.getfield 75, 3) := by decide +kernel
theorem dX14_loses_91 : decode cX14_loses 91 = .ok (.iload 5, 2) := by decide +kernel
theorem dX14_loses_93 : decode cX14_loses 93 = .ok (.iaload, 1) := by decide +kernel
theorem dX14_loses_94 : decode cX14_loses 94 = .ok (.iconst 1, 1) := by decide +kernel
theorem dX14_loses_95 : decode cX14_loses 95 = .ok (.bastore, 1) := by decide +kernel
theorem dX14_loses_96 : decode cX14_loses 96 = .ok (.iload 6, 2) := by decide +kernel
theorem dX14_loses_98 : decode cX14_loses 98 = .ok (.ifCond .eq 5, 3) := by decide +kernel
theorem dX14_loses_101 : decode cX14_loses 101 = .ok (.iconst 1, 1) := by decide +kernel
theorem dX14_loses_102 : decode cX14_loses 102 = .ok (.ireturn, 1) := by decide +kernel
theorem dX14_loses_103 : decode cX14_loses 103 = .ok (.iinc 5 1, 3) := by decide +kernel
theorem dX14_loses_106 : decode cX14_loses 106 = .ok (.goto (-77), 3) := by decide +kernel
theorem dX14_loses_109 : decode cX14_loses 109 = .ok (.iconst 0, 1) := by decide +kernel
theorem dX14_loses_110 : decode cX14_loses 110 = .ok (.ireturn, 1) := by decide +kernel
theorem dX14_go_0 : decode cX14_go 0 = .ok (.aload_n 0, 1) := by decide +kernel
theorem dX14_go_1 : decode cX14_go 1 = .ok (.iconst 0, 1) := by decide +kernel
theorem dX14_go_2 : decode cX14_go 2 = .ok (.putfield 84, 3) := by decide +kernel
theorem dX14_go_5 : decode cX14_go 5 = .ok (.aload_n 0, 1) := by decide +kernel
theorem dX14_go_6 : decode cX14_go 6 = .ok (.iload_n 1, 1) := by decide +kernel
theorem dX14_go_7 : decode cX14_go 7 = .ok (.invokevirtual 239, 3) := by decide +kernel
theorem dX14_go_10 : decode cX14_go 10 = .ok (.ifCond .ne 9, 3) := by decide +kernel
theorem dX14_go_13 : decode cX14_go 13 = .ok (.aload_n 0, 1) := by decide +kernel
theorem dX14_go_14 : decode cX14_go 14 = .ok (.iconst 1, 1) := by decide +kernel
theorem dX14_go_15 : decode cX14_go 15 = .ok (.invokevirtual 214, 3) := by decide +kernel
theorem dX14_go_18 : decode cX14_go 18 = .ok (.ireturn, 1) := by decide +kernel
theorem dX14_go_19 : decode cX14_go 19 = .ok (.aload_n 0, 1) := by decide +kernel
theorem dX14_go_20 : decode cX14_go 20 = .ok (.iconst (-1), 1) := by decide +kernel
theorem dX14_go_21 : decode cX14_go 21 = .ok (.invokevirtual 284, 3) := by decide +kernel
theorem dX14_go_24 : decode cX14_go 24 = .ok (.aload_n 0, 1) := by decide +kernel
theorem dX14_go_25 : decode cX14_go 25 = .ok (.getfield 63, 3) := by decide +kernel
theorem dX14_go_28 : decode cX14_go 28 = .ok (.iload_n 1, 1) := by decide +kernel
theorem dX14_go_29 : decode cX14_go 29 = .ok (.iaload, 1) := by decide +kernel
theorem dX14_go_30 : decode cX14_go 30 = .ok (.ldc 253, 2) := by decide +kernel
theorem dX14_go_32 : decode cX14_go 32 = .ok (.if_icmp .lt 9, 3) := by decide +kernel
theorem dX14_go_35 : decode cX14_go 35 = .ok (.aload_n 0, 1) := by decide +kernel
theorem dX14_go_36 : decode cX14_go 36 = .ok (.iconst 5, 1) := by decide +kernel
theorem dX14_go_37 : decode cX14_go 37 = .ok (.invokevirtual 214, 3) := by decide +kernel
theorem dX14_go_40 : decode cX14_go 40 = .ok (.ireturn, 1) := by decide +kernel
theorem dX14_go_41 : decode cX14_go 41 = .ok (.aload_n 0, 1) := by decide +kernel
theorem dX14_go_42 : decode cX14_go 42 = .ok (.iconst 0, 1) := by decide +kernel
theorem dX14_go_43 : decode cX14_go 43 = .ok (.putfield 315, 3) := by decide +kernel
theorem dX14_go_46 : decode cX14_go 46 = .ok (.iconst 0, 1) := by decide +kernel
theorem dX14_go_47 : decode cX14_go 47 = .ok (.istore_n 2, 1) := by decide +kernel
theorem dX14_go_48 : decode cX14_go 48 = .ok (.iload_n 2, 1) := by decide +kernel
theorem dX14_go_49 : decode cX14_go 49 = .ok (.sipush 1000, 3) := by decide +kernel
theorem dX14_go_52 : decode cX14_go 52 = .ok (.if_icmp .ge 57, 3) := by decide +kernel
theorem dX14_go_55 : decode cX14_go 55 = .ok (.aload_n 0, 1) := by decide +kernel
theorem dX14_go_56 : decode cX14_go 56 = .ok (.getfield 33, 3) := by decide +kernel
theorem dX14_go_59 : decode cX14_go 59 = .ok (.iload_n 2, 1) := by decide +kernel
theorem dX14_go_60 : decode cX14_go 60 = .ok (.baload, 1) := by decide +kernel
theorem dX14_go_61 : decode cX14_go 61 = .ok (.ifCond .ne 6, 3) := by decide +kernel
theorem dX14_go_64 : decode cX14_go 64 = .ok (.goto 39, 3) := by decide +kernel
theorem dX14_go_67 : decode cX14_go 67 = .ok (.aload_n 0, 1) := by decide +kernel
theorem dX14_go_68 : decode cX14_go 68 = .ok (.getfield 315, 3) := by decide +kernel
theorem dX14_go_71 : decode cX14_go 71 = .ok (.bipush 12, 2) := by decide +kernel
theorem dX14_go_73 : decode cX14_go 73 = .ok (.if_icmp .ne 10, 3) := by decide +kernel
theorem dX14_go_76 : decode cX14_go 76 = .ok (.aload_n 0, 1) := by decide +kernel
theorem dX14_go_77 : decode cX14_go 77 = .ok (.bipush 6, 2) := by decide +kernel
theorem dX14_go_79 : decode cX14_go 79 = .ok (.invokevirtual 214, 3) := by decide +kernel
theorem dX14_go_82 : decode cX14_go 82 = .ok (.ireturn, 1) := by decide +kernel
theorem dX14_go_83 : decode cX14_go 83 = .ok (.aload_n 0, 1) := by decide +kernel
theorem dX14_go_84 : decode cX14_go 84 = .ok (.getfield 75, 3) := by decide +kernel
theorem dX14_go_87 : decode cX14_go 87 = .ok (.aload_n 0, 1) := by decide +kernel
theorem dX14_go_88 : decode cX14_go 88 = .ok (.getfield 315, 3) := by decide +kernel
theorem dX14_go_91 : decode cX14_go 91 = .ok (.iload_n 2, 1) := by decide +kernel
theorem dX14_go_92 : decode cX14_go 92 = .ok (.iastore, 1) := by decide +kernel
theorem dX14_go_93 : decode cX14_go 93 = .ok (.aload_n 0, 1) := by decide +kernel
theorem dX14_go_94 : decode cX14_go 94 = .ok (.dup, 1) := by decide +kernel
theorem dX14_go_95 : decode cX14_go 95 = .ok (.getfield 315, 3) := by decide +kernel
theorem dX14_go_98 : decode cX14_go 98 = .ok (.iconst 1, 1) := by decide +kernel
theorem dX14_go_99 : decode cX14_go 99 = .ok (.iadd, 1) := by decide +kernel
theorem dX14_go_100 : decode cX14_go 100 = .ok (.putfield 315, 3) := by decide +kernel
theorem dX14_go_103 : decode cX14_go 103 = .ok (.iinc 2 1, 3) := by decide +kernel
theorem dX14_go_106 : decode cX14_go 106 = .ok (.goto (-58), 3) := by decide +kernel
theorem dX14_go_109 : decode cX14_go 109 = .ok (.iconst 0, 1) := by decide +kernel
theorem dX14_go_110 : decode cX14_go 110 = .ok (.istore_n 2, 1) := by decide +kernel
theorem dX14_go_111 : decode cX14_go 111 = .ok (.iload_n 2, 1) := by decide +kernel
theorem dX14_go_112 : decode cX14_go 112 = .ok (.iconst 3, 1) := by decide +kernel
theorem dX14_go_113 : decode cX14_go 113 = .ok (.if_icmp .gt 59, 3) := by decide +kernel
theorem dX14_go_116 : decode cX14_go 116 = .ok (.aload_n 0, 1) := by decide +kernel
theorem dX14_go_117 : decode cX14_go 117 = .ok (.iload_n 1, 1) := by decide +kernel
theorem dX14_go_118 : decode cX14_go 118 = .ok (.iconst 0, 1) := by decide +kernel
theorem dX14_go_119 : decode cX14_go 119 = .ok (.iload_n 2, 1) := by decide +kernel
theorem dX14_go_120 : decode cX14_go 120 = .ok (.iconst 0, 1) := by decide +kernel
theorem dX14_go_121 : decode cX14_go 121 = .ok (.invokevirtual 318, 3) := by decide +kernel
theorem dX14_go_124 : decode cX14_go 124 = .ok (.ifCond .ne 6, 3) := by decide +kernel
theorem dX14_go_127 : decode cX14_go 127 = .ok (.goto 39, 3) := by decide +kernel
theorem dX14_go_130 : decode cX14_go 130 = .ok (.aload_n 0, 1) := by decide +kernel
theorem dX14_go_131 : decode cX14_go 131 = .ok (.iload_n 2, 1) := by decide +kernel
theorem dX14_go_132 : decode cX14_go 132 = .ok (.putfield 322, 3) := by decide +kernel
theorem dX14_go_135 : decode cX14_go 135 = .ok (.iconst 0, 1) := by decide +kernel
theorem dX14_go_136 : decode cX14_go 136 = .ok (.istore_n 3, 1) := by decide +kernel
theorem dX14_go_137 : decode cX14_go 137 = .ok (.iload_n 3, 1) := by decide +kernel
theorem dX14_go_138 : decode cX14_go 138 = .ok (.iload_n 2, 1) := by decide +kernel
theorem dX14_go_139 : decode cX14_go 139 = .ok (.if_icmp .ge 21, 3) := by decide +kernel
theorem dX14_go_142 : decode cX14_go 142 = .ok (.aload_n 0, 1) := by decide +kernel
theorem dX14_go_143 : decode cX14_go 143 = .ok (.getfield 78, 3) := by decide +kernel
theorem dX14_go_146 : decode cX14_go 146 = .ok (.iload_n 3, 1) := by decide +kernel
theorem dX14_go_147 : decode cX14_go 147 = .ok (.aload_n 0, 1) := by decide +kernel
theorem dX14_go_148 : decode cX14_go 148 = .ok (.getfield 81, 3) := by decide +kernel
theorem dX14_go_151 : decode cX14_go 151 = .ok (.iload_n 3, 1) := by decide +kernel
theorem dX14_go_152 : decode cX14_go 152 = .ok (.iaload, 1) := by decide +kernel
theorem dX14_go_153 : decode cX14_go 153 = .ok (.iastore, 1) := by decide +kernel
theorem dX14_go_154 : decode cX14_go 154 = .ok (.iinc 3 1, 3) := by decide +kernel
theorem dX14_go_157 : decode cX14_go 157 = .ok (.goto (-20), 3) := by decide +kernel
theorem dX14_go_160 : decode cX14_go 160 = .ok (.aload_n 0, 1) := by decide +kernel
theorem dX14_go_161 : decode cX14_go 161 = .ok (.iload_n 2, 1) := by decide +kernel
theorem dX14_go_162 : decode cX14_go 162 = .ok (.invokevirtual 229, 3) := by decide +kernel
theorem dX14_go_165 : decode cX14_go 165 = .ok (.ireturn, 1) := by decide +kernel
theorem dX14_go_166 : decode cX14_go 166 = .ok (.iinc 2 1, 3) := by decide +kernel
theorem dX14_go_169 : decode cX14_go 169 = .ok (.goto (-58), 3) := by decide +kernel
theorem dX14_go_172 : decode cX14_go 172 = .ok (.aload_n 0, 1) := by decide +kernel
theorem dX14_go_173 : decode cX14_go 173 = .ok (.bipush (-2), 2) := by decide +kernel
theorem dX14_go_175 : decode cX14_go 175 = .ok (.invokevirtual 229, 3) := by decide +kernel
theorem dX14_go_178 : decode cX14_go 178 = .ok (.ireturn, 1) := by decide +kernel
theorem dX14_gone_0 : decode cX14_gone 0 = .ok (.aload_n 0, 1) := by decide +kernel
theorem dX14_gone_1 : decode cX14_gone 1 = .ok (.iconst 0, 1) := by decide +kernel
theorem dX14_gone_2 : decode cX14_gone 2 = .ok (.putfield 84, 3) := by decide +kernel
theorem dX14_gone_5 : decode cX14_gone 5 = .ok (.iload_n 1, 1) := by decide +kernel
theorem dX14_gone_6 : decode cX14_gone 6 = .ok (.ifCond .lt 20, 3) := by decide +kernel
theorem dX14_gone_9 : decode cX14_gone 9 = .ok (.iload_n 1, 1) := by decide +kernel
theorem dX14_gone_10 : decode cX14_gone 10 = .ok (.aload_n 0, 1) := by decide +kernel
theorem dX14_gone_11 : decode cX14_gone 11 = .ok (.getfield 322, 3) := by decide +kernel
theorem dX14_gone_14 : decode cX14_gone 14 = .ok (.if_icmp .ge 12, 3) := by decide +kernel
theorem dX14_gone_17 : decode cX14_gone 17 = .ok (.aload_n 0, 1) := by decide +kernel
theorem dX14_gone_18 : decode cX14_gone 18 = .ok (.getfield 78, 3) := by decide +kernel
theorem dX14_gone_21 : decode cX14_gone 21 = .ok (.iload_n 1, 1) := by decide +kernel
theorem dX14_gone_22 : decode cX14_gone 22 = .ok (.iaload, 1) := by decide +kernel
theorem dX14_gone_23 : decode cX14_gone 23 = .ok (.goto 4, 3) := by decide +kernel
theorem dX14_gone_26 : decode cX14_gone 26 = .ok (.iconst (-1), 1) := by decide +kernel
theorem dX14_gone_27 : decode cX14_gone 27 = .ok (.ireturn, 1) := by decide +kernel
theorem dX14_derived_0 : decode cX14_derived 0 = .ok (.aload_n 0, 1) := by decide +kernel
theorem dX14_derived_1 : decode cX14_derived 1 = .ok (.iconst 0, 1) := by decide +kernel
theorem dX14_derived_2 : decode cX14_derived 2 = .ok (.putfield 84, 3) := by decide +kernel
theorem dX14_derived_5 : decode cX14_derived 5 = .ok (.aload_n 0, 1) := by decide +kernel
theorem dX14_derived_6 : decode cX14_derived 6 = .ok (.iconst (-1), 1) := by decide +kernel
theorem dX14_derived_7 : decode cX14_derived 7 = .ok (.invokevirtual 284, 3) := by decide +kernel
theorem dX14_derived_10 : decode cX14_derived 10 = .ok (.iconst 0, 1) := by decide +kernel
theorem dX14_derived_11 : decode cX14_derived 11 = .ok (.istore_n 1, 1) := by decide +kernel
theorem dX14_derived_12 : decode cX14_derived 12 = .ok (.iconst 0, 1) := by decide +kernel
theorem dX14_derived_13 : decode cX14_derived 13 = .ok (.istore_n 2, 1) := by decide +kernel
theorem dX14_derived_14 : decode cX14_derived 14 = .ok (.iload_n 2, 1) := by decide +kernel
theorem dX14_derived_15 : decode cX14_derived 15 = .ok (.sipush 1000, 3) := by decide +kernel
theorem dX14_derived_18 : decode cX14_derived 18 = .ok (.if_icmp .ge 37, 3) := by decide +kernel
theorem dX14_derived_21 : decode cX14_derived 21 = .ok (.iload_n 1, 1) := by decide +kernel
theorem dX14_derived_22 : decode cX14_derived 22 = .ok (.aload_n 0, 1) := by decide +kernel
theorem dX14_derived_23 : decode cX14_derived 23 = .ok (.getfield 63, 3) := by decide +kernel
theorem dX14_derived_26 : decode cX14_derived 26 = .ok (.iload_n 2, 1) := by decide +kernel
theorem dX14_derived_27 : decode cX14_derived 27 = .ok (.iaload, 1) := by decide +kernel
theorem dX14_derived_28 : decode cX14_derived 28 = .ok (.ldc 253, 2) := by decide +kernel
theorem dX14_derived_30 : decode cX14_derived 30 = .ok (.if_icmp .ge 16, 3) := by decide +kernel
theorem dX14_derived_33 : decode cX14_derived 33 = .ok (.aload_n 0, 1) := by decide +kernel
theorem dX14_derived_34 : decode cX14_derived 34 = .ok (.getfield 33, 3) := by decide +kernel
theorem dX14_derived_37 : decode cX14_derived 37 = .ok (.iload_n 2, 1) := by decide +kernel
theorem dX14_derived_38 : decode cX14_derived 38 = .ok (.baload, 1) := by decide +kernel
theorem dX14_derived_39 : decode cX14_derived 39 = .ok (.ifCond .ne 7, 3) := by decide +kernel
theorem dX14_derived_42 : decode cX14_derived 42 = .ok (.iconst 1, 1) := by decide +kernel
theorem dX14_derived_43 : decode cX14_derived 43 = .ok (.goto 4, 3) := by decide +kernel
theorem dX14_derived_46 : decode cX14_derived 46 = .ok (.iconst 0, 1) := by decide +kernel
theorem dX14_derived_47 : decode cX14_derived 47 = .ok (.iadd, 1) := by decide +kernel
theorem dX14_derived_48 : decode cX14_derived 48 = .ok (.istore_n 1, 1) := by decide +kernel
theorem dX14_derived_49 : decode cX14_derived 49 = .ok (.iinc 2 1, 3) := by decide +kernel
theorem dX14_derived_52 : decode cX14_derived 52 = .ok (.goto (-38), 3) := by decide +kernel
theorem dX14_derived_55 : decode cX14_derived 55 = .ok (.iload_n 1, 1) := by decide +kernel
theorem dX14_derived_56 : decode cX14_derived 56 = .ok (.ireturn, 1) := by decide +kernel
theorem dX14_deepest_0 : decode cX14_deepest 0 = .ok (.aload_n 0, 1) := by decide +kernel
theorem dX14_deepest_1 : decode cX14_deepest 1 = .ok (.iconst 0, 1) := by decide +kernel
theorem dX14_deepest_2 : decode cX14_deepest 2 = .ok (.putfield 84, 3) := by decide +kernel
theorem dX14_deepest_5 : decode cX14_deepest 5 = .ok (.aload_n 0, 1) := by decide +kernel
theorem dX14_deepest_6 : decode cX14_deepest 6 = .ok (.iconst (-1), 1) := by decide +kernel
theorem dX14_deepest_7 : decode cX14_deepest 7 = .ok (.invokevirtual 284, 3) := by decide +kernel
theorem dX14_deepest_10 : decode cX14_deepest 10 = .ok (.iconst 0, 1) := by decide +kernel
theorem dX14_deepest_11 : decode cX14_deepest 11 = .ok (.istore_n 1, 1) := by decide +kernel
theorem dX14_deepest_12 : decode cX14_deepest 12 = .ok (.iconst 0, 1) := by decide +kernel
theorem dX14_deepest_13 : decode cX14_deepest 13 = .ok (.istore_n 2, 1) := by decide +kernel
theorem dX14_deepest_14 : decode cX14_deepest 14 = .ok (.iload_n 2, 1) := by decide +kernel
theorem dX14_deepest_15 : decode cX14_deepest 15 = .ok (.sipush 1000, 3) := by decide +kernel
theorem dX14_deepest_18 : decode cX14_deepest 18 = .ok (.if_icmp .ge 35, 3) := by decide +kernel
theorem dX14_deepest_21 : decode cX14_deepest 21 = .ok (.aload_n 0, 1) := by decide +kernel
theorem dX14_deepest_22 : decode cX14_deepest 22 = .ok (.getfield 63, 3) := by decide +kernel
theorem dX14_deepest_25 : decode cX14_deepest 25 = .ok (.iload_n 2, 1) := by decide +kernel
theorem dX14_deepest_26 : decode cX14_deepest 26 = .ok (.iaload, 1) := by decide +kernel
theorem dX14_deepest_27 : decode cX14_deepest 27 = .ok (.ldc 253, 2) := by decide +kernel
theorem dX14_deepest_29 : decode cX14_deepest 29 = .ok (.if_icmp .ge 16, 3) := by decide +kernel
theorem dX14_deepest_32 : decode cX14_deepest 32 = .ok (.iload_n 1, 1) := by decide +kernel
theorem dX14_deepest_33 : decode cX14_deepest 33 = .ok (.aload_n 0, 1) := by decide +kernel
theorem dX14_deepest_34 : decode cX14_deepest 34 = .ok (.getfield 63, 3) := by decide +kernel
theorem dX14_deepest_37 : decode cX14_deepest 37 = .ok (.iload_n 2, 1) := by decide +kernel
theorem dX14_deepest_38 : decode cX14_deepest 38 = .ok (.iaload, 1) := by decide +kernel
theorem dX14_deepest_39 : decode cX14_deepest 39 = .ok (.invokestatic 205, 3) := by decide +kernel
theorem dX14_deepest_42 : decode cX14_deepest 42 = .ok (.goto 4, 3) := by decide +kernel
theorem dX14_deepest_45 : decode cX14_deepest 45 = .ok (.iload_n 1, 1) := by decide +kernel
theorem dX14_deepest_46 : decode cX14_deepest 46 = .ok (.istore_n 1, 1) := by decide +kernel
theorem dX14_deepest_47 : decode cX14_deepest 47 = .ok (.iinc 2 1, 3) := by decide +kernel
theorem dX14_deepest_50 : decode cX14_deepest 50 = .ok (.goto (-36), 3) := by decide +kernel
theorem dX14_deepest_53 : decode cX14_deepest 53 = .ok (.iload_n 1, 1) := by decide +kernel
theorem dX14_deepest_54 : decode cX14_deepest 54 = .ok (.ireturn, 1) := by decide +kernel
theorem dX14_turned_0 : decode cX14_turned 0 = .ok (.aload_n 0, 1) := by decide +kernel
theorem dX14_turned_1 : decode cX14_turned 1 = .ok (.iconst 0, 1) := by decide +kernel
theorem dX14_turned_2 : decode cX14_turned 2 = .ok (.putfield 84, 3) := by decide +kernel
theorem dX14_turned_5 : decode cX14_turned 5 = .ok (.aload_n 0, 1) := by decide +kernel
theorem dX14_turned_6 : decode cX14_turned 6 = .ok (.iload_n 1, 1) := by decide +kernel
theorem dX14_turned_7 : decode cX14_turned 7 = .ok (.invokevirtual 239, 3) := by decide +kernel
theorem dX14_turned_10 : decode cX14_turned 10 = .ok (.ifCond .ne 9, 3) := by decide +kernel
theorem dX14_turned_13 : decode cX14_turned 13 = .ok (.aload_n 0, 1) := by decide +kernel
theorem dX14_turned_14 : decode cX14_turned 14 = .ok (.iconst 1, 1) := by decide +kernel
theorem dX14_turned_15 : decode cX14_turned 15 = .ok (.invokevirtual 214, 3) := by decide +kernel
theorem dX14_turned_18 : decode cX14_turned 18 = .ok (.ireturn, 1) := by decide +kernel
theorem dX14_turned_19 : decode cX14_turned 19 = .ok (.aload_n 0, 1) := by decide +kernel
theorem dX14_turned_20 : decode cX14_turned 20 = .ok (.iconst (-1), 1) := by decide +kernel
theorem dX14_turned_21 : decode cX14_turned 21 = .ok (.invokevirtual 284, 3) := by decide +kernel
theorem dX14_turned_24 : decode cX14_turned 24 = .ok (.aload_n 0, 1) := by decide +kernel
theorem dX14_turned_25 : decode cX14_turned 25 = .ok (.invokevirtual 306, 3) := by decide +kernel
theorem dX14_turned_28 : decode cX14_turned 28 = .ok (.aload_n 0, 1) := by decide +kernel
theorem dX14_turned_29 : decode cX14_turned 29 = .ok (.getfield 33, 3) := by decide +kernel
theorem dX14_turned_32 : decode cX14_turned 32 = .ok (.iload_n 1, 1) := by decide +kernel
theorem dX14_turned_33 : decode cX14_turned 33 = .ok (.aload_n 0, 1) := by decide +kernel
theorem dX14_turned_34 : decode cX14_turned 34 = .ok (.getfield 33, 3) := by decide +kernel
theorem dX14_turned_37 : decode cX14_turned 37 = .ok (.iload_n 1, 1) := by decide +kernel
theorem dX14_turned_38 : decode cX14_turned 38 = .ok (.baload, 1) := by decide +kernel
theorem dX14_turned_39 : decode cX14_turned 39 = .ok (.ifCond .ne 7, 3) := by decide +kernel
theorem dX14_turned_42 : decode cX14_turned 42 = .ok (.iconst 1, 1) := by decide +kernel
theorem dX14_turned_43 : decode cX14_turned 43 = .ok (.goto 4, 3) := by decide +kernel
theorem dX14_turned_46 : decode cX14_turned 46 = .ok (.iconst 0, 1) := by decide +kernel
theorem dX14_turned_47 : decode cX14_turned 47 = .ok (.bastore, 1) := by decide +kernel
theorem dX14_turned_48 : decode cX14_turned 48 = .ok (.aload_n 0, 1) := by decide +kernel
theorem dX14_turned_49 : decode cX14_turned 49 = .ok (.iconst (-1), 1) := by decide +kernel
theorem dX14_turned_50 : decode cX14_turned 50 = .ok (.invokevirtual 284, 3) := by decide +kernel
theorem dX14_turned_53 : decode cX14_turned 53 = .ok (.aload_n 0, 1) := by decide +kernel
theorem dX14_turned_54 : decode cX14_turned 54 = .ok (.getfield 33, 3) := by decide +kernel
theorem dX14_turned_57 : decode cX14_turned 57 = .ok (.iload_n 1, 1) := by decide +kernel
theorem dX14_turned_58 : decode cX14_turned 58 = .ok (.aload_n 0, 1) := by decide +kernel
theorem dX14_turned_59 : decode cX14_turned 59 = .ok (.getfield 33, 3) := by decide +kernel
theorem dX14_turned_62 : decode cX14_turned 62 = .ok (.iload_n 1, 1) := by decide +kernel
theorem dX14_turned_63 : decode cX14_turned 63 = .ok (.baload, 1) := by decide +kernel
theorem dX14_turned_64 : decode cX14_turned 64 = .ok (.ifCond .ne 7, 3) := by decide +kernel
theorem dX14_turned_67 : decode cX14_turned 67 = .ok (.iconst 1, 1) := by decide +kernel
theorem dX14_turned_68 : decode cX14_turned 68 = .ok (.goto 4, 3) := by decide +kernel
theorem dX14_turned_71 : decode cX14_turned 71 = .ok (.iconst 0, 1) := by decide +kernel
theorem dX14_turned_72 : decode cX14_turned 72 = .ok (.bastore, 1) := by decide +kernel
theorem dX14_turned_73 : decode cX14_turned 73 = .ok (.iconst 0, 1) := by decide +kernel
theorem dX14_turned_74 : decode cX14_turned 74 = .ok (.istore_n 3, 1) := by decide +kernel
theorem dX14_turned_75 : decode cX14_turned 75 = .ok (.iconst 0, 1) := by decide +kernel
theorem dX14_turned_76 : decode cX14_turned 76 = .ok (.istore 4, 2) := by decide +kernel
theorem dX14_turned_78 : decode cX14_turned 78 = .ok (.iload 4, 2) := by decide +kernel
theorem dX14_turned_80 : decode cX14_turned 80 = .ok (.sipush 1000, 3) := by decide +kernel
theorem dX14_turned_83 : decode cX14_turned 83 = .ok (.if_icmp .ge 49, 3) := by decide +kernel
theorem dX14_turned_86 : decode cX14_turned 86 = .ok (.iload_n 3, 1) := by decide +kernel
theorem dX14_turned_87 : decode cX14_turned 87 = .ok (.aload_n 0, 1) := by decide +kernel
theorem dX14_turned_88 : decode cX14_turned 88 = .ok (.getfield 72, 3) := by decide +kernel
theorem dX14_turned_91 : decode cX14_turned 91 = .ok (.iload 4, 2) := by decide +kernel
theorem dX14_turned_93 : decode cX14_turned 93 = .ok (.baload, 1) := by decide +kernel
theorem dX14_turned_94 : decode cX14_turned 94 = .ok (.iload_n 2, 1) := by decide +kernel
theorem dX14_turned_95 : decode cX14_turned 95 = .ok (.if_icmp .ne 28, 3) := by decide +kernel
theorem dX14_turned_98 : decode cX14_turned 98 = .ok (.aload_n 0, 1) := by decide +kernel
theorem dX14_turned_99 : decode cX14_turned 99 = .ok (.getfield 63, 3) := by decide +kernel
theorem dX14_turned_102 : decode cX14_turned 102 = .ok (.iload 4, 2) := by decide +kernel
theorem dX14_turned_104 : decode cX14_turned 104 = .ok (.iaload, 1) := by decide +kernel
theorem dX14_turned_105 : decode cX14_turned 105 = .ok (.ldc 253, 2) := by decide +kernel
theorem dX14_turned_107 : decode cX14_turned 107 = .ok (.if_icmp .ge 7, 3) := by decide +kernel
theorem dX14_turned_110 : decode cX14_turned 110 = .ok (.iconst 1, 1) := by decide +kernel
theorem dX14_turned_111 : decode cX14_turned 111 = .ok (.goto 4, 3) := by decide +kernel
theorem dX14_turned_114 : decode cX14_turned 114 = .ok (.iconst 0, 1) := by decide +kernel
theorem dX14_turned_115 : decode cX14_turned 115 = .ok (.iload_n 2, 1) := by decide +kernel
theorem dX14_turned_116 : decode cX14_turned 116 = .ok (.if_icmp .eq 7, 3) := by decide +kernel
theorem dX14_turned_119 : decode cX14_turned 119 = .ok (.iconst 1, 1) := by decide +kernel
theorem dX14_turned_120 : decode cX14_turned 120 = .ok (.goto 4, 3) := by decide +kernel
theorem dX14_turned_123 : decode cX14_turned 123 = .ok (.iconst 0, 1) := by decide +kernel
theorem dX14_turned_124 : decode cX14_turned 124 = .ok (.iadd, 1) := by decide +kernel
theorem dX14_turned_125 : decode cX14_turned 125 = .ok (.istore_n 3, 1) := by decide +kernel
theorem dX14_turned_126 : decode cX14_turned 126 = .ok (.iinc 4 1, 3) := by decide +kernel
theorem dX14_turned_129 : decode cX14_turned 129 = .ok (.goto (-51), 3) := by decide +kernel
theorem dX14_turned_132 : decode cX14_turned 132 = .ok (.aload_n 0, 1) := by decide +kernel
theorem dX14_turned_133 : decode cX14_turned 133 = .ok (.iload_n 3, 1) := by decide +kernel
theorem dX14_turned_134 : decode cX14_turned 134 = .ok (.invokevirtual 229, 3) := by decide +kernel
theorem dX14_turned_137 : decode cX14_turned 137 = .ok (.ireturn, 1) := by decide +kernel
theorem dX14_count_0 : decode cX14_count 0 = .ok (.aload_n 0, 1) := by decide +kernel
theorem dX14_count_1 : decode cX14_count 1 = .ok (.iconst 0, 1) := by decide +kernel
theorem dX14_count_2 : decode cX14_count 2 = .ok (.putfield 84, 3) := by decide +kernel
theorem dX14_count_5 : decode cX14_count 5 = .ok (.iconst 0, 1) := by decide +kernel
theorem dX14_count_6 : decode cX14_count 6 = .ok (.istore_n 2, 1) := by decide +kernel
theorem dX14_count_7 : decode cX14_count 7 = .ok (.iload_n 1, 1) := by decide +kernel
theorem dX14_count_8 : decode cX14_count 8 = .ok (.tableswitch 137 0 5 #[40, 45, 50, 55, 89, 94], 40) := by decide +kernel
theorem dX14_count_48 : decode cX14_count 48 = .ok (.aload_n 0, 1) := by decide +kernel
theorem dX14_count_49 : decode cX14_count 49 = .ok (.getfield 96, 3) := by decide +kernel
theorem dX14_count_52 : decode cX14_count 52 = .ok (.ireturn, 1) := by decide +kernel
theorem dX14_count_53 : decode cX14_count 53 = .ok (.aload_n 0, 1) := by decide +kernel
theorem dX14_count_54 : decode cX14_count 54 = .ok (.getfield 90, 3) := by decide +kernel
theorem dX14_count_57 : decode cX14_count 57 = .ok (.ireturn, 1) := by decide +kernel
theorem dX14_count_58 : decode cX14_count 58 = .ok (.aload_n 0, 1) := by decide +kernel
theorem dX14_count_59 : decode cX14_count 59 = .ok (.getfield 93, 3) := by decide +kernel
theorem dX14_count_62 : decode cX14_count 62 = .ok (.ireturn, 1) := by decide +kernel
theorem dX14_count_63 : decode cX14_count 63 = .ok (.iconst 0, 1) := by decide +kernel
theorem dX14_count_64 : decode cX14_count 64 = .ok (.istore_n 3, 1) := by decide +kernel
theorem dX14_count_65 : decode cX14_count 65 = .ok (.iload_n 3, 1) := by decide +kernel
theorem dX14_count_66 : decode cX14_count 66 = .ok (.sipush 1000, 3) := by decide +kernel
theorem dX14_count_69 : decode cX14_count 69 = .ok (.if_icmp .ge 26, 3) := by decide +kernel
theorem dX14_count_72 : decode cX14_count 72 = .ok (.iload_n 2, 1) := by decide +kernel
theorem dX14_count_73 : decode cX14_count 73 = .ok (.aload_n 0, 1) := by decide +kernel
theorem dX14_count_74 : decode cX14_count 74 = .ok (.getfield 33, 3) := by decide +kernel
theorem dX14_count_77 : decode cX14_count 77 = .ok (.iload_n 3, 1) := by decide +kernel
theorem dX14_count_78 : decode cX14_count 78 = .ok (.baload, 1) := by decide +kernel
theorem dX14_count_79 : decode cX14_count 79 = .ok (.ifCond .eq 7, 3) := by decide +kernel
theorem dX14_count_82 : decode cX14_count 82 = .ok (.iconst 1, 1) := by decide +kernel
theorem dX14_count_83 : decode cX14_count 83 = .ok (.goto 4, 3) := by decide +kernel
theorem dX14_count_86 : decode cX14_count 86 = .ok (.iconst 0, 1) := by decide +kernel
theorem dX14_count_87 : decode cX14_count 87 = .ok (.iadd, 1) := by decide +kernel
theorem dX14_count_88 : decode cX14_count 88 = .ok (.istore_n 2, 1) := by decide +kernel
theorem dX14_count_89 : decode cX14_count 89 = .ok (.iinc 3 1, 3) := by decide +kernel
theorem dX14_count_92 : decode cX14_count 92 = .ok (.goto (-27), 3) := by decide +kernel
theorem dX14_count_95 : decode cX14_count 95 = .ok (.iload_n 2, 1) := by decide +kernel
theorem dX14_count_96 : decode cX14_count 96 = .ok (.ireturn, 1) := by decide +kernel
theorem dX14_count_97 : decode cX14_count 97 = .ok (.aload_n 0, 1) := by decide +kernel
theorem dX14_count_98 : decode cX14_count 98 = .ok (.getfield 211, 3) := by decide +kernel
theorem dX14_count_101 : decode cX14_count 101 = .ok (.ireturn, 1) := by decide +kernel
theorem dX14_count_102 : decode cX14_count 102 = .ok (.aload_n 0, 1) := by decide +kernel
theorem dX14_count_103 : decode cX14_count 103 = .ok (.aload_n 0, 1) := by decide +kernel
theorem dX14_count_104 : decode cX14_count 104 = .ok (.getfield 93, 3) := by decide +kernel
theorem dX14_count_107 : decode cX14_count 107 = .ok (.invokevirtual 226, 3) := by decide +kernel
theorem dX14_count_110 : decode cX14_count 110 = .ok (.istore_n 3, 1) := by decide +kernel
theorem dX14_count_111 : decode cX14_count 111 = .ok (.iconst 0, 1) := by decide +kernel
theorem dX14_count_112 : decode cX14_count 112 = .ok (.istore 4, 2) := by decide +kernel
theorem dX14_count_114 : decode cX14_count 114 = .ok (.iload 4, 2) := by decide +kernel
theorem dX14_count_116 : decode cX14_count 116 = .ok (.aload_n 0, 1) := by decide +kernel
theorem dX14_count_117 : decode cX14_count 117 = .ok (.getfield 90, 3) := by decide +kernel
theorem dX14_count_120 : decode cX14_count 120 = .ok (.if_icmp .ge 23, 3) := by decide +kernel
theorem dX14_count_123 : decode cX14_count 123 = .ok (.iload_n 2, 1) := by decide +kernel
theorem dX14_count_124 : decode cX14_count 124 = .ok (.aload_n 0, 1) := by decide +kernel
theorem dX14_count_125 : decode cX14_count 125 = .ok (.getfield 30, 3) := by decide +kernel
theorem dX14_count_128 : decode cX14_count 128 = .ok (.iload 4, 2) := by decide +kernel
theorem dX14_count_130 : decode cX14_count 130 = .ok (.iaload, 1) := by decide +kernel
theorem dX14_count_131 : decode cX14_count 131 = .ok (.iconst 1, 1) := by decide +kernel
theorem dX14_count_132 : decode cX14_count 132 = .ok (.iadd, 1) := by decide +kernel
theorem dX14_count_133 : decode cX14_count 133 = .ok (.invokestatic 205, 3) := by decide +kernel
theorem dX14_count_136 : decode cX14_count 136 = .ok (.istore_n 2, 1) := by decide +kernel
theorem dX14_count_137 : decode cX14_count 137 = .ok (.iinc 4 1, 3) := by decide +kernel
theorem dX14_count_140 : decode cX14_count 140 = .ok (.goto (-26), 3) := by decide +kernel
theorem dX14_count_143 : decode cX14_count 143 = .ok (.iload_n 2, 1) := by decide +kernel
theorem dX14_count_144 : decode cX14_count 144 = .ok (.ireturn, 1) := by decide +kernel
theorem dX14_count_145 : decode cX14_count 145 = .ok (.iconst (-1), 1) := by decide +kernel
theorem dX14_count_146 : decode cX14_count 146 = .ok (.ireturn, 1) := by decide +kernel
theorem dX14_trouble_0 : decode cX14_trouble 0 = .ok (.aload_n 0, 1) := by decide +kernel
theorem dX14_trouble_1 : decode cX14_trouble 1 = .ok (.iconst 0, 1) := by decide +kernel
theorem dX14_trouble_2 : decode cX14_trouble 2 = .ok (.putfield 84, 3) := by decide +kernel
theorem dX14_trouble_5 : decode cX14_trouble 5 = .ok (.aload_n 0, 1) := by decide +kernel
theorem dX14_trouble_6 : decode cX14_trouble 6 = .ok (.getfield 87, 3) := by decide +kernel
theorem dX14_trouble_9 : decode cX14_trouble 9 = .ok (.ireturn, 1) := by decide +kernel
theorem dJ6_bitCount_0f7a4_0 : decode cJ6_bitCount_0f7a4 0 = .ok (.iload_n 0, 1) := by decide +kernel
theorem dJ6_bitCount_0f7a4_1 : decode cJ6_bitCount_0f7a4 1 = .ok (.iload_n 0, 1) := by decide +kernel
theorem dJ6_bitCount_0f7a4_2 : decode cJ6_bitCount_0f7a4 2 = .ok (.iconst 1, 1) := by decide +kernel
theorem dJ6_bitCount_0f7a4_3 : decode cJ6_bitCount_0f7a4 3 = .ok (.iushr, 1) := by decide +kernel
theorem dJ6_bitCount_0f7a4_4 : decode cJ6_bitCount_0f7a4 4 = .ok (.ldc_w 265, 3) := by decide +kernel
theorem dJ6_bitCount_0f7a4_7 : decode cJ6_bitCount_0f7a4 7 = .ok (.iand, 1) := by decide +kernel
theorem dJ6_bitCount_0f7a4_8 : decode cJ6_bitCount_0f7a4 8 = .ok (.isub, 1) := by decide +kernel
theorem dJ6_bitCount_0f7a4_9 : decode cJ6_bitCount_0f7a4 9 = .ok (.istore_n 0, 1) := by decide +kernel
theorem dJ6_bitCount_0f7a4_10 : decode cJ6_bitCount_0f7a4 10 = .ok (.iload_n 0, 1) := by decide +kernel
theorem dJ6_bitCount_0f7a4_11 : decode cJ6_bitCount_0f7a4 11 = .ok (.ldc_w 266, 3) := by decide +kernel
theorem dJ6_bitCount_0f7a4_14 : decode cJ6_bitCount_0f7a4 14 = .ok (.iand, 1) := by decide +kernel
theorem dJ6_bitCount_0f7a4_15 : decode cJ6_bitCount_0f7a4 15 = .ok (.iload_n 0, 1) := by decide +kernel
theorem dJ6_bitCount_0f7a4_16 : decode cJ6_bitCount_0f7a4 16 = .ok (.iconst 2, 1) := by decide +kernel
theorem dJ6_bitCount_0f7a4_17 : decode cJ6_bitCount_0f7a4 17 = .ok (.iushr, 1) := by decide +kernel
theorem dJ6_bitCount_0f7a4_18 : decode cJ6_bitCount_0f7a4 18 = .ok (.ldc_w 266, 3) := by decide +kernel
theorem dJ6_bitCount_0f7a4_21 : decode cJ6_bitCount_0f7a4 21 = .ok (.iand, 1) := by decide +kernel
theorem dJ6_bitCount_0f7a4_22 : decode cJ6_bitCount_0f7a4 22 = .ok (.iadd, 1) := by decide +kernel
theorem dJ6_bitCount_0f7a4_23 : decode cJ6_bitCount_0f7a4 23 = .ok (.istore_n 0, 1) := by decide +kernel
theorem dJ6_bitCount_0f7a4_24 : decode cJ6_bitCount_0f7a4 24 = .ok (.iload_n 0, 1) := by decide +kernel
theorem dJ6_bitCount_0f7a4_25 : decode cJ6_bitCount_0f7a4 25 = .ok (.iload_n 0, 1) := by decide +kernel
theorem dJ6_bitCount_0f7a4_26 : decode cJ6_bitCount_0f7a4 26 = .ok (.iconst 4, 1) := by decide +kernel
theorem dJ6_bitCount_0f7a4_27 : decode cJ6_bitCount_0f7a4 27 = .ok (.iushr, 1) := by decide +kernel
theorem dJ6_bitCount_0f7a4_28 : decode cJ6_bitCount_0f7a4 28 = .ok (.iadd, 1) := by decide +kernel
theorem dJ6_bitCount_0f7a4_29 : decode cJ6_bitCount_0f7a4 29 = .ok (.ldc_w 267, 3) := by decide +kernel
theorem dJ6_bitCount_0f7a4_32 : decode cJ6_bitCount_0f7a4 32 = .ok (.iand, 1) := by decide +kernel
theorem dJ6_bitCount_0f7a4_33 : decode cJ6_bitCount_0f7a4 33 = .ok (.istore_n 0, 1) := by decide +kernel
theorem dJ6_bitCount_0f7a4_34 : decode cJ6_bitCount_0f7a4 34 = .ok (.iload_n 0, 1) := by decide +kernel
theorem dJ6_bitCount_0f7a4_35 : decode cJ6_bitCount_0f7a4 35 = .ok (.iload_n 0, 1) := by decide +kernel
theorem dJ6_bitCount_0f7a4_36 : decode cJ6_bitCount_0f7a4 36 = .ok (.bipush 8, 2) := by decide +kernel
theorem dJ6_bitCount_0f7a4_38 : decode cJ6_bitCount_0f7a4 38 = .ok (.iushr, 1) := by decide +kernel
theorem dJ6_bitCount_0f7a4_39 : decode cJ6_bitCount_0f7a4 39 = .ok (.iadd, 1) := by decide +kernel
theorem dJ6_bitCount_0f7a4_40 : decode cJ6_bitCount_0f7a4 40 = .ok (.istore_n 0, 1) := by decide +kernel
theorem dJ6_bitCount_0f7a4_41 : decode cJ6_bitCount_0f7a4 41 = .ok (.iload_n 0, 1) := by decide +kernel
theorem dJ6_bitCount_0f7a4_42 : decode cJ6_bitCount_0f7a4 42 = .ok (.iload_n 0, 1) := by decide +kernel
theorem dJ6_bitCount_0f7a4_43 : decode cJ6_bitCount_0f7a4 43 = .ok (.bipush 16, 2) := by decide +kernel
theorem dJ6_bitCount_0f7a4_45 : decode cJ6_bitCount_0f7a4 45 = .ok (.iushr, 1) := by decide +kernel
theorem dJ6_bitCount_0f7a4_46 : decode cJ6_bitCount_0f7a4 46 = .ok (.iadd, 1) := by decide +kernel
theorem dJ6_bitCount_0f7a4_47 : decode cJ6_bitCount_0f7a4 47 = .ok (.istore_n 0, 1) := by decide +kernel
theorem dJ6_bitCount_0f7a4_48 : decode cJ6_bitCount_0f7a4 48 = .ok (.iload_n 0, 1) := by decide +kernel
theorem dJ6_bitCount_0f7a4_49 : decode cJ6_bitCount_0f7a4 49 = .ok (.bipush 63, 2) := by decide +kernel
theorem dJ6_bitCount_0f7a4_51 : decode cJ6_bitCount_0f7a4 51 = .ok (.iand, 1) := by decide +kernel
theorem dJ6_bitCount_0f7a4_52 : decode cJ6_bitCount_0f7a4 52 = .ok (.ireturn, 1) := by decide +kernel
theorem dJ9_max_7cf53_0 : decode cJ9_max_7cf53 0 = .ok (.iload_n 0, 1) := by decide +kernel
theorem dJ9_max_7cf53_1 : decode cJ9_max_7cf53 1 = .ok (.iload_n 1, 1) := by decide +kernel
theorem dJ9_max_7cf53_2 : decode cJ9_max_7cf53 2 = .ok (.if_icmp .lt 7, 3) := by decide +kernel
theorem dJ9_max_7cf53_5 : decode cJ9_max_7cf53 5 = .ok (.iload_n 0, 1) := by decide +kernel
theorem dJ9_max_7cf53_6 : decode cJ9_max_7cf53 6 = .ok (.goto 4, 3) := by decide +kernel
theorem dJ9_max_7cf53_9 : decode cJ9_max_7cf53 9 = .ok (.iload_n 1, 1) := by decide +kernel
theorem dJ9_max_7cf53_10 : decode cJ9_max_7cf53 10 = .ok (.ireturn, 1) := by decide +kernel
theorem dJ7_fill_53178_0 : decode cJ7_fill_53178 0 = .ok (.iconst 0, 1) := by decide +kernel
theorem dJ7_fill_53178_1 : decode cJ7_fill_53178 1 = .ok (.istore_n 2, 1) := by decide +kernel
theorem dJ7_fill_53178_2 : decode cJ7_fill_53178 2 = .ok (.aload_n 0, 1) := by decide +kernel
theorem dJ7_fill_53178_3 : decode cJ7_fill_53178 3 = .ok (.arraylength, 1) := by decide +kernel
theorem dJ7_fill_53178_4 : decode cJ7_fill_53178 4 = .ok (.istore_n 3, 1) := by decide +kernel
theorem dJ7_fill_53178_5 : decode cJ7_fill_53178 5 = .ok (.iload_n 2, 1) := by decide +kernel
theorem dJ7_fill_53178_6 : decode cJ7_fill_53178 6 = .ok (.iload_n 3, 1) := by decide +kernel
theorem dJ7_fill_53178_7 : decode cJ7_fill_53178 7 = .ok (.if_icmp .ge 13, 3) := by decide +kernel
theorem dJ7_fill_53178_10 : decode cJ7_fill_53178 10 = .ok (.aload_n 0, 1) := by decide +kernel
theorem dJ7_fill_53178_11 : decode cJ7_fill_53178 11 = .ok (.iload_n 2, 1) := by decide +kernel
theorem dJ7_fill_53178_12 : decode cJ7_fill_53178 12 = .ok (.iload_n 1, 1) := by decide +kernel
theorem dJ7_fill_53178_13 : decode cJ7_fill_53178 13 = .ok (.iastore, 1) := by decide +kernel
theorem dJ7_fill_53178_14 : decode cJ7_fill_53178 14 = .ok (.iinc 2 1, 3) := by decide +kernel
theorem dJ7_fill_53178_17 : decode cJ7_fill_53178 17 = .ok (.goto (-12), 3) := by decide +kernel
theorem dJ7_fill_53178_20 : decode cJ7_fill_53178 20 = .ok (.return_, 1) := by decide +kernel
theorem dL_name_0 : decode cL_name 0 = .ok (.aload 4, 2) := by decide +kernel
theorem dL_name_2 : decode cL_name 2 = .ok (.iconst 0, 1) := by decide +kernel
theorem dL_name_3 : decode cL_name 3 = .ok (.aload_n 0, 1) := by decide +kernel
theorem dL_name_4 : decode cL_name 4 = .ok (.iload_n 1, 1) := by decide +kernel
theorem dL_name_5 : decode cL_name 5 = .ok (.iload_n 2, 1) := by decide +kernel
theorem dL_name_6 : decode cL_name 6 = .ok (.iload_n 3, 1) := by decide +kernel
theorem dL_name_7 : decode cL_name 7 = .ok (.invokevirtual 7, 3) := by decide +kernel
theorem dL_name_10 : decode cL_name 10 = .ok (.i2l, 1) := by decide +kernel
theorem dL_name_11 : decode cL_name 11 = .ok (.lastore, 1) := by decide +kernel
theorem dL_name_12 : decode cL_name 12 = .ok (.goto 7, 3) := by decide +kernel
theorem dL_name_15 : decode cL_name 15 = .ok (.astore 5, 2) := by decide +kernel
theorem dL_name_17 : decode cL_name 17 = .ok (.iconst 1, 1) := by decide +kernel
theorem dL_name_18 : decode cL_name 18 = .ok (.ireturn, 1) := by decide +kernel
theorem dL_name_19 : decode cL_name 19 = .ok (.iconst 0, 1) := by decide +kernel
theorem dL_name_20 : decode cL_name 20 = .ok (.ireturn, 1) := by decide +kernel
theorem dL_law_0 : decode cL_law 0 = .ok (.new 8, 3) := by decide +kernel
theorem dL_law_3 : decode cL_law 3 = .ok (.dup, 1) := by decide +kernel
theorem dL_law_4 : decode cL_law 4 = .ok (.invokespecial 15, 3) := by decide +kernel
theorem dL_law_7 : decode cL_law 7 = .ok (.astore_n 1, 1) := by decide +kernel
theorem dL_law_8 : decode cL_law 8 = .ok (.new 16, 3) := by decide +kernel
theorem dL_law_11 : decode cL_law 11 = .ok (.dup, 1) := by decide +kernel
theorem dL_law_12 : decode cL_law 12 = .ok (.invokespecial 18, 3) := by decide +kernel
theorem dL_law_15 : decode cL_law 15 = .ok (.astore_n 2, 1) := by decide +kernel
theorem dL_law_16 : decode cL_law 16 = .ok (.iconst 1, 1) := by decide +kernel
theorem dL_law_17 : decode cL_law 17 = .ok (.newarray .long, 2) := by decide +kernel
theorem dL_law_19 : decode cL_law 19 = .ok (.astore_n 3, 1) := by decide +kernel
theorem dL_law_20 : decode cL_law 20 = .ok (.iconst 0, 1) := by decide +kernel
theorem dL_law_21 : decode cL_law 21 = .ok (.istore 4, 2) := by decide +kernel
theorem dL_law_23 : decode cL_law 23 = .ok (.iload 4, 2) := by decide +kernel
theorem dL_law_25 : decode cL_law 25 = .ok (.aload_n 0, 1) := by decide +kernel
theorem dL_law_26 : decode cL_law 26 = .ok (.arraylength, 1) := by decide +kernel
theorem dL_law_27 : decode cL_law 27 = .ok (.bipush 6, 2) := by decide +kernel
theorem dL_law_29 : decode cL_law 29 = .ok (.isub, 1) := by decide +kernel
theorem dL_law_30 : decode cL_law 30 = .ok (.if_icmp .gt 985, 3) := by decide +kernel
theorem dL_law_33 : decode cL_law 33 = .ok (.aload_n 0, 1) := by decide +kernel
theorem dL_law_34 : decode cL_law 34 = .ok (.iload 4, 2) := by decide +kernel
theorem dL_law_36 : decode cL_law 36 = .ok (.iaload, 1) := by decide +kernel
theorem dL_law_37 : decode cL_law 37 = .ok (.bipush 31, 2) := by decide +kernel
theorem dL_law_39 : decode cL_law 39 = .ok (.iand, 1) := by decide +kernel
theorem dL_law_40 : decode cL_law 40 = .ok (.tableswitch 969 0 25 #[120, 193, 218, 231, 244, 293, 389, 414, 439, 492, 517, 542, 567, 604, 629, 654, 679, 716, 753, 802, 827, 852, 865, 878, 931, 956], 120) := by decide +kernel
theorem dL_law_160 : decode cL_law 160 = .ok (.aload_n 1, 1) := by decide +kernel
theorem dL_law_161 : decode cL_law 161 = .ok (.aload_n 0, 1) := by decide +kernel
theorem dL_law_162 : decode cL_law 162 = .ok (.iload 4, 2) := by decide +kernel
theorem dL_law_164 : decode cL_law 164 = .ok (.iconst 1, 1) := by decide +kernel
theorem dL_law_165 : decode cL_law 165 = .ok (.iadd, 1) := by decide +kernel
theorem dL_law_166 : decode cL_law 166 = .ok (.iaload, 1) := by decide +kernel
theorem dL_law_167 : decode cL_law 167 = .ok (.aload_n 0, 1) := by decide +kernel
theorem dL_law_168 : decode cL_law 168 = .ok (.iload 4, 2) := by decide +kernel
theorem dL_law_170 : decode cL_law 170 = .ok (.iconst 2, 1) := by decide +kernel
theorem dL_law_171 : decode cL_law 171 = .ok (.iadd, 1) := by decide +kernel
theorem dL_law_172 : decode cL_law 172 = .ok (.iaload, 1) := by decide +kernel
theorem dL_law_173 : decode cL_law 173 = .ok (.aload_n 0, 1) := by decide +kernel
theorem dL_law_174 : decode cL_law 174 = .ok (.iload 4, 2) := by decide +kernel
theorem dL_law_176 : decode cL_law 176 = .ok (.iconst 3, 1) := by decide +kernel
theorem dL_law_177 : decode cL_law 177 = .ok (.iadd, 1) := by decide +kernel
theorem dL_law_178 : decode cL_law 178 = .ok (.iaload, 1) := by decide +kernel
theorem dL_law_179 : decode cL_law 179 = .ok (.aload_n 0, 1) := by decide +kernel
theorem dL_law_180 : decode cL_law 180 = .ok (.iload 4, 2) := by decide +kernel
theorem dL_law_182 : decode cL_law 182 = .ok (.iconst 4, 1) := by decide +kernel
theorem dL_law_183 : decode cL_law 183 = .ok (.iadd, 1) := by decide +kernel
theorem dL_law_184 : decode cL_law 184 = .ok (.iaload, 1) := by decide +kernel
theorem dL_law_185 : decode cL_law 185 = .ok (.aload_n 0, 1) := by decide +kernel
theorem dL_law_186 : decode cL_law 186 = .ok (.iload 4, 2) := by decide +kernel
theorem dL_law_188 : decode cL_law 188 = .ok (.iconst 5, 1) := by decide +kernel
theorem dL_law_189 : decode cL_law 189 = .ok (.iadd, 1) := by decide +kernel
theorem dL_law_190 : decode cL_law 190 = .ok (.iaload, 1) := by decide +kernel
theorem dL_law_191 : decode cL_law 191 = .ok (.invokevirtual 19, 3) := by decide +kernel
theorem dL_law_194 : decode cL_law 194 = .ok (.aload_n 2, 1) := by decide +kernel
theorem dL_law_195 : decode cL_law 195 = .ok (.aload_n 0, 1) := by decide +kernel
theorem dL_law_196 : decode cL_law 196 = .ok (.iload 4, 2) := by decide +kernel
theorem dL_law_198 : decode cL_law 198 = .ok (.iconst 1, 1) := by decide +kernel
theorem dL_law_199 : decode cL_law 199 = .ok (.iadd, 1) := by decide +kernel
theorem dL_law_200 : decode cL_law 200 = .ok (.iaload, 1) := by decide +kernel
theorem dL_law_201 : decode cL_law 201 = .ok (.aload_n 0, 1) := by decide +kernel
theorem dL_law_202 : decode cL_law 202 = .ok (.iload 4, 2) := by decide +kernel
theorem dL_law_204 : decode cL_law 204 = .ok (.iconst 2, 1) := by decide +kernel
theorem dL_law_205 : decode cL_law 205 = .ok (.iadd, 1) := by decide +kernel
theorem dL_law_206 : decode cL_law 206 = .ok (.iaload, 1) := by decide +kernel
theorem dL_law_207 : decode cL_law 207 = .ok (.aload_n 0, 1) := by decide +kernel
theorem dL_law_208 : decode cL_law 208 = .ok (.iload 4, 2) := by decide +kernel
theorem dL_law_210 : decode cL_law 210 = .ok (.iconst 3, 1) := by decide +kernel
theorem dL_law_211 : decode cL_law 211 = .ok (.iadd, 1) := by decide +kernel
theorem dL_law_212 : decode cL_law 212 = .ok (.iaload, 1) := by decide +kernel
theorem dL_law_213 : decode cL_law 213 = .ok (.aload_n 0, 1) := by decide +kernel
theorem dL_law_214 : decode cL_law 214 = .ok (.iload 4, 2) := by decide +kernel
theorem dL_law_216 : decode cL_law 216 = .ok (.iconst 4, 1) := by decide +kernel
theorem dL_law_217 : decode cL_law 217 = .ok (.iadd, 1) := by decide +kernel
theorem dL_law_218 : decode cL_law 218 = .ok (.iaload, 1) := by decide +kernel
theorem dL_law_219 : decode cL_law 219 = .ok (.aload_n 0, 1) := by decide +kernel
theorem dL_law_220 : decode cL_law 220 = .ok (.iload 4, 2) := by decide +kernel
theorem dL_law_222 : decode cL_law 222 = .ok (.iconst 5, 1) := by decide +kernel
theorem dL_law_223 : decode cL_law 223 = .ok (.iadd, 1) := by decide +kernel
theorem dL_law_224 : decode cL_law 224 = .ok (.iaload, 1) := by decide +kernel
theorem dL_law_225 : decode cL_law 225 = .ok (.invokevirtual 23, 3) := by decide +kernel
theorem dL_law_228 : decode cL_law 228 = .ok (.if_icmp .eq 781, 3) := by decide +kernel
theorem dL_law_231 : decode cL_law 231 = .ok (.iconst 0, 1) := by decide +kernel
theorem dL_law_232 : decode cL_law 232 = .ok (.ireturn, 1) := by decide +kernel
theorem dL_law_233 : decode cL_law 233 = .ok (.aload_n 1, 1) := by decide +kernel
theorem dL_law_234 : decode cL_law 234 = .ok (.aload_n 0, 1) := by decide +kernel
theorem dL_law_235 : decode cL_law 235 = .ok (.iload 4, 2) := by decide +kernel
theorem dL_law_237 : decode cL_law 237 = .ok (.iconst 1, 1) := by decide +kernel
theorem dL_law_238 : decode cL_law 238 = .ok (.iadd, 1) := by decide +kernel
theorem dL_law_239 : decode cL_law 239 = .ok (.iaload, 1) := by decide +kernel
theorem dL_law_240 : decode cL_law 240 = .ok (.invokevirtual 24, 3) := by decide +kernel
theorem dL_law_243 : decode cL_law 243 = .ok (.aload_n 2, 1) := by decide +kernel
theorem dL_law_244 : decode cL_law 244 = .ok (.aload_n 0, 1) := by decide +kernel
theorem dL_law_245 : decode cL_law 245 = .ok (.iload 4, 2) := by decide +kernel
theorem dL_law_247 : decode cL_law 247 = .ok (.iconst 1, 1) := by decide +kernel
theorem dL_law_248 : decode cL_law 248 = .ok (.iadd, 1) := by decide +kernel
theorem dL_law_249 : decode cL_law 249 = .ok (.iaload, 1) := by decide +kernel
theorem dL_law_250 : decode cL_law 250 = .ok (.invokevirtual 28, 3) := by decide +kernel
theorem dL_law_253 : decode cL_law 253 = .ok (.if_icmp .eq 756, 3) := by decide +kernel
theorem dL_law_256 : decode cL_law 256 = .ok (.iconst 0, 1) := by decide +kernel
theorem dL_law_257 : decode cL_law 257 = .ok (.ireturn, 1) := by decide +kernel
theorem dL_law_258 : decode cL_law 258 = .ok (.aload_n 1, 1) := by decide +kernel
theorem dL_law_259 : decode cL_law 259 = .ok (.invokevirtual 29, 3) := by decide +kernel
theorem dL_law_262 : decode cL_law 262 = .ok (.aload_n 2, 1) := by decide +kernel
theorem dL_law_263 : decode cL_law 263 = .ok (.invokevirtual 33, 3) := by decide +kernel
theorem dL_law_266 : decode cL_law 266 = .ok (.if_icmp .eq 743, 3) := by decide +kernel
theorem dL_law_269 : decode cL_law 269 = .ok (.iconst 0, 1) := by decide +kernel
theorem dL_law_270 : decode cL_law 270 = .ok (.ireturn, 1) := by decide +kernel
theorem dL_law_271 : decode cL_law 271 = .ok (.aload_n 1, 1) := by decide +kernel
theorem dL_law_272 : decode cL_law 272 = .ok (.invokevirtual 34, 3) := by decide +kernel
theorem dL_law_275 : decode cL_law 275 = .ok (.aload_n 2, 1) := by decide +kernel
theorem dL_law_276 : decode cL_law 276 = .ok (.invokevirtual 37, 3) := by decide +kernel
theorem dL_law_279 : decode cL_law 279 = .ok (.if_icmp .eq 730, 3) := by decide +kernel
theorem dL_law_282 : decode cL_law 282 = .ok (.iconst 0, 1) := by decide +kernel
theorem dL_law_283 : decode cL_law 283 = .ok (.ireturn, 1) := by decide +kernel
theorem dL_law_284 : decode cL_law 284 = .ok (.aload_n 1, 1) := by decide +kernel
theorem dL_law_285 : decode cL_law 285 = .ok (.aload_n 0, 1) := by decide +kernel
theorem dL_law_286 : decode cL_law 286 = .ok (.iload 4, 2) := by decide +kernel
theorem dL_law_288 : decode cL_law 288 = .ok (.iconst 1, 1) := by decide +kernel
theorem dL_law_289 : decode cL_law 289 = .ok (.iadd, 1) := by decide +kernel
theorem dL_law_290 : decode cL_law 290 = .ok (.iaload, 1) := by decide +kernel
theorem dL_law_291 : decode cL_law 291 = .ok (.aload_n 0, 1) := by decide +kernel
theorem dL_law_292 : decode cL_law 292 = .ok (.iload 4, 2) := by decide +kernel
theorem dL_law_294 : decode cL_law 294 = .ok (.iconst 2, 1) := by decide +kernel
theorem dL_law_295 : decode cL_law 295 = .ok (.iadd, 1) := by decide +kernel
theorem dL_law_296 : decode cL_law 296 = .ok (.iaload, 1) := by decide +kernel
theorem dL_law_297 : decode cL_law 297 = .ok (.aload_n 0, 1) := by decide +kernel
theorem dL_law_298 : decode cL_law 298 = .ok (.iload 4, 2) := by decide +kernel
theorem dL_law_300 : decode cL_law 300 = .ok (.iconst 3, 1) := by decide +kernel
theorem dL_law_301 : decode cL_law 301 = .ok (.iadd, 1) := by decide +kernel
theorem dL_law_302 : decode cL_law 302 = .ok (.iaload, 1) := by decide +kernel
theorem dL_law_303 : decode cL_law 303 = .ok (.invokevirtual 38, 3) := by decide +kernel
theorem dL_law_306 : decode cL_law 306 = .ok (.aload_n 2, 1) := by decide +kernel
theorem dL_law_307 : decode cL_law 307 = .ok (.aload_n 0, 1) := by decide +kernel
theorem dL_law_308 : decode cL_law 308 = .ok (.iload 4, 2) := by decide +kernel
theorem dL_law_310 : decode cL_law 310 = .ok (.iconst 1, 1) := by decide +kernel
theorem dL_law_311 : decode cL_law 311 = .ok (.iadd, 1) := by decide +kernel
theorem dL_law_312 : decode cL_law 312 = .ok (.iaload, 1) := by decide +kernel
theorem dL_law_313 : decode cL_law 313 = .ok (.aload_n 0, 1) := by decide +kernel
theorem dL_law_314 : decode cL_law 314 = .ok (.iload 4, 2) := by decide +kernel
theorem dL_law_316 : decode cL_law 316 = .ok (.iconst 2, 1) := by decide +kernel
theorem dL_law_317 : decode cL_law 317 = .ok (.iadd, 1) := by decide +kernel
theorem dL_law_318 : decode cL_law 318 = .ok (.iaload, 1) := by decide +kernel
theorem dL_law_319 : decode cL_law 319 = .ok (.aload_n 0, 1) := by decide +kernel
theorem dL_law_320 : decode cL_law 320 = .ok (.iload 4, 2) := by decide +kernel
theorem dL_law_322 : decode cL_law 322 = .ok (.iconst 3, 1) := by decide +kernel
theorem dL_law_323 : decode cL_law 323 = .ok (.iadd, 1) := by decide +kernel
theorem dL_law_324 : decode cL_law 324 = .ok (.iaload, 1) := by decide +kernel
theorem dL_law_325 : decode cL_law 325 = .ok (.invokevirtual 42, 3) := by decide +kernel
theorem dL_law_328 : decode cL_law 328 = .ok (.if_icmp .eq 681, 3) := by decide +kernel
theorem dL_law_331 : decode cL_law 331 = .ok (.iconst 0, 1) := by decide +kernel
theorem dL_law_332 : decode cL_law 332 = .ok (.ireturn, 1) := by decide +kernel
theorem dL_law_333 : decode cL_law 333 = .ok (.aload_n 1, 1) := by decide +kernel
theorem dL_law_334 : decode cL_law 334 = .ok (.aload_n 0, 1) := by decide +kernel
theorem dL_law_335 : decode cL_law 335 = .ok (.iload 4, 2) := by decide +kernel
theorem dL_law_337 : decode cL_law 337 = .ok (.iconst 1, 1) := by decide +kernel
theorem dL_law_338 : decode cL_law 338 = .ok (.iadd, 1) := by decide +kernel
theorem dL_law_339 : decode cL_law 339 = .ok (.iaload, 1) := by decide +kernel
theorem dL_law_340 : decode cL_law 340 = .ok (.aload_n 0, 1) := by decide +kernel
theorem dL_law_341 : decode cL_law 341 = .ok (.iload 4, 2) := by decide +kernel
theorem dL_law_343 : decode cL_law 343 = .ok (.iconst 2, 1) := by decide +kernel
theorem dL_law_344 : decode cL_law 344 = .ok (.iadd, 1) := by decide +kernel
theorem dL_law_345 : decode cL_law 345 = .ok (.iaload, 1) := by decide +kernel
theorem dL_law_346 : decode cL_law 346 = .ok (.aload_n 0, 1) := by decide +kernel
theorem dL_law_347 : decode cL_law 347 = .ok (.iload 4, 2) := by decide +kernel
theorem dL_law_349 : decode cL_law 349 = .ok (.iconst 3, 1) := by decide +kernel
theorem dL_law_350 : decode cL_law 350 = .ok (.iadd, 1) := by decide +kernel
theorem dL_law_351 : decode cL_law 351 = .ok (.iaload, 1) := by decide +kernel
theorem dL_law_352 : decode cL_law 352 = .ok (.ifCond .eq 7, 3) := by decide +kernel
theorem dL_law_355 : decode cL_law 355 = .ok (.iconst 1, 1) := by decide +kernel
theorem dL_law_356 : decode cL_law 356 = .ok (.goto 4, 3) := by decide +kernel
theorem dL_law_359 : decode cL_law 359 = .ok (.iconst 0, 1) := by decide +kernel
theorem dL_law_360 : decode cL_law 360 = .ok (.aload_n 3, 1) := by decide +kernel
theorem dL_law_361 : decode cL_law 361 = .ok (.invokestatic 43, 3) := by decide +kernel
theorem dL_law_364 : decode cL_law 364 = .ok (.istore 5, 2) := by decide +kernel
theorem dL_law_366 : decode cL_law 366 = .ok (.aload_n 2, 1) := by decide +kernel
theorem dL_law_367 : decode cL_law 367 = .ok (.aload_n 0, 1) := by decide +kernel
theorem dL_law_368 : decode cL_law 368 = .ok (.iload 4, 2) := by decide +kernel
theorem dL_law_370 : decode cL_law 370 = .ok (.iconst 1, 1) := by decide +kernel
theorem dL_law_371 : decode cL_law 371 = .ok (.iadd, 1) := by decide +kernel
theorem dL_law_372 : decode cL_law 372 = .ok (.iaload, 1) := by decide +kernel
theorem dL_law_373 : decode cL_law 373 = .ok (.aload_n 0, 1) := by decide +kernel
theorem dL_law_374 : decode cL_law 374 = .ok (.iload 4, 2) := by decide +kernel
theorem dL_law_376 : decode cL_law 376 = .ok (.iconst 2, 1) := by decide +kernel
theorem dL_law_377 : decode cL_law 377 = .ok (.iadd, 1) := by decide +kernel
theorem dL_law_378 : decode cL_law 378 = .ok (.iaload, 1) := by decide +kernel
theorem dL_law_379 : decode cL_law 379 = .ok (.aload_n 0, 1) := by decide +kernel
theorem dL_law_380 : decode cL_law 380 = .ok (.iload 4, 2) := by decide +kernel
theorem dL_law_382 : decode cL_law 382 = .ok (.iconst 3, 1) := by decide +kernel
theorem dL_law_383 : decode cL_law 383 = .ok (.iadd, 1) := by decide +kernel
theorem dL_law_384 : decode cL_law 384 = .ok (.iaload, 1) := by decide +kernel
theorem dL_law_385 : decode cL_law 385 = .ok (.ifCond .eq 7, 3) := by decide +kernel
theorem dL_law_388 : decode cL_law 388 = .ok (.iconst 1, 1) := by decide +kernel
theorem dL_law_389 : decode cL_law 389 = .ok (.goto 4, 3) := by decide +kernel
theorem dL_law_392 : decode cL_law 392 = .ok (.iconst 0, 1) := by decide +kernel
theorem dL_law_393 : decode cL_law 393 = .ok (.invokevirtual 48, 3) := by decide +kernel
theorem dL_law_396 : decode cL_law 396 = .ok (.istore 6, 2) := by decide +kernel
theorem dL_law_398 : decode cL_law 398 = .ok (.aload_n 2, 1) := by decide +kernel
theorem dL_law_399 : decode cL_law 399 = .ok (.invokevirtual 49, 3) := by decide +kernel
theorem dL_law_402 : decode cL_law 402 = .ok (.iload 5, 2) := by decide +kernel
theorem dL_law_404 : decode cL_law 404 = .ok (.if_icmp .eq 5, 3) := by decide +kernel
theorem dL_law_407 : decode cL_law 407 = .ok (.iconst 0, 1) := by decide +kernel
theorem dL_law_408 : decode cL_law 408 = .ok (.ireturn, 1) := by decide +kernel
theorem dL_law_409 : decode cL_law 409 = .ok (.iload 5, 2) := by decide +kernel
theorem dL_law_411 : decode cL_law 411 = .ok (.ifCond .ne 15, 3) := by decide +kernel
theorem dL_law_414 : decode cL_law 414 = .ok (.aload_n 3, 1) := by decide +kernel
theorem dL_law_415 : decode cL_law 415 = .ok (.iconst 0, 1) := by decide +kernel
theorem dL_law_416 : decode cL_law 416 = .ok (.laload, 1) := by decide +kernel
theorem dL_law_417 : decode cL_law 417 = .ok (.iload 6, 2) := by decide +kernel
theorem dL_law_419 : decode cL_law 419 = .ok (.i2l, 1) := by decide +kernel
theorem dL_law_420 : decode cL_law 420 = .ok (.lcmp, 1) := by decide +kernel
theorem dL_law_421 : decode cL_law 421 = .ok (.ifCond .eq 5, 3) := by decide +kernel
theorem dL_law_424 : decode cL_law 424 = .ok (.iconst 0, 1) := by decide +kernel
theorem dL_law_425 : decode cL_law 425 = .ok (.ireturn, 1) := by decide +kernel
theorem dL_law_426 : decode cL_law 426 = .ok (.goto 583, 3) := by decide +kernel
theorem dL_law_429 : decode cL_law 429 = .ok (.aload_n 1, 1) := by decide +kernel
theorem dL_law_430 : decode cL_law 430 = .ok (.aload_n 0, 1) := by decide +kernel
theorem dL_law_431 : decode cL_law 431 = .ok (.iload 4, 2) := by decide +kernel
theorem dL_law_433 : decode cL_law 433 = .ok (.iconst 1, 1) := by decide +kernel
theorem dL_law_434 : decode cL_law 434 = .ok (.iadd, 1) := by decide +kernel
theorem dL_law_435 : decode cL_law 435 = .ok (.iaload, 1) := by decide +kernel
theorem dL_law_436 : decode cL_law 436 = .ok (.invokevirtual 52, 3) := by decide +kernel
theorem dL_law_439 : decode cL_law 439 = .ok (.aload_n 2, 1) := by decide +kernel
theorem dL_law_440 : decode cL_law 440 = .ok (.aload_n 0, 1) := by decide +kernel
theorem dL_law_441 : decode cL_law 441 = .ok (.iload 4, 2) := by decide +kernel
theorem dL_law_443 : decode cL_law 443 = .ok (.iconst 1, 1) := by decide +kernel
theorem dL_law_444 : decode cL_law 444 = .ok (.iadd, 1) := by decide +kernel
theorem dL_law_445 : decode cL_law 445 = .ok (.iaload, 1) := by decide +kernel
theorem dL_law_446 : decode cL_law 446 = .ok (.invokevirtual 55, 3) := by decide +kernel
theorem dL_law_449 : decode cL_law 449 = .ok (.if_icmp .eq 560, 3) := by decide +kernel
theorem dL_law_452 : decode cL_law 452 = .ok (.iconst 0, 1) := by decide +kernel
theorem dL_law_453 : decode cL_law 453 = .ok (.ireturn, 1) := by decide +kernel
theorem dL_law_454 : decode cL_law 454 = .ok (.aload_n 1, 1) := by decide +kernel
theorem dL_law_455 : decode cL_law 455 = .ok (.aload_n 0, 1) := by decide +kernel
theorem dL_law_456 : decode cL_law 456 = .ok (.iload 4, 2) := by decide +kernel
theorem dL_law_458 : decode cL_law 458 = .ok (.iconst 1, 1) := by decide +kernel
theorem dL_law_459 : decode cL_law 459 = .ok (.iadd, 1) := by decide +kernel
theorem dL_law_460 : decode cL_law 460 = .ok (.iaload, 1) := by decide +kernel
theorem dL_law_461 : decode cL_law 461 = .ok (.invokevirtual 56, 3) := by decide +kernel
theorem dL_law_464 : decode cL_law 464 = .ok (.aload_n 2, 1) := by decide +kernel
theorem dL_law_465 : decode cL_law 465 = .ok (.aload_n 0, 1) := by decide +kernel
theorem dL_law_466 : decode cL_law 466 = .ok (.iload 4, 2) := by decide +kernel
theorem dL_law_468 : decode cL_law 468 = .ok (.iconst 1, 1) := by decide +kernel
theorem dL_law_469 : decode cL_law 469 = .ok (.iadd, 1) := by decide +kernel
theorem dL_law_470 : decode cL_law 470 = .ok (.iaload, 1) := by decide +kernel
theorem dL_law_471 : decode cL_law 471 = .ok (.invokevirtual 59, 3) := by decide +kernel
theorem dL_law_474 : decode cL_law 474 = .ok (.if_icmp .eq 535, 3) := by decide +kernel
theorem dL_law_477 : decode cL_law 477 = .ok (.iconst 0, 1) := by decide +kernel
theorem dL_law_478 : decode cL_law 478 = .ok (.ireturn, 1) := by decide +kernel
theorem dL_law_479 : decode cL_law 479 = .ok (.aload_n 1, 1) := by decide +kernel
theorem dL_law_480 : decode cL_law 480 = .ok (.aload_n 0, 1) := by decide +kernel
theorem dL_law_481 : decode cL_law 481 = .ok (.iload 4, 2) := by decide +kernel
theorem dL_law_483 : decode cL_law 483 = .ok (.iconst 1, 1) := by decide +kernel
theorem dL_law_484 : decode cL_law 484 = .ok (.iadd, 1) := by decide +kernel
theorem dL_law_485 : decode cL_law 485 = .ok (.iaload, 1) := by decide +kernel
theorem dL_law_486 : decode cL_law 486 = .ok (.aload_n 0, 1) := by decide +kernel
theorem dL_law_487 : decode cL_law 487 = .ok (.iload 4, 2) := by decide +kernel
theorem dL_law_489 : decode cL_law 489 = .ok (.iconst 2, 1) := by decide +kernel
theorem dL_law_490 : decode cL_law 490 = .ok (.iadd, 1) := by decide +kernel
theorem dL_law_491 : decode cL_law 491 = .ok (.iaload, 1) := by decide +kernel
theorem dL_law_492 : decode cL_law 492 = .ok (.ifCond .eq 7, 3) := by decide +kernel
theorem dL_law_495 : decode cL_law 495 = .ok (.iconst 1, 1) := by decide +kernel
theorem dL_law_496 : decode cL_law 496 = .ok (.goto 4, 3) := by decide +kernel
theorem dL_law_499 : decode cL_law 499 = .ok (.iconst 0, 1) := by decide +kernel
theorem dL_law_500 : decode cL_law 500 = .ok (.invokevirtual 60, 3) := by decide +kernel
theorem dL_law_503 : decode cL_law 503 = .ok (.aload_n 2, 1) := by decide +kernel
theorem dL_law_504 : decode cL_law 504 = .ok (.aload_n 0, 1) := by decide +kernel
theorem dL_law_505 : decode cL_law 505 = .ok (.iload 4, 2) := by decide +kernel
theorem dL_law_507 : decode cL_law 507 = .ok (.iconst 1, 1) := by decide +kernel
theorem dL_law_508 : decode cL_law 508 = .ok (.iadd, 1) := by decide +kernel
theorem dL_law_509 : decode cL_law 509 = .ok (.iaload, 1) := by decide +kernel
theorem dL_law_510 : decode cL_law 510 = .ok (.aload_n 0, 1) := by decide +kernel
theorem dL_law_511 : decode cL_law 511 = .ok (.iload 4, 2) := by decide +kernel
theorem dL_law_513 : decode cL_law 513 = .ok (.iconst 2, 1) := by decide +kernel
theorem dL_law_514 : decode cL_law 514 = .ok (.iadd, 1) := by decide +kernel
theorem dL_law_515 : decode cL_law 515 = .ok (.iaload, 1) := by decide +kernel
theorem dL_law_516 : decode cL_law 516 = .ok (.ifCond .eq 7, 3) := by decide +kernel
theorem dL_law_519 : decode cL_law 519 = .ok (.iconst 1, 1) := by decide +kernel
theorem dL_law_520 : decode cL_law 520 = .ok (.goto 4, 3) := by decide +kernel
theorem dL_law_523 : decode cL_law 523 = .ok (.iconst 0, 1) := by decide +kernel
theorem dL_law_524 : decode cL_law 524 = .ok (.invokevirtual 64, 3) := by decide +kernel
theorem dL_law_527 : decode cL_law 527 = .ok (.if_icmp .eq 482, 3) := by decide +kernel
theorem dL_law_530 : decode cL_law 530 = .ok (.iconst 0, 1) := by decide +kernel
theorem dL_law_531 : decode cL_law 531 = .ok (.ireturn, 1) := by decide +kernel
theorem dL_law_532 : decode cL_law 532 = .ok (.aload_n 1, 1) := by decide +kernel
theorem dL_law_533 : decode cL_law 533 = .ok (.aload_n 0, 1) := by decide +kernel
theorem dL_law_534 : decode cL_law 534 = .ok (.iload 4, 2) := by decide +kernel
theorem dL_law_536 : decode cL_law 536 = .ok (.iconst 1, 1) := by decide +kernel
theorem dL_law_537 : decode cL_law 537 = .ok (.iadd, 1) := by decide +kernel
theorem dL_law_538 : decode cL_law 538 = .ok (.iaload, 1) := by decide +kernel
theorem dL_law_539 : decode cL_law 539 = .ok (.invokevirtual 65, 3) := by decide +kernel
theorem dL_law_542 : decode cL_law 542 = .ok (.aload_n 2, 1) := by decide +kernel
theorem dL_law_543 : decode cL_law 543 = .ok (.aload_n 0, 1) := by decide +kernel
theorem dL_law_544 : decode cL_law 544 = .ok (.iload 4, 2) := by decide +kernel
theorem dL_law_546 : decode cL_law 546 = .ok (.iconst 1, 1) := by decide +kernel
theorem dL_law_547 : decode cL_law 547 = .ok (.iadd, 1) := by decide +kernel
theorem dL_law_548 : decode cL_law 548 = .ok (.iaload, 1) := by decide +kernel
theorem dL_law_549 : decode cL_law 549 = .ok (.invokevirtual 69, 3) := by decide +kernel
theorem dL_law_552 : decode cL_law 552 = .ok (.if_icmp .eq 457, 3) := by decide +kernel
theorem dL_law_555 : decode cL_law 555 = .ok (.iconst 0, 1) := by decide +kernel
theorem dL_law_556 : decode cL_law 556 = .ok (.ireturn, 1) := by decide +kernel
theorem dL_law_557 : decode cL_law 557 = .ok (.aload_n 1, 1) := by decide +kernel
theorem dL_law_558 : decode cL_law 558 = .ok (.aload_n 0, 1) := by decide +kernel
theorem dL_law_559 : decode cL_law 559 = .ok (.iload 4, 2) := by decide +kernel
theorem dL_law_561 : decode cL_law 561 = .ok (.iconst 1, 1) := by decide +kernel
theorem dL_law_562 : decode cL_law 562 = .ok (.iadd, 1) := by decide +kernel
theorem dL_law_563 : decode cL_law 563 = .ok (.iaload, 1) := by decide +kernel
theorem dL_law_564 : decode cL_law 564 = .ok (.invokevirtual 70, 3) := by decide +kernel
theorem dL_law_567 : decode cL_law 567 = .ok (.aload_n 2, 1) := by decide +kernel
theorem dL_law_568 : decode cL_law 568 = .ok (.aload_n 0, 1) := by decide +kernel
theorem dL_law_569 : decode cL_law 569 = .ok (.iload 4, 2) := by decide +kernel
theorem dL_law_571 : decode cL_law 571 = .ok (.iconst 1, 1) := by decide +kernel
theorem dL_law_572 : decode cL_law 572 = .ok (.iadd, 1) := by decide +kernel
theorem dL_law_573 : decode cL_law 573 = .ok (.iaload, 1) := by decide +kernel
theorem dL_law_574 : decode cL_law 574 = .ok (.invokevirtual 73, 3) := by decide +kernel
theorem dL_law_577 : decode cL_law 577 = .ok (.if_icmp .eq 432, 3) := by decide +kernel
theorem dL_law_580 : decode cL_law 580 = .ok (.iconst 0, 1) := by decide +kernel
theorem dL_law_581 : decode cL_law 581 = .ok (.ireturn, 1) := by decide +kernel
theorem dL_law_582 : decode cL_law 582 = .ok (.aload_n 1, 1) := by decide +kernel
theorem dL_law_583 : decode cL_law 583 = .ok (.aload_n 0, 1) := by decide +kernel
theorem dL_law_584 : decode cL_law 584 = .ok (.iload 4, 2) := by decide +kernel
theorem dL_law_586 : decode cL_law 586 = .ok (.iconst 1, 1) := by decide +kernel
theorem dL_law_587 : decode cL_law 587 = .ok (.iadd, 1) := by decide +kernel
theorem dL_law_588 : decode cL_law 588 = .ok (.iaload, 1) := by decide +kernel
theorem dL_law_589 : decode cL_law 589 = .ok (.invokevirtual 74, 3) := by decide +kernel
theorem dL_law_592 : decode cL_law 592 = .ok (.aload_n 2, 1) := by decide +kernel
theorem dL_law_593 : decode cL_law 593 = .ok (.aload_n 0, 1) := by decide +kernel
theorem dL_law_594 : decode cL_law 594 = .ok (.iload 4, 2) := by decide +kernel
theorem dL_law_596 : decode cL_law 596 = .ok (.iconst 1, 1) := by decide +kernel
theorem dL_law_597 : decode cL_law 597 = .ok (.iadd, 1) := by decide +kernel
theorem dL_law_598 : decode cL_law 598 = .ok (.iaload, 1) := by decide +kernel
theorem dL_law_599 : decode cL_law 599 = .ok (.invokevirtual 77, 3) := by decide +kernel
theorem dL_law_602 : decode cL_law 602 = .ok (.if_icmp .eq 407, 3) := by decide +kernel
theorem dL_law_605 : decode cL_law 605 = .ok (.iconst 0, 1) := by decide +kernel
theorem dL_law_606 : decode cL_law 606 = .ok (.ireturn, 1) := by decide +kernel
theorem dL_law_607 : decode cL_law 607 = .ok (.aload_n 1, 1) := by decide +kernel
theorem dL_law_608 : decode cL_law 608 = .ok (.aload_n 0, 1) := by decide +kernel
theorem dL_law_609 : decode cL_law 609 = .ok (.iload 4, 2) := by decide +kernel
theorem dL_law_611 : decode cL_law 611 = .ok (.iconst 1, 1) := by decide +kernel
theorem dL_law_612 : decode cL_law 612 = .ok (.iadd, 1) := by decide +kernel
theorem dL_law_613 : decode cL_law 613 = .ok (.iaload, 1) := by decide +kernel
theorem dL_law_614 : decode cL_law 614 = .ok (.aload_n 0, 1) := by decide +kernel
theorem dL_law_615 : decode cL_law 615 = .ok (.iload 4, 2) := by decide +kernel
theorem dL_law_617 : decode cL_law 617 = .ok (.iconst 2, 1) := by decide +kernel
theorem dL_law_618 : decode cL_law 618 = .ok (.iadd, 1) := by decide +kernel
theorem dL_law_619 : decode cL_law 619 = .ok (.iaload, 1) := by decide +kernel
theorem dL_law_620 : decode cL_law 620 = .ok (.invokevirtual 78, 3) := by decide +kernel
theorem dL_law_623 : decode cL_law 623 = .ok (.aload_n 2, 1) := by decide +kernel
theorem dL_law_624 : decode cL_law 624 = .ok (.aload_n 0, 1) := by decide +kernel
theorem dL_law_625 : decode cL_law 625 = .ok (.iload 4, 2) := by decide +kernel
theorem dL_law_627 : decode cL_law 627 = .ok (.iconst 1, 1) := by decide +kernel
theorem dL_law_628 : decode cL_law 628 = .ok (.iadd, 1) := by decide +kernel
theorem dL_law_629 : decode cL_law 629 = .ok (.iaload, 1) := by decide +kernel
theorem dL_law_630 : decode cL_law 630 = .ok (.aload_n 0, 1) := by decide +kernel
theorem dL_law_631 : decode cL_law 631 = .ok (.iload 4, 2) := by decide +kernel
theorem dL_law_633 : decode cL_law 633 = .ok (.iconst 2, 1) := by decide +kernel
theorem dL_law_634 : decode cL_law 634 = .ok (.iadd, 1) := by decide +kernel
theorem dL_law_635 : decode cL_law 635 = .ok (.iaload, 1) := by decide +kernel
theorem dL_law_636 : decode cL_law 636 = .ok (.invokevirtual 82, 3) := by decide +kernel
theorem dL_law_639 : decode cL_law 639 = .ok (.if_icmp .eq 370, 3) := by decide +kernel
theorem dL_law_642 : decode cL_law 642 = .ok (.iconst 0, 1) := by decide +kernel
theorem dL_law_643 : decode cL_law 643 = .ok (.ireturn, 1) := by decide +kernel
theorem dL_law_644 : decode cL_law 644 = .ok (.aload_n 1, 1) := by decide +kernel
theorem dL_law_645 : decode cL_law 645 = .ok (.aload_n 0, 1) := by decide +kernel
theorem dL_law_646 : decode cL_law 646 = .ok (.iload 4, 2) := by decide +kernel
theorem dL_law_648 : decode cL_law 648 = .ok (.iconst 1, 1) := by decide +kernel
theorem dL_law_649 : decode cL_law 649 = .ok (.iadd, 1) := by decide +kernel
theorem dL_law_650 : decode cL_law 650 = .ok (.iaload, 1) := by decide +kernel
theorem dL_law_651 : decode cL_law 651 = .ok (.invokevirtual 83, 3) := by decide +kernel
theorem dL_law_654 : decode cL_law 654 = .ok (.aload_n 2, 1) := by decide +kernel
theorem dL_law_655 : decode cL_law 655 = .ok (.aload_n 0, 1) := by decide +kernel
theorem dL_law_656 : decode cL_law 656 = .ok (.iload 4, 2) := by decide +kernel
theorem dL_law_658 : decode cL_law 658 = .ok (.iconst 1, 1) := by decide +kernel
theorem dL_law_659 : decode cL_law 659 = .ok (.iadd, 1) := by decide +kernel
theorem dL_law_660 : decode cL_law 660 = .ok (.iaload, 1) := by decide +kernel
theorem dL_law_661 : decode cL_law 661 = .ok (.invokevirtual 86, 3) := by decide +kernel
theorem dL_law_664 : decode cL_law 664 = .ok (.if_icmp .eq 345, 3) := by decide +kernel
theorem dL_law_667 : decode cL_law 667 = .ok (.iconst 0, 1) := by decide +kernel
theorem dL_law_668 : decode cL_law 668 = .ok (.ireturn, 1) := by decide +kernel
theorem dL_law_669 : decode cL_law 669 = .ok (.aload_n 1, 1) := by decide +kernel
theorem dL_law_670 : decode cL_law 670 = .ok (.aload_n 0, 1) := by decide +kernel
theorem dL_law_671 : decode cL_law 671 = .ok (.iload 4, 2) := by decide +kernel
theorem dL_law_673 : decode cL_law 673 = .ok (.iconst 1, 1) := by decide +kernel
theorem dL_law_674 : decode cL_law 674 = .ok (.iadd, 1) := by decide +kernel
theorem dL_law_675 : decode cL_law 675 = .ok (.iaload, 1) := by decide +kernel
theorem dL_law_676 : decode cL_law 676 = .ok (.invokevirtual 87, 3) := by decide +kernel
theorem dL_law_679 : decode cL_law 679 = .ok (.aload_n 2, 1) := by decide +kernel
theorem dL_law_680 : decode cL_law 680 = .ok (.aload_n 0, 1) := by decide +kernel
theorem dL_law_681 : decode cL_law 681 = .ok (.iload 4, 2) := by decide +kernel
theorem dL_law_683 : decode cL_law 683 = .ok (.iconst 1, 1) := by decide +kernel
theorem dL_law_684 : decode cL_law 684 = .ok (.iadd, 1) := by decide +kernel
theorem dL_law_685 : decode cL_law 685 = .ok (.iaload, 1) := by decide +kernel
theorem dL_law_686 : decode cL_law 686 = .ok (.invokevirtual 90, 3) := by decide +kernel
theorem dL_law_689 : decode cL_law 689 = .ok (.if_icmp .eq 320, 3) := by decide +kernel
theorem dL_law_692 : decode cL_law 692 = .ok (.iconst 0, 1) := by decide +kernel
theorem dL_law_693 : decode cL_law 693 = .ok (.ireturn, 1) := by decide +kernel
theorem dL_law_694 : decode cL_law 694 = .ok (.aload_n 1, 1) := by decide +kernel
theorem dL_law_695 : decode cL_law 695 = .ok (.aload_n 0, 1) := by decide +kernel
theorem dL_law_696 : decode cL_law 696 = .ok (.iload 4, 2) := by decide +kernel
theorem dL_law_698 : decode cL_law 698 = .ok (.iconst 1, 1) := by decide +kernel
theorem dL_law_699 : decode cL_law 699 = .ok (.iadd, 1) := by decide +kernel
theorem dL_law_700 : decode cL_law 700 = .ok (.iaload, 1) := by decide +kernel
theorem dL_law_701 : decode cL_law 701 = .ok (.invokevirtual 91, 3) := by decide +kernel
theorem dL_law_704 : decode cL_law 704 = .ok (.aload_n 2, 1) := by decide +kernel
theorem dL_law_705 : decode cL_law 705 = .ok (.aload_n 0, 1) := by decide +kernel
theorem dL_law_706 : decode cL_law 706 = .ok (.iload 4, 2) := by decide +kernel
theorem dL_law_708 : decode cL_law 708 = .ok (.iconst 1, 1) := by decide +kernel
theorem dL_law_709 : decode cL_law 709 = .ok (.iadd, 1) := by decide +kernel
theorem dL_law_710 : decode cL_law 710 = .ok (.iaload, 1) := by decide +kernel
theorem dL_law_711 : decode cL_law 711 = .ok (.invokevirtual 94, 3) := by decide +kernel
theorem dL_law_714 : decode cL_law 714 = .ok (.if_icmp .eq 295, 3) := by decide +kernel
theorem dL_law_717 : decode cL_law 717 = .ok (.iconst 0, 1) := by decide +kernel
theorem dL_law_718 : decode cL_law 718 = .ok (.ireturn, 1) := by decide +kernel
theorem dL_law_719 : decode cL_law 719 = .ok (.aload_n 1, 1) := by decide +kernel
theorem dL_law_720 : decode cL_law 720 = .ok (.aload_n 0, 1) := by decide +kernel
theorem dL_law_721 : decode cL_law 721 = .ok (.iload 4, 2) := by decide +kernel
theorem dL_law_723 : decode cL_law 723 = .ok (.iconst 1, 1) := by decide +kernel
theorem dL_law_724 : decode cL_law 724 = .ok (.iadd, 1) := by decide +kernel
theorem dL_law_725 : decode cL_law 725 = .ok (.iaload, 1) := by decide +kernel
theorem dL_law_726 : decode cL_law 726 = .ok (.aload_n 0, 1) := by decide +kernel
theorem dL_law_727 : decode cL_law 727 = .ok (.iload 4, 2) := by decide +kernel
theorem dL_law_729 : decode cL_law 729 = .ok (.iconst 2, 1) := by decide +kernel
theorem dL_law_730 : decode cL_law 730 = .ok (.iadd, 1) := by decide +kernel
theorem dL_law_731 : decode cL_law 731 = .ok (.iaload, 1) := by decide +kernel
theorem dL_law_732 : decode cL_law 732 = .ok (.invokevirtual 95, 3) := by decide +kernel
theorem dL_law_735 : decode cL_law 735 = .ok (.aload_n 2, 1) := by decide +kernel
theorem dL_law_736 : decode cL_law 736 = .ok (.aload_n 0, 1) := by decide +kernel
theorem dL_law_737 : decode cL_law 737 = .ok (.iload 4, 2) := by decide +kernel
theorem dL_law_739 : decode cL_law 739 = .ok (.iconst 1, 1) := by decide +kernel
theorem dL_law_740 : decode cL_law 740 = .ok (.iadd, 1) := by decide +kernel
theorem dL_law_741 : decode cL_law 741 = .ok (.iaload, 1) := by decide +kernel
theorem dL_law_742 : decode cL_law 742 = .ok (.aload_n 0, 1) := by decide +kernel
theorem dL_law_743 : decode cL_law 743 = .ok (.iload 4, 2) := by decide +kernel
theorem dL_law_745 : decode cL_law 745 = .ok (.iconst 2, 1) := by decide +kernel
theorem dL_law_746 : decode cL_law 746 = .ok (.iadd, 1) := by decide +kernel
theorem dL_law_747 : decode cL_law 747 = .ok (.iaload, 1) := by decide +kernel
theorem dL_law_748 : decode cL_law 748 = .ok (.invokevirtual 98, 3) := by decide +kernel
theorem dL_law_751 : decode cL_law 751 = .ok (.if_icmp .eq 258, 3) := by decide +kernel
theorem dL_law_754 : decode cL_law 754 = .ok (.iconst 0, 1) := by decide +kernel
theorem dL_law_755 : decode cL_law 755 = .ok (.ireturn, 1) := by decide +kernel
theorem dL_law_756 : decode cL_law 756 = .ok (.aload_n 1, 1) := by decide +kernel
theorem dL_law_757 : decode cL_law 757 = .ok (.aload_n 0, 1) := by decide +kernel
theorem dL_law_758 : decode cL_law 758 = .ok (.iload 4, 2) := by decide +kernel
theorem dL_law_760 : decode cL_law 760 = .ok (.iconst 1, 1) := by decide +kernel
theorem dL_law_761 : decode cL_law 761 = .ok (.iadd, 1) := by decide +kernel
theorem dL_law_762 : decode cL_law 762 = .ok (.iaload, 1) := by decide +kernel
theorem dL_law_763 : decode cL_law 763 = .ok (.aload_n 0, 1) := by decide +kernel
theorem dL_law_764 : decode cL_law 764 = .ok (.iload 4, 2) := by decide +kernel
theorem dL_law_766 : decode cL_law 766 = .ok (.iconst 2, 1) := by decide +kernel
theorem dL_law_767 : decode cL_law 767 = .ok (.iadd, 1) := by decide +kernel
theorem dL_law_768 : decode cL_law 768 = .ok (.iaload, 1) := by decide +kernel
theorem dL_law_769 : decode cL_law 769 = .ok (.invokevirtual 99, 3) := by decide +kernel
theorem dL_law_772 : decode cL_law 772 = .ok (.aload_n 2, 1) := by decide +kernel
theorem dL_law_773 : decode cL_law 773 = .ok (.aload_n 0, 1) := by decide +kernel
theorem dL_law_774 : decode cL_law 774 = .ok (.iload 4, 2) := by decide +kernel
theorem dL_law_776 : decode cL_law 776 = .ok (.iconst 1, 1) := by decide +kernel
theorem dL_law_777 : decode cL_law 777 = .ok (.iadd, 1) := by decide +kernel
theorem dL_law_778 : decode cL_law 778 = .ok (.iaload, 1) := by decide +kernel
theorem dL_law_779 : decode cL_law 779 = .ok (.aload_n 0, 1) := by decide +kernel
theorem dL_law_780 : decode cL_law 780 = .ok (.iload 4, 2) := by decide +kernel
theorem dL_law_782 : decode cL_law 782 = .ok (.iconst 2, 1) := by decide +kernel
theorem dL_law_783 : decode cL_law 783 = .ok (.iadd, 1) := by decide +kernel
theorem dL_law_784 : decode cL_law 784 = .ok (.iaload, 1) := by decide +kernel
theorem dL_law_785 : decode cL_law 785 = .ok (.invokevirtual 102, 3) := by decide +kernel
theorem dL_law_788 : decode cL_law 788 = .ok (.if_icmp .eq 221, 3) := by decide +kernel
theorem dL_law_791 : decode cL_law 791 = .ok (.iconst 0, 1) := by decide +kernel
theorem dL_law_792 : decode cL_law 792 = .ok (.ireturn, 1) := by decide +kernel
theorem dL_law_793 : decode cL_law 793 = .ok (.aload_n 1, 1) := by decide +kernel
theorem dL_law_794 : decode cL_law 794 = .ok (.aload_n 0, 1) := by decide +kernel
theorem dL_law_795 : decode cL_law 795 = .ok (.iload 4, 2) := by decide +kernel
theorem dL_law_797 : decode cL_law 797 = .ok (.iconst 1, 1) := by decide +kernel
theorem dL_law_798 : decode cL_law 798 = .ok (.iadd, 1) := by decide +kernel
theorem dL_law_799 : decode cL_law 799 = .ok (.iaload, 1) := by decide +kernel
theorem dL_law_800 : decode cL_law 800 = .ok (.aload_n 0, 1) := by decide +kernel
theorem dL_law_801 : decode cL_law 801 = .ok (.iload 4, 2) := by decide +kernel
theorem dL_law_803 : decode cL_law 803 = .ok (.iconst 2, 1) := by decide +kernel
theorem dL_law_804 : decode cL_law 804 = .ok (.iadd, 1) := by decide +kernel
theorem dL_law_805 : decode cL_law 805 = .ok (.iaload, 1) := by decide +kernel
theorem dL_law_806 : decode cL_law 806 = .ok (.aload_n 0, 1) := by decide +kernel
theorem dL_law_807 : decode cL_law 807 = .ok (.iload 4, 2) := by decide +kernel
theorem dL_law_809 : decode cL_law 809 = .ok (.iconst 3, 1) := by decide +kernel
theorem dL_law_810 : decode cL_law 810 = .ok (.iadd, 1) := by decide +kernel
theorem dL_law_811 : decode cL_law 811 = .ok (.iaload, 1) := by decide +kernel
theorem dL_law_812 : decode cL_law 812 = .ok (.invokevirtual 103, 3) := by decide +kernel
theorem dL_law_815 : decode cL_law 815 = .ok (.aload_n 2, 1) := by decide +kernel
theorem dL_law_816 : decode cL_law 816 = .ok (.aload_n 0, 1) := by decide +kernel
theorem dL_law_817 : decode cL_law 817 = .ok (.iload 4, 2) := by decide +kernel
theorem dL_law_819 : decode cL_law 819 = .ok (.iconst 1, 1) := by decide +kernel
theorem dL_law_820 : decode cL_law 820 = .ok (.iadd, 1) := by decide +kernel
theorem dL_law_821 : decode cL_law 821 = .ok (.iaload, 1) := by decide +kernel
theorem dL_law_822 : decode cL_law 822 = .ok (.aload_n 0, 1) := by decide +kernel
theorem dL_law_823 : decode cL_law 823 = .ok (.iload 4, 2) := by decide +kernel
theorem dL_law_825 : decode cL_law 825 = .ok (.iconst 2, 1) := by decide +kernel
theorem dL_law_826 : decode cL_law 826 = .ok (.iadd, 1) := by decide +kernel
theorem dL_law_827 : decode cL_law 827 = .ok (.iaload, 1) := by decide +kernel
theorem dL_law_828 : decode cL_law 828 = .ok (.aload_n 0, 1) := by decide +kernel
theorem dL_law_829 : decode cL_law 829 = .ok (.iload 4, 2) := by decide +kernel
theorem dL_law_831 : decode cL_law 831 = .ok (.iconst 3, 1) := by decide +kernel
theorem dL_law_832 : decode cL_law 832 = .ok (.iadd, 1) := by decide +kernel
theorem dL_law_833 : decode cL_law 833 = .ok (.iaload, 1) := by decide +kernel
theorem dL_law_834 : decode cL_law 834 = .ok (.invokevirtual 106, 3) := by decide +kernel
theorem dL_law_837 : decode cL_law 837 = .ok (.if_icmp .eq 172, 3) := by decide +kernel
theorem dL_law_840 : decode cL_law 840 = .ok (.iconst 0, 1) := by decide +kernel
theorem dL_law_841 : decode cL_law 841 = .ok (.ireturn, 1) := by decide +kernel
theorem dL_law_842 : decode cL_law 842 = .ok (.aload_n 1, 1) := by decide +kernel
theorem dL_law_843 : decode cL_law 843 = .ok (.aload_n 0, 1) := by decide +kernel
theorem dL_law_844 : decode cL_law 844 = .ok (.iload 4, 2) := by decide +kernel
theorem dL_law_846 : decode cL_law 846 = .ok (.iconst 1, 1) := by decide +kernel
theorem dL_law_847 : decode cL_law 847 = .ok (.iadd, 1) := by decide +kernel
theorem dL_law_848 : decode cL_law 848 = .ok (.iaload, 1) := by decide +kernel
theorem dL_law_849 : decode cL_law 849 = .ok (.invokevirtual 107, 3) := by decide +kernel
theorem dL_law_852 : decode cL_law 852 = .ok (.aload_n 2, 1) := by decide +kernel
theorem dL_law_853 : decode cL_law 853 = .ok (.aload_n 0, 1) := by decide +kernel
theorem dL_law_854 : decode cL_law 854 = .ok (.iload 4, 2) := by decide +kernel
theorem dL_law_856 : decode cL_law 856 = .ok (.iconst 1, 1) := by decide +kernel
theorem dL_law_857 : decode cL_law 857 = .ok (.iadd, 1) := by decide +kernel
theorem dL_law_858 : decode cL_law 858 = .ok (.iaload, 1) := by decide +kernel
theorem dL_law_859 : decode cL_law 859 = .ok (.invokevirtual 110, 3) := by decide +kernel
theorem dL_law_862 : decode cL_law 862 = .ok (.if_icmp .eq 147, 3) := by decide +kernel
theorem dL_law_865 : decode cL_law 865 = .ok (.iconst 0, 1) := by decide +kernel
theorem dL_law_866 : decode cL_law 866 = .ok (.ireturn, 1) := by decide +kernel
theorem dL_law_867 : decode cL_law 867 = .ok (.aload_n 1, 1) := by decide +kernel
theorem dL_law_868 : decode cL_law 868 = .ok (.aload_n 0, 1) := by decide +kernel
theorem dL_law_869 : decode cL_law 869 = .ok (.iload 4, 2) := by decide +kernel
theorem dL_law_871 : decode cL_law 871 = .ok (.iconst 1, 1) := by decide +kernel
theorem dL_law_872 : decode cL_law 872 = .ok (.iadd, 1) := by decide +kernel
theorem dL_law_873 : decode cL_law 873 = .ok (.iaload, 1) := by decide +kernel
theorem dL_law_874 : decode cL_law 874 = .ok (.invokevirtual 111, 3) := by decide +kernel
theorem dL_law_877 : decode cL_law 877 = .ok (.aload_n 2, 1) := by decide +kernel
theorem dL_law_878 : decode cL_law 878 = .ok (.aload_n 0, 1) := by decide +kernel
theorem dL_law_879 : decode cL_law 879 = .ok (.iload 4, 2) := by decide +kernel
theorem dL_law_881 : decode cL_law 881 = .ok (.iconst 1, 1) := by decide +kernel
theorem dL_law_882 : decode cL_law 882 = .ok (.iadd, 1) := by decide +kernel
theorem dL_law_883 : decode cL_law 883 = .ok (.iaload, 1) := by decide +kernel
theorem dL_law_884 : decode cL_law 884 = .ok (.invokevirtual 114, 3) := by decide +kernel
theorem dL_law_887 : decode cL_law 887 = .ok (.if_icmp .eq 122, 3) := by decide +kernel
theorem dL_law_890 : decode cL_law 890 = .ok (.iconst 0, 1) := by decide +kernel
theorem dL_law_891 : decode cL_law 891 = .ok (.ireturn, 1) := by decide +kernel
theorem dL_law_892 : decode cL_law 892 = .ok (.aload_n 1, 1) := by decide +kernel
theorem dL_law_893 : decode cL_law 893 = .ok (.invokevirtual 115, 3) := by decide +kernel
theorem dL_law_896 : decode cL_law 896 = .ok (.aload_n 2, 1) := by decide +kernel
theorem dL_law_897 : decode cL_law 897 = .ok (.invokevirtual 118, 3) := by decide +kernel
theorem dL_law_900 : decode cL_law 900 = .ok (.if_icmp .eq 109, 3) := by decide +kernel
theorem dL_law_903 : decode cL_law 903 = .ok (.iconst 0, 1) := by decide +kernel
theorem dL_law_904 : decode cL_law 904 = .ok (.ireturn, 1) := by decide +kernel
theorem dL_law_905 : decode cL_law 905 = .ok (.aload_n 1, 1) := by decide +kernel
theorem dL_law_906 : decode cL_law 906 = .ok (.invokevirtual 119, 3) := by decide +kernel
theorem dL_law_909 : decode cL_law 909 = .ok (.aload_n 2, 1) := by decide +kernel
theorem dL_law_910 : decode cL_law 910 = .ok (.invokevirtual 122, 3) := by decide +kernel
theorem dL_law_913 : decode cL_law 913 = .ok (.if_icmp .eq 96, 3) := by decide +kernel
theorem dL_law_916 : decode cL_law 916 = .ok (.iconst 0, 1) := by decide +kernel
theorem dL_law_917 : decode cL_law 917 = .ok (.ireturn, 1) := by decide +kernel
theorem dL_law_918 : decode cL_law 918 = .ok (.aload_n 1, 1) := by decide +kernel
theorem dL_law_919 : decode cL_law 919 = .ok (.aload_n 0, 1) := by decide +kernel
theorem dL_law_920 : decode cL_law 920 = .ok (.iload 4, 2) := by decide +kernel
theorem dL_law_922 : decode cL_law 922 = .ok (.iconst 1, 1) := by decide +kernel
theorem dL_law_923 : decode cL_law 923 = .ok (.iadd, 1) := by decide +kernel
theorem dL_law_924 : decode cL_law 924 = .ok (.iaload, 1) := by decide +kernel
theorem dL_law_925 : decode cL_law 925 = .ok (.aload_n 0, 1) := by decide +kernel
theorem dL_law_926 : decode cL_law 926 = .ok (.iload 4, 2) := by decide +kernel
theorem dL_law_928 : decode cL_law 928 = .ok (.iconst 2, 1) := by decide +kernel
theorem dL_law_929 : decode cL_law 929 = .ok (.iadd, 1) := by decide +kernel
theorem dL_law_930 : decode cL_law 930 = .ok (.iaload, 1) := by decide +kernel
theorem dL_law_931 : decode cL_law 931 = .ok (.ifCond .eq 7, 3) := by decide +kernel
theorem dL_law_934 : decode cL_law 934 = .ok (.iconst 1, 1) := by decide +kernel
theorem dL_law_935 : decode cL_law 935 = .ok (.goto 4, 3) := by decide +kernel
theorem dL_law_938 : decode cL_law 938 = .ok (.iconst 0, 1) := by decide +kernel
theorem dL_law_939 : decode cL_law 939 = .ok (.invokevirtual 123, 3) := by decide +kernel
theorem dL_law_942 : decode cL_law 942 = .ok (.aload_n 2, 1) := by decide +kernel
theorem dL_law_943 : decode cL_law 943 = .ok (.aload_n 0, 1) := by decide +kernel
theorem dL_law_944 : decode cL_law 944 = .ok (.iload 4, 2) := by decide +kernel
theorem dL_law_946 : decode cL_law 946 = .ok (.iconst 1, 1) := by decide +kernel
theorem dL_law_947 : decode cL_law 947 = .ok (.iadd, 1) := by decide +kernel
theorem dL_law_948 : decode cL_law 948 = .ok (.iaload, 1) := by decide +kernel
theorem dL_law_949 : decode cL_law 949 = .ok (.aload_n 0, 1) := by decide +kernel
theorem dL_law_950 : decode cL_law 950 = .ok (.iload 4, 2) := by decide +kernel
theorem dL_law_952 : decode cL_law 952 = .ok (.iconst 2, 1) := by decide +kernel
theorem dL_law_953 : decode cL_law 953 = .ok (.iadd, 1) := by decide +kernel
theorem dL_law_954 : decode cL_law 954 = .ok (.iaload, 1) := by decide +kernel
theorem dL_law_955 : decode cL_law 955 = .ok (.ifCond .eq 7, 3) := by decide +kernel
theorem dL_law_958 : decode cL_law 958 = .ok (.iconst 1, 1) := by decide +kernel
theorem dL_law_959 : decode cL_law 959 = .ok (.goto 4, 3) := by decide +kernel
theorem dL_law_962 : decode cL_law 962 = .ok (.iconst 0, 1) := by decide +kernel
theorem dL_law_963 : decode cL_law 963 = .ok (.invokevirtual 126, 3) := by decide +kernel
theorem dL_law_966 : decode cL_law 966 = .ok (.if_icmp .eq 43, 3) := by decide +kernel
theorem dL_law_969 : decode cL_law 969 = .ok (.iconst 0, 1) := by decide +kernel
theorem dL_law_970 : decode cL_law 970 = .ok (.ireturn, 1) := by decide +kernel
theorem dL_law_971 : decode cL_law 971 = .ok (.aload_n 1, 1) := by decide +kernel
theorem dL_law_972 : decode cL_law 972 = .ok (.aload_n 0, 1) := by decide +kernel
theorem dL_law_973 : decode cL_law 973 = .ok (.iload 4, 2) := by decide +kernel
theorem dL_law_975 : decode cL_law 975 = .ok (.iconst 1, 1) := by decide +kernel
theorem dL_law_976 : decode cL_law 976 = .ok (.iadd, 1) := by decide +kernel
theorem dL_law_977 : decode cL_law 977 = .ok (.iaload, 1) := by decide +kernel
theorem dL_law_978 : decode cL_law 978 = .ok (.invokevirtual 127, 3) := by decide +kernel
theorem dL_law_981 : decode cL_law 981 = .ok (.aload_n 2, 1) := by decide +kernel
theorem dL_law_982 : decode cL_law 982 = .ok (.aload_n 0, 1) := by decide +kernel
theorem dL_law_983 : decode cL_law 983 = .ok (.iload 4, 2) := by decide +kernel
theorem dL_law_985 : decode cL_law 985 = .ok (.iconst 1, 1) := by decide +kernel
theorem dL_law_986 : decode cL_law 986 = .ok (.iadd, 1) := by decide +kernel
theorem dL_law_987 : decode cL_law 987 = .ok (.iaload, 1) := by decide +kernel
theorem dL_law_988 : decode cL_law 988 = .ok (.invokevirtual 130, 3) := by decide +kernel
theorem dL_law_991 : decode cL_law 991 = .ok (.if_icmp .eq 18, 3) := by decide +kernel
theorem dL_law_994 : decode cL_law 994 = .ok (.iconst 0, 1) := by decide +kernel
theorem dL_law_995 : decode cL_law 995 = .ok (.ireturn, 1) := by decide +kernel
theorem dL_law_996 : decode cL_law 996 = .ok (.aload_n 1, 1) := by decide +kernel
theorem dL_law_997 : decode cL_law 997 = .ok (.invokevirtual 131, 3) := by decide +kernel
theorem dL_law_1000 : decode cL_law 1000 = .ok (.aload_n 2, 1) := by decide +kernel
theorem dL_law_1001 : decode cL_law 1001 = .ok (.invokevirtual 134, 3) := by decide +kernel
theorem dL_law_1004 : decode cL_law 1004 = .ok (.if_icmp .eq 5, 3) := by decide +kernel
theorem dL_law_1007 : decode cL_law 1007 = .ok (.iconst 0, 1) := by decide +kernel
theorem dL_law_1008 : decode cL_law 1008 = .ok (.ireturn, 1) := by decide +kernel
theorem dL_law_1009 : decode cL_law 1009 = .ok (.iinc 4 6, 3) := by decide +kernel
theorem dL_law_1012 : decode cL_law 1012 = .ok (.goto (-989), 3) := by decide +kernel
theorem dL_law_1015 : decode cL_law 1015 = .ok (.iconst 1, 1) := by decide +kernel
theorem dL_law_1016 : decode cL_law 1016 = .ok (.ireturn, 1) := by decide +kernel
end
section
/-! an abstract heap: cells by their number (0 is the script, 1 the first cell that the law makes), and the next number -/
abbrev xCel : Type := (Nat × Nat × ((Nat → Int32) ⊕ (Nat → Int64) ⊕ (Nat → Option Nat))) ⊕ (Nat × List Value)
abbrev xHp : Type := (Nat → Option xCel) × Nat
/-- launch; first new address, heap at the law's entry; class numbers; array class numbers; the script's address, length, ints -/
abbrev xG : Type := Launch × Nat × Heap × va_G × (Nat → ClassId) × Nat × Nat × (Nat → Int32)
abbrev xB (G : xG) : Nat := G.2.1
abbrev xH0 (G : xG) : Heap := G.2.2.1
abbrev xD (G : xG) : va_G := G.2.2.2.1
abbrev xA (G : xG) : Nat → ClassId := G.2.2.2.2.1
abbrev xb (G : xG) : Nat := G.2.2.2.2.2.1
abbrev xLn (G : xG) : Nat := G.2.2.2.2.2.2.1
abbrev xS (G : xG) : Nat → Int32 := G.2.2.2.2.2.2.2
abbrev xCl : List vw_C := vwCl ++ [("java/util/NoSuchElementException", TJ7, 0)]
abbrev xTys (G : xG) : List (ClassId × FieldType) := [(xA G 0, .int), (xA G 1, .long), (xA G 2, .byte), (xA G 3, .boolean), (xA G 4, .object RX8), (xA G 5, .object RX9), (xA G 6, .object RX12)]
def xa (G : xG) (a : Nat) : Nat := if a = 0 then xb G else xB G + a - 1
def xv (G : xG) (v : Value) : Value := match v with
  | .ref a => .ref (xa G a)
  | w => w
def xE (G : xG) (c : xCel) : va_E := match c with
  | .inl (t, n, .inl f) => .inl (xA G t, n, .inl f)
  | .inl (t, n, .inr (.inl f)) => .inl (xA G t, n, .inr (.inl f))
  | .inl (t, n, .inr (.inr f)) => .inl (xA G t, n, .inr (.inr (.inr (.inr (fun j => (f j).map (xa G))))))
  | .inr (ci, fs) => .inr (ci, fs.map (xv G))
/-- the real heap holds the abstract one -/
def xR (G : xG) (h : xHp) (H : Heap) : Prop := 1 ≤ h.2 ∧ H.size + 1 = xB G + h.2 ∧ (∀ q, q < xB G → H[q]? = (xH0 G)[q]?) ∧ ∀ a c, h.1 a = some c → 1 ≤ a ∧ a < h.2 ∧ va_at (xD G) xCl (xa G a, xE G c) H
def xup (h : xHp) (a : Nat) (c : xCel) : xHp := (va_up h.1 a (some c), h.2)
def xnw (h : xHp) (c : xCel) : xHp := (va_up h.1 h.2 (some c), h.2 + 1)
theorem xup_self (h : xHp) (a : Nat) (c : xCel) : (xup h a c).1 a = some c := by simp [xup, va_up]
theorem xup_ne {h : xHp} {a b : Nat} {c : xCel} (hn : b ≠ a) : (xup h a c).1 b = h.1 b := by simp [xup, va_up, hn]
theorem xup_2 (h : xHp) (a : Nat) (c : xCel) : (xup h a c).2 = h.2 := rfl
theorem xnw_self (h : xHp) (c : xCel) : (xnw h c).1 h.2 = some c := by simp [xnw, va_up]
theorem xnw_ne {h : xHp} {b : Nat} {c : xCel} (hn : b ≠ h.2) : (xnw h c).1 b = h.1 b := by simp [xnw, va_up, hn]
theorem xnw_2 (h : xHp) (c : xCel) : (xnw h c).2 = h.2 + 1 := rfl
theorem xa_pos {G : xG} {a : Nat} (h : 1 ≤ a) : xa G a = xB G + a - 1 := by
  unfold xa; rw [if_neg (by omega)]
theorem xR.up {G : xG} {h : xHp} {H H' : Heap} {a : Nat} {c0 c : xCel} (hR : xR G h H) (h0 : h.1 a = some c0) (z : H'.size = H.size) (o : ∀ q, q ≠ xa G a → H'[q]? = H[q]?) (hc : va_at (xD G) xCl (xa G a, xE G c) H') : xR G (xup h a c) H' := by
  obtain ⟨h1, h2, h3, h4⟩ := hR
  obtain ⟨p1, p2, -⟩ := h4 a c0 h0
  have ea := xa_pos (G := G) p1
  refine ⟨h1, by rw [z]; exact h2, fun q hq => (o q (by omega)).trans (h3 q hq), fun b d hb => ?_⟩
  by_cases hn : b = a
  · subst hn
    rw [xup_self] at hb
    cases hb
    exact ⟨p1, p2, hc⟩
  · rw [xup_ne hn] at hb
    obtain ⟨r1, r2, r3⟩ := h4 b d hb
    refine ⟨r1, r2, r3.kept ?_⟩
    have eb := xa_pos (G := G) r1
    exact o _ (by show xa G b ≠ xa G a; omega)
theorem xR.nw {G : xG} {h : xHp} {H H' : Heap} {c : xCel} (hR : xR G h H) (z : H'.size = H.size + 1) (o : ∀ q, q < H.size → H'[q]? = H[q]?) (hc : va_at (xD G) xCl (H.size, xE G c) H') : xR G (xnw h c) H' := by
  obtain ⟨h1, h2, h3, h4⟩ := hR
  have ea := xa_pos (G := G) h1
  refine ⟨by show 1 ≤ h.2 + 1; omega, by show H'.size + 1 = xB G + (h.2 + 1); omega, fun q hq => (o q (by omega)).trans (h3 q hq), fun b d hb => ?_⟩
  by_cases hn : b = h.2
  · subst hn
    rw [xnw_self] at hb
    cases hb
    refine ⟨h1, by show h.2 < h.2 + 1; omega, ?_⟩
    rw [ea, show xB G + h.2 - 1 = H.size by omega]
    exact hc
  · rw [xnw_ne hn] at hb
    obtain ⟨r1, r2, r3⟩ := h4 b d hb
    refine ⟨r1, by show b < h.2 + 1; omega, r3.kept ?_⟩
    have eb := xa_pos (G := G) r1
    exact o _ (by show xa G b < H.size; omega)
theorem xR.new_at {G : xG} {h : xHp} {H : Heap} (hR : xR G h H) : xa G h.2 = H.size := by
  have ea := xa_pos (G := G) hR.1
  have := hR.2.1
  omega
/-! the words that stay -/
def xok (w : Cond) : Bool := match w with
  | .fieldLinkNest .. => true
  | .methodLinkNest .. => true
  | .arrayOver (.object _) => true
  | w => goodWord w
def xT (U : State) : Prop := ∀ w ∈ lw_tbl, xok w = true → w.before #[] U = true
theorem xok_or {w : Cond} (h : xok w = true) : goodWord w = true ∨ (∃ a i b n d k, w = .fieldLinkNest a i b n d k) ∨ (∃ a i x k, w = .methodLinkNest a i x k) ∨ ∃ C, w = .arrayOver (.object C) := by
  cases w with
  | arrayOver ty => cases ty <;> first | exact Or.inl h | exact Or.inr (Or.inr (Or.inr ⟨_, rfl⟩))
  | _ => first | exact Or.inl h | exact Or.inr (Or.inl ⟨_, _, _, _, _, _, rfl⟩) | exact Or.inr (Or.inr (Or.inl ⟨_, _, _, _, rfl⟩))
theorem xT.moved {s U : State} (hW : s.WarmedH U.vm) (h : xT s) : xT U := by
  intro w hw hk
  have h1 := h w hw hk
  rcases xok_or hk with hg | ⟨a, i, b, n, d, k, rfl⟩ | ⟨a, i, x, k, rfl⟩ | ⟨C, rfl⟩
  · exact word_at hW (good_of_word hg) h1
  · exact va_Nw.warmF hW h1
  · exact va_Nw.warmM hW h1
  · exact va_AO.moved hW.alike h1
theorem xT.use {s : State} (h : xT s) {w : Cond} (hw : w ∈ lw_tbl) (hk : xok w = true) (args : Array Value) : w.before args s = true := by
  have h1 := h w hw hk
  rcases xok_or hk with hg | ⟨a, i, b, n, d, k, rfl⟩ | ⟨a, i, x, k, rfl⟩ | ⟨C, rfl⟩
  · exact word_at (State.WarmedH.refl s) (good_of_word hg) h1
  · exact va_Nw.use rfl h1
  · exact va_Nw.use rfl h1
  · exact va_AO.use h1
def xZ (G : xG) (U : State) : Prop := vx_Zq Bundle.tN "UNASSIGNED_STACK" Bundle.steD (fun q => xB G ≤ q) U (xH0 G) ∧ vx_Zq Bundle.tN "SUPPRESSED_SENTINEL" Bundle.listD (fun q => xB G ≤ q) U (xH0 G) ∧ ∃ sa, vk_R RX11 126 "no such letter" sa U
def xK (G : xG) (U : State) : Prop := va_K (xD G) xCl (xTys G) U ∧ xT U ∧ va_X (xb G) (xLn G) (xS G) U (xH0 G) ∧ (xb G < xB G ∧ (xH0 G).size = xB G ∧ G.1.stackTraces = false) ∧ xZ G U
theorem xK.moved {G : xG} {s U : State} (hW : s.WarmedH U.vm) (h : xK G s) : xK G U := by
  obtain ⟨h1, h2, h3, h4, h5, h6, sa, h7⟩ := h
  exact ⟨va_K.moved hW.alike h1, xT.moved hW h2, va_X.moved hW.alike h3, h4, vx_Zq.moved hW.alike h5, vx_Zq.moved hW.alike h6, sa, vk_R.warm hW h7⟩
/-! a method: its name, code, locals, answer's type, handlers -/
abbrev xM : Type := MethodName × ByteArray × Nat × Option FieldType × List (Nat × Nat × Nat × Nat)
def xC (G : xG) (M : xM) (p : Program) (s : State) (m : MethodId) (meth : Method) (c : Code) : Prop :=
  p.tables.exec = Jvm.exec ∧ c.code = M.2.1 ∧ c.maxLocals = M.2.2.1 ∧ s.vm.findClass M.1.cls = some m.cls ∧ meth.sig.returnType = M.2.2.2.1 ∧ meth.locks = false ∧ meth.name = M.1.name ∧ c.exceptionTable.toList = tableOf M.2.2.2.2 ∧ xK G s
abbrev xL (G : xG) (ls : List (Nat × Value)) : List (Nat × Value) := ls.map (fun q => (q.1, xv G q.2))
def xget (ls : List (Nat × Value)) (i : Nat) : Option Value := match ls with
  | [] => none
  | (j, v) :: r => if j = i then some v else xget r i
def xset (i : Nat) (v : Value) (ls : List (Nat × Value)) : List (Nat × Value) := match ls with
  | [] => [(i, v)]
  | (j, w) :: r => if j = i then (i, v) :: r.filter (fun q => !(q.1 == i)) else (j, w) :: xset i v r
theorem xget_mem {ls : List (Nat × Value)} {i : Nat} {v : Value} (h : xget ls i = some v) : (i, v) ∈ ls := by
  induction ls with
  | nil => cases h
  | cons q r ih =>
    obtain ⟨j, w⟩ := q
    simp only [xget] at h
    split at h
    next e => cases h; subst e; exact List.mem_cons_self
    next e => exact List.mem_cons_of_mem _ (ih h)
theorem xset_mem {ls : List (Nat × Value)} {i : Nat} {v : Value} (q : Nat × Value) (h : q ∈ xset i v ls) : q = (i, v) ∨ (q ∈ ls ∧ q.1 ≠ i) := by
  induction ls with
  | nil => simp [xset] at h; exact Or.inl h
  | cons x r ih =>
    obtain ⟨j, w⟩ := x
    simp only [xset] at h
    split at h
    next e =>
      rcases List.mem_cons.mp h with h | h
      · exact Or.inl h
      · have h2 := List.mem_filter.mp h
        exact Or.inr ⟨List.mem_cons_of_mem _ h2.1, by simpa using h2.2⟩
    next e =>
      rcases List.mem_cons.mp h with h | h
      · subst h; exact Or.inr ⟨List.mem_cons_self, e⟩
      · rcases ih h with h | ⟨h, h2⟩
        · exact Or.inl h
        · exact Or.inr ⟨List.mem_cons_of_mem _ h, h2⟩

theorem xl_at {G : xG} {lsA : Array Slot} {nL : Nat} {ls : List (Nat × Value)} {i : Nat} {v : Value} (hl : lv_has lsA nL (xL G ls)) (h : xget ls i = some v) : lsA[i]? = some (.val (xv G v)) := hl.2.2 (i, xv G v) (List.mem_map.mpr ⟨(i, v), xget_mem h, rfl⟩)
/-- no long lies just ahead of the place -/
def xno2 (i : Nat) (ls : List (Nat × Value)) : Bool := ls.all (fun q => !(q.1 + 1 == i && q.2.category == 2))
theorem xv_cat (G : xG) (v : Value) : (xv G v).category = v.category := by cases v <;> rfl
theorem xl_set {G : xG} {lsA : Array Slot} {nL : Nat} {ls ls' : List (Nat × Value)} {i : Nat} {v : Value} (hs : xset i v ls = ls') (h2 : xno2 i ls = true) (h : lv_has lsA nL ((i, xv G v) :: (xL G ls).filter (fun q => !(q.1 == i) && !(q.1 + 1 == i && q.2.category == 2)))) : lv_has lsA nL (xL G ls') := by
  refine ⟨h.1, h.2.1, fun q hq => ?_⟩
  obtain ⟨q0, hq0, rfl⟩ := List.mem_map.mp hq
  rw [← hs] at hq0
  refine h.2.2 _ ?_
  rcases xset_mem q0 hq0 with rfl | ⟨hm, hn⟩
  · exact List.mem_cons_self
  · refine List.mem_cons_of_mem _ (List.mem_filter.mpr ⟨List.mem_map.mpr ⟨q0, hm, rfl⟩, ?_⟩)
    have h3 := List.all_eq_true.mp h2 q0 hm
    simp only [xv_cat]
    simp only [Bool.and_eq_true]
    exact ⟨by simpa using hn, h3⟩
/-- the machine at pc of the method M, its locals ls, its stack st, the heap h, comes to a state with F -/
def Wx (G : xG) (M : xM) (R : Room) (F : List Frame → Array Value → State → State → Prop) (uc us pc : Nat) (ls : List (Nat × Value)) (st : List Value) (h : xHp) : Prop :=
  ∀ (p : Program) (e : Env) (s : State) (m : MethodId) (args : Array Value) (below : List Frame) (meth : Method) (c : Code) (H : Heap) (locs : List Loc) (lsA : Array Slot), xC G M p s m meth c → xR G h H → (∀ z ∈ locs, xB G ≤ z.base) → lv_has lsA M.2.2.1 (xL G ls) →
    W p G.1 e R s m args below meth c H locs uc us (F below args s) (F0 m pc lsA (st.map (xv G)))
section XI
variable {G : xG} {M : xM} {R : Room} {F : List Frame → Array Value → State → State → Prop} {uc us pc : Nat} {ls : List (Nat × Value)} {st : List Value} {h : xHp}
theorem x_iconst {n : Int} {v : Int32} (hd : decode M.2.1 pc = .ok (.iconst n, 1)) (hv : Int32.ofInt n = v) (k : Wx G M R F uc us (pc + 1) ls (.int v :: st) h) : Wx G M R F uc us pc ls (st) h := fun p e s m args below meth c H locs lsA hC hR hL hl => lv_iconst hC.1 hC.2.1 hd hv (k p e s m args below meth c H locs lsA hC hR hL hl)
theorem x_bipush {n : Int} {v : Int32} (hd : decode M.2.1 pc = .ok (.bipush n, 2)) (hv : (Int8.ofInt n).toInt32 = v) (k : Wx G M R F uc us (pc + 2) ls (.int v :: st) h) : Wx G M R F uc us pc ls (st) h := fun p e s m args below meth c H locs lsA hC hR hL hl => lv_bipush hC.1 hC.2.1 hd hv (k p e s m args below meth c H locs lsA hC hR hL hl)
theorem x_sipush {n : Int} {v : Int32} (hd : decode M.2.1 pc = .ok (.sipush n, 3)) (hv : (Int16.ofInt n).toInt32 = v) (k : Wx G M R F uc us (pc + 3) ls (.int v :: st) h) : Wx G M R F uc us pc ls (st) h := fun p e s m args below meth c H locs lsA hC hR hL hl => lv_sipush hC.1 hC.2.1 hd hv (k p e s m args below meth c H locs lsA hC hR hL hl)
theorem x_lconst {n : Fin 2} {v : Int64} (hd : decode M.2.1 pc = .ok (.lconst n, 1)) (hv : Int64.ofNat (n : Nat) = v) (k : Wx G M R F uc us (pc + 1) ls (.long v :: st) h) : Wx G M R F uc us pc ls (st) h := fun p e s m args below meth c H locs lsA hC hR hL hl => lv_lconst hC.1 hC.2.1 hd hv (k p e s m args below meth c H locs lsA hC hR hL hl)
theorem x_null  (hd : decode M.2.1 pc = .ok (.aconst_null, 1)) (k : Wx G M R F uc us (pc + 1) ls (.null :: st) h) : Wx G M R F uc us pc ls (st) h := fun p e s m args below meth c H locs lsA hC hR hL hl => lv_null hC.1 hC.2.1 hd (k p e s m args below meth c H locs lsA hC hR hL hl)
theorem x_iload_n {n : Fin 4} {x : Int32} (hd : decode M.2.1 pc = .ok (.iload_n n, 1)) (hk : xget ls (n : Nat) = some (.int x)) (k : Wx G M R F uc us (pc + 1) ls (.int x :: st) h) : Wx G M R F uc us pc ls (st) h := fun p e s m args below meth c H locs lsA hC hR hL hl => lv_iload_n hC.1 hC.2.1 hd rfl (xl_at hl hk) (k p e s m args below meth c H locs lsA hC hR hL hl)
theorem x_iload {n : Nat} {x : Int32} (hd : decode M.2.1 pc = .ok (.iload n, 2)) (hk : xget ls n = some (.int x)) (k : Wx G M R F uc us (pc + 2) ls (.int x :: st) h) : Wx G M R F uc us pc ls (st) h := fun p e s m args below meth c H locs lsA hC hR hL hl => lv_iload hC.1 hC.2.1 hd (xl_at hl hk) (k p e s m args below meth c H locs lsA hC hR hL hl)
theorem x_lload_n {n : Fin 4} {x : Int64} (hd : decode M.2.1 pc = .ok (.lload_n n, 1)) (hk : xget ls (n : Nat) = some (.long x)) (k : Wx G M R F uc us (pc + 1) ls (.long x :: st) h) : Wx G M R F uc us pc ls (st) h := fun p e s m args below meth c H locs lsA hC hR hL hl => lv_lload_n hC.1 hC.2.1 hd rfl (xl_at hl hk) (k p e s m args below meth c H locs lsA hC hR hL hl)
theorem x_aload_n {n : Fin 4} {a : Nat} (hd : decode M.2.1 pc = .ok (.aload_n n, 1)) (hk : xget ls (n : Nat) = some (.ref a)) (k : Wx G M R F uc us (pc + 1) ls (.ref a :: st) h) : Wx G M R F uc us pc ls (st) h := fun p e s m args below meth c H locs lsA hC hR hL hl => lv_aload_n hC.1 hC.2.1 hd rfl (xl_at hl hk) (k p e s m args below meth c H locs lsA hC hR hL hl)
theorem x_aload {n : Nat} {a : Nat} (hd : decode M.2.1 pc = .ok (.aload n, 2)) (hk : xget ls n = some (.ref a)) (k : Wx G M R F uc us (pc + 2) ls (.ref a :: st) h) : Wx G M R F uc us pc ls (st) h := fun p e s m args below meth c H locs lsA hC hR hL hl => lv_aload hC.1 hC.2.1 hd (xl_at hl hk) (k p e s m args below meth c H locs lsA hC hR hL hl)
theorem x_istore_n {n : Fin 4} {x : Int32} (ls' : List (Nat × Value)) (hd : decode M.2.1 pc = .ok (.istore_n n, 1)) (hn : ((n : Nat)) < M.2.2.1) (h2 : xno2 (n : Nat) ls = true) (hs : xset (n : Nat) (.int x) ls = ls') (k : Wx G M R F uc us (pc + 1) ls' st h) : Wx G M R F uc us pc ls (.int x :: st) h := fun p e s m args below meth c H locs lsA hC hR hL hl => lv_istore_n hC.1 hC.2.1 hd rfl hl hn rfl (fun lsB hB => k p e s m args below meth c H locs lsB hC hR hL (xl_set hs h2 hB))
theorem x_istore {n : Nat} {x : Int32} (ls' : List (Nat × Value)) (hd : decode M.2.1 pc = .ok (.istore n, 2)) (hn : (n) < M.2.2.1) (h2 : xno2 n ls = true) (hs : xset n (.int x) ls = ls') (k : Wx G M R F uc us (pc + 2) ls' st h) : Wx G M R F uc us pc ls (.int x :: st) h := fun p e s m args below meth c H locs lsA hC hR hL hl => lv_istore hC.1 hC.2.1 hd hl hn rfl (fun lsB hB => k p e s m args below meth c H locs lsB hC hR hL (xl_set hs h2 hB))
theorem x_astore_n {n : Fin 4} {x : Nat} (ls' : List (Nat × Value)) (hd : decode M.2.1 pc = .ok (.astore_n n, 1)) (hn : ((n : Nat)) < M.2.2.1) (h2 : xno2 (n : Nat) ls = true) (hs : xset (n : Nat) (.ref x) ls = ls') (k : Wx G M R F uc us (pc + 1) ls' st h) : Wx G M R F uc us pc ls (.ref x :: st) h := fun p e s m args below meth c H locs lsA hC hR hL hl => lv_astore_n hC.1 hC.2.1 hd rfl hl hn rfl (fun lsB hB => k p e s m args below meth c H locs lsB hC hR hL (xl_set hs h2 hB))
theorem x_astore {n : Nat} {x : Nat} (ls' : List (Nat × Value)) (hd : decode M.2.1 pc = .ok (.astore n, 2)) (hn : (n) < M.2.2.1) (h2 : xno2 n ls = true) (hs : xset n (.ref x) ls = ls') (k : Wx G M R F uc us (pc + 2) ls' st h) : Wx G M R F uc us pc ls (.ref x :: st) h := fun p e s m args below meth c H locs lsA hC hR hL hl => lv_astore hC.1 hC.2.1 hd hl hn rfl (fun lsB hB => k p e s m args below meth c H locs lsB hC hR hL (xl_set hs h2 hB))
theorem x_iinc {n : Nat} {z : Int} {x v : Int32} (ls' : List (Nat × Value)) (hd : decode M.2.1 pc = .ok (.iinc n z, 3)) (hk : xget ls n = some (.int x)) (hv : x + Int32.ofInt z = v) (hn : n < M.2.2.1) (h2 : xno2 n ls = true) (hs : xset n (.int v) ls = ls') (k : Wx G M R F uc us (pc + 3) ls' st h) : Wx G M R F uc us pc ls st h := by
  intro p e s m args below meth c H locs lsA hC hR hL hl
  obtain ⟨kp, hkp⟩ := List.getElem?_of_mem (List.mem_map.mpr ⟨(n, Value.int x), xget_mem hk, rfl⟩ : (n, xv G (.int x)) ∈ xL G ls)
  exact lv_iinc hC.1 hC.2.1 hd hl (k := kp) hkp hv hn rfl (fun lsB hB => k p e s m args below meth c H locs lsB hC hR hL (xl_set hs h2 hB))
theorem x_iadd {x y : Int32} (hd : decode M.2.1 pc = .ok (.iadd, 1)) (k : Wx G M R F uc us (pc + 1) ls (.int (x + y) :: st) h) : Wx G M R F uc us pc ls (.int y :: .int x :: st) h := fun p e s m args below meth c H locs lsA hC hR hL hl => lv_iadd hC.1 hC.2.1 hd (k p e s m args below meth c H locs lsA hC hR hL hl)
theorem x_isub {x y : Int32} (hd : decode M.2.1 pc = .ok (.isub, 1)) (k : Wx G M R F uc us (pc + 1) ls (.int (x - y) :: st) h) : Wx G M R F uc us pc ls (.int y :: .int x :: st) h := fun p e s m args below meth c H locs lsA hC hR hL hl => lv_isub hC.1 hC.2.1 hd (k p e s m args below meth c H locs lsA hC hR hL hl)
theorem x_imul {x y : Int32} (hd : decode M.2.1 pc = .ok (.imul, 1)) (k : Wx G M R F uc us (pc + 1) ls (.int (x * y) :: st) h) : Wx G M R F uc us pc ls (.int y :: .int x :: st) h := fun p e s m args below meth c H locs lsA hC hR hL hl => lv_imul hC.1 hC.2.1 hd (k p e s m args below meth c H locs lsA hC hR hL hl)
theorem x_iand {x y : Int32} (hd : decode M.2.1 pc = .ok (.iand, 1)) (k : Wx G M R F uc us (pc + 1) ls (.int (x &&& y) :: st) h) : Wx G M R F uc us pc ls (.int y :: .int x :: st) h := fun p e s m args below meth c H locs lsA hC hR hL hl => lv_iand hC.1 hC.2.1 hd (k p e s m args below meth c H locs lsA hC hR hL hl)
theorem x_ior {x y : Int32} (hd : decode M.2.1 pc = .ok (.ior, 1)) (k : Wx G M R F uc us (pc + 1) ls (.int (x ||| y) :: st) h) : Wx G M R F uc us pc ls (.int y :: .int x :: st) h := fun p e s m args below meth c H locs lsA hC hR hL hl => lv_ior hC.1 hC.2.1 hd (k p e s m args below meth c H locs lsA hC hR hL hl)
theorem x_ixor {x y : Int32} (hd : decode M.2.1 pc = .ok (.ixor, 1)) (k : Wx G M R F uc us (pc + 1) ls (.int (x ^^^ y) :: st) h) : Wx G M R F uc us pc ls (.int y :: .int x :: st) h := fun p e s m args below meth c H locs lsA hC hR hL hl => lv_ixor hC.1 hC.2.1 hd (k p e s m args below meth c H locs lsA hC hR hL hl)
theorem x_ishl {x y : Int32} (hd : decode M.2.1 pc = .ok (.ishl, 1)) (k : Wx G M R F uc us (pc + 1) ls (.int (x <<< (y &&& 31)) :: st) h) : Wx G M R F uc us pc ls (.int y :: .int x :: st) h := fun p e s m args below meth c H locs lsA hC hR hL hl => lv_ishl hC.1 hC.2.1 hd (k p e s m args below meth c H locs lsA hC hR hL hl)
theorem x_ishr {x y : Int32} (hd : decode M.2.1 pc = .ok (.ishr, 1)) (k : Wx G M R F uc us (pc + 1) ls (.int (x >>> (y &&& 31)) :: st) h) : Wx G M R F uc us pc ls (.int y :: .int x :: st) h := fun p e s m args below meth c H locs lsA hC hR hL hl => lv_ishr hC.1 hC.2.1 hd (k p e s m args below meth c H locs lsA hC hR hL hl)
theorem x_idiv {x y : Int32} (hd : decode M.2.1 pc = .ok (.idiv, 1)) (hne : ¬ y = 0) (k : Wx G M R F uc us (pc + 1) ls (.int (x / y) :: st) h) : Wx G M R F uc us pc ls (.int y :: .int x :: st) h := fun p e s m args below meth c H locs lsA hC hR hL hl => lv_idiv hC.1 hC.2.1 hd hne (k p e s m args below meth c H locs lsA hC hR hL hl)
theorem x_irem {x y : Int32} (hd : decode M.2.1 pc = .ok (.irem, 1)) (hne : ¬ y = 0) (k : Wx G M R F uc us (pc + 1) ls (.int (x - x / y * y) :: st) h) : Wx G M R F uc us pc ls (.int y :: .int x :: st) h := fun p e s m args below meth c H locs lsA hC hR hL hl => lv_irem hC.1 hC.2.1 hd hne (k p e s m args below meth c H locs lsA hC hR hL hl)
theorem x_iushr {x y : Int32} (hd : decode M.2.1 pc = .ok (.iushr, 1)) (k : Wx G M R F uc us (pc + 1) ls (.int ((x.toUInt32 >>> (y.toUInt32 &&& Int32.toUInt32 31)).toInt32) :: st) h) : Wx G M R F uc us pc ls (.int y :: .int x :: st) h := fun p e s m args below meth c H locs lsA hC hR hL hl => lv_iushr hC.1 hC.2.1 hd rfl (k p e s m args below meth c H locs lsA hC hR hL hl)
theorem x_ladd {x y : Int64} (hd : decode M.2.1 pc = .ok (.ladd, 1)) (k : Wx G M R F uc us (pc + 1) ls (.long (x + y) :: st) h) : Wx G M R F uc us pc ls (.long y :: .long x :: st) h := fun p e s m args below meth c H locs lsA hC hR hL hl => lv_ladd hC.1 hC.2.1 hd (k p e s m args below meth c H locs lsA hC hR hL hl)
theorem x_lmul {x y : Int64} (hd : decode M.2.1 pc = .ok (.lmul, 1)) (k : Wx G M R F uc us (pc + 1) ls (.long (x * y) :: st) h) : Wx G M R F uc us pc ls (.long y :: .long x :: st) h := fun p e s m args below meth c H locs lsA hC hR hL hl => lv_lmul hC.1 hC.2.1 hd (k p e s m args below meth c H locs lsA hC hR hL hl)
theorem x_land {x y : Int64} (hd : decode M.2.1 pc = .ok (.land, 1)) (k : Wx G M R F uc us (pc + 1) ls (.long (x &&& y) :: st) h) : Wx G M R F uc us pc ls (.long y :: .long x :: st) h := fun p e s m args below meth c H locs lsA hC hR hL hl => lv_land hC.1 hC.2.1 hd (k p e s m args below meth c H locs lsA hC hR hL hl)
theorem x_lor {x y : Int64} (hd : decode M.2.1 pc = .ok (.lor, 1)) (k : Wx G M R F uc us (pc + 1) ls (.long (x ||| y) :: st) h) : Wx G M R F uc us pc ls (.long y :: .long x :: st) h := fun p e s m args below meth c H locs lsA hC hR hL hl => lv_lor hC.1 hC.2.1 hd (k p e s m args below meth c H locs lsA hC hR hL hl)
theorem x_lshl {x : Int64} {y : Int32} (hd : decode M.2.1 pc = .ok (.lshl, 1)) (k : Wx G M R F uc us (pc + 1) ls (.long (x <<< (y.toInt64 &&& 63)) :: st) h) : Wx G M R F uc us pc ls (.int y :: .long x :: st) h := fun p e s m args below meth c H locs lsA hC hR hL hl => lv_lshl hC.1 hC.2.1 hd rfl (k p e s m args below meth c H locs lsA hC hR hL hl)
theorem x_lshr {x : Int64} {y : Int32} (hd : decode M.2.1 pc = .ok (.lshr, 1)) (k : Wx G M R F uc us (pc + 1) ls (.long (x >>> (y.toInt64 &&& 63)) :: st) h) : Wx G M R F uc us pc ls (.int y :: .long x :: st) h := fun p e s m args below meth c H locs lsA hC hR hL hl => lv_lshr hC.1 hC.2.1 hd rfl (k p e s m args below meth c H locs lsA hC hR hL hl)
theorem x_lushr {x : Int64} {y : Int32} (hd : decode M.2.1 pc = .ok (.lushr, 1)) (k : Wx G M R F uc us (pc + 1) ls (.long ((x.toUInt64 >>> (y.toInt64.toUInt64 &&& Int64.toUInt64 63)).toInt64) :: st) h) : Wx G M R F uc us pc ls (.int y :: .long x :: st) h := fun p e s m args below meth c H locs lsA hC hR hL hl => lv_lushr hC.1 hC.2.1 hd rfl (k p e s m args below meth c H locs lsA hC hR hL hl)
theorem x_i2l {x : Int32} (hd : decode M.2.1 pc = .ok (.i2l, 1)) (k : Wx G M R F uc us (pc + 1) ls (.long x.toInt64 :: st) h) : Wx G M R F uc us pc ls (.int x :: st) h := fun p e s m args below meth c H locs lsA hC hR hL hl => lv_i2l hC.1 hC.2.1 hd rfl (k p e s m args below meth c H locs lsA hC hR hL hl)
theorem x_l2i {x : Int64} (hd : decode M.2.1 pc = .ok (.l2i, 1)) (k : Wx G M R F uc us (pc + 1) ls (.int x.toInt32 :: st) h) : Wx G M R F uc us pc ls (.long x :: st) h := fun p e s m args below meth c H locs lsA hC hR hL hl => lv_l2i hC.1 hC.2.1 hd rfl (k p e s m args below meth c H locs lsA hC hR hL hl)
theorem x_i2b {x : Int32} (hd : decode M.2.1 pc = .ok (.i2b, 1)) (k : Wx G M R F uc us (pc + 1) ls (.int x.toInt8.toInt32 :: st) h) : Wx G M R F uc us pc ls (.int x :: st) h := fun p e s m args below meth c H locs lsA hC hR hL hl => lv_i2b hC.1 hC.2.1 hd rfl (k p e s m args below meth c H locs lsA hC hR hL hl)
theorem x_lcmp {x y : Int64} (hd : decode M.2.1 pc = .ok (.lcmp, 1)) (k : Wx G M R F uc us (pc + 1) ls (.int (lg_cmp x y) :: st) h) : Wx G M R F uc us pc ls (.long y :: .long x :: st) h := fun p e s m args below meth c H locs lsA hC hR hL hl => W.lcmp hC.1 hC.2.1 hd (k p e s m args below meth c H locs lsA hC hR hL hl)
theorem x_dup {v : Value} (hd : decode M.2.1 pc = .ok (.dup, 1)) (hv : v.category = 1) (k : Wx G M R F uc us (pc + 1) ls (v :: v :: st) h) : Wx G M R F uc us pc ls (v :: st) h := fun p e s m args below meth c H locs lsA hC hR hL hl => lv_dup hC.1 hC.2.1 hd ((xv_cat G v).trans hv) (k p e s m args below meth c H locs lsA hC hR hL hl)
theorem x_pop {v : Value} (hd : decode M.2.1 pc = .ok (.pop, 1)) (hv : v.category = 1) (k : Wx G M R F uc us (pc + 1) ls (st) h) : Wx G M R F uc us pc ls (v :: st) h := fun p e s m args below meth c H locs lsA hC hR hL hl => lv_pop hC.1 hC.2.1 hd ((xv_cat G v).trans hv) (k p e s m args below meth c H locs lsA hC hR hL hl)
theorem x_dup2 {v w : Value} (hd : decode M.2.1 pc = .ok (.dup2, 1)) (hv : v.category = 1) (hw : w.category = 1) (k : Wx G M R F uc us (pc + 1) ls (v :: w :: v :: w :: st) h) : Wx G M R F uc us pc ls (v :: w :: st) h := fun p e s m args below meth c H locs lsA hC hR hL hl => lv_dup2_11 hC.1 hC.2.1 hd ((xv_cat G v).trans hv) ((xv_cat G w).trans hw) (k p e s m args below meth c H locs lsA hC hR hL hl)
theorem x_if_eq {x : Int32} {off : Int} (tgt : Nat) (hd : decode M.2.1 pc = .ok (.ifCond .eq off, 3)) (ht : (pc : Int) + off = (tgt : Int)) (kt : x = 0 → Wx G M R F uc us tgt ls st h) (kf : ¬ x = 0 → Wx G M R F uc us (pc + 3) ls st h) : Wx G M R F uc us pc ls (.int x :: st) h := fun p e s m args below meth c H locs lsA hC hR hL hl => lv_if_eq hC.1 hC.2.1 hd ht (fun q => kt q p e s m args below meth c H locs lsA hC hR hL hl) (fun q => kf q p e s m args below meth c H locs lsA hC hR hL hl)
theorem x_if_ne {x : Int32} {off : Int} (tgt : Nat) (hd : decode M.2.1 pc = .ok (.ifCond .ne off, 3)) (ht : (pc : Int) + off = (tgt : Int)) (kt : ¬ x = 0 → Wx G M R F uc us tgt ls st h) (kf : x = 0 → Wx G M R F uc us (pc + 3) ls st h) : Wx G M R F uc us pc ls (.int x :: st) h := fun p e s m args below meth c H locs lsA hC hR hL hl => lv_if_ne hC.1 hC.2.1 hd ht (fun q => kt q p e s m args below meth c H locs lsA hC hR hL hl) (fun q => kf q p e s m args below meth c H locs lsA hC hR hL hl)
theorem x_if_lt {x : Int32} {off : Int} (tgt : Nat) (hd : decode M.2.1 pc = .ok (.ifCond .lt off, 3)) (ht : (pc : Int) + off = (tgt : Int)) (kt : x < 0 → Wx G M R F uc us tgt ls st h) (kf : ¬ x < 0 → Wx G M R F uc us (pc + 3) ls st h) : Wx G M R F uc us pc ls (.int x :: st) h := fun p e s m args below meth c H locs lsA hC hR hL hl => lv_if_lt hC.1 hC.2.1 hd ht (fun q => kt q p e s m args below meth c H locs lsA hC hR hL hl) (fun q => kf q p e s m args below meth c H locs lsA hC hR hL hl)
theorem x_if_ge {x : Int32} {off : Int} (tgt : Nat) (hd : decode M.2.1 pc = .ok (.ifCond .ge off, 3)) (ht : (pc : Int) + off = (tgt : Int)) (kt : 0 ≤ x → Wx G M R F uc us tgt ls st h) (kf : ¬ 0 ≤ x → Wx G M R F uc us (pc + 3) ls st h) : Wx G M R F uc us pc ls (.int x :: st) h := fun p e s m args below meth c H locs lsA hC hR hL hl => lv_if_ge hC.1 hC.2.1 hd ht (fun q => kt q p e s m args below meth c H locs lsA hC hR hL hl) (fun q => kf q p e s m args below meth c H locs lsA hC hR hL hl)
theorem x_if_gt {x : Int32} {off : Int} (tgt : Nat) (hd : decode M.2.1 pc = .ok (.ifCond .gt off, 3)) (ht : (pc : Int) + off = (tgt : Int)) (kt : 0 < x → Wx G M R F uc us tgt ls st h) (kf : ¬ 0 < x → Wx G M R F uc us (pc + 3) ls st h) : Wx G M R F uc us pc ls (.int x :: st) h := fun p e s m args below meth c H locs lsA hC hR hL hl => lv_if_gt hC.1 hC.2.1 hd ht (fun q => kt q p e s m args below meth c H locs lsA hC hR hL hl) (fun q => kf q p e s m args below meth c H locs lsA hC hR hL hl)
theorem x_if_le {x : Int32} {off : Int} (tgt : Nat) (hd : decode M.2.1 pc = .ok (.ifCond .le off, 3)) (ht : (pc : Int) + off = (tgt : Int)) (kt : x ≤ 0 → Wx G M R F uc us tgt ls st h) (kf : ¬ x ≤ 0 → Wx G M R F uc us (pc + 3) ls st h) : Wx G M R F uc us pc ls (.int x :: st) h := fun p e s m args below meth c H locs lsA hC hR hL hl => lv_if_le hC.1 hC.2.1 hd ht (fun q => kt q p e s m args below meth c H locs lsA hC hR hL hl) (fun q => kf q p e s m args below meth c H locs lsA hC hR hL hl)
theorem x_icmp_eq {x y : Int32} {off : Int} (tgt : Nat) (hd : decode M.2.1 pc = .ok (.if_icmp .eq off, 3)) (ht : (pc : Int) + off = (tgt : Int)) (kt : x = y → Wx G M R F uc us tgt ls st h) (kf : ¬ x = y → Wx G M R F uc us (pc + 3) ls st h) : Wx G M R F uc us pc ls (.int y :: .int x :: st) h := fun p e s m args below meth c H locs lsA hC hR hL hl => lv_icmp_eq hC.1 hC.2.1 hd ht (fun q => kt q p e s m args below meth c H locs lsA hC hR hL hl) (fun q => kf q p e s m args below meth c H locs lsA hC hR hL hl)
theorem x_icmp_ne {x y : Int32} {off : Int} (tgt : Nat) (hd : decode M.2.1 pc = .ok (.if_icmp .ne off, 3)) (ht : (pc : Int) + off = (tgt : Int)) (kt : ¬ x = y → Wx G M R F uc us tgt ls st h) (kf : x = y → Wx G M R F uc us (pc + 3) ls st h) : Wx G M R F uc us pc ls (.int y :: .int x :: st) h := fun p e s m args below meth c H locs lsA hC hR hL hl => lv_icmp_ne hC.1 hC.2.1 hd ht (fun q => kt q p e s m args below meth c H locs lsA hC hR hL hl) (fun q => kf q p e s m args below meth c H locs lsA hC hR hL hl)
theorem x_icmp_lt {x y : Int32} {off : Int} (tgt : Nat) (hd : decode M.2.1 pc = .ok (.if_icmp .lt off, 3)) (ht : (pc : Int) + off = (tgt : Int)) (kt : x < y → Wx G M R F uc us tgt ls st h) (kf : ¬ x < y → Wx G M R F uc us (pc + 3) ls st h) : Wx G M R F uc us pc ls (.int y :: .int x :: st) h := fun p e s m args below meth c H locs lsA hC hR hL hl => lv_icmp_lt hC.1 hC.2.1 hd ht (fun q => kt q p e s m args below meth c H locs lsA hC hR hL hl) (fun q => kf q p e s m args below meth c H locs lsA hC hR hL hl)
theorem x_icmp_ge {x y : Int32} {off : Int} (tgt : Nat) (hd : decode M.2.1 pc = .ok (.if_icmp .ge off, 3)) (ht : (pc : Int) + off = (tgt : Int)) (kt : y ≤ x → Wx G M R F uc us tgt ls st h) (kf : ¬ y ≤ x → Wx G M R F uc us (pc + 3) ls st h) : Wx G M R F uc us pc ls (.int y :: .int x :: st) h := fun p e s m args below meth c H locs lsA hC hR hL hl => lv_icmp_ge hC.1 hC.2.1 hd ht (fun q => kt q p e s m args below meth c H locs lsA hC hR hL hl) (fun q => kf q p e s m args below meth c H locs lsA hC hR hL hl)
theorem x_icmp_gt {x y : Int32} {off : Int} (tgt : Nat) (hd : decode M.2.1 pc = .ok (.if_icmp .gt off, 3)) (ht : (pc : Int) + off = (tgt : Int)) (kt : y < x → Wx G M R F uc us tgt ls st h) (kf : ¬ y < x → Wx G M R F uc us (pc + 3) ls st h) : Wx G M R F uc us pc ls (.int y :: .int x :: st) h := fun p e s m args below meth c H locs lsA hC hR hL hl => lv_icmp_gt hC.1 hC.2.1 hd ht (fun q => kt q p e s m args below meth c H locs lsA hC hR hL hl) (fun q => kf q p e s m args below meth c H locs lsA hC hR hL hl)
theorem x_icmp_le {x y : Int32} {off : Int} (tgt : Nat) (hd : decode M.2.1 pc = .ok (.if_icmp .le off, 3)) (ht : (pc : Int) + off = (tgt : Int)) (kt : x ≤ y → Wx G M R F uc us tgt ls st h) (kf : ¬ x ≤ y → Wx G M R F uc us (pc + 3) ls st h) : Wx G M R F uc us pc ls (.int y :: .int x :: st) h := fun p e s m args below meth c H locs lsA hC hR hL hl => lv_icmp_le hC.1 hC.2.1 hd ht (fun q => kt q p e s m args below meth c H locs lsA hC hR hL hl) (fun q => kf q p e s m args below meth c H locs lsA hC hR hL hl)
theorem x_goto {off : Int} (tgt : Nat) (hd : decode M.2.1 pc = .ok (.goto off, 3)) (ht : (pc : Int) + off = (tgt : Int)) (k : Wx G M R F uc us tgt ls st h) : Wx G M R F uc us pc ls st h := fun p e s m args below meth c H locs lsA hC hR hL hl => lv_goto hC.1 hC.2.1 hd ht (k p e s m args below meth c H locs lsA hC hR hL hl)
theorem x_tswOut {dflt lo hi : Int} {offs : Array Int} {len : Nat} {x : Int32} (tgt : Nat) (hd : decode M.2.1 pc = .ok (.tableswitch dflt lo hi offs, len)) (hx : x.toInt < lo ∨ hi < x.toInt) (ht : (pc : Int) + dflt = (tgt : Int)) (k : Wx G M R F uc us tgt ls st h) : Wx G M R F uc us pc ls (.int x :: st) h := fun p e s m args below meth c H locs lsA hC hR hL hl => lv_tableOut hC.1 hC.2.1 hd hx ht (k p e s m args below meth c H locs lsA hC hR hL hl)
theorem x_tswIn {dflt lo hi : Int} {offs : Array Int} {len : Nat} {x : Int32} {off : Int} (tgt : Nat) (hd : decode M.2.1 pc = .ok (.tableswitch dflt lo hi offs, len)) (h1 : ¬ x.toInt < lo) (h2 : ¬ hi < x.toInt) (ho : offs[(x.toInt - lo).toNat]? = some off) (ht : (pc : Int) + off = (tgt : Int)) (k : Wx G M R F uc us tgt ls st h) : Wx G M R F uc us pc ls (.int x :: st) h := fun p e s m args below meth c H locs lsA hC hR hL hl => lv_tableIn hC.1 hC.2.1 hd h1 h2 ho ht (k p e s m args below meth c H locs lsA hC hR hL hl)
theorem x_ldc {i : Nat} {v : Int32} (hw : Cond.constant M.1.cls i v ∈ lw_tbl) (hd : decode M.2.1 pc = .ok (.ldc i, 2)) (k : Wx G M R F uc us (pc + 2) ls (.int v :: st) h) : Wx G M R F uc us pc ls st h := fun p e s m args below meth c H locs lsA hC hR hL hl => lv_ldc hC.1 hC.2.1 hC.2.2.2.1 (hC.2.2.2.2.2.2.2.2.2.1.use hw rfl args) hd (k p e s m args below meth c H locs lsA hC hR hL hl)
theorem x_ldcw {i : Nat} {v : Int32} (hw : Cond.constant M.1.cls i v ∈ lw_tbl) (hd : decode M.2.1 pc = .ok (.ldc_w i, 3)) (k : Wx G M R F uc us (pc + 3) ls (.int v :: st) h) : Wx G M R F uc us pc ls st h := fun p e s m args below meth c H locs lsA hC hR hL hl => lv_ldcw hC.1 hC.2.1 hC.2.2.2.1 (hC.2.2.2.2.2.2.2.2.2.1.use hw rfl args) hd (k p e s m args below meth c H locs lsA hC hR hL hl)
theorem x_ldc2 {i : Nat} {v : Int64} (hw : Cond.constantLong M.1.cls i v ∈ lw_tbl) (hd : decode M.2.1 pc = .ok (.ldc2_w i, 3)) (k : Wx G M R F uc us (pc + 3) ls (.long v :: st) h) : Wx G M R F uc us pc ls st h := fun p e s m args below meth c H locs lsA hC hR hL hl => lv_ldc2 hC.1 hC.2.1 hC.2.2.2.1 (hC.2.2.2.2.2.2.2.2.2.1.use hw rfl args) hd (k p e s m args below meth c H locs lsA hC hR hL hl)
/-- a new name for what lies on top -/
theorem x_top {x y : Int32} (e : x = y) (k : Wx G M R F uc us pc ls (.int y :: st) h) : Wx G M R F uc us pc ls (.int x :: st) h := e ▸ k
end XI
end
section
/-! fields, arrays, new things -/
def xCF (ci : Nat) (C : String) (T : u_T) (N : Nat) (ty0 : Nat → FieldType) : Prop := xCl[ci]? = some (C, T, N) ∧ (∀ w ∈ u_ws C T N, w ∈ lw_tbl) ∧ (∀ k, k < N → parseFieldDescriptor (T k).2.2.1 = some (ty0 k)) ∧ ∀ a, a < N → ∀ b, b < N → a ≠ b → (T a).2.1 ≠ (T b).2.1
/-- the field that the entry i of own's pool names: of class ci the field k -/
def xLF (own : String) (i ci k : Nat) (ty : FieldType) (fin : Bool) (dc : String) : Prop := ∃ (C : String) (T : u_T) (N : Nat) (ty0 : Nat → FieldType), xCF ci C T N ty0 ∧ k < N ∧ parseFieldDescriptor (T k).2.2.1 = some ty ∧ (T k).2.2.2 = fin ∧ (T k).1 = dc ∧ (Cond.fieldLink own i (T k).1 (T k).2.1 (T k).2.2.1 ∈ lw_tbl ∨ ∃ host, Cond.fieldLinkNest own i (T k).1 (T k).2.1 (T k).2.2.1 host ∈ lw_tbl)
theorem xlay_ok (C : String) (T : u_T) (k : Nat) : xok (u_lay C T k) = true := by
  unfold u_lay
  split <;> rfl
theorem xlays {s : State} {args : Array Value} {C : String} {T : u_T} {N : Nat} (h : xT s) (hin : ∀ w ∈ u_ws C T N, w ∈ lw_tbl) : ∀ w ∈ u_ws C T N, w.before args s = true := by
  intro w hw
  obtain ⟨k, -, rfl⟩ := List.mem_map.mp hw
  exact h.use (hin _ hw) (xlay_ok C T k) args
section XJ
variable {G : xG} {M : xM} {R : Room} {F : List Frame → Array Value → State → State → Prop} {uc us pc : Nat} {ls : List (Nat × Value)} {st : List Value} {h : xHp}
theorem x_get {i ci k a : Nat} {ty : FieldType} {fin : Bool} {dc : String} {fs : List Value} {v : Value} (hF : xLF M.1.cls i ci k ty fin dc) (hd : decode M.2.1 pc = .ok (.getfield i, 3)) (hc : h.1 a = some (.inr (ci, fs))) (hv : fs[k]? = some v) (kk : Wx G M R F uc us (pc + 3) ls (v :: st) h) : Wx G M R F uc us pc ls (.ref a :: st) h := by
  intro p e s m args below meth c H locs lsA hC hR hL hl
  have kk := kk p e s m args below meth c H locs lsA hC hR hL hl
  obtain ⟨C, T, N, ty0, ⟨hcl, hin, hty, hnm⟩, hk, hp, hfin, hdc, hlk⟩ := hF
  obtain ⟨hx, hb, hml, hown, hr, hlo, hnme, htab, hK, hT, hX, hB, hZ⟩ := hC
  obtain ⟨r, h1, cell, q1, q2, q3, q4⟩ := (hR.2.2.2 a _ hc).2.2
  have hr := Option.some.inj (h1.symm.trans hcl)
  subst hr
  obtain ⟨hS, hfc, kC, hkC, hkind⟩ := hK.1 ci _ hcl
  obtain ⟨cf, kf, fi, f, hi, hsl⟩ := hS k hk
  have hst := (u_facts hfc hkC (u_lays (xlays (args := args) hT hin) (fun w h => h) hk) hi).1
  have hval : cell.slots[f.slot]? = some (xv G v) := by
    rw [hsl, q4 k hk]
    simp [vp_V, hv]
  rcases hlk with hlk | ⟨host, hlk⟩
  · exact W.getf hx hb hown (hT.use hlk rfl args) hi hst q1 (by rw [q3]; exact fun h => by cases h) hval rfl rfl hd kk
  · exact va_Wgetf hx hb hown (hT.use hlk rfl args) hi hst q1 (by rw [q3]; exact fun h => by cases h) hval rfl rfl hd kk
theorem xv_map_set (fs : List Value) (k : Nat) (v : Value) : (fs.set k v).map (xv G) = (fs.map (xv G)).set k (xv G v) := by simp [List.map_set]
theorem x_put {i ci k a : Nat} {ty : FieldType} {dc : String} {fs : List Value} {v : Value} (fs' : List Value) (hF : xLF M.1.cls i ci k ty false dc) (hd : decode M.2.1 pc = .ok (.putfield i, 3)) (hc : h.1 a = some (.inr (ci, fs))) (hk1 : k < fs.length) (hn : narrow ty (xv G v) = xv G v) (hf : fits ty (xv G v) = true) (hfs : fs.set k v = fs') (kk : Wx G M R F uc us (pc + 3) ls st (xup h a (.inr (ci, fs')))) : Wx G M R F uc us pc ls (v :: .ref a :: st) h := by
  intro p e s m args below meth c H locs lsA hC hR hL hl
  have kk := fun H' locs' hR' hL' => kk p e s m args below meth c H' locs' lsA hC hR' hL' hl
  subst hfs
  obtain ⟨C, T, N, ty0, ⟨hcl, hin, hty, hnm⟩, hk, hp, hfin, hdc, hlk⟩ := hF
  obtain ⟨hx, hb, hml, hown, hr, hlo, hnme, htab, hK, hT, hX, hB, hZ⟩ := hC
  have hts := xlays (args := args) hT hin
  have hap := va_apart (own := C) hts (fun w h => h) ty0 hty hnm hK hcl
  obtain ⟨a1, a2, r, h1, cell, q1, q2, q3, q4⟩ := hR.2.2.2 a _ hc
  have hr := Option.some.inj (h1.symm.trans hcl)
  subst hr
  obtain ⟨hS, hfc, kC, hkC, hkind⟩ := hK.1 ci _ hcl
  obtain ⟨cf, kf, fi, f, hi, hsl⟩ := hS k hk
  have hlay := hts _ (u_in_lay hk)
  unfold u_lay at hlay
  rw [if_neg (by rw [hfin]; decide)] at hlay
  have hst := (u_facts hfc hkC (u_lays hts (fun w h => h) hk) hi).1
  have h6 := u_store hfc hkC hkind hlay hi hp hn hf
  have hfin : ∀ H' : Heap, H'[xa G a]? = some (cell.setSlot f.slot (xv G v)) → H'.size = H.size → (∀ q, q ≠ xa G a → H'[q]? = H[q]?) → W p G.1 e R s m args below meth c H' (locs ++ [⟨xa G a, f.slot⟩]) uc us (F below args s) (F0 m (pc + 3) lsA (st.map (xv G))) := by
    intro H' e1 e2 e3
    refine kk H' _ (hR.up hc e2 e3 ?_) (t_lc hL (by rw [xa_pos a1]; show xB G ≤ xB G + a - 1; omega))
    rw [hsl] at e1
    refine ⟨_, hcl, t_OB.to (V := updV (vp_V (fs.map (xv G))) k (xv G v)) ⟨_, e1, q2, q3, t_set q4 hap hk (xv G v)⟩ (fun j _ => ?_)⟩
    rw [vp_updV_set (by simpa using hk1), xv_map_set]
  rcases hlk with hlk | ⟨host, hlk⟩
  · exact W.putK hx hb (f := f) ⟨hown, hT.use hlk rfl args, ⟨_, _, _, hi⟩, hst⟩ (by rw [q2]; exact h6) q1 q3 (by rw [hsl]; exact k2_hasslot (q4 k hk)) rfl rfl hd hfin
  · exact va_WputK hx hb (f := f) hown (hT.use hlk rfl args) hi hst (by rw [q2]; exact h6) q1 q3 (by rw [hsl]; exact k2_hasslot (q4 k hk)) rfl rfl hd hfin
theorem x_putF {i ci k a : Nat} {ty : FieldType} {fs : List Value} {v : Value} (fs' : List Value) (hF : xLF M.1.cls i ci k ty true M.1.cls) (hini : M.1.name = "<init>") (hd : decode M.2.1 pc = .ok (.putfield i, 3)) (hc : h.1 a = some (.inr (ci, fs))) (hk1 : k < fs.length) (hn : narrow ty (xv G v) = xv G v) (hf : fits ty (xv G v) = true) (hfs : fs.set k v = fs') (kk : Wx G M R F uc us (pc + 3) ls st (xup h a (.inr (ci, fs')))) : Wx G M R F uc us pc ls (v :: .ref a :: st) h := by
  intro p e s m args below meth c H locs lsA hC hR hL hl
  have kk := fun H' locs' hR' hL' => kk p e s m args below meth c H' locs' lsA hC hR' hL' hl
  subst hfs
  obtain ⟨C, T, N, ty0, ⟨hcl, hin, hty, hnm⟩, hk, hp, hfin, hdc, hlk⟩ := hF
  obtain ⟨hx, hb, hml, hown, hr, hlo, hnme, htab, hK, hT, hX, hB, hZ⟩ := hC
  have hts := xlays (args := args) hT hin
  have hap := va_apart (own := C) hts (fun w h => h) ty0 hty hnm hK hcl
  obtain ⟨a1, a2, r, h1, cell, q1, q2, q3, q4⟩ := hR.2.2.2 a _ hc
  have hr := Option.some.inj (h1.symm.trans hcl)
  subst hr
  obtain ⟨hS, hfc, kC, hkC, hkind⟩ := hK.1 ci _ hcl
  obtain ⟨cf, kf, fi, f, hi, hsl⟩ := hS k hk
  have hlay := hts _ (u_in_lay hk)
  unfold u_lay at hlay
  rw [if_pos hfin] at hlay
  have hst := (u_facts hfc hkC (u_lays hts (fun w h => h) hk) hi).1
  have hcf : m.cls = cf := by
    obtain ⟨_, _, c', _, _, _, -, -, hf', -, -, -, hown2, -⟩ := Cond.laysFinal_spec hlay
    have e1 : c' = cf := by have := hi.symm.trans hf'; simp at this; exact this.1.symm
    rw [hdc] at hown2
    rw [← e1]; exact Option.some.inj (hown.symm.trans hown2)
  have h6 := u_fits hfc hkC hkind (Or.inr hlay) hi hp hn hf
  rcases hlk with hlk | ⟨host, hlk⟩
  · refine W.putFinK hx hb hown (hT.use hlk rfl args) hi hst hcf (hnme.trans hini) (by rw [q2]; exact h6) q1 q3 (by rw [hsl]; exact k2_hasslot (q4 k hk)) rfl rfl hd fun H' e1 e2 e3 => ?_
    refine kk H' _ (hR.up hc e2 e3 ?_) (t_lc hL (by rw [xa_pos a1]; show xB G ≤ xB G + a - 1; omega))
    rw [hsl] at e1
    refine ⟨_, hcl, t_OB.to (V := updV (vp_V (fs.map (xv G))) k (xv G v)) ⟨_, e1, q2, q3, t_set q4 hap hk (xv G v)⟩ (fun j _ => ?_)⟩
    rw [vp_updV_set (by simpa using hk1), xv_map_set]
  · refine va_Wputf hx hb hown (hT.use hlk rfl args) hi hst (Or.inr ⟨hcf, hnme.trans hini⟩) q1 (by rw [q3]; exact fun h => by cases h) (by rw [hsl]; exact k2_hasslot (q4 k hk)) h6.1 (by rw [q2, q3]; exact h6.2) rfl rfl hd ?_
    have ha : xa G a < H.size := (Array.getElem?_eq_some_iff.mp q1).1
    refine kk _ _ (hR.up hc (by simp) (fun q hq => by simp [Array.getElem?_setIfInBounds, Ne.symm hq]) ?_) (t_lc hL (by rw [xa_pos a1]; show xB G ≤ xB G + a - 1; omega))
    refine ⟨_, hcl, t_OB.to (V := updV (vp_V (fs.map (xv G))) k (xv G v)) ⟨cell.setSlot f.slot (xv G v), by simp [Array.getElem?_setIfInBounds, ha], q2, q3, by rw [hsl]; exact t_set q4 hap hk (xv G v)⟩ (fun j _ => ?_)⟩
    rw [vp_updV_set (by simpa using hk1), xv_map_set]
theorem x_alen {a t n : Nat} {x : (Nat → Int32) ⊕ (Nat → Int64) ⊕ (Nat → Option Nat)} (hc : h.1 a = some (.inl (t, n, x))) (ht : t < 7) (hd : decode M.2.1 pc = .ok (.arraylength, 1)) (kk : Wx G M R F uc us (pc + 1) ls (.int (nI n) :: st) h) : Wx G M R F uc us pc ls (.ref a :: st) h := by
  intro p e s m args below meth c H locs lsA hC hR hL hl
  have kk := kk p e s m args below meth c H locs lsA hC hR hL hl
  obtain ⟨hx, hb, hml, hown, hr, hlo, hnme, htab, hK, hT, hX, hB, hZ⟩ := hC
  have hat := (hR.2.2.2 a _ hc).2.2
  obtain ⟨ty, hty⟩ : ∃ ty, (xTys G)[t]? = some (xA G t, ty) := by
    match t, ht with
    | 0, _ => exact ⟨_, rfl⟩
    | 1, _ => exact ⟨_, rfl⟩
    | 2, _ => exact ⟨_, rfl⟩
    | 3, _ => exact ⟨_, rfl⟩
    | 4, _ => exact ⟨_, rfl⟩
    | 5, _ => exact ⟨_, rfl⟩
    | 6, _ => exact ⟨_, rfl⟩
  obtain f | f | f := x
  · exact W.alen (n := Int32.ofNat n) hx hb hat ((hK.2 t _ hty).1 n (fun j => .int (f j))) (by rw [vp_cell_i, arrV_size] <;> rfl) rfl rfl hd kk
  · exact W.alen (n := Int32.ofNat n) hx hb hat ((hK.2 t _ hty).1 n (fun j => .long (f j))) (by rw [vp_cell_l, arrV_size] <;> rfl) rfl rfl hd kk
  · exact W.alen (n := Int32.ofNat n) hx hb hat ((hK.2 t _ hty).1 n (fun j => va_rf ((f j).map (xa G)))) (by rw [vp_cell_q, arrV_size] <;> rfl) rfl rfl hd kk
theorem x_iald {a n : Nat} {f : Nat → Int32} {i : Int32} (hc : h.1 a = some (.inl (0, n, .inl f))) (hin : vp_in i n) (hd : decode M.2.1 pc = .ok (.iaload, 1)) (kk : Wx G M R F uc us (pc + 1) ls (.int (f i.toNatClampNeg) :: st) h) : Wx G M R F uc us pc ls (.int i :: .ref a :: st) h := by
  intro p e s m args below meth c H locs lsA hC hR hL hl
  have kk := kk p e s m args below meth c H locs lsA hC hR hL hl
  obtain ⟨hx, hb, hml, hown, hr, hlo, hnme, htab, hK, hT, hX, hB, hZ⟩ := hC
  have hlt : i.toNatClampNeg < n := Nat.not_le.mp fun q => hin (Or.inr q)
  exact W.iald (v := .int (f i.toNatClampNeg)) hx hb (hR.2.2.2 a _ hc).2.2 ((hK.2 0 _ rfl).1 n (fun j => .int (f j))) (fun q => by cases q) (by show ¬ (i < 0 ∨ (arrV _ _ _).slots.size ≤ _); rw [arrV_size]; exact hin) (by show (arrV _ _ _).slots[_]? = _; rw [arrV_read _ _ hlt]) rfl rfl hd kk
theorem x_bald {a n : Nat} {f : Nat → Int32} {i : Int32} (hc : h.1 a = some (.inl (2, n, .inl f))) (hin : vp_in i n) (hd : decode M.2.1 pc = .ok (.baload, 1)) (kk : Wx G M R F uc us (pc + 1) ls (.int (f i.toNatClampNeg) :: st) h) : Wx G M R F uc us pc ls (.int i :: .ref a :: st) h := by
  intro p e s m args below meth c H locs lsA hC hR hL hl
  have kk := kk p e s m args below meth c H locs lsA hC hR hL hl
  obtain ⟨hx, hb, hml, hown, hr, hlo, hnme, htab, hK, hT, hX, hB, hZ⟩ := hC
  have hlt : i.toNatClampNeg < n := Nat.not_le.mp fun q => hin (Or.inr q)
  exact W.bald (v := .int (f i.toNatClampNeg)) hx hb (hR.2.2.2 a _ hc).2.2 ((hK.2 2 _ rfl).1 n (fun j => .int (f j))) (fun q => by cases q) (by show ¬ (i < 0 ∨ (arrV _ _ _).slots.size ≤ _); rw [arrV_size]; exact hin) (by show (arrV _ _ _).slots[_]? = _; rw [arrV_read _ _ hlt]) rfl rfl hd kk
theorem x_zald {a n : Nat} {f : Nat → Int32} {i : Int32} (hc : h.1 a = some (.inl (3, n, .inl f))) (hin : vp_in i n) (hd : decode M.2.1 pc = .ok (.baload, 1)) (kk : Wx G M R F uc us (pc + 1) ls (.int (f i.toNatClampNeg) :: st) h) : Wx G M R F uc us pc ls (.int i :: .ref a :: st) h := by
  intro p e s m args below meth c H locs lsA hC hR hL hl
  have kk := kk p e s m args below meth c H locs lsA hC hR hL hl
  obtain ⟨hx, hb, hml, hown, hr, hlo, hnme, htab, hK, hT, hX, hB, hZ⟩ := hC
  have hlt : i.toNatClampNeg < n := Nat.not_le.mp fun q => hin (Or.inr q)
  exact W.zald (v := .int (f i.toNatClampNeg)) hx hb (hR.2.2.2 a _ hc).2.2 ((hK.2 3 _ rfl).1 n (fun j => .int (f j))) (fun q => by cases q) (by show ¬ (i < 0 ∨ (arrV _ _ _).slots.size ≤ _); rw [arrV_size]; exact hin) (by show (arrV _ _ _).slots[_]? = _; rw [arrV_read _ _ hlt]) rfl rfl hd kk
theorem x_lald {a n : Nat} {f : Nat → Int64} {i : Int32} (hc : h.1 a = some (.inl (1, n, .inr (.inl f)))) (hin : vp_in i n) (hd : decode M.2.1 pc = .ok (.laload, 1)) (kk : Wx G M R F uc us (pc + 1) ls (.long (f i.toNatClampNeg) :: st) h) : Wx G M R F uc us pc ls (.int i :: .ref a :: st) h := by
  intro p e s m args below meth c H locs lsA hC hR hL hl
  have kk := kk p e s m args below meth c H locs lsA hC hR hL hl
  obtain ⟨hx, hb, hml, hown, hr, hlo, hnme, htab, hK, hT, hX, hB, hZ⟩ := hC
  have hlt : i.toNatClampNeg < n := Nat.not_le.mp fun q => hin (Or.inr q)
  exact W.lald (v := .long (f i.toNatClampNeg)) hx hb (hR.2.2.2 a _ hc).2.2 ((hK.2 1 _ rfl).1 n (fun j => .long (f j))) (fun q => by cases q) (by show ¬ (i < 0 ∨ (arrV _ _ _).slots.size ≤ _); rw [arrV_size]; exact hin) (by show (arrV _ _ _).slots[_]? = _; rw [arrV_read _ _ hlt]) rfl rfl hd kk
theorem x_aald {a t n b : Nat} {C : String} {f : Nat → Option Nat} {i : Int32} (hc : h.1 a = some (.inl (t, n, .inr (.inr f)))) (ht : (xTys G)[t]? = some (xA G t, .object C)) (hin : vp_in i n) (hb9 : f i.toNatClampNeg = some b) (hd : decode M.2.1 pc = .ok (.aaload, 1)) (kk : Wx G M R F uc us (pc + 1) ls (.ref b :: st) h) : Wx G M R F uc us pc ls (.int i :: .ref a :: st) h := by
  intro p e s m args below meth c H locs lsA hC hR hL hl
  have kk := kk p e s m args below meth c H locs lsA hC hR hL hl
  obtain ⟨hx, hb, hml, hown, hr, hlo, hnme, htab, hK, hT, hX, hB, hZ⟩ := hC
  have hlt : i.toNatClampNeg < n := Nat.not_le.mp fun q => hin (Or.inr q)
  refine W.aald (v := .ref (xa G b)) (ty := .object C) hx hb (hR.2.2.2 a _ hc).2.2 ((hK.2 t _ ht).1 n (fun j => va_rf ((f j).map (xa G)))) rfl (fun q => by cases q) (by show ¬ (i < 0 ∨ (arrV _ _ _).slots.size ≤ _); rw [arrV_size]; exact hin) ?_ rfl rfl hd kk
  show (arrV _ _ _).slots[_]? = _
  rw [arrV_read _ _ hlt]
  show some (va_rf (Option.map (xa G) (f i.toNatClampNeg))) = _
  rw [hb9]
  rfl
theorem x_iast {a n : Nat} {f : Nat → Int32} {i x : Int32} (hc : h.1 a = some (.inl (0, n, .inl f))) (hin : vp_in i n) (hd : decode M.2.1 pc = .ok (.iastore, 1)) (kk : Wx G M R F uc us (pc + 1) ls st (xup h a (.inl (0, n, .inl (upd f i.toNatClampNeg x))))) : Wx G M R F uc us pc ls (.int x :: .int i :: .ref a :: st) h := by
  intro p e s m args below meth c H locs lsA hC hR hL hl
  have kk := fun H' locs' hR' hL' => kk p e s m args below meth c H' locs' lsA hC hR' hL' hl
  obtain ⟨hx, hb, hml, hown, hr, hlo, hnme, htab, hK, hT, hX, hB, hZ⟩ := hC
  obtain ⟨a1, a2, hat⟩ := hR.2.2.2 a _ hc
  refine W.iast hx hb hat ((hK.2 0 _ rfl).1 n (fun j => .int (f j))) (fun q => by cases q) (by show ¬ (i < 0 ∨ (arrV _ _ _).slots.size ≤ _); rw [arrV_size]; exact hin) rfl rfl hd fun H1 e1 z oq => ?_
  refine kk H1 _ (hR.up hc z oq ?_) (t_lc hL (by rw [xa_pos a1]; show xB G ≤ xB G + a - 1; omega))
  show H1[xa G a]? = some (vp_cell _ _)
  rw [e1]
  show some ((vp_cell _ _).setSlot _ _) = _
  rw [vp_cell_i, vp_cell_i, arrV_store]
  congr 2
  funext q
  by_cases hq : q = i.toNatClampNeg
  · subst hq
    simp [updV, upd]
  · simp [updV, upd, hq]
theorem x_bast {a n : Nat} {f : Nat → Int32} {i x : Int32} (hc : h.1 a = some (.inl (2, n, .inl f))) (hin : vp_in i n) (hd : decode M.2.1 pc = .ok (.bastore, 1)) (kk : Wx G M R F uc us (pc + 1) ls st (xup h a (.inl (2, n, .inl (upd f i.toNatClampNeg x.toInt8.toInt32))))) : Wx G M R F uc us pc ls (.int x :: .int i :: .ref a :: st) h := by
  intro p e s m args below meth c H locs lsA hC hR hL hl
  have kk := fun H' locs' hR' hL' => kk p e s m args below meth c H' locs' lsA hC hR' hL' hl
  obtain ⟨hx, hb, hml, hown, hr, hlo, hnme, htab, hK, hT, hX, hB, hZ⟩ := hC
  obtain ⟨a1, a2, hat⟩ := hR.2.2.2 a _ hc
  refine W.bast hx hb hat ((hK.2 2 _ rfl).1 n (fun j => .int (f j))) (fun q => by cases q) (by show ¬ (i < 0 ∨ (arrV _ _ _).slots.size ≤ _); rw [arrV_size]; exact hin) rfl rfl hd fun H1 e1 z oq => ?_
  refine kk H1 _ (hR.up hc z oq ?_) (t_lc hL (by rw [xa_pos a1]; show xB G ≤ xB G + a - 1; omega))
  show H1[xa G a]? = some (vp_cell _ _)
  rw [e1]
  show some ((vp_cell _ _).setSlot _ _) = _
  rw [vp_cell_i, vp_cell_i, arrV_store]
  congr 2
  funext q
  by_cases hq : q = i.toNatClampNeg
  · subst hq
    simp [updV, upd, narrow_byte]
  · simp [updV, upd, hq]
theorem x_zast {a n : Nat} {f : Nat → Int32} {i x : Int32} (hc : h.1 a = some (.inl (3, n, .inl f))) (hin : vp_in i n) (h01 : x = 0 ∨ x = 1) (hd : decode M.2.1 pc = .ok (.bastore, 1)) (kk : Wx G M R F uc us (pc + 1) ls st (xup h a (.inl (3, n, .inl (upd f i.toNatClampNeg x))))) : Wx G M R F uc us pc ls (.int x :: .int i :: .ref a :: st) h := by
  intro p e s m args below meth c H locs lsA hC hR hL hl
  have kk := fun H' locs' hR' hL' => kk p e s m args below meth c H' locs' lsA hC hR' hL' hl
  obtain ⟨hx, hb, hml, hown, hr, hlo, hnme, htab, hK, hT, hX, hB, hZ⟩ := hC
  obtain ⟨a1, a2, hat⟩ := hR.2.2.2 a _ hc
  have hnar : narrow .boolean (.int x) = .int x := by rcases h01 with rfl | rfl <;> rfl
  refine W.zast hx hb hat ((hK.2 3 _ rfl).1 n (fun j => .int (f j))) (fun q => by cases q) (by show ¬ (i < 0 ∨ (arrV _ _ _).slots.size ≤ _); rw [arrV_size]; exact hin) rfl rfl hd fun H1 e1 z oq => ?_
  refine kk H1 _ (hR.up hc z oq ?_) (t_lc hL (by rw [xa_pos a1]; show xB G ≤ xB G + a - 1; omega))
  show H1[xa G a]? = some (vp_cell _ _)
  rw [e1, hnar]
  show some ((vp_cell _ _).setSlot _ _) = _
  rw [vp_cell_i, vp_cell_i, arrV_store]
  congr 2
  funext q
  by_cases hq : q = i.toNatClampNeg
  · subst hq
    simp [updV, upd]
  · simp [updV, upd, hq]
theorem x_last {a n : Nat} {f : Nat → Int64} {i : Int32} {x : Int64} (hc : h.1 a = some (.inl (1, n, .inr (.inl f)))) (hin : vp_in i n) (hd : decode M.2.1 pc = .ok (.lastore, 1)) (kk : Wx G M R F uc us (pc + 1) ls st (xup h a (.inl (1, n, .inr (.inl (vp_updL f i.toNatClampNeg x)))))) : Wx G M R F uc us pc ls (.long x :: .int i :: .ref a :: st) h := by
  intro p e s m args below meth c H locs lsA hC hR hL hl
  have kk := fun H' locs' hR' hL' => kk p e s m args below meth c H' locs' lsA hC hR' hL' hl
  obtain ⟨hx, hb, hml, hown, hr, hlo, hnme, htab, hK, hT, hX, hB, hZ⟩ := hC
  obtain ⟨a1, a2, hat⟩ := hR.2.2.2 a _ hc
  refine W.last hx hb hat ((hK.2 1 _ rfl).1 n (fun j => .long (f j))) (fun q => by cases q) (by show ¬ (i < 0 ∨ (arrV _ _ _).slots.size ≤ _); rw [arrV_size]; exact hin) rfl rfl hd fun H1 e1 z oq => ?_
  refine kk H1 _ (hR.up hc z oq ?_) (t_lc hL (by rw [xa_pos a1]; show xB G ≤ xB G + a - 1; omega))
  show H1[xa G a]? = some (vp_cell _ _)
  rw [e1]
  show some ((vp_cell _ _).setSlot _ _) = _
  rw [vp_cell_l, vp_cell_l, arrV_store]
  congr 2
  funext q
  by_cases hq : q = i.toNatClampNeg
  · subst hq
    simp [updV, vp_updL]
  · simp [updV, vp_updL, hq]
theorem x_aast {a t n b ci : Nat} {r : vw_C} {vs : List Value} {f : Nat → Option Nat} {i : Int32} (hc : h.1 a = some (.inl (t, n, .inr (.inr f)))) (ht : (xTys G)[t]? = some (xA G t, .object r.1)) (hv : h.1 b = some (.inr (ci, vs))) (hcl : xCl[ci]? = some r) (hin : vp_in i n) (hd : decode M.2.1 pc = .ok (.aastore, 1)) (kk : Wx G M R F uc us (pc + 1) ls st (xup h a (.inl (t, n, .inr (.inr (va_up f i.toNatClampNeg (some b))))))) : Wx G M R F uc us pc ls (.ref b :: .int i :: .ref a :: st) h := by
  intro p e s m args below meth c H locs lsA hC hR hL hl
  have kk := fun H' locs' hR' hL' => kk p e s m args below meth c H' locs' lsA hC hR' hL' hl
  obtain ⟨hx, hb, hml, hown, hr, hlo, hnme, htab, hK, hT, hX, hB, hZ⟩ := hC
  obtain ⟨a1, a2, hat⟩ := hR.2.2.2 a _ hc
  have hlt : i.toNatClampNeg < n := Nat.not_le.mp fun q => hin (Or.inr q)
  have h0 : ¬ i < 0 := fun q => hin (Or.inl q)
  obtain ⟨r', hr', cellV, g1, g2, g3, -⟩ := (hR.2.2.2 b _ hv).2.2
  have hcls := (hK.1 ci r hcl).2
  obtain ⟨kA, comp, k1, k2, k3, -⟩ := (hK.2 t _ ht).2
  have hcomp : comp = (xD G).1 ci := Option.some.inj (k3.symm.trans hcls.1)
  subst hcomp
  obtain ⟨kC, hkC, -⟩ := hcls.2
  refine W.aast hx hb hat (fun q h => by cases h) (fun h => by cases h) k1 k2 rfl hkC ⟨h0, by show _ < (arrV _ _ _).slots.size; rw [arrV_size]; exact hlt⟩ g1 (fun q h => by rw [g3] at h; cases h) (by rw [g2]; exact hkC) (by rw [g2]; exact va_assign hcls) rfl rfl hd fun H1 e1 z oq => ?_
  refine kk H1 _ (hR.up hc z oq ?_) (t_lc hL (by rw [xa_pos a1]; show xB G ≤ xB G + a - 1; omega))
  show H1[xa G a]? = some (vp_cell _ _)
  rw [e1]
  show some ((vp_cell _ _).setSlot _ _) = _
  rw [vp_cell_q, vp_cell_q, arrV_store]
  congr 2
  funext q
  by_cases hq : q = i.toNatClampNeg
  · subst hq
    simp [updV, va_up, va_rf]
  · simp [updV, va_up, hq]
theorem x_newa {at9 : ArrayType} {t N : Nat} {n : Int32} {ty : FieldType} (c0 : (Nat → Int32) ⊕ (Nat → Int64) ⊕ (Nat → Option Nat)) (hty : newarray.typeOf at9 = ty) (hpr : ∀ C, ty ≠ .object C) (ht : (xTys G)[t]? = some (xA G t, ty)) (hw : Cond.arrayClass (newarray.typeOf at9) ∈ lw_tbl)
    (h0 : ∀ cA : ClassId, (match xE G (.inl (t, N, c0)) with | .inl q => vp_cell cA q.2 | .inr _ => vp_cell cA (0, .inl (fun _ => 0))) = arrV cA N (fun _ => defaultValue ty)) (hn : ¬ n < 0) (hN : n.toNatClampNeg = N) (hbytes : N * componentBytes ty ≤ 536870912) (hcells : uc + 1 ≤ R.cells) (hslots : us + N ≤ R.slots) (hd : decode M.2.1 pc = .ok (.newarray at9, 2))
    (kk : Wx G M R F (uc + 1) (us + N) (pc + 2) ls (.ref h.2 :: st) (xnw h (.inl (t, N, c0)))) : Wx G M R F uc us pc ls (.int n :: st) h := by
  intro p e s m args below meth c H locs lsA hC hR hL hl
  have kk := fun H' locs' hR' hL' => kk p e s m args below meth c H' locs' lsA hC hR' hL' hl
  obtain ⟨hx, hb, hml, hown, hr, hlo, hnme, htab, hK, hT, hX, hB, hZ⟩ := hC
  subst hty
  refine va_newaK hx hb (hT.use hw rfl args) rfl hd rfl hn hN hbytes hcells hslots rfl fun H1 cA e1 z1 o1 hAr hNm => ?_
  have hcA : cA = xA G t := by
    have h9 := (hK.2 t _ ht).2
    have h8 : s.vm.findClass ("[" ++ (newarray.typeOf at9).toString) = some (xA G t) := by
      cases at9 <;> exact h9
    exact Option.some.inj (hNm.symm.trans h8)
  subst hcA
  have e2 := hR.new_at
  show W p G.1 e R s m args below meth c H1 locs (uc + 1) (us + N) (F below args s) (F0 m (pc + 2) lsA (.ref H.size :: st.map (xv G)))
  rw [← e2]
  refine kk H1 locs (hR.nw z1 o1 ?_) hL
  have h3 := h0 (xA G t)
  obtain f | f | f := c0
  · show H1[H.size]? = some (vp_cell _ _)
    rw [e1]; exact congrArg some h3.symm
  · show H1[H.size]? = some (vp_cell _ _)
    rw [e1]; exact congrArg some h3.symm
  · show H1[H.size]? = some (vp_cell _ _)
    rw [e1]; exact congrArg some h3.symm
theorem x_newi {N : Nat} {n : Int32} (hw : Cond.arrayClass .int ∈ lw_tbl) (hn : ¬ n < 0) (hN : n.toNatClampNeg = N) (hbytes : N * 4 ≤ 536870912) (hcells : uc + 1 ≤ R.cells) (hslots : us + N ≤ R.slots) (hd : decode M.2.1 pc = .ok (.newarray .int, 2))
    (kk : Wx G M R F (uc + 1) (us + N) (pc + 2) ls (.ref h.2 :: st) (xnw h (.inl (0, N, .inl (fun _ => 0))))) : Wx G M R F uc us pc ls (.int n :: st) h :=
  x_newa (at9 := .int) (t := 0) (ty := .int) (.inl (fun _ => 0)) rfl (fun C q => by cases q) rfl hw (fun cA => rfl) hn hN hbytes hcells hslots hd kk
theorem x_newl {N : Nat} {n : Int32} (hw : Cond.arrayClass .long ∈ lw_tbl) (hn : ¬ n < 0) (hN : n.toNatClampNeg = N) (hbytes : N * 8 ≤ 536870912) (hcells : uc + 1 ≤ R.cells) (hslots : us + N ≤ R.slots) (hd : decode M.2.1 pc = .ok (.newarray .long, 2))
    (kk : Wx G M R F (uc + 1) (us + N) (pc + 2) ls (.ref h.2 :: st) (xnw h (.inl (1, N, .inr (.inl (fun _ => 0)))))) : Wx G M R F uc us pc ls (.int n :: st) h :=
  x_newa (at9 := .long) (t := 1) (ty := .long) (.inr (.inl (fun _ => 0))) rfl (fun C q => by cases q) rfl hw (fun cA => rfl) hn hN hbytes hcells hslots hd kk
theorem x_newb {N : Nat} {n : Int32} (hw : Cond.arrayClass .byte ∈ lw_tbl) (hn : ¬ n < 0) (hN : n.toNatClampNeg = N) (hbytes : N * 1 ≤ 536870912) (hcells : uc + 1 ≤ R.cells) (hslots : us + N ≤ R.slots) (hd : decode M.2.1 pc = .ok (.newarray .byte, 2))
    (kk : Wx G M R F (uc + 1) (us + N) (pc + 2) ls (.ref h.2 :: st) (xnw h (.inl (2, N, .inl (fun _ => 0))))) : Wx G M R F uc us pc ls (.int n :: st) h :=
  x_newa (at9 := .byte) (t := 2) (ty := .byte) (.inl (fun _ => 0)) rfl (fun C q => by cases q) rfl hw (fun cA => rfl) hn hN hbytes hcells hslots hd kk
theorem x_newz {N : Nat} {n : Int32} (hw : Cond.arrayClass .boolean ∈ lw_tbl) (hn : ¬ n < 0) (hN : n.toNatClampNeg = N) (hbytes : N * 1 ≤ 536870912) (hcells : uc + 1 ≤ R.cells) (hslots : us + N ≤ R.slots) (hd : decode M.2.1 pc = .ok (.newarray .boolean, 2))
    (kk : Wx G M R F (uc + 1) (us + N) (pc + 2) ls (.ref h.2 :: st) (xnw h (.inl (3, N, .inl (fun _ => 0))))) : Wx G M R F uc us pc ls (.int n :: st) h :=
  x_newa (at9 := .boolean) (t := 3) (ty := .boolean) (.inl (fun _ => 0)) rfl (fun C q => by cases q) rfl hw (fun cA => rfl) hn hN hbytes hcells hslots hd kk
theorem x_newq {i t N : Nat} {C : String} {n : Int32} (ht : (xTys G)[t]? = some (xA G t, .object C)) (hw : Cond.classLink M.1.cls i C ∈ lw_tbl) (hw2 : Cond.arrayOver (.object C) ∈ lw_tbl) (hn : ¬ n < 0) (hN : n.toNatClampNeg = N) (hbytes : N * 4 ≤ 536870912) (hcells : uc + 1 ≤ R.cells) (hslots : us + N ≤ R.slots) (hd : decode M.2.1 pc = .ok (.anewarray i, 3))
    (kk : Wx G M R F (uc + 1) (us + N) (pc + 3) ls (.ref h.2 :: st) (xnw h (.inl (t, N, .inr (.inr (fun _ => none)))))) : Wx G M R F uc us pc ls (.int n :: st) h := by
  intro p e s m args below meth c H locs lsA hC hR hL hl
  have kk := fun H' locs' hR' hL' => kk p e s m args below meth c H' locs' lsA hC hR' hL' hl
  obtain ⟨hx, hb, hml, hown, hr, hlo, hnme, htab, hK, hT, hX, hB, hZ⟩ := hC
  subst hN
  refine W.anew hx hb hown (hT.use hw rfl args) (hT.use hw2 rfl args) rfl hd rfl hn hbytes hcells hslots fun cA kA comp f1 f2 f3 f4 => ?_
  obtain ⟨kA', comp', g1, g2, g3, g4⟩ := (hK.2 t _ ht).2
  have hcA : cA = xA G t := Option.some.inj (f1.symm.trans g4)
  subst hcA
  have e2 := hR.new_at
  show W p G.1 e R s m args below meth c _ locs (uc + 1) (us + n.toNatClampNeg) (F below args s) (F0 m (pc + 3) lsA (.ref H.size :: st.map (xv G)))
  rw [← e2]
  refine kk _ locs (hR.nw (by rw [Array.size_push]) (fun q hq => by rw [Array.getElem?_push, if_neg (Nat.ne_of_lt hq)]) ?_) hL
  show _ = some (vp_cell _ _)
  rw [Array.getElem?_push_size, vp_cell_q, arrV_new]
  rfl
theorem xv_def (ty : FieldType) : xv G (defaultValue ty) = defaultValue ty := by cases ty <;> rfl
theorem x_new {i ci N : Nat} {C : String} {T : u_T} {ty0 : Nat → FieldType} (fs : List Value) (hF : xCF ci C T N ty0) (hw : Cond.classLink M.1.cls i C ∈ lw_tbl) (hw2 : Cond.instantiable C N ∈ lw_tbl) (hw3 : Cond.initialized C ∈ lw_tbl) (hfs : (List.range N).map (fun j => defaultValue (ty0 j)) = fs) (hcells : uc + 1 ≤ R.cells) (hslots : us + N ≤ R.slots) (hd : decode M.2.1 pc = .ok (.new i, 3))
    (kk : Wx G M R F (uc + 1) (us + N) (pc + 3) ls (.ref h.2 :: st) (xnw h (.inr (ci, fs)))) : Wx G M R F uc us pc ls st h := by
  intro p e s m args below meth c H locs lsA hC hR hL hl
  have kk := fun H' locs' hR' hL' => kk p e s m args below meth c H' locs' lsA hC hR' hL' hl
  obtain ⟨hcl, hin, hty, hnm⟩ := hF
  obtain ⟨hx, hb, hml, hown, hr, hlo, hnme, htab, hK, hT, hX, hB, hZ⟩ := hC
  have hKn := hK.1 ci _ hcl
  refine W.newcK hx hb hown (hT.use hw rfl args) (hT.use hw2 rfl args) (hT.use hw3 rfl args) rfl hd hcells hslots hKn.2.1 rfl fun H1 kC hkC e1 z1 o1 => ?_
  have e2 := hR.new_at
  show W p G.1 e R s m args below meth c H1 locs (uc + 1) (us + N) (F below args s) (F0 m (pc + 3) lsA (.ref H.size :: st.map (xv G)))
  rw [← e2]
  refine kk H1 locs (hR.nw z1 o1 ⟨_, hcl, (u_born ty0 (xlays (args := args) hT hin) (fun w h => h) hKn hkC e1 hty).to (fun k hk => ?_)⟩) hL
  subst hfs
  have hk' : k < N := hk
  simp [vp_V, hk', xv_def]
/-- the script -/
theorem x_sld {i : Int32} (hin : vp_in i (xLn G)) (hd : decode M.2.1 pc = .ok (.iaload, 1)) (kk : Wx G M R F uc us (pc + 1) ls (.int (xS G i.toNatClampNeg) :: st) h) : Wx G M R F uc us pc ls (.int i :: .ref 0 :: st) h := by
  intro p e s m args below meth c H locs lsA hC hR hL hl
  have kk := kk p e s m args below meth c H locs lsA hC hR hL hl
  obtain ⟨hx, hb, hml, hown, hr, hlo, hnme, htab, hK, hT, hX, hB, hZ⟩ := hC
  obtain ⟨scr, h1, h2, h3, h4, h5⟩ := hX
  have hlt : i.toNatClampNeg < xLn G := Nat.not_le.mp fun q => hin (Or.inr q)
  exact W.iald (v := .int (xS G i.toNatClampNeg)) hx hb (by show H[xb G]? = _; rw [hR.2.2.1 _ hB.1]; exact h1) h2 h3 (by rw [h4]; exact hin) (h5 _ hlt) rfl rfl hd kk
theorem x_slen (hd : decode M.2.1 pc = .ok (.arraylength, 1)) (kk : Wx G M R F uc us (pc + 1) ls (.int (nI (xLn G)) :: st) h) : Wx G M R F uc us pc ls (.ref 0 :: st) h := by
  intro p e s m args below meth c H locs lsA hC hR hL hl
  have kk := kk p e s m args below meth c H locs lsA hC hR hL hl
  obtain ⟨hx, hb, hml, hown, hr, hlo, hnme, htab, hK, hT, hX, hB, hZ⟩ := hC
  obtain ⟨scr, h1, h2, h3, h4, h5⟩ := hX
  exact W.alen (n := Int32.ofNat (xLn G)) hx hb (by show H[xb G]? = _; rw [hR.2.2.1 _ hB.1]; exact h1) h2 (by rw [h4] <;> rfl) rfl rfl hd kk
theorem x_widen {k n : Nat} (h1 : uc ≤ k) (h2 : us ≤ n) (kk : Wx G M R F k n pc ls st h) : Wx G M R F uc us pc ls st h := fun p e s m args below meth c H locs lsA hC hR hL hl => W.widen h1 h2 (kk p e s m args below meth c H locs lsA hC hR hL hl)
/-- Object.<init> -/
theorem x_objInit {i a : Nat} (hw : Cond.methodLink M.1.cls i objectInit ∈ lw_tbl) (hw2 : Cond.instanceMethod objectInit ∈ lw_tbl) (hw3 : Cond.code objectInit ⟨#[0xb1]⟩ 1 none ∈ lw_tbl) (hd : decode M.2.1 pc = .ok (.invokespecial i, 3)) (hf : 1 ≤ R.frames) (hlc : (st.map fun v => v.category).sum + 12 ≤ R.locals) (kk : Wx G M R F uc us (pc + 3) ls st h) : Wx G M R F uc us pc ls (.ref a :: st) h := by
  intro p e s m args below meth c H locs lsA hC hR hL hl
  have kk := kk p e s m args below meth c H locs lsA hC hR hL hl
  obtain ⟨hx, hb, hml, hown, hr, hlo, hnme, htab, hK, hT, hX, hB, hZ⟩ := hC
  refine W.objInit hx hb hown (hT.use hw rfl args) (hT.use hw2 rfl args) (hT.use hw3 rfl args) rfl (by rw [hml]; exact hl.1) rfl hd hf ?_ kk
  have e9 : ((st.map (xv G)).map fun v => v.category) = st.map fun v => v.category := by
    rw [List.map_map]
    exact List.map_congr_left (fun v _ => xv_cat G v)
  show 2 * 0 + ((st.map (xv G)).map fun v => v.category).sum + 12 ≤ R.locals
  rw [e9]; omega
/-- Math.max -/
theorem x_max {i : Nat} {x y : Int32} (hw : Cond.methodLink M.1.cls i Lib.Math.max.name ∈ lw_tbl) (hw2 : Cond.static Lib.Math.max.name ∈ lw_tbl) (hw3 : Cond.initialized "java/lang/Math" ∈ lw_tbl) (hw4 : Cond.code Lib.Math.max.name Lib.Math.max.code 2 (some .int) ∈ lw_tbl) (hd : decode M.2.1 pc = .ok (.invokestatic i, 3)) (hf : 1 ≤ R.frames) (hlc : (st.map fun v => v.category).sum + 13 ≤ R.locals) (hcs : uc ≤ R.cells ∧ us ≤ R.slots) (kk : Wx G M R F uc us (pc + 3) ls (.int (if x < y then y else x) :: st) h) : Wx G M R F uc us pc ls (.int y :: .int x :: st) h := by
  intro p e s m args below meth c H locs lsA hC hR hL hl
  have kk := kk p e s m args below meth c H locs lsA hC hR hL hl
  obtain ⟨hx, hb, hml, hown, hr, hlo, hnme, htab, hK, hT, hX, hB, hZ⟩ := hC
  refine va_mmax hx hb (hml.trans hl.1.symm) hown (hT.use hw rfl args) (hT.use hw2 rfl args) (hT.use hw3 rfl args) (hT.use hw4 rfl args) hf ?_ hcs.1 hcs.2 hd kk
  have e9 : ((st.map (xv G)).map fun v => v.category) = st.map fun v => v.category := by
    rw [List.map_map]
    exact List.map_congr_left (fun v _ => xv_cat G v)
  rw [e9]; exact hlc
end XJ
end
section
/-! contracts -/
def xQ (G : xG) (Q : Option Value ⊕ Nat → xHp → Prop) (mc ms : Nat) (st : State) (o : Outcome) (t : State) : Prop :=
  ∃ (L : List Loc) (h' : xHp), st.WarmedH t.vm ∧ st.sameButNew ({ t with vm := st.vm } : State) L mc ms ∧ (∀ z ∈ L, xB G ≤ z.base) ∧ xR G h' t.heap ∧ ((∃ v : Option Value, o = .returned (v.map (xv G)) ∧ Q (.inl v) h') ∨ ∃ (q ci : Nat) (fs : List Value), o = .threw (xa G q) ∧ h'.1 q = some (.inr (ci, fs)) ∧ Q (.inr q) h')
def xF (G : xG) (Q : Option Value ⊕ Nat → xHp → Prop) (mc ms : Nat) : List Frame → Array Value → State → State → Prop := fun below _ s t => ∃ o, t.status = .running ∧ Ended t below o ∧ xQ G Q mc ms s o t
def xRm (d mc ms : Nat) : Room := { frames := d, cells := mc, slots := ms, locals := 100 * d }
def xCW (M : xM) : Cond := match M.2.2.2.2 with
  | [] => .code M.1 M.2.1 M.2.2.1 M.2.2.2.1
  | hh => .codeWith M.1 M.2.1 M.2.2.1 M.2.2.2.1 hh
def xP (G : xG) (As : List Value) (h : xHp) : Array Value → State → Prop := fun v U => v = (As.map (xv G)).toArray ∧ xR G h U.heap ∧ xK G U
/-- the method M, called with As in the heap h, ends with Q (.inl answer) heap or Q (.inr thrown) heap -/
def MX (G : xG) (M : xM) (d mc ms : Nat) (As : List Value) (h : xHp) (Q : Option Value ⊕ Nat → xHp → Prop) : Prop :=
  MetFree G.1 M.1 (headSpec [xCW M] (xRm d mc ms)) (xP G As h) (fun _ _ _ _ _ => True) (fun _ st o t => xQ G Q mc ms st o t)
theorem xargs (G : xG) : ∀ (As : List Value) (i : Nat), lv_args i (As.map (xv G)) = xL G (lv_args i As)
  | [], _ => rfl
  | v :: r, i => by
    show (i, xv G v) :: lv_args (if (xv G v).category = 2 then i + 2 else i + 1) (r.map (xv G)) = (i, xv G v) :: xL G (lv_args (if v.category = 2 then i + 2 else i + 1) r)
    rw [xv_cat, xargs G r]
theorem xsl_len (G : xG) : ∀ As : List Value, (lg_sl (As.map (xv G))).length = (lg_sl As).length
  | [] => rfl
  | v :: r => by
    have ih := xsl_len G r
    simp only [lg_sl, List.map_cons, List.flatMap_cons, List.length_append, xv_cat] at ih ⊢
    rw [ih]
    congr 1
    split <;> rfl
theorem xcat_sum (G : xG) (st : List Value) : ((st.map (xv G)).map fun v => v.category).sum = (st.map fun v => v.category).sum := by
  rw [List.map_map]
  congr 1
  exact List.map_congr_left (fun v _ => xv_cat G v)
theorem MX.of {G : xG} {M : xM} {d mc ms : Nat} {As : List Value} {h : xHp} {Q : Option Value ⊕ Nat → xHp → Prop} (ls0 : List (Nat × Value)) (hy : plainName M.1.cls = true) (hh : M.2.2.2.2 = []) (hlen : (lg_sl As).length ≤ M.2.2.1) (hls : lv_args 0 As = ls0) (body : Wx G M (xRm d mc ms) (xF G Q mc ms) 0 0 0 ls0 [] h) : MX G M d mc ms As h Q := by
  obtain ⟨y, cc, nL, ret, hh'⟩ := M
  have hh : hh' = [] := hh
  subst hh
  subst hls
  refine MetFree.of_bodyS (code := cc) (maxLocals := nL) (ret := ret) hy ?_ ?_
  · intro args s m h hn
    obtain ⟨meth, c, h1, h2, h3, h4, h5, h6, -, -⟩ := Cond.code_spec hn (atoms_spec (ws := [xCW (y, cc, nL, ret, [])]) h _ List.mem_cons_self)
    exact ⟨meth, c, h1, h2, h3, h4, h5, h6⟩
  · intro p e s m args below meth c s₁ B hml hP _
    obtain ⟨rfl, hR, hK⟩ := hP
    have hh0 : s₁.heap = s.heap := by rw [B.state]; rfl
    have ht : c.exceptionTable.toList = tableOf [] := by
      obtain ⟨meth9, c9, h1, h2, -, -, -, -, h7, -⟩ := Cond.code_spec B.named (atoms_spec (ws := [xCW (y, cc, nL, ret, [])]) B.pre _ List.mem_cons_self)
      cases Option.some.inj (h1.symm.trans B.method)
      cases Option.some.inj (h2.symm.trans (Stand.of_body B).code)
      rw [Array.isEmpty_iff.mp h7]
      rfl
    have hl := lv_entry (As.map (xv G)) (n := nL) (by rw [xsl_len]; exact hlen)
    rw [xargs] at hl
    have K := body p e s m (As.map (xv G)).toArray below meth c s.heap [] _ ⟨B.exec, B.bytes, hml, findClass_of_methodNamed B.named, B.returns, B.notSynchronized, (name_of_methodNamed B.named B.method).1, ht, hK⟩ hR (fun z h => by cases h) hl
    have K' : W p G.1 e (xRm d mc ms) s m (As.map (xv G)).toArray below meth c s.heap [] 0 0 (xF G Q mc ms below (As.map (xv G)).toArray s) (entryFrame m (As.map (xv G)).toArray nL) := by
      rw [lg_entry_eq]
      exact K
    obtain ⟨t, a1, o, b1, b2, b3⟩ := K' s₁ hh0 (Stand.of_body B)
    exact ⟨t, o, a1, b1, b2, b3⟩
theorem MX.ofH {G : xG} {M : xM} {d mc ms : Nat} {As : List Value} {h : xHp} {Q : Option Value ⊕ Nat → xHp → Prop} (ls0 : List (Nat × Value)) (hy : plainName M.1.cls = true) (hh : M.2.2.2.2 ≠ []) (hlen : (lg_sl As).length ≤ M.2.2.1) (hls : lv_args 0 As = ls0) (body : Wx G M (xRm d mc ms) (xF G Q mc ms) 0 0 0 ls0 [] h) : MX G M d mc ms As h Q := by
  obtain ⟨y, cc, nL, ret, hh'⟩ := M
  obtain ⟨x0, r0, rfl⟩ : ∃ x0 r0, hh' = x0 :: r0 := by
    cases hh' with
    | nil => exact absurd rfl hh
    | cons a b => exact ⟨a, b, rfl⟩
  subst hls
  refine MetFree.of_bodyS (code := cc) (maxLocals := nL) (ret := ret) hy ?_ ?_
  · intro args s m h hn
    obtain ⟨m9, meth, c, hn9, h1, h2, h3, h4, -, h5, h6, -⟩ := Cond.codeWith_spec (atoms_spec (ws := [xCW (y, cc, nL, ret, x0 :: r0)]) h _ List.mem_cons_self)
    cases hn.symm.trans hn9
    exact ⟨meth, c, h1, h2, h3, h4, h5, h6⟩
  · intro p e s m args below meth c s₁ B hml hP _
    obtain ⟨rfl, hR, hK⟩ := hP
    have hh0 : s₁.heap = s.heap := by rw [B.state]; rfl
    have ht : c.exceptionTable.toList = tableOf (x0 :: r0) := vx_table (x := y) B (atoms_spec (ws := [xCW (y, cc, nL, ret, x0 :: r0)]) B.pre _ List.mem_cons_self)
    have hl := lv_entry (As.map (xv G)) (n := nL) (by rw [xsl_len]; exact hlen)
    rw [xargs] at hl
    have K := body p e s m (As.map (xv G)).toArray below meth c s.heap [] _ ⟨B.exec, B.bytes, hml, findClass_of_methodNamed B.named, B.returns, B.notSynchronized, (name_of_methodNamed B.named B.method).1, ht, hK⟩ hR (fun z h => by cases h) hl
    have K' : W p G.1 e (xRm d mc ms) s m (As.map (xv G)).toArray below meth c s.heap [] 0 0 (xF G Q mc ms below (As.map (xv G)).toArray s) (entryFrame m (As.map (xv G)).toArray nL) := by
      rw [lg_entry_eq]
      exact K
    obtain ⟨t, a1, o, b1, b2, b3⟩ := K' s₁ hh0 (Stand.of_body B)
    exact ⟨t, o, a1, b1, b2, b3⟩
/-- less is asked -/
theorem MX.weaken {G : xG} {M : xM} {d mc ms : Nat} {As : List Value} {h : xHp} {Q Q' : Option Value ⊕ Nat → xHp → Prop} (hM : MX G M d mc ms As h Q) (hq : ∀ o h', Q o h' → Q' o h') : MX G M d mc ms As h Q' := by
  intro p e h1 h2 h3 s m args below h4 h5 h6 h7
  obtain ⟨n, o, a1, a2, a3, L, h', b1, b2, b3, b4, b5⟩ := hM p e h1 h2 h3 s m args below h4 h5 h6 h7
  refine ⟨n, o, a1, a2, a3, L, h', b1, b2, b3, b4, ?_⟩
  rcases b5 with ⟨v, c1, c2⟩ | ⟨q, ci, fs, c1, c2, c3⟩
  · exact Or.inl ⟨v, c1, hq _ _ c2⟩
  · exact Or.inr ⟨q, ci, fs, c1, c2, hq _ _ c3⟩
theorem xCW_spec {M : xM} {a : Array Value} {U : State} {mk : MethodId} (hn : U.methodNamed? M.1 = some mk) (h : (xCW M).before a U = true) : ∃ methY cY, U.vm.method? mk = some methY ∧ methY.code = some cY ∧ cY.maxLocals = M.2.2.1 := by
  obtain ⟨y, cc, nL, ret, hh'⟩ := M
  cases hh' with
  | nil =>
    obtain ⟨methY, cY, h1, h2, -, h4, -⟩ := Cond.code_spec hn h
    exact ⟨methY, cY, h1, h2, h4⟩
  | cons x r =>
    obtain ⟨m9, meth, c, hn9, h1, h2, h3, h4, -⟩ := Cond.codeWith_spec h
    cases hn.symm.trans hn9
    exact ⟨meth, c, h1, h2, h4⟩
def xPost (G : xG) (Q : Option Value ⊕ Nat → xHp → Prop) (mc ms : Nat) : Pt → Array Value → Option Value → Pt → Prop := fun A _ v B =>
  ∃ (L : List Loc) (h' : xHp) (v' : Option Value), v = v'.map (xv G) ∧ Q (.inl v') h' ∧ xR G h' B.U.heap ∧ B.locs = A.locs ++ L ∧ (∀ z ∈ L, xB G ≤ z.base) ∧ B.cells = A.cells + mc ∧ B.slots = A.slots + ms
def xPostX (G : xG) (Q : Option Value ⊕ Nat → xHp → Prop) (mc ms : Nat) : Pt → Array Value → Addr → Pt → Prop := fun A _ q B =>
  ∃ (L : List Loc) (h' : xHp) (q' ci : Nat) (fs : List Value), q = xa G q' ∧ h'.1 q' = some (.inr (ci, fs)) ∧ Q (.inr q') h' ∧ xR G h' B.U.heap ∧ B.locs = A.locs ++ L ∧ (∀ z ∈ L, xB G ≤ z.base) ∧ B.cells = A.cells + mc ∧ B.slots = A.slots + ms
def xPre (G : xG) (R : Room) (mc ms : Nat) (As : List Value) (h : xHp) : Pt → Array Value → Prop := fun A a => A.cells + mc ≤ R.cells ∧ A.slots + ms ≤ R.slots ∧ xP G As h a A.U
section XK
variable {R : Room} {p : Program} {e : Env} {below : List Frame} {s : State} {sargs : Array Value} {len W9 : Nat}
theorem x_back {G : xG} {M : xM} {d mc ms : Nat} {As : List Value} {h : xHp} {Q : Option Value ⊕ Nat → xHp → Prop} (hM : MX G M d mc ms As h Q) (hframes : d + 1 ≤ R.frames) (hlocals : W9 + (M.2.2.1 + 11) + 100 * d ≤ R.locals) (hcw : xCW M ∈ lw_tbl) (hck : xok (xCW M) = true) (hin9 : Cond.initialized M.1.cls ∈ lw_tbl) :
    vx_Back G.1 R p e below s sargs M.1 len W9 (xPre G R mc ms As h) (xPost G Q mc ms) (xPostX G Q mc ms) := by
  intro m meth c A g ig mk a X hg hsize hdg hW hn hp
  obtain ⟨h4, h5, hp1, hp2, hp3⟩ := hp
  have h2 : (xCW M).before a A.U = true := hp3.2.1.use hcw hck a
  have h1 : (headSpec [xCW M] (xRm d mc ms)).pre.before a A.U = true := atoms_intro fun w hw => by
    rw [List.mem_singleton.mp hw]; exact h2
  have h3 : (Cond.initialized M.1.cls).before a A.U = true := hp3.2.1.use hin9 rfl a
  have hPc : xP G As h a (A.U.calling g mk a) := ⟨hp1, hp2, xK.moved (s := A.U) (State.WarmedH.refl A.U) hp3⟩
  obtain ⟨U, Ls, c0, s0⟩ := A
  dsimp only [Pt.U, Pt.locs, Pt.cells, Pt.slots] at h1 h2 h3 h4 h5 X hn hPc ⊢
  obtain ⟨methY, cY, hmY, hcY, hlY⟩ := xCW_spec hn h2
  obtain ⟨kY, hkY, -⟩ := className_of_methodNamed hn
  have hinitY : kY.init = .initialized := Cond.initialized_spec (findClass_of_methodNamed hn) hkY h3
  have hA : At U g.method c below := by rw [hg]; exact X.here
  have happ : (headSpec [xCW M] (xRm d mc ms)).appliesLoose M.1 e.platform (U.calling g mk a) = true :=
    Spec.appliesLoose_calling (g := g) hA hdg hn hkY hinitY
      (X.room_calling (g := g) (R' := (headSpec [xCW M] (xRm d mc ms)).room) hsize hmY hcY hframes (by rw [hlY]; show _ + (M.2.2.1 + 11) + 100 * d ≤ R.locals; omega) h4 h5) h1
  obtain ⟨mid, hmid⟩ := hA.above
  have hfr : (U.setTop g).frames = (.java g :: mid) ++ below := by rw [State.frames_setTop' g hA.top, hmid]; rfl
  obtain ⟨o, s₂, hsteps, -, hend, hq⟩ := Steps.callFree hM p X.admits X.cas X.clock (acts := []) hfr happ hPc trivial
  have hq' : xQ G Q mc ms (U.calling g mk a) o s₂ := hq
  rw [State.frames_setTop' g hA.top] at hend
  obtain ⟨g₀, hg0⟩ := Option.isSome_iff_exists.mp hA.top
  obtain ⟨r, hr⟩ := State.topJava?_eq_some.mp hg0
  have hr' : (({ U with heap := s₂.heap, slotsUsed := s₂.slotsUsed } : State).setVm s₂.vm).frames = .java g₀ :: r := hr
  obtain ⟨L, h', hW₂, hsm, hL, hR', hcase⟩ := hq'
  obtain ⟨e2, q2, q3, q4, q5, q6⟩ := id hsm
  have e3 : s₂ = ({ (U.calling g mk a).setFrames s₂.frames with heap := s₂.heap, slotsUsed := s₂.slotsUsed } : State).setVm s₂.vm := by
    have : s₂ = ({ s₂ with vm := (U.calling g mk a).vm } : State).setVm s₂.vm := rfl
    rw [e2] at this
    exact this
  have hW' : U.WarmedH s₂.vm := hW₂
  have hsame : U.sameButNew ({ U with heap := s₂.heap, slotsUsed := s₂.slotsUsed } : State) L mc ms := by
    refine ⟨?_, q2, q3, q4, q5, q6⟩
    obtain ⟨t, ht, -⟩ := State.frames_cons hr
    show ({ U with heap := s₂.heap, slotsUsed := s₂.slotsUsed } : State) = { U.setFrames U.frames with heap := s₂.heap, slotsUsed := s₂.slotsUsed }
    rw [State.setFrames_self ht]
  rcases hcase with ⟨v, rfl, hqv⟩ | ⟨q, ci, fs, rfl, hqc, hqv⟩
  · obtain ⟨c₂, i₂, len₂, hc₂, hd₂, hf₂⟩ := hend
    have hcc : c₂ = c := by
      have h1 : s₂.code? g.method = U.code? g.method := by
        rw [State.code?_eq, State.code?_eq, hW'.alike.method?]
      exact Option.some.inj (hc₂.symm.trans (h1.trans hA.code))
    subst hcc
    have hlen : len₂ = len := by rw [hdg] at hd₂; cases hd₂; rfl
    subst hlen
    have hs₂ : s₂ = (({ U with heap := s₂.heap, slotsUsed := s₂.slotsUsed } : State).setVm s₂.vm).setTop { g with pc := g.pc + len₂, stack := (v.map (xv G)).toList ++ g.stack } := by
      refine e3.trans ?_
      rw [hf₂, State.calling_eq hA.top, State.setFrames_setFrames, State.setTop_of_frames _ hr', hr]
      rfl
    subst hg
    refine Or.inl ⟨v.map (xv G), ⟨(({ U with heap := s₂.heap, slotsUsed := s₂.slotsUsed } : State).setVm s₂.vm), Ls ++ L, c0 + mc, s0 + ms⟩,
      ⟨X.admits, X.cas, X.clock, X.frames, X.room, X.hears, X.method, X.code, (X.here.setHeapUsed s₂.heap s₂.slotsUsed).setVm hW'.alike, X.tail, State.WarmedH.trans X.warmed hW', X.limits, X.bytes, X.same.trans (hsame.setVm s.vm)⟩,
      ⟨L, h', v, rfl, hqv, hR', rfl, hL, rfl, rfl⟩, ?_⟩
    show Steps p.tables e below _ ((({ U with heap := s₂.heap, slotsUsed := s₂.slotsUsed } : State).setVm s₂.vm).setTop { g with pc := g.pc + len₂, stack := (v.map (xv G)).toList ++ g.stack })
    rw [← hs₂]
    exact hsteps
  · have hf₂ : s₂.frames = .throwing (xa G q) :: .java g :: U.frames.tail := hend
    have hs₂ : s₂ = ((({ U with heap := s₂.heap, slotsUsed := s₂.slotsUsed } : State).setVm s₂.vm).setTop g).pushFrame (.throwing (xa G q)) := by
      refine e3.trans ?_
      rw [hf₂, State.calling_eq hA.top, State.setFrames_setFrames, State.pushFrame, State.frames_setTop _ hr', State.setTop_of_frames _ hr', State.setFrames_setFrames, hr]
      rfl
    subst hg
    refine Or.inr ⟨xa G q, ⟨(({ U with heap := s₂.heap, slotsUsed := s₂.slotsUsed } : State).setVm s₂.vm), Ls ++ L, c0 + mc, s0 + ms⟩,
      ⟨X.admits, X.cas, X.clock, X.frames, X.room, X.hears, X.method, X.code, (X.here.setHeapUsed s₂.heap s₂.slotsUsed).setVm hW'.alike, X.tail, State.WarmedH.trans X.warmed hW', X.limits, X.bytes, X.same.trans (hsame.setVm s.vm)⟩,
      ⟨L, h', q, ci, fs, rfl, hqc, hqv, hR', rfl, hL, rfl, rfl⟩, ?_⟩
    show Steps p.tables e below _ (((({ U with heap := s₂.heap, slotsUsed := s₂.slotsUsed } : State).setVm s₂.vm).setTop g).pushFrame (.throwing (xa G q)))
    rw [← hs₂]
    exact hsteps
theorem x_back0 {G : xG} {y : MethodName} {Pre : Pt → Array Value → Prop} {mc ms : Nat} {Q : Option Value ⊕ Nat → xHp → Prop} (hB : vx_Back G.1 R p e below s sargs y len W9 Pre (xPost G Q mc ms) (xPostX G Q mc ms)) (hno : ∀ q h', ¬ Q (.inr q) h') : Back G.1 R p e below s sargs y len W9 Pre (xPost G Q mc ms) := by
  intro m meth c A g ig mk a h1 h2 h3 h4 h5 h6 h7
  rcases hB m meth c A g ig mk a h1 h2 h3 h4 h5 h6 h7 with hx | ⟨q, B, -, ⟨L, h', q', ci, fs, -, -, hq, -⟩, -⟩
  · exact hx
  · exact absurd hq (hno q' h')
end XK
/-- the machine with the thing q thrown over the frame at pc -/
def WxT (G : xG) (M : xM) (R : Room) (F : List Frame → Array Value → State → State → Prop) (uc us pc : Nat) (ls : List (Nat × Value)) (st : List Value) (h : xHp) (q : Nat) : Prop :=
  ∀ (p : Program) (e : Env) (s : State) (m : MethodId) (args : Array Value) (below : List Frame) (meth : Method) (c : Code) (H : Heap) (locs : List Loc) (lsA : Array Slot), xC G M p s m meth c → xR G h H → (∀ z ∈ locs, xB G ≤ z.base) → lv_has lsA M.2.2.1 (xL G ls) →
    vx_W p G.1 e R s m args below meth c H locs uc us (F below args s) (F0 m pc lsA (st.map (xv G))) (xa G q)
/-- which method the entry i of own's pool names, for a receiver of class ci -/
def xLV (own : String) (i ci n : Nat) (Mc : xM) : Prop := ∃ r : vw_C, xCl[ci]? = some r ∧ Mc.2.2.2.2 = [] ∧ Cond.methodLink own i Mc.1 ∈ lw_tbl ∧ Cond.instanceMethod Mc.1 ∈ lw_tbl ∧ Cond.selects r.1 Mc.1 Mc.1 ∈ lw_tbl ∧ xCW Mc ∈ lw_tbl ∧ Cond.initialized Mc.1.cls ∈ lw_tbl ∧ (Mc.1.cls ≠ "java/lang/invoke/MethodHandle" ∧ Mc.1.cls ≠ "java/lang/invoke/VarHandle") ∧ (parseMethodDescriptor Mc.1.desc).map (fun d => d.parameters.length) = some n
def xLS (own : String) (i n : Nat) (Mc : xM) : Prop := Mc.2.2.2.2 = [] ∧ Cond.methodLink own i Mc.1 ∈ lw_tbl ∧ Cond.static Mc.1 ∈ lw_tbl ∧ xCW Mc ∈ lw_tbl ∧ Cond.initialized Mc.1.cls ∈ lw_tbl ∧ (Mc.1.cls ≠ "java/lang/invoke/MethodHandle" ∧ Mc.1.cls ≠ "java/lang/invoke/VarHandle") ∧ (parseMethodDescriptor Mc.1.desc).map (fun d => d.parameters.length) = some n
def xLI (own : String) (i n : Nat) (Mc : xM) : Prop := Mc.2.2.2.2 = [] ∧ Mc.2.2.2.1 = none ∧ Mc.1.name = "<init>" ∧ (Cond.methodLink own i Mc.1 ∈ lw_tbl ∨ ∃ host, Cond.methodLinkNest own i Mc.1 host ∈ lw_tbl) ∧ Cond.instanceMethod Mc.1 ∈ lw_tbl ∧ xCW Mc ∈ lw_tbl ∧ Cond.initialized Mc.1.cls ∈ lw_tbl ∧ (Mc.1.cls ≠ "java/lang/invoke/MethodHandle" ∧ Mc.1.cls ≠ "java/lang/invoke/VarHandle") ∧ (parseMethodDescriptor Mc.1.desc).map (fun d => d.parameters.length) = some n
theorem xCW_code {M : xM} (h : M.2.2.2.2 = []) : xCW M = .code M.1 M.2.1 M.2.2.1 M.2.2.2.1 := by
  unfold xCW; rw [h]
theorem xcode_ok {M : xM} (h : M.2.2.2.2 = []) : xok (xCW M) = true := by
  rw [xCW_code h]; rfl
theorem xret_map (G : xG) (v : Option Value) (st : List Value) : (v.toList ++ st).map (xv G) = (v.map (xv G)).toList ++ st.map (xv G) := by cases v <;> rfl
section XL
variable {G : xG} {M Mc : xM} {R : Room} {F : List Frame → Array Value → State → State → Prop} {uc us pc : Nat} {ls : List (Nat × Value)} {st stk : List Value} {h : xHp} {d mc ms n i : Nat} {As : List Value} {Q : Option Value ⊕ Nat → xHp → Prop}
theorem x_callV {ci a : Nat} {fs : List Value} (hw : xLV M.1.cls i ci n Mc) (hM : MX G Mc d mc ms (.ref a :: As) h Q) (hd : decode M.2.1 pc = .ok (.invokevirtual i, 3)) (hc : h.1 a = some (.inr (ci, fs))) (hn : As.length = n) (hstk : stk = As.reverse ++ .ref a :: st) (hst : (st.map fun v => v.category).sum ≤ 8) (hroom : d + 1 ≤ R.frames ∧ 8 + (Mc.2.2.1 + 11) + 100 * d ≤ R.locals) (hcs : uc + mc ≤ R.cells ∧ us + ms ≤ R.slots)
    (k : ∀ v h', Q (.inl v) h' → Wx G M R F (uc + mc) (us + ms) (pc + 3) ls (v.toList ++ st) h') (kx : ∀ q ci fs h', h'.1 q = some (.inr (ci, fs)) → Q (.inr q) h' → WxT G M R F (uc + mc) (us + ms) pc ls st h' q) : Wx G M R F uc us pc ls stk h := by
  intro p e s m args below meth c H locs lsA hC hR hL hl
  subst hstk
  obtain ⟨hx, hb, hml, hown, hr, hlo, hnme, htab, hK⟩ := id hC
  have hT := hK.2.1
  obtain ⟨r, hcl, hh, w1, w2, w3, w4, w5, w6, w7⟩ := hw
  obtain ⟨r', hr', cell, q1, q2, q3, -⟩ := (hR.2.2.2 a _ hc).2.2
  have hcls := (hK.1.1 ci r hcl).2.1
  have hcode : (Cond.code Mc.1 Mc.2.1 Mc.2.2.1 Mc.2.2.2.1).before args s = true := by
    have h9 := hT.use w4 (xcode_ok hh) args
    rw [xCW_code hh] at h9
    exact h9
  have hlenP : ∀ sig, parseMethodDescriptor Mc.1.desc = some sig → (As.map (xv G)).length = sig.parameters.length := by
    intro sig hs
    rw [hs] at w7
    rw [List.length_map, hn]
    exact (Option.some.inj w7).symm
  intro T hT9 X
  rcases vx_callV X hx (C := r.1) (bytes := Mc.2.1) (maxL := Mc.2.2.1) (ret := Mc.2.2.2.1) hown (hT.use w1 rfl args) (hT.use w2 rfl args) (hT.use w3 rfl args) hcode w6
    (x_back (W9 := 8) hM hroom.1 hroom.2 w4 (xcode_ok hh) w5) (b := xa G a) (cellB := cell) (by rw [hT9]; exact q1) (by rw [q3]; rfl) (by rw [q2]; exact hcls) (g := F0 m pc lsA ((As.reverse ++ .ref a :: st).map (xv G))) rfl (hl.1.trans hml.symm) (argsL := As.map (xv G)) (rest := st.map (xv G)) hlenP
    (by show (As.reverse ++ .ref a :: st).map (xv G) = _; rw [List.map_append, List.map_reverse]; rfl) (by show 2 * 0 + _ ≤ 8; rw [xcat_sum]; omega) (by rw [hb]; exact hd)
    (fun vm₁ hW₁ => ⟨hcs.1, hcs.2, rfl, by show xR G h (T.setVm vm₁).heap; rw [show (T.setVm vm₁).heap = H from hT9]; exact hR, xK.moved (U := T.setVm vm₁) hW₁ hK⟩) with
    ⟨v, vm₁, ⟨U', l2, c2, s2⟩, hW₁, X', ⟨L, h', v', rfl, hq, hR', e1, hL', e2, e3⟩, stp⟩ | ⟨q, vm₁, ⟨U', l2, c2, s2⟩, hW₁, X', ⟨L, h', q', ci', fs', rfl, hqc, hq, hR', e1, hL', e2, e3⟩, stp⟩
  · dsimp only [Pt.U, Pt.locs, Pt.cells, Pt.slots] at X' e1 e2 e3 stp hR'
    subst e1; subst e2; subst e3
    obtain ⟨t, a1, b1⟩ := k v' h' hq p e s m args below meth c U'.heap (locs ++ L) lsA hC hR' (fun z hz => (List.mem_append.mp hz).elim (hL z) (hL' z)) hl U' rfl X'
    refine ⟨t, stp t ?_, b1⟩
    rw [xret_map] at a1
    exact a1
  · dsimp only [Pt.U, Pt.locs, Pt.cells, Pt.slots] at X' e1 e2 e3 stp hR'
    subst e1; subst e2; subst e3
    obtain ⟨t, a1, b1⟩ := kx q' ci' fs' h' hqc hq p e s m args below meth c U'.heap (locs ++ L) lsA hC hR' (fun z hz => (List.mem_append.mp hz).elim (hL z) (hL' z)) hl U' rfl X'
    exact ⟨t, stp.trans a1, b1⟩
theorem x_callS (hw : xLS M.1.cls i n Mc) (hM : MX G Mc d mc ms As h Q) (hd : decode M.2.1 pc = .ok (.invokestatic i, 3)) (hn : As.length = n) (hstk : stk = As.reverse ++ st) (hst : (st.map fun v => v.category).sum ≤ 8) (hroom : d + 1 ≤ R.frames ∧ 8 + (Mc.2.2.1 + 11) + 100 * d ≤ R.locals) (hcs : uc + mc ≤ R.cells ∧ us + ms ≤ R.slots)
    (k : ∀ v h', Q (.inl v) h' → Wx G M R F (uc + mc) (us + ms) (pc + 3) ls (v.toList ++ st) h') (kx : ∀ q ci fs h', h'.1 q = some (.inr (ci, fs)) → Q (.inr q) h' → WxT G M R F (uc + mc) (us + ms) pc ls st h' q) : Wx G M R F uc us pc ls stk h := by
  intro p e s m args below meth c H locs lsA hC hR hL hl
  subst hstk
  obtain ⟨hx, hb, hml, hown, hr, hlo, hnme, htab, hK⟩ := id hC
  have hT := hK.2.1
  obtain ⟨hh, w1, w2, w4, w5, w6, w7⟩ := hw
  have hcode : (Cond.code Mc.1 Mc.2.1 Mc.2.2.1 Mc.2.2.2.1).before args s = true := by
    have h9 := hT.use w4 (xcode_ok hh) args
    rw [xCW_code hh] at h9
    exact h9
  have hlenP : ∀ sig, parseMethodDescriptor Mc.1.desc = some sig → (As.map (xv G)).length = sig.parameters.length := by
    intro sig hs
    rw [hs] at w7
    rw [List.length_map, hn]
    exact (Option.some.inj w7).symm
  intro T hT9 X
  rcases vx_callS X hx (bytes := Mc.2.1) (maxL := Mc.2.2.1) (ret := Mc.2.2.2.1) hown (hT.use w1 rfl args) (hT.use w2 rfl args) (hT.use w5 rfl args) hcode w6
    (x_back (W9 := 8) hM hroom.1 hroom.2 w4 (xcode_ok hh) w5) (g := F0 m pc lsA ((As.reverse ++ st).map (xv G))) rfl (hl.1.trans hml.symm) (argsL := As.map (xv G)) (rest := st.map (xv G)) hlenP
    (by show (As.reverse ++ st).map (xv G) = _; rw [List.map_append, List.map_reverse]) (by show 2 * 0 + _ ≤ 8; rw [xcat_sum]; omega) (by rw [hb]; exact hd)
    (fun vm₁ hW₁ => ⟨hcs.1, hcs.2, rfl, by show xR G h (T.setVm vm₁).heap; rw [show (T.setVm vm₁).heap = H from hT9]; exact hR, xK.moved (U := T.setVm vm₁) hW₁ hK⟩) with
    ⟨v, vm₁, ⟨U', l2, c2, s2⟩, hW₁, X', ⟨L, h', v', rfl, hq, hR', e1, hL', e2, e3⟩, stp⟩ | ⟨q, vm₁, ⟨U', l2, c2, s2⟩, hW₁, X', ⟨L, h', q', ci', fs', rfl, hqc, hq, hR', e1, hL', e2, e3⟩, stp⟩
  · dsimp only [Pt.U, Pt.locs, Pt.cells, Pt.slots] at X' e1 e2 e3 stp hR'
    subst e1; subst e2; subst e3
    obtain ⟨t, a1, b1⟩ := k v' h' hq p e s m args below meth c U'.heap (locs ++ L) lsA hC hR' (fun z hz => (List.mem_append.mp hz).elim (hL z) (hL' z)) hl U' rfl X'
    refine ⟨t, stp t ?_, b1⟩
    rw [xret_map] at a1
    exact a1
  · dsimp only [Pt.U, Pt.locs, Pt.cells, Pt.slots] at X' e1 e2 e3 stp hR'
    subst e1; subst e2; subst e3
    obtain ⟨t, a1, b1⟩ := kx q' ci' fs' h' hqc hq p e s m args below meth c U'.heap (locs ++ L) lsA hC hR' (fun z hz => (List.mem_append.mp hz).elim (hL z) (hL' z)) hl U' rfl X'
    exact ⟨t, stp.trans a1, b1⟩
theorem x_callI {a : Nat} (hw : xLI M.1.cls i n Mc) (hM : MX G Mc d mc ms (.ref a :: As) h Q) (hno : ∀ q h', ¬ Q (.inr q) h') (hd : decode M.2.1 pc = .ok (.invokespecial i, 3)) (hn : As.length = n) (hstk : stk = As.reverse ++ .ref a :: st) (hst : (st.map fun v => v.category).sum ≤ 8) (hroom : d + 1 ≤ R.frames ∧ 8 + (Mc.2.2.1 + 11) + 100 * d ≤ R.locals) (hcs : uc + mc ≤ R.cells ∧ us + ms ≤ R.slots)
    (k : ∀ v h', Q (.inl v) h' → Wx G M R F (uc + mc) (us + ms) (pc + 3) ls (v.toList ++ st) h') : Wx G M R F uc us pc ls stk h := by
  intro p e s m args below meth c H locs lsA hC hR hL hl
  subst hstk
  obtain ⟨hx, hb, hml, hown, hr, hlo, hnme, htab, hK⟩ := id hC
  have hT := hK.2.1
  obtain ⟨hh, hrn, hin1, w1, w2, w4, w5, w6, w7⟩ := hw
  have hcode : (Cond.code Mc.1 Mc.2.1 Mc.2.2.1 none).before args s = true := by
    have h9 := hT.use w4 (xcode_ok hh) args
    rw [xCW_code hh, hrn] at h9
    exact h9
  have hlenP : ∀ sig, parseMethodDescriptor Mc.1.desc = some sig → (As.map (xv G)).length = sig.parameters.length := by
    intro sig hs
    rw [hs] at w7
    rw [List.length_map, hn]
    exact (Option.some.inj w7).symm
  intro T hT9 X
  have hres : ∃ (v : Option Value) (vm₁ : Vm) (B : Pt), s.WarmedH vm₁ ∧ Stand p G.1 e R s m args below meth c B.U B.locs B.cells B.slots ∧ xPost G Q mc ms ⟨T.setVm vm₁, locs, uc, us⟩ (Value.ref (xa G a) :: As.map (xv G)).toArray v B ∧
      ∀ target, Steps p.tables e below (B.U.setTop { F0 m pc lsA ((As.reverse ++ .ref a :: st).map (xv G)) with pc := pc + 3, stack := v.toList ++ st.map (xv G) }) target → Steps p.tables e below (T.setTop (F0 m pc lsA ((As.reverse ++ .ref a :: st).map (xv G)))) target := by
    have hbk := x_back0 (x_back (R := R) (p := p) (e := e) (below := below) (s := s) (sargs := args) (len := 3) (W9 := 8) hM hroom.1 hroom.2 w4 (xcode_ok hh) w5) hno
    have hpre : ∀ vm₁, s.WarmedH vm₁ → xPre G R mc ms (.ref a :: As) h ⟨T.setVm vm₁, locs, uc, us⟩ (Value.ref (xa G a) :: As.map (xv G)).toArray := fun vm₁ hW₁ => ⟨hcs.1, hcs.2, rfl, by show xR G h (T.setVm vm₁).heap; rw [show (T.setVm vm₁).heap = H from hT9]; exact hR, xK.moved (U := T.setVm vm₁) hW₁ hK⟩
    rcases w1 with w1 | ⟨host, w1⟩
    · exact callI X hx (bytes := Mc.2.1) (maxL := Mc.2.2.1) hown hin1 (hT.use w1 rfl args) (hT.use w2 rfl args) hcode w6 hbk (g := F0 m pc lsA ((As.reverse ++ .ref a :: st).map (xv G))) rfl (hl.1.trans hml.symm) (a := xa G a) (argsL := As.map (xv G)) (rest := st.map (xv G)) hlenP
        (by show (As.reverse ++ .ref a :: st).map (xv G) = _; rw [List.map_append, List.map_reverse]; rfl) (by show 2 * 0 + _ ≤ 8; rw [xcat_sum]; omega) (by rw [hb]; exact hd) hpre
    · exact va_callIN X hx (bytes := Mc.2.1) (maxL := Mc.2.2.1) hown hin1 (hT.use w1 rfl args) (hT.use w2 rfl args) hcode w6 hbk (g := F0 m pc lsA ((As.reverse ++ .ref a :: st).map (xv G))) rfl (hl.1.trans hml.symm) (a := xa G a) (argsL := As.map (xv G)) (rest := st.map (xv G)) hlenP
        (by show (As.reverse ++ .ref a :: st).map (xv G) = _; rw [List.map_append, List.map_reverse]; rfl) (by show 2 * 0 + _ ≤ 8; rw [xcat_sum]; omega) (by rw [hb]; exact hd) hpre
  obtain ⟨v, vm₁, ⟨U', l2, c2, s2⟩, hW₁, X', ⟨L, h', v', rfl, hq, hR', e1, hL', e2, e3⟩, stp⟩ := hres
  dsimp only [Pt.U, Pt.locs, Pt.cells, Pt.slots] at X' e1 e2 e3 stp hR'
  subst e1; subst e2; subst e3
  obtain ⟨t, a1, b1⟩ := k v' h' hq p e s m args below meth c U'.heap (locs ++ L) lsA hC hR' (fun z hz => (List.mem_append.mp hz).elim (hL z) (hL' z)) hl U' rfl X'
  refine ⟨t, stp t ?_, b1⟩
  rw [xret_map] at a1
  exact a1
end XL
section XR
variable {G : xG} {M : xM} {R : Room} {uc us pc mc ms : Nat} {ls : List (Nat × Value)} {st : List Value} {h : xHp} {Q : Option Value ⊕ Nat → xHp → Prop}
theorem x_MQ {below : List Frame} {args : Array Value} {s t : State} (v : Option Value) (ht : MQ below (fun _ _ o t => o = .returned (v.map (xv G)) ∧ xR G h t.heap) args s mc ms (fun q => xB G ≤ q) t) (hq : Q (.inl v) h) : xF G Q mc ms below args s t := by
  obtain ⟨o, b1, b2, ⟨rfl, hR⟩, L, ⟨-, hW, hsm⟩, hL⟩ := ht
  exact ⟨_, b1, b2, L, h, hW, hsm, hL, hR, Or.inl ⟨v, rfl, hq⟩⟩
theorem x_iret {v : Int32} {ty : FieldType} (hd : decode M.2.1 pc = .ok (.ireturn, 1)) (hr9 : M.2.2.2.1 = some ty) (hn : narrow ty (.int v) = .int v) (hc : uc ≤ mc) (hs : us ≤ ms) (hq : Q (.inl (some (.int v))) h) : Wx G M R (xF G Q mc ms) uc us pc ls [.int v] h := by
  intro p e s m args below meth c H locs lsA hC hR hL hl
  obtain ⟨hx, hb, hml, hown, hr, hlo, hnme, htab, hK⟩ := id hC
  intro T hT X
  obtain ⟨t, a1, b1⟩ := W.widen hc hs (W.zret (Qc := fun _ _ o t => o = .returned (Option.map (xv G) (some (.int v))) ∧ xR G h t.heap) (free := fun q => xB G ≤ q) (ty := ty) hx hb (hr.trans hr9) hn (fun t ht _ => ⟨rfl, by rw [ht]; exact hR⟩) hL (ls := lsA) hd hlo) T hT X
  exact ⟨t, a1, x_MQ (some (.int v)) b1 hq⟩
theorem x_vret (hd : decode M.2.1 pc = .ok (.return_, 1)) (hr9 : M.2.2.2.1 = none) (hc : uc ≤ mc) (hs : us ≤ ms) (hq : Q (.inl none) h) : Wx G M R (xF G Q mc ms) uc us pc ls [] h := by
  intro p e s m args below meth c H locs lsA hC hR hL hl
  obtain ⟨hx, hb, hml, hown, hr, hlo, hnme, htab, hK⟩ := id hC
  intro T hT X
  obtain ⟨t, a1, b1⟩ := W.widen hc hs (W.vret (Qc := fun _ _ o t => o = .returned (Option.map (xv G) none) ∧ xR G h t.heap) (free := fun q => xB G ≤ q) hx hb (hr.trans hr9) (fun t ht _ => ⟨rfl, by rw [ht]; exact hR⟩) hL (ls := lsA) hd hlo) T hT X
  exact ⟨t, a1, x_MQ none b1 hq⟩
theorem x_aret {a : Nat} {C : String} (hd : decode M.2.1 pc = .ok (.areturn, 1)) (hr9 : M.2.2.2.1 = some (.object C)) (hc : uc ≤ mc) (hs : us ≤ ms) (hq : Q (.inl (some (.ref a))) h) : Wx G M R (xF G Q mc ms) uc us pc ls [.ref a] h := by
  intro p e s m args below meth c H locs lsA hC hR hL hl
  obtain ⟨hx, hb, hml, hown, hr, hlo, hnme, htab, hK⟩ := id hC
  intro T hT X
  obtain ⟨t, a1, b1⟩ := W.widen hc hs (W.aret (Qc := fun _ _ o t => o = .returned (Option.map (xv G) (some (.ref a))) ∧ xR G h t.heap) (free := fun q => xB G ≤ q) (v := .ref (xa G a)) hx hb (hr.trans hr9) (Or.inl ⟨C, rfl⟩) (Or.inr ⟨_, rfl⟩) (fun t ht _ => ⟨rfl, by rw [ht]; exact hR⟩) hL (ls := lsA) hd hlo) T hT X
  exact ⟨t, a1, x_MQ (some (.ref a)) b1 hq⟩
/-- not caught here -/
theorem x_out {q ci : Nat} {fs : List Value} (hout : ∀ x ∈ tableOf M.2.2.2.2, covers x pc = false) (hqc : h.1 q = some (.inr (ci, fs))) (hc : uc ≤ mc) (hs : us ≤ ms) (hq : Q (.inr q) h) : WxT G M R (xF G Q mc ms) uc us pc ls st h q := by
  intro p e s m args below meth c H locs lsA hC hR hL hl
  obtain ⟨hx, hb, hml, hown, hr, hlo, hnme, htab, hK⟩ := id hC
  intro T hT X
  obtain ⟨st1, hrun, hend, hW, hsm⟩ := X.leaveThrown (xa G q) (g := F0 m pc lsA (st.map (xv G))) rfl rfl rfl (by rw [htab]; exact hout) hlo
  exact ⟨_, st1, .threw (xa G q), hrun, hend, locs, h, hW, hsm.mono hc hs, hL, by show xR G h T.heap; rw [hT]; exact hR, Or.inr ⟨q, ci, fs, rfl, hqc, hq⟩⟩
theorem x_athrow {F : List Frame → Array Value → State → State → Prop} {q : Nat} (hd : decode M.2.1 pc = .ok (.athrow, 1)) (k : WxT G M R F uc us pc ls st h q) : Wx G M R F uc us pc ls (.ref q :: st) h := by
  intro p e s m args below meth c H locs lsA hC hR hL hl
  have k := k p e s m args below meth c H locs lsA hC hR hL hl
  obtain ⟨hx, hb, hml, hown, hr, hlo, hnme, htab, hK⟩ := id hC
  intro T hT X
  obtain ⟨t, a1, b1⟩ := k T hT X
  refine ⟨t, ?_, b1⟩
  have hdg : decode c.code (F0 m pc lsA ((.ref q :: st).map (xv G))).pc = .ok (.athrow, 1) := by rw [hb]; exact hd
  have hstack : (F0 m pc lsA ((.ref q :: st).map (xv G))).stack = .ref (xa G q) :: st.map (xv G) := rfl
  jvm_step X.here [hx, hdg, athrow.wp_sem, hstack]
  exact a1
end XR
end
